theorem dX0_init_0 : decode cX0_init 0 = .ok (.aload_n 0, 1) := by decide +kernel
theorem dX0_init_1 : decode cX0_init 1 = .ok (.invokespecial 3, 3) := by decide +kernel
theorem dX0_init_4 : decode cX0_init 4 = .ok (.aload_n 0, 1) := by decide +kernel
theorem dX0_init_5 : decode cX0_init 5 = .ok (.bipush 30, 2) := by decide +kernel
theorem dX0_init_7 : decode cX0_init 7 = .ok (.newarray .int, 2) := by decide +kernel
theorem dX0_init_9 : decode cX0_init 9 = .ok (.putfield 9, 3) := by decide +kernel
theorem dX0_init_12 : decode cX0_init 12 = .ok (.aload_n 0, 1) := by decide +kernel
theorem dX0_init_13 : decode cX0_init 13 = .ok (.bipush 30, 2) := by decide +kernel
theorem dX0_init_15 : decode cX0_init 15 = .ok (.newarray .int, 2) := by decide +kernel
theorem dX0_init_17 : decode cX0_init 17 = .ok (.putfield 15, 3) := by decide +kernel
theorem dX0_init_20 : decode cX0_init 20 = .ok (.aload_n 0, 1) := by decide +kernel
theorem dX0_init_21 : decode cX0_init 21 = .ok (.bipush 30, 2) := by decide +kernel
theorem dX0_init_23 : decode cX0_init 23 = .ok (.newarray .int, 2) := by decide +kernel
theorem dX0_init_25 : decode cX0_init 25 = .ok (.putfield 18, 3) := by decide +kernel
theorem dX0_init_28 : decode cX0_init 28 = .ok (.return_, 1) := by decide +kernel
theorem dX0_clear_0 : decode cX0_clear 0 = .ok (.aload_n 0, 1) := by decide +kernel
theorem dX0_clear_1 : decode cX0_clear 1 = .ok (.iconst 0, 1) := by decide +kernel
theorem dX0_clear_2 : decode cX0_clear 2 = .ok (.putfield 21, 3) := by decide +kernel
theorem dX0_clear_5 : decode cX0_clear 5 = .ok (.aload_n 0, 1) := by decide +kernel
theorem dX0_clear_6 : decode cX0_clear 6 = .ok (.iconst 0, 1) := by decide +kernel
theorem dX0_clear_7 : decode cX0_clear 7 = .ok (.putfield 25, 3) := by decide +kernel
theorem dX0_clear_10 : decode cX0_clear 10 = .ok (.return_, 1) := by decide +kernel
theorem dX0_copyOf_0 : decode cX0_copyOf 0 = .ok (.aload_n 1, 1) := by decide +kernel
theorem dX0_copyOf_1 : decode cX0_copyOf 1 = .ok (.getfield 9, 3) := by decide +kernel
theorem dX0_copyOf_4 : decode cX0_copyOf 4 = .ok (.iconst 0, 1) := by decide +kernel
theorem dX0_copyOf_5 : decode cX0_copyOf 5 = .ok (.aload_n 0, 1) := by decide +kernel
theorem dX0_copyOf_6 : decode cX0_copyOf 6 = .ok (.getfield 9, 3) := by decide +kernel
theorem dX0_copyOf_9 : decode cX0_copyOf 9 = .ok (.iconst 0, 1) := by decide +kernel
theorem dX0_copyOf_10 : decode cX0_copyOf 10 = .ok (.bipush 30, 2) := by decide +kernel
theorem dX0_copyOf_12 : decode cX0_copyOf 12 = .ok (.invokestatic 28, 3) := by decide +kernel
theorem dX0_copyOf_15 : decode cX0_copyOf 15 = .ok (.aload_n 1, 1) := by decide +kernel
theorem dX0_copyOf_16 : decode cX0_copyOf 16 = .ok (.getfield 15, 3) := by decide +kernel
theorem dX0_copyOf_19 : decode cX0_copyOf 19 = .ok (.iconst 0, 1) := by decide +kernel
theorem dX0_copyOf_20 : decode cX0_copyOf 20 = .ok (.aload_n 0, 1) := by decide +kernel
theorem dX0_copyOf_21 : decode cX0_copyOf 21 = .ok (.getfield 15, 3) := by decide +kernel
theorem dX0_copyOf_24 : decode cX0_copyOf 24 = .ok (.iconst 0, 1) := by decide +kernel
theorem dX0_copyOf_25 : decode cX0_copyOf 25 = .ok (.bipush 30, 2) := by decide +kernel
theorem dX0_copyOf_27 : decode cX0_copyOf 27 = .ok (.invokestatic 28, 3) := by decide +kernel
theorem dX0_copyOf_30 : decode cX0_copyOf 30 = .ok (.aload_n 1, 1) := by decide +kernel
theorem dX0_copyOf_31 : decode cX0_copyOf 31 = .ok (.getfield 18, 3) := by decide +kernel
theorem dX0_copyOf_34 : decode cX0_copyOf 34 = .ok (.iconst 0, 1) := by decide +kernel
theorem dX0_copyOf_35 : decode cX0_copyOf 35 = .ok (.aload_n 0, 1) := by decide +kernel
theorem dX0_copyOf_36 : decode cX0_copyOf 36 = .ok (.getfield 18, 3) := by decide +kernel
theorem dX0_copyOf_39 : decode cX0_copyOf 39 = .ok (.iconst 0, 1) := by decide +kernel
theorem dX0_copyOf_40 : decode cX0_copyOf 40 = .ok (.bipush 30, 2) := by decide +kernel
theorem dX0_copyOf_42 : decode cX0_copyOf 42 = .ok (.invokestatic 28, 3) := by decide +kernel
theorem dX0_copyOf_45 : decode cX0_copyOf 45 = .ok (.aload_n 0, 1) := by decide +kernel
theorem dX0_copyOf_46 : decode cX0_copyOf 46 = .ok (.aload_n 1, 1) := by decide +kernel
theorem dX0_copyOf_47 : decode cX0_copyOf 47 = .ok (.getfield 21, 3) := by decide +kernel
theorem dX0_copyOf_50 : decode cX0_copyOf 50 = .ok (.putfield 21, 3) := by decide +kernel
theorem dX0_copyOf_53 : decode cX0_copyOf 53 = .ok (.aload_n 0, 1) := by decide +kernel
theorem dX0_copyOf_54 : decode cX0_copyOf 54 = .ok (.aload_n 1, 1) := by decide +kernel
theorem dX0_copyOf_55 : decode cX0_copyOf 55 = .ok (.getfield 25, 3) := by decide +kernel
theorem dX0_copyOf_58 : decode cX0_copyOf 58 = .ok (.putfield 25, 3) := by decide +kernel
theorem dX0_copyOf_61 : decode cX0_copyOf 61 = .ok (.return_, 1) := by decide +kernel
theorem dX0_write_0 : decode cX0_write 0 = .ok (.aload_n 0, 1) := by decide +kernel
theorem dX0_write_1 : decode cX0_write 1 = .ok (.aload_n 0, 1) := by decide +kernel
theorem dX0_write_2 : decode cX0_write 2 = .ok (.getfield 25, 3) := by decide +kernel
theorem dX0_write_5 : decode cX0_write 5 = .ok (.iconst 1, 1) := by decide +kernel
theorem dX0_write_6 : decode cX0_write 6 = .ok (.iadd, 1) := by decide +kernel
theorem dX0_write_7 : decode cX0_write 7 = .ok (.bipush 30, 2) := by decide +kernel
theorem dX0_write_9 : decode cX0_write 9 = .ok (.irem, 1) := by decide +kernel
theorem dX0_write_10 : decode cX0_write 10 = .ok (.putfield 25, 3) := by decide +kernel
theorem dX0_write_13 : decode cX0_write 13 = .ok (.aload_n 0, 1) := by decide +kernel
theorem dX0_write_14 : decode cX0_write 14 = .ok (.getfield 9, 3) := by decide +kernel
theorem dX0_write_17 : decode cX0_write 17 = .ok (.aload_n 0, 1) := by decide +kernel
theorem dX0_write_18 : decode cX0_write 18 = .ok (.getfield 25, 3) := by decide +kernel
theorem dX0_write_21 : decode cX0_write 21 = .ok (.iload_n 1, 1) := by decide +kernel
theorem dX0_write_22 : decode cX0_write 22 = .ok (.iastore, 1) := by decide +kernel
theorem dX0_write_23 : decode cX0_write 23 = .ok (.aload_n 0, 1) := by decide +kernel
theorem dX0_write_24 : decode cX0_write 24 = .ok (.getfield 15, 3) := by decide +kernel
theorem dX0_write_27 : decode cX0_write 27 = .ok (.aload_n 0, 1) := by decide +kernel
theorem dX0_write_28 : decode cX0_write 28 = .ok (.getfield 25, 3) := by decide +kernel
theorem dX0_write_31 : decode cX0_write 31 = .ok (.iload_n 2, 1) := by decide +kernel
theorem dX0_write_32 : decode cX0_write 32 = .ok (.iastore, 1) := by decide +kernel
theorem dX0_write_33 : decode cX0_write 33 = .ok (.aload_n 0, 1) := by decide +kernel
theorem dX0_write_34 : decode cX0_write 34 = .ok (.getfield 18, 3) := by decide +kernel
theorem dX0_write_37 : decode cX0_write 37 = .ok (.aload_n 0, 1) := by decide +kernel
theorem dX0_write_38 : decode cX0_write 38 = .ok (.getfield 25, 3) := by decide +kernel
theorem dX0_write_41 : decode cX0_write 41 = .ok (.iload_n 3, 1) := by decide +kernel
theorem dX0_write_42 : decode cX0_write 42 = .ok (.iastore, 1) := by decide +kernel
theorem dX0_write_43 : decode cX0_write 43 = .ok (.aload_n 0, 1) := by decide +kernel
theorem dX0_write_44 : decode cX0_write 44 = .ok (.getfield 21, 3) := by decide +kernel
theorem dX0_write_47 : decode cX0_write 47 = .ok (.bipush 30, 2) := by decide +kernel
theorem dX0_write_49 : decode cX0_write 49 = .ok (.if_icmp .ge 13, 3) := by decide +kernel
theorem dX0_write_52 : decode cX0_write 52 = .ok (.aload_n 0, 1) := by decide +kernel
theorem dX0_write_53 : decode cX0_write 53 = .ok (.dup, 1) := by decide +kernel
theorem dX0_write_54 : decode cX0_write 54 = .ok (.getfield 21, 3) := by decide +kernel
theorem dX0_write_57 : decode cX0_write 57 = .ok (.iconst 1, 1) := by decide +kernel
theorem dX0_write_58 : decode cX0_write 58 = .ok (.iadd, 1) := by decide +kernel
theorem dX0_write_59 : decode cX0_write 59 = .ok (.putfield 21, 3) := by decide +kernel
theorem dX0_write_62 : decode cX0_write 62 = .ok (.return_, 1) := by decide +kernel
theorem dX0_read_0 : decode cX0_read 0 = .ok (.iload_n 1, 1) := by decide +kernel
theorem dX0_read_1 : decode cX0_read 1 = .ok (.ifCond .lt 11, 3) := by decide +kernel
theorem dX0_read_4 : decode cX0_read 4 = .ok (.iload_n 1, 1) := by decide +kernel
theorem dX0_read_5 : decode cX0_read 5 = .ok (.aload_n 0, 1) := by decide +kernel
theorem dX0_read_6 : decode cX0_read 6 = .ok (.getfield 21, 3) := by decide +kernel
theorem dX0_read_9 : decode cX0_read 9 = .ok (.if_icmp .lt 5, 3) := by decide +kernel
theorem dX0_read_12 : decode cX0_read 12 = .ok (.iconst (-1), 1) := by decide +kernel
theorem dX0_read_13 : decode cX0_read 13 = .ok (.ireturn, 1) := by decide +kernel
theorem dX0_read_14 : decode cX0_read 14 = .ok (.aload_n 0, 1) := by decide +kernel
theorem dX0_read_15 : decode cX0_read 15 = .ok (.getfield 25, 3) := by decide +kernel
theorem dX0_read_18 : decode cX0_read 18 = .ok (.iload_n 1, 1) := by decide +kernel
theorem dX0_read_19 : decode cX0_read 19 = .ok (.isub, 1) := by decide +kernel
theorem dX0_read_20 : decode cX0_read 20 = .ok (.bipush 30, 2) := by decide +kernel
theorem dX0_read_22 : decode cX0_read 22 = .ok (.invokestatic 34, 3) := by decide +kernel
theorem dX0_read_25 : decode cX0_read 25 = .ok (.istore_n 3, 1) := by decide +kernel
theorem dX0_read_26 : decode cX0_read 26 = .ok (.iload_n 2, 1) := by decide +kernel
theorem dX0_read_27 : decode cX0_read 27 = .ok (.tableswitch 46 0 2 #[25, 32, 39], 25) := by decide +kernel
theorem dX0_read_52 : decode cX0_read 52 = .ok (.aload_n 0, 1) := by decide +kernel
theorem dX0_read_53 : decode cX0_read 53 = .ok (.getfield 9, 3) := by decide +kernel
theorem dX0_read_56 : decode cX0_read 56 = .ok (.iload_n 3, 1) := by decide +kernel
theorem dX0_read_57 : decode cX0_read 57 = .ok (.iaload, 1) := by decide +kernel
theorem dX0_read_58 : decode cX0_read 58 = .ok (.ireturn, 1) := by decide +kernel
theorem dX0_read_59 : decode cX0_read 59 = .ok (.aload_n 0, 1) := by decide +kernel
theorem dX0_read_60 : decode cX0_read 60 = .ok (.getfield 15, 3) := by decide +kernel
theorem dX0_read_63 : decode cX0_read 63 = .ok (.iload_n 3, 1) := by decide +kernel
theorem dX0_read_64 : decode cX0_read 64 = .ok (.iaload, 1) := by decide +kernel
theorem dX0_read_65 : decode cX0_read 65 = .ok (.ireturn, 1) := by decide +kernel
theorem dX0_read_66 : decode cX0_read 66 = .ok (.aload_n 0, 1) := by decide +kernel
theorem dX0_read_67 : decode cX0_read 67 = .ok (.getfield 18, 3) := by decide +kernel
theorem dX0_read_70 : decode cX0_read 70 = .ok (.iload_n 3, 1) := by decide +kernel
theorem dX0_read_71 : decode cX0_read 71 = .ok (.iaload, 1) := by decide +kernel
theorem dX0_read_72 : decode cX0_read 72 = .ok (.ireturn, 1) := by decide +kernel
theorem dX0_read_73 : decode cX0_read 73 = .ok (.iconst (-1), 1) := by decide +kernel
theorem dX0_read_74 : decode cX0_read 74 = .ok (.ireturn, 1) := by decide +kernel
theorem dX1_init_0 : decode cX1_init 0 = .ok (.aload_n 0, 1) := by decide +kernel
theorem dX1_init_1 : decode cX1_init 1 = .ok (.invokespecial 3, 3) := by decide +kernel
theorem dX1_init_4 : decode cX1_init 4 = .ok (.aload_n 0, 1) := by decide +kernel
theorem dX1_init_5 : decode cX1_init 5 = .ok (.new 9, 3) := by decide +kernel
theorem dX1_init_8 : decode cX1_init 8 = .ok (.dup, 1) := by decide +kernel
theorem dX1_init_9 : decode cX1_init 9 = .ok (.invokespecial 11, 3) := by decide +kernel
theorem dX1_init_12 : decode cX1_init 12 = .ok (.putfield 12, 3) := by decide +kernel
theorem dX1_init_15 : decode cX1_init 15 = .ok (.aload_n 0, 1) := by decide +kernel
theorem dX1_init_16 : decode cX1_init 16 = .ok (.new 18, 3) := by decide +kernel
theorem dX1_init_19 : decode cX1_init 19 = .ok (.dup, 1) := by decide +kernel
theorem dX1_init_20 : decode cX1_init 20 = .ok (.invokespecial 20, 3) := by decide +kernel
theorem dX1_init_23 : decode cX1_init 23 = .ok (.putfield 21, 3) := by decide +kernel
theorem dX1_init_26 : decode cX1_init 26 = .ok (.aload_n 0, 1) := by decide +kernel
theorem dX1_init_27 : decode cX1_init 27 = .ok (.iconst 4, 1) := by decide +kernel
theorem dX1_init_28 : decode cX1_init 28 = .ok (.newarray .int, 2) := by decide +kernel
theorem dX1_init_30 : decode cX1_init 30 = .ok (.putfield 25, 3) := by decide +kernel
theorem dX1_init_33 : decode cX1_init 33 = .ok (.aload_n 0, 1) := by decide +kernel
theorem dX1_init_34 : decode cX1_init 34 = .ok (.iconst 1, 1) := by decide +kernel
theorem dX1_init_35 : decode cX1_init 35 = .ok (.putfield 29, 3) := by decide +kernel
theorem dX1_init_38 : decode cX1_init 38 = .ok (.return_, 1) := by decide +kernel
theorem dX1_begin_0 : decode cX1_begin 0 = .ok (.aload_n 0, 1) := by decide +kernel
theorem dX1_begin_1 : decode cX1_begin 1 = .ok (.iload_n 1, 1) := by decide +kernel
theorem dX1_begin_2 : decode cX1_begin 2 = .ok (.putfield 33, 3) := by decide +kernel
theorem dX1_begin_5 : decode cX1_begin 5 = .ok (.aload_n 0, 1) := by decide +kernel
theorem dX1_begin_6 : decode cX1_begin 6 = .ok (.iload_n 2, 1) := by decide +kernel
theorem dX1_begin_7 : decode cX1_begin 7 = .ok (.putfield 36, 3) := by decide +kernel
theorem dX1_begin_10 : decode cX1_begin 10 = .ok (.aload_n 0, 1) := by decide +kernel
theorem dX1_begin_11 : decode cX1_begin 11 = .ok (.iconst 0, 1) := by decide +kernel
theorem dX1_begin_12 : decode cX1_begin 12 = .ok (.putfield 39, 3) := by decide +kernel
theorem dX1_begin_15 : decode cX1_begin 15 = .ok (.aload_n 0, 1) := by decide +kernel
theorem dX1_begin_16 : decode cX1_begin 16 = .ok (.iconst 0, 1) := by decide +kernel
theorem dX1_begin_17 : decode cX1_begin 17 = .ok (.putfield 42, 3) := by decide +kernel
theorem dX1_begin_20 : decode cX1_begin 20 = .ok (.aload_n 0, 1) := by decide +kernel
theorem dX1_begin_21 : decode cX1_begin 21 = .ok (.iconst 0, 1) := by decide +kernel
theorem dX1_begin_22 : decode cX1_begin 22 = .ok (.putfield 45, 3) := by decide +kernel
theorem dX1_begin_25 : decode cX1_begin 25 = .ok (.aload_n 0, 1) := by decide +kernel
theorem dX1_begin_26 : decode cX1_begin 26 = .ok (.iconst 0, 1) := by decide +kernel
theorem dX1_begin_27 : decode cX1_begin 27 = .ok (.putfield 48, 3) := by decide +kernel
theorem dX1_begin_30 : decode cX1_begin 30 = .ok (.aload_n 0, 1) := by decide +kernel
theorem dX1_begin_31 : decode cX1_begin 31 = .ok (.iconst 0, 1) := by decide +kernel
theorem dX1_begin_32 : decode cX1_begin 32 = .ok (.putfield 51, 3) := by decide +kernel
theorem dX1_begin_35 : decode cX1_begin 35 = .ok (.aload_n 0, 1) := by decide +kernel
theorem dX1_begin_36 : decode cX1_begin 36 = .ok (.getfield 21, 3) := by decide +kernel
theorem dX1_begin_39 : decode cX1_begin 39 = .ok (.invokevirtual 54, 3) := by decide +kernel
theorem dX1_begin_42 : decode cX1_begin 42 = .ok (.aload_n 0, 1) := by decide +kernel
theorem dX1_begin_43 : decode cX1_begin 43 = .ok (.getfield 12, 3) := by decide +kernel
theorem dX1_begin_46 : decode cX1_begin 46 = .ok (.iload_n 1, 1) := by decide +kernel
theorem dX1_begin_47 : decode cX1_begin 47 = .ok (.iload_n 2, 1) := by decide +kernel
theorem dX1_begin_48 : decode cX1_begin 48 = .ok (.invokevirtual 57, 3) := by decide +kernel
theorem dX1_begin_51 : decode cX1_begin 51 = .ok (.return_, 1) := by decide +kernel
theorem dX1_copyOf_0 : decode cX1_copyOf 0 = .ok (.aload_n 0, 1) := by decide +kernel
theorem dX1_copyOf_1 : decode cX1_copyOf 1 = .ok (.getfield 12, 3) := by decide +kernel
theorem dX1_copyOf_4 : decode cX1_copyOf 4 = .ok (.aload_n 1, 1) := by decide +kernel
theorem dX1_copyOf_5 : decode cX1_copyOf 5 = .ok (.getfield 12, 3) := by decide +kernel
theorem dX1_copyOf_8 : decode cX1_copyOf 8 = .ok (.invokevirtual 61, 3) := by decide +kernel
theorem dX1_copyOf_11 : decode cX1_copyOf 11 = .ok (.aload_n 0, 1) := by decide +kernel
theorem dX1_copyOf_12 : decode cX1_copyOf 12 = .ok (.getfield 21, 3) := by decide +kernel
theorem dX1_copyOf_15 : decode cX1_copyOf 15 = .ok (.aload_n 1, 1) := by decide +kernel
theorem dX1_copyOf_16 : decode cX1_copyOf 16 = .ok (.getfield 21, 3) := by decide +kernel
theorem dX1_copyOf_19 : decode cX1_copyOf 19 = .ok (.invokevirtual 65, 3) := by decide +kernel
theorem dX1_copyOf_22 : decode cX1_copyOf 22 = .ok (.aload_n 1, 1) := by decide +kernel
theorem dX1_copyOf_23 : decode cX1_copyOf 23 = .ok (.getfield 25, 3) := by decide +kernel
theorem dX1_copyOf_26 : decode cX1_copyOf 26 = .ok (.iconst 0, 1) := by decide +kernel
theorem dX1_copyOf_27 : decode cX1_copyOf 27 = .ok (.aload_n 0, 1) := by decide +kernel
theorem dX1_copyOf_28 : decode cX1_copyOf 28 = .ok (.getfield 25, 3) := by decide +kernel
theorem dX1_copyOf_31 : decode cX1_copyOf 31 = .ok (.iconst 0, 1) := by decide +kernel
theorem dX1_copyOf_32 : decode cX1_copyOf 32 = .ok (.iconst 4, 1) := by decide +kernel
theorem dX1_copyOf_33 : decode cX1_copyOf 33 = .ok (.invokestatic 68, 3) := by decide +kernel
theorem dX1_copyOf_36 : decode cX1_copyOf 36 = .ok (.aload_n 0, 1) := by decide +kernel
theorem dX1_copyOf_37 : decode cX1_copyOf 37 = .ok (.aload_n 1, 1) := by decide +kernel
theorem dX1_copyOf_38 : decode cX1_copyOf 38 = .ok (.getfield 33, 3) := by decide +kernel
theorem dX1_copyOf_41 : decode cX1_copyOf 41 = .ok (.putfield 33, 3) := by decide +kernel
theorem dX1_copyOf_44 : decode cX1_copyOf 44 = .ok (.aload_n 0, 1) := by decide +kernel
theorem dX1_copyOf_45 : decode cX1_copyOf 45 = .ok (.aload_n 1, 1) := by decide +kernel
theorem dX1_copyOf_46 : decode cX1_copyOf 46 = .ok (.getfield 36, 3) := by decide +kernel
theorem dX1_copyOf_49 : decode cX1_copyOf 49 = .ok (.putfield 36, 3) := by decide +kernel
theorem dX1_copyOf_52 : decode cX1_copyOf 52 = .ok (.aload_n 0, 1) := by decide +kernel
theorem dX1_copyOf_53 : decode cX1_copyOf 53 = .ok (.aload_n 1, 1) := by decide +kernel
theorem dX1_copyOf_54 : decode cX1_copyOf 54 = .ok (.getfield 29, 3) := by decide +kernel
theorem dX1_copyOf_57 : decode cX1_copyOf 57 = .ok (.putfield 29, 3) := by decide +kernel
theorem dX1_copyOf_60 : decode cX1_copyOf 60 = .ok (.aload_n 0, 1) := by decide +kernel
theorem dX1_copyOf_61 : decode cX1_copyOf 61 = .ok (.aload_n 1, 1) := by decide +kernel
theorem dX1_copyOf_62 : decode cX1_copyOf 62 = .ok (.getfield 39, 3) := by decide +kernel
theorem dX1_copyOf_65 : decode cX1_copyOf 65 = .ok (.putfield 39, 3) := by decide +kernel
theorem dX1_copyOf_68 : decode cX1_copyOf 68 = .ok (.aload_n 0, 1) := by decide +kernel
theorem dX1_copyOf_69 : decode cX1_copyOf 69 = .ok (.aload_n 1, 1) := by decide +kernel
theorem dX1_copyOf_70 : decode cX1_copyOf 70 = .ok (.getfield 42, 3) := by decide +kernel
theorem dX1_copyOf_73 : decode cX1_copyOf 73 = .ok (.putfield 42, 3) := by decide +kernel
theorem dX1_copyOf_76 : decode cX1_copyOf 76 = .ok (.aload_n 0, 1) := by decide +kernel
theorem dX1_copyOf_77 : decode cX1_copyOf 77 = .ok (.aload_n 1, 1) := by decide +kernel
theorem dX1_copyOf_78 : decode cX1_copyOf 78 = .ok (.getfield 45, 3) := by decide +kernel
theorem dX1_copyOf_81 : decode cX1_copyOf 81 = .ok (.putfield 45, 3) := by decide +kernel
theorem dX1_copyOf_84 : decode cX1_copyOf 84 = .ok (.aload_n 0, 1) := by decide +kernel
theorem dX1_copyOf_85 : decode cX1_copyOf 85 = .ok (.aload_n 1, 1) := by decide +kernel
theorem dX1_copyOf_86 : decode cX1_copyOf 86 = .ok (.getfield 48, 3) := by decide +kernel
theorem dX1_copyOf_89 : decode cX1_copyOf 89 = .ok (.putfield 48, 3) := by decide +kernel
theorem dX1_copyOf_92 : decode cX1_copyOf 92 = .ok (.aload_n 0, 1) := by decide +kernel
theorem dX1_copyOf_93 : decode cX1_copyOf 93 = .ok (.aload_n 1, 1) := by decide +kernel
theorem dX1_copyOf_94 : decode cX1_copyOf 94 = .ok (.getfield 51, 3) := by decide +kernel
theorem dX1_copyOf_97 : decode cX1_copyOf 97 = .ok (.putfield 51, 3) := by decide +kernel
theorem dX1_copyOf_100 : decode cX1_copyOf 100 = .ok (.return_, 1) := by decide +kernel
theorem dX1_refuse_0 : decode cX1_refuse 0 = .ok (.iload_n 1, 1) := by decide +kernel
theorem dX1_refuse_1 : decode cX1_refuse 1 = .ok (.bipush (-4), 2) := by decide +kernel
theorem dX1_refuse_3 : decode cX1_refuse 3 = .ok (.if_icmp .lt 20, 3) := by decide +kernel
theorem dX1_refuse_6 : decode cX1_refuse 6 = .ok (.iload_n 1, 1) := by decide +kernel
theorem dX1_refuse_7 : decode cX1_refuse 7 = .ok (.iconst (-1), 1) := by decide +kernel
theorem dX1_refuse_8 : decode cX1_refuse 8 = .ok (.if_icmp .gt 15, 3) := by decide +kernel
theorem dX1_refuse_11 : decode cX1_refuse 11 = .ok (.aload_n 0, 1) := by decide +kernel
theorem dX1_refuse_12 : decode cX1_refuse 12 = .ok (.getfield 25, 3) := by decide +kernel
theorem dX1_refuse_15 : decode cX1_refuse 15 = .ok (.iconst (-1), 1) := by decide +kernel
theorem dX1_refuse_16 : decode cX1_refuse 16 = .ok (.iload_n 1, 1) := by decide +kernel
theorem dX1_refuse_17 : decode cX1_refuse 17 = .ok (.isub, 1) := by decide +kernel
theorem dX1_refuse_18 : decode cX1_refuse 18 = .ok (.dup2, 1) := by decide +kernel
theorem dX1_refuse_19 : decode cX1_refuse 19 = .ok (.iaload, 1) := by decide +kernel
theorem dX1_refuse_20 : decode cX1_refuse 20 = .ok (.iconst 1, 1) := by decide +kernel
theorem dX1_refuse_21 : decode cX1_refuse 21 = .ok (.iadd, 1) := by decide +kernel
theorem dX1_refuse_22 : decode cX1_refuse 22 = .ok (.iastore, 1) := by decide +kernel
theorem dX1_refuse_23 : decode cX1_refuse 23 = .ok (.iload_n 1, 1) := by decide +kernel
theorem dX1_refuse_24 : decode cX1_refuse 24 = .ok (.ireturn, 1) := by decide +kernel
theorem dX1_flipWall_0 : decode cX1_flipWall 0 = .ok (.aload_n 0, 1) := by decide +kernel
theorem dX1_flipWall_1 : decode cX1_flipWall 1 = .ok (.getfield 12, 3) := by decide +kernel
theorem dX1_flipWall_4 : decode cX1_flipWall 4 = .ok (.iload_n 1, 1) := by decide +kernel
theorem dX1_flipWall_5 : decode cX1_flipWall 5 = .ok (.invokevirtual 74, 3) := by decide +kernel
theorem dX1_flipWall_8 : decode cX1_flipWall 8 = .ok (.aload_n 0, 1) := by decide +kernel
theorem dX1_flipWall_9 : decode cX1_flipWall 9 = .ok (.dup, 1) := by decide +kernel
theorem dX1_flipWall_10 : decode cX1_flipWall 10 = .ok (.getfield 42, 3) := by decide +kernel
theorem dX1_flipWall_13 : decode cX1_flipWall 13 = .ok (.iconst 1, 1) := by decide +kernel
theorem dX1_flipWall_14 : decode cX1_flipWall 14 = .ok (.iadd, 1) := by decide +kernel
theorem dX1_flipWall_15 : decode cX1_flipWall 15 = .ok (.putfield 42, 3) := by decide +kernel
theorem dX1_flipWall_18 : decode cX1_flipWall 18 = .ok (.aload_n 0, 1) := by decide +kernel
theorem dX1_flipWall_19 : decode cX1_flipWall 19 = .ok (.getfield 21, 3) := by decide +kernel
theorem dX1_flipWall_22 : decode cX1_flipWall 22 = .ok (.iconst 0, 1) := by decide +kernel
theorem dX1_flipWall_23 : decode cX1_flipWall 23 = .ok (.aload_n 0, 1) := by decide +kernel
theorem dX1_flipWall_24 : decode cX1_flipWall 24 = .ok (.getfield 39, 3) := by decide +kernel
theorem dX1_flipWall_27 : decode cX1_flipWall 27 = .ok (.iload_n 1, 1) := by decide +kernel
theorem dX1_flipWall_28 : decode cX1_flipWall 28 = .ok (.invokevirtual 78, 3) := by decide +kernel
theorem dX1_flipWall_31 : decode cX1_flipWall 31 = .ok (.return_, 1) := by decide +kernel
theorem dX1_shrinkCell_0 : decode cX1_shrinkCell 0 = .ok (.aload_n 0, 1) := by decide +kernel
theorem dX1_shrinkCell_1 : decode cX1_shrinkCell 1 = .ok (.getfield 12, 3) := by decide +kernel
theorem dX1_shrinkCell_4 : decode cX1_shrinkCell 4 = .ok (.iload_n 1, 1) := by decide +kernel
theorem dX1_shrinkCell_5 : decode cX1_shrinkCell 5 = .ok (.invokevirtual 82, 3) := by decide +kernel
theorem dX1_shrinkCell_8 : decode cX1_shrinkCell 8 = .ok (.istore_n 2, 1) := by decide +kernel
theorem dX1_shrinkCell_9 : decode cX1_shrinkCell 9 = .ok (.aload_n 0, 1) := by decide +kernel
theorem dX1_shrinkCell_10 : decode cX1_shrinkCell 10 = .ok (.dup, 1) := by decide +kernel
theorem dX1_shrinkCell_11 : decode cX1_shrinkCell 11 = .ok (.getfield 45, 3) := by decide +kernel
theorem dX1_shrinkCell_14 : decode cX1_shrinkCell 14 = .ok (.iconst 1, 1) := by decide +kernel
theorem dX1_shrinkCell_15 : decode cX1_shrinkCell 15 = .ok (.iadd, 1) := by decide +kernel
theorem dX1_shrinkCell_16 : decode cX1_shrinkCell 16 = .ok (.putfield 45, 3) := by decide +kernel
theorem dX1_shrinkCell_19 : decode cX1_shrinkCell 19 = .ok (.aload_n 0, 1) := by decide +kernel
theorem dX1_shrinkCell_20 : decode cX1_shrinkCell 20 = .ok (.getfield 21, 3) := by decide +kernel
theorem dX1_shrinkCell_23 : decode cX1_shrinkCell 23 = .ok (.iconst 1, 1) := by decide +kernel
theorem dX1_shrinkCell_24 : decode cX1_shrinkCell 24 = .ok (.aload_n 0, 1) := by decide +kernel
theorem dX1_shrinkCell_25 : decode cX1_shrinkCell 25 = .ok (.getfield 39, 3) := by decide +kernel
theorem dX1_shrinkCell_28 : decode cX1_shrinkCell 28 = .ok (.iload_n 1, 1) := by decide +kernel
theorem dX1_shrinkCell_29 : decode cX1_shrinkCell 29 = .ok (.invokevirtual 78, 3) := by decide +kernel
theorem dX1_shrinkCell_32 : decode cX1_shrinkCell 32 = .ok (.iload_n 2, 1) := by decide +kernel
theorem dX1_shrinkCell_33 : decode cX1_shrinkCell 33 = .ok (.ireturn, 1) := by decide +kernel
theorem dX1_splitCell_0 : decode cX1_splitCell 0 = .ok (.aload_n 0, 1) := by decide +kernel
theorem dX1_splitCell_1 : decode cX1_splitCell 1 = .ok (.getfield 12, 3) := by decide +kernel
theorem dX1_splitCell_4 : decode cX1_splitCell 4 = .ok (.iload_n 1, 1) := by decide +kernel
theorem dX1_splitCell_5 : decode cX1_splitCell 5 = .ok (.iload_n 2, 1) := by decide +kernel
theorem dX1_splitCell_6 : decode cX1_splitCell 6 = .ok (.iload_n 3, 1) := by decide +kernel
theorem dX1_splitCell_7 : decode cX1_splitCell 7 = .ok (.invokevirtual 86, 3) := by decide +kernel
theorem dX1_splitCell_10 : decode cX1_splitCell 10 = .ok (.istore 4, 2) := by decide +kernel
theorem dX1_splitCell_12 : decode cX1_splitCell 12 = .ok (.iload 4, 2) := by decide +kernel
theorem dX1_splitCell_14 : decode cX1_splitCell 14 = .ok (.ifCond .lt 26, 3) := by decide +kernel
theorem dX1_splitCell_17 : decode cX1_splitCell 17 = .ok (.aload_n 0, 1) := by decide +kernel
theorem dX1_splitCell_18 : decode cX1_splitCell 18 = .ok (.dup, 1) := by decide +kernel
theorem dX1_splitCell_19 : decode cX1_splitCell 19 = .ok (.getfield 48, 3) := by decide +kernel
theorem dX1_splitCell_22 : decode cX1_splitCell 22 = .ok (.iconst 1, 1) := by decide +kernel
theorem dX1_splitCell_23 : decode cX1_splitCell 23 = .ok (.iadd, 1) := by decide +kernel
theorem dX1_splitCell_24 : decode cX1_splitCell 24 = .ok (.putfield 48, 3) := by decide +kernel
theorem dX1_splitCell_27 : decode cX1_splitCell 27 = .ok (.aload_n 0, 1) := by decide +kernel
theorem dX1_splitCell_28 : decode cX1_splitCell 28 = .ok (.getfield 21, 3) := by decide +kernel
theorem dX1_splitCell_31 : decode cX1_splitCell 31 = .ok (.iconst 2, 1) := by decide +kernel
theorem dX1_splitCell_32 : decode cX1_splitCell 32 = .ok (.aload_n 0, 1) := by decide +kernel
theorem dX1_splitCell_33 : decode cX1_splitCell 33 = .ok (.getfield 39, 3) := by decide +kernel
theorem dX1_splitCell_36 : decode cX1_splitCell 36 = .ok (.iload_n 1, 1) := by decide +kernel
theorem dX1_splitCell_37 : decode cX1_splitCell 37 = .ok (.invokevirtual 78, 3) := by decide +kernel
theorem dX1_splitCell_40 : decode cX1_splitCell 40 = .ok (.iload 4, 2) := by decide +kernel
theorem dX1_splitCell_42 : decode cX1_splitCell 42 = .ok (.ireturn, 1) := by decide +kernel
theorem dX1_joinAcross_0 : decode cX1_joinAcross 0 = .ok (.aload_n 0, 1) := by decide +kernel
theorem dX1_joinAcross_1 : decode cX1_joinAcross 1 = .ok (.getfield 12, 3) := by decide +kernel
theorem dX1_joinAcross_4 : decode cX1_joinAcross 4 = .ok (.iload_n 1, 1) := by decide +kernel
theorem dX1_joinAcross_5 : decode cX1_joinAcross 5 = .ok (.invokevirtual 90, 3) := by decide +kernel
theorem dX1_joinAcross_8 : decode cX1_joinAcross 8 = .ok (.istore_n 2, 1) := by decide +kernel
theorem dX1_joinAcross_9 : decode cX1_joinAcross 9 = .ok (.aload_n 0, 1) := by decide +kernel
theorem dX1_joinAcross_10 : decode cX1_joinAcross 10 = .ok (.dup, 1) := by decide +kernel
theorem dX1_joinAcross_11 : decode cX1_joinAcross 11 = .ok (.getfield 51, 3) := by decide +kernel
theorem dX1_joinAcross_14 : decode cX1_joinAcross 14 = .ok (.iconst 1, 1) := by decide +kernel
theorem dX1_joinAcross_15 : decode cX1_joinAcross 15 = .ok (.iadd, 1) := by decide +kernel
theorem dX1_joinAcross_16 : decode cX1_joinAcross 16 = .ok (.putfield 51, 3) := by decide +kernel
theorem dX1_joinAcross_19 : decode cX1_joinAcross 19 = .ok (.aload_n 0, 1) := by decide +kernel
theorem dX1_joinAcross_20 : decode cX1_joinAcross 20 = .ok (.getfield 21, 3) := by decide +kernel
theorem dX1_joinAcross_23 : decode cX1_joinAcross 23 = .ok (.iconst 3, 1) := by decide +kernel
theorem dX1_joinAcross_24 : decode cX1_joinAcross 24 = .ok (.aload_n 0, 1) := by decide +kernel
theorem dX1_joinAcross_25 : decode cX1_joinAcross 25 = .ok (.getfield 39, 3) := by decide +kernel
theorem dX1_joinAcross_28 : decode cX1_joinAcross 28 = .ok (.iload_n 1, 1) := by decide +kernel
theorem dX1_joinAcross_29 : decode cX1_joinAcross 29 = .ok (.invokevirtual 78, 3) := by decide +kernel
theorem dX1_joinAcross_32 : decode cX1_joinAcross 32 = .ok (.iload_n 2, 1) := by decide +kernel
theorem dX1_joinAcross_33 : decode cX1_joinAcross 33 = .ok (.ireturn, 1) := by decide +kernel
theorem dX1_goOn_0 : decode cX1_goOn 0 = .ok (.aload_n 0, 1) := by decide +kernel
theorem dX1_goOn_1 : decode cX1_goOn 1 = .ok (.dup, 1) := by decide +kernel
theorem dX1_goOn_2 : decode cX1_goOn 2 = .ok (.getfield 39, 3) := by decide +kernel
theorem dX1_goOn_5 : decode cX1_goOn 5 = .ok (.iconst 1, 1) := by decide +kernel
theorem dX1_goOn_6 : decode cX1_goOn 6 = .ok (.iadd, 1) := by decide +kernel
theorem dX1_goOn_7 : decode cX1_goOn 7 = .ok (.putfield 39, 3) := by decide +kernel
theorem dX1_goOn_10 : decode cX1_goOn 10 = .ok (.aload_n 0, 1) := by decide +kernel
theorem dX1_goOn_11 : decode cX1_goOn 11 = .ok (.getfield 12, 3) := by decide +kernel
theorem dX1_goOn_14 : decode cX1_goOn 14 = .ok (.aload_n 0, 1) := by decide +kernel
theorem dX1_goOn_15 : decode cX1_goOn 15 = .ok (.getfield 29, 3) := by decide +kernel
theorem dX1_goOn_18 : decode cX1_goOn 18 = .ok (.invokevirtual 93, 3) := by decide +kernel
theorem dX1_goOn_21 : decode cX1_goOn 21 = .ok (.aload_n 0, 1) := by decide +kernel
theorem dX1_goOn_22 : decode cX1_goOn 22 = .ok (.getfield 12, 3) := by decide +kernel
theorem dX1_goOn_25 : decode cX1_goOn 25 = .ok (.invokevirtual 96, 3) := by decide +kernel
theorem dX1_goOn_28 : decode cX1_goOn 28 = .ok (.iconst 0, 1) := by decide +kernel
theorem dX1_goOn_29 : decode cX1_goOn 29 = .ok (.istore_n 1, 1) := by decide +kernel
theorem dX1_goOn_30 : decode cX1_goOn 30 = .ok (.iload_n 1, 1) := by decide +kernel
theorem dX1_goOn_31 : decode cX1_goOn 31 = .ok (.sipush 144, 3) := by decide +kernel
theorem dX1_goOn_34 : decode cX1_goOn 34 = .ok (.if_icmp .ge 48, 3) := by decide +kernel
theorem dX1_goOn_37 : decode cX1_goOn 37 = .ok (.aload_n 0, 1) := by decide +kernel
theorem dX1_goOn_38 : decode cX1_goOn 38 = .ok (.getfield 12, 3) := by decide +kernel
theorem dX1_goOn_41 : decode cX1_goOn 41 = .ok (.iload_n 1, 1) := by decide +kernel
theorem dX1_goOn_42 : decode cX1_goOn 42 = .ok (.invokevirtual 99, 3) := by decide +kernel
theorem dX1_goOn_45 : decode cX1_goOn 45 = .ok (.ifCond .eq 31, 3) := by decide +kernel
theorem dX1_goOn_48 : decode cX1_goOn 48 = .ok (.aload_n 0, 1) := by decide +kernel
theorem dX1_goOn_49 : decode cX1_goOn 49 = .ok (.getfield 12, 3) := by decide +kernel
theorem dX1_goOn_52 : decode cX1_goOn 52 = .ok (.getfield 103, 3) := by decide +kernel
theorem dX1_goOn_55 : decode cX1_goOn 55 = .ok (.iload_n 1, 1) := by decide +kernel
theorem dX1_goOn_56 : decode cX1_goOn 56 = .ok (.iaload, 1) := by decide +kernel
theorem dX1_goOn_57 : decode cX1_goOn 57 = .ok (.ifCond .ne 19, 3) := by decide +kernel
theorem dX1_goOn_60 : decode cX1_goOn 60 = .ok (.aload_n 0, 1) := by decide +kernel
theorem dX1_goOn_61 : decode cX1_goOn 61 = .ok (.getfield 12, 3) := by decide +kernel
theorem dX1_goOn_64 : decode cX1_goOn 64 = .ok (.iload_n 1, 1) := by decide +kernel
theorem dX1_goOn_65 : decode cX1_goOn 65 = .ok (.invokevirtual 106, 3) := by decide +kernel
theorem dX1_goOn_68 : decode cX1_goOn 68 = .ok (.ifCond .eq 8, 3) := by decide +kernel
theorem dX1_goOn_71 : decode cX1_goOn 71 = .ok (.aload_n 0, 1) := by decide +kernel
theorem dX1_goOn_72 : decode cX1_goOn 72 = .ok (.iload_n 1, 1) := by decide +kernel
theorem dX1_goOn_73 : decode cX1_goOn 73 = .ok (.invokevirtual 109, 3) := by decide +kernel
theorem dX1_goOn_76 : decode cX1_goOn 76 = .ok (.iinc 1 1, 3) := by decide +kernel
theorem dX1_goOn_79 : decode cX1_goOn 79 = .ok (.goto (-49), 3) := by decide +kernel
theorem dX1_goOn_82 : decode cX1_goOn 82 = .ok (.iconst 0, 1) := by decide +kernel
theorem dX1_goOn_83 : decode cX1_goOn 83 = .ok (.istore_n 1, 1) := by decide +kernel
theorem dX1_goOn_84 : decode cX1_goOn 84 = .ok (.iload_n 1, 1) := by decide +kernel
theorem dX1_goOn_85 : decode cX1_goOn 85 = .ok (.bipush 48, 2) := by decide +kernel
theorem dX1_goOn_87 : decode cX1_goOn 87 = .ok (.if_icmp .ge 37, 3) := by decide +kernel
theorem dX1_goOn_90 : decode cX1_goOn 90 = .ok (.aload_n 0, 1) := by decide +kernel
theorem dX1_goOn_91 : decode cX1_goOn 91 = .ok (.getfield 12, 3) := by decide +kernel
theorem dX1_goOn_94 : decode cX1_goOn 94 = .ok (.iload_n 1, 1) := by decide +kernel
theorem dX1_goOn_95 : decode cX1_goOn 95 = .ok (.invokevirtual 112, 3) := by decide +kernel
theorem dX1_goOn_98 : decode cX1_goOn 98 = .ok (.ifCond .eq 20, 3) := by decide +kernel
theorem dX1_goOn_101 : decode cX1_goOn 101 = .ok (.aload_n 0, 1) := by decide +kernel
theorem dX1_goOn_102 : decode cX1_goOn 102 = .ok (.getfield 12, 3) := by decide +kernel
theorem dX1_goOn_105 : decode cX1_goOn 105 = .ok (.getfield 115, 3) := by decide +kernel
theorem dX1_goOn_108 : decode cX1_goOn 108 = .ok (.iload_n 1, 1) := by decide +kernel
theorem dX1_goOn_109 : decode cX1_goOn 109 = .ok (.iaload, 1) := by decide +kernel
theorem dX1_goOn_110 : decode cX1_goOn 110 = .ok (.ifCond .gt 8, 3) := by decide +kernel
theorem dX1_goOn_113 : decode cX1_goOn 113 = .ok (.aload_n 0, 1) := by decide +kernel
theorem dX1_goOn_114 : decode cX1_goOn 114 = .ok (.iload_n 1, 1) := by decide +kernel
theorem dX1_goOn_115 : decode cX1_goOn 115 = .ok (.invokevirtual 118, 3) := by decide +kernel
theorem dX1_goOn_118 : decode cX1_goOn 118 = .ok (.iinc 1 1, 3) := by decide +kernel
theorem dX1_goOn_121 : decode cX1_goOn 121 = .ok (.goto (-37), 3) := by decide +kernel
theorem dX1_goOn_124 : decode cX1_goOn 124 = .ok (.return_, 1) := by decide +kernel
theorem dX1_giveWay_0 : decode cX1_giveWay 0 = .ok (.aload_n 0, 1) := by decide +kernel
theorem dX1_giveWay_1 : decode cX1_giveWay 1 = .ok (.getfield 12, 3) := by decide +kernel
theorem dX1_giveWay_4 : decode cX1_giveWay 4 = .ok (.getfield 121, 3) := by decide +kernel
theorem dX1_giveWay_7 : decode cX1_giveWay 7 = .ok (.iload_n 1, 1) := by decide +kernel
theorem dX1_giveWay_8 : decode cX1_giveWay 8 = .ok (.iaload, 1) := by decide +kernel
theorem dX1_giveWay_9 : decode cX1_giveWay 9 = .ok (.iconst 3, 1) := by decide +kernel
theorem dX1_giveWay_10 : decode cX1_giveWay 10 = .ok (.if_icmp .le 24, 3) := by decide +kernel
theorem dX1_giveWay_13 : decode cX1_giveWay 13 = .ok (.aload_n 0, 1) := by decide +kernel
theorem dX1_giveWay_14 : decode cX1_giveWay 14 = .ok (.getfield 12, 3) := by decide +kernel
theorem dX1_giveWay_17 : decode cX1_giveWay 17 = .ok (.iload_n 1, 1) := by decide +kernel
theorem dX1_giveWay_18 : decode cX1_giveWay 18 = .ok (.invokevirtual 124, 3) := by decide +kernel
theorem dX1_giveWay_21 : decode cX1_giveWay 21 = .ok (.istore_n 2, 1) := by decide +kernel
theorem dX1_giveWay_22 : decode cX1_giveWay 22 = .ok (.iload_n 2, 1) := by decide +kernel
theorem dX1_giveWay_23 : decode cX1_giveWay 23 = .ok (.ifCond .lt 8, 3) := by decide +kernel
theorem dX1_giveWay_26 : decode cX1_giveWay 26 = .ok (.aload_n 0, 1) := by decide +kernel
theorem dX1_giveWay_27 : decode cX1_giveWay 27 = .ok (.iload_n 2, 1) := by decide +kernel
theorem dX1_giveWay_28 : decode cX1_giveWay 28 = .ok (.invokevirtual 109, 3) := by decide +kernel
theorem dX1_giveWay_31 : decode cX1_giveWay 31 = .ok (.goto 20, 3) := by decide +kernel
theorem dX1_giveWay_34 : decode cX1_giveWay 34 = .ok (.aload_n 0, 1) := by decide +kernel
theorem dX1_giveWay_35 : decode cX1_giveWay 35 = .ok (.getfield 12, 3) := by decide +kernel
theorem dX1_giveWay_38 : decode cX1_giveWay 38 = .ok (.iload_n 1, 1) := by decide +kernel
theorem dX1_giveWay_39 : decode cX1_giveWay 39 = .ok (.invokevirtual 127, 3) := by decide +kernel
theorem dX1_giveWay_42 : decode cX1_giveWay 42 = .ok (.ifCond .eq 9, 3) := by decide +kernel
theorem dX1_giveWay_45 : decode cX1_giveWay 45 = .ok (.aload_n 0, 1) := by decide +kernel
theorem dX1_giveWay_46 : decode cX1_giveWay 46 = .ok (.iload_n 1, 1) := by decide +kernel
theorem dX1_giveWay_47 : decode cX1_giveWay 47 = .ok (.invokevirtual 130, 3) := by decide +kernel
theorem dX1_giveWay_50 : decode cX1_giveWay 50 = .ok (.pop, 1) := by decide +kernel
theorem dX1_giveWay_51 : decode cX1_giveWay 51 = .ok (.return_, 1) := by decide +kernel
theorem dX1_calm_0 : decode cX1_calm 0 = .ok (.iconst 0, 1) := by decide +kernel
theorem dX1_calm_1 : decode cX1_calm 1 = .ok (.istore_n 1, 1) := by decide +kernel
theorem dX1_calm_2 : decode cX1_calm 2 = .ok (.iload_n 1, 1) := by decide +kernel
theorem dX1_calm_3 : decode cX1_calm 3 = .ok (.ldc 133, 2) := by decide +kernel
theorem dX1_calm_5 : decode cX1_calm 5 = .ok (.if_icmp .ge 28, 3) := by decide +kernel
theorem dX1_calm_8 : decode cX1_calm 8 = .ok (.aload_n 0, 1) := by decide +kernel
theorem dX1_calm_9 : decode cX1_calm 9 = .ok (.getfield 12, 3) := by decide +kernel
theorem dX1_calm_12 : decode cX1_calm 12 = .ok (.invokevirtual 134, 3) := by decide +kernel
theorem dX1_calm_15 : decode cX1_calm 15 = .ok (.istore_n 2, 1) := by decide +kernel
theorem dX1_calm_16 : decode cX1_calm 16 = .ok (.iload_n 2, 1) := by decide +kernel
theorem dX1_calm_17 : decode cX1_calm 17 = .ok (.ifCond .ge 5, 3) := by decide +kernel
theorem dX1_calm_20 : decode cX1_calm 20 = .ok (.iload_n 1, 1) := by decide +kernel
theorem dX1_calm_21 : decode cX1_calm 21 = .ok (.ireturn, 1) := by decide +kernel
theorem dX1_calm_22 : decode cX1_calm 22 = .ok (.aload_n 0, 1) := by decide +kernel
theorem dX1_calm_23 : decode cX1_calm 23 = .ok (.iload_n 2, 1) := by decide +kernel
theorem dX1_calm_24 : decode cX1_calm 24 = .ok (.invokevirtual 109, 3) := by decide +kernel
theorem dX1_calm_27 : decode cX1_calm 27 = .ok (.iinc 1 1, 3) := by decide +kernel
theorem dX1_calm_30 : decode cX1_calm 30 = .ok (.goto (-28), 3) := by decide +kernel
theorem dX1_calm_33 : decode cX1_calm 33 = .ok (.ldc 133, 2) := by decide +kernel
theorem dX1_calm_35 : decode cX1_calm 35 = .ok (.ireturn, 1) := by decide +kernel
theorem dX1_jolt_0 : decode cX1_jolt 0 = .ok (.iconst 0, 1) := by decide +kernel
theorem dX1_jolt_1 : decode cX1_jolt 1 = .ok (.istore 4, 2) := by decide +kernel
theorem dX1_jolt_3 : decode cX1_jolt 3 = .ok (.iload_n 1, 1) := by decide +kernel
theorem dX1_jolt_4 : decode cX1_jolt 4 = .ok (.istore 5, 2) := by decide +kernel
theorem dX1_jolt_6 : decode cX1_jolt 6 = .ok (.iconst 0, 1) := by decide +kernel
theorem dX1_jolt_7 : decode cX1_jolt 7 = .ok (.istore 6, 2) := by decide +kernel
theorem dX1_jolt_9 : decode cX1_jolt 9 = .ok (.iload 6, 2) := by decide +kernel
theorem dX1_jolt_11 : decode cX1_jolt 11 = .ok (.iload_n 2, 1) := by decide +kernel
theorem dX1_jolt_12 : decode cX1_jolt 12 = .ok (.if_icmp .ge 79, 3) := by decide +kernel
theorem dX1_jolt_15 : decode cX1_jolt 15 = .ok (.sipush 1103, 3) := by decide +kernel
theorem dX1_jolt_18 : decode cX1_jolt 18 = .ok (.iload 5, 2) := by decide +kernel
theorem dX1_jolt_20 : decode cX1_jolt 20 = .ok (.imul, 1) := by decide +kernel
theorem dX1_jolt_21 : decode cX1_jolt 21 = .ok (.sipush 12345, 3) := by decide +kernel
theorem dX1_jolt_24 : decode cX1_jolt 24 = .ok (.iadd, 1) := by decide +kernel
theorem dX1_jolt_25 : decode cX1_jolt 25 = .ok (.ldc 138, 2) := by decide +kernel
theorem dX1_jolt_27 : decode cX1_jolt 27 = .ok (.irem, 1) := by decide +kernel
theorem dX1_jolt_28 : decode cX1_jolt 28 = .ok (.istore 5, 2) := by decide +kernel
theorem dX1_jolt_30 : decode cX1_jolt 30 = .ok (.iload 5, 2) := by decide +kernel
theorem dX1_jolt_32 : decode cX1_jolt 32 = .ok (.sipush 144, 3) := by decide +kernel
theorem dX1_jolt_35 : decode cX1_jolt 35 = .ok (.irem, 1) := by decide +kernel
theorem dX1_jolt_36 : decode cX1_jolt 36 = .ok (.istore 7, 2) := by decide +kernel
theorem dX1_jolt_38 : decode cX1_jolt 38 = .ok (.aload_n 0, 1) := by decide +kernel
theorem dX1_jolt_39 : decode cX1_jolt 39 = .ok (.getfield 12, 3) := by decide +kernel
theorem dX1_jolt_42 : decode cX1_jolt 42 = .ok (.iload 7, 2) := by decide +kernel
theorem dX1_jolt_44 : decode cX1_jolt 44 = .ok (.invokevirtual 99, 3) := by decide +kernel
theorem dX1_jolt_47 : decode cX1_jolt 47 = .ok (.ifCond .eq 38, 3) := by decide +kernel
theorem dX1_jolt_50 : decode cX1_jolt 50 = .ok (.aload_n 0, 1) := by decide +kernel
theorem dX1_jolt_51 : decode cX1_jolt 51 = .ok (.getfield 12, 3) := by decide +kernel
theorem dX1_jolt_54 : decode cX1_jolt 54 = .ok (.iload 7, 2) := by decide +kernel
theorem dX1_jolt_56 : decode cX1_jolt 56 = .ok (.invokevirtual 106, 3) := by decide +kernel
theorem dX1_jolt_59 : decode cX1_jolt 59 = .ok (.ifCond .eq 26, 3) := by decide +kernel
theorem dX1_jolt_62 : decode cX1_jolt 62 = .ok (.aload_n 0, 1) := by decide +kernel
theorem dX1_jolt_63 : decode cX1_jolt 63 = .ok (.getfield 12, 3) := by decide +kernel
theorem dX1_jolt_66 : decode cX1_jolt 66 = .ok (.iload 7, 2) := by decide +kernel
theorem dX1_jolt_68 : decode cX1_jolt 68 = .ok (.invokevirtual 139, 3) := by decide +kernel
theorem dX1_jolt_71 : decode cX1_jolt 71 = .ok (.iload_n 3, 1) := by decide +kernel
theorem dX1_jolt_72 : decode cX1_jolt 72 = .ok (.ineg, 1) := by decide +kernel
theorem dX1_jolt_73 : decode cX1_jolt 73 = .ok (.if_icmp .lt 12, 3) := by decide +kernel
theorem dX1_jolt_76 : decode cX1_jolt 76 = .ok (.aload_n 0, 1) := by decide +kernel
theorem dX1_jolt_77 : decode cX1_jolt 77 = .ok (.iload 7, 2) := by decide +kernel
theorem dX1_jolt_79 : decode cX1_jolt 79 = .ok (.invokevirtual 109, 3) := by decide +kernel
theorem dX1_jolt_82 : decode cX1_jolt 82 = .ok (.iinc 4 1, 3) := by decide +kernel
theorem dX1_jolt_85 : decode cX1_jolt 85 = .ok (.iinc 6 1, 3) := by decide +kernel
theorem dX1_jolt_88 : decode cX1_jolt 88 = .ok (.goto (-79), 3) := by decide +kernel
theorem dX1_jolt_91 : decode cX1_jolt 91 = .ok (.iload 4, 2) := by decide +kernel
theorem dX1_jolt_93 : decode cX1_jolt 93 = .ok (.ireturn, 1) := by decide +kernel
theorem dX3_init_0 : decode cX3_init 0 = .ok (.aload_n 0, 1) := by decide +kernel
theorem dX3_init_1 : decode cX3_init 1 = .ok (.invokespecial 3, 3) := by decide +kernel
theorem dX3_init_4 : decode cX3_init 4 = .ok (.aload_n 0, 1) := by decide +kernel
theorem dX3_init_5 : decode cX3_init 5 = .ok (.new 9, 3) := by decide +kernel
theorem dX3_init_8 : decode cX3_init 8 = .ok (.dup, 1) := by decide +kernel
theorem dX3_init_9 : decode cX3_init 9 = .ok (.invokespecial 11, 3) := by decide +kernel
theorem dX3_init_12 : decode cX3_init 12 = .ok (.putfield 12, 3) := by decide +kernel
theorem dX3_init_15 : decode cX3_init 15 = .ok (.return_, 1) := by decide +kernel
theorem dX3_leastStrain_0 : decode cX3_leastStrain 0 = .ok (.aload_n 0, 1) := by decide +kernel
theorem dX3_leastStrain_1 : decode cX3_leastStrain 1 = .ok (.getfield 12, 3) := by decide +kernel
theorem dX3_leastStrain_4 : decode cX3_leastStrain 4 = .ok (.aload_n 1, 1) := by decide +kernel
theorem dX3_leastStrain_5 : decode cX3_leastStrain 5 = .ok (.invokevirtual 18, 3) := by decide +kernel
theorem dX3_leastStrain_8 : decode cX3_leastStrain 8 = .ok (.aload_n 0, 1) := by decide +kernel
theorem dX3_leastStrain_9 : decode cX3_leastStrain 9 = .ok (.getfield 12, 3) := by decide +kernel
theorem dX3_leastStrain_12 : decode cX3_leastStrain 12 = .ok (.getfield 22, 3) := by decide +kernel
theorem dX3_leastStrain_15 : decode cX3_leastStrain 15 = .ok (.astore_n 3, 1) := by decide +kernel
theorem dX3_leastStrain_16 : decode cX3_leastStrain 16 = .ok (.aload_n 3, 1) := by decide +kernel
theorem dX3_leastStrain_17 : decode cX3_leastStrain 17 = .ok (.invokevirtual 26, 3) := by decide +kernel
theorem dX3_leastStrain_20 : decode cX3_leastStrain 20 = .ok (.istore 4, 2) := by decide +kernel
theorem dX3_leastStrain_22 : decode cX3_leastStrain 22 = .ok (.iload_n 2, 1) := by decide +kernel
theorem dX3_leastStrain_23 : decode cX3_leastStrain 23 = .ok (.iconst 1, 1) := by decide +kernel
theorem dX3_leastStrain_24 : decode cX3_leastStrain 24 = .ok (.if_icmp .ge 6, 3) := by decide +kernel
theorem dX3_leastStrain_27 : decode cX3_leastStrain 27 = .ok (.iload 4, 2) := by decide +kernel
theorem dX3_leastStrain_29 : decode cX3_leastStrain 29 = .ok (.ireturn, 1) := by decide +kernel
theorem dX3_leastStrain_30 : decode cX3_leastStrain 30 = .ok (.aload_n 3, 1) := by decide +kernel
theorem dX3_leastStrain_31 : decode cX3_leastStrain 31 = .ok (.invokestatic 32, 3) := by decide +kernel
theorem dX3_leastStrain_34 : decode cX3_leastStrain 34 = .ok (.istore 5, 2) := by decide +kernel
theorem dX3_leastStrain_36 : decode cX3_leastStrain 36 = .ok (.iconst 0, 1) := by decide +kernel
theorem dX3_leastStrain_37 : decode cX3_leastStrain 37 = .ok (.istore 6, 2) := by decide +kernel
theorem dX3_leastStrain_39 : decode cX3_leastStrain 39 = .ok (.iload 6, 2) := by decide +kernel
theorem dX3_leastStrain_41 : decode cX3_leastStrain 41 = .ok (.sipush 144, 3) := by decide +kernel
theorem dX3_leastStrain_44 : decode cX3_leastStrain 44 = .ok (.if_icmp .ge 66, 3) := by decide +kernel
theorem dX3_leastStrain_47 : decode cX3_leastStrain 47 = .ok (.iload_n 2, 1) := by decide +kernel
theorem dX3_leastStrain_48 : decode cX3_leastStrain 48 = .ok (.iconst 1, 1) := by decide +kernel
theorem dX3_leastStrain_49 : decode cX3_leastStrain 49 = .ok (.if_icmp .le 61, 3) := by decide +kernel
theorem dX3_leastStrain_52 : decode cX3_leastStrain 52 = .ok (.aload_n 3, 1) := by decide +kernel
theorem dX3_leastStrain_53 : decode cX3_leastStrain 53 = .ok (.iload 6, 2) := by decide +kernel
theorem dX3_leastStrain_55 : decode cX3_leastStrain 55 = .ok (.invokevirtual 36, 3) := by decide +kernel
theorem dX3_leastStrain_58 : decode cX3_leastStrain 58 = .ok (.ifCond .eq 46, 3) := by decide +kernel
theorem dX3_leastStrain_61 : decode cX3_leastStrain 61 = .ok (.aload_n 3, 1) := by decide +kernel
theorem dX3_leastStrain_62 : decode cX3_leastStrain 62 = .ok (.iload 6, 2) := by decide +kernel
theorem dX3_leastStrain_64 : decode cX3_leastStrain 64 = .ok (.invokevirtual 40, 3) := by decide +kernel
theorem dX3_leastStrain_67 : decode cX3_leastStrain 67 = .ok (.ifCond .eq 37, 3) := by decide +kernel
theorem dX3_leastStrain_70 : decode cX3_leastStrain 70 = .ok (.aload_n 3, 1) := by decide +kernel
theorem dX3_leastStrain_71 : decode cX3_leastStrain 71 = .ok (.iload 6, 2) := by decide +kernel
theorem dX3_leastStrain_73 : decode cX3_leastStrain 73 = .ok (.invokevirtual 43, 3) := by decide +kernel
theorem dX3_leastStrain_76 : decode cX3_leastStrain 76 = .ok (.istore 7, 2) := by decide +kernel
theorem dX3_leastStrain_78 : decode cX3_leastStrain 78 = .ok (.aload_n 3, 1) := by decide +kernel
theorem dX3_leastStrain_79 : decode cX3_leastStrain 79 = .ok (.iload 6, 2) := by decide +kernel
theorem dX3_leastStrain_81 : decode cX3_leastStrain 81 = .ok (.invokevirtual 47, 3) := by decide +kernel
theorem dX3_leastStrain_84 : decode cX3_leastStrain 84 = .ok (.iload 5, 2) := by decide +kernel
theorem dX3_leastStrain_86 : decode cX3_leastStrain 86 = .ok (.iload 7, 2) := by decide +kernel
theorem dX3_leastStrain_88 : decode cX3_leastStrain 88 = .ok (.aload_n 3, 1) := by decide +kernel
theorem dX3_leastStrain_89 : decode cX3_leastStrain 89 = .ok (.invokestatic 32, 3) := by decide +kernel
theorem dX3_leastStrain_92 : decode cX3_leastStrain 92 = .ok (.iadd, 1) := by decide +kernel
theorem dX3_leastStrain_93 : decode cX3_leastStrain 93 = .ok (.invokestatic 51, 3) := by decide +kernel
theorem dX3_leastStrain_96 : decode cX3_leastStrain 96 = .ok (.istore 5, 2) := by decide +kernel
theorem dX3_leastStrain_98 : decode cX3_leastStrain 98 = .ok (.aload_n 3, 1) := by decide +kernel
theorem dX3_leastStrain_99 : decode cX3_leastStrain 99 = .ok (.iload 6, 2) := by decide +kernel
theorem dX3_leastStrain_101 : decode cX3_leastStrain 101 = .ok (.invokevirtual 47, 3) := by decide +kernel
theorem dX3_leastStrain_104 : decode cX3_leastStrain 104 = .ok (.iinc 6 1, 3) := by decide +kernel
theorem dX3_leastStrain_107 : decode cX3_leastStrain 107 = .ok (.goto (-68), 3) := by decide +kernel
theorem dX3_leastStrain_110 : decode cX3_leastStrain 110 = .ok (.iload 4, 2) := by decide +kernel
theorem dX3_leastStrain_112 : decode cX3_leastStrain 112 = .ok (.iload 5, 2) := by decide +kernel
theorem dX3_leastStrain_114 : decode cX3_leastStrain 114 = .ok (.isub, 1) := by decide +kernel
theorem dX3_leastStrain_115 : decode cX3_leastStrain 115 = .ok (.ireturn, 1) := by decide +kernel
theorem dX3_mostEased_0 : decode cX3_mostEased 0 = .ok (.aload_n 0, 1) := by decide +kernel
theorem dX3_mostEased_1 : decode cX3_mostEased 1 = .ok (.invokevirtual 57, 3) := by decide +kernel
theorem dX3_mostEased_4 : decode cX3_mostEased 4 = .ok (.istore_n 1, 1) := by decide +kernel
theorem dX3_mostEased_5 : decode cX3_mostEased 5 = .ok (.iload_n 1, 1) := by decide +kernel
theorem dX3_mostEased_6 : decode cX3_mostEased 6 = .ok (.ifCond .ge 7, 3) := by decide +kernel
theorem dX3_mostEased_9 : decode cX3_mostEased 9 = .ok (.iconst 0, 1) := by decide +kernel
theorem dX3_mostEased_10 : decode cX3_mostEased 10 = .ok (.goto 8, 3) := by decide +kernel
theorem dX3_mostEased_13 : decode cX3_mostEased 13 = .ok (.aload_n 0, 1) := by decide +kernel
theorem dX3_mostEased_14 : decode cX3_mostEased 14 = .ok (.iload_n 1, 1) := by decide +kernel
theorem dX3_mostEased_15 : decode cX3_mostEased 15 = .ok (.invokevirtual 43, 3) := by decide +kernel
theorem dX3_mostEased_18 : decode cX3_mostEased 18 = .ok (.ireturn, 1) := by decide +kernel
theorem dX3_oneSwapTo_0 : decode cX3_oneSwapTo 0 = .ok (.aload_n 1, 1) := by decide +kernel
theorem dX3_oneSwapTo_1 : decode cX3_oneSwapTo 1 = .ok (.getfield 22, 3) := by decide +kernel
theorem dX3_oneSwapTo_4 : decode cX3_oneSwapTo 4 = .ok (.iload_n 2, 1) := by decide +kernel
theorem dX3_oneSwapTo_5 : decode cX3_oneSwapTo 5 = .ok (.iload_n 3, 1) := by decide +kernel
theorem dX3_oneSwapTo_6 : decode cX3_oneSwapTo 6 = .ok (.invokestatic 60, 3) := by decide +kernel
theorem dX3_oneSwapTo_9 : decode cX3_oneSwapTo 9 = .ok (.ireturn, 1) := by decide +kernel
theorem dX3_twoSwapsTo_0 : decode cX3_twoSwapsTo 0 = .ok (.aload_n 0, 1) := by decide +kernel
theorem dX3_twoSwapsTo_1 : decode cX3_twoSwapsTo 1 = .ok (.getfield 12, 3) := by decide +kernel
theorem dX3_twoSwapsTo_4 : decode cX3_twoSwapsTo 4 = .ok (.aload_n 1, 1) := by decide +kernel
theorem dX3_twoSwapsTo_5 : decode cX3_twoSwapsTo 5 = .ok (.invokevirtual 18, 3) := by decide +kernel
theorem dX3_twoSwapsTo_8 : decode cX3_twoSwapsTo 8 = .ok (.aload_n 0, 1) := by decide +kernel
theorem dX3_twoSwapsTo_9 : decode cX3_twoSwapsTo 9 = .ok (.getfield 12, 3) := by decide +kernel
theorem dX3_twoSwapsTo_12 : decode cX3_twoSwapsTo 12 = .ok (.getfield 22, 3) := by decide +kernel
theorem dX3_twoSwapsTo_15 : decode cX3_twoSwapsTo 15 = .ok (.astore 4, 2) := by decide +kernel
theorem dX3_twoSwapsTo_17 : decode cX3_twoSwapsTo 17 = .ok (.iconst 0, 1) := by decide +kernel
theorem dX3_twoSwapsTo_18 : decode cX3_twoSwapsTo 18 = .ok (.istore 5, 2) := by decide +kernel
theorem dX3_twoSwapsTo_20 : decode cX3_twoSwapsTo 20 = .ok (.iload 5, 2) := by decide +kernel
theorem dX3_twoSwapsTo_22 : decode cX3_twoSwapsTo 22 = .ok (.sipush 144, 3) := by decide +kernel
theorem dX3_twoSwapsTo_25 : decode cX3_twoSwapsTo 25 = .ok (.if_icmp .ge 56, 3) := by decide +kernel
theorem dX3_twoSwapsTo_28 : decode cX3_twoSwapsTo 28 = .ok (.aload 4, 2) := by decide +kernel
theorem dX3_twoSwapsTo_30 : decode cX3_twoSwapsTo 30 = .ok (.iload 5, 2) := by decide +kernel
theorem dX3_twoSwapsTo_32 : decode cX3_twoSwapsTo 32 = .ok (.invokevirtual 36, 3) := by decide +kernel
theorem dX3_twoSwapsTo_35 : decode cX3_twoSwapsTo 35 = .ok (.ifCond .eq 40, 3) := by decide +kernel
theorem dX3_twoSwapsTo_38 : decode cX3_twoSwapsTo 38 = .ok (.aload 4, 2) := by decide +kernel
theorem dX3_twoSwapsTo_40 : decode cX3_twoSwapsTo 40 = .ok (.iload 5, 2) := by decide +kernel
theorem dX3_twoSwapsTo_42 : decode cX3_twoSwapsTo 42 = .ok (.invokevirtual 40, 3) := by decide +kernel
theorem dX3_twoSwapsTo_45 : decode cX3_twoSwapsTo 45 = .ok (.ifCond .eq 30, 3) := by decide +kernel
theorem dX3_twoSwapsTo_48 : decode cX3_twoSwapsTo 48 = .ok (.aload 4, 2) := by decide +kernel
theorem dX3_twoSwapsTo_50 : decode cX3_twoSwapsTo 50 = .ok (.iload 5, 2) := by decide +kernel
theorem dX3_twoSwapsTo_52 : decode cX3_twoSwapsTo 52 = .ok (.invokevirtual 47, 3) := by decide +kernel
theorem dX3_twoSwapsTo_55 : decode cX3_twoSwapsTo 55 = .ok (.aload 4, 2) := by decide +kernel
theorem dX3_twoSwapsTo_57 : decode cX3_twoSwapsTo 57 = .ok (.iload_n 2, 1) := by decide +kernel
theorem dX3_twoSwapsTo_58 : decode cX3_twoSwapsTo 58 = .ok (.iload_n 3, 1) := by decide +kernel
theorem dX3_twoSwapsTo_59 : decode cX3_twoSwapsTo 59 = .ok (.invokestatic 60, 3) := by decide +kernel
theorem dX3_twoSwapsTo_62 : decode cX3_twoSwapsTo 62 = .ok (.ifCond .lt 6, 3) := by decide +kernel
theorem dX3_twoSwapsTo_65 : decode cX3_twoSwapsTo 65 = .ok (.iload 5, 2) := by decide +kernel
theorem dX3_twoSwapsTo_67 : decode cX3_twoSwapsTo 67 = .ok (.ireturn, 1) := by decide +kernel
theorem dX3_twoSwapsTo_68 : decode cX3_twoSwapsTo 68 = .ok (.aload 4, 2) := by decide +kernel
theorem dX3_twoSwapsTo_70 : decode cX3_twoSwapsTo 70 = .ok (.iload 5, 2) := by decide +kernel
theorem dX3_twoSwapsTo_72 : decode cX3_twoSwapsTo 72 = .ok (.invokevirtual 47, 3) := by decide +kernel
theorem dX3_twoSwapsTo_75 : decode cX3_twoSwapsTo 75 = .ok (.iinc 5 1, 3) := by decide +kernel
theorem dX3_twoSwapsTo_78 : decode cX3_twoSwapsTo 78 = .ok (.goto (-58), 3) := by decide +kernel
theorem dX3_twoSwapsTo_81 : decode cX3_twoSwapsTo 81 = .ok (.iconst (-1), 1) := by decide +kernel
theorem dX3_twoSwapsTo_82 : decode cX3_twoSwapsTo 82 = .ok (.ireturn, 1) := by decide +kernel
theorem dX3_swapTo_0 : decode cX3_swapTo 0 = .ok (.iconst 0, 1) := by decide +kernel
theorem dX3_swapTo_1 : decode cX3_swapTo 1 = .ok (.istore_n 3, 1) := by decide +kernel
theorem dX3_swapTo_2 : decode cX3_swapTo 2 = .ok (.iload_n 3, 1) := by decide +kernel
theorem dX3_swapTo_3 : decode cX3_swapTo 3 = .ok (.sipush 144, 3) := by decide +kernel
theorem dX3_swapTo_6 : decode cX3_swapTo 6 = .ok (.if_icmp .ge 44, 3) := by decide +kernel
theorem dX3_swapTo_9 : decode cX3_swapTo 9 = .ok (.aload_n 0, 1) := by decide +kernel
theorem dX3_swapTo_10 : decode cX3_swapTo 10 = .ok (.iload_n 3, 1) := by decide +kernel
theorem dX3_swapTo_11 : decode cX3_swapTo 11 = .ok (.invokevirtual 36, 3) := by decide +kernel
theorem dX3_swapTo_14 : decode cX3_swapTo 14 = .ok (.ifCond .eq 30, 3) := by decide +kernel
theorem dX3_swapTo_17 : decode cX3_swapTo 17 = .ok (.aload_n 0, 1) := by decide +kernel
theorem dX3_swapTo_18 : decode cX3_swapTo 18 = .ok (.getfield 64, 3) := by decide +kernel
theorem dX3_swapTo_21 : decode cX3_swapTo 21 = .ok (.iload_n 1, 1) := by decide +kernel
theorem dX3_swapTo_22 : decode cX3_swapTo 22 = .ok (.iaload, 1) := by decide +kernel
theorem dX3_swapTo_23 : decode cX3_swapTo 23 = .ok (.aload_n 0, 1) := by decide +kernel
theorem dX3_swapTo_24 : decode cX3_swapTo 24 = .ok (.iload_n 3, 1) := by decide +kernel
theorem dX3_swapTo_25 : decode cX3_swapTo 25 = .ok (.iload_n 1, 1) := by decide +kernel
theorem dX3_swapTo_26 : decode cX3_swapTo 26 = .ok (.invokestatic 68, 3) := by decide +kernel
theorem dX3_swapTo_29 : decode cX3_swapTo 29 = .ok (.iadd, 1) := by decide +kernel
theorem dX3_swapTo_30 : decode cX3_swapTo 30 = .ok (.iload_n 2, 1) := by decide +kernel
theorem dX3_swapTo_31 : decode cX3_swapTo 31 = .ok (.if_icmp .ne 13, 3) := by decide +kernel
theorem dX3_swapTo_34 : decode cX3_swapTo 34 = .ok (.aload_n 0, 1) := by decide +kernel
theorem dX3_swapTo_35 : decode cX3_swapTo 35 = .ok (.iload_n 3, 1) := by decide +kernel
theorem dX3_swapTo_36 : decode cX3_swapTo 36 = .ok (.invokevirtual 40, 3) := by decide +kernel
theorem dX3_swapTo_39 : decode cX3_swapTo 39 = .ok (.ifCond .eq 5, 3) := by decide +kernel
theorem dX3_swapTo_42 : decode cX3_swapTo 42 = .ok (.iload_n 3, 1) := by decide +kernel
theorem dX3_swapTo_43 : decode cX3_swapTo 43 = .ok (.ireturn, 1) := by decide +kernel
theorem dX3_swapTo_44 : decode cX3_swapTo 44 = .ok (.iinc 3 1, 3) := by decide +kernel
theorem dX3_swapTo_47 : decode cX3_swapTo 47 = .ok (.goto (-45), 3) := by decide +kernel
theorem dX3_swapTo_50 : decode cX3_swapTo 50 = .ok (.iconst (-1), 1) := by decide +kernel
theorem dX3_swapTo_51 : decode cX3_swapTo 51 = .ok (.ireturn, 1) := by decide +kernel
theorem dX3_gain_0 : decode cX3_gain 0 = .ok (.aload_n 0, 1) := by decide +kernel
theorem dX3_gain_1 : decode cX3_gain 1 = .ok (.getfield 71, 3) := by decide +kernel
theorem dX3_gain_4 : decode cX3_gain 4 = .ok (.iconst 2, 1) := by decide +kernel
theorem dX3_gain_5 : decode cX3_gain 5 = .ok (.iload_n 1, 1) := by decide +kernel
theorem dX3_gain_6 : decode cX3_gain 6 = .ok (.imul, 1) := by decide +kernel
theorem dX3_gain_7 : decode cX3_gain 7 = .ok (.iaload, 1) := by decide +kernel
theorem dX3_gain_8 : decode cX3_gain 8 = .ok (.iload_n 2, 1) := by decide +kernel
theorem dX3_gain_9 : decode cX3_gain 9 = .ok (.if_icmp .eq 17, 3) := by decide +kernel
theorem dX3_gain_12 : decode cX3_gain 12 = .ok (.aload_n 0, 1) := by decide +kernel
theorem dX3_gain_13 : decode cX3_gain 13 = .ok (.getfield 71, 3) := by decide +kernel
theorem dX3_gain_16 : decode cX3_gain 16 = .ok (.iconst 2, 1) := by decide +kernel
theorem dX3_gain_17 : decode cX3_gain 17 = .ok (.iload_n 1, 1) := by decide +kernel
theorem dX3_gain_18 : decode cX3_gain 18 = .ok (.imul, 1) := by decide +kernel
theorem dX3_gain_19 : decode cX3_gain 19 = .ok (.iconst 1, 1) := by decide +kernel
theorem dX3_gain_20 : decode cX3_gain 20 = .ok (.iadd, 1) := by decide +kernel
theorem dX3_gain_21 : decode cX3_gain 21 = .ok (.iaload, 1) := by decide +kernel
theorem dX3_gain_22 : decode cX3_gain 22 = .ok (.iload_n 2, 1) := by decide +kernel
theorem dX3_gain_23 : decode cX3_gain 23 = .ok (.if_icmp .ne 5, 3) := by decide +kernel
theorem dX3_gain_26 : decode cX3_gain 26 = .ok (.iconst (-1), 1) := by decide +kernel
theorem dX3_gain_27 : decode cX3_gain 27 = .ok (.ireturn, 1) := by decide +kernel
theorem dX3_gain_28 : decode cX3_gain 28 = .ok (.aload_n 0, 1) := by decide +kernel
theorem dX3_gain_29 : decode cX3_gain 29 = .ok (.iconst 2, 1) := by decide +kernel
theorem dX3_gain_30 : decode cX3_gain 30 = .ok (.iload_n 1, 1) := by decide +kernel
theorem dX3_gain_31 : decode cX3_gain 31 = .ok (.imul, 1) := by decide +kernel
theorem dX3_gain_32 : decode cX3_gain 32 = .ok (.invokevirtual 74, 3) := by decide +kernel
theorem dX3_gain_35 : decode cX3_gain 35 = .ok (.iload_n 2, 1) := by decide +kernel
theorem dX3_gain_36 : decode cX3_gain 36 = .ok (.if_icmp .eq 16, 3) := by decide +kernel
theorem dX3_gain_39 : decode cX3_gain 39 = .ok (.aload_n 0, 1) := by decide +kernel
theorem dX3_gain_40 : decode cX3_gain 40 = .ok (.iconst 2, 1) := by decide +kernel
theorem dX3_gain_41 : decode cX3_gain 41 = .ok (.iload_n 1, 1) := by decide +kernel
theorem dX3_gain_42 : decode cX3_gain 42 = .ok (.imul, 1) := by decide +kernel
theorem dX3_gain_43 : decode cX3_gain 43 = .ok (.iconst 1, 1) := by decide +kernel
theorem dX3_gain_44 : decode cX3_gain 44 = .ok (.iadd, 1) := by decide +kernel
theorem dX3_gain_45 : decode cX3_gain 45 = .ok (.invokevirtual 74, 3) := by decide +kernel
theorem dX3_gain_48 : decode cX3_gain 48 = .ok (.iload_n 2, 1) := by decide +kernel
theorem dX3_gain_49 : decode cX3_gain 49 = .ok (.if_icmp .ne 7, 3) := by decide +kernel
theorem dX3_gain_52 : decode cX3_gain 52 = .ok (.iconst 1, 1) := by decide +kernel
theorem dX3_gain_53 : decode cX3_gain 53 = .ok (.goto 4, 3) := by decide +kernel
theorem dX3_gain_56 : decode cX3_gain 56 = .ok (.iconst 0, 1) := by decide +kernel
theorem dX3_gain_57 : decode cX3_gain 57 = .ok (.ireturn, 1) := by decide +kernel
theorem dX3_stepsToAlike_0 : decode cX3_stepsToAlike 0 = .ok (.aload_n 0, 1) := by decide +kernel
theorem dX3_stepsToAlike_1 : decode cX3_stepsToAlike 1 = .ok (.getfield 12, 3) := by decide +kernel
theorem dX3_stepsToAlike_4 : decode cX3_stepsToAlike 4 = .ok (.aload_n 1, 1) := by decide +kernel
theorem dX3_stepsToAlike_5 : decode cX3_stepsToAlike 5 = .ok (.invokevirtual 18, 3) := by decide +kernel
theorem dX3_stepsToAlike_8 : decode cX3_stepsToAlike 8 = .ok (.iconst 1, 1) := by decide +kernel
theorem dX3_stepsToAlike_9 : decode cX3_stepsToAlike 9 = .ok (.istore_n 2, 1) := by decide +kernel
theorem dX3_stepsToAlike_10 : decode cX3_stepsToAlike 10 = .ok (.iload_n 2, 1) := by decide +kernel
theorem dX3_stepsToAlike_11 : decode cX3_stepsToAlike 11 = .ok (.bipush 50, 2) := by decide +kernel
theorem dX3_stepsToAlike_13 : decode cX3_stepsToAlike 13 = .ok (.if_icmp .gt 35, 3) := by decide +kernel
theorem dX3_stepsToAlike_16 : decode cX3_stepsToAlike 16 = .ok (.aload_n 0, 1) := by decide +kernel
theorem dX3_stepsToAlike_17 : decode cX3_stepsToAlike 17 = .ok (.getfield 12, 3) := by decide +kernel
theorem dX3_stepsToAlike_20 : decode cX3_stepsToAlike 20 = .ok (.invokevirtual 77, 3) := by decide +kernel
theorem dX3_stepsToAlike_23 : decode cX3_stepsToAlike 23 = .ok (.aload_n 0, 1) := by decide +kernel
theorem dX3_stepsToAlike_24 : decode cX3_stepsToAlike 24 = .ok (.getfield 12, 3) := by decide +kernel
theorem dX3_stepsToAlike_27 : decode cX3_stepsToAlike 27 = .ok (.getfield 22, 3) := by decide +kernel
theorem dX3_stepsToAlike_30 : decode cX3_stepsToAlike 30 = .ok (.aload_n 1, 1) := by decide +kernel
theorem dX3_stepsToAlike_31 : decode cX3_stepsToAlike 31 = .ok (.getfield 22, 3) := by decide +kernel
theorem dX3_stepsToAlike_34 : decode cX3_stepsToAlike 34 = .ok (.invokevirtual 80, 3) := by decide +kernel
theorem dX3_stepsToAlike_37 : decode cX3_stepsToAlike 37 = .ok (.ifCond .eq 5, 3) := by decide +kernel
theorem dX3_stepsToAlike_40 : decode cX3_stepsToAlike 40 = .ok (.iload_n 2, 1) := by decide +kernel
theorem dX3_stepsToAlike_41 : decode cX3_stepsToAlike 41 = .ok (.ireturn, 1) := by decide +kernel
theorem dX3_stepsToAlike_42 : decode cX3_stepsToAlike 42 = .ok (.iinc 2 1, 3) := by decide +kernel
theorem dX3_stepsToAlike_45 : decode cX3_stepsToAlike 45 = .ok (.goto (-35), 3) := by decide +kernel
theorem dX3_stepsToAlike_48 : decode cX3_stepsToAlike 48 = .ok (.iconst (-1), 1) := by decide +kernel
theorem dX3_stepsToAlike_49 : decode cX3_stepsToAlike 49 = .ok (.ireturn, 1) := by decide +kernel
theorem dX3_stepsToFew_0 : decode cX3_stepsToFew 0 = .ok (.aload_n 0, 1) := by decide +kernel
theorem dX3_stepsToFew_1 : decode cX3_stepsToFew 1 = .ok (.getfield 12, 3) := by decide +kernel
theorem dX3_stepsToFew_4 : decode cX3_stepsToFew 4 = .ok (.aload_n 1, 1) := by decide +kernel
theorem dX3_stepsToFew_5 : decode cX3_stepsToFew 5 = .ok (.invokevirtual 18, 3) := by decide +kernel
theorem dX3_stepsToFew_8 : decode cX3_stepsToFew 8 = .ok (.iconst 0, 1) := by decide +kernel
theorem dX3_stepsToFew_9 : decode cX3_stepsToFew 9 = .ok (.istore_n 3, 1) := by decide +kernel
theorem dX3_stepsToFew_10 : decode cX3_stepsToFew 10 = .ok (.iload_n 3, 1) := by decide +kernel
theorem dX3_stepsToFew_11 : decode cX3_stepsToFew 11 = .ok (.bipush 99, 2) := by decide +kernel
theorem dX3_stepsToFew_13 : decode cX3_stepsToFew 13 = .ok (.if_icmp .gt 32, 3) := by decide +kernel
theorem dX3_stepsToFew_16 : decode cX3_stepsToFew 16 = .ok (.aload_n 0, 1) := by decide +kernel
theorem dX3_stepsToFew_17 : decode cX3_stepsToFew 17 = .ok (.getfield 12, 3) := by decide +kernel
theorem dX3_stepsToFew_20 : decode cX3_stepsToFew 20 = .ok (.getfield 22, 3) := by decide +kernel
theorem dX3_stepsToFew_23 : decode cX3_stepsToFew 23 = .ok (.invokevirtual 84, 3) := by decide +kernel
theorem dX3_stepsToFew_26 : decode cX3_stepsToFew 26 = .ok (.iload_n 2, 1) := by decide +kernel
theorem dX3_stepsToFew_27 : decode cX3_stepsToFew 27 = .ok (.if_icmp .gt 5, 3) := by decide +kernel
theorem dX3_stepsToFew_30 : decode cX3_stepsToFew 30 = .ok (.iload_n 3, 1) := by decide +kernel
theorem dX3_stepsToFew_31 : decode cX3_stepsToFew 31 = .ok (.ireturn, 1) := by decide +kernel
theorem dX3_stepsToFew_32 : decode cX3_stepsToFew 32 = .ok (.aload_n 0, 1) := by decide +kernel
theorem dX3_stepsToFew_33 : decode cX3_stepsToFew 33 = .ok (.getfield 12, 3) := by decide +kernel
theorem dX3_stepsToFew_36 : decode cX3_stepsToFew 36 = .ok (.invokevirtual 77, 3) := by decide +kernel
theorem dX3_stepsToFew_39 : decode cX3_stepsToFew 39 = .ok (.iinc 3 1, 3) := by decide +kernel
theorem dX3_stepsToFew_42 : decode cX3_stepsToFew 42 = .ok (.goto (-32), 3) := by decide +kernel
theorem dX3_stepsToFew_45 : decode cX3_stepsToFew 45 = .ok (.iconst (-1), 1) := by decide +kernel
theorem dX3_stepsToFew_46 : decode cX3_stepsToFew 46 = .ok (.ireturn, 1) := by decide +kernel
theorem dX3_bestSeed_0 : decode cX3_bestSeed 0 = .ok (.iconst (-1), 1) := by decide +kernel
theorem dX3_bestSeed_1 : decode cX3_bestSeed 1 = .ok (.istore 6, 2) := by decide +kernel
theorem dX3_bestSeed_3 : decode cX3_bestSeed 3 = .ok (.iconst 0, 1) := by decide +kernel
theorem dX3_bestSeed_4 : decode cX3_bestSeed 4 = .ok (.istore 7, 2) := by decide +kernel
theorem dX3_bestSeed_6 : decode cX3_bestSeed 6 = .ok (.iload 7, 2) := by decide +kernel
theorem dX3_bestSeed_8 : decode cX3_bestSeed 8 = .ok (.iload_n 3, 1) := by decide +kernel
theorem dX3_bestSeed_9 : decode cX3_bestSeed 9 = .ok (.if_icmp .ge 79, 3) := by decide +kernel
theorem dX3_bestSeed_12 : decode cX3_bestSeed 12 = .ok (.aload_n 0, 1) := by decide +kernel
theorem dX3_bestSeed_13 : decode cX3_bestSeed 13 = .ok (.getfield 12, 3) := by decide +kernel
theorem dX3_bestSeed_16 : decode cX3_bestSeed 16 = .ok (.aload_n 1, 1) := by decide +kernel
theorem dX3_bestSeed_17 : decode cX3_bestSeed 17 = .ok (.invokevirtual 18, 3) := by decide +kernel
theorem dX3_bestSeed_20 : decode cX3_bestSeed 20 = .ok (.aload_n 0, 1) := by decide +kernel
theorem dX3_bestSeed_21 : decode cX3_bestSeed 21 = .ok (.getfield 12, 3) := by decide +kernel
theorem dX3_bestSeed_24 : decode cX3_bestSeed 24 = .ok (.iload_n 2, 1) := by decide +kernel
theorem dX3_bestSeed_25 : decode cX3_bestSeed 25 = .ok (.iload 7, 2) := by decide +kernel
theorem dX3_bestSeed_27 : decode cX3_bestSeed 27 = .ok (.iadd, 1) := by decide +kernel
theorem dX3_bestSeed_28 : decode cX3_bestSeed 28 = .ok (.iload 4, 2) := by decide +kernel
theorem dX3_bestSeed_30 : decode cX3_bestSeed 30 = .ok (.iload 5, 2) := by decide +kernel
theorem dX3_bestSeed_32 : decode cX3_bestSeed 32 = .ok (.invokevirtual 87, 3) := by decide +kernel
theorem dX3_bestSeed_35 : decode cX3_bestSeed 35 = .ok (.pop, 1) := by decide +kernel
theorem dX3_bestSeed_36 : decode cX3_bestSeed 36 = .ok (.aload_n 0, 1) := by decide +kernel
theorem dX3_bestSeed_37 : decode cX3_bestSeed 37 = .ok (.getfield 12, 3) := by decide +kernel
theorem dX3_bestSeed_40 : decode cX3_bestSeed 40 = .ok (.invokevirtual 91, 3) := by decide +kernel
theorem dX3_bestSeed_43 : decode cX3_bestSeed 43 = .ok (.pop, 1) := by decide +kernel
theorem dX3_bestSeed_44 : decode cX3_bestSeed 44 = .ok (.aload_n 0, 1) := by decide +kernel
theorem dX3_bestSeed_45 : decode cX3_bestSeed 45 = .ok (.getfield 12, 3) := by decide +kernel
theorem dX3_bestSeed_48 : decode cX3_bestSeed 48 = .ok (.getfield 22, 3) := by decide +kernel
theorem dX3_bestSeed_51 : decode cX3_bestSeed 51 = .ok (.invokevirtual 26, 3) := by decide +kernel
theorem dX3_bestSeed_54 : decode cX3_bestSeed 54 = .ok (.istore 8, 2) := by decide +kernel
theorem dX3_bestSeed_56 : decode cX3_bestSeed 56 = .ok (.iload 6, 2) := by decide +kernel
theorem dX3_bestSeed_58 : decode cX3_bestSeed 58 = .ok (.ifCond .lt 12, 3) := by decide +kernel
theorem dX3_bestSeed_61 : decode cX3_bestSeed 61 = .ok (.iload 8, 2) := by decide +kernel
theorem dX3_bestSeed_63 : decode cX3_bestSeed 63 = .ok (.aload_n 0, 1) := by decide +kernel
theorem dX3_bestSeed_64 : decode cX3_bestSeed 64 = .ok (.getfield 94, 3) := by decide +kernel
theorem dX3_bestSeed_67 : decode cX3_bestSeed 67 = .ok (.if_icmp .ge 15, 3) := by decide +kernel
theorem dX3_bestSeed_70 : decode cX3_bestSeed 70 = .ok (.iload_n 2, 1) := by decide +kernel
theorem dX3_bestSeed_71 : decode cX3_bestSeed 71 = .ok (.iload 7, 2) := by decide +kernel
theorem dX3_bestSeed_73 : decode cX3_bestSeed 73 = .ok (.iadd, 1) := by decide +kernel
theorem dX3_bestSeed_74 : decode cX3_bestSeed 74 = .ok (.istore 6, 2) := by decide +kernel
theorem dX3_bestSeed_76 : decode cX3_bestSeed 76 = .ok (.aload_n 0, 1) := by decide +kernel
theorem dX3_bestSeed_77 : decode cX3_bestSeed 77 = .ok (.iload 8, 2) := by decide +kernel
theorem dX3_bestSeed_79 : decode cX3_bestSeed 79 = .ok (.putfield 94, 3) := by decide +kernel
theorem dX3_bestSeed_82 : decode cX3_bestSeed 82 = .ok (.iinc 7 1, 3) := by decide +kernel
theorem dX3_bestSeed_85 : decode cX3_bestSeed 85 = .ok (.goto (-79), 3) := by decide +kernel
theorem dX3_bestSeed_88 : decode cX3_bestSeed 88 = .ok (.iload 6, 2) := by decide +kernel
theorem dX3_bestSeed_90 : decode cX3_bestSeed 90 = .ok (.ireturn, 1) := by decide +kernel
theorem dX3_swapsToRest_0 : decode cX3_swapsToRest 0 = .ok (.aload_n 0, 1) := by decide +kernel
theorem dX3_swapsToRest_1 : decode cX3_swapsToRest 1 = .ok (.getfield 12, 3) := by decide +kernel
theorem dX3_swapsToRest_4 : decode cX3_swapsToRest 4 = .ok (.aload_n 1, 1) := by decide +kernel
theorem dX3_swapsToRest_5 : decode cX3_swapsToRest 5 = .ok (.invokevirtual 18, 3) := by decide +kernel
theorem dX3_swapsToRest_8 : decode cX3_swapsToRest 8 = .ok (.aload_n 0, 1) := by decide +kernel
theorem dX3_swapsToRest_9 : decode cX3_swapsToRest 9 = .ok (.getfield 12, 3) := by decide +kernel
theorem dX3_swapsToRest_12 : decode cX3_swapsToRest 12 = .ok (.invokevirtual 91, 3) := by decide +kernel
theorem dX3_swapsToRest_15 : decode cX3_swapsToRest 15 = .ok (.ireturn, 1) := by decide +kernel
theorem dX3_goOnFrom_0 : decode cX3_goOnFrom 0 = .ok (.aload_n 0, 1) := by decide +kernel
theorem dX3_goOnFrom_1 : decode cX3_goOnFrom 1 = .ok (.getfield 12, 3) := by decide +kernel
theorem dX3_goOnFrom_4 : decode cX3_goOnFrom 4 = .ok (.aload_n 1, 1) := by decide +kernel
theorem dX3_goOnFrom_5 : decode cX3_goOnFrom 5 = .ok (.invokevirtual 18, 3) := by decide +kernel
theorem dX3_goOnFrom_8 : decode cX3_goOnFrom 8 = .ok (.iconst 0, 1) := by decide +kernel
theorem dX3_goOnFrom_9 : decode cX3_goOnFrom 9 = .ok (.istore_n 3, 1) := by decide +kernel
theorem dX3_goOnFrom_10 : decode cX3_goOnFrom 10 = .ok (.iload_n 3, 1) := by decide +kernel
theorem dX3_goOnFrom_11 : decode cX3_goOnFrom 11 = .ok (.iload_n 2, 1) := by decide +kernel
theorem dX3_goOnFrom_12 : decode cX3_goOnFrom 12 = .ok (.if_icmp .ge 16, 3) := by decide +kernel
theorem dX3_goOnFrom_15 : decode cX3_goOnFrom 15 = .ok (.aload_n 0, 1) := by decide +kernel
theorem dX3_goOnFrom_16 : decode cX3_goOnFrom 16 = .ok (.getfield 12, 3) := by decide +kernel
theorem dX3_goOnFrom_19 : decode cX3_goOnFrom 19 = .ok (.invokevirtual 77, 3) := by decide +kernel
theorem dX3_goOnFrom_22 : decode cX3_goOnFrom 22 = .ok (.iinc 3 1, 3) := by decide +kernel
theorem dX3_goOnFrom_25 : decode cX3_goOnFrom 25 = .ok (.goto (-15), 3) := by decide +kernel
theorem dX3_goOnFrom_28 : decode cX3_goOnFrom 28 = .ok (.return_, 1) := by decide +kernel
theorem dX3_stepsToGone_0 : decode cX3_stepsToGone 0 = .ok (.aload_n 0, 1) := by decide +kernel
theorem dX3_stepsToGone_1 : decode cX3_stepsToGone 1 = .ok (.getfield 12, 3) := by decide +kernel
theorem dX3_stepsToGone_4 : decode cX3_stepsToGone 4 = .ok (.aload_n 1, 1) := by decide +kernel
theorem dX3_stepsToGone_5 : decode cX3_stepsToGone 5 = .ok (.invokevirtual 18, 3) := by decide +kernel
theorem dX3_stepsToGone_8 : decode cX3_stepsToGone 8 = .ok (.iconst 1, 1) := by decide +kernel
theorem dX3_stepsToGone_9 : decode cX3_stepsToGone 9 = .ok (.istore_n 3, 1) := by decide +kernel
theorem dX3_stepsToGone_10 : decode cX3_stepsToGone 10 = .ok (.iload_n 3, 1) := by decide +kernel
theorem dX3_stepsToGone_11 : decode cX3_stepsToGone 11 = .ok (.bipush 50, 2) := by decide +kernel
theorem dX3_stepsToGone_13 : decode cX3_stepsToGone 13 = .ok (.if_icmp .gt 32, 3) := by decide +kernel
theorem dX3_stepsToGone_16 : decode cX3_stepsToGone 16 = .ok (.aload_n 0, 1) := by decide +kernel
theorem dX3_stepsToGone_17 : decode cX3_stepsToGone 17 = .ok (.getfield 12, 3) := by decide +kernel
theorem dX3_stepsToGone_20 : decode cX3_stepsToGone 20 = .ok (.invokevirtual 77, 3) := by decide +kernel
theorem dX3_stepsToGone_23 : decode cX3_stepsToGone 23 = .ok (.aload_n 0, 1) := by decide +kernel
theorem dX3_stepsToGone_24 : decode cX3_stepsToGone 24 = .ok (.getfield 12, 3) := by decide +kernel
theorem dX3_stepsToGone_27 : decode cX3_stepsToGone 27 = .ok (.getfield 22, 3) := by decide +kernel
theorem dX3_stepsToGone_30 : decode cX3_stepsToGone 30 = .ok (.iload_n 2, 1) := by decide +kernel
theorem dX3_stepsToGone_31 : decode cX3_stepsToGone 31 = .ok (.invokevirtual 98, 3) := by decide +kernel
theorem dX3_stepsToGone_34 : decode cX3_stepsToGone 34 = .ok (.ifCond .ne 5, 3) := by decide +kernel
theorem dX3_stepsToGone_37 : decode cX3_stepsToGone 37 = .ok (.iload_n 3, 1) := by decide +kernel
theorem dX3_stepsToGone_38 : decode cX3_stepsToGone 38 = .ok (.ireturn, 1) := by decide +kernel
theorem dX3_stepsToGone_39 : decode cX3_stepsToGone 39 = .ok (.iinc 3 1, 3) := by decide +kernel
theorem dX3_stepsToGone_42 : decode cX3_stepsToGone 42 = .ok (.goto (-32), 3) := by decide +kernel
theorem dX3_stepsToGone_45 : decode cX3_stepsToGone 45 = .ok (.iconst (-1), 1) := by decide +kernel
theorem dX3_stepsToGone_46 : decode cX3_stepsToGone 46 = .ok (.ireturn, 1) := by decide +kernel
theorem dX3_stepsToFirst_0 : decode cX3_stepsToFirst 0 = .ok (.aload_n 0, 1) := by decide +kernel
theorem dX3_stepsToFirst_1 : decode cX3_stepsToFirst 1 = .ok (.getfield 12, 3) := by decide +kernel
theorem dX3_stepsToFirst_4 : decode cX3_stepsToFirst 4 = .ok (.aload_n 1, 1) := by decide +kernel
theorem dX3_stepsToFirst_5 : decode cX3_stepsToFirst 5 = .ok (.invokevirtual 18, 3) := by decide +kernel
theorem dX3_stepsToFirst_8 : decode cX3_stepsToFirst 8 = .ok (.iconst 1, 1) := by decide +kernel
theorem dX3_stepsToFirst_9 : decode cX3_stepsToFirst 9 = .ok (.istore_n 3, 1) := by decide +kernel
theorem dX3_stepsToFirst_10 : decode cX3_stepsToFirst 10 = .ok (.iload_n 3, 1) := by decide +kernel
theorem dX3_stepsToFirst_11 : decode cX3_stepsToFirst 11 = .ok (.bipush 50, 2) := by decide +kernel
theorem dX3_stepsToFirst_13 : decode cX3_stepsToFirst 13 = .ok (.if_icmp .gt 70, 3) := by decide +kernel
theorem dX3_stepsToFirst_16 : decode cX3_stepsToFirst 16 = .ok (.aload_n 0, 1) := by decide +kernel
theorem dX3_stepsToFirst_17 : decode cX3_stepsToFirst 17 = .ok (.getfield 12, 3) := by decide +kernel
theorem dX3_stepsToFirst_20 : decode cX3_stepsToFirst 20 = .ok (.invokevirtual 77, 3) := by decide +kernel
theorem dX3_stepsToFirst_23 : decode cX3_stepsToFirst 23 = .ok (.iload_n 2, 1) := by decide +kernel
theorem dX3_stepsToFirst_24 : decode cX3_stepsToFirst 24 = .ok (.ifCond .ne 25, 3) := by decide +kernel
theorem dX3_stepsToFirst_27 : decode cX3_stepsToFirst 27 = .ok (.aload_n 0, 1) := by decide +kernel
theorem dX3_stepsToFirst_28 : decode cX3_stepsToFirst 28 = .ok (.getfield 12, 3) := by decide +kernel
theorem dX3_stepsToFirst_31 : decode cX3_stepsToFirst 31 = .ok (.getfield 101, 3) := by decide +kernel
theorem dX3_stepsToFirst_34 : decode cX3_stepsToFirst 34 = .ok (.aload_n 1, 1) := by decide +kernel
theorem dX3_stepsToFirst_35 : decode cX3_stepsToFirst 35 = .ok (.getfield 101, 3) := by decide +kernel
theorem dX3_stepsToFirst_38 : decode cX3_stepsToFirst 38 = .ok (.if_icmp .le 7, 3) := by decide +kernel
theorem dX3_stepsToFirst_41 : decode cX3_stepsToFirst 41 = .ok (.iconst 1, 1) := by decide +kernel
theorem dX3_stepsToFirst_42 : decode cX3_stepsToFirst 42 = .ok (.goto 26, 3) := by decide +kernel
theorem dX3_stepsToFirst_45 : decode cX3_stepsToFirst 45 = .ok (.iconst 0, 1) := by decide +kernel
theorem dX3_stepsToFirst_46 : decode cX3_stepsToFirst 46 = .ok (.goto 22, 3) := by decide +kernel
theorem dX3_stepsToFirst_49 : decode cX3_stepsToFirst 49 = .ok (.aload_n 0, 1) := by decide +kernel
theorem dX3_stepsToFirst_50 : decode cX3_stepsToFirst 50 = .ok (.getfield 12, 3) := by decide +kernel
theorem dX3_stepsToFirst_53 : decode cX3_stepsToFirst 53 = .ok (.getfield 104, 3) := by decide +kernel
theorem dX3_stepsToFirst_56 : decode cX3_stepsToFirst 56 = .ok (.aload_n 1, 1) := by decide +kernel
theorem dX3_stepsToFirst_57 : decode cX3_stepsToFirst 57 = .ok (.getfield 104, 3) := by decide +kernel
theorem dX3_stepsToFirst_60 : decode cX3_stepsToFirst 60 = .ok (.if_icmp .le 7, 3) := by decide +kernel
theorem dX3_stepsToFirst_63 : decode cX3_stepsToFirst 63 = .ok (.iconst 1, 1) := by decide +kernel
theorem dX3_stepsToFirst_64 : decode cX3_stepsToFirst 64 = .ok (.goto 4, 3) := by decide +kernel
theorem dX3_stepsToFirst_67 : decode cX3_stepsToFirst 67 = .ok (.iconst 0, 1) := by decide +kernel
theorem dX3_stepsToFirst_68 : decode cX3_stepsToFirst 68 = .ok (.istore 4, 2) := by decide +kernel
theorem dX3_stepsToFirst_70 : decode cX3_stepsToFirst 70 = .ok (.iload 4, 2) := by decide +kernel
theorem dX3_stepsToFirst_72 : decode cX3_stepsToFirst 72 = .ok (.ifCond .eq 5, 3) := by decide +kernel
theorem dX3_stepsToFirst_75 : decode cX3_stepsToFirst 75 = .ok (.iload_n 3, 1) := by decide +kernel
theorem dX3_stepsToFirst_76 : decode cX3_stepsToFirst 76 = .ok (.ireturn, 1) := by decide +kernel
theorem dX3_stepsToFirst_77 : decode cX3_stepsToFirst 77 = .ok (.iinc 3 1, 3) := by decide +kernel
theorem dX3_stepsToFirst_80 : decode cX3_stepsToFirst 80 = .ok (.goto (-70), 3) := by decide +kernel
theorem dX3_stepsToFirst_83 : decode cX3_stepsToFirst 83 = .ok (.iconst (-1), 1) := by decide +kernel
theorem dX3_stepsToFirst_84 : decode cX3_stepsToFirst 84 = .ok (.ireturn, 1) := by decide +kernel
theorem dX4_init_0 : decode cX4_init 0 = .ok (.aload_n 0, 1) := by decide +kernel
theorem dX4_init_1 : decode cX4_init 1 = .ok (.invokespecial 3, 3) := by decide +kernel
theorem dX4_init_4 : decode cX4_init 4 = .ok (.aload_n 0, 1) := by decide +kernel
theorem dX4_init_5 : decode cX4_init 5 = .ok (.bipush 48, 2) := by decide +kernel
theorem dX4_init_7 : decode cX4_init 7 = .ok (.newarray .int, 2) := by decide +kernel
theorem dX4_init_9 : decode cX4_init 9 = .ok (.putfield 9, 3) := by decide +kernel
theorem dX4_init_12 : decode cX4_init 12 = .ok (.aload_n 0, 1) := by decide +kernel
theorem dX4_init_13 : decode cX4_init 13 = .ok (.sipush 1200, 3) := by decide +kernel
theorem dX4_init_16 : decode cX4_init 16 = .ok (.newarray .int, 2) := by decide +kernel
theorem dX4_init_18 : decode cX4_init 18 = .ok (.putfield 15, 3) := by decide +kernel
theorem dX4_init_21 : decode cX4_init 21 = .ok (.aload_n 0, 1) := by decide +kernel
theorem dX4_init_22 : decode cX4_init 22 = .ok (.sipush 1200, 3) := by decide +kernel
theorem dX4_init_25 : decode cX4_init 25 = .ok (.newarray .int, 2) := by decide +kernel
theorem dX4_init_27 : decode cX4_init 27 = .ok (.putfield 18, 3) := by decide +kernel
theorem dX4_init_30 : decode cX4_init 30 = .ok (.aload_n 0, 1) := by decide +kernel
theorem dX4_init_31 : decode cX4_init 31 = .ok (.bipush 48, 2) := by decide +kernel
theorem dX4_init_33 : decode cX4_init 33 = .ok (.newarray .int, 2) := by decide +kernel
theorem dX4_init_35 : decode cX4_init 35 = .ok (.putfield 21, 3) := by decide +kernel
theorem dX4_init_38 : decode cX4_init 38 = .ok (.return_, 1) := by decide +kernel
theorem dX4_spot_0 : decode cX4_spot 0 = .ok (.iload_n 0, 1) := by decide +kernel
theorem dX4_spot_1 : decode cX4_spot 1 = .ok (.bipush 25, 2) := by decide +kernel
theorem dX4_spot_3 : decode cX4_spot 3 = .ok (.imul, 1) := by decide +kernel
theorem dX4_spot_4 : decode cX4_spot 4 = .ok (.iload_n 1, 1) := by decide +kernel
theorem dX4_spot_5 : decode cX4_spot 5 = .ok (.iconst 2, 1) := by decide +kernel
theorem dX4_spot_6 : decode cX4_spot 6 = .ok (.iadd, 1) := by decide +kernel
theorem dX4_spot_7 : decode cX4_spot 7 = .ok (.iconst 5, 1) := by decide +kernel
theorem dX4_spot_8 : decode cX4_spot 8 = .ok (.imul, 1) := by decide +kernel
theorem dX4_spot_9 : decode cX4_spot 9 = .ok (.iadd, 1) := by decide +kernel
theorem dX4_spot_10 : decode cX4_spot 10 = .ok (.iload_n 2, 1) := by decide +kernel
theorem dX4_spot_11 : decode cX4_spot 11 = .ok (.iadd, 1) := by decide +kernel
theorem dX4_spot_12 : decode cX4_spot 12 = .ok (.iconst 2, 1) := by decide +kernel
theorem dX4_spot_13 : decode cX4_spot 13 = .ok (.iadd, 1) := by decide +kernel
theorem dX4_spot_14 : decode cX4_spot 14 = .ok (.ireturn, 1) := by decide +kernel
theorem dX4_clearDistances_0 : decode cX4_clearDistances 0 = .ok (.iconst 0, 1) := by decide +kernel
theorem dX4_clearDistances_1 : decode cX4_clearDistances 1 = .ok (.istore_n 2, 1) := by decide +kernel
theorem dX4_clearDistances_2 : decode cX4_clearDistances 2 = .ok (.iload_n 2, 1) := by decide +kernel
theorem dX4_clearDistances_3 : decode cX4_clearDistances 3 = .ok (.bipush 48, 2) := by decide +kernel
theorem dX4_clearDistances_5 : decode cX4_clearDistances 5 = .ok (.if_icmp .ge 39, 3) := by decide +kernel
theorem dX4_clearDistances_8 : decode cX4_clearDistances 8 = .ok (.aload_n 0, 1) := by decide +kernel
theorem dX4_clearDistances_9 : decode cX4_clearDistances 9 = .ok (.getfield 9, 3) := by decide +kernel
theorem dX4_clearDistances_12 : decode cX4_clearDistances 12 = .ok (.iload_n 2, 1) := by decide +kernel
theorem dX4_clearDistances_13 : decode cX4_clearDistances 13 = .ok (.iconst (-1), 1) := by decide +kernel
theorem dX4_clearDistances_14 : decode cX4_clearDistances 14 = .ok (.iastore, 1) := by decide +kernel
theorem dX4_clearDistances_15 : decode cX4_clearDistances 15 = .ok (.aload_n 0, 1) := by decide +kernel
theorem dX4_clearDistances_16 : decode cX4_clearDistances 16 = .ok (.getfield 21, 3) := by decide +kernel
theorem dX4_clearDistances_19 : decode cX4_clearDistances 19 = .ok (.iload_n 2, 1) := by decide +kernel
theorem dX4_clearDistances_20 : decode cX4_clearDistances 20 = .ok (.aload_n 1, 1) := by decide +kernel
theorem dX4_clearDistances_21 : decode cX4_clearDistances 21 = .ok (.iload_n 2, 1) := by decide +kernel
theorem dX4_clearDistances_22 : decode cX4_clearDistances 22 = .ok (.invokevirtual 24, 3) := by decide +kernel
theorem dX4_clearDistances_25 : decode cX4_clearDistances 25 = .ok (.ifCond .eq 11, 3) := by decide +kernel
theorem dX4_clearDistances_28 : decode cX4_clearDistances 28 = .ok (.aload_n 1, 1) := by decide +kernel
theorem dX4_clearDistances_29 : decode cX4_clearDistances 29 = .ok (.iload_n 2, 1) := by decide +kernel
theorem dX4_clearDistances_30 : decode cX4_clearDistances 30 = .ok (.invokevirtual 30, 3) := by decide +kernel
theorem dX4_clearDistances_33 : decode cX4_clearDistances 33 = .ok (.goto 4, 3) := by decide +kernel
theorem dX4_clearDistances_36 : decode cX4_clearDistances 36 = .ok (.iconst (-1), 1) := by decide +kernel
theorem dX4_clearDistances_37 : decode cX4_clearDistances 37 = .ok (.iastore, 1) := by decide +kernel
theorem dX4_clearDistances_38 : decode cX4_clearDistances 38 = .ok (.iinc 2 1, 3) := by decide +kernel
theorem dX4_clearDistances_41 : decode cX4_clearDistances 41 = .ok (.goto (-39), 3) := by decide +kernel
theorem dX4_clearDistances_44 : decode cX4_clearDistances 44 = .ok (.return_, 1) := by decide +kernel
theorem dX4_spread_0 : decode cX4_spread 0 = .ok (.aload_n 0, 1) := by decide +kernel
theorem dX4_spread_1 : decode cX4_spread 1 = .ok (.aload_n 1, 1) := by decide +kernel
theorem dX4_spread_2 : decode cX4_spread 2 = .ok (.invokevirtual 34, 3) := by decide +kernel
theorem dX4_spread_5 : decode cX4_spread 5 = .ok (.aload_n 0, 1) := by decide +kernel
theorem dX4_spread_6 : decode cX4_spread 6 = .ok (.aload_n 1, 1) := by decide +kernel
theorem dX4_spread_7 : decode cX4_spread 7 = .ok (.iload_n 2, 1) := by decide +kernel
theorem dX4_spread_8 : decode cX4_spread 8 = .ok (.iconst 0, 1) := by decide +kernel
theorem dX4_spread_9 : decode cX4_spread 9 = .ok (.invokevirtual 38, 3) := by decide +kernel
theorem dX4_spread_12 : decode cX4_spread 12 = .ok (.pop, 1) := by decide +kernel
theorem dX4_spread_13 : decode cX4_spread 13 = .ok (.return_, 1) := by decide +kernel
theorem dX4_spreadWithin_0 : decode cX4_spreadWithin 0 = .ok (.aload_n 0, 1) := by decide +kernel
theorem dX4_spreadWithin_1 : decode cX4_spreadWithin 1 = .ok (.getfield 9, 3) := by decide +kernel
theorem dX4_spreadWithin_4 : decode cX4_spreadWithin 4 = .ok (.iload_n 2, 1) := by decide +kernel
theorem dX4_spreadWithin_5 : decode cX4_spreadWithin 5 = .ok (.iconst 0, 1) := by decide +kernel
theorem dX4_spreadWithin_6 : decode cX4_spreadWithin 6 = .ok (.iastore, 1) := by decide +kernel
theorem dX4_spreadWithin_7 : decode cX4_spreadWithin 7 = .ok (.aload_n 0, 1) := by decide +kernel
theorem dX4_spreadWithin_8 : decode cX4_spreadWithin 8 = .ok (.getfield 18, 3) := by decide +kernel
theorem dX4_spreadWithin_11 : decode cX4_spreadWithin 11 = .ok (.iconst 0, 1) := by decide +kernel
theorem dX4_spreadWithin_12 : decode cX4_spreadWithin 12 = .ok (.iload_n 2, 1) := by decide +kernel
theorem dX4_spreadWithin_13 : decode cX4_spreadWithin 13 = .ok (.iastore, 1) := by decide +kernel
theorem dX4_spreadWithin_14 : decode cX4_spreadWithin 14 = .ok (.aload_n 0, 1) := by decide +kernel
theorem dX4_spreadWithin_15 : decode cX4_spreadWithin 15 = .ok (.iconst 1, 1) := by decide +kernel
theorem dX4_spreadWithin_16 : decode cX4_spreadWithin 16 = .ok (.putfield 42, 3) := by decide +kernel
theorem dX4_spreadWithin_19 : decode cX4_spreadWithin 19 = .ok (.iconst 0, 1) := by decide +kernel
theorem dX4_spreadWithin_20 : decode cX4_spreadWithin 20 = .ok (.istore 4, 2) := by decide +kernel
theorem dX4_spreadWithin_22 : decode cX4_spreadWithin 22 = .ok (.iload 4, 2) := by decide +kernel
theorem dX4_spreadWithin_24 : decode cX4_spreadWithin 24 = .ok (.aload_n 0, 1) := by decide +kernel
theorem dX4_spreadWithin_25 : decode cX4_spreadWithin 25 = .ok (.getfield 42, 3) := by decide +kernel
theorem dX4_spreadWithin_28 : decode cX4_spreadWithin 28 = .ok (.if_icmp .ge 144, 3) := by decide +kernel
theorem dX4_spreadWithin_31 : decode cX4_spreadWithin 31 = .ok (.iload 4, 2) := by decide +kernel
theorem dX4_spreadWithin_33 : decode cX4_spreadWithin 33 = .ok (.bipush 48, 2) := by decide +kernel
theorem dX4_spreadWithin_35 : decode cX4_spreadWithin 35 = .ok (.if_icmp .ge 137, 3) := by decide +kernel
theorem dX4_spreadWithin_38 : decode cX4_spreadWithin 38 = .ok (.aload_n 0, 1) := by decide +kernel
theorem dX4_spreadWithin_39 : decode cX4_spreadWithin 39 = .ok (.getfield 18, 3) := by decide +kernel
theorem dX4_spreadWithin_42 : decode cX4_spreadWithin 42 = .ok (.iload 4, 2) := by decide +kernel
theorem dX4_spreadWithin_44 : decode cX4_spreadWithin 44 = .ok (.iaload, 1) := by decide +kernel
theorem dX4_spreadWithin_45 : decode cX4_spreadWithin 45 = .ok (.istore 5, 2) := by decide +kernel
theorem dX4_spreadWithin_47 : decode cX4_spreadWithin 47 = .ok (.aload_n 0, 1) := by decide +kernel
theorem dX4_spreadWithin_48 : decode cX4_spreadWithin 48 = .ok (.getfield 21, 3) := by decide +kernel
theorem dX4_spreadWithin_51 : decode cX4_spreadWithin 51 = .ok (.iload 5, 2) := by decide +kernel
theorem dX4_spreadWithin_53 : decode cX4_spreadWithin 53 = .ok (.iaload, 1) := by decide +kernel
theorem dX4_spreadWithin_54 : decode cX4_spreadWithin 54 = .ok (.istore 6, 2) := by decide +kernel
theorem dX4_spreadWithin_56 : decode cX4_spreadWithin 56 = .ok (.iconst 0, 1) := by decide +kernel
theorem dX4_spreadWithin_57 : decode cX4_spreadWithin 57 = .ok (.istore 7, 2) := by decide +kernel
theorem dX4_spreadWithin_59 : decode cX4_spreadWithin 59 = .ok (.iload 7, 2) := by decide +kernel
theorem dX4_spreadWithin_61 : decode cX4_spreadWithin 61 = .ok (.aload_n 1, 1) := by decide +kernel
theorem dX4_spreadWithin_62 : decode cX4_spreadWithin 62 = .ok (.getfield 46, 3) := by decide +kernel
theorem dX4_spreadWithin_65 : decode cX4_spreadWithin 65 = .ok (.iload 5, 2) := by decide +kernel
theorem dX4_spreadWithin_67 : decode cX4_spreadWithin 67 = .ok (.iaload, 1) := by decide +kernel
theorem dX4_spreadWithin_68 : decode cX4_spreadWithin 68 = .ok (.if_icmp .ge 98, 3) := by decide +kernel
theorem dX4_spreadWithin_71 : decode cX4_spreadWithin 71 = .ok (.iload 6, 2) := by decide +kernel
theorem dX4_spreadWithin_73 : decode cX4_spreadWithin 73 = .ok (.ifCond .lt 93, 3) := by decide +kernel
theorem dX4_spreadWithin_76 : decode cX4_spreadWithin 76 = .ok (.aload_n 1, 1) := by decide +kernel
theorem dX4_spreadWithin_77 : decode cX4_spreadWithin 77 = .ok (.iload 6, 2) := by decide +kernel
theorem dX4_spreadWithin_79 : decode cX4_spreadWithin 79 = .ok (.invokevirtual 49, 3) := by decide +kernel
theorem dX4_spreadWithin_82 : decode cX4_spreadWithin 82 = .ok (.istore 8, 2) := by decide +kernel
theorem dX4_spreadWithin_84 : decode cX4_spreadWithin 84 = .ok (.aload_n 0, 1) := by decide +kernel
theorem dX4_spreadWithin_85 : decode cX4_spreadWithin 85 = .ok (.getfield 9, 3) := by decide +kernel
theorem dX4_spreadWithin_88 : decode cX4_spreadWithin 88 = .ok (.iload 8, 2) := by decide +kernel
theorem dX4_spreadWithin_90 : decode cX4_spreadWithin 90 = .ok (.iaload, 1) := by decide +kernel
theorem dX4_spreadWithin_91 : decode cX4_spreadWithin 91 = .ok (.ifCond .ge 60, 3) := by decide +kernel
theorem dX4_spreadWithin_94 : decode cX4_spreadWithin 94 = .ok (.aload_n 1, 1) := by decide +kernel
theorem dX4_spreadWithin_95 : decode cX4_spreadWithin 95 = .ok (.getfield 46, 3) := by decide +kernel
theorem dX4_spreadWithin_98 : decode cX4_spreadWithin 98 = .ok (.iload 8, 2) := by decide +kernel
theorem dX4_spreadWithin_100 : decode cX4_spreadWithin 100 = .ok (.iaload, 1) := by decide +kernel
theorem dX4_spreadWithin_101 : decode cX4_spreadWithin 101 = .ok (.iload_n 3, 1) := by decide +kernel
theorem dX4_spreadWithin_102 : decode cX4_spreadWithin 102 = .ok (.if_icmp .lt 49, 3) := by decide +kernel
theorem dX4_spreadWithin_105 : decode cX4_spreadWithin 105 = .ok (.aload_n 0, 1) := by decide +kernel
theorem dX4_spreadWithin_106 : decode cX4_spreadWithin 106 = .ok (.getfield 42, 3) := by decide +kernel
theorem dX4_spreadWithin_109 : decode cX4_spreadWithin 109 = .ok (.bipush 48, 2) := by decide +kernel
theorem dX4_spreadWithin_111 : decode cX4_spreadWithin 111 = .ok (.if_icmp .ge 40, 3) := by decide +kernel
theorem dX4_spreadWithin_114 : decode cX4_spreadWithin 114 = .ok (.aload_n 0, 1) := by decide +kernel
theorem dX4_spreadWithin_115 : decode cX4_spreadWithin 115 = .ok (.getfield 9, 3) := by decide +kernel
theorem dX4_spreadWithin_118 : decode cX4_spreadWithin 118 = .ok (.iload 8, 2) := by decide +kernel
theorem dX4_spreadWithin_120 : decode cX4_spreadWithin 120 = .ok (.aload_n 0, 1) := by decide +kernel
theorem dX4_spreadWithin_121 : decode cX4_spreadWithin 121 = .ok (.getfield 9, 3) := by decide +kernel
theorem dX4_spreadWithin_124 : decode cX4_spreadWithin 124 = .ok (.iload 5, 2) := by decide +kernel
theorem dX4_spreadWithin_126 : decode cX4_spreadWithin 126 = .ok (.iaload, 1) := by decide +kernel
theorem dX4_spreadWithin_127 : decode cX4_spreadWithin 127 = .ok (.iconst 1, 1) := by decide +kernel
theorem dX4_spreadWithin_128 : decode cX4_spreadWithin 128 = .ok (.iadd, 1) := by decide +kernel
theorem dX4_spreadWithin_129 : decode cX4_spreadWithin 129 = .ok (.iastore, 1) := by decide +kernel
theorem dX4_spreadWithin_130 : decode cX4_spreadWithin 130 = .ok (.aload_n 0, 1) := by decide +kernel
theorem dX4_spreadWithin_131 : decode cX4_spreadWithin 131 = .ok (.getfield 18, 3) := by decide +kernel
theorem dX4_spreadWithin_134 : decode cX4_spreadWithin 134 = .ok (.aload_n 0, 1) := by decide +kernel
theorem dX4_spreadWithin_135 : decode cX4_spreadWithin 135 = .ok (.getfield 42, 3) := by decide +kernel
theorem dX4_spreadWithin_138 : decode cX4_spreadWithin 138 = .ok (.iload 8, 2) := by decide +kernel
theorem dX4_spreadWithin_140 : decode cX4_spreadWithin 140 = .ok (.iastore, 1) := by decide +kernel
theorem dX4_spreadWithin_141 : decode cX4_spreadWithin 141 = .ok (.aload_n 0, 1) := by decide +kernel
theorem dX4_spreadWithin_142 : decode cX4_spreadWithin 142 = .ok (.dup, 1) := by decide +kernel
theorem dX4_spreadWithin_143 : decode cX4_spreadWithin 143 = .ok (.getfield 42, 3) := by decide +kernel
theorem dX4_spreadWithin_146 : decode cX4_spreadWithin 146 = .ok (.iconst 1, 1) := by decide +kernel
theorem dX4_spreadWithin_147 : decode cX4_spreadWithin 147 = .ok (.iadd, 1) := by decide +kernel
theorem dX4_spreadWithin_148 : decode cX4_spreadWithin 148 = .ok (.putfield 42, 3) := by decide +kernel
theorem dX4_spreadWithin_151 : decode cX4_spreadWithin 151 = .ok (.aload_n 1, 1) := by decide +kernel
theorem dX4_spreadWithin_152 : decode cX4_spreadWithin 152 = .ok (.getfield 52, 3) := by decide +kernel
theorem dX4_spreadWithin_155 : decode cX4_spreadWithin 155 = .ok (.iload 6, 2) := by decide +kernel
theorem dX4_spreadWithin_157 : decode cX4_spreadWithin 157 = .ok (.iaload, 1) := by decide +kernel
theorem dX4_spreadWithin_158 : decode cX4_spreadWithin 158 = .ok (.istore 6, 2) := by decide +kernel
theorem dX4_spreadWithin_160 : decode cX4_spreadWithin 160 = .ok (.iinc 7 1, 3) := by decide +kernel
theorem dX4_spreadWithin_163 : decode cX4_spreadWithin 163 = .ok (.goto (-104), 3) := by decide +kernel
theorem dX4_spreadWithin_166 : decode cX4_spreadWithin 166 = .ok (.iinc 4 1, 3) := by decide +kernel
theorem dX4_spreadWithin_169 : decode cX4_spreadWithin 169 = .ok (.goto (-147), 3) := by decide +kernel
theorem dX4_spreadWithin_172 : decode cX4_spreadWithin 172 = .ok (.aload_n 0, 1) := by decide +kernel
theorem dX4_spreadWithin_173 : decode cX4_spreadWithin 173 = .ok (.getfield 42, 3) := by decide +kernel
theorem dX4_spreadWithin_176 : decode cX4_spreadWithin 176 = .ok (.ireturn, 1) := by decide +kernel
theorem dX4_howManyAt_0 : decode cX4_howManyAt 0 = .ok (.iconst 0, 1) := by decide +kernel
theorem dX4_howManyAt_1 : decode cX4_howManyAt 1 = .ok (.istore_n 2, 1) := by decide +kernel
theorem dX4_howManyAt_2 : decode cX4_howManyAt 2 = .ok (.iconst 0, 1) := by decide +kernel
theorem dX4_howManyAt_3 : decode cX4_howManyAt 3 = .ok (.istore_n 3, 1) := by decide +kernel
theorem dX4_howManyAt_4 : decode cX4_howManyAt 4 = .ok (.iload_n 3, 1) := by decide +kernel
theorem dX4_howManyAt_5 : decode cX4_howManyAt 5 = .ok (.bipush 48, 2) := by decide +kernel
theorem dX4_howManyAt_7 : decode cX4_howManyAt 7 = .ok (.if_icmp .ge 22, 3) := by decide +kernel
theorem dX4_howManyAt_10 : decode cX4_howManyAt 10 = .ok (.aload_n 0, 1) := by decide +kernel
theorem dX4_howManyAt_11 : decode cX4_howManyAt 11 = .ok (.getfield 9, 3) := by decide +kernel
theorem dX4_howManyAt_14 : decode cX4_howManyAt 14 = .ok (.iload_n 3, 1) := by decide +kernel
theorem dX4_howManyAt_15 : decode cX4_howManyAt 15 = .ok (.iaload, 1) := by decide +kernel
theorem dX4_howManyAt_16 : decode cX4_howManyAt 16 = .ok (.iload_n 1, 1) := by decide +kernel
theorem dX4_howManyAt_17 : decode cX4_howManyAt 17 = .ok (.if_icmp .ne 6, 3) := by decide +kernel
theorem dX4_howManyAt_20 : decode cX4_howManyAt 20 = .ok (.iinc 2 1, 3) := by decide +kernel
theorem dX4_howManyAt_23 : decode cX4_howManyAt 23 = .ok (.iinc 3 1, 3) := by decide +kernel
theorem dX4_howManyAt_26 : decode cX4_howManyAt 26 = .ok (.goto (-22), 3) := by decide +kernel
theorem dX4_howManyAt_29 : decode cX4_howManyAt 29 = .ok (.iload_n 2, 1) := by decide +kernel
theorem dX4_howManyAt_30 : decode cX4_howManyAt 30 = .ok (.ireturn, 1) := by decide +kernel
theorem dX4_whichAt_0 : decode cX4_whichAt 0 = .ok (.iconst 0, 1) := by decide +kernel
theorem dX4_whichAt_1 : decode cX4_whichAt 1 = .ok (.istore_n 3, 1) := by decide +kernel
theorem dX4_whichAt_2 : decode cX4_whichAt 2 = .ok (.iconst 0, 1) := by decide +kernel
theorem dX4_whichAt_3 : decode cX4_whichAt 3 = .ok (.istore 4, 2) := by decide +kernel
theorem dX4_whichAt_5 : decode cX4_whichAt 5 = .ok (.iload 4, 2) := by decide +kernel
theorem dX4_whichAt_7 : decode cX4_whichAt 7 = .ok (.bipush 48, 2) := by decide +kernel
theorem dX4_whichAt_9 : decode cX4_whichAt 9 = .ok (.if_icmp .ge 31, 3) := by decide +kernel
theorem dX4_whichAt_12 : decode cX4_whichAt 12 = .ok (.aload_n 0, 1) := by decide +kernel
theorem dX4_whichAt_13 : decode cX4_whichAt 13 = .ok (.getfield 9, 3) := by decide +kernel
theorem dX4_whichAt_16 : decode cX4_whichAt 16 = .ok (.iload 4, 2) := by decide +kernel
theorem dX4_whichAt_18 : decode cX4_whichAt 18 = .ok (.iaload, 1) := by decide +kernel
theorem dX4_whichAt_19 : decode cX4_whichAt 19 = .ok (.iload_n 1, 1) := by decide +kernel
theorem dX4_whichAt_20 : decode cX4_whichAt 20 = .ok (.if_icmp .ne 14, 3) := by decide +kernel
theorem dX4_whichAt_23 : decode cX4_whichAt 23 = .ok (.iload_n 3, 1) := by decide +kernel
theorem dX4_whichAt_24 : decode cX4_whichAt 24 = .ok (.iload_n 2, 1) := by decide +kernel
theorem dX4_whichAt_25 : decode cX4_whichAt 25 = .ok (.if_icmp .ne 6, 3) := by decide +kernel
theorem dX4_whichAt_28 : decode cX4_whichAt 28 = .ok (.iload 4, 2) := by decide +kernel
theorem dX4_whichAt_30 : decode cX4_whichAt 30 = .ok (.ireturn, 1) := by decide +kernel
theorem dX4_whichAt_31 : decode cX4_whichAt 31 = .ok (.iinc 3 1, 3) := by decide +kernel
theorem dX4_whichAt_34 : decode cX4_whichAt 34 = .ok (.iinc 4 1, 3) := by decide +kernel
theorem dX4_whichAt_37 : decode cX4_whichAt 37 = .ok (.goto (-32), 3) := by decide +kernel
theorem dX4_whichAt_40 : decode cX4_whichAt 40 = .ok (.iconst (-1), 1) := by decide +kernel
theorem dX4_whichAt_41 : decode cX4_whichAt 41 = .ok (.ireturn, 1) := by decide +kernel
theorem dX4_comeNearer_0 : decode cX4_comeNearer 0 = .ok (.iload_n 3, 1) := by decide +kernel
theorem dX4_comeNearer_1 : decode cX4_comeNearer 1 = .ok (.aload_n 0, 1) := by decide +kernel
theorem dX4_comeNearer_2 : decode cX4_comeNearer 2 = .ok (.getfield 9, 3) := by decide +kernel
theorem dX4_comeNearer_5 : decode cX4_comeNearer 5 = .ok (.iload_n 2, 1) := by decide +kernel
theorem dX4_comeNearer_6 : decode cX4_comeNearer 6 = .ok (.iaload, 1) := by decide +kernel
theorem dX4_comeNearer_7 : decode cX4_comeNearer 7 = .ok (.if_icmp .le 5, 3) := by decide +kernel
theorem dX4_comeNearer_10 : decode cX4_comeNearer 10 = .ok (.iconst (-1), 1) := by decide +kernel
theorem dX4_comeNearer_11 : decode cX4_comeNearer 11 = .ok (.ireturn, 1) := by decide +kernel
theorem dX4_comeNearer_12 : decode cX4_comeNearer 12 = .ok (.iload_n 2, 1) := by decide +kernel
theorem dX4_comeNearer_13 : decode cX4_comeNearer 13 = .ok (.istore 4, 2) := by decide +kernel
theorem dX4_comeNearer_15 : decode cX4_comeNearer 15 = .ok (.iconst 0, 1) := by decide +kernel
theorem dX4_comeNearer_16 : decode cX4_comeNearer 16 = .ok (.istore 5, 2) := by decide +kernel
theorem dX4_comeNearer_18 : decode cX4_comeNearer 18 = .ok (.iload 5, 2) := by decide +kernel
theorem dX4_comeNearer_20 : decode cX4_comeNearer 20 = .ok (.iload_n 3, 1) := by decide +kernel
theorem dX4_comeNearer_21 : decode cX4_comeNearer 21 = .ok (.if_icmp .ge 18, 3) := by decide +kernel
theorem dX4_comeNearer_24 : decode cX4_comeNearer 24 = .ok (.aload_n 0, 1) := by decide +kernel
theorem dX4_comeNearer_25 : decode cX4_comeNearer 25 = .ok (.aload_n 1, 1) := by decide +kernel
theorem dX4_comeNearer_26 : decode cX4_comeNearer 26 = .ok (.iload 4, 2) := by decide +kernel
theorem dX4_comeNearer_28 : decode cX4_comeNearer 28 = .ok (.invokevirtual 55, 3) := by decide +kernel
theorem dX4_comeNearer_31 : decode cX4_comeNearer 31 = .ok (.istore 4, 2) := by decide +kernel
theorem dX4_comeNearer_33 : decode cX4_comeNearer 33 = .ok (.iinc 5 1, 3) := by decide +kernel
theorem dX4_comeNearer_36 : decode cX4_comeNearer 36 = .ok (.goto (-18), 3) := by decide +kernel
theorem dX4_comeNearer_39 : decode cX4_comeNearer 39 = .ok (.iload 4, 2) := by decide +kernel
theorem dX4_comeNearer_41 : decode cX4_comeNearer 41 = .ok (.ireturn, 1) := by decide +kernel
theorem dX4_leastNearer_0 : decode cX4_leastNearer 0 = .ok (.iload_n 2, 1) := by decide +kernel
theorem dX4_leastNearer_1 : decode cX4_leastNearer 1 = .ok (.istore_n 3, 1) := by decide +kernel
theorem dX4_leastNearer_2 : decode cX4_leastNearer 2 = .ok (.aload_n 0, 1) := by decide +kernel
theorem dX4_leastNearer_3 : decode cX4_leastNearer 3 = .ok (.getfield 21, 3) := by decide +kernel
theorem dX4_leastNearer_6 : decode cX4_leastNearer 6 = .ok (.iload_n 2, 1) := by decide +kernel
theorem dX4_leastNearer_7 : decode cX4_leastNearer 7 = .ok (.iaload, 1) := by decide +kernel
theorem dX4_leastNearer_8 : decode cX4_leastNearer 8 = .ok (.istore 4, 2) := by decide +kernel
theorem dX4_leastNearer_10 : decode cX4_leastNearer 10 = .ok (.iconst 0, 1) := by decide +kernel
theorem dX4_leastNearer_11 : decode cX4_leastNearer 11 = .ok (.istore 5, 2) := by decide +kernel
theorem dX4_leastNearer_13 : decode cX4_leastNearer 13 = .ok (.iload 5, 2) := by decide +kernel
theorem dX4_leastNearer_15 : decode cX4_leastNearer 15 = .ok (.aload_n 1, 1) := by decide +kernel
theorem dX4_leastNearer_16 : decode cX4_leastNearer 16 = .ok (.getfield 46, 3) := by decide +kernel
theorem dX4_leastNearer_19 : decode cX4_leastNearer 19 = .ok (.iload_n 2, 1) := by decide +kernel
theorem dX4_leastNearer_20 : decode cX4_leastNearer 20 = .ok (.iaload, 1) := by decide +kernel
theorem dX4_leastNearer_21 : decode cX4_leastNearer 21 = .ok (.if_icmp .ge 63, 3) := by decide +kernel
theorem dX4_leastNearer_24 : decode cX4_leastNearer 24 = .ok (.iload 4, 2) := by decide +kernel
theorem dX4_leastNearer_26 : decode cX4_leastNearer 26 = .ok (.ifCond .lt 58, 3) := by decide +kernel
theorem dX4_leastNearer_29 : decode cX4_leastNearer 29 = .ok (.aload_n 1, 1) := by decide +kernel
theorem dX4_leastNearer_30 : decode cX4_leastNearer 30 = .ok (.iload 4, 2) := by decide +kernel
theorem dX4_leastNearer_32 : decode cX4_leastNearer 32 = .ok (.invokevirtual 49, 3) := by decide +kernel
theorem dX4_leastNearer_35 : decode cX4_leastNearer 35 = .ok (.istore 6, 2) := by decide +kernel
theorem dX4_leastNearer_37 : decode cX4_leastNearer 37 = .ok (.aload_n 0, 1) := by decide +kernel
theorem dX4_leastNearer_38 : decode cX4_leastNearer 38 = .ok (.getfield 9, 3) := by decide +kernel
theorem dX4_leastNearer_41 : decode cX4_leastNearer 41 = .ok (.iload 6, 2) := by decide +kernel
theorem dX4_leastNearer_43 : decode cX4_leastNearer 43 = .ok (.iaload, 1) := by decide +kernel
theorem dX4_leastNearer_44 : decode cX4_leastNearer 44 = .ok (.aload_n 0, 1) := by decide +kernel
theorem dX4_leastNearer_45 : decode cX4_leastNearer 45 = .ok (.getfield 9, 3) := by decide +kernel
theorem dX4_leastNearer_48 : decode cX4_leastNearer 48 = .ok (.iload_n 2, 1) := by decide +kernel
theorem dX4_leastNearer_49 : decode cX4_leastNearer 49 = .ok (.iaload, 1) := by decide +kernel
theorem dX4_leastNearer_50 : decode cX4_leastNearer 50 = .ok (.iconst 1, 1) := by decide +kernel
theorem dX4_leastNearer_51 : decode cX4_leastNearer 51 = .ok (.isub, 1) := by decide +kernel
theorem dX4_leastNearer_52 : decode cX4_leastNearer 52 = .ok (.if_icmp .ne 17, 3) := by decide +kernel
theorem dX4_leastNearer_55 : decode cX4_leastNearer 55 = .ok (.iload_n 3, 1) := by decide +kernel
theorem dX4_leastNearer_56 : decode cX4_leastNearer 56 = .ok (.iload_n 2, 1) := by decide +kernel
theorem dX4_leastNearer_57 : decode cX4_leastNearer 57 = .ok (.if_icmp .eq 9, 3) := by decide +kernel
theorem dX4_leastNearer_60 : decode cX4_leastNearer 60 = .ok (.iload 6, 2) := by decide +kernel
theorem dX4_leastNearer_62 : decode cX4_leastNearer 62 = .ok (.iload_n 3, 1) := by decide +kernel
theorem dX4_leastNearer_63 : decode cX4_leastNearer 63 = .ok (.if_icmp .ge 6, 3) := by decide +kernel
theorem dX4_leastNearer_66 : decode cX4_leastNearer 66 = .ok (.iload 6, 2) := by decide +kernel
theorem dX4_leastNearer_68 : decode cX4_leastNearer 68 = .ok (.istore_n 3, 1) := by decide +kernel
theorem dX4_leastNearer_69 : decode cX4_leastNearer 69 = .ok (.aload_n 1, 1) := by decide +kernel
theorem dX4_leastNearer_70 : decode cX4_leastNearer 70 = .ok (.getfield 52, 3) := by decide +kernel
theorem dX4_leastNearer_73 : decode cX4_leastNearer 73 = .ok (.iload 4, 2) := by decide +kernel
theorem dX4_leastNearer_75 : decode cX4_leastNearer 75 = .ok (.iaload, 1) := by decide +kernel
theorem dX4_leastNearer_76 : decode cX4_leastNearer 76 = .ok (.istore 4, 2) := by decide +kernel
theorem dX4_leastNearer_78 : decode cX4_leastNearer 78 = .ok (.iinc 5 1, 3) := by decide +kernel
theorem dX4_leastNearer_81 : decode cX4_leastNearer 81 = .ok (.goto (-68), 3) := by decide +kernel
theorem dX4_leastNearer_84 : decode cX4_leastNearer 84 = .ok (.iload_n 3, 1) := by decide +kernel
theorem dX4_leastNearer_85 : decode cX4_leastNearer 85 = .ok (.ireturn, 1) := by decide +kernel
theorem dX4_gatherPieces_0 : decode cX4_gatherPieces 0 = .ok (.aload_n 0, 1) := by decide +kernel
theorem dX4_gatherPieces_1 : decode cX4_gatherPieces 1 = .ok (.aload_n 1, 1) := by decide +kernel
theorem dX4_gatherPieces_2 : decode cX4_gatherPieces 2 = .ok (.invokevirtual 34, 3) := by decide +kernel
theorem dX4_gatherPieces_5 : decode cX4_gatherPieces 5 = .ok (.aload_n 0, 1) := by decide +kernel
theorem dX4_gatherPieces_6 : decode cX4_gatherPieces 6 = .ok (.iconst 0, 1) := by decide +kernel
theorem dX4_gatherPieces_7 : decode cX4_gatherPieces 7 = .ok (.putfield 59, 3) := by decide +kernel
theorem dX4_gatherPieces_10 : decode cX4_gatherPieces 10 = .ok (.aload_n 0, 1) := by decide +kernel
theorem dX4_gatherPieces_11 : decode cX4_gatherPieces 11 = .ok (.iconst 0, 1) := by decide +kernel
theorem dX4_gatherPieces_12 : decode cX4_gatherPieces 12 = .ok (.putfield 62, 3) := by decide +kernel
theorem dX4_gatherPieces_15 : decode cX4_gatherPieces 15 = .ok (.aload_n 0, 1) := by decide +kernel
theorem dX4_gatherPieces_16 : decode cX4_gatherPieces 16 = .ok (.iconst (-1), 1) := by decide +kernel
theorem dX4_gatherPieces_17 : decode cX4_gatherPieces 17 = .ok (.putfield 65, 3) := by decide +kernel
theorem dX4_gatherPieces_20 : decode cX4_gatherPieces 20 = .ok (.iconst 0, 1) := by decide +kernel
theorem dX4_gatherPieces_21 : decode cX4_gatherPieces 21 = .ok (.istore_n 3, 1) := by decide +kernel
theorem dX4_gatherPieces_22 : decode cX4_gatherPieces 22 = .ok (.iload_n 3, 1) := by decide +kernel
theorem dX4_gatherPieces_23 : decode cX4_gatherPieces 23 = .ok (.bipush 48, 2) := by decide +kernel
theorem dX4_gatherPieces_25 : decode cX4_gatherPieces 25 = .ok (.if_icmp .ge 75, 3) := by decide +kernel
theorem dX4_gatherPieces_28 : decode cX4_gatherPieces 28 = .ok (.aload_n 1, 1) := by decide +kernel
theorem dX4_gatherPieces_29 : decode cX4_gatherPieces 29 = .ok (.iload_n 3, 1) := by decide +kernel
theorem dX4_gatherPieces_30 : decode cX4_gatherPieces 30 = .ok (.invokevirtual 24, 3) := by decide +kernel
theorem dX4_gatherPieces_33 : decode cX4_gatherPieces 33 = .ok (.ifCond .eq 61, 3) := by decide +kernel
theorem dX4_gatherPieces_36 : decode cX4_gatherPieces 36 = .ok (.aload_n 1, 1) := by decide +kernel
theorem dX4_gatherPieces_37 : decode cX4_gatherPieces 37 = .ok (.getfield 46, 3) := by decide +kernel
theorem dX4_gatherPieces_40 : decode cX4_gatherPieces 40 = .ok (.iload_n 3, 1) := by decide +kernel
theorem dX4_gatherPieces_41 : decode cX4_gatherPieces 41 = .ok (.iaload, 1) := by decide +kernel
theorem dX4_gatherPieces_42 : decode cX4_gatherPieces 42 = .ok (.iload_n 2, 1) := by decide +kernel
theorem dX4_gatherPieces_43 : decode cX4_gatherPieces 43 = .ok (.if_icmp .lt 51, 3) := by decide +kernel
theorem dX4_gatherPieces_46 : decode cX4_gatherPieces 46 = .ok (.aload_n 0, 1) := by decide +kernel
theorem dX4_gatherPieces_47 : decode cX4_gatherPieces 47 = .ok (.getfield 9, 3) := by decide +kernel
theorem dX4_gatherPieces_50 : decode cX4_gatherPieces 50 = .ok (.iload_n 3, 1) := by decide +kernel
theorem dX4_gatherPieces_51 : decode cX4_gatherPieces 51 = .ok (.iaload, 1) := by decide +kernel
theorem dX4_gatherPieces_52 : decode cX4_gatherPieces 52 = .ok (.ifCond .ge 42, 3) := by decide +kernel
theorem dX4_gatherPieces_55 : decode cX4_gatherPieces 55 = .ok (.aload_n 0, 1) := by decide +kernel
theorem dX4_gatherPieces_56 : decode cX4_gatherPieces 56 = .ok (.aload_n 1, 1) := by decide +kernel
theorem dX4_gatherPieces_57 : decode cX4_gatherPieces 57 = .ok (.iload_n 3, 1) := by decide +kernel
theorem dX4_gatherPieces_58 : decode cX4_gatherPieces 58 = .ok (.iload_n 2, 1) := by decide +kernel
theorem dX4_gatherPieces_59 : decode cX4_gatherPieces 59 = .ok (.invokevirtual 38, 3) := by decide +kernel
theorem dX4_gatherPieces_62 : decode cX4_gatherPieces 62 = .ok (.istore 4, 2) := by decide +kernel
theorem dX4_gatherPieces_64 : decode cX4_gatherPieces 64 = .ok (.aload_n 0, 1) := by decide +kernel
theorem dX4_gatherPieces_65 : decode cX4_gatherPieces 65 = .ok (.dup, 1) := by decide +kernel
theorem dX4_gatherPieces_66 : decode cX4_gatherPieces 66 = .ok (.getfield 59, 3) := by decide +kernel
theorem dX4_gatherPieces_69 : decode cX4_gatherPieces 69 = .ok (.iconst 1, 1) := by decide +kernel
theorem dX4_gatherPieces_70 : decode cX4_gatherPieces 70 = .ok (.iadd, 1) := by decide +kernel
theorem dX4_gatherPieces_71 : decode cX4_gatherPieces 71 = .ok (.putfield 59, 3) := by decide +kernel
theorem dX4_gatherPieces_74 : decode cX4_gatherPieces 74 = .ok (.iload 4, 2) := by decide +kernel
theorem dX4_gatherPieces_76 : decode cX4_gatherPieces 76 = .ok (.aload_n 0, 1) := by decide +kernel
theorem dX4_gatherPieces_77 : decode cX4_gatherPieces 77 = .ok (.getfield 62, 3) := by decide +kernel
theorem dX4_gatherPieces_80 : decode cX4_gatherPieces 80 = .ok (.if_icmp .le 14, 3) := by decide +kernel
theorem dX4_gatherPieces_83 : decode cX4_gatherPieces 83 = .ok (.aload_n 0, 1) := by decide +kernel
theorem dX4_gatherPieces_84 : decode cX4_gatherPieces 84 = .ok (.iload 4, 2) := by decide +kernel
theorem dX4_gatherPieces_86 : decode cX4_gatherPieces 86 = .ok (.putfield 62, 3) := by decide +kernel
theorem dX4_gatherPieces_89 : decode cX4_gatherPieces 89 = .ok (.aload_n 0, 1) := by decide +kernel
theorem dX4_gatherPieces_90 : decode cX4_gatherPieces 90 = .ok (.iload_n 3, 1) := by decide +kernel
theorem dX4_gatherPieces_91 : decode cX4_gatherPieces 91 = .ok (.putfield 65, 3) := by decide +kernel
theorem dX4_gatherPieces_94 : decode cX4_gatherPieces 94 = .ok (.iinc 3 1, 3) := by decide +kernel
theorem dX4_gatherPieces_97 : decode cX4_gatherPieces 97 = .ok (.goto (-75), 3) := by decide +kernel
theorem dX4_gatherPieces_100 : decode cX4_gatherPieces 100 = .ok (.return_, 1) := by decide +kernel
theorem dX4_spreadRound_0 : decode cX4_spreadRound 0 = .ok (.aload_n 0, 1) := by decide +kernel
theorem dX4_spreadRound_1 : decode cX4_spreadRound 1 = .ok (.aload_n 1, 1) := by decide +kernel
theorem dX4_spreadRound_2 : decode cX4_spreadRound 2 = .ok (.invokevirtual 34, 3) := by decide +kernel
theorem dX4_spreadRound_5 : decode cX4_spreadRound 5 = .ok (.iconst 0, 1) := by decide +kernel
theorem dX4_spreadRound_6 : decode cX4_spreadRound 6 = .ok (.istore 4, 2) := by decide +kernel
theorem dX4_spreadRound_8 : decode cX4_spreadRound 8 = .ok (.iload 4, 2) := by decide +kernel
theorem dX4_spreadRound_10 : decode cX4_spreadRound 10 = .ok (.sipush 1200, 3) := by decide +kernel
theorem dX4_spreadRound_13 : decode cX4_spreadRound 13 = .ok (.if_icmp .ge 17, 3) := by decide +kernel
theorem dX4_spreadRound_16 : decode cX4_spreadRound 16 = .ok (.aload_n 0, 1) := by decide +kernel
theorem dX4_spreadRound_17 : decode cX4_spreadRound 17 = .ok (.getfield 15, 3) := by decide +kernel
theorem dX4_spreadRound_20 : decode cX4_spreadRound 20 = .ok (.iload 4, 2) := by decide +kernel
theorem dX4_spreadRound_22 : decode cX4_spreadRound 22 = .ok (.iconst (-1), 1) := by decide +kernel
theorem dX4_spreadRound_23 : decode cX4_spreadRound 23 = .ok (.iastore, 1) := by decide +kernel
theorem dX4_spreadRound_24 : decode cX4_spreadRound 24 = .ok (.iinc 4 1, 3) := by decide +kernel
theorem dX4_spreadRound_27 : decode cX4_spreadRound 27 = .ok (.goto (-19), 3) := by decide +kernel
theorem dX4_spreadRound_30 : decode cX4_spreadRound 30 = .ok (.aload_n 0, 1) := by decide +kernel
theorem dX4_spreadRound_31 : decode cX4_spreadRound 31 = .ok (.iconst 0, 1) := by decide +kernel
theorem dX4_spreadRound_32 : decode cX4_spreadRound 32 = .ok (.putfield 42, 3) := by decide +kernel
theorem dX4_spreadRound_35 : decode cX4_spreadRound 35 = .ok (.aload_n 0, 1) := by decide +kernel
theorem dX4_spreadRound_36 : decode cX4_spreadRound 36 = .ok (.iload_n 2, 1) := by decide +kernel
theorem dX4_spreadRound_37 : decode cX4_spreadRound 37 = .ok (.iconst 0, 1) := by decide +kernel
theorem dX4_spreadRound_38 : decode cX4_spreadRound 38 = .ok (.iconst 0, 1) := by decide +kernel
theorem dX4_spreadRound_39 : decode cX4_spreadRound 39 = .ok (.invokestatic 68, 3) := by decide +kernel
theorem dX4_spreadRound_42 : decode cX4_spreadRound 42 = .ok (.iconst 0, 1) := by decide +kernel
theorem dX4_spreadRound_43 : decode cX4_spreadRound 43 = .ok (.invokevirtual 72, 3) := by decide +kernel
theorem dX4_spreadRound_46 : decode cX4_spreadRound 46 = .ok (.iconst 0, 1) := by decide +kernel
theorem dX4_spreadRound_47 : decode cX4_spreadRound 47 = .ok (.istore 4, 2) := by decide +kernel
theorem dX4_spreadRound_49 : decode cX4_spreadRound 49 = .ok (.iload 4, 2) := by decide +kernel
theorem dX4_spreadRound_51 : decode cX4_spreadRound 51 = .ok (.aload_n 0, 1) := by decide +kernel
theorem dX4_spreadRound_52 : decode cX4_spreadRound 52 = .ok (.getfield 42, 3) := by decide +kernel
theorem dX4_spreadRound_55 : decode cX4_spreadRound 55 = .ok (.if_icmp .ge 30, 3) := by decide +kernel
theorem dX4_spreadRound_58 : decode cX4_spreadRound 58 = .ok (.iload 4, 2) := by decide +kernel
theorem dX4_spreadRound_60 : decode cX4_spreadRound 60 = .ok (.sipush 1200, 3) := by decide +kernel
theorem dX4_spreadRound_63 : decode cX4_spreadRound 63 = .ok (.if_icmp .ge 22, 3) := by decide +kernel
theorem dX4_spreadRound_66 : decode cX4_spreadRound 66 = .ok (.aload_n 0, 1) := by decide +kernel
theorem dX4_spreadRound_67 : decode cX4_spreadRound 67 = .ok (.aload_n 1, 1) := by decide +kernel
theorem dX4_spreadRound_68 : decode cX4_spreadRound 68 = .ok (.aload_n 0, 1) := by decide +kernel
theorem dX4_spreadRound_69 : decode cX4_spreadRound 69 = .ok (.getfield 18, 3) := by decide +kernel
theorem dX4_spreadRound_72 : decode cX4_spreadRound 72 = .ok (.iload 4, 2) := by decide +kernel
theorem dX4_spreadRound_74 : decode cX4_spreadRound 74 = .ok (.iaload, 1) := by decide +kernel
theorem dX4_spreadRound_75 : decode cX4_spreadRound 75 = .ok (.iload_n 3, 1) := by decide +kernel
theorem dX4_spreadRound_76 : decode cX4_spreadRound 76 = .ok (.invokevirtual 76, 3) := by decide +kernel
theorem dX4_spreadRound_79 : decode cX4_spreadRound 79 = .ok (.iinc 4 1, 3) := by decide +kernel
theorem dX4_spreadRound_82 : decode cX4_spreadRound 82 = .ok (.goto (-33), 3) := by decide +kernel
theorem dX4_spreadRound_85 : decode cX4_spreadRound 85 = .ok (.return_, 1) := by decide +kernel
theorem dX4_goRound_0 : decode cX4_goRound 0 = .ok (.iload_n 2, 1) := by decide +kernel
theorem dX4_goRound_1 : decode cX4_goRound 1 = .ok (.bipush 25, 2) := by decide +kernel
theorem dX4_goRound_3 : decode cX4_goRound 3 = .ok (.idiv, 1) := by decide +kernel
theorem dX4_goRound_4 : decode cX4_goRound 4 = .ok (.istore 4, 2) := by decide +kernel
theorem dX4_goRound_6 : decode cX4_goRound 6 = .ok (.iload_n 2, 1) := by decide +kernel
theorem dX4_goRound_7 : decode cX4_goRound 7 = .ok (.bipush 25, 2) := by decide +kernel
theorem dX4_goRound_9 : decode cX4_goRound 9 = .ok (.irem, 1) := by decide +kernel
theorem dX4_goRound_10 : decode cX4_goRound 10 = .ok (.iconst 5, 1) := by decide +kernel
theorem dX4_goRound_11 : decode cX4_goRound 11 = .ok (.idiv, 1) := by decide +kernel
theorem dX4_goRound_12 : decode cX4_goRound 12 = .ok (.iconst 2, 1) := by decide +kernel
theorem dX4_goRound_13 : decode cX4_goRound 13 = .ok (.isub, 1) := by decide +kernel
theorem dX4_goRound_14 : decode cX4_goRound 14 = .ok (.istore 5, 2) := by decide +kernel
theorem dX4_goRound_16 : decode cX4_goRound 16 = .ok (.iload_n 2, 1) := by decide +kernel
theorem dX4_goRound_17 : decode cX4_goRound 17 = .ok (.iconst 5, 1) := by decide +kernel
theorem dX4_goRound_18 : decode cX4_goRound 18 = .ok (.irem, 1) := by decide +kernel
theorem dX4_goRound_19 : decode cX4_goRound 19 = .ok (.iconst 2, 1) := by decide +kernel
theorem dX4_goRound_20 : decode cX4_goRound 20 = .ok (.isub, 1) := by decide +kernel
theorem dX4_goRound_21 : decode cX4_goRound 21 = .ok (.istore 6, 2) := by decide +kernel
theorem dX4_goRound_23 : decode cX4_goRound 23 = .ok (.aload_n 0, 1) := by decide +kernel
theorem dX4_goRound_24 : decode cX4_goRound 24 = .ok (.getfield 21, 3) := by decide +kernel
theorem dX4_goRound_27 : decode cX4_goRound 27 = .ok (.iload 4, 2) := by decide +kernel
theorem dX4_goRound_29 : decode cX4_goRound 29 = .ok (.iaload, 1) := by decide +kernel
theorem dX4_goRound_30 : decode cX4_goRound 30 = .ok (.istore 7, 2) := by decide +kernel
theorem dX4_goRound_32 : decode cX4_goRound 32 = .ok (.iconst 0, 1) := by decide +kernel
theorem dX4_goRound_33 : decode cX4_goRound 33 = .ok (.istore 8, 2) := by decide +kernel
theorem dX4_goRound_35 : decode cX4_goRound 35 = .ok (.iload 8, 2) := by decide +kernel
theorem dX4_goRound_37 : decode cX4_goRound 37 = .ok (.aload_n 1, 1) := by decide +kernel
theorem dX4_goRound_38 : decode cX4_goRound 38 = .ok (.getfield 46, 3) := by decide +kernel
theorem dX4_goRound_41 : decode cX4_goRound 41 = .ok (.iload 4, 2) := by decide +kernel
theorem dX4_goRound_43 : decode cX4_goRound 43 = .ok (.iaload, 1) := by decide +kernel
theorem dX4_goRound_44 : decode cX4_goRound 44 = .ok (.if_icmp .ge 103, 3) := by decide +kernel
theorem dX4_goRound_47 : decode cX4_goRound 47 = .ok (.iload 7, 2) := by decide +kernel
theorem dX4_goRound_49 : decode cX4_goRound 49 = .ok (.ifCond .lt 98, 3) := by decide +kernel
theorem dX4_goRound_52 : decode cX4_goRound 52 = .ok (.aload_n 1, 1) := by decide +kernel
theorem dX4_goRound_53 : decode cX4_goRound 53 = .ok (.iload 7, 2) := by decide +kernel
theorem dX4_goRound_55 : decode cX4_goRound 55 = .ok (.invokevirtual 49, 3) := by decide +kernel
theorem dX4_goRound_58 : decode cX4_goRound 58 = .ok (.istore 9, 2) := by decide +kernel
theorem dX4_goRound_60 : decode cX4_goRound 60 = .ok (.iload 5, 2) := by decide +kernel
theorem dX4_goRound_62 : decode cX4_goRound 62 = .ok (.aload_n 1, 1) := by decide +kernel
theorem dX4_goRound_63 : decode cX4_goRound 63 = .ok (.getfield 80, 3) := by decide +kernel
theorem dX4_goRound_66 : decode cX4_goRound 66 = .ok (.iload 7, 2) := by decide +kernel
theorem dX4_goRound_68 : decode cX4_goRound 68 = .ok (.iaload, 1) := by decide +kernel
theorem dX4_goRound_69 : decode cX4_goRound 69 = .ok (.iadd, 1) := by decide +kernel
theorem dX4_goRound_70 : decode cX4_goRound 70 = .ok (.istore 10, 2) := by decide +kernel
theorem dX4_goRound_72 : decode cX4_goRound 72 = .ok (.iload 6, 2) := by decide +kernel
theorem dX4_goRound_74 : decode cX4_goRound 74 = .ok (.aload_n 1, 1) := by decide +kernel
theorem dX4_goRound_75 : decode cX4_goRound 75 = .ok (.getfield 83, 3) := by decide +kernel
theorem dX4_goRound_78 : decode cX4_goRound 78 = .ok (.iload 7, 2) := by decide +kernel
theorem dX4_goRound_80 : decode cX4_goRound 80 = .ok (.iaload, 1) := by decide +kernel
theorem dX4_goRound_81 : decode cX4_goRound 81 = .ok (.iadd, 1) := by decide +kernel
theorem dX4_goRound_82 : decode cX4_goRound 82 = .ok (.istore 11, 2) := by decide +kernel
theorem dX4_goRound_84 : decode cX4_goRound 84 = .ok (.iload 10, 2) := by decide +kernel
theorem dX4_goRound_86 : decode cX4_goRound 86 = .ok (.invokestatic 86, 3) := by decide +kernel
theorem dX4_goRound_89 : decode cX4_goRound 89 = .ok (.ifCond .eq 43, 3) := by decide +kernel
theorem dX4_goRound_92 : decode cX4_goRound 92 = .ok (.iload 11, 2) := by decide +kernel
theorem dX4_goRound_94 : decode cX4_goRound 94 = .ok (.invokestatic 86, 3) := by decide +kernel
theorem dX4_goRound_97 : decode cX4_goRound 97 = .ok (.ifCond .eq 35, 3) := by decide +kernel
theorem dX4_goRound_100 : decode cX4_goRound 100 = .ok (.aload_n 1, 1) := by decide +kernel
theorem dX4_goRound_101 : decode cX4_goRound 101 = .ok (.getfield 46, 3) := by decide +kernel
theorem dX4_goRound_104 : decode cX4_goRound 104 = .ok (.iload 9, 2) := by decide +kernel
theorem dX4_goRound_106 : decode cX4_goRound 106 = .ok (.iaload, 1) := by decide +kernel
theorem dX4_goRound_107 : decode cX4_goRound 107 = .ok (.iload_n 3, 1) := by decide +kernel
theorem dX4_goRound_108 : decode cX4_goRound 108 = .ok (.if_icmp .lt 24, 3) := by decide +kernel
theorem dX4_goRound_111 : decode cX4_goRound 111 = .ok (.aload_n 0, 1) := by decide +kernel
theorem dX4_goRound_112 : decode cX4_goRound 112 = .ok (.iload 9, 2) := by decide +kernel
theorem dX4_goRound_114 : decode cX4_goRound 114 = .ok (.iload 10, 2) := by decide +kernel
theorem dX4_goRound_116 : decode cX4_goRound 116 = .ok (.iload 11, 2) := by decide +kernel
theorem dX4_goRound_118 : decode cX4_goRound 118 = .ok (.invokestatic 68, 3) := by decide +kernel
theorem dX4_goRound_121 : decode cX4_goRound 121 = .ok (.aload_n 0, 1) := by decide +kernel
theorem dX4_goRound_122 : decode cX4_goRound 122 = .ok (.getfield 15, 3) := by decide +kernel
theorem dX4_goRound_125 : decode cX4_goRound 125 = .ok (.iload_n 2, 1) := by decide +kernel
theorem dX4_goRound_126 : decode cX4_goRound 126 = .ok (.iaload, 1) := by decide +kernel
theorem dX4_goRound_127 : decode cX4_goRound 127 = .ok (.iconst 1, 1) := by decide +kernel
theorem dX4_goRound_128 : decode cX4_goRound 128 = .ok (.iadd, 1) := by decide +kernel
theorem dX4_goRound_129 : decode cX4_goRound 129 = .ok (.invokevirtual 72, 3) := by decide +kernel
theorem dX4_goRound_132 : decode cX4_goRound 132 = .ok (.aload_n 1, 1) := by decide +kernel
theorem dX4_goRound_133 : decode cX4_goRound 133 = .ok (.getfield 52, 3) := by decide +kernel
theorem dX4_goRound_136 : decode cX4_goRound 136 = .ok (.iload 7, 2) := by decide +kernel
theorem dX4_goRound_138 : decode cX4_goRound 138 = .ok (.iaload, 1) := by decide +kernel
theorem dX4_goRound_139 : decode cX4_goRound 139 = .ok (.istore 7, 2) := by decide +kernel
theorem dX4_goRound_141 : decode cX4_goRound 141 = .ok (.iinc 8 1, 3) := by decide +kernel
theorem dX4_goRound_144 : decode cX4_goRound 144 = .ok (.goto (-109), 3) := by decide +kernel
theorem dX4_goRound_147 : decode cX4_goRound 147 = .ok (.return_, 1) := by decide +kernel
theorem dX4_isNear_0 : decode cX4_isNear 0 = .ok (.iload_n 0, 1) := by decide +kernel
theorem dX4_isNear_1 : decode cX4_isNear 1 = .ok (.bipush (-2), 2) := by decide +kernel
theorem dX4_isNear_3 : decode cX4_isNear 3 = .ok (.if_icmp .lt 12, 3) := by decide +kernel
theorem dX4_isNear_6 : decode cX4_isNear 6 = .ok (.iload_n 0, 1) := by decide +kernel
theorem dX4_isNear_7 : decode cX4_isNear 7 = .ok (.iconst 2, 1) := by decide +kernel
theorem dX4_isNear_8 : decode cX4_isNear 8 = .ok (.if_icmp .gt 7, 3) := by decide +kernel
theorem dX4_isNear_11 : decode cX4_isNear 11 = .ok (.iconst 1, 1) := by decide +kernel
theorem dX4_isNear_12 : decode cX4_isNear 12 = .ok (.goto 4, 3) := by decide +kernel
theorem dX4_isNear_15 : decode cX4_isNear 15 = .ok (.iconst 0, 1) := by decide +kernel
theorem dX4_isNear_16 : decode cX4_isNear 16 = .ok (.ireturn, 1) := by decide +kernel
theorem dX4_put_0 : decode cX4_put 0 = .ok (.aload_n 0, 1) := by decide +kernel
theorem dX4_put_1 : decode cX4_put 1 = .ok (.getfield 15, 3) := by decide +kernel
theorem dX4_put_4 : decode cX4_put 4 = .ok (.iload_n 1, 1) := by decide +kernel
theorem dX4_put_5 : decode cX4_put 5 = .ok (.iaload, 1) := by decide +kernel
theorem dX4_put_6 : decode cX4_put 6 = .ok (.ifCond .ge 40, 3) := by decide +kernel
theorem dX4_put_9 : decode cX4_put 9 = .ok (.aload_n 0, 1) := by decide +kernel
theorem dX4_put_10 : decode cX4_put 10 = .ok (.getfield 42, 3) := by decide +kernel
theorem dX4_put_13 : decode cX4_put 13 = .ok (.sipush 1200, 3) := by decide +kernel
theorem dX4_put_16 : decode cX4_put 16 = .ok (.if_icmp .ge 30, 3) := by decide +kernel
theorem dX4_put_19 : decode cX4_put 19 = .ok (.aload_n 0, 1) := by decide +kernel
theorem dX4_put_20 : decode cX4_put 20 = .ok (.getfield 15, 3) := by decide +kernel
theorem dX4_put_23 : decode cX4_put 23 = .ok (.iload_n 1, 1) := by decide +kernel
theorem dX4_put_24 : decode cX4_put 24 = .ok (.iload_n 2, 1) := by decide +kernel
theorem dX4_put_25 : decode cX4_put 25 = .ok (.iastore, 1) := by decide +kernel
theorem dX4_put_26 : decode cX4_put 26 = .ok (.aload_n 0, 1) := by decide +kernel
theorem dX4_put_27 : decode cX4_put 27 = .ok (.getfield 18, 3) := by decide +kernel
theorem dX4_put_30 : decode cX4_put 30 = .ok (.aload_n 0, 1) := by decide +kernel
theorem dX4_put_31 : decode cX4_put 31 = .ok (.getfield 42, 3) := by decide +kernel
theorem dX4_put_34 : decode cX4_put 34 = .ok (.iload_n 1, 1) := by decide +kernel
theorem dX4_put_35 : decode cX4_put 35 = .ok (.iastore, 1) := by decide +kernel
theorem dX4_put_36 : decode cX4_put 36 = .ok (.aload_n 0, 1) := by decide +kernel
theorem dX4_put_37 : decode cX4_put 37 = .ok (.dup, 1) := by decide +kernel
theorem dX4_put_38 : decode cX4_put 38 = .ok (.getfield 42, 3) := by decide +kernel
theorem dX4_put_41 : decode cX4_put 41 = .ok (.iconst 1, 1) := by decide +kernel
theorem dX4_put_42 : decode cX4_put 42 = .ok (.iadd, 1) := by decide +kernel
theorem dX4_put_43 : decode cX4_put 43 = .ok (.putfield 42, 3) := by decide +kernel
theorem dX4_put_46 : decode cX4_put 46 = .ok (.return_, 1) := by decide +kernel
theorem dJ9_floorDiv_7cf53_0 : decode cJ9_floorDiv_7cf53 0 = .ok (.iload_n 0, 1) := by decide +kernel
theorem dJ9_floorDiv_7cf53_1 : decode cJ9_floorDiv_7cf53 1 = .ok (.iload_n 1, 1) := by decide +kernel
theorem dJ9_floorDiv_7cf53_2 : decode cJ9_floorDiv_7cf53 2 = .ok (.idiv, 1) := by decide +kernel
theorem dJ9_floorDiv_7cf53_3 : decode cJ9_floorDiv_7cf53 3 = .ok (.istore_n 2, 1) := by decide +kernel
theorem dJ9_floorDiv_7cf53_4 : decode cJ9_floorDiv_7cf53 4 = .ok (.iload_n 0, 1) := by decide +kernel
theorem dJ9_floorDiv_7cf53_5 : decode cJ9_floorDiv_7cf53 5 = .ok (.iload_n 1, 1) := by decide +kernel
theorem dJ9_floorDiv_7cf53_6 : decode cJ9_floorDiv_7cf53 6 = .ok (.ixor, 1) := by decide +kernel
theorem dJ9_floorDiv_7cf53_7 : decode cJ9_floorDiv_7cf53 7 = .ok (.ifCond .ge 14, 3) := by decide +kernel
theorem dJ9_floorDiv_7cf53_10 : decode cJ9_floorDiv_7cf53 10 = .ok (.iload_n 2, 1) := by decide +kernel
theorem dJ9_floorDiv_7cf53_11 : decode cJ9_floorDiv_7cf53 11 = .ok (.iload_n 1, 1) := by decide +kernel
theorem dJ9_floorDiv_7cf53_12 : decode cJ9_floorDiv_7cf53 12 = .ok (.imul, 1) := by decide +kernel
theorem dJ9_floorDiv_7cf53_13 : decode cJ9_floorDiv_7cf53 13 = .ok (.iload_n 0, 1) := by decide +kernel
theorem dJ9_floorDiv_7cf53_14 : decode cJ9_floorDiv_7cf53 14 = .ok (.if_icmp .eq 7, 3) := by decide +kernel
theorem dJ9_floorDiv_7cf53_17 : decode cJ9_floorDiv_7cf53 17 = .ok (.iload_n 2, 1) := by decide +kernel
theorem dJ9_floorDiv_7cf53_18 : decode cJ9_floorDiv_7cf53 18 = .ok (.iconst 1, 1) := by decide +kernel
theorem dJ9_floorDiv_7cf53_19 : decode cJ9_floorDiv_7cf53 19 = .ok (.isub, 1) := by decide +kernel
theorem dJ9_floorDiv_7cf53_20 : decode cJ9_floorDiv_7cf53 20 = .ok (.ireturn, 1) := by decide +kernel
theorem dJ9_floorDiv_7cf53_21 : decode cJ9_floorDiv_7cf53 21 = .ok (.iload_n 2, 1) := by decide +kernel
theorem dJ9_floorDiv_7cf53_22 : decode cJ9_floorDiv_7cf53 22 = .ok (.ireturn, 1) := by decide +kernel
theorem dJ9_floorMod_7cf53_0 : decode cJ9_floorMod_7cf53 0 = .ok (.iload_n 0, 1) := by decide +kernel
theorem dJ9_floorMod_7cf53_1 : decode cJ9_floorMod_7cf53 1 = .ok (.iload_n 1, 1) := by decide +kernel
theorem dJ9_floorMod_7cf53_2 : decode cJ9_floorMod_7cf53 2 = .ok (.irem, 1) := by decide +kernel
theorem dJ9_floorMod_7cf53_3 : decode cJ9_floorMod_7cf53 3 = .ok (.istore_n 2, 1) := by decide +kernel
theorem dJ9_floorMod_7cf53_4 : decode cJ9_floorMod_7cf53 4 = .ok (.iload_n 0, 1) := by decide +kernel
theorem dJ9_floorMod_7cf53_5 : decode cJ9_floorMod_7cf53 5 = .ok (.iload_n 1, 1) := by decide +kernel
theorem dJ9_floorMod_7cf53_6 : decode cJ9_floorMod_7cf53 6 = .ok (.ixor, 1) := by decide +kernel
theorem dJ9_floorMod_7cf53_7 : decode cJ9_floorMod_7cf53 7 = .ok (.ifCond .ge 11, 3) := by decide +kernel
theorem dJ9_floorMod_7cf53_10 : decode cJ9_floorMod_7cf53 10 = .ok (.iload_n 2, 1) := by decide +kernel
theorem dJ9_floorMod_7cf53_11 : decode cJ9_floorMod_7cf53 11 = .ok (.ifCond .eq 7, 3) := by decide +kernel
theorem dJ9_floorMod_7cf53_14 : decode cJ9_floorMod_7cf53 14 = .ok (.iload_n 2, 1) := by decide +kernel
theorem dJ9_floorMod_7cf53_15 : decode cJ9_floorMod_7cf53 15 = .ok (.iload_n 1, 1) := by decide +kernel
theorem dJ9_floorMod_7cf53_16 : decode cJ9_floorMod_7cf53 16 = .ok (.iadd, 1) := by decide +kernel
theorem dJ9_floorMod_7cf53_17 : decode cJ9_floorMod_7cf53 17 = .ok (.ireturn, 1) := by decide +kernel
theorem dJ9_floorMod_7cf53_18 : decode cJ9_floorMod_7cf53 18 = .ok (.iload_n 2, 1) := by decide +kernel
theorem dJ9_floorMod_7cf53_19 : decode cJ9_floorMod_7cf53 19 = .ok (.ireturn, 1) := by decide +kernel
theorem dJ9_max_7cf53_0 : decode cJ9_max_7cf53 0 = .ok (.iload_n 0, 1) := by decide +kernel
theorem dJ9_max_7cf53_1 : decode cJ9_max_7cf53 1 = .ok (.iload_n 1, 1) := by decide +kernel
theorem dJ9_max_7cf53_2 : decode cJ9_max_7cf53 2 = .ok (.if_icmp .lt 7, 3) := by decide +kernel
theorem dJ9_max_7cf53_5 : decode cJ9_max_7cf53 5 = .ok (.iload_n 0, 1) := by decide +kernel
theorem dJ9_max_7cf53_6 : decode cJ9_max_7cf53 6 = .ok (.goto 4, 3) := by decide +kernel
theorem dJ9_max_7cf53_9 : decode cJ9_max_7cf53 9 = .ok (.iload_n 1, 1) := by decide +kernel
theorem dJ9_max_7cf53_10 : decode cJ9_max_7cf53 10 = .ok (.ireturn, 1) := by decide +kernel
theorem dJ9_min_7cf53_0 : decode cJ9_min_7cf53 0 = .ok (.iload_n 0, 1) := by decide +kernel
theorem dJ9_min_7cf53_1 : decode cJ9_min_7cf53 1 = .ok (.iload_n 1, 1) := by decide +kernel
theorem dJ9_min_7cf53_2 : decode cJ9_min_7cf53 2 = .ok (.if_icmp .gt 7, 3) := by decide +kernel
theorem dJ9_min_7cf53_5 : decode cJ9_min_7cf53 5 = .ok (.iload_n 0, 1) := by decide +kernel
theorem dJ9_min_7cf53_6 : decode cJ9_min_7cf53 6 = .ok (.goto 4, 3) := by decide +kernel
theorem dJ9_min_7cf53_9 : decode cJ9_min_7cf53 9 = .ok (.iload_n 1, 1) := by decide +kernel
theorem dJ9_min_7cf53_10 : decode cJ9_min_7cf53 10 = .ok (.ireturn, 1) := by decide +kernel
