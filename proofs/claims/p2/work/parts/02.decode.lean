theorem dX0_init_0 : decode cX0_init 0 = .ok (.aload_n 0, 1) := by decide +kernel
theorem dX0_init_1 : decode cX0_init 1 = .ok (.invokespecial 3, 3) := by decide +kernel
theorem dX0_init_4 : decode cX0_init 4 = .ok (.aload_n 0, 1) := by decide +kernel
theorem dX0_init_5 : decode cX0_init 5 = .ok (.bipush 6, 2) := by decide +kernel
theorem dX0_init_7 : decode cX0_init 7 = .ok (.newarray .int, 2) := by decide +kernel
theorem dX0_init_9 : decode cX0_init 9 = .ok (.putfield 9, 3) := by decide +kernel
theorem dX0_init_12 : decode cX0_init 12 = .ok (.return_, 1) := by decide +kernel
theorem dX1_init_0 : decode cX1_init 0 = .ok (.aload_n 0, 1) := by decide +kernel
theorem dX1_init_1 : decode cX1_init 1 = .ok (.invokespecial 3, 3) := by decide +kernel
theorem dX1_init_4 : decode cX1_init 4 = .ok (.aload_n 0, 1) := by decide +kernel
theorem dX1_init_5 : decode cX1_init 5 = .ok (.bipush 20, 2) := by decide +kernel
theorem dX1_init_7 : decode cX1_init 7 = .ok (.newarray .int, 2) := by decide +kernel
theorem dX1_init_9 : decode cX1_init 9 = .ok (.putfield 9, 3) := by decide +kernel
theorem dX1_init_12 : decode cX1_init 12 = .ok (.return_, 1) := by decide +kernel
theorem dX1_isOpen_0 : decode cX1_isOpen 0 = .ok (.aload_n 0, 1) := by decide +kernel
theorem dX1_isOpen_1 : decode cX1_isOpen 1 = .ok (.getfield 15, 3) := by decide +kernel
theorem dX1_isOpen_4 : decode cX1_isOpen 4 = .ok (.ifCond .le 7, 3) := by decide +kernel
theorem dX1_isOpen_7 : decode cX1_isOpen 7 = .ok (.iconst 1, 1) := by decide +kernel
theorem dX1_isOpen_8 : decode cX1_isOpen 8 = .ok (.goto 4, 3) := by decide +kernel
theorem dX1_isOpen_11 : decode cX1_isOpen 11 = .ok (.iconst 0, 1) := by decide +kernel
theorem dX1_isOpen_12 : decode cX1_isOpen 12 = .ok (.ireturn, 1) := by decide +kernel
theorem dX1_begin_0 : decode cX1_begin 0 = .ok (.aload_n 0, 1) := by decide +kernel
theorem dX1_begin_1 : decode cX1_begin 1 = .ok (.iload_n 1, 1) := by decide +kernel
theorem dX1_begin_2 : decode cX1_begin 2 = .ok (.putfield 15, 3) := by decide +kernel
theorem dX1_begin_5 : decode cX1_begin 5 = .ok (.aload_n 0, 1) := by decide +kernel
theorem dX1_begin_6 : decode cX1_begin 6 = .ok (.iconst 0, 1) := by decide +kernel
theorem dX1_begin_7 : decode cX1_begin 7 = .ok (.putfield 19, 3) := by decide +kernel
theorem dX1_begin_10 : decode cX1_begin 10 = .ok (.aload_n 0, 1) := by decide +kernel
theorem dX1_begin_11 : decode cX1_begin 11 = .ok (.iconst 0, 1) := by decide +kernel
theorem dX1_begin_12 : decode cX1_begin 12 = .ok (.putfield 23, 3) := by decide +kernel
theorem dX1_begin_15 : decode cX1_begin 15 = .ok (.iconst 0, 1) := by decide +kernel
theorem dX1_begin_16 : decode cX1_begin 16 = .ok (.istore_n 2, 1) := by decide +kernel
theorem dX1_begin_17 : decode cX1_begin 17 = .ok (.iload_n 2, 1) := by decide +kernel
theorem dX1_begin_18 : decode cX1_begin 18 = .ok (.bipush 20, 2) := by decide +kernel
theorem dX1_begin_20 : decode cX1_begin 20 = .ok (.if_icmp .ge 17, 3) := by decide +kernel
theorem dX1_begin_23 : decode cX1_begin 23 = .ok (.aload_n 0, 1) := by decide +kernel
theorem dX1_begin_24 : decode cX1_begin 24 = .ok (.getfield 9, 3) := by decide +kernel
theorem dX1_begin_27 : decode cX1_begin 27 = .ok (.iload_n 2, 1) := by decide +kernel
theorem dX1_begin_28 : decode cX1_begin 28 = .ok (.bipush (-8), 2) := by decide +kernel
theorem dX1_begin_30 : decode cX1_begin 30 = .ok (.iastore, 1) := by decide +kernel
theorem dX1_begin_31 : decode cX1_begin 31 = .ok (.iinc 2 1, 3) := by decide +kernel
theorem dX1_begin_34 : decode cX1_begin 34 = .ok (.goto (-17), 3) := by decide +kernel
theorem dX1_begin_37 : decode cX1_begin 37 = .ok (.return_, 1) := by decide +kernel
theorem dX1_seatsOf_0 : decode cX1_seatsOf 0 = .ok (.iconst 0, 1) := by decide +kernel
theorem dX1_seatsOf_1 : decode cX1_seatsOf 1 = .ok (.istore_n 2, 1) := by decide +kernel
theorem dX1_seatsOf_2 : decode cX1_seatsOf 2 = .ok (.iconst 0, 1) := by decide +kernel
theorem dX1_seatsOf_3 : decode cX1_seatsOf 3 = .ok (.istore_n 3, 1) := by decide +kernel
theorem dX1_seatsOf_4 : decode cX1_seatsOf 4 = .ok (.iload_n 3, 1) := by decide +kernel
theorem dX1_seatsOf_5 : decode cX1_seatsOf 5 = .ok (.aload_n 0, 1) := by decide +kernel
theorem dX1_seatsOf_6 : decode cX1_seatsOf 6 = .ok (.getfield 15, 3) := by decide +kernel
theorem dX1_seatsOf_9 : decode cX1_seatsOf 9 = .ok (.if_icmp .ge 22, 3) := by decide +kernel
theorem dX1_seatsOf_12 : decode cX1_seatsOf 12 = .ok (.aload_n 0, 1) := by decide +kernel
theorem dX1_seatsOf_13 : decode cX1_seatsOf 13 = .ok (.getfield 9, 3) := by decide +kernel
theorem dX1_seatsOf_16 : decode cX1_seatsOf 16 = .ok (.iload_n 3, 1) := by decide +kernel
theorem dX1_seatsOf_17 : decode cX1_seatsOf 17 = .ok (.iaload, 1) := by decide +kernel
theorem dX1_seatsOf_18 : decode cX1_seatsOf 18 = .ok (.iload_n 1, 1) := by decide +kernel
theorem dX1_seatsOf_19 : decode cX1_seatsOf 19 = .ok (.if_icmp .ne 6, 3) := by decide +kernel
theorem dX1_seatsOf_22 : decode cX1_seatsOf 22 = .ok (.iinc 2 1, 3) := by decide +kernel
theorem dX1_seatsOf_25 : decode cX1_seatsOf 25 = .ok (.iinc 3 1, 3) := by decide +kernel
theorem dX1_seatsOf_28 : decode cX1_seatsOf 28 = .ok (.goto (-24), 3) := by decide +kernel
theorem dX1_seatsOf_31 : decode cX1_seatsOf 31 = .ok (.iload_n 2, 1) := by decide +kernel
theorem dX1_seatsOf_32 : decode cX1_seatsOf 32 = .ok (.ireturn, 1) := by decide +kernel
theorem dX1_freeSeatsOf_0 : decode cX1_freeSeatsOf 0 = .ok (.iconst 0, 1) := by decide +kernel
theorem dX1_freeSeatsOf_1 : decode cX1_freeSeatsOf 1 = .ok (.istore_n 2, 1) := by decide +kernel
theorem dX1_freeSeatsOf_2 : decode cX1_freeSeatsOf 2 = .ok (.iload_n 2, 1) := by decide +kernel
theorem dX1_freeSeatsOf_3 : decode cX1_freeSeatsOf 3 = .ok (.aload_n 0, 1) := by decide +kernel
theorem dX1_freeSeatsOf_4 : decode cX1_freeSeatsOf 4 = .ok (.getfield 15, 3) := by decide +kernel
theorem dX1_freeSeatsOf_7 : decode cX1_freeSeatsOf 7 = .ok (.if_icmp .ge 27, 3) := by decide +kernel
theorem dX1_freeSeatsOf_10 : decode cX1_freeSeatsOf 10 = .ok (.aload_n 0, 1) := by decide +kernel
theorem dX1_freeSeatsOf_11 : decode cX1_freeSeatsOf 11 = .ok (.getfield 9, 3) := by decide +kernel
theorem dX1_freeSeatsOf_14 : decode cX1_freeSeatsOf 14 = .ok (.iload_n 2, 1) := by decide +kernel
theorem dX1_freeSeatsOf_15 : decode cX1_freeSeatsOf 15 = .ok (.iaload, 1) := by decide +kernel
theorem dX1_freeSeatsOf_16 : decode cX1_freeSeatsOf 16 = .ok (.iload_n 1, 1) := by decide +kernel
theorem dX1_freeSeatsOf_17 : decode cX1_freeSeatsOf 17 = .ok (.if_icmp .ne 11, 3) := by decide +kernel
theorem dX1_freeSeatsOf_20 : decode cX1_freeSeatsOf 20 = .ok (.aload_n 0, 1) := by decide +kernel
theorem dX1_freeSeatsOf_21 : decode cX1_freeSeatsOf 21 = .ok (.getfield 9, 3) := by decide +kernel
theorem dX1_freeSeatsOf_24 : decode cX1_freeSeatsOf 24 = .ok (.iload_n 2, 1) := by decide +kernel
theorem dX1_freeSeatsOf_25 : decode cX1_freeSeatsOf 25 = .ok (.bipush (-8), 2) := by decide +kernel
theorem dX1_freeSeatsOf_27 : decode cX1_freeSeatsOf 27 = .ok (.iastore, 1) := by decide +kernel
theorem dX1_freeSeatsOf_28 : decode cX1_freeSeatsOf 28 = .ok (.iinc 2 1, 3) := by decide +kernel
theorem dX1_freeSeatsOf_31 : decode cX1_freeSeatsOf 31 = .ok (.goto (-29), 3) := by decide +kernel
theorem dX1_freeSeatsOf_34 : decode cX1_freeSeatsOf 34 = .ok (.return_, 1) := by decide +kernel
theorem dX1_take_0 : decode cX1_take 0 = .ok (.aload_n 0, 1) := by decide +kernel
theorem dX1_take_1 : decode cX1_take 1 = .ok (.getfield 19, 3) := by decide +kernel
theorem dX1_take_4 : decode cX1_take 4 = .ok (.ifCond .eq 11, 3) := by decide +kernel
theorem dX1_take_7 : decode cX1_take 7 = .ok (.aload_n 0, 1) := by decide +kernel
theorem dX1_take_8 : decode cX1_take 8 = .ok (.iload_n 1, 1) := by decide +kernel
theorem dX1_take_9 : decode cX1_take 9 = .ok (.invokevirtual 26, 3) := by decide +kernel
theorem dX1_take_12 : decode cX1_take 12 = .ok (.goto 4, 3) := by decide +kernel
theorem dX1_take_15 : decode cX1_take 15 = .ok (.iconst 0, 1) := by decide +kernel
theorem dX1_take_16 : decode cX1_take 16 = .ok (.istore_n 3, 1) := by decide +kernel
theorem dX1_take_17 : decode cX1_take 17 = .ok (.iconst 0, 1) := by decide +kernel
theorem dX1_take_18 : decode cX1_take 18 = .ok (.istore 4, 2) := by decide +kernel
theorem dX1_take_20 : decode cX1_take 20 = .ok (.iconst 0, 1) := by decide +kernel
theorem dX1_take_21 : decode cX1_take 21 = .ok (.istore 5, 2) := by decide +kernel
theorem dX1_take_23 : decode cX1_take 23 = .ok (.iload_n 3, 1) := by decide +kernel
theorem dX1_take_24 : decode cX1_take 24 = .ok (.istore 6, 2) := by decide +kernel
theorem dX1_take_26 : decode cX1_take 26 = .ok (.iload 6, 2) := by decide +kernel
theorem dX1_take_28 : decode cX1_take 28 = .ok (.aload_n 0, 1) := by decide +kernel
theorem dX1_take_29 : decode cX1_take 29 = .ok (.getfield 15, 3) := by decide +kernel
theorem dX1_take_32 : decode cX1_take 32 = .ok (.if_icmp .ge 60, 3) := by decide +kernel
theorem dX1_take_35 : decode cX1_take 35 = .ok (.iload 5, 2) := by decide +kernel
theorem dX1_take_37 : decode cX1_take 37 = .ok (.iload_n 1, 1) := by decide +kernel
theorem dX1_take_38 : decode cX1_take 38 = .ok (.if_icmp .ge 54, 3) := by decide +kernel
theorem dX1_take_41 : decode cX1_take 41 = .ok (.aload_n 0, 1) := by decide +kernel
theorem dX1_take_42 : decode cX1_take 42 = .ok (.getfield 9, 3) := by decide +kernel
theorem dX1_take_45 : decode cX1_take 45 = .ok (.iload 6, 2) := by decide +kernel
theorem dX1_take_47 : decode cX1_take 47 = .ok (.iaload, 1) := by decide +kernel
theorem dX1_take_48 : decode cX1_take 48 = .ok (.bipush (-8), 2) := by decide +kernel
theorem dX1_take_50 : decode cX1_take 50 = .ok (.if_icmp .ne 26, 3) := by decide +kernel
theorem dX1_take_53 : decode cX1_take 53 = .ok (.aload_n 0, 1) := by decide +kernel
theorem dX1_take_54 : decode cX1_take 54 = .ok (.getfield 9, 3) := by decide +kernel
theorem dX1_take_57 : decode cX1_take 57 = .ok (.iload 6, 2) := by decide +kernel
theorem dX1_take_59 : decode cX1_take 59 = .ok (.iload_n 2, 1) := by decide +kernel
theorem dX1_take_60 : decode cX1_take 60 = .ok (.iastore, 1) := by decide +kernel
theorem dX1_take_61 : decode cX1_take 61 = .ok (.iload 4, 2) := by decide +kernel
theorem dX1_take_63 : decode cX1_take 63 = .ok (.iconst 1, 1) := by decide +kernel
theorem dX1_take_64 : decode cX1_take 64 = .ok (.iload 6, 2) := by decide +kernel
theorem dX1_take_66 : decode cX1_take 66 = .ok (.ishl, 1) := by decide +kernel
theorem dX1_take_67 : decode cX1_take 67 = .ok (.ior, 1) := by decide +kernel
theorem dX1_take_68 : decode cX1_take 68 = .ok (.istore 4, 2) := by decide +kernel
theorem dX1_take_70 : decode cX1_take 70 = .ok (.iinc 5 1, 3) := by decide +kernel
theorem dX1_take_73 : decode cX1_take 73 = .ok (.goto 13, 3) := by decide +kernel
theorem dX1_take_76 : decode cX1_take 76 = .ok (.aload_n 0, 1) := by decide +kernel
theorem dX1_take_77 : decode cX1_take 77 = .ok (.getfield 19, 3) := by decide +kernel
theorem dX1_take_80 : decode cX1_take 80 = .ok (.ifCond .eq 6, 3) := by decide +kernel
theorem dX1_take_83 : decode cX1_take 83 = .ok (.goto 9, 3) := by decide +kernel
theorem dX1_take_86 : decode cX1_take 86 = .ok (.iinc 6 1, 3) := by decide +kernel
theorem dX1_take_89 : decode cX1_take 89 = .ok (.goto (-63), 3) := by decide +kernel
theorem dX1_take_92 : decode cX1_take 92 = .ok (.iload 4, 2) := by decide +kernel
theorem dX1_take_94 : decode cX1_take 94 = .ok (.ireturn, 1) := by decide +kernel
theorem dX1_bestStretch_0 : decode cX1_bestStretch 0 = .ok (.iconst 0, 1) := by decide +kernel
theorem dX1_bestStretch_1 : decode cX1_bestStretch 1 = .ok (.istore_n 2, 1) := by decide +kernel
theorem dX1_bestStretch_2 : decode cX1_bestStretch 2 = .ok (.iconst 0, 1) := by decide +kernel
theorem dX1_bestStretch_3 : decode cX1_bestStretch 3 = .ok (.istore_n 3, 1) := by decide +kernel
theorem dX1_bestStretch_4 : decode cX1_bestStretch 4 = .ok (.iconst 0, 1) := by decide +kernel
theorem dX1_bestStretch_5 : decode cX1_bestStretch 5 = .ok (.istore 4, 2) := by decide +kernel
theorem dX1_bestStretch_7 : decode cX1_bestStretch 7 = .ok (.iconst 0, 1) := by decide +kernel
theorem dX1_bestStretch_8 : decode cX1_bestStretch 8 = .ok (.istore 5, 2) := by decide +kernel
theorem dX1_bestStretch_10 : decode cX1_bestStretch 10 = .ok (.iload 5, 2) := by decide +kernel
theorem dX1_bestStretch_12 : decode cX1_bestStretch 12 = .ok (.aload_n 0, 1) := by decide +kernel
theorem dX1_bestStretch_13 : decode cX1_bestStretch 13 = .ok (.getfield 15, 3) := by decide +kernel
theorem dX1_bestStretch_16 : decode cX1_bestStretch 16 = .ok (.if_icmp .ge 53, 3) := by decide +kernel
theorem dX1_bestStretch_19 : decode cX1_bestStretch 19 = .ok (.iload_n 3, 1) := by decide +kernel
theorem dX1_bestStretch_20 : decode cX1_bestStretch 20 = .ok (.iload_n 1, 1) := by decide +kernel
theorem dX1_bestStretch_21 : decode cX1_bestStretch 21 = .ok (.if_icmp .ge 48, 3) := by decide +kernel
theorem dX1_bestStretch_24 : decode cX1_bestStretch 24 = .ok (.aload_n 0, 1) := by decide +kernel
theorem dX1_bestStretch_25 : decode cX1_bestStretch 25 = .ok (.getfield 9, 3) := by decide +kernel
theorem dX1_bestStretch_28 : decode cX1_bestStretch 28 = .ok (.iload 5, 2) := by decide +kernel
theorem dX1_bestStretch_30 : decode cX1_bestStretch 30 = .ok (.iaload, 1) := by decide +kernel
theorem dX1_bestStretch_31 : decode cX1_bestStretch 31 = .ok (.bipush (-8), 2) := by decide +kernel
theorem dX1_bestStretch_33 : decode cX1_bestStretch 33 = .ok (.if_icmp .ne 10, 3) := by decide +kernel
theorem dX1_bestStretch_36 : decode cX1_bestStretch 36 = .ok (.iload 4, 2) := by decide +kernel
theorem dX1_bestStretch_38 : decode cX1_bestStretch 38 = .ok (.iconst 1, 1) := by decide +kernel
theorem dX1_bestStretch_39 : decode cX1_bestStretch 39 = .ok (.iadd, 1) := by decide +kernel
theorem dX1_bestStretch_40 : decode cX1_bestStretch 40 = .ok (.goto 4, 3) := by decide +kernel
theorem dX1_bestStretch_43 : decode cX1_bestStretch 43 = .ok (.iconst 0, 1) := by decide +kernel
theorem dX1_bestStretch_44 : decode cX1_bestStretch 44 = .ok (.istore 4, 2) := by decide +kernel
theorem dX1_bestStretch_46 : decode cX1_bestStretch 46 = .ok (.iload 4, 2) := by decide +kernel
theorem dX1_bestStretch_48 : decode cX1_bestStretch 48 = .ok (.iload_n 3, 1) := by decide +kernel
theorem dX1_bestStretch_49 : decode cX1_bestStretch 49 = .ok (.if_icmp .le 14, 3) := by decide +kernel
theorem dX1_bestStretch_52 : decode cX1_bestStretch 52 = .ok (.iload 4, 2) := by decide +kernel
theorem dX1_bestStretch_54 : decode cX1_bestStretch 54 = .ok (.istore_n 3, 1) := by decide +kernel
theorem dX1_bestStretch_55 : decode cX1_bestStretch 55 = .ok (.iload 5, 2) := by decide +kernel
theorem dX1_bestStretch_57 : decode cX1_bestStretch 57 = .ok (.iconst 1, 1) := by decide +kernel
theorem dX1_bestStretch_58 : decode cX1_bestStretch 58 = .ok (.iadd, 1) := by decide +kernel
theorem dX1_bestStretch_59 : decode cX1_bestStretch 59 = .ok (.iload 4, 2) := by decide +kernel
theorem dX1_bestStretch_61 : decode cX1_bestStretch 61 = .ok (.isub, 1) := by decide +kernel
theorem dX1_bestStretch_62 : decode cX1_bestStretch 62 = .ok (.istore_n 2, 1) := by decide +kernel
theorem dX1_bestStretch_63 : decode cX1_bestStretch 63 = .ok (.iinc 5 1, 3) := by decide +kernel
theorem dX1_bestStretch_66 : decode cX1_bestStretch 66 = .ok (.goto (-56), 3) := by decide +kernel
theorem dX1_bestStretch_69 : decode cX1_bestStretch 69 = .ok (.iload_n 2, 1) := by decide +kernel
theorem dX1_bestStretch_70 : decode cX1_bestStretch 70 = .ok (.ireturn, 1) := by decide +kernel
theorem dX1_giveBack_0 : decode cX1_giveBack 0 = .ok (.iload_n 1, 1) := by decide +kernel
theorem dX1_giveBack_1 : decode cX1_giveBack 1 = .ok (.ifCond .ne 4, 3) := by decide +kernel
theorem dX1_giveBack_4 : decode cX1_giveBack 4 = .ok (.return_, 1) := by decide +kernel
theorem dX1_giveBack_5 : decode cX1_giveBack 5 = .ok (.aload_n 0, 1) := by decide +kernel
theorem dX1_giveBack_6 : decode cX1_giveBack 6 = .ok (.dup, 1) := by decide +kernel
theorem dX1_giveBack_7 : decode cX1_giveBack 7 = .ok (.getfield 23, 3) := by decide +kernel
theorem dX1_giveBack_10 : decode cX1_giveBack 10 = .ok (.iconst 1, 1) := by decide +kernel
theorem dX1_giveBack_11 : decode cX1_giveBack 11 = .ok (.iadd, 1) := by decide +kernel
theorem dX1_giveBack_12 : decode cX1_giveBack 12 = .ok (.putfield 23, 3) := by decide +kernel
theorem dX1_giveBack_15 : decode cX1_giveBack 15 = .ok (.iconst 0, 1) := by decide +kernel
theorem dX1_giveBack_16 : decode cX1_giveBack 16 = .ok (.istore_n 2, 1) := by decide +kernel
theorem dX1_giveBack_17 : decode cX1_giveBack 17 = .ok (.iload_n 2, 1) := by decide +kernel
theorem dX1_giveBack_18 : decode cX1_giveBack 18 = .ok (.aload_n 0, 1) := by decide +kernel
theorem dX1_giveBack_19 : decode cX1_giveBack 19 = .ok (.getfield 15, 3) := by decide +kernel
theorem dX1_giveBack_22 : decode cX1_giveBack 22 = .ok (.if_icmp .ge 25, 3) := by decide +kernel
theorem dX1_giveBack_25 : decode cX1_giveBack 25 = .ok (.iload_n 1, 1) := by decide +kernel
theorem dX1_giveBack_26 : decode cX1_giveBack 26 = .ok (.iconst 1, 1) := by decide +kernel
theorem dX1_giveBack_27 : decode cX1_giveBack 27 = .ok (.iload_n 2, 1) := by decide +kernel
theorem dX1_giveBack_28 : decode cX1_giveBack 28 = .ok (.ishl, 1) := by decide +kernel
theorem dX1_giveBack_29 : decode cX1_giveBack 29 = .ok (.iand, 1) := by decide +kernel
theorem dX1_giveBack_30 : decode cX1_giveBack 30 = .ok (.ifCond .eq 11, 3) := by decide +kernel
theorem dX1_giveBack_33 : decode cX1_giveBack 33 = .ok (.aload_n 0, 1) := by decide +kernel
theorem dX1_giveBack_34 : decode cX1_giveBack 34 = .ok (.getfield 9, 3) := by decide +kernel
theorem dX1_giveBack_37 : decode cX1_giveBack 37 = .ok (.iload_n 2, 1) := by decide +kernel
theorem dX1_giveBack_38 : decode cX1_giveBack 38 = .ok (.bipush (-8), 2) := by decide +kernel
theorem dX1_giveBack_40 : decode cX1_giveBack 40 = .ok (.iastore, 1) := by decide +kernel
theorem dX1_giveBack_41 : decode cX1_giveBack 41 = .ok (.iinc 2 1, 3) := by decide +kernel
theorem dX1_giveBack_44 : decode cX1_giveBack 44 = .ok (.goto (-27), 3) := by decide +kernel
theorem dX1_giveBack_47 : decode cX1_giveBack 47 = .ok (.return_, 1) := by decide +kernel
theorem dX2_init_0 : decode cX2_init 0 = .ok (.aload_n 0, 1) := by decide +kernel
theorem dX2_init_1 : decode cX2_init 1 = .ok (.invokespecial 1, 3) := by decide +kernel
theorem dX2_init_4 : decode cX2_init 4 = .ok (.aload_n 0, 1) := by decide +kernel
theorem dX2_init_5 : decode cX2_init 5 = .ok (.bipush 10, 2) := by decide +kernel
theorem dX2_init_7 : decode cX2_init 7 = .ok (.anewarray 9, 3) := by decide +kernel
theorem dX2_init_10 : decode cX2_init 10 = .ok (.putfield 11, 3) := by decide +kernel
theorem dX2_init_13 : decode cX2_init 13 = .ok (.aload_n 0, 1) := by decide +kernel
theorem dX2_init_14 : decode cX2_init 14 = .ok (.bipush 40, 2) := by decide +kernel
theorem dX2_init_16 : decode cX2_init 16 = .ok (.newarray .boolean, 2) := by decide +kernel
theorem dX2_init_18 : decode cX2_init 18 = .ok (.putfield 15, 3) := by decide +kernel
theorem dX2_init_21 : decode cX2_init 21 = .ok (.aload_n 0, 1) := by decide +kernel
theorem dX2_init_22 : decode cX2_init 22 = .ok (.bipush 8, 2) := by decide +kernel
theorem dX2_init_24 : decode cX2_init 24 = .ok (.anewarray 19, 3) := by decide +kernel
theorem dX2_init_27 : decode cX2_init 27 = .ok (.putfield 21, 3) := by decide +kernel
theorem dX2_init_30 : decode cX2_init 30 = .ok (.aload_n 0, 1) := by decide +kernel
theorem dX2_init_31 : decode cX2_init 31 = .ok (.new 19, 3) := by decide +kernel
theorem dX2_init_34 : decode cX2_init 34 = .ok (.dup, 1) := by decide +kernel
theorem dX2_init_35 : decode cX2_init 35 = .ok (.invokespecial 25, 3) := by decide +kernel
theorem dX2_init_38 : decode cX2_init 38 = .ok (.putfield 26, 3) := by decide +kernel
theorem dX2_init_41 : decode cX2_init 41 = .ok (.iconst 0, 1) := by decide +kernel
theorem dX2_init_42 : decode cX2_init 42 = .ok (.istore_n 1, 1) := by decide +kernel
theorem dX2_init_43 : decode cX2_init 43 = .ok (.iload_n 1, 1) := by decide +kernel
theorem dX2_init_44 : decode cX2_init 44 = .ok (.bipush 10, 2) := by decide +kernel
theorem dX2_init_46 : decode cX2_init 46 = .ok (.if_icmp .ge 22, 3) := by decide +kernel
theorem dX2_init_49 : decode cX2_init 49 = .ok (.aload_n 0, 1) := by decide +kernel
theorem dX2_init_50 : decode cX2_init 50 = .ok (.getfield 11, 3) := by decide +kernel
theorem dX2_init_53 : decode cX2_init 53 = .ok (.iload_n 1, 1) := by decide +kernel
theorem dX2_init_54 : decode cX2_init 54 = .ok (.new 9, 3) := by decide +kernel
theorem dX2_init_57 : decode cX2_init 57 = .ok (.dup, 1) := by decide +kernel
theorem dX2_init_58 : decode cX2_init 58 = .ok (.invokespecial 30, 3) := by decide +kernel
theorem dX2_init_61 : decode cX2_init 61 = .ok (.aastore, 1) := by decide +kernel
theorem dX2_init_62 : decode cX2_init 62 = .ok (.iinc 1 1, 3) := by decide +kernel
theorem dX2_init_65 : decode cX2_init 65 = .ok (.goto (-22), 3) := by decide +kernel
theorem dX2_init_68 : decode cX2_init 68 = .ok (.iconst 0, 1) := by decide +kernel
theorem dX2_init_69 : decode cX2_init 69 = .ok (.istore_n 1, 1) := by decide +kernel
theorem dX2_init_70 : decode cX2_init 70 = .ok (.iload_n 1, 1) := by decide +kernel
theorem dX2_init_71 : decode cX2_init 71 = .ok (.bipush 8, 2) := by decide +kernel
theorem dX2_init_73 : decode cX2_init 73 = .ok (.if_icmp .ge 22, 3) := by decide +kernel
theorem dX2_init_76 : decode cX2_init 76 = .ok (.aload_n 0, 1) := by decide +kernel
theorem dX2_init_77 : decode cX2_init 77 = .ok (.getfield 21, 3) := by decide +kernel
theorem dX2_init_80 : decode cX2_init 80 = .ok (.iload_n 1, 1) := by decide +kernel
theorem dX2_init_81 : decode cX2_init 81 = .ok (.new 19, 3) := by decide +kernel
theorem dX2_init_84 : decode cX2_init 84 = .ok (.dup, 1) := by decide +kernel
theorem dX2_init_85 : decode cX2_init 85 = .ok (.invokespecial 25, 3) := by decide +kernel
theorem dX2_init_88 : decode cX2_init 88 = .ok (.aastore, 1) := by decide +kernel
theorem dX2_init_89 : decode cX2_init 89 = .ok (.iinc 1 1, 3) := by decide +kernel
theorem dX2_init_92 : decode cX2_init 92 = .ok (.goto (-22), 3) := by decide +kernel
theorem dX2_init_95 : decode cX2_init 95 = .ok (.return_, 1) := by decide +kernel
theorem dX2_open_0 : decode cX2_open 0 = .ok (.iload_n 1, 1) := by decide +kernel
theorem dX2_open_1 : decode cX2_open 1 = .ok (.invokestatic 31, 3) := by decide +kernel
theorem dX2_open_4 : decode cX2_open 4 = .ok (.ifCond .eq 14, 3) := by decide +kernel
theorem dX2_open_7 : decode cX2_open 7 = .ok (.iload_n 2, 1) := by decide +kernel
theorem dX2_open_8 : decode cX2_open 8 = .ok (.iconst 1, 1) := by decide +kernel
theorem dX2_open_9 : decode cX2_open 9 = .ok (.if_icmp .lt 9, 3) := by decide +kernel
theorem dX2_open_12 : decode cX2_open 12 = .ok (.iload_n 2, 1) := by decide +kernel
theorem dX2_open_13 : decode cX2_open 13 = .ok (.bipush 20, 2) := by decide +kernel
theorem dX2_open_15 : decode cX2_open 15 = .ok (.if_icmp .le 5, 3) := by decide +kernel
theorem dX2_open_18 : decode cX2_open 18 = .ok (.iconst (-1), 1) := by decide +kernel
theorem dX2_open_19 : decode cX2_open 19 = .ok (.ireturn, 1) := by decide +kernel
theorem dX2_open_20 : decode cX2_open 20 = .ok (.aload_n 0, 1) := by decide +kernel
theorem dX2_open_21 : decode cX2_open 21 = .ok (.getfield 11, 3) := by decide +kernel
theorem dX2_open_24 : decode cX2_open 24 = .ok (.iload_n 1, 1) := by decide +kernel
theorem dX2_open_25 : decode cX2_open 25 = .ok (.aaload, 1) := by decide +kernel
theorem dX2_open_26 : decode cX2_open 26 = .ok (.invokevirtual 35, 3) := by decide +kernel
theorem dX2_open_29 : decode cX2_open 29 = .ok (.ifCond .eq 6, 3) := by decide +kernel
theorem dX2_open_32 : decode cX2_open 32 = .ok (.bipush (-2), 2) := by decide +kernel
theorem dX2_open_34 : decode cX2_open 34 = .ok (.ireturn, 1) := by decide +kernel
theorem dX2_open_35 : decode cX2_open 35 = .ok (.aload_n 0, 1) := by decide +kernel
theorem dX2_open_36 : decode cX2_open 36 = .ok (.getfield 11, 3) := by decide +kernel
theorem dX2_open_39 : decode cX2_open 39 = .ok (.iload_n 1, 1) := by decide +kernel
theorem dX2_open_40 : decode cX2_open 40 = .ok (.aaload, 1) := by decide +kernel
theorem dX2_open_41 : decode cX2_open 41 = .ok (.iload_n 2, 1) := by decide +kernel
theorem dX2_open_42 : decode cX2_open 42 = .ok (.invokevirtual 39, 3) := by decide +kernel
theorem dX2_open_45 : decode cX2_open 45 = .ok (.aload_n 0, 1) := by decide +kernel
theorem dX2_open_46 : decode cX2_open 46 = .ok (.invokevirtual 43, 3) := by decide +kernel
theorem dX2_open_49 : decode cX2_open 49 = .ok (.ireturn, 1) := by decide +kernel
theorem dX2_shut_0 : decode cX2_shut 0 = .ok (.iload_n 1, 1) := by decide +kernel
theorem dX2_shut_1 : decode cX2_shut 1 = .ok (.invokestatic 31, 3) := by decide +kernel
theorem dX2_shut_4 : decode cX2_shut 4 = .ok (.ifCond .ne 5, 3) := by decide +kernel
theorem dX2_shut_7 : decode cX2_shut 7 = .ok (.iconst (-1), 1) := by decide +kernel
theorem dX2_shut_8 : decode cX2_shut 8 = .ok (.ireturn, 1) := by decide +kernel
theorem dX2_shut_9 : decode cX2_shut 9 = .ok (.aload_n 0, 1) := by decide +kernel
theorem dX2_shut_10 : decode cX2_shut 10 = .ok (.getfield 11, 3) := by decide +kernel
theorem dX2_shut_13 : decode cX2_shut 13 = .ok (.iload_n 1, 1) := by decide +kernel
theorem dX2_shut_14 : decode cX2_shut 14 = .ok (.aaload, 1) := by decide +kernel
theorem dX2_shut_15 : decode cX2_shut 15 = .ok (.astore_n 2, 1) := by decide +kernel
theorem dX2_shut_16 : decode cX2_shut 16 = .ok (.aload_n 2, 1) := by decide +kernel
theorem dX2_shut_17 : decode cX2_shut 17 = .ok (.invokevirtual 35, 3) := by decide +kernel
theorem dX2_shut_20 : decode cX2_shut 20 = .ok (.ifCond .eq 16, 3) := by decide +kernel
theorem dX2_shut_23 : decode cX2_shut 23 = .ok (.aload_n 2, 1) := by decide +kernel
theorem dX2_shut_24 : decode cX2_shut 24 = .ok (.bipush (-8), 2) := by decide +kernel
theorem dX2_shut_26 : decode cX2_shut 26 = .ok (.invokevirtual 47, 3) := by decide +kernel
theorem dX2_shut_29 : decode cX2_shut 29 = .ok (.aload_n 2, 1) := by decide +kernel
theorem dX2_shut_30 : decode cX2_shut 30 = .ok (.getfield 51, 3) := by decide +kernel
theorem dX2_shut_33 : decode cX2_shut 33 = .ok (.if_icmp .ge 6, 3) := by decide +kernel
theorem dX2_shut_36 : decode cX2_shut 36 = .ok (.bipush (-2), 2) := by decide +kernel
theorem dX2_shut_38 : decode cX2_shut 38 = .ok (.ireturn, 1) := by decide +kernel
theorem dX2_shut_39 : decode cX2_shut 39 = .ok (.aload_n 2, 1) := by decide +kernel
theorem dX2_shut_40 : decode cX2_shut 40 = .ok (.getfield 51, 3) := by decide +kernel
theorem dX2_shut_43 : decode cX2_shut 43 = .ok (.istore_n 3, 1) := by decide +kernel
theorem dX2_shut_44 : decode cX2_shut 44 = .ok (.aload_n 2, 1) := by decide +kernel
theorem dX2_shut_45 : decode cX2_shut 45 = .ok (.iconst 0, 1) := by decide +kernel
theorem dX2_shut_46 : decode cX2_shut 46 = .ok (.putfield 51, 3) := by decide +kernel
theorem dX2_shut_49 : decode cX2_shut 49 = .ok (.iload_n 3, 1) := by decide +kernel
theorem dX2_shut_50 : decode cX2_shut 50 = .ok (.ireturn, 1) := by decide +kernel
theorem dX2_strict_0 : decode cX2_strict 0 = .ok (.iload_n 1, 1) := by decide +kernel
theorem dX2_strict_1 : decode cX2_strict 1 = .ok (.invokestatic 31, 3) := by decide +kernel
theorem dX2_strict_4 : decode cX2_strict 4 = .ok (.ifCond .ne 5, 3) := by decide +kernel
theorem dX2_strict_7 : decode cX2_strict 7 = .ok (.iconst (-1), 1) := by decide +kernel
theorem dX2_strict_8 : decode cX2_strict 8 = .ok (.ireturn, 1) := by decide +kernel
theorem dX2_strict_9 : decode cX2_strict 9 = .ok (.aload_n 0, 1) := by decide +kernel
theorem dX2_strict_10 : decode cX2_strict 10 = .ok (.getfield 11, 3) := by decide +kernel
theorem dX2_strict_13 : decode cX2_strict 13 = .ok (.iload_n 1, 1) := by decide +kernel
theorem dX2_strict_14 : decode cX2_strict 14 = .ok (.aaload, 1) := by decide +kernel
theorem dX2_strict_15 : decode cX2_strict 15 = .ok (.invokevirtual 35, 3) := by decide +kernel
theorem dX2_strict_18 : decode cX2_strict 18 = .ok (.ifCond .ne 6, 3) := by decide +kernel
theorem dX2_strict_21 : decode cX2_strict 21 = .ok (.bipush (-2), 2) := by decide +kernel
theorem dX2_strict_23 : decode cX2_strict 23 = .ok (.ireturn, 1) := by decide +kernel
theorem dX2_strict_24 : decode cX2_strict 24 = .ok (.aload_n 0, 1) := by decide +kernel
theorem dX2_strict_25 : decode cX2_strict 25 = .ok (.getfield 11, 3) := by decide +kernel
theorem dX2_strict_28 : decode cX2_strict 28 = .ok (.iload_n 1, 1) := by decide +kernel
theorem dX2_strict_29 : decode cX2_strict 29 = .ok (.aaload, 1) := by decide +kernel
theorem dX2_strict_30 : decode cX2_strict 30 = .ok (.getfield 55, 3) := by decide +kernel
theorem dX2_strict_33 : decode cX2_strict 33 = .ok (.istore_n 3, 1) := by decide +kernel
theorem dX2_strict_34 : decode cX2_strict 34 = .ok (.aload_n 0, 1) := by decide +kernel
theorem dX2_strict_35 : decode cX2_strict 35 = .ok (.getfield 11, 3) := by decide +kernel
theorem dX2_strict_38 : decode cX2_strict 38 = .ok (.iload_n 1, 1) := by decide +kernel
theorem dX2_strict_39 : decode cX2_strict 39 = .ok (.aaload, 1) := by decide +kernel
theorem dX2_strict_40 : decode cX2_strict 40 = .ok (.iload_n 2, 1) := by decide +kernel
theorem dX2_strict_41 : decode cX2_strict 41 = .ok (.putfield 55, 3) := by decide +kernel
theorem dX2_strict_44 : decode cX2_strict 44 = .ok (.iload_n 3, 1) := by decide +kernel
theorem dX2_strict_45 : decode cX2_strict 45 = .ok (.ifCond .eq 7, 3) := by decide +kernel
theorem dX2_strict_48 : decode cX2_strict 48 = .ok (.iconst 1, 1) := by decide +kernel
theorem dX2_strict_49 : decode cX2_strict 49 = .ok (.goto 4, 3) := by decide +kernel
theorem dX2_strict_52 : decode cX2_strict 52 = .ok (.iconst 0, 1) := by decide +kernel
theorem dX2_strict_53 : decode cX2_strict 53 = .ok (.ireturn, 1) := by decide +kernel
theorem dX2_list_0 : decode cX2_list 0 = .ok (.iload_n 1, 1) := by decide +kernel
theorem dX2_list_1 : decode cX2_list 1 = .ok (.ifCond .lt 9, 3) := by decide +kernel
theorem dX2_list_4 : decode cX2_list 4 = .ok (.iload_n 1, 1) := by decide +kernel
theorem dX2_list_5 : decode cX2_list 5 = .ok (.bipush 11, 2) := by decide +kernel
theorem dX2_list_7 : decode cX2_list 7 = .ok (.if_icmp .le 5, 3) := by decide +kernel
theorem dX2_list_10 : decode cX2_list 10 = .ok (.iconst (-1), 1) := by decide +kernel
theorem dX2_list_11 : decode cX2_list 11 = .ok (.ireturn, 1) := by decide +kernel
theorem dX2_list_12 : decode cX2_list 12 = .ok (.aload_n 0, 1) := by decide +kernel
theorem dX2_list_13 : decode cX2_list 13 = .ok (.getfield 26, 3) := by decide +kernel
theorem dX2_list_16 : decode cX2_list 16 = .ok (.getfield 59, 3) := by decide +kernel
theorem dX2_list_19 : decode cX2_list 19 = .ok (.bipush 6, 2) := by decide +kernel
theorem dX2_list_21 : decode cX2_list 21 = .ok (.if_icmp .lt 6, 3) := by decide +kernel
theorem dX2_list_24 : decode cX2_list 24 = .ok (.bipush (-3), 2) := by decide +kernel
theorem dX2_list_26 : decode cX2_list 26 = .ok (.ireturn, 1) := by decide +kernel
theorem dX2_list_27 : decode cX2_list 27 = .ok (.aload_n 0, 1) := by decide +kernel
theorem dX2_list_28 : decode cX2_list 28 = .ok (.getfield 26, 3) := by decide +kernel
theorem dX2_list_31 : decode cX2_list 31 = .ok (.getfield 62, 3) := by decide +kernel
theorem dX2_list_34 : decode cX2_list 34 = .ok (.aload_n 0, 1) := by decide +kernel
theorem dX2_list_35 : decode cX2_list 35 = .ok (.getfield 26, 3) := by decide +kernel
theorem dX2_list_38 : decode cX2_list 38 = .ok (.getfield 59, 3) := by decide +kernel
theorem dX2_list_41 : decode cX2_list 41 = .ok (.iload_n 1, 1) := by decide +kernel
theorem dX2_list_42 : decode cX2_list 42 = .ok (.iastore, 1) := by decide +kernel
theorem dX2_list_43 : decode cX2_list 43 = .ok (.aload_n 0, 1) := by decide +kernel
theorem dX2_list_44 : decode cX2_list 44 = .ok (.getfield 26, 3) := by decide +kernel
theorem dX2_list_47 : decode cX2_list 47 = .ok (.dup, 1) := by decide +kernel
theorem dX2_list_48 : decode cX2_list 48 = .ok (.getfield 59, 3) := by decide +kernel
theorem dX2_list_51 : decode cX2_list 51 = .ok (.iconst 1, 1) := by decide +kernel
theorem dX2_list_52 : decode cX2_list 52 = .ok (.iadd, 1) := by decide +kernel
theorem dX2_list_53 : decode cX2_list 53 = .ok (.putfield 59, 3) := by decide +kernel
theorem dX2_list_56 : decode cX2_list 56 = .ok (.aload_n 0, 1) := by decide +kernel
theorem dX2_list_57 : decode cX2_list 57 = .ok (.getfield 26, 3) := by decide +kernel
theorem dX2_list_60 : decode cX2_list 60 = .ok (.getfield 59, 3) := by decide +kernel
theorem dX2_list_63 : decode cX2_list 63 = .ok (.ireturn, 1) := by decide +kernel
theorem dX2_book_0 : decode cX2_book 0 = .ok (.iload_n 1, 1) := by decide +kernel
theorem dX2_book_1 : decode cX2_book 1 = .ok (.iconst 1, 1) := by decide +kernel
theorem dX2_book_2 : decode cX2_book 2 = .ok (.if_icmp .lt 18, 3) := by decide +kernel
theorem dX2_book_5 : decode cX2_book 5 = .ok (.iload_n 1, 1) := by decide +kernel
theorem dX2_book_6 : decode cX2_book 6 = .ok (.bipush 60, 2) := by decide +kernel
theorem dX2_book_8 : decode cX2_book 8 = .ok (.if_icmp .gt 12, 3) := by decide +kernel
theorem dX2_book_11 : decode cX2_book 11 = .ok (.iload_n 2, 1) := by decide +kernel
theorem dX2_book_12 : decode cX2_book 12 = .ok (.ifCond .lt 8, 3) := by decide +kernel
theorem dX2_book_15 : decode cX2_book 15 = .ok (.iload_n 2, 1) := by decide +kernel
theorem dX2_book_16 : decode cX2_book 16 = .ok (.iconst 2, 1) := by decide +kernel
theorem dX2_book_17 : decode cX2_book 17 = .ok (.if_icmp .le 5, 3) := by decide +kernel
theorem dX2_book_20 : decode cX2_book 20 = .ok (.iconst (-1), 1) := by decide +kernel
theorem dX2_book_21 : decode cX2_book 21 = .ok (.ireturn, 1) := by decide +kernel
theorem dX2_book_22 : decode cX2_book 22 = .ok (.aload_n 0, 1) := by decide +kernel
theorem dX2_book_23 : decode cX2_book 23 = .ok (.getfield 26, 3) := by decide +kernel
theorem dX2_book_26 : decode cX2_book 26 = .ok (.getfield 59, 3) := by decide +kernel
theorem dX2_book_29 : decode cX2_book 29 = .ok (.ifCond .ne 6, 3) := by decide +kernel
theorem dX2_book_32 : decode cX2_book 32 = .ok (.bipush (-2), 2) := by decide +kernel
theorem dX2_book_34 : decode cX2_book 34 = .ok (.ireturn, 1) := by decide +kernel
theorem dX2_book_35 : decode cX2_book 35 = .ok (.aload_n 0, 1) := by decide +kernel
theorem dX2_book_36 : decode cX2_book 36 = .ok (.getfield 66, 3) := by decide +kernel
theorem dX2_book_39 : decode cX2_book 39 = .ok (.bipush 40, 2) := by decide +kernel
theorem dX2_book_41 : decode cX2_book 41 = .ok (.if_icmp .lt 6, 3) := by decide +kernel
theorem dX2_book_44 : decode cX2_book 44 = .ok (.bipush (-3), 2) := by decide +kernel
theorem dX2_book_46 : decode cX2_book 46 = .ok (.ireturn, 1) := by decide +kernel
theorem dX2_book_47 : decode cX2_book 47 = .ok (.aload_n 0, 1) := by decide +kernel
theorem dX2_book_48 : decode cX2_book 48 = .ok (.getfield 26, 3) := by decide +kernel
theorem dX2_book_51 : decode cX2_book 51 = .ok (.iload_n 1, 1) := by decide +kernel
theorem dX2_book_52 : decode cX2_book 52 = .ok (.putfield 69, 3) := by decide +kernel
theorem dX2_book_55 : decode cX2_book 55 = .ok (.aload_n 0, 1) := by decide +kernel
theorem dX2_book_56 : decode cX2_book 56 = .ok (.getfield 26, 3) := by decide +kernel
theorem dX2_book_59 : decode cX2_book 59 = .ok (.iload_n 2, 1) := by decide +kernel
theorem dX2_book_60 : decode cX2_book 60 = .ok (.putfield 70, 3) := by decide +kernel
theorem dX2_book_63 : decode cX2_book 63 = .ok (.aload_n 0, 1) := by decide +kernel
theorem dX2_book_64 : decode cX2_book 64 = .ok (.aload_n 0, 1) := by decide +kernel
theorem dX2_book_65 : decode cX2_book 65 = .ok (.getfield 26, 3) := by decide +kernel
theorem dX2_book_68 : decode cX2_book 68 = .ok (.invokevirtual 73, 3) := by decide +kernel
theorem dX2_book_71 : decode cX2_book 71 = .ok (.istore_n 3, 1) := by decide +kernel
theorem dX2_book_72 : decode cX2_book 72 = .ok (.iload_n 3, 1) := by decide +kernel
theorem dX2_book_73 : decode cX2_book 73 = .ok (.bipush (-4), 2) := by decide +kernel
theorem dX2_book_75 : decode cX2_book 75 = .ok (.if_icmp .ne 24, 3) := by decide +kernel
theorem dX2_book_78 : decode cX2_book 78 = .ok (.iload_n 2, 1) := by decide +kernel
theorem dX2_book_79 : decode cX2_book 79 = .ok (.iconst 2, 1) := by decide +kernel
theorem dX2_book_80 : decode cX2_book 80 = .ok (.if_icmp .ne 19, 3) := by decide +kernel
theorem dX2_book_83 : decode cX2_book 83 = .ok (.aload_n 0, 1) := by decide +kernel
theorem dX2_book_84 : decode cX2_book 84 = .ok (.getfield 77, 3) := by decide +kernel
theorem dX2_book_87 : decode cX2_book 87 = .ok (.bipush 8, 2) := by decide +kernel
theorem dX2_book_89 : decode cX2_book 89 = .ok (.if_icmp .ge 10, 3) := by decide +kernel
theorem dX2_book_92 : decode cX2_book 92 = .ok (.aload_n 0, 1) := by decide +kernel
theorem dX2_book_93 : decode cX2_book 93 = .ok (.invokevirtual 80, 3) := by decide +kernel
theorem dX2_book_96 : decode cX2_book 96 = .ok (.bipush (-7), 2) := by decide +kernel
theorem dX2_book_98 : decode cX2_book 98 = .ok (.istore_n 3, 1) := by decide +kernel
theorem dX2_book_99 : decode cX2_book 99 = .ok (.aload_n 0, 1) := by decide +kernel
theorem dX2_book_100 : decode cX2_book 100 = .ok (.getfield 26, 3) := by decide +kernel
theorem dX2_book_103 : decode cX2_book 103 = .ok (.iconst 0, 1) := by decide +kernel
theorem dX2_book_104 : decode cX2_book 104 = .ok (.putfield 59, 3) := by decide +kernel
theorem dX2_book_107 : decode cX2_book 107 = .ok (.iload_n 3, 1) := by decide +kernel
theorem dX2_book_108 : decode cX2_book 108 = .ok (.ireturn, 1) := by decide +kernel
theorem dX2_cancel_0 : decode cX2_cancel 0 = .ok (.aload_n 0, 1) := by decide +kernel
theorem dX2_cancel_1 : decode cX2_cancel 1 = .ok (.iload_n 1, 1) := by decide +kernel
theorem dX2_cancel_2 : decode cX2_cancel 2 = .ok (.invokevirtual 83, 3) := by decide +kernel
theorem dX2_cancel_5 : decode cX2_cancel 5 = .ok (.ifCond .ne 5, 3) := by decide +kernel
theorem dX2_cancel_8 : decode cX2_cancel 8 = .ok (.iconst (-1), 1) := by decide +kernel
theorem dX2_cancel_9 : decode cX2_cancel 9 = .ok (.ireturn, 1) := by decide +kernel
theorem dX2_cancel_10 : decode cX2_cancel 10 = .ok (.aload_n 0, 1) := by decide +kernel
theorem dX2_cancel_11 : decode cX2_cancel 11 = .ok (.getfield 15, 3) := by decide +kernel
theorem dX2_cancel_14 : decode cX2_cancel 14 = .ok (.iload_n 1, 1) := by decide +kernel
theorem dX2_cancel_15 : decode cX2_cancel 15 = .ok (.baload, 1) := by decide +kernel
theorem dX2_cancel_16 : decode cX2_cancel 16 = .ok (.ifCond .eq 6, 3) := by decide +kernel
theorem dX2_cancel_19 : decode cX2_cancel 19 = .ok (.bipush (-2), 2) := by decide +kernel
theorem dX2_cancel_21 : decode cX2_cancel 21 = .ok (.ireturn, 1) := by decide +kernel
theorem dX2_cancel_22 : decode cX2_cancel 22 = .ok (.aload_n 0, 1) := by decide +kernel
theorem dX2_cancel_23 : decode cX2_cancel 23 = .ok (.getfield 15, 3) := by decide +kernel
theorem dX2_cancel_26 : decode cX2_cancel 26 = .ok (.iload_n 1, 1) := by decide +kernel
theorem dX2_cancel_27 : decode cX2_cancel 27 = .ok (.iconst 1, 1) := by decide +kernel
theorem dX2_cancel_28 : decode cX2_cancel 28 = .ok (.bastore, 1) := by decide +kernel
theorem dX2_cancel_29 : decode cX2_cancel 29 = .ok (.iconst 0, 1) := by decide +kernel
theorem dX2_cancel_30 : decode cX2_cancel 30 = .ok (.istore_n 2, 1) := by decide +kernel
theorem dX2_cancel_31 : decode cX2_cancel 31 = .ok (.iload_n 2, 1) := by decide +kernel
theorem dX2_cancel_32 : decode cX2_cancel 32 = .ok (.bipush 10, 2) := by decide +kernel
theorem dX2_cancel_34 : decode cX2_cancel 34 = .ok (.if_icmp .ge 19, 3) := by decide +kernel
theorem dX2_cancel_37 : decode cX2_cancel 37 = .ok (.aload_n 0, 1) := by decide +kernel
theorem dX2_cancel_38 : decode cX2_cancel 38 = .ok (.getfield 11, 3) := by decide +kernel
theorem dX2_cancel_41 : decode cX2_cancel 41 = .ok (.iload_n 2, 1) := by decide +kernel
theorem dX2_cancel_42 : decode cX2_cancel 42 = .ok (.aaload, 1) := by decide +kernel
theorem dX2_cancel_43 : decode cX2_cancel 43 = .ok (.iload_n 1, 1) := by decide +kernel
theorem dX2_cancel_44 : decode cX2_cancel 44 = .ok (.invokevirtual 86, 3) := by decide +kernel
theorem dX2_cancel_47 : decode cX2_cancel 47 = .ok (.iinc 2 1, 3) := by decide +kernel
theorem dX2_cancel_50 : decode cX2_cancel 50 = .ok (.goto (-19), 3) := by decide +kernel
theorem dX2_cancel_53 : decode cX2_cancel 53 = .ok (.aload_n 0, 1) := by decide +kernel
theorem dX2_cancel_54 : decode cX2_cancel 54 = .ok (.invokevirtual 43, 3) := by decide +kernel
theorem dX2_cancel_57 : decode cX2_cancel 57 = .ok (.ireturn, 1) := by decide +kernel
theorem dX2_leave_0 : decode cX2_leave 0 = .ok (.aload_n 0, 1) := by decide +kernel
theorem dX2_leave_1 : decode cX2_leave 1 = .ok (.iload_n 1, 1) := by decide +kernel
theorem dX2_leave_2 : decode cX2_leave 2 = .ok (.invokevirtual 89, 3) := by decide +kernel
theorem dX2_leave_5 : decode cX2_leave 5 = .ok (.ifCond .ne 5, 3) := by decide +kernel
theorem dX2_leave_8 : decode cX2_leave 8 = .ok (.iconst (-1), 1) := by decide +kernel
theorem dX2_leave_9 : decode cX2_leave 9 = .ok (.ireturn, 1) := by decide +kernel
theorem dX2_leave_10 : decode cX2_leave 10 = .ok (.aload_n 0, 1) := by decide +kernel
theorem dX2_leave_11 : decode cX2_leave 11 = .ok (.getfield 21, 3) := by decide +kernel
theorem dX2_leave_14 : decode cX2_leave 14 = .ok (.iload_n 1, 1) := by decide +kernel
theorem dX2_leave_15 : decode cX2_leave 15 = .ok (.aaload, 1) := by decide +kernel
theorem dX2_leave_16 : decode cX2_leave 16 = .ok (.astore_n 2, 1) := by decide +kernel
theorem dX2_leave_17 : decode cX2_leave 17 = .ok (.aload_n 0, 1) := by decide +kernel
theorem dX2_leave_18 : decode cX2_leave 18 = .ok (.dup, 1) := by decide +kernel
theorem dX2_leave_19 : decode cX2_leave 19 = .ok (.getfield 77, 3) := by decide +kernel
theorem dX2_leave_22 : decode cX2_leave 22 = .ok (.iconst 1, 1) := by decide +kernel
theorem dX2_leave_23 : decode cX2_leave 23 = .ok (.isub, 1) := by decide +kernel
theorem dX2_leave_24 : decode cX2_leave 24 = .ok (.putfield 77, 3) := by decide +kernel
theorem dX2_leave_27 : decode cX2_leave 27 = .ok (.iload_n 1, 1) := by decide +kernel
theorem dX2_leave_28 : decode cX2_leave 28 = .ok (.istore_n 3, 1) := by decide +kernel
theorem dX2_leave_29 : decode cX2_leave 29 = .ok (.iload_n 3, 1) := by decide +kernel
theorem dX2_leave_30 : decode cX2_leave 30 = .ok (.aload_n 0, 1) := by decide +kernel
theorem dX2_leave_31 : decode cX2_leave 31 = .ok (.getfield 77, 3) := by decide +kernel
theorem dX2_leave_34 : decode cX2_leave 34 = .ok (.if_icmp .ge 23, 3) := by decide +kernel
theorem dX2_leave_37 : decode cX2_leave 37 = .ok (.aload_n 0, 1) := by decide +kernel
theorem dX2_leave_38 : decode cX2_leave 38 = .ok (.getfield 21, 3) := by decide +kernel
theorem dX2_leave_41 : decode cX2_leave 41 = .ok (.iload_n 3, 1) := by decide +kernel
theorem dX2_leave_42 : decode cX2_leave 42 = .ok (.aload_n 0, 1) := by decide +kernel
theorem dX2_leave_43 : decode cX2_leave 43 = .ok (.getfield 21, 3) := by decide +kernel
theorem dX2_leave_46 : decode cX2_leave 46 = .ok (.iload_n 3, 1) := by decide +kernel
theorem dX2_leave_47 : decode cX2_leave 47 = .ok (.iconst 1, 1) := by decide +kernel
theorem dX2_leave_48 : decode cX2_leave 48 = .ok (.iadd, 1) := by decide +kernel
theorem dX2_leave_49 : decode cX2_leave 49 = .ok (.aaload, 1) := by decide +kernel
theorem dX2_leave_50 : decode cX2_leave 50 = .ok (.aastore, 1) := by decide +kernel
theorem dX2_leave_51 : decode cX2_leave 51 = .ok (.iinc 3 1, 3) := by decide +kernel
theorem dX2_leave_54 : decode cX2_leave 54 = .ok (.goto (-25), 3) := by decide +kernel
theorem dX2_leave_57 : decode cX2_leave 57 = .ok (.aload_n 0, 1) := by decide +kernel
theorem dX2_leave_58 : decode cX2_leave 58 = .ok (.getfield 21, 3) := by decide +kernel
theorem dX2_leave_61 : decode cX2_leave 61 = .ok (.aload_n 0, 1) := by decide +kernel
theorem dX2_leave_62 : decode cX2_leave 62 = .ok (.getfield 77, 3) := by decide +kernel
theorem dX2_leave_65 : decode cX2_leave 65 = .ok (.aload_n 2, 1) := by decide +kernel
theorem dX2_leave_66 : decode cX2_leave 66 = .ok (.aastore, 1) := by decide +kernel
theorem dX2_leave_67 : decode cX2_leave 67 = .ok (.aload_n 2, 1) := by decide +kernel
theorem dX2_leave_68 : decode cX2_leave 68 = .ok (.getfield 69, 3) := by decide +kernel
theorem dX2_leave_71 : decode cX2_leave 71 = .ok (.ireturn, 1) := by decide +kernel
theorem dX2_seat_0 : decode cX2_seat 0 = .ok (.iload_n 1, 1) := by decide +kernel
theorem dX2_seat_1 : decode cX2_seat 1 = .ok (.invokestatic 31, 3) := by decide +kernel
theorem dX2_seat_4 : decode cX2_seat 4 = .ok (.ifCond .eq 7, 3) := by decide +kernel
theorem dX2_seat_7 : decode cX2_seat 7 = .ok (.iload_n 2, 1) := by decide +kernel
theorem dX2_seat_8 : decode cX2_seat 8 = .ok (.ifCond .ge 5, 3) := by decide +kernel
theorem dX2_seat_11 : decode cX2_seat 11 = .ok (.iconst (-1), 1) := by decide +kernel
theorem dX2_seat_12 : decode cX2_seat 12 = .ok (.ireturn, 1) := by decide +kernel
theorem dX2_seat_13 : decode cX2_seat 13 = .ok (.iload_n 2, 1) := by decide +kernel
theorem dX2_seat_14 : decode cX2_seat 14 = .ok (.aload_n 0, 1) := by decide +kernel
theorem dX2_seat_15 : decode cX2_seat 15 = .ok (.getfield 11, 3) := by decide +kernel
theorem dX2_seat_18 : decode cX2_seat 18 = .ok (.iload_n 1, 1) := by decide +kernel
theorem dX2_seat_19 : decode cX2_seat 19 = .ok (.aaload, 1) := by decide +kernel
theorem dX2_seat_20 : decode cX2_seat 20 = .ok (.getfield 51, 3) := by decide +kernel
theorem dX2_seat_23 : decode cX2_seat 23 = .ok (.if_icmp .lt 6, 3) := by decide +kernel
theorem dX2_seat_26 : decode cX2_seat 26 = .ok (.bipush (-2), 2) := by decide +kernel
theorem dX2_seat_28 : decode cX2_seat 28 = .ok (.ireturn, 1) := by decide +kernel
theorem dX2_seat_29 : decode cX2_seat 29 = .ok (.aload_n 0, 1) := by decide +kernel
theorem dX2_seat_30 : decode cX2_seat 30 = .ok (.getfield 11, 3) := by decide +kernel
theorem dX2_seat_33 : decode cX2_seat 33 = .ok (.iload_n 1, 1) := by decide +kernel
theorem dX2_seat_34 : decode cX2_seat 34 = .ok (.aaload, 1) := by decide +kernel
theorem dX2_seat_35 : decode cX2_seat 35 = .ok (.getfield 92, 3) := by decide +kernel
theorem dX2_seat_38 : decode cX2_seat 38 = .ok (.iload_n 2, 1) := by decide +kernel
theorem dX2_seat_39 : decode cX2_seat 39 = .ok (.iaload, 1) := by decide +kernel
theorem dX2_seat_40 : decode cX2_seat 40 = .ok (.ireturn, 1) := by decide +kernel
theorem dX2_has_0 : decode cX2_has 0 = .ok (.aload_n 0, 1) := by decide +kernel
theorem dX2_has_1 : decode cX2_has 1 = .ok (.iload_n 1, 1) := by decide +kernel
theorem dX2_has_2 : decode cX2_has 2 = .ok (.invokevirtual 83, 3) := by decide +kernel
theorem dX2_has_5 : decode cX2_has 5 = .ok (.ifCond .eq 10, 3) := by decide +kernel
theorem dX2_has_8 : decode cX2_has 8 = .ok (.iload_n 2, 1) := by decide +kernel
theorem dX2_has_9 : decode cX2_has 9 = .ok (.invokestatic 31, 3) := by decide +kernel
theorem dX2_has_12 : decode cX2_has 12 = .ok (.ifCond .ne 5, 3) := by decide +kernel
theorem dX2_has_15 : decode cX2_has 15 = .ok (.iconst (-1), 1) := by decide +kernel
theorem dX2_has_16 : decode cX2_has 16 = .ok (.ireturn, 1) := by decide +kernel
theorem dX2_has_17 : decode cX2_has 17 = .ok (.aload_n 0, 1) := by decide +kernel
theorem dX2_has_18 : decode cX2_has 18 = .ok (.getfield 11, 3) := by decide +kernel
theorem dX2_has_21 : decode cX2_has 21 = .ok (.iload_n 2, 1) := by decide +kernel
theorem dX2_has_22 : decode cX2_has 22 = .ok (.aaload, 1) := by decide +kernel
theorem dX2_has_23 : decode cX2_has 23 = .ok (.iload_n 1, 1) := by decide +kernel
theorem dX2_has_24 : decode cX2_has 24 = .ok (.invokevirtual 47, 3) := by decide +kernel
theorem dX2_has_27 : decode cX2_has 27 = .ok (.ireturn, 1) := by decide +kernel
theorem dX2_about_0 : decode cX2_about 0 = .ok (.iload_n 1, 1) := by decide +kernel
theorem dX2_about_1 : decode cX2_about 1 = .ok (.invokestatic 31, 3) := by decide +kernel
theorem dX2_about_4 : decode cX2_about 4 = .ok (.ifCond .eq 12, 3) := by decide +kernel
theorem dX2_about_7 : decode cX2_about 7 = .ok (.iload_n 2, 1) := by decide +kernel
theorem dX2_about_8 : decode cX2_about 8 = .ok (.ifCond .lt 8, 3) := by decide +kernel
theorem dX2_about_11 : decode cX2_about 11 = .ok (.iload_n 2, 1) := by decide +kernel
theorem dX2_about_12 : decode cX2_about 12 = .ok (.iconst 3, 1) := by decide +kernel
theorem dX2_about_13 : decode cX2_about 13 = .ok (.if_icmp .le 5, 3) := by decide +kernel
theorem dX2_about_16 : decode cX2_about 16 = .ok (.iconst (-1), 1) := by decide +kernel
theorem dX2_about_17 : decode cX2_about 17 = .ok (.ireturn, 1) := by decide +kernel
theorem dX2_about_18 : decode cX2_about 18 = .ok (.aload_n 0, 1) := by decide +kernel
theorem dX2_about_19 : decode cX2_about 19 = .ok (.getfield 11, 3) := by decide +kernel
theorem dX2_about_22 : decode cX2_about 22 = .ok (.iload_n 1, 1) := by decide +kernel
theorem dX2_about_23 : decode cX2_about 23 = .ok (.aaload, 1) := by decide +kernel
theorem dX2_about_24 : decode cX2_about 24 = .ok (.astore_n 3, 1) := by decide +kernel
theorem dX2_about_25 : decode cX2_about 25 = .ok (.aload_n 3, 1) := by decide +kernel
theorem dX2_about_26 : decode cX2_about 26 = .ok (.invokevirtual 35, 3) := by decide +kernel
theorem dX2_about_29 : decode cX2_about 29 = .ok (.ifCond .ne 6, 3) := by decide +kernel
theorem dX2_about_32 : decode cX2_about 32 = .ok (.bipush (-2), 2) := by decide +kernel
theorem dX2_about_34 : decode cX2_about 34 = .ok (.ireturn, 1) := by decide +kernel
theorem dX2_about_35 : decode cX2_about 35 = .ok (.iload_n 2, 1) := by decide +kernel
theorem dX2_about_36 : decode cX2_about 36 = .ok (.tableswitch 45 0 2 #[28, 35, 40], 28) := by decide +kernel
theorem dX2_about_64 : decode cX2_about 64 = .ok (.aload_n 3, 1) := by decide +kernel
theorem dX2_about_65 : decode cX2_about 65 = .ok (.bipush (-8), 2) := by decide +kernel
theorem dX2_about_67 : decode cX2_about 67 = .ok (.invokevirtual 47, 3) := by decide +kernel
theorem dX2_about_70 : decode cX2_about 70 = .ok (.ireturn, 1) := by decide +kernel
theorem dX2_about_71 : decode cX2_about 71 = .ok (.aload_n 3, 1) := by decide +kernel
theorem dX2_about_72 : decode cX2_about 72 = .ok (.getfield 95, 3) := by decide +kernel
theorem dX2_about_75 : decode cX2_about 75 = .ok (.ireturn, 1) := by decide +kernel
theorem dX2_about_76 : decode cX2_about 76 = .ok (.aload_n 3, 1) := by decide +kernel
theorem dX2_about_77 : decode cX2_about 77 = .ok (.getfield 98, 3) := by decide +kernel
theorem dX2_about_80 : decode cX2_about 80 = .ok (.ireturn, 1) := by decide +kernel
theorem dX2_about_81 : decode cX2_about 81 = .ok (.aload_n 3, 1) := by decide +kernel
theorem dX2_about_82 : decode cX2_about 82 = .ok (.getfield 51, 3) := by decide +kernel
theorem dX2_about_85 : decode cX2_about 85 = .ok (.ireturn, 1) := by decide +kernel
theorem dX2_told_0 : decode cX2_told 0 = .ok (.iload_n 1, 1) := by decide +kernel
theorem dX2_told_1 : decode cX2_told 1 = .ok (.tableswitch 72 0 5 #[39, 44, 49, 54, 59, 67], 39) := by decide +kernel
theorem dX2_told_40 : decode cX2_told 40 = .ok (.aload_n 0, 1) := by decide +kernel
theorem dX2_told_41 : decode cX2_told 41 = .ok (.getfield 66, 3) := by decide +kernel
theorem dX2_told_44 : decode cX2_told 44 = .ok (.ireturn, 1) := by decide +kernel
theorem dX2_told_45 : decode cX2_told 45 = .ok (.aload_n 0, 1) := by decide +kernel
theorem dX2_told_46 : decode cX2_told 46 = .ok (.getfield 77, 3) := by decide +kernel
theorem dX2_told_49 : decode cX2_told 49 = .ok (.ireturn, 1) := by decide +kernel
theorem dX2_told_50 : decode cX2_told 50 = .ok (.aload_n 0, 1) := by decide +kernel
theorem dX2_told_51 : decode cX2_told 51 = .ok (.getfield 101, 3) := by decide +kernel
theorem dX2_told_54 : decode cX2_told 54 = .ok (.ireturn, 1) := by decide +kernel
theorem dX2_told_55 : decode cX2_told 55 = .ok (.aload_n 0, 1) := by decide +kernel
theorem dX2_told_56 : decode cX2_told 56 = .ok (.getfield 104, 3) := by decide +kernel
theorem dX2_told_59 : decode cX2_told 59 = .ok (.ireturn, 1) := by decide +kernel
theorem dX2_told_60 : decode cX2_told 60 = .ok (.aload_n 0, 1) := by decide +kernel
theorem dX2_told_61 : decode cX2_told 61 = .ok (.getfield 26, 3) := by decide +kernel
theorem dX2_told_64 : decode cX2_told 64 = .ok (.getfield 59, 3) := by decide +kernel
theorem dX2_told_67 : decode cX2_told 67 = .ok (.ireturn, 1) := by decide +kernel
theorem dX2_told_68 : decode cX2_told 68 = .ok (.aload_n 0, 1) := by decide +kernel
theorem dX2_told_69 : decode cX2_told 69 = .ok (.invokevirtual 107, 3) := by decide +kernel
theorem dX2_told_72 : decode cX2_told 72 = .ok (.ireturn, 1) := by decide +kernel
theorem dX2_told_73 : decode cX2_told 73 = .ok (.iconst (-1), 1) := by decide +kernel
theorem dX2_told_74 : decode cX2_told 74 = .ok (.ireturn, 1) := by decide +kernel
theorem dX2_waiting_0 : decode cX2_waiting 0 = .ok (.aload_n 0, 1) := by decide +kernel
theorem dX2_waiting_1 : decode cX2_waiting 1 = .ok (.iload_n 1, 1) := by decide +kernel
theorem dX2_waiting_2 : decode cX2_waiting 2 = .ok (.invokevirtual 89, 3) := by decide +kernel
theorem dX2_waiting_5 : decode cX2_waiting 5 = .ok (.ifCond .eq 15, 3) := by decide +kernel
theorem dX2_waiting_8 : decode cX2_waiting 8 = .ok (.aload_n 0, 1) := by decide +kernel
theorem dX2_waiting_9 : decode cX2_waiting 9 = .ok (.getfield 21, 3) := by decide +kernel
theorem dX2_waiting_12 : decode cX2_waiting 12 = .ok (.iload_n 1, 1) := by decide +kernel
theorem dX2_waiting_13 : decode cX2_waiting 13 = .ok (.aaload, 1) := by decide +kernel
theorem dX2_waiting_14 : decode cX2_waiting 14 = .ok (.getfield 69, 3) := by decide +kernel
theorem dX2_waiting_17 : decode cX2_waiting 17 = .ok (.goto 5, 3) := by decide +kernel
theorem dX2_waiting_20 : decode cX2_waiting 20 = .ok (.bipush (-8), 2) := by decide +kernel
theorem dX2_waiting_22 : decode cX2_waiting 22 = .ok (.ireturn, 1) := by decide +kernel
theorem dX2_isRow_0 : decode cX2_isRow 0 = .ok (.iload_n 0, 1) := by decide +kernel
theorem dX2_isRow_1 : decode cX2_isRow 1 = .ok (.ifCond .lt 13, 3) := by decide +kernel
theorem dX2_isRow_4 : decode cX2_isRow 4 = .ok (.iload_n 0, 1) := by decide +kernel
theorem dX2_isRow_5 : decode cX2_isRow 5 = .ok (.bipush 10, 2) := by decide +kernel
theorem dX2_isRow_7 : decode cX2_isRow 7 = .ok (.if_icmp .ge 7, 3) := by decide +kernel
theorem dX2_isRow_10 : decode cX2_isRow 10 = .ok (.iconst 1, 1) := by decide +kernel
theorem dX2_isRow_11 : decode cX2_isRow 11 = .ok (.goto 4, 3) := by decide +kernel
theorem dX2_isRow_14 : decode cX2_isRow 14 = .ok (.iconst 0, 1) := by decide +kernel
theorem dX2_isRow_15 : decode cX2_isRow 15 = .ok (.ireturn, 1) := by decide +kernel
theorem dX2_isBooking_0 : decode cX2_isBooking 0 = .ok (.iload_n 1, 1) := by decide +kernel
theorem dX2_isBooking_1 : decode cX2_isBooking 1 = .ok (.ifCond .lt 15, 3) := by decide +kernel
theorem dX2_isBooking_4 : decode cX2_isBooking 4 = .ok (.iload_n 1, 1) := by decide +kernel
theorem dX2_isBooking_5 : decode cX2_isBooking 5 = .ok (.aload_n 0, 1) := by decide +kernel
theorem dX2_isBooking_6 : decode cX2_isBooking 6 = .ok (.getfield 66, 3) := by decide +kernel
theorem dX2_isBooking_9 : decode cX2_isBooking 9 = .ok (.if_icmp .ge 7, 3) := by decide +kernel
theorem dX2_isBooking_12 : decode cX2_isBooking 12 = .ok (.iconst 1, 1) := by decide +kernel
theorem dX2_isBooking_13 : decode cX2_isBooking 13 = .ok (.goto 4, 3) := by decide +kernel
theorem dX2_isBooking_16 : decode cX2_isBooking 16 = .ok (.iconst 0, 1) := by decide +kernel
theorem dX2_isBooking_17 : decode cX2_isBooking 17 = .ok (.ireturn, 1) := by decide +kernel
theorem dX2_isWaiting_0 : decode cX2_isWaiting 0 = .ok (.iload_n 1, 1) := by decide +kernel
theorem dX2_isWaiting_1 : decode cX2_isWaiting 1 = .ok (.ifCond .lt 15, 3) := by decide +kernel
theorem dX2_isWaiting_4 : decode cX2_isWaiting 4 = .ok (.iload_n 1, 1) := by decide +kernel
theorem dX2_isWaiting_5 : decode cX2_isWaiting 5 = .ok (.aload_n 0, 1) := by decide +kernel
theorem dX2_isWaiting_6 : decode cX2_isWaiting 6 = .ok (.getfield 77, 3) := by decide +kernel
theorem dX2_isWaiting_9 : decode cX2_isWaiting 9 = .ok (.if_icmp .ge 7, 3) := by decide +kernel
theorem dX2_isWaiting_12 : decode cX2_isWaiting 12 = .ok (.iconst 1, 1) := by decide +kernel
theorem dX2_isWaiting_13 : decode cX2_isWaiting 13 = .ok (.goto 4, 3) := by decide +kernel
theorem dX2_isWaiting_16 : decode cX2_isWaiting 16 = .ok (.iconst 0, 1) := by decide +kernel
theorem dX2_isWaiting_17 : decode cX2_isWaiting 17 = .ok (.ireturn, 1) := by decide +kernel
theorem dX2_openRows_0 : decode cX2_openRows 0 = .ok (.iconst 0, 1) := by decide +kernel
theorem dX2_openRows_1 : decode cX2_openRows 1 = .ok (.istore_n 1, 1) := by decide +kernel
theorem dX2_openRows_2 : decode cX2_openRows 2 = .ok (.iconst 0, 1) := by decide +kernel
theorem dX2_openRows_3 : decode cX2_openRows 3 = .ok (.istore_n 2, 1) := by decide +kernel
theorem dX2_openRows_4 : decode cX2_openRows 4 = .ok (.iload_n 2, 1) := by decide +kernel
theorem dX2_openRows_5 : decode cX2_openRows 5 = .ok (.bipush 10, 2) := by decide +kernel
theorem dX2_openRows_7 : decode cX2_openRows 7 = .ok (.if_icmp .ge 24, 3) := by decide +kernel
theorem dX2_openRows_10 : decode cX2_openRows 10 = .ok (.aload_n 0, 1) := by decide +kernel
theorem dX2_openRows_11 : decode cX2_openRows 11 = .ok (.getfield 11, 3) := by decide +kernel
theorem dX2_openRows_14 : decode cX2_openRows 14 = .ok (.iload_n 2, 1) := by decide +kernel
theorem dX2_openRows_15 : decode cX2_openRows 15 = .ok (.aaload, 1) := by decide +kernel
theorem dX2_openRows_16 : decode cX2_openRows 16 = .ok (.invokevirtual 35, 3) := by decide +kernel
theorem dX2_openRows_19 : decode cX2_openRows 19 = .ok (.ifCond .eq 6, 3) := by decide +kernel
theorem dX2_openRows_22 : decode cX2_openRows 22 = .ok (.iinc 1 1, 3) := by decide +kernel
theorem dX2_openRows_25 : decode cX2_openRows 25 = .ok (.iinc 2 1, 3) := by decide +kernel
theorem dX2_openRows_28 : decode cX2_openRows 28 = .ok (.goto (-24), 3) := by decide +kernel
theorem dX2_openRows_31 : decode cX2_openRows 31 = .ok (.iload_n 1, 1) := by decide +kernel
theorem dX2_openRows_32 : decode cX2_openRows 32 = .ok (.ireturn, 1) := by decide +kernel
theorem dX2_queueUp_0 : decode cX2_queueUp 0 = .ok (.aload_n 0, 1) := by decide +kernel
theorem dX2_queueUp_1 : decode cX2_queueUp 1 = .ok (.getfield 21, 3) := by decide +kernel
theorem dX2_queueUp_4 : decode cX2_queueUp 4 = .ok (.aload_n 0, 1) := by decide +kernel
theorem dX2_queueUp_5 : decode cX2_queueUp 5 = .ok (.getfield 77, 3) := by decide +kernel
theorem dX2_queueUp_8 : decode cX2_queueUp 8 = .ok (.aaload, 1) := by decide +kernel
theorem dX2_queueUp_9 : decode cX2_queueUp 9 = .ok (.astore_n 1, 1) := by decide +kernel
theorem dX2_queueUp_10 : decode cX2_queueUp 10 = .ok (.aload_n 0, 1) := by decide +kernel
theorem dX2_queueUp_11 : decode cX2_queueUp 11 = .ok (.getfield 21, 3) := by decide +kernel
theorem dX2_queueUp_14 : decode cX2_queueUp 14 = .ok (.aload_n 0, 1) := by decide +kernel
theorem dX2_queueUp_15 : decode cX2_queueUp 15 = .ok (.getfield 77, 3) := by decide +kernel
theorem dX2_queueUp_18 : decode cX2_queueUp 18 = .ok (.aload_n 0, 1) := by decide +kernel
theorem dX2_queueUp_19 : decode cX2_queueUp 19 = .ok (.getfield 26, 3) := by decide +kernel
theorem dX2_queueUp_22 : decode cX2_queueUp 22 = .ok (.aastore, 1) := by decide +kernel
theorem dX2_queueUp_23 : decode cX2_queueUp 23 = .ok (.aload_n 0, 1) := by decide +kernel
theorem dX2_queueUp_24 : decode cX2_queueUp 24 = .ok (.dup, 1) := by decide +kernel
theorem dX2_queueUp_25 : decode cX2_queueUp 25 = .ok (.getfield 77, 3) := by decide +kernel
theorem dX2_queueUp_28 : decode cX2_queueUp 28 = .ok (.iconst 1, 1) := by decide +kernel
theorem dX2_queueUp_29 : decode cX2_queueUp 29 = .ok (.iadd, 1) := by decide +kernel
theorem dX2_queueUp_30 : decode cX2_queueUp 30 = .ok (.putfield 77, 3) := by decide +kernel
theorem dX2_queueUp_33 : decode cX2_queueUp 33 = .ok (.aload_n 0, 1) := by decide +kernel
theorem dX2_queueUp_34 : decode cX2_queueUp 34 = .ok (.aload_n 1, 1) := by decide +kernel
theorem dX2_queueUp_35 : decode cX2_queueUp 35 = .ok (.putfield 26, 3) := by decide +kernel
theorem dX2_queueUp_38 : decode cX2_queueUp 38 = .ok (.return_, 1) := by decide +kernel
theorem dX2_tryThoseWaiting_0 : decode cX2_tryThoseWaiting 0 = .ok (.iconst 0, 1) := by decide +kernel
theorem dX2_tryThoseWaiting_1 : decode cX2_tryThoseWaiting 1 = .ok (.istore_n 1, 1) := by decide +kernel
theorem dX2_tryThoseWaiting_2 : decode cX2_tryThoseWaiting 2 = .ok (.iconst 0, 1) := by decide +kernel
theorem dX2_tryThoseWaiting_3 : decode cX2_tryThoseWaiting 3 = .ok (.istore_n 2, 1) := by decide +kernel
theorem dX2_tryThoseWaiting_4 : decode cX2_tryThoseWaiting 4 = .ok (.iload_n 2, 1) := by decide +kernel
theorem dX2_tryThoseWaiting_5 : decode cX2_tryThoseWaiting 5 = .ok (.aload_n 0, 1) := by decide +kernel
theorem dX2_tryThoseWaiting_6 : decode cX2_tryThoseWaiting 6 = .ok (.getfield 77, 3) := by decide +kernel
theorem dX2_tryThoseWaiting_9 : decode cX2_tryThoseWaiting 9 = .ok (.if_icmp .ge 67, 3) := by decide +kernel
theorem dX2_tryThoseWaiting_12 : decode cX2_tryThoseWaiting 12 = .ok (.aload_n 0, 1) := by decide +kernel
theorem dX2_tryThoseWaiting_13 : decode cX2_tryThoseWaiting 13 = .ok (.getfield 21, 3) := by decide +kernel
theorem dX2_tryThoseWaiting_16 : decode cX2_tryThoseWaiting 16 = .ok (.iload_n 2, 1) := by decide +kernel
theorem dX2_tryThoseWaiting_17 : decode cX2_tryThoseWaiting 17 = .ok (.aaload, 1) := by decide +kernel
theorem dX2_tryThoseWaiting_18 : decode cX2_tryThoseWaiting 18 = .ok (.astore_n 3, 1) := by decide +kernel
theorem dX2_tryThoseWaiting_19 : decode cX2_tryThoseWaiting 19 = .ok (.aload_n 0, 1) := by decide +kernel
theorem dX2_tryThoseWaiting_20 : decode cX2_tryThoseWaiting 20 = .ok (.getfield 66, 3) := by decide +kernel
theorem dX2_tryThoseWaiting_23 : decode cX2_tryThoseWaiting 23 = .ok (.bipush 40, 2) := by decide +kernel
theorem dX2_tryThoseWaiting_25 : decode cX2_tryThoseWaiting 25 = .ok (.if_icmp .ge 15, 3) := by decide +kernel
theorem dX2_tryThoseWaiting_28 : decode cX2_tryThoseWaiting 28 = .ok (.aload_n 0, 1) := by decide +kernel
theorem dX2_tryThoseWaiting_29 : decode cX2_tryThoseWaiting 29 = .ok (.aload_n 3, 1) := by decide +kernel
theorem dX2_tryThoseWaiting_30 : decode cX2_tryThoseWaiting 30 = .ok (.invokevirtual 73, 3) := by decide +kernel
theorem dX2_tryThoseWaiting_33 : decode cX2_tryThoseWaiting 33 = .ok (.ifCond .lt 7, 3) := by decide +kernel
theorem dX2_tryThoseWaiting_36 : decode cX2_tryThoseWaiting 36 = .ok (.iconst 1, 1) := by decide +kernel
theorem dX2_tryThoseWaiting_37 : decode cX2_tryThoseWaiting 37 = .ok (.goto 4, 3) := by decide +kernel
theorem dX2_tryThoseWaiting_40 : decode cX2_tryThoseWaiting 40 = .ok (.iconst 0, 1) := by decide +kernel
theorem dX2_tryThoseWaiting_41 : decode cX2_tryThoseWaiting 41 = .ok (.istore 4, 2) := by decide +kernel
theorem dX2_tryThoseWaiting_43 : decode cX2_tryThoseWaiting 43 = .ok (.iload 4, 2) := by decide +kernel
theorem dX2_tryThoseWaiting_45 : decode cX2_tryThoseWaiting 45 = .ok (.ifCond .ne 25, 3) := by decide +kernel
theorem dX2_tryThoseWaiting_48 : decode cX2_tryThoseWaiting 48 = .ok (.aload_n 0, 1) := by decide +kernel
theorem dX2_tryThoseWaiting_49 : decode cX2_tryThoseWaiting 49 = .ok (.getfield 21, 3) := by decide +kernel
theorem dX2_tryThoseWaiting_52 : decode cX2_tryThoseWaiting 52 = .ok (.iload_n 2, 1) := by decide +kernel
theorem dX2_tryThoseWaiting_53 : decode cX2_tryThoseWaiting 53 = .ok (.aload_n 0, 1) := by decide +kernel
theorem dX2_tryThoseWaiting_54 : decode cX2_tryThoseWaiting 54 = .ok (.getfield 21, 3) := by decide +kernel
theorem dX2_tryThoseWaiting_57 : decode cX2_tryThoseWaiting 57 = .ok (.iload_n 1, 1) := by decide +kernel
theorem dX2_tryThoseWaiting_58 : decode cX2_tryThoseWaiting 58 = .ok (.aaload, 1) := by decide +kernel
theorem dX2_tryThoseWaiting_59 : decode cX2_tryThoseWaiting 59 = .ok (.aastore, 1) := by decide +kernel
theorem dX2_tryThoseWaiting_60 : decode cX2_tryThoseWaiting 60 = .ok (.aload_n 0, 1) := by decide +kernel
theorem dX2_tryThoseWaiting_61 : decode cX2_tryThoseWaiting 61 = .ok (.getfield 21, 3) := by decide +kernel
theorem dX2_tryThoseWaiting_64 : decode cX2_tryThoseWaiting 64 = .ok (.iload_n 1, 1) := by decide +kernel
theorem dX2_tryThoseWaiting_65 : decode cX2_tryThoseWaiting 65 = .ok (.aload_n 3, 1) := by decide +kernel
theorem dX2_tryThoseWaiting_66 : decode cX2_tryThoseWaiting 66 = .ok (.aastore, 1) := by decide +kernel
theorem dX2_tryThoseWaiting_67 : decode cX2_tryThoseWaiting 67 = .ok (.iinc 1 1, 3) := by decide +kernel
theorem dX2_tryThoseWaiting_70 : decode cX2_tryThoseWaiting 70 = .ok (.iinc 2 1, 3) := by decide +kernel
theorem dX2_tryThoseWaiting_73 : decode cX2_tryThoseWaiting 73 = .ok (.goto (-69), 3) := by decide +kernel
theorem dX2_tryThoseWaiting_76 : decode cX2_tryThoseWaiting 76 = .ok (.aload_n 0, 1) := by decide +kernel
theorem dX2_tryThoseWaiting_77 : decode cX2_tryThoseWaiting 77 = .ok (.getfield 77, 3) := by decide +kernel
theorem dX2_tryThoseWaiting_80 : decode cX2_tryThoseWaiting 80 = .ok (.iload_n 1, 1) := by decide +kernel
theorem dX2_tryThoseWaiting_81 : decode cX2_tryThoseWaiting 81 = .ok (.isub, 1) := by decide +kernel
theorem dX2_tryThoseWaiting_82 : decode cX2_tryThoseWaiting 82 = .ok (.istore_n 2, 1) := by decide +kernel
theorem dX2_tryThoseWaiting_83 : decode cX2_tryThoseWaiting 83 = .ok (.aload_n 0, 1) := by decide +kernel
theorem dX2_tryThoseWaiting_84 : decode cX2_tryThoseWaiting 84 = .ok (.iload_n 1, 1) := by decide +kernel
theorem dX2_tryThoseWaiting_85 : decode cX2_tryThoseWaiting 85 = .ok (.putfield 77, 3) := by decide +kernel
theorem dX2_tryThoseWaiting_88 : decode cX2_tryThoseWaiting 88 = .ok (.iload_n 2, 1) := by decide +kernel
theorem dX2_tryThoseWaiting_89 : decode cX2_tryThoseWaiting 89 = .ok (.ireturn, 1) := by decide +kernel
theorem dX2_goThrough_0 : decode cX2_goThrough 0 = .ok (.aload_n 0, 1) := by decide +kernel
theorem dX2_goThrough_1 : decode cX2_goThrough 1 = .ok (.aload_n 1, 1) := by decide +kernel
theorem dX2_goThrough_2 : decode cX2_goThrough 2 = .ok (.iconst 0, 1) := by decide +kernel
theorem dX2_goThrough_3 : decode cX2_goThrough 3 = .ok (.aload_n 1, 1) := by decide +kernel
theorem dX2_goThrough_4 : decode cX2_goThrough 4 = .ok (.getfield 69, 3) := by decide +kernel
theorem dX2_goThrough_7 : decode cX2_goThrough 7 = .ok (.invokevirtual 110, 3) := by decide +kernel
theorem dX2_goThrough_10 : decode cX2_goThrough 10 = .ok (.istore_n 2, 1) := by decide +kernel
theorem dX2_goThrough_11 : decode cX2_goThrough 11 = .ok (.iload_n 2, 1) := by decide +kernel
theorem dX2_goThrough_12 : decode cX2_goThrough 12 = .ok (.ifCond .eq 15, 3) := by decide +kernel
theorem dX2_goThrough_15 : decode cX2_goThrough 15 = .ok (.aload_n 0, 1) := by decide +kernel
theorem dX2_goThrough_16 : decode cX2_goThrough 16 = .ok (.dup, 1) := by decide +kernel
theorem dX2_goThrough_17 : decode cX2_goThrough 17 = .ok (.getfield 104, 3) := by decide +kernel
theorem dX2_goThrough_20 : decode cX2_goThrough 20 = .ok (.iconst 1, 1) := by decide +kernel
theorem dX2_goThrough_21 : decode cX2_goThrough 21 = .ok (.iadd, 1) := by decide +kernel
theorem dX2_goThrough_22 : decode cX2_goThrough 22 = .ok (.putfield 104, 3) := by decide +kernel
theorem dX2_goThrough_25 : decode cX2_goThrough 25 = .ok (.iload_n 2, 1) := by decide +kernel
theorem dX2_goThrough_26 : decode cX2_goThrough 26 = .ok (.ireturn, 1) := by decide +kernel
theorem dX2_goThrough_27 : decode cX2_goThrough 27 = .ok (.aload_n 0, 1) := by decide +kernel
theorem dX2_goThrough_28 : decode cX2_goThrough 28 = .ok (.getfield 66, 3) := by decide +kernel
theorem dX2_goThrough_31 : decode cX2_goThrough 31 = .ok (.istore_n 3, 1) := by decide +kernel
theorem dX2_goThrough_32 : decode cX2_goThrough 32 = .ok (.aload_n 0, 1) := by decide +kernel
theorem dX2_goThrough_33 : decode cX2_goThrough 33 = .ok (.dup, 1) := by decide +kernel
theorem dX2_goThrough_34 : decode cX2_goThrough 34 = .ok (.getfield 66, 3) := by decide +kernel
theorem dX2_goThrough_37 : decode cX2_goThrough 37 = .ok (.iconst 1, 1) := by decide +kernel
theorem dX2_goThrough_38 : decode cX2_goThrough 38 = .ok (.iadd, 1) := by decide +kernel
theorem dX2_goThrough_39 : decode cX2_goThrough 39 = .ok (.putfield 66, 3) := by decide +kernel
theorem dX2_goThrough_42 : decode cX2_goThrough 42 = .ok (.iload_n 3, 1) := by decide +kernel
theorem dX2_goThrough_43 : decode cX2_goThrough 43 = .ok (.ireturn, 1) := by decide +kernel
theorem dX2_goOn_0 : decode cX2_goOn 0 = .ok (.iload_n 3, 1) := by decide +kernel
theorem dX2_goOn_1 : decode cX2_goOn 1 = .ok (.ifCond .gt 5, 3) := by decide +kernel
theorem dX2_goOn_4 : decode cX2_goOn 4 = .ok (.iconst 0, 1) := by decide +kernel
theorem dX2_goOn_5 : decode cX2_goOn 5 = .ok (.ireturn, 1) := by decide +kernel
theorem dX2_goOn_6 : decode cX2_goOn 6 = .ok (.aload_n 0, 1) := by decide +kernel
theorem dX2_goOn_7 : decode cX2_goOn 7 = .ok (.aload_n 1, 1) := by decide +kernel
theorem dX2_goOn_8 : decode cX2_goOn 8 = .ok (.iload_n 2, 1) := by decide +kernel
theorem dX2_goOn_9 : decode cX2_goOn 9 = .ok (.invokevirtual 114, 3) := by decide +kernel
theorem dX2_goOn_12 : decode cX2_goOn 12 = .ok (.istore 4, 2) := by decide +kernel
theorem dX2_goOn_14 : decode cX2_goOn 14 = .ok (.iload 4, 2) := by decide +kernel
theorem dX2_goOn_16 : decode cX2_goOn 16 = .ok (.ifCond .eq 38, 3) := by decide +kernel
theorem dX2_goOn_19 : decode cX2_goOn 19 = .ok (.aload_n 1, 1) := by decide +kernel
theorem dX2_goOn_20 : decode cX2_goOn 20 = .ok (.getfield 70, 3) := by decide +kernel
theorem dX2_goOn_23 : decode cX2_goOn 23 = .ok (.iconst 1, 1) := by decide +kernel
theorem dX2_goOn_24 : decode cX2_goOn 24 = .ok (.if_icmp .ne 15, 3) := by decide +kernel
theorem dX2_goOn_27 : decode cX2_goOn 27 = .ok (.iload_n 3, 1) := by decide +kernel
theorem dX2_goOn_28 : decode cX2_goOn 28 = .ok (.aload_n 1, 1) := by decide +kernel
theorem dX2_goOn_29 : decode cX2_goOn 29 = .ok (.getfield 69, 3) := by decide +kernel
theorem dX2_goOn_32 : decode cX2_goOn 32 = .ok (.if_icmp .ge 7, 3) := by decide +kernel
theorem dX2_goOn_35 : decode cX2_goOn 35 = .ok (.iconst 1, 1) := by decide +kernel
theorem dX2_goOn_36 : decode cX2_goOn 36 = .ok (.goto 4, 3) := by decide +kernel
theorem dX2_goOn_39 : decode cX2_goOn 39 = .ok (.iconst 0, 1) := by decide +kernel
theorem dX2_goOn_40 : decode cX2_goOn 40 = .ok (.istore 5, 2) := by decide +kernel
theorem dX2_goOn_42 : decode cX2_goOn 42 = .ok (.iload 5, 2) := by decide +kernel
theorem dX2_goOn_44 : decode cX2_goOn 44 = .ok (.ifCond .eq 7, 3) := by decide +kernel
theorem dX2_goOn_47 : decode cX2_goOn 47 = .ok (.iconst 0, 1) := by decide +kernel
theorem dX2_goOn_48 : decode cX2_goOn 48 = .ok (.goto 5, 3) := by decide +kernel
theorem dX2_goOn_51 : decode cX2_goOn 51 = .ok (.iload 4, 2) := by decide +kernel
theorem dX2_goOn_53 : decode cX2_goOn 53 = .ok (.ireturn, 1) := by decide +kernel
theorem dX2_goOn_54 : decode cX2_goOn 54 = .ok (.aload_n 0, 1) := by decide +kernel
theorem dX2_goOn_55 : decode cX2_goOn 55 = .ok (.getfield 11, 3) := by decide +kernel
theorem dX2_goOn_58 : decode cX2_goOn 58 = .ok (.aload_n 1, 1) := by decide +kernel
theorem dX2_goOn_59 : decode cX2_goOn 59 = .ok (.getfield 62, 3) := by decide +kernel
theorem dX2_goOn_62 : decode cX2_goOn 62 = .ok (.iload_n 2, 1) := by decide +kernel
theorem dX2_goOn_63 : decode cX2_goOn 63 = .ok (.iaload, 1) := by decide +kernel
theorem dX2_goOn_64 : decode cX2_goOn 64 = .ok (.aaload, 1) := by decide +kernel
theorem dX2_goOn_65 : decode cX2_goOn 65 = .ok (.astore 5, 2) := by decide +kernel
theorem dX2_goOn_67 : decode cX2_goOn 67 = .ok (.aload 5, 2) := by decide +kernel
theorem dX2_goOn_69 : decode cX2_goOn 69 = .ok (.dup, 1) := by decide +kernel
theorem dX2_goOn_70 : decode cX2_goOn 70 = .ok (.getfield 95, 3) := by decide +kernel
theorem dX2_goOn_73 : decode cX2_goOn 73 = .ok (.iconst 1, 1) := by decide +kernel
theorem dX2_goOn_74 : decode cX2_goOn 74 = .ok (.iadd, 1) := by decide +kernel
theorem dX2_goOn_75 : decode cX2_goOn 75 = .ok (.putfield 95, 3) := by decide +kernel
theorem dX2_goOn_78 : decode cX2_goOn 78 = .ok (.aload_n 0, 1) := by decide +kernel
theorem dX2_goOn_79 : decode cX2_goOn 79 = .ok (.aload_n 0, 1) := by decide +kernel
theorem dX2_goOn_80 : decode cX2_goOn 80 = .ok (.getfield 101, 3) := by decide +kernel
theorem dX2_goOn_83 : decode cX2_goOn 83 = .ok (.iload_n 2, 1) := by decide +kernel
theorem dX2_goOn_84 : decode cX2_goOn 84 = .ok (.iconst 1, 1) := by decide +kernel
theorem dX2_goOn_85 : decode cX2_goOn 85 = .ok (.iadd, 1) := by decide +kernel
theorem dX2_goOn_86 : decode cX2_goOn 86 = .ok (.invokestatic 118, 3) := by decide +kernel
theorem dX2_goOn_89 : decode cX2_goOn 89 = .ok (.putfield 101, 3) := by decide +kernel
theorem dX2_goOn_92 : decode cX2_goOn 92 = .ok (.aload 5, 2) := by decide +kernel
theorem dX2_goOn_94 : decode cX2_goOn 94 = .ok (.iload_n 3, 1) := by decide +kernel
theorem dX2_goOn_95 : decode cX2_goOn 95 = .ok (.aload_n 0, 1) := by decide +kernel
theorem dX2_goOn_96 : decode cX2_goOn 96 = .ok (.getfield 66, 3) := by decide +kernel
theorem dX2_goOn_99 : decode cX2_goOn 99 = .ok (.invokevirtual 124, 3) := by decide +kernel
theorem dX2_goOn_102 : decode cX2_goOn 102 = .ok (.istore 6, 2) := by decide +kernel
theorem dX2_goOn_104 : decode cX2_goOn 104 = .ok (.aload_n 0, 1) := by decide +kernel
theorem dX2_goOn_105 : decode cX2_goOn 105 = .ok (.aload_n 1, 1) := by decide +kernel
theorem dX2_goOn_106 : decode cX2_goOn 106 = .ok (.iload_n 2, 1) := by decide +kernel
theorem dX2_goOn_107 : decode cX2_goOn 107 = .ok (.iconst 1, 1) := by decide +kernel
theorem dX2_goOn_108 : decode cX2_goOn 108 = .ok (.iadd, 1) := by decide +kernel
theorem dX2_goOn_109 : decode cX2_goOn 109 = .ok (.iload_n 3, 1) := by decide +kernel
theorem dX2_goOn_110 : decode cX2_goOn 110 = .ok (.iload 6, 2) := by decide +kernel
theorem dX2_goOn_112 : decode cX2_goOn 112 = .ok (.invokestatic 127, 3) := by decide +kernel
theorem dX2_goOn_115 : decode cX2_goOn 115 = .ok (.isub, 1) := by decide +kernel
theorem dX2_goOn_116 : decode cX2_goOn 116 = .ok (.invokevirtual 110, 3) := by decide +kernel
theorem dX2_goOn_119 : decode cX2_goOn 119 = .ok (.istore 7, 2) := by decide +kernel
theorem dX2_goOn_121 : decode cX2_goOn 121 = .ok (.iload 7, 2) := by decide +kernel
theorem dX2_goOn_123 : decode cX2_goOn 123 = .ok (.ifCond .eq 10, 3) := by decide +kernel
theorem dX2_goOn_126 : decode cX2_goOn 126 = .ok (.aload 5, 2) := by decide +kernel
theorem dX2_goOn_128 : decode cX2_goOn 128 = .ok (.iload 6, 2) := by decide +kernel
theorem dX2_goOn_130 : decode cX2_goOn 130 = .ok (.invokevirtual 132, 3) := by decide +kernel
theorem dX2_goOn_133 : decode cX2_goOn 133 = .ok (.iload 7, 2) := by decide +kernel
theorem dX2_goOn_135 : decode cX2_goOn 135 = .ok (.ireturn, 1) := by decide +kernel
theorem dX2_obstacleAt_0 : decode cX2_obstacleAt 0 = .ok (.iload_n 2, 1) := by decide +kernel
theorem dX2_obstacleAt_1 : decode cX2_obstacleAt 1 = .ok (.aload_n 1, 1) := by decide +kernel
theorem dX2_obstacleAt_2 : decode cX2_obstacleAt 2 = .ok (.getfield 59, 3) := by decide +kernel
theorem dX2_obstacleAt_5 : decode cX2_obstacleAt 5 = .ok (.if_icmp .lt 6, 3) := by decide +kernel
theorem dX2_obstacleAt_8 : decode cX2_obstacleAt 8 = .ok (.bipush (-4), 2) := by decide +kernel
theorem dX2_obstacleAt_10 : decode cX2_obstacleAt 10 = .ok (.ireturn, 1) := by decide +kernel
theorem dX2_obstacleAt_11 : decode cX2_obstacleAt 11 = .ok (.aload_n 1, 1) := by decide +kernel
theorem dX2_obstacleAt_12 : decode cX2_obstacleAt 12 = .ok (.getfield 62, 3) := by decide +kernel
theorem dX2_obstacleAt_15 : decode cX2_obstacleAt 15 = .ok (.iload_n 2, 1) := by decide +kernel
theorem dX2_obstacleAt_16 : decode cX2_obstacleAt 16 = .ok (.iaload, 1) := by decide +kernel
theorem dX2_obstacleAt_17 : decode cX2_obstacleAt 17 = .ok (.istore_n 3, 1) := by decide +kernel
theorem dX2_obstacleAt_18 : decode cX2_obstacleAt 18 = .ok (.iload_n 3, 1) := by decide +kernel
theorem dX2_obstacleAt_19 : decode cX2_obstacleAt 19 = .ok (.invokestatic 31, 3) := by decide +kernel
theorem dX2_obstacleAt_22 : decode cX2_obstacleAt 22 = .ok (.ifCond .ne 6, 3) := by decide +kernel
theorem dX2_obstacleAt_25 : decode cX2_obstacleAt 25 = .ok (.bipush (-6), 2) := by decide +kernel
theorem dX2_obstacleAt_27 : decode cX2_obstacleAt 27 = .ok (.ireturn, 1) := by decide +kernel
theorem dX2_obstacleAt_28 : decode cX2_obstacleAt 28 = .ok (.aload_n 0, 1) := by decide +kernel
theorem dX2_obstacleAt_29 : decode cX2_obstacleAt 29 = .ok (.getfield 11, 3) := by decide +kernel
theorem dX2_obstacleAt_32 : decode cX2_obstacleAt 32 = .ok (.iload_n 3, 1) := by decide +kernel
theorem dX2_obstacleAt_33 : decode cX2_obstacleAt 33 = .ok (.aaload, 1) := by decide +kernel
theorem dX2_obstacleAt_34 : decode cX2_obstacleAt 34 = .ok (.invokevirtual 35, 3) := by decide +kernel
theorem dX2_obstacleAt_37 : decode cX2_obstacleAt 37 = .ok (.ifCond .eq 7, 3) := by decide +kernel
theorem dX2_obstacleAt_40 : decode cX2_obstacleAt 40 = .ok (.iconst 0, 1) := by decide +kernel
theorem dX2_obstacleAt_41 : decode cX2_obstacleAt 41 = .ok (.goto 5, 3) := by decide +kernel
theorem dX2_obstacleAt_44 : decode cX2_obstacleAt 44 = .ok (.bipush (-5), 2) := by decide +kernel
theorem dX2_obstacleAt_46 : decode cX2_obstacleAt 46 = .ok (.ireturn, 1) := by decide +kernel
theorem dX3_init_0 : decode cX3_init 0 = .ok (.aload_n 0, 1) := by decide +kernel
theorem dX3_init_1 : decode cX3_init 1 = .ok (.invokespecial 1, 3) := by decide +kernel
theorem dX3_init_4 : decode cX3_init 4 = .ok (.aload_n 0, 1) := by decide +kernel
theorem dX3_init_5 : decode cX3_init 5 = .ok (.bipush 10, 2) := by decide +kernel
theorem dX3_init_7 : decode cX3_init 7 = .ok (.newarray .boolean, 2) := by decide +kernel
theorem dX3_init_9 : decode cX3_init 9 = .ok (.putfield 7, 3) := by decide +kernel
theorem dX3_init_12 : decode cX3_init 12 = .ok (.aload_n 0, 1) := by decide +kernel
theorem dX3_init_13 : decode cX3_init 13 = .ok (.bipush 10, 2) := by decide +kernel
theorem dX3_init_15 : decode cX3_init 15 = .ok (.newarray .boolean, 2) := by decide +kernel
theorem dX3_init_17 : decode cX3_init 17 = .ok (.putfield 13, 3) := by decide +kernel
theorem dX3_init_20 : decode cX3_init 20 = .ok (.aload_n 0, 1) := by decide +kernel
theorem dX3_init_21 : decode cX3_init 21 = .ok (.bipush 10, 2) := by decide +kernel
theorem dX3_init_23 : decode cX3_init 23 = .ok (.newarray .int, 2) := by decide +kernel
theorem dX3_init_25 : decode cX3_init 25 = .ok (.putfield 16, 3) := by decide +kernel
theorem dX3_init_28 : decode cX3_init 28 = .ok (.aload_n 0, 1) := by decide +kernel
theorem dX3_init_29 : decode cX3_init 29 = .ok (.bipush 10, 2) := by decide +kernel
theorem dX3_init_31 : decode cX3_init 31 = .ok (.newarray .int, 2) := by decide +kernel
theorem dX3_init_33 : decode cX3_init 33 = .ok (.putfield 20, 3) := by decide +kernel
theorem dX3_init_36 : decode cX3_init 36 = .ok (.aload_n 0, 1) := by decide +kernel
theorem dX3_init_37 : decode cX3_init 37 = .ok (.bipush 10, 2) := by decide +kernel
theorem dX3_init_39 : decode cX3_init 39 = .ok (.newarray .int, 2) := by decide +kernel
theorem dX3_init_41 : decode cX3_init 41 = .ok (.putfield 23, 3) := by decide +kernel
theorem dX3_init_44 : decode cX3_init 44 = .ok (.aload_n 0, 1) := by decide +kernel
theorem dX3_init_45 : decode cX3_init 45 = .ok (.sipush 200, 3) := by decide +kernel
theorem dX3_init_48 : decode cX3_init 48 = .ok (.newarray .int, 2) := by decide +kernel
theorem dX3_init_50 : decode cX3_init 50 = .ok (.putfield 26, 3) := by decide +kernel
theorem dX3_init_53 : decode cX3_init 53 = .ok (.aload_n 0, 1) := by decide +kernel
theorem dX3_init_54 : decode cX3_init 54 = .ok (.bipush 6, 2) := by decide +kernel
theorem dX3_init_56 : decode cX3_init 56 = .ok (.newarray .int, 2) := by decide +kernel
theorem dX3_init_58 : decode cX3_init 58 = .ok (.putfield 29, 3) := by decide +kernel
theorem dX3_init_61 : decode cX3_init 61 = .ok (.aload_n 0, 1) := by decide +kernel
theorem dX3_init_62 : decode cX3_init 62 = .ok (.bipush 40, 2) := by decide +kernel
theorem dX3_init_64 : decode cX3_init 64 = .ok (.newarray .boolean, 2) := by decide +kernel
theorem dX3_init_66 : decode cX3_init 66 = .ok (.putfield 32, 3) := by decide +kernel
theorem dX3_init_69 : decode cX3_init 69 = .ok (.aload_n 0, 1) := by decide +kernel
theorem dX3_init_70 : decode cX3_init 70 = .ok (.bipush 8, 2) := by decide +kernel
theorem dX3_init_72 : decode cX3_init 72 = .ok (.newarray .int, 2) := by decide +kernel
theorem dX3_init_74 : decode cX3_init 74 = .ok (.putfield 35, 3) := by decide +kernel
theorem dX3_init_77 : decode cX3_init 77 = .ok (.aload_n 0, 1) := by decide +kernel
theorem dX3_init_78 : decode cX3_init 78 = .ok (.bipush 48, 2) := by decide +kernel
theorem dX3_init_80 : decode cX3_init 80 = .ok (.newarray .int, 2) := by decide +kernel
theorem dX3_init_82 : decode cX3_init 82 = .ok (.putfield 38, 3) := by decide +kernel
theorem dX3_init_85 : decode cX3_init 85 = .ok (.aload_n 0, 1) := by decide +kernel
theorem dX3_init_86 : decode cX3_init 86 = .ok (.bipush 8, 2) := by decide +kernel
theorem dX3_init_88 : decode cX3_init 88 = .ok (.newarray .int, 2) := by decide +kernel
theorem dX3_init_90 : decode cX3_init 90 = .ok (.putfield 41, 3) := by decide +kernel
theorem dX3_init_93 : decode cX3_init 93 = .ok (.aload_n 0, 1) := by decide +kernel
theorem dX3_init_94 : decode cX3_init 94 = .ok (.bipush 6, 2) := by decide +kernel
theorem dX3_init_96 : decode cX3_init 96 = .ok (.newarray .int, 2) := by decide +kernel
theorem dX3_init_98 : decode cX3_init 98 = .ok (.putfield 44, 3) := by decide +kernel
theorem dX3_init_101 : decode cX3_init 101 = .ok (.aload_n 0, 1) := by decide +kernel
theorem dX3_init_102 : decode cX3_init 102 = .ok (.bipush 6, 2) := by decide +kernel
theorem dX3_init_104 : decode cX3_init 104 = .ok (.newarray .int, 2) := by decide +kernel
theorem dX3_init_106 : decode cX3_init 106 = .ok (.putfield 47, 3) := by decide +kernel
theorem dX3_init_109 : decode cX3_init 109 = .ok (.return_, 1) := by decide +kernel
theorem dX3_in_0 : decode cX3_in 0 = .ok (.iload_n 0, 1) := by decide +kernel
theorem dX3_in_1 : decode cX3_in 1 = .ok (.iload_n 1, 1) := by decide +kernel
theorem dX3_in_2 : decode cX3_in 2 = .ok (.if_icmp .lt 12, 3) := by decide +kernel
theorem dX3_in_5 : decode cX3_in 5 = .ok (.iload_n 0, 1) := by decide +kernel
theorem dX3_in_6 : decode cX3_in 6 = .ok (.iload_n 2, 1) := by decide +kernel
theorem dX3_in_7 : decode cX3_in 7 = .ok (.if_icmp .gt 7, 3) := by decide +kernel
theorem dX3_in_10 : decode cX3_in 10 = .ok (.iconst 1, 1) := by decide +kernel
theorem dX3_in_11 : decode cX3_in 11 = .ok (.goto 4, 3) := by decide +kernel
theorem dX3_in_14 : decode cX3_in 14 = .ok (.iconst 0, 1) := by decide +kernel
theorem dX3_in_15 : decode cX3_in 15 = .ok (.ireturn, 1) := by decide +kernel
theorem dX3_mark_0 : decode cX3_mark 0 = .ok (.iconst 0, 1) := by decide +kernel
theorem dX3_mark_1 : decode cX3_mark 1 = .ok (.istore 4, 2) := by decide +kernel
theorem dX3_mark_3 : decode cX3_mark 3 = .ok (.iload_n 2, 1) := by decide +kernel
theorem dX3_mark_4 : decode cX3_mark 4 = .ok (.istore 5, 2) := by decide +kernel
theorem dX3_mark_6 : decode cX3_mark 6 = .ok (.iload 5, 2) := by decide +kernel
theorem dX3_mark_8 : decode cX3_mark 8 = .ok (.aload_n 0, 1) := by decide +kernel
theorem dX3_mark_9 : decode cX3_mark 9 = .ok (.getfield 16, 3) := by decide +kernel
theorem dX3_mark_12 : decode cX3_mark 12 = .ok (.iload_n 1, 1) := by decide +kernel
theorem dX3_mark_13 : decode cX3_mark 13 = .ok (.iaload, 1) := by decide +kernel
theorem dX3_mark_14 : decode cX3_mark 14 = .ok (.if_icmp .ge 51, 3) := by decide +kernel
theorem dX3_mark_17 : decode cX3_mark 17 = .ok (.iload 4, 2) := by decide +kernel
theorem dX3_mark_19 : decode cX3_mark 19 = .ok (.iload_n 3, 1) := by decide +kernel
theorem dX3_mark_20 : decode cX3_mark 20 = .ok (.if_icmp .ge 45, 3) := by decide +kernel
theorem dX3_mark_23 : decode cX3_mark 23 = .ok (.aload_n 0, 1) := by decide +kernel
theorem dX3_mark_24 : decode cX3_mark 24 = .ok (.getfield 26, 3) := by decide +kernel
theorem dX3_mark_27 : decode cX3_mark 27 = .ok (.bipush 20, 2) := by decide +kernel
theorem dX3_mark_29 : decode cX3_mark 29 = .ok (.iload_n 1, 1) := by decide +kernel
theorem dX3_mark_30 : decode cX3_mark 30 = .ok (.imul, 1) := by decide +kernel
theorem dX3_mark_31 : decode cX3_mark 31 = .ok (.iload 5, 2) := by decide +kernel
theorem dX3_mark_33 : decode cX3_mark 33 = .ok (.iadd, 1) := by decide +kernel
theorem dX3_mark_34 : decode cX3_mark 34 = .ok (.iaload, 1) := by decide +kernel
theorem dX3_mark_35 : decode cX3_mark 35 = .ok (.bipush (-8), 2) := by decide +kernel
theorem dX3_mark_37 : decode cX3_mark 37 = .ok (.if_icmp .ne 22, 3) := by decide +kernel
theorem dX3_mark_40 : decode cX3_mark 40 = .ok (.aload_n 0, 1) := by decide +kernel
theorem dX3_mark_41 : decode cX3_mark 41 = .ok (.getfield 26, 3) := by decide +kernel
theorem dX3_mark_44 : decode cX3_mark 44 = .ok (.bipush 20, 2) := by decide +kernel
theorem dX3_mark_46 : decode cX3_mark 46 = .ok (.iload_n 1, 1) := by decide +kernel
theorem dX3_mark_47 : decode cX3_mark 47 = .ok (.imul, 1) := by decide +kernel
theorem dX3_mark_48 : decode cX3_mark 48 = .ok (.iload 5, 2) := by decide +kernel
theorem dX3_mark_50 : decode cX3_mark 50 = .ok (.iadd, 1) := by decide +kernel
theorem dX3_mark_51 : decode cX3_mark 51 = .ok (.aload_n 0, 1) := by decide +kernel
theorem dX3_mark_52 : decode cX3_mark 52 = .ok (.getfield 54, 3) := by decide +kernel
theorem dX3_mark_55 : decode cX3_mark 55 = .ok (.iastore, 1) := by decide +kernel
theorem dX3_mark_56 : decode cX3_mark 56 = .ok (.iinc 4 1, 3) := by decide +kernel
theorem dX3_mark_59 : decode cX3_mark 59 = .ok (.iinc 5 1, 3) := by decide +kernel
theorem dX3_mark_62 : decode cX3_mark 62 = .ok (.goto (-56), 3) := by decide +kernel
theorem dX3_mark_65 : decode cX3_mark 65 = .ok (.iload 4, 2) := by decide +kernel
theorem dX3_mark_67 : decode cX3_mark 67 = .ok (.ireturn, 1) := by decide +kernel
theorem dX3_stretch_0 : decode cX3_stretch 0 = .ok (.iconst 0, 1) := by decide +kernel
theorem dX3_stretch_1 : decode cX3_stretch 1 = .ok (.istore_n 3, 1) := by decide +kernel
theorem dX3_stretch_2 : decode cX3_stretch 2 = .ok (.aload_n 0, 1) := by decide +kernel
theorem dX3_stretch_3 : decode cX3_stretch 3 = .ok (.iconst 0, 1) := by decide +kernel
theorem dX3_stretch_4 : decode cX3_stretch 4 = .ok (.putfield 57, 3) := by decide +kernel
theorem dX3_stretch_7 : decode cX3_stretch 7 = .ok (.iconst 0, 1) := by decide +kernel
theorem dX3_stretch_8 : decode cX3_stretch 8 = .ok (.istore 4, 2) := by decide +kernel
theorem dX3_stretch_10 : decode cX3_stretch 10 = .ok (.iload 4, 2) := by decide +kernel
theorem dX3_stretch_12 : decode cX3_stretch 12 = .ok (.aload_n 0, 1) := by decide +kernel
theorem dX3_stretch_13 : decode cX3_stretch 13 = .ok (.getfield 16, 3) := by decide +kernel
theorem dX3_stretch_16 : decode cX3_stretch 16 = .ok (.iload_n 1, 1) := by decide +kernel
theorem dX3_stretch_17 : decode cX3_stretch 17 = .ok (.iaload, 1) := by decide +kernel
theorem dX3_stretch_18 : decode cX3_stretch 18 = .ok (.if_icmp .ge 82, 3) := by decide +kernel
theorem dX3_stretch_21 : decode cX3_stretch 21 = .ok (.aload_n 0, 1) := by decide +kernel
theorem dX3_stretch_22 : decode cX3_stretch 22 = .ok (.getfield 57, 3) := by decide +kernel
theorem dX3_stretch_25 : decode cX3_stretch 25 = .ok (.iload_n 2, 1) := by decide +kernel
theorem dX3_stretch_26 : decode cX3_stretch 26 = .ok (.if_icmp .ge 74, 3) := by decide +kernel
theorem dX3_stretch_29 : decode cX3_stretch 29 = .ok (.iload 4, 2) := by decide +kernel
theorem dX3_stretch_31 : decode cX3_stretch 31 = .ok (.istore 5, 2) := by decide +kernel
theorem dX3_stretch_33 : decode cX3_stretch 33 = .ok (.iload 5, 2) := by decide +kernel
theorem dX3_stretch_35 : decode cX3_stretch 35 = .ok (.aload_n 0, 1) := by decide +kernel
theorem dX3_stretch_36 : decode cX3_stretch 36 = .ok (.getfield 16, 3) := by decide +kernel
theorem dX3_stretch_39 : decode cX3_stretch 39 = .ok (.iload_n 1, 1) := by decide +kernel
theorem dX3_stretch_40 : decode cX3_stretch 40 = .ok (.iaload, 1) := by decide +kernel
theorem dX3_stretch_41 : decode cX3_stretch 41 = .ok (.if_icmp .ge 26, 3) := by decide +kernel
theorem dX3_stretch_44 : decode cX3_stretch 44 = .ok (.aload_n 0, 1) := by decide +kernel
theorem dX3_stretch_45 : decode cX3_stretch 45 = .ok (.getfield 26, 3) := by decide +kernel
theorem dX3_stretch_48 : decode cX3_stretch 48 = .ok (.bipush 20, 2) := by decide +kernel
theorem dX3_stretch_50 : decode cX3_stretch 50 = .ok (.iload_n 1, 1) := by decide +kernel
theorem dX3_stretch_51 : decode cX3_stretch 51 = .ok (.imul, 1) := by decide +kernel
theorem dX3_stretch_52 : decode cX3_stretch 52 = .ok (.iload 5, 2) := by decide +kernel
theorem dX3_stretch_54 : decode cX3_stretch 54 = .ok (.iadd, 1) := by decide +kernel
theorem dX3_stretch_55 : decode cX3_stretch 55 = .ok (.iaload, 1) := by decide +kernel
theorem dX3_stretch_56 : decode cX3_stretch 56 = .ok (.bipush (-8), 2) := by decide +kernel
theorem dX3_stretch_58 : decode cX3_stretch 58 = .ok (.if_icmp .ne 9, 3) := by decide +kernel
theorem dX3_stretch_61 : decode cX3_stretch 61 = .ok (.iinc 5 1, 3) := by decide +kernel
theorem dX3_stretch_64 : decode cX3_stretch 64 = .ok (.goto (-31), 3) := by decide +kernel
theorem dX3_stretch_67 : decode cX3_stretch 67 = .ok (.iload 5, 2) := by decide +kernel
theorem dX3_stretch_69 : decode cX3_stretch 69 = .ok (.iload 4, 2) := by decide +kernel
theorem dX3_stretch_71 : decode cX3_stretch 71 = .ok (.isub, 1) := by decide +kernel
theorem dX3_stretch_72 : decode cX3_stretch 72 = .ok (.aload_n 0, 1) := by decide +kernel
theorem dX3_stretch_73 : decode cX3_stretch 73 = .ok (.getfield 57, 3) := by decide +kernel
theorem dX3_stretch_76 : decode cX3_stretch 76 = .ok (.if_icmp .le 15, 3) := by decide +kernel
theorem dX3_stretch_79 : decode cX3_stretch 79 = .ok (.iload 4, 2) := by decide +kernel
theorem dX3_stretch_81 : decode cX3_stretch 81 = .ok (.istore_n 3, 1) := by decide +kernel
theorem dX3_stretch_82 : decode cX3_stretch 82 = .ok (.aload_n 0, 1) := by decide +kernel
theorem dX3_stretch_83 : decode cX3_stretch 83 = .ok (.iload 5, 2) := by decide +kernel
theorem dX3_stretch_85 : decode cX3_stretch 85 = .ok (.iload 4, 2) := by decide +kernel
theorem dX3_stretch_87 : decode cX3_stretch 87 = .ok (.isub, 1) := by decide +kernel
theorem dX3_stretch_88 : decode cX3_stretch 88 = .ok (.putfield 57, 3) := by decide +kernel
theorem dX3_stretch_91 : decode cX3_stretch 91 = .ok (.iload 5, 2) := by decide +kernel
theorem dX3_stretch_93 : decode cX3_stretch 93 = .ok (.iconst 1, 1) := by decide +kernel
theorem dX3_stretch_94 : decode cX3_stretch 94 = .ok (.iadd, 1) := by decide +kernel
theorem dX3_stretch_95 : decode cX3_stretch 95 = .ok (.istore 4, 2) := by decide +kernel
theorem dX3_stretch_97 : decode cX3_stretch 97 = .ok (.goto (-87), 3) := by decide +kernel
theorem dX3_stretch_100 : decode cX3_stretch 100 = .ok (.iload_n 3, 1) := by decide +kernel
theorem dX3_stretch_101 : decode cX3_stretch 101 = .ok (.ireturn, 1) := by decide +kernel
theorem dX3_takes_0 : decode cX3_takes 0 = .ok (.aload_n 0, 1) := by decide +kernel
theorem dX3_takes_1 : decode cX3_takes 1 = .ok (.getfield 13, 3) := by decide +kernel
theorem dX3_takes_4 : decode cX3_takes 4 = .ok (.iload_n 1, 1) := by decide +kernel
theorem dX3_takes_5 : decode cX3_takes 5 = .ok (.baload, 1) := by decide +kernel
theorem dX3_takes_6 : decode cX3_takes 6 = .ok (.ifCond .ne 11, 3) := by decide +kernel
theorem dX3_takes_9 : decode cX3_takes 9 = .ok (.aload_n 0, 1) := by decide +kernel
theorem dX3_takes_10 : decode cX3_takes 10 = .ok (.iload_n 1, 1) := by decide +kernel
theorem dX3_takes_11 : decode cX3_takes 11 = .ok (.iconst 0, 1) := by decide +kernel
theorem dX3_takes_12 : decode cX3_takes 12 = .ok (.iload_n 2, 1) := by decide +kernel
theorem dX3_takes_13 : decode cX3_takes 13 = .ok (.invokevirtual 60, 3) := by decide +kernel
theorem dX3_takes_16 : decode cX3_takes 16 = .ok (.ireturn, 1) := by decide +kernel
theorem dX3_takes_17 : decode cX3_takes 17 = .ok (.aload_n 0, 1) := by decide +kernel
theorem dX3_takes_18 : decode cX3_takes 18 = .ok (.iload_n 1, 1) := by decide +kernel
theorem dX3_takes_19 : decode cX3_takes 19 = .ok (.iload_n 2, 1) := by decide +kernel
theorem dX3_takes_20 : decode cX3_takes 20 = .ok (.invokevirtual 64, 3) := by decide +kernel
theorem dX3_takes_23 : decode cX3_takes 23 = .ok (.istore_n 3, 1) := by decide +kernel
theorem dX3_takes_24 : decode cX3_takes 24 = .ok (.aload_n 0, 1) := by decide +kernel
theorem dX3_takes_25 : decode cX3_takes 25 = .ok (.iload_n 1, 1) := by decide +kernel
theorem dX3_takes_26 : decode cX3_takes 26 = .ok (.iload_n 3, 1) := by decide +kernel
theorem dX3_takes_27 : decode cX3_takes 27 = .ok (.aload_n 0, 1) := by decide +kernel
theorem dX3_takes_28 : decode cX3_takes 28 = .ok (.getfield 57, 3) := by decide +kernel
theorem dX3_takes_31 : decode cX3_takes 31 = .ok (.iload_n 2, 1) := by decide +kernel
theorem dX3_takes_32 : decode cX3_takes 32 = .ok (.if_icmp .ge 10, 3) := by decide +kernel
theorem dX3_takes_35 : decode cX3_takes 35 = .ok (.aload_n 0, 1) := by decide +kernel
theorem dX3_takes_36 : decode cX3_takes 36 = .ok (.getfield 57, 3) := by decide +kernel
theorem dX3_takes_39 : decode cX3_takes 39 = .ok (.goto 4, 3) := by decide +kernel
theorem dX3_takes_42 : decode cX3_takes 42 = .ok (.iload_n 2, 1) := by decide +kernel
theorem dX3_takes_43 : decode cX3_takes 43 = .ok (.invokevirtual 60, 3) := by decide +kernel
theorem dX3_takes_46 : decode cX3_takes 46 = .ok (.ireturn, 1) := by decide +kernel
theorem dX3_giveBack_0 : decode cX3_giveBack 0 = .ok (.iload_n 1, 1) := by decide +kernel
theorem dX3_giveBack_1 : decode cX3_giveBack 1 = .ok (.iconst 1, 1) := by decide +kernel
theorem dX3_giveBack_2 : decode cX3_giveBack 2 = .ok (.isub, 1) := by decide +kernel
theorem dX3_giveBack_3 : decode cX3_giveBack 3 = .ok (.istore_n 2, 1) := by decide +kernel
theorem dX3_giveBack_4 : decode cX3_giveBack 4 = .ok (.iload_n 2, 1) := by decide +kernel
theorem dX3_giveBack_5 : decode cX3_giveBack 5 = .ok (.ifCond .lt 37, 3) := by decide +kernel
theorem dX3_giveBack_8 : decode cX3_giveBack 8 = .ok (.aload_n 0, 1) := by decide +kernel
theorem dX3_giveBack_9 : decode cX3_giveBack 9 = .ok (.getfield 23, 3) := by decide +kernel
theorem dX3_giveBack_12 : decode cX3_giveBack 12 = .ok (.aload_n 0, 1) := by decide +kernel
theorem dX3_giveBack_13 : decode cX3_giveBack 13 = .ok (.getfield 44, 3) := by decide +kernel
theorem dX3_giveBack_16 : decode cX3_giveBack 16 = .ok (.iload_n 2, 1) := by decide +kernel
theorem dX3_giveBack_17 : decode cX3_giveBack 17 = .ok (.iaload, 1) := by decide +kernel
theorem dX3_giveBack_18 : decode cX3_giveBack 18 = .ok (.dup2, 1) := by decide +kernel
theorem dX3_giveBack_19 : decode cX3_giveBack 19 = .ok (.iaload, 1) := by decide +kernel
theorem dX3_giveBack_20 : decode cX3_giveBack 20 = .ok (.aload_n 0, 1) := by decide +kernel
theorem dX3_giveBack_21 : decode cX3_giveBack 21 = .ok (.getfield 47, 3) := by decide +kernel
theorem dX3_giveBack_24 : decode cX3_giveBack 24 = .ok (.iload_n 2, 1) := by decide +kernel
theorem dX3_giveBack_25 : decode cX3_giveBack 25 = .ok (.iaload, 1) := by decide +kernel
theorem dX3_giveBack_26 : decode cX3_giveBack 26 = .ok (.ifCond .le 7, 3) := by decide +kernel
theorem dX3_giveBack_29 : decode cX3_giveBack 29 = .ok (.iconst 1, 1) := by decide +kernel
theorem dX3_giveBack_30 : decode cX3_giveBack 30 = .ok (.goto 4, 3) := by decide +kernel
theorem dX3_giveBack_33 : decode cX3_giveBack 33 = .ok (.iconst 0, 1) := by decide +kernel
theorem dX3_giveBack_34 : decode cX3_giveBack 34 = .ok (.iadd, 1) := by decide +kernel
theorem dX3_giveBack_35 : decode cX3_giveBack 35 = .ok (.iastore, 1) := by decide +kernel
theorem dX3_giveBack_36 : decode cX3_giveBack 36 = .ok (.iinc 2 (-1), 3) := by decide +kernel
theorem dX3_giveBack_39 : decode cX3_giveBack 39 = .ok (.goto (-35), 3) := by decide +kernel
theorem dX3_giveBack_42 : decode cX3_giveBack 42 = .ok (.iconst 0, 1) := by decide +kernel
theorem dX3_giveBack_43 : decode cX3_giveBack 43 = .ok (.istore_n 2, 1) := by decide +kernel
theorem dX3_giveBack_44 : decode cX3_giveBack 44 = .ok (.iload_n 2, 1) := by decide +kernel
theorem dX3_giveBack_45 : decode cX3_giveBack 45 = .ok (.sipush 200, 3) := by decide +kernel
theorem dX3_giveBack_48 : decode cX3_giveBack 48 = .ok (.if_icmp .ge 39, 3) := by decide +kernel
theorem dX3_giveBack_51 : decode cX3_giveBack 51 = .ok (.aload_n 0, 1) := by decide +kernel
theorem dX3_giveBack_52 : decode cX3_giveBack 52 = .ok (.getfield 26, 3) := by decide +kernel
theorem dX3_giveBack_55 : decode cX3_giveBack 55 = .ok (.iload_n 2, 1) := by decide +kernel
theorem dX3_giveBack_56 : decode cX3_giveBack 56 = .ok (.aload_n 0, 1) := by decide +kernel
theorem dX3_giveBack_57 : decode cX3_giveBack 57 = .ok (.getfield 26, 3) := by decide +kernel
theorem dX3_giveBack_60 : decode cX3_giveBack 60 = .ok (.iload_n 2, 1) := by decide +kernel
theorem dX3_giveBack_61 : decode cX3_giveBack 61 = .ok (.iaload, 1) := by decide +kernel
theorem dX3_giveBack_62 : decode cX3_giveBack 62 = .ok (.aload_n 0, 1) := by decide +kernel
theorem dX3_giveBack_63 : decode cX3_giveBack 63 = .ok (.getfield 54, 3) := by decide +kernel
theorem dX3_giveBack_66 : decode cX3_giveBack 66 = .ok (.if_icmp .ne 8, 3) := by decide +kernel
theorem dX3_giveBack_69 : decode cX3_giveBack 69 = .ok (.bipush (-8), 2) := by decide +kernel
theorem dX3_giveBack_71 : decode cX3_giveBack 71 = .ok (.goto 9, 3) := by decide +kernel
theorem dX3_giveBack_74 : decode cX3_giveBack 74 = .ok (.aload_n 0, 1) := by decide +kernel
theorem dX3_giveBack_75 : decode cX3_giveBack 75 = .ok (.getfield 26, 3) := by decide +kernel
theorem dX3_giveBack_78 : decode cX3_giveBack 78 = .ok (.iload_n 2, 1) := by decide +kernel
theorem dX3_giveBack_79 : decode cX3_giveBack 79 = .ok (.iaload, 1) := by decide +kernel
theorem dX3_giveBack_80 : decode cX3_giveBack 80 = .ok (.iastore, 1) := by decide +kernel
theorem dX3_giveBack_81 : decode cX3_giveBack 81 = .ok (.iinc 2 1, 3) := by decide +kernel
theorem dX3_giveBack_84 : decode cX3_giveBack 84 = .ok (.goto (-40), 3) := by decide +kernel
theorem dX3_giveBack_87 : decode cX3_giveBack 87 = .ok (.return_, 1) := by decide +kernel
theorem dX3_goes_0 : decode cX3_goes 0 = .ok (.iload_n 1, 1) := by decide +kernel
theorem dX3_goes_1 : decode cX3_goes 1 = .ok (.istore_n 3, 1) := by decide +kernel
theorem dX3_goes_2 : decode cX3_goes 2 = .ok (.bipush (-4), 2) := by decide +kernel
theorem dX3_goes_4 : decode cX3_goes 4 = .ok (.istore 4, 2) := by decide +kernel
theorem dX3_goes_6 : decode cX3_goes 6 = .ok (.iconst 0, 1) := by decide +kernel
theorem dX3_goes_7 : decode cX3_goes 7 = .ok (.istore 5, 2) := by decide +kernel
theorem dX3_goes_9 : decode cX3_goes 9 = .ok (.iconst 1, 1) := by decide +kernel
theorem dX3_goes_10 : decode cX3_goes 10 = .ok (.istore 6, 2) := by decide +kernel
theorem dX3_goes_12 : decode cX3_goes 12 = .ok (.iload 6, 2) := by decide +kernel
theorem dX3_goes_14 : decode cX3_goes 14 = .ok (.ifCond .eq 125, 3) := by decide +kernel
theorem dX3_goes_17 : decode cX3_goes 17 = .ok (.iload 5, 2) := by decide +kernel
theorem dX3_goes_19 : decode cX3_goes 19 = .ok (.aload_n 0, 1) := by decide +kernel
theorem dX3_goes_20 : decode cX3_goes 20 = .ok (.getfield 68, 3) := by decide +kernel
theorem dX3_goes_23 : decode cX3_goes 23 = .ok (.if_icmp .ge 116, 3) := by decide +kernel
theorem dX3_goes_26 : decode cX3_goes 26 = .ok (.iload_n 3, 1) := by decide +kernel
theorem dX3_goes_27 : decode cX3_goes 27 = .ok (.ifCond .le 112, 3) := by decide +kernel
theorem dX3_goes_30 : decode cX3_goes 30 = .ok (.aload_n 0, 1) := by decide +kernel
theorem dX3_goes_31 : decode cX3_goes 31 = .ok (.getfield 44, 3) := by decide +kernel
theorem dX3_goes_34 : decode cX3_goes 34 = .ok (.iload 5, 2) := by decide +kernel
theorem dX3_goes_36 : decode cX3_goes 36 = .ok (.iaload, 1) := by decide +kernel
theorem dX3_goes_37 : decode cX3_goes 37 = .ok (.istore 7, 2) := by decide +kernel
theorem dX3_goes_39 : decode cX3_goes 39 = .ok (.iload 7, 2) := by decide +kernel
theorem dX3_goes_41 : decode cX3_goes 41 = .ok (.bipush 10, 2) := by decide +kernel
theorem dX3_goes_43 : decode cX3_goes 43 = .ok (.if_icmp .lt 13, 3) := by decide +kernel
theorem dX3_goes_46 : decode cX3_goes 46 = .ok (.bipush (-6), 2) := by decide +kernel
theorem dX3_goes_48 : decode cX3_goes 48 = .ok (.istore 4, 2) := by decide +kernel
theorem dX3_goes_50 : decode cX3_goes 50 = .ok (.iconst 0, 1) := by decide +kernel
theorem dX3_goes_51 : decode cX3_goes 51 = .ok (.istore 6, 2) := by decide +kernel
theorem dX3_goes_53 : decode cX3_goes 53 = .ok (.goto 83, 3) := by decide +kernel
theorem dX3_goes_56 : decode cX3_goes 56 = .ok (.aload_n 0, 1) := by decide +kernel
theorem dX3_goes_57 : decode cX3_goes 57 = .ok (.getfield 7, 3) := by decide +kernel
theorem dX3_goes_60 : decode cX3_goes 60 = .ok (.iload 7, 2) := by decide +kernel
theorem dX3_goes_62 : decode cX3_goes 62 = .ok (.baload, 1) := by decide +kernel
theorem dX3_goes_63 : decode cX3_goes 63 = .ok (.ifCond .ne 13, 3) := by decide +kernel
theorem dX3_goes_66 : decode cX3_goes 66 = .ok (.bipush (-5), 2) := by decide +kernel
theorem dX3_goes_68 : decode cX3_goes 68 = .ok (.istore 4, 2) := by decide +kernel
theorem dX3_goes_70 : decode cX3_goes 70 = .ok (.iconst 0, 1) := by decide +kernel
theorem dX3_goes_71 : decode cX3_goes 71 = .ok (.istore 6, 2) := by decide +kernel
theorem dX3_goes_73 : decode cX3_goes 73 = .ok (.goto 63, 3) := by decide +kernel
theorem dX3_goes_76 : decode cX3_goes 76 = .ok (.aload_n 0, 1) := by decide +kernel
theorem dX3_goes_77 : decode cX3_goes 77 = .ok (.getfield 20, 3) := by decide +kernel
theorem dX3_goes_80 : decode cX3_goes 80 = .ok (.iload 7, 2) := by decide +kernel
theorem dX3_goes_82 : decode cX3_goes 82 = .ok (.dup2, 1) := by decide +kernel
theorem dX3_goes_83 : decode cX3_goes 83 = .ok (.iaload, 1) := by decide +kernel
theorem dX3_goes_84 : decode cX3_goes 84 = .ok (.iconst 1, 1) := by decide +kernel
theorem dX3_goes_85 : decode cX3_goes 85 = .ok (.iadd, 1) := by decide +kernel
theorem dX3_goes_86 : decode cX3_goes 86 = .ok (.iastore, 1) := by decide +kernel
theorem dX3_goes_87 : decode cX3_goes 87 = .ok (.aload_n 0, 1) := by decide +kernel
theorem dX3_goes_88 : decode cX3_goes 88 = .ok (.getfield 47, 3) := by decide +kernel
theorem dX3_goes_91 : decode cX3_goes 91 = .ok (.iload 5, 2) := by decide +kernel
theorem dX3_goes_93 : decode cX3_goes 93 = .ok (.aload_n 0, 1) := by decide +kernel
theorem dX3_goes_94 : decode cX3_goes 94 = .ok (.iload 7, 2) := by decide +kernel
theorem dX3_goes_96 : decode cX3_goes 96 = .ok (.iload_n 3, 1) := by decide +kernel
theorem dX3_goes_97 : decode cX3_goes 97 = .ok (.invokevirtual 71, 3) := by decide +kernel
theorem dX3_goes_100 : decode cX3_goes 100 = .ok (.iastore, 1) := by decide +kernel
theorem dX3_goes_101 : decode cX3_goes 101 = .ok (.iload_n 3, 1) := by decide +kernel
theorem dX3_goes_102 : decode cX3_goes 102 = .ok (.aload_n 0, 1) := by decide +kernel
theorem dX3_goes_103 : decode cX3_goes 103 = .ok (.getfield 47, 3) := by decide +kernel
theorem dX3_goes_106 : decode cX3_goes 106 = .ok (.iload 5, 2) := by decide +kernel
theorem dX3_goes_108 : decode cX3_goes 108 = .ok (.iaload, 1) := by decide +kernel
theorem dX3_goes_109 : decode cX3_goes 109 = .ok (.isub, 1) := by decide +kernel
theorem dX3_goes_110 : decode cX3_goes 110 = .ok (.istore_n 3, 1) := by decide +kernel
theorem dX3_goes_111 : decode cX3_goes 111 = .ok (.iinc 5 1, 3) := by decide +kernel
theorem dX3_goes_114 : decode cX3_goes 114 = .ok (.aload_n 0, 1) := by decide +kernel
theorem dX3_goes_115 : decode cX3_goes 115 = .ok (.iload 5, 2) := by decide +kernel
theorem dX3_goes_117 : decode cX3_goes 117 = .ok (.aload_n 0, 1) := by decide +kernel
theorem dX3_goes_118 : decode cX3_goes 118 = .ok (.getfield 74, 3) := by decide +kernel
theorem dX3_goes_121 : decode cX3_goes 121 = .ok (.if_icmp .le 8, 3) := by decide +kernel
theorem dX3_goes_124 : decode cX3_goes 124 = .ok (.iload 5, 2) := by decide +kernel
theorem dX3_goes_126 : decode cX3_goes 126 = .ok (.goto 7, 3) := by decide +kernel
theorem dX3_goes_129 : decode cX3_goes 129 = .ok (.aload_n 0, 1) := by decide +kernel
theorem dX3_goes_130 : decode cX3_goes 130 = .ok (.getfield 74, 3) := by decide +kernel
theorem dX3_goes_133 : decode cX3_goes 133 = .ok (.putfield 74, 3) := by decide +kernel
theorem dX3_goes_136 : decode cX3_goes 136 = .ok (.goto (-124), 3) := by decide +kernel
theorem dX3_goes_139 : decode cX3_goes 139 = .ok (.iload_n 3, 1) := by decide +kernel
theorem dX3_goes_140 : decode cX3_goes 140 = .ok (.ifCond .eq 13, 3) := by decide +kernel
theorem dX3_goes_143 : decode cX3_goes 143 = .ok (.iload_n 2, 1) := by decide +kernel
theorem dX3_goes_144 : decode cX3_goes 144 = .ok (.iconst 1, 1) := by decide +kernel
theorem dX3_goes_145 : decode cX3_goes 145 = .ok (.if_icmp .ne 25, 3) := by decide +kernel
theorem dX3_goes_148 : decode cX3_goes 148 = .ok (.iload_n 3, 1) := by decide +kernel
theorem dX3_goes_149 : decode cX3_goes 149 = .ok (.iload_n 1, 1) := by decide +kernel
theorem dX3_goes_150 : decode cX3_goes 150 = .ok (.if_icmp .ge 20, 3) := by decide +kernel
theorem dX3_goes_153 : decode cX3_goes 153 = .ok (.aload_n 0, 1) := by decide +kernel
theorem dX3_goes_154 : decode cX3_goes 154 = .ok (.dup, 1) := by decide +kernel
theorem dX3_goes_155 : decode cX3_goes 155 = .ok (.getfield 54, 3) := by decide +kernel
theorem dX3_goes_158 : decode cX3_goes 158 = .ok (.iconst 1, 1) := by decide +kernel
theorem dX3_goes_159 : decode cX3_goes 159 = .ok (.iadd, 1) := by decide +kernel
theorem dX3_goes_160 : decode cX3_goes 160 = .ok (.putfield 54, 3) := by decide +kernel
theorem dX3_goes_163 : decode cX3_goes 163 = .ok (.aload_n 0, 1) := by decide +kernel
theorem dX3_goes_164 : decode cX3_goes 164 = .ok (.getfield 54, 3) := by decide +kernel
theorem dX3_goes_167 : decode cX3_goes 167 = .ok (.iconst 1, 1) := by decide +kernel
theorem dX3_goes_168 : decode cX3_goes 168 = .ok (.isub, 1) := by decide +kernel
theorem dX3_goes_169 : decode cX3_goes 169 = .ok (.ireturn, 1) := by decide +kernel
theorem dX3_goes_170 : decode cX3_goes 170 = .ok (.aload_n 0, 1) := by decide +kernel
theorem dX3_goes_171 : decode cX3_goes 171 = .ok (.iload 5, 2) := by decide +kernel
theorem dX3_goes_173 : decode cX3_goes 173 = .ok (.invokevirtual 77, 3) := by decide +kernel
theorem dX3_goes_176 : decode cX3_goes 176 = .ok (.aload_n 0, 1) := by decide +kernel
theorem dX3_goes_177 : decode cX3_goes 177 = .ok (.dup, 1) := by decide +kernel
theorem dX3_goes_178 : decode cX3_goes 178 = .ok (.getfield 81, 3) := by decide +kernel
theorem dX3_goes_181 : decode cX3_goes 181 = .ok (.iconst 1, 1) := by decide +kernel
theorem dX3_goes_182 : decode cX3_goes 182 = .ok (.iadd, 1) := by decide +kernel
theorem dX3_goes_183 : decode cX3_goes 183 = .ok (.putfield 81, 3) := by decide +kernel
theorem dX3_goes_186 : decode cX3_goes 186 = .ok (.iload 4, 2) := by decide +kernel
theorem dX3_goes_188 : decode cX3_goes 188 = .ok (.ireturn, 1) := by decide +kernel
theorem dX3_removed_0 : decode cX3_removed 0 = .ok (.aload_n 0, 1) := by decide +kernel
theorem dX3_removed_1 : decode cX3_removed 1 = .ok (.dup, 1) := by decide +kernel
theorem dX3_removed_2 : decode cX3_removed 2 = .ok (.getfield 84, 3) := by decide +kernel
theorem dX3_removed_5 : decode cX3_removed 5 = .ok (.iconst 1, 1) := by decide +kernel
theorem dX3_removed_6 : decode cX3_removed 6 = .ok (.isub, 1) := by decide +kernel
theorem dX3_removed_7 : decode cX3_removed 7 = .ok (.putfield 84, 3) := by decide +kernel
theorem dX3_removed_10 : decode cX3_removed 10 = .ok (.iload_n 1, 1) := by decide +kernel
theorem dX3_removed_11 : decode cX3_removed 11 = .ok (.istore_n 2, 1) := by decide +kernel
theorem dX3_removed_12 : decode cX3_removed 12 = .ok (.iload_n 2, 1) := by decide +kernel
theorem dX3_removed_13 : decode cX3_removed 13 = .ok (.aload_n 0, 1) := by decide +kernel
theorem dX3_removed_14 : decode cX3_removed 14 = .ok (.getfield 84, 3) := by decide +kernel
theorem dX3_removed_17 : decode cX3_removed 17 = .ok (.if_icmp .ge 76, 3) := by decide +kernel
theorem dX3_removed_20 : decode cX3_removed 20 = .ok (.aload_n 0, 1) := by decide +kernel
theorem dX3_removed_21 : decode cX3_removed 21 = .ok (.getfield 35, 3) := by decide +kernel
theorem dX3_removed_24 : decode cX3_removed 24 = .ok (.iload_n 2, 1) := by decide +kernel
theorem dX3_removed_25 : decode cX3_removed 25 = .ok (.aload_n 0, 1) := by decide +kernel
theorem dX3_removed_26 : decode cX3_removed 26 = .ok (.getfield 35, 3) := by decide +kernel
theorem dX3_removed_29 : decode cX3_removed 29 = .ok (.iload_n 2, 1) := by decide +kernel
theorem dX3_removed_30 : decode cX3_removed 30 = .ok (.iconst 1, 1) := by decide +kernel
theorem dX3_removed_31 : decode cX3_removed 31 = .ok (.iadd, 1) := by decide +kernel
theorem dX3_removed_32 : decode cX3_removed 32 = .ok (.iaload, 1) := by decide +kernel
theorem dX3_removed_33 : decode cX3_removed 33 = .ok (.iastore, 1) := by decide +kernel
theorem dX3_removed_34 : decode cX3_removed 34 = .ok (.aload_n 0, 1) := by decide +kernel
theorem dX3_removed_35 : decode cX3_removed 35 = .ok (.getfield 41, 3) := by decide +kernel
theorem dX3_removed_38 : decode cX3_removed 38 = .ok (.iload_n 2, 1) := by decide +kernel
theorem dX3_removed_39 : decode cX3_removed 39 = .ok (.aload_n 0, 1) := by decide +kernel
theorem dX3_removed_40 : decode cX3_removed 40 = .ok (.getfield 41, 3) := by decide +kernel
theorem dX3_removed_43 : decode cX3_removed 43 = .ok (.iload_n 2, 1) := by decide +kernel
theorem dX3_removed_44 : decode cX3_removed 44 = .ok (.iconst 1, 1) := by decide +kernel
theorem dX3_removed_45 : decode cX3_removed 45 = .ok (.iadd, 1) := by decide +kernel
theorem dX3_removed_46 : decode cX3_removed 46 = .ok (.iaload, 1) := by decide +kernel
theorem dX3_removed_47 : decode cX3_removed 47 = .ok (.iastore, 1) := by decide +kernel
theorem dX3_removed_48 : decode cX3_removed 48 = .ok (.iconst 0, 1) := by decide +kernel
theorem dX3_removed_49 : decode cX3_removed 49 = .ok (.istore_n 3, 1) := by decide +kernel
theorem dX3_removed_50 : decode cX3_removed 50 = .ok (.iload_n 3, 1) := by decide +kernel
theorem dX3_removed_51 : decode cX3_removed 51 = .ok (.bipush 6, 2) := by decide +kernel
theorem dX3_removed_53 : decode cX3_removed 53 = .ok (.if_icmp .ge 34, 3) := by decide +kernel
theorem dX3_removed_56 : decode cX3_removed 56 = .ok (.aload_n 0, 1) := by decide +kernel
theorem dX3_removed_57 : decode cX3_removed 57 = .ok (.getfield 38, 3) := by decide +kernel
theorem dX3_removed_60 : decode cX3_removed 60 = .ok (.bipush 6, 2) := by decide +kernel
theorem dX3_removed_62 : decode cX3_removed 62 = .ok (.iload_n 2, 1) := by decide +kernel
theorem dX3_removed_63 : decode cX3_removed 63 = .ok (.imul, 1) := by decide +kernel
theorem dX3_removed_64 : decode cX3_removed 64 = .ok (.iload_n 3, 1) := by decide +kernel
theorem dX3_removed_65 : decode cX3_removed 65 = .ok (.iadd, 1) := by decide +kernel
theorem dX3_removed_66 : decode cX3_removed 66 = .ok (.aload_n 0, 1) := by decide +kernel
theorem dX3_removed_67 : decode cX3_removed 67 = .ok (.getfield 38, 3) := by decide +kernel
theorem dX3_removed_70 : decode cX3_removed 70 = .ok (.bipush 6, 2) := by decide +kernel
theorem dX3_removed_72 : decode cX3_removed 72 = .ok (.iload_n 2, 1) := by decide +kernel
theorem dX3_removed_73 : decode cX3_removed 73 = .ok (.imul, 1) := by decide +kernel
theorem dX3_removed_74 : decode cX3_removed 74 = .ok (.bipush 6, 2) := by decide +kernel
theorem dX3_removed_76 : decode cX3_removed 76 = .ok (.iadd, 1) := by decide +kernel
theorem dX3_removed_77 : decode cX3_removed 77 = .ok (.iload_n 3, 1) := by decide +kernel
theorem dX3_removed_78 : decode cX3_removed 78 = .ok (.iadd, 1) := by decide +kernel
theorem dX3_removed_79 : decode cX3_removed 79 = .ok (.iaload, 1) := by decide +kernel
theorem dX3_removed_80 : decode cX3_removed 80 = .ok (.iastore, 1) := by decide +kernel
theorem dX3_removed_81 : decode cX3_removed 81 = .ok (.iinc 3 1, 3) := by decide +kernel
theorem dX3_removed_84 : decode cX3_removed 84 = .ok (.goto (-34), 3) := by decide +kernel
theorem dX3_removed_87 : decode cX3_removed 87 = .ok (.iinc 2 1, 3) := by decide +kernel
theorem dX3_removed_90 : decode cX3_removed 90 = .ok (.goto (-78), 3) := by decide +kernel
theorem dX3_removed_93 : decode cX3_removed 93 = .ok (.return_, 1) := by decide +kernel
theorem dX3_tried_0 : decode cX3_tried 0 = .ok (.iconst 0, 1) := by decide +kernel
theorem dX3_tried_1 : decode cX3_tried 1 = .ok (.istore_n 1, 1) := by decide +kernel
theorem dX3_tried_2 : decode cX3_tried 2 = .ok (.iconst 0, 1) := by decide +kernel
theorem dX3_tried_3 : decode cX3_tried 3 = .ok (.istore_n 2, 1) := by decide +kernel
theorem dX3_tried_4 : decode cX3_tried 4 = .ok (.iload_n 2, 1) := by decide +kernel
theorem dX3_tried_5 : decode cX3_tried 5 = .ok (.aload_n 0, 1) := by decide +kernel
theorem dX3_tried_6 : decode cX3_tried 6 = .ok (.getfield 84, 3) := by decide +kernel
theorem dX3_tried_9 : decode cX3_tried 9 = .ok (.if_icmp .ge 86, 3) := by decide +kernel
theorem dX3_tried_12 : decode cX3_tried 12 = .ok (.aload_n 0, 1) := by decide +kernel
theorem dX3_tried_13 : decode cX3_tried 13 = .ok (.getfield 54, 3) := by decide +kernel
theorem dX3_tried_16 : decode cX3_tried 16 = .ok (.bipush 40, 2) := by decide +kernel
theorem dX3_tried_18 : decode cX3_tried 18 = .ok (.if_icmp .ge 77, 3) := by decide +kernel
theorem dX3_tried_21 : decode cX3_tried 21 = .ok (.aload_n 0, 1) := by decide +kernel
theorem dX3_tried_22 : decode cX3_tried 22 = .ok (.aload_n 0, 1) := by decide +kernel
theorem dX3_tried_23 : decode cX3_tried 23 = .ok (.getfield 41, 3) := by decide +kernel
theorem dX3_tried_26 : decode cX3_tried 26 = .ok (.iload_n 2, 1) := by decide +kernel
theorem dX3_tried_27 : decode cX3_tried 27 = .ok (.iaload, 1) := by decide +kernel
theorem dX3_tried_28 : decode cX3_tried 28 = .ok (.putfield 68, 3) := by decide +kernel
theorem dX3_tried_31 : decode cX3_tried 31 = .ok (.iconst 0, 1) := by decide +kernel
theorem dX3_tried_32 : decode cX3_tried 32 = .ok (.istore_n 3, 1) := by decide +kernel
theorem dX3_tried_33 : decode cX3_tried 33 = .ok (.iload_n 3, 1) := by decide +kernel
theorem dX3_tried_34 : decode cX3_tried 34 = .ok (.aload_n 0, 1) := by decide +kernel
theorem dX3_tried_35 : decode cX3_tried 35 = .ok (.getfield 68, 3) := by decide +kernel
theorem dX3_tried_38 : decode cX3_tried 38 = .ok (.if_icmp .ge 26, 3) := by decide +kernel
theorem dX3_tried_41 : decode cX3_tried 41 = .ok (.aload_n 0, 1) := by decide +kernel
theorem dX3_tried_42 : decode cX3_tried 42 = .ok (.getfield 44, 3) := by decide +kernel
theorem dX3_tried_45 : decode cX3_tried 45 = .ok (.iload_n 3, 1) := by decide +kernel
theorem dX3_tried_46 : decode cX3_tried 46 = .ok (.aload_n 0, 1) := by decide +kernel
theorem dX3_tried_47 : decode cX3_tried 47 = .ok (.getfield 38, 3) := by decide +kernel
theorem dX3_tried_50 : decode cX3_tried 50 = .ok (.bipush 6, 2) := by decide +kernel
theorem dX3_tried_52 : decode cX3_tried 52 = .ok (.iload_n 2, 1) := by decide +kernel
theorem dX3_tried_53 : decode cX3_tried 53 = .ok (.imul, 1) := by decide +kernel
theorem dX3_tried_54 : decode cX3_tried 54 = .ok (.iload_n 3, 1) := by decide +kernel
theorem dX3_tried_55 : decode cX3_tried 55 = .ok (.iadd, 1) := by decide +kernel
theorem dX3_tried_56 : decode cX3_tried 56 = .ok (.iaload, 1) := by decide +kernel
theorem dX3_tried_57 : decode cX3_tried 57 = .ok (.iastore, 1) := by decide +kernel
theorem dX3_tried_58 : decode cX3_tried 58 = .ok (.iinc 3 1, 3) := by decide +kernel
theorem dX3_tried_61 : decode cX3_tried 61 = .ok (.goto (-28), 3) := by decide +kernel
theorem dX3_tried_64 : decode cX3_tried 64 = .ok (.aload_n 0, 1) := by decide +kernel
theorem dX3_tried_65 : decode cX3_tried 65 = .ok (.aload_n 0, 1) := by decide +kernel
theorem dX3_tried_66 : decode cX3_tried 66 = .ok (.getfield 35, 3) := by decide +kernel
theorem dX3_tried_69 : decode cX3_tried 69 = .ok (.iload_n 2, 1) := by decide +kernel
theorem dX3_tried_70 : decode cX3_tried 70 = .ok (.iaload, 1) := by decide +kernel
theorem dX3_tried_71 : decode cX3_tried 71 = .ok (.iconst 2, 1) := by decide +kernel
theorem dX3_tried_72 : decode cX3_tried 72 = .ok (.invokevirtual 87, 3) := by decide +kernel
theorem dX3_tried_75 : decode cX3_tried 75 = .ok (.ifCond .lt 14, 3) := by decide +kernel
theorem dX3_tried_78 : decode cX3_tried 78 = .ok (.aload_n 0, 1) := by decide +kernel
theorem dX3_tried_79 : decode cX3_tried 79 = .ok (.iload_n 2, 1) := by decide +kernel
theorem dX3_tried_80 : decode cX3_tried 80 = .ok (.invokevirtual 90, 3) := by decide +kernel
theorem dX3_tried_83 : decode cX3_tried 83 = .ok (.iinc 1 1, 3) := by decide +kernel
theorem dX3_tried_86 : decode cX3_tried 86 = .ok (.goto (-82), 3) := by decide +kernel
theorem dX3_tried_89 : decode cX3_tried 89 = .ok (.iinc 2 1, 3) := by decide +kernel
theorem dX3_tried_92 : decode cX3_tried 92 = .ok (.goto (-88), 3) := by decide +kernel
theorem dX3_tried_95 : decode cX3_tried 95 = .ok (.iload_n 1, 1) := by decide +kernel
theorem dX3_tried_96 : decode cX3_tried 96 = .ok (.ireturn, 1) := by decide +kernel
theorem dX3_open_0 : decode cX3_open 0 = .ok (.aload_n 0, 1) := by decide +kernel
theorem dX3_open_1 : decode cX3_open 1 = .ok (.iconst 0, 1) := by decide +kernel
theorem dX3_open_2 : decode cX3_open 2 = .ok (.putfield 50, 3) := by decide +kernel
theorem dX3_open_5 : decode cX3_open 5 = .ok (.iload_n 1, 1) := by decide +kernel
theorem dX3_open_6 : decode cX3_open 6 = .ok (.iconst 0, 1) := by decide +kernel
theorem dX3_open_7 : decode cX3_open 7 = .ok (.bipush 9, 2) := by decide +kernel
theorem dX3_open_9 : decode cX3_open 9 = .ok (.invokestatic 93, 3) := by decide +kernel
theorem dX3_open_12 : decode cX3_open 12 = .ok (.ifCond .eq 13, 3) := by decide +kernel
theorem dX3_open_15 : decode cX3_open 15 = .ok (.iload_n 2, 1) := by decide +kernel
theorem dX3_open_16 : decode cX3_open 16 = .ok (.iconst 1, 1) := by decide +kernel
theorem dX3_open_17 : decode cX3_open 17 = .ok (.bipush 20, 2) := by decide +kernel
theorem dX3_open_19 : decode cX3_open 19 = .ok (.invokestatic 93, 3) := by decide +kernel
theorem dX3_open_22 : decode cX3_open 22 = .ok (.ifCond .ne 5, 3) := by decide +kernel
theorem dX3_open_25 : decode cX3_open 25 = .ok (.iconst (-1), 1) := by decide +kernel
theorem dX3_open_26 : decode cX3_open 26 = .ok (.ireturn, 1) := by decide +kernel
theorem dX3_open_27 : decode cX3_open 27 = .ok (.aload_n 0, 1) := by decide +kernel
theorem dX3_open_28 : decode cX3_open 28 = .ok (.getfield 7, 3) := by decide +kernel
theorem dX3_open_31 : decode cX3_open 31 = .ok (.iload_n 1, 1) := by decide +kernel
theorem dX3_open_32 : decode cX3_open 32 = .ok (.baload, 1) := by decide +kernel
theorem dX3_open_33 : decode cX3_open 33 = .ok (.ifCond .eq 6, 3) := by decide +kernel
theorem dX3_open_36 : decode cX3_open 36 = .ok (.bipush (-2), 2) := by decide +kernel
theorem dX3_open_38 : decode cX3_open 38 = .ok (.ireturn, 1) := by decide +kernel
theorem dX3_open_39 : decode cX3_open 39 = .ok (.aload_n 0, 1) := by decide +kernel
theorem dX3_open_40 : decode cX3_open 40 = .ok (.getfield 7, 3) := by decide +kernel
theorem dX3_open_43 : decode cX3_open 43 = .ok (.iload_n 1, 1) := by decide +kernel
theorem dX3_open_44 : decode cX3_open 44 = .ok (.iconst 1, 1) := by decide +kernel
theorem dX3_open_45 : decode cX3_open 45 = .ok (.bastore, 1) := by decide +kernel
theorem dX3_open_46 : decode cX3_open 46 = .ok (.aload_n 0, 1) := by decide +kernel
theorem dX3_open_47 : decode cX3_open 47 = .ok (.getfield 13, 3) := by decide +kernel
theorem dX3_open_50 : decode cX3_open 50 = .ok (.iload_n 1, 1) := by decide +kernel
theorem dX3_open_51 : decode cX3_open 51 = .ok (.iconst 0, 1) := by decide +kernel
theorem dX3_open_52 : decode cX3_open 52 = .ok (.bastore, 1) := by decide +kernel
theorem dX3_open_53 : decode cX3_open 53 = .ok (.aload_n 0, 1) := by decide +kernel
theorem dX3_open_54 : decode cX3_open 54 = .ok (.getfield 16, 3) := by decide +kernel
theorem dX3_open_57 : decode cX3_open 57 = .ok (.iload_n 1, 1) := by decide +kernel
theorem dX3_open_58 : decode cX3_open 58 = .ok (.iload_n 2, 1) := by decide +kernel
theorem dX3_open_59 : decode cX3_open 59 = .ok (.iastore, 1) := by decide +kernel
theorem dX3_open_60 : decode cX3_open 60 = .ok (.aload_n 0, 1) := by decide +kernel
theorem dX3_open_61 : decode cX3_open 61 = .ok (.getfield 20, 3) := by decide +kernel
theorem dX3_open_64 : decode cX3_open 64 = .ok (.iload_n 1, 1) := by decide +kernel
theorem dX3_open_65 : decode cX3_open 65 = .ok (.iconst 0, 1) := by decide +kernel
theorem dX3_open_66 : decode cX3_open 66 = .ok (.iastore, 1) := by decide +kernel
theorem dX3_open_67 : decode cX3_open 67 = .ok (.aload_n 0, 1) := by decide +kernel
theorem dX3_open_68 : decode cX3_open 68 = .ok (.getfield 23, 3) := by decide +kernel
theorem dX3_open_71 : decode cX3_open 71 = .ok (.iload_n 1, 1) := by decide +kernel
theorem dX3_open_72 : decode cX3_open 72 = .ok (.iconst 0, 1) := by decide +kernel
theorem dX3_open_73 : decode cX3_open 73 = .ok (.iastore, 1) := by decide +kernel
theorem dX3_open_74 : decode cX3_open 74 = .ok (.iconst 0, 1) := by decide +kernel
theorem dX3_open_75 : decode cX3_open 75 = .ok (.istore_n 3, 1) := by decide +kernel
theorem dX3_open_76 : decode cX3_open 76 = .ok (.iload_n 3, 1) := by decide +kernel
theorem dX3_open_77 : decode cX3_open 77 = .ok (.bipush 20, 2) := by decide +kernel
theorem dX3_open_79 : decode cX3_open 79 = .ok (.if_icmp .ge 22, 3) := by decide +kernel
theorem dX3_open_82 : decode cX3_open 82 = .ok (.aload_n 0, 1) := by decide +kernel
theorem dX3_open_83 : decode cX3_open 83 = .ok (.getfield 26, 3) := by decide +kernel
theorem dX3_open_86 : decode cX3_open 86 = .ok (.bipush 20, 2) := by decide +kernel
theorem dX3_open_88 : decode cX3_open 88 = .ok (.iload_n 1, 1) := by decide +kernel
theorem dX3_open_89 : decode cX3_open 89 = .ok (.imul, 1) := by decide +kernel
theorem dX3_open_90 : decode cX3_open 90 = .ok (.iload_n 3, 1) := by decide +kernel
theorem dX3_open_91 : decode cX3_open 91 = .ok (.iadd, 1) := by decide +kernel
theorem dX3_open_92 : decode cX3_open 92 = .ok (.bipush (-8), 2) := by decide +kernel
theorem dX3_open_94 : decode cX3_open 94 = .ok (.iastore, 1) := by decide +kernel
theorem dX3_open_95 : decode cX3_open 95 = .ok (.iinc 3 1, 3) := by decide +kernel
theorem dX3_open_98 : decode cX3_open 98 = .ok (.goto (-22), 3) := by decide +kernel
theorem dX3_open_101 : decode cX3_open 101 = .ok (.aload_n 0, 1) := by decide +kernel
theorem dX3_open_102 : decode cX3_open 102 = .ok (.invokevirtual 97, 3) := by decide +kernel
theorem dX3_open_105 : decode cX3_open 105 = .ok (.ireturn, 1) := by decide +kernel
theorem dX3_free_0 : decode cX3_free 0 = .ok (.iconst 0, 1) := by decide +kernel
theorem dX3_free_1 : decode cX3_free 1 = .ok (.istore_n 2, 1) := by decide +kernel
theorem dX3_free_2 : decode cX3_free 2 = .ok (.iconst 0, 1) := by decide +kernel
theorem dX3_free_3 : decode cX3_free 3 = .ok (.istore_n 3, 1) := by decide +kernel
theorem dX3_free_4 : decode cX3_free 4 = .ok (.iload_n 3, 1) := by decide +kernel
theorem dX3_free_5 : decode cX3_free 5 = .ok (.aload_n 0, 1) := by decide +kernel
theorem dX3_free_6 : decode cX3_free 6 = .ok (.getfield 16, 3) := by decide +kernel
theorem dX3_free_9 : decode cX3_free 9 = .ok (.iload_n 1, 1) := by decide +kernel
theorem dX3_free_10 : decode cX3_free 10 = .ok (.iaload, 1) := by decide +kernel
theorem dX3_free_11 : decode cX3_free 11 = .ok (.if_icmp .ge 33, 3) := by decide +kernel
theorem dX3_free_14 : decode cX3_free 14 = .ok (.iload_n 2, 1) := by decide +kernel
theorem dX3_free_15 : decode cX3_free 15 = .ok (.aload_n 0, 1) := by decide +kernel
theorem dX3_free_16 : decode cX3_free 16 = .ok (.getfield 26, 3) := by decide +kernel
theorem dX3_free_19 : decode cX3_free 19 = .ok (.bipush 20, 2) := by decide +kernel
theorem dX3_free_21 : decode cX3_free 21 = .ok (.iload_n 1, 1) := by decide +kernel
theorem dX3_free_22 : decode cX3_free 22 = .ok (.imul, 1) := by decide +kernel
theorem dX3_free_23 : decode cX3_free 23 = .ok (.iload_n 3, 1) := by decide +kernel
theorem dX3_free_24 : decode cX3_free 24 = .ok (.iadd, 1) := by decide +kernel
theorem dX3_free_25 : decode cX3_free 25 = .ok (.iaload, 1) := by decide +kernel
theorem dX3_free_26 : decode cX3_free 26 = .ok (.bipush (-8), 2) := by decide +kernel
theorem dX3_free_28 : decode cX3_free 28 = .ok (.if_icmp .ne 7, 3) := by decide +kernel
theorem dX3_free_31 : decode cX3_free 31 = .ok (.iconst 1, 1) := by decide +kernel
theorem dX3_free_32 : decode cX3_free 32 = .ok (.goto 4, 3) := by decide +kernel
theorem dX3_free_35 : decode cX3_free 35 = .ok (.iconst 0, 1) := by decide +kernel
theorem dX3_free_36 : decode cX3_free 36 = .ok (.iadd, 1) := by decide +kernel
theorem dX3_free_37 : decode cX3_free 37 = .ok (.istore_n 2, 1) := by decide +kernel
theorem dX3_free_38 : decode cX3_free 38 = .ok (.iinc 3 1, 3) := by decide +kernel
theorem dX3_free_41 : decode cX3_free 41 = .ok (.goto (-37), 3) := by decide +kernel
theorem dX3_free_44 : decode cX3_free 44 = .ok (.iload_n 2, 1) := by decide +kernel
theorem dX3_free_45 : decode cX3_free 45 = .ok (.ireturn, 1) := by decide +kernel
theorem dX3_shut_0 : decode cX3_shut 0 = .ok (.aload_n 0, 1) := by decide +kernel
theorem dX3_shut_1 : decode cX3_shut 1 = .ok (.iconst 0, 1) := by decide +kernel
theorem dX3_shut_2 : decode cX3_shut 2 = .ok (.putfield 50, 3) := by decide +kernel
theorem dX3_shut_5 : decode cX3_shut 5 = .ok (.iload_n 1, 1) := by decide +kernel
theorem dX3_shut_6 : decode cX3_shut 6 = .ok (.iconst 0, 1) := by decide +kernel
theorem dX3_shut_7 : decode cX3_shut 7 = .ok (.bipush 9, 2) := by decide +kernel
theorem dX3_shut_9 : decode cX3_shut 9 = .ok (.invokestatic 93, 3) := by decide +kernel
theorem dX3_shut_12 : decode cX3_shut 12 = .ok (.ifCond .ne 5, 3) := by decide +kernel
theorem dX3_shut_15 : decode cX3_shut 15 = .ok (.iconst (-1), 1) := by decide +kernel
theorem dX3_shut_16 : decode cX3_shut 16 = .ok (.ireturn, 1) := by decide +kernel
theorem dX3_shut_17 : decode cX3_shut 17 = .ok (.aload_n 0, 1) := by decide +kernel
theorem dX3_shut_18 : decode cX3_shut 18 = .ok (.getfield 7, 3) := by decide +kernel
theorem dX3_shut_21 : decode cX3_shut 21 = .ok (.iload_n 1, 1) := by decide +kernel
theorem dX3_shut_22 : decode cX3_shut 22 = .ok (.baload, 1) := by decide +kernel
theorem dX3_shut_23 : decode cX3_shut 23 = .ok (.ifCond .eq 17, 3) := by decide +kernel
theorem dX3_shut_26 : decode cX3_shut 26 = .ok (.aload_n 0, 1) := by decide +kernel
theorem dX3_shut_27 : decode cX3_shut 27 = .ok (.iload_n 1, 1) := by decide +kernel
theorem dX3_shut_28 : decode cX3_shut 28 = .ok (.invokevirtual 101, 3) := by decide +kernel
theorem dX3_shut_31 : decode cX3_shut 31 = .ok (.aload_n 0, 1) := by decide +kernel
theorem dX3_shut_32 : decode cX3_shut 32 = .ok (.getfield 16, 3) := by decide +kernel
theorem dX3_shut_35 : decode cX3_shut 35 = .ok (.iload_n 1, 1) := by decide +kernel
theorem dX3_shut_36 : decode cX3_shut 36 = .ok (.iaload, 1) := by decide +kernel
theorem dX3_shut_37 : decode cX3_shut 37 = .ok (.if_icmp .ge 6, 3) := by decide +kernel
theorem dX3_shut_40 : decode cX3_shut 40 = .ok (.bipush (-2), 2) := by decide +kernel
theorem dX3_shut_42 : decode cX3_shut 42 = .ok (.ireturn, 1) := by decide +kernel
theorem dX3_shut_43 : decode cX3_shut 43 = .ok (.aload_n 0, 1) := by decide +kernel
theorem dX3_shut_44 : decode cX3_shut 44 = .ok (.getfield 7, 3) := by decide +kernel
theorem dX3_shut_47 : decode cX3_shut 47 = .ok (.iload_n 1, 1) := by decide +kernel
theorem dX3_shut_48 : decode cX3_shut 48 = .ok (.iconst 0, 1) := by decide +kernel
theorem dX3_shut_49 : decode cX3_shut 49 = .ok (.bastore, 1) := by decide +kernel
theorem dX3_shut_50 : decode cX3_shut 50 = .ok (.aload_n 0, 1) := by decide +kernel
theorem dX3_shut_51 : decode cX3_shut 51 = .ok (.getfield 16, 3) := by decide +kernel
theorem dX3_shut_54 : decode cX3_shut 54 = .ok (.iload_n 1, 1) := by decide +kernel
theorem dX3_shut_55 : decode cX3_shut 55 = .ok (.iaload, 1) := by decide +kernel
theorem dX3_shut_56 : decode cX3_shut 56 = .ok (.ireturn, 1) := by decide +kernel
theorem dX3_strict_0 : decode cX3_strict 0 = .ok (.aload_n 0, 1) := by decide +kernel
theorem dX3_strict_1 : decode cX3_strict 1 = .ok (.iconst 0, 1) := by decide +kernel
theorem dX3_strict_2 : decode cX3_strict 2 = .ok (.putfield 50, 3) := by decide +kernel
theorem dX3_strict_5 : decode cX3_strict 5 = .ok (.iload_n 1, 1) := by decide +kernel
theorem dX3_strict_6 : decode cX3_strict 6 = .ok (.iconst 0, 1) := by decide +kernel
theorem dX3_strict_7 : decode cX3_strict 7 = .ok (.bipush 9, 2) := by decide +kernel
theorem dX3_strict_9 : decode cX3_strict 9 = .ok (.invokestatic 93, 3) := by decide +kernel
theorem dX3_strict_12 : decode cX3_strict 12 = .ok (.ifCond .ne 5, 3) := by decide +kernel
theorem dX3_strict_15 : decode cX3_strict 15 = .ok (.iconst (-1), 1) := by decide +kernel
theorem dX3_strict_16 : decode cX3_strict 16 = .ok (.ireturn, 1) := by decide +kernel
theorem dX3_strict_17 : decode cX3_strict 17 = .ok (.aload_n 0, 1) := by decide +kernel
theorem dX3_strict_18 : decode cX3_strict 18 = .ok (.getfield 7, 3) := by decide +kernel
theorem dX3_strict_21 : decode cX3_strict 21 = .ok (.iload_n 1, 1) := by decide +kernel
theorem dX3_strict_22 : decode cX3_strict 22 = .ok (.baload, 1) := by decide +kernel
theorem dX3_strict_23 : decode cX3_strict 23 = .ok (.ifCond .ne 6, 3) := by decide +kernel
theorem dX3_strict_26 : decode cX3_strict 26 = .ok (.bipush (-2), 2) := by decide +kernel
theorem dX3_strict_28 : decode cX3_strict 28 = .ok (.ireturn, 1) := by decide +kernel
theorem dX3_strict_29 : decode cX3_strict 29 = .ok (.aload_n 0, 1) := by decide +kernel
theorem dX3_strict_30 : decode cX3_strict 30 = .ok (.getfield 13, 3) := by decide +kernel
theorem dX3_strict_33 : decode cX3_strict 33 = .ok (.iload_n 1, 1) := by decide +kernel
theorem dX3_strict_34 : decode cX3_strict 34 = .ok (.baload, 1) := by decide +kernel
theorem dX3_strict_35 : decode cX3_strict 35 = .ok (.ifCond .eq 7, 3) := by decide +kernel
theorem dX3_strict_38 : decode cX3_strict 38 = .ok (.iconst 1, 1) := by decide +kernel
theorem dX3_strict_39 : decode cX3_strict 39 = .ok (.goto 4, 3) := by decide +kernel
theorem dX3_strict_42 : decode cX3_strict 42 = .ok (.iconst 0, 1) := by decide +kernel
theorem dX3_strict_43 : decode cX3_strict 43 = .ok (.istore_n 3, 1) := by decide +kernel
theorem dX3_strict_44 : decode cX3_strict 44 = .ok (.aload_n 0, 1) := by decide +kernel
theorem dX3_strict_45 : decode cX3_strict 45 = .ok (.getfield 13, 3) := by decide +kernel
theorem dX3_strict_48 : decode cX3_strict 48 = .ok (.iload_n 1, 1) := by decide +kernel
theorem dX3_strict_49 : decode cX3_strict 49 = .ok (.iload_n 2, 1) := by decide +kernel
theorem dX3_strict_50 : decode cX3_strict 50 = .ok (.bastore, 1) := by decide +kernel
theorem dX3_strict_51 : decode cX3_strict 51 = .ok (.iload_n 3, 1) := by decide +kernel
theorem dX3_strict_52 : decode cX3_strict 52 = .ok (.ireturn, 1) := by decide +kernel
theorem dX3_list_0 : decode cX3_list 0 = .ok (.aload_n 0, 1) := by decide +kernel
theorem dX3_list_1 : decode cX3_list 1 = .ok (.iconst 0, 1) := by decide +kernel
theorem dX3_list_2 : decode cX3_list 2 = .ok (.putfield 50, 3) := by decide +kernel
theorem dX3_list_5 : decode cX3_list 5 = .ok (.iload_n 1, 1) := by decide +kernel
theorem dX3_list_6 : decode cX3_list 6 = .ok (.iconst 0, 1) := by decide +kernel
theorem dX3_list_7 : decode cX3_list 7 = .ok (.bipush 11, 2) := by decide +kernel
theorem dX3_list_9 : decode cX3_list 9 = .ok (.invokestatic 93, 3) := by decide +kernel
theorem dX3_list_12 : decode cX3_list 12 = .ok (.ifCond .ne 5, 3) := by decide +kernel
theorem dX3_list_15 : decode cX3_list 15 = .ok (.iconst (-1), 1) := by decide +kernel
theorem dX3_list_16 : decode cX3_list 16 = .ok (.ireturn, 1) := by decide +kernel
theorem dX3_list_17 : decode cX3_list 17 = .ok (.aload_n 0, 1) := by decide +kernel
theorem dX3_list_18 : decode cX3_list 18 = .ok (.getfield 105, 3) := by decide +kernel
theorem dX3_list_21 : decode cX3_list 21 = .ok (.bipush 6, 2) := by decide +kernel
theorem dX3_list_23 : decode cX3_list 23 = .ok (.if_icmp .ne 6, 3) := by decide +kernel
theorem dX3_list_26 : decode cX3_list 26 = .ok (.bipush (-3), 2) := by decide +kernel
theorem dX3_list_28 : decode cX3_list 28 = .ok (.ireturn, 1) := by decide +kernel
theorem dX3_list_29 : decode cX3_list 29 = .ok (.aload_n 0, 1) := by decide +kernel
theorem dX3_list_30 : decode cX3_list 30 = .ok (.getfield 29, 3) := by decide +kernel
theorem dX3_list_33 : decode cX3_list 33 = .ok (.aload_n 0, 1) := by decide +kernel
theorem dX3_list_34 : decode cX3_list 34 = .ok (.getfield 105, 3) := by decide +kernel
theorem dX3_list_37 : decode cX3_list 37 = .ok (.iload_n 1, 1) := by decide +kernel
theorem dX3_list_38 : decode cX3_list 38 = .ok (.iastore, 1) := by decide +kernel
theorem dX3_list_39 : decode cX3_list 39 = .ok (.aload_n 0, 1) := by decide +kernel
theorem dX3_list_40 : decode cX3_list 40 = .ok (.dup, 1) := by decide +kernel
theorem dX3_list_41 : decode cX3_list 41 = .ok (.getfield 105, 3) := by decide +kernel
theorem dX3_list_44 : decode cX3_list 44 = .ok (.iconst 1, 1) := by decide +kernel
theorem dX3_list_45 : decode cX3_list 45 = .ok (.iadd, 1) := by decide +kernel
theorem dX3_list_46 : decode cX3_list 46 = .ok (.putfield 105, 3) := by decide +kernel
theorem dX3_list_49 : decode cX3_list 49 = .ok (.aload_n 0, 1) := by decide +kernel
theorem dX3_list_50 : decode cX3_list 50 = .ok (.getfield 105, 3) := by decide +kernel
theorem dX3_list_53 : decode cX3_list 53 = .ok (.ireturn, 1) := by decide +kernel
theorem dX3_book_0 : decode cX3_book 0 = .ok (.aload_n 0, 1) := by decide +kernel
theorem dX3_book_1 : decode cX3_book 1 = .ok (.iconst 0, 1) := by decide +kernel
theorem dX3_book_2 : decode cX3_book 2 = .ok (.putfield 50, 3) := by decide +kernel
theorem dX3_book_5 : decode cX3_book 5 = .ok (.iload_n 1, 1) := by decide +kernel
theorem dX3_book_6 : decode cX3_book 6 = .ok (.iconst 1, 1) := by decide +kernel
theorem dX3_book_7 : decode cX3_book 7 = .ok (.bipush 60, 2) := by decide +kernel
theorem dX3_book_9 : decode cX3_book 9 = .ok (.invokestatic 93, 3) := by decide +kernel
theorem dX3_book_12 : decode cX3_book 12 = .ok (.ifCond .eq 12, 3) := by decide +kernel
theorem dX3_book_15 : decode cX3_book 15 = .ok (.iload_n 2, 1) := by decide +kernel
theorem dX3_book_16 : decode cX3_book 16 = .ok (.iconst 0, 1) := by decide +kernel
theorem dX3_book_17 : decode cX3_book 17 = .ok (.iconst 2, 1) := by decide +kernel
theorem dX3_book_18 : decode cX3_book 18 = .ok (.invokestatic 93, 3) := by decide +kernel
theorem dX3_book_21 : decode cX3_book 21 = .ok (.ifCond .ne 5, 3) := by decide +kernel
theorem dX3_book_24 : decode cX3_book 24 = .ok (.iconst (-1), 1) := by decide +kernel
theorem dX3_book_25 : decode cX3_book 25 = .ok (.ireturn, 1) := by decide +kernel
theorem dX3_book_26 : decode cX3_book 26 = .ok (.aload_n 0, 1) := by decide +kernel
theorem dX3_book_27 : decode cX3_book 27 = .ok (.getfield 105, 3) := by decide +kernel
theorem dX3_book_30 : decode cX3_book 30 = .ok (.ifCond .ne 6, 3) := by decide +kernel
theorem dX3_book_33 : decode cX3_book 33 = .ok (.bipush (-2), 2) := by decide +kernel
theorem dX3_book_35 : decode cX3_book 35 = .ok (.ireturn, 1) := by decide +kernel
theorem dX3_book_36 : decode cX3_book 36 = .ok (.aload_n 0, 1) := by decide +kernel
theorem dX3_book_37 : decode cX3_book 37 = .ok (.getfield 54, 3) := by decide +kernel
theorem dX3_book_40 : decode cX3_book 40 = .ok (.bipush 40, 2) := by decide +kernel
theorem dX3_book_42 : decode cX3_book 42 = .ok (.if_icmp .ne 6, 3) := by decide +kernel
theorem dX3_book_45 : decode cX3_book 45 = .ok (.bipush (-3), 2) := by decide +kernel
theorem dX3_book_47 : decode cX3_book 47 = .ok (.ireturn, 1) := by decide +kernel
theorem dX3_book_48 : decode cX3_book 48 = .ok (.aload_n 0, 1) := by decide +kernel
theorem dX3_book_49 : decode cX3_book 49 = .ok (.aload_n 0, 1) := by decide +kernel
theorem dX3_book_50 : decode cX3_book 50 = .ok (.getfield 105, 3) := by decide +kernel
theorem dX3_book_53 : decode cX3_book 53 = .ok (.putfield 68, 3) := by decide +kernel
theorem dX3_book_56 : decode cX3_book 56 = .ok (.iconst 0, 1) := by decide +kernel
theorem dX3_book_57 : decode cX3_book 57 = .ok (.istore_n 3, 1) := by decide +kernel
theorem dX3_book_58 : decode cX3_book 58 = .ok (.iload_n 3, 1) := by decide +kernel
theorem dX3_book_59 : decode cX3_book 59 = .ok (.aload_n 0, 1) := by decide +kernel
theorem dX3_book_60 : decode cX3_book 60 = .ok (.getfield 105, 3) := by decide +kernel
theorem dX3_book_63 : decode cX3_book 63 = .ok (.if_icmp .ge 21, 3) := by decide +kernel
theorem dX3_book_66 : decode cX3_book 66 = .ok (.aload_n 0, 1) := by decide +kernel
theorem dX3_book_67 : decode cX3_book 67 = .ok (.getfield 44, 3) := by decide +kernel
theorem dX3_book_70 : decode cX3_book 70 = .ok (.iload_n 3, 1) := by decide +kernel
theorem dX3_book_71 : decode cX3_book 71 = .ok (.aload_n 0, 1) := by decide +kernel
theorem dX3_book_72 : decode cX3_book 72 = .ok (.getfield 29, 3) := by decide +kernel
theorem dX3_book_75 : decode cX3_book 75 = .ok (.iload_n 3, 1) := by decide +kernel
theorem dX3_book_76 : decode cX3_book 76 = .ok (.iaload, 1) := by decide +kernel
theorem dX3_book_77 : decode cX3_book 77 = .ok (.iastore, 1) := by decide +kernel
theorem dX3_book_78 : decode cX3_book 78 = .ok (.iinc 3 1, 3) := by decide +kernel
theorem dX3_book_81 : decode cX3_book 81 = .ok (.goto (-23), 3) := by decide +kernel
theorem dX3_book_84 : decode cX3_book 84 = .ok (.aload_n 0, 1) := by decide +kernel
theorem dX3_book_85 : decode cX3_book 85 = .ok (.iconst 0, 1) := by decide +kernel
theorem dX3_book_86 : decode cX3_book 86 = .ok (.putfield 105, 3) := by decide +kernel
theorem dX3_book_89 : decode cX3_book 89 = .ok (.aload_n 0, 1) := by decide +kernel
theorem dX3_book_90 : decode cX3_book 90 = .ok (.iload_n 1, 1) := by decide +kernel
theorem dX3_book_91 : decode cX3_book 91 = .ok (.iload_n 2, 1) := by decide +kernel
theorem dX3_book_92 : decode cX3_book 92 = .ok (.invokevirtual 87, 3) := by decide +kernel
theorem dX3_book_95 : decode cX3_book 95 = .ok (.istore_n 3, 1) := by decide +kernel
theorem dX3_book_96 : decode cX3_book 96 = .ok (.iload_n 3, 1) := by decide +kernel
theorem dX3_book_97 : decode cX3_book 97 = .ok (.bipush (-4), 2) := by decide +kernel
theorem dX3_book_99 : decode cX3_book 99 = .ok (.if_icmp .ne 17, 3) := by decide +kernel
theorem dX3_book_102 : decode cX3_book 102 = .ok (.iload_n 2, 1) := by decide +kernel
theorem dX3_book_103 : decode cX3_book 103 = .ok (.iconst 2, 1) := by decide +kernel
theorem dX3_book_104 : decode cX3_book 104 = .ok (.if_icmp .ne 12, 3) := by decide +kernel
theorem dX3_book_107 : decode cX3_book 107 = .ok (.aload_n 0, 1) := by decide +kernel
theorem dX3_book_108 : decode cX3_book 108 = .ok (.getfield 84, 3) := by decide +kernel
theorem dX3_book_111 : decode cX3_book 111 = .ok (.bipush 8, 2) := by decide +kernel
theorem dX3_book_113 : decode cX3_book 113 = .ok (.if_icmp .ne 5, 3) := by decide +kernel
theorem dX3_book_116 : decode cX3_book 116 = .ok (.iload_n 3, 1) := by decide +kernel
theorem dX3_book_117 : decode cX3_book 117 = .ok (.ireturn, 1) := by decide +kernel
theorem dX3_book_118 : decode cX3_book 118 = .ok (.aload_n 0, 1) := by decide +kernel
theorem dX3_book_119 : decode cX3_book 119 = .ok (.getfield 35, 3) := by decide +kernel
theorem dX3_book_122 : decode cX3_book 122 = .ok (.aload_n 0, 1) := by decide +kernel
theorem dX3_book_123 : decode cX3_book 123 = .ok (.getfield 84, 3) := by decide +kernel
theorem dX3_book_126 : decode cX3_book 126 = .ok (.iload_n 1, 1) := by decide +kernel
theorem dX3_book_127 : decode cX3_book 127 = .ok (.iastore, 1) := by decide +kernel
theorem dX3_book_128 : decode cX3_book 128 = .ok (.aload_n 0, 1) := by decide +kernel
theorem dX3_book_129 : decode cX3_book 129 = .ok (.getfield 41, 3) := by decide +kernel
theorem dX3_book_132 : decode cX3_book 132 = .ok (.aload_n 0, 1) := by decide +kernel
theorem dX3_book_133 : decode cX3_book 133 = .ok (.getfield 84, 3) := by decide +kernel
theorem dX3_book_136 : decode cX3_book 136 = .ok (.aload_n 0, 1) := by decide +kernel
theorem dX3_book_137 : decode cX3_book 137 = .ok (.getfield 68, 3) := by decide +kernel
theorem dX3_book_140 : decode cX3_book 140 = .ok (.iastore, 1) := by decide +kernel
theorem dX3_book_141 : decode cX3_book 141 = .ok (.iconst 0, 1) := by decide +kernel
theorem dX3_book_142 : decode cX3_book 142 = .ok (.istore 4, 2) := by decide +kernel
theorem dX3_book_144 : decode cX3_book 144 = .ok (.iload 4, 2) := by decide +kernel
theorem dX3_book_146 : decode cX3_book 146 = .ok (.aload_n 0, 1) := by decide +kernel
theorem dX3_book_147 : decode cX3_book 147 = .ok (.getfield 68, 3) := by decide +kernel
theorem dX3_book_150 : decode cX3_book 150 = .ok (.if_icmp .ge 31, 3) := by decide +kernel
theorem dX3_book_153 : decode cX3_book 153 = .ok (.aload_n 0, 1) := by decide +kernel
theorem dX3_book_154 : decode cX3_book 154 = .ok (.getfield 38, 3) := by decide +kernel
theorem dX3_book_157 : decode cX3_book 157 = .ok (.bipush 6, 2) := by decide +kernel
theorem dX3_book_159 : decode cX3_book 159 = .ok (.aload_n 0, 1) := by decide +kernel
theorem dX3_book_160 : decode cX3_book 160 = .ok (.getfield 84, 3) := by decide +kernel
theorem dX3_book_163 : decode cX3_book 163 = .ok (.imul, 1) := by decide +kernel
theorem dX3_book_164 : decode cX3_book 164 = .ok (.iload 4, 2) := by decide +kernel
theorem dX3_book_166 : decode cX3_book 166 = .ok (.iadd, 1) := by decide +kernel
theorem dX3_book_167 : decode cX3_book 167 = .ok (.aload_n 0, 1) := by decide +kernel
theorem dX3_book_168 : decode cX3_book 168 = .ok (.getfield 44, 3) := by decide +kernel
theorem dX3_book_171 : decode cX3_book 171 = .ok (.iload 4, 2) := by decide +kernel
theorem dX3_book_173 : decode cX3_book 173 = .ok (.iaload, 1) := by decide +kernel
theorem dX3_book_174 : decode cX3_book 174 = .ok (.iastore, 1) := by decide +kernel
theorem dX3_book_175 : decode cX3_book 175 = .ok (.iinc 4 1, 3) := by decide +kernel
theorem dX3_book_178 : decode cX3_book 178 = .ok (.goto (-34), 3) := by decide +kernel
theorem dX3_book_181 : decode cX3_book 181 = .ok (.aload_n 0, 1) := by decide +kernel
theorem dX3_book_182 : decode cX3_book 182 = .ok (.dup, 1) := by decide +kernel
theorem dX3_book_183 : decode cX3_book 183 = .ok (.getfield 84, 3) := by decide +kernel
theorem dX3_book_186 : decode cX3_book 186 = .ok (.iconst 1, 1) := by decide +kernel
theorem dX3_book_187 : decode cX3_book 187 = .ok (.iadd, 1) := by decide +kernel
theorem dX3_book_188 : decode cX3_book 188 = .ok (.putfield 84, 3) := by decide +kernel
theorem dX3_book_191 : decode cX3_book 191 = .ok (.bipush (-7), 2) := by decide +kernel
theorem dX3_book_193 : decode cX3_book 193 = .ok (.ireturn, 1) := by decide +kernel
theorem dX3_cancel_0 : decode cX3_cancel 0 = .ok (.aload_n 0, 1) := by decide +kernel
theorem dX3_cancel_1 : decode cX3_cancel 1 = .ok (.iconst 0, 1) := by decide +kernel
theorem dX3_cancel_2 : decode cX3_cancel 2 = .ok (.putfield 50, 3) := by decide +kernel
theorem dX3_cancel_5 : decode cX3_cancel 5 = .ok (.iload_n 1, 1) := by decide +kernel
theorem dX3_cancel_6 : decode cX3_cancel 6 = .ok (.iconst 0, 1) := by decide +kernel
theorem dX3_cancel_7 : decode cX3_cancel 7 = .ok (.aload_n 0, 1) := by decide +kernel
theorem dX3_cancel_8 : decode cX3_cancel 8 = .ok (.getfield 54, 3) := by decide +kernel
theorem dX3_cancel_11 : decode cX3_cancel 11 = .ok (.iconst 1, 1) := by decide +kernel
theorem dX3_cancel_12 : decode cX3_cancel 12 = .ok (.isub, 1) := by decide +kernel
theorem dX3_cancel_13 : decode cX3_cancel 13 = .ok (.invokestatic 93, 3) := by decide +kernel
theorem dX3_cancel_16 : decode cX3_cancel 16 = .ok (.ifCond .ne 5, 3) := by decide +kernel
theorem dX3_cancel_19 : decode cX3_cancel 19 = .ok (.iconst (-1), 1) := by decide +kernel
theorem dX3_cancel_20 : decode cX3_cancel 20 = .ok (.ireturn, 1) := by decide +kernel
theorem dX3_cancel_21 : decode cX3_cancel 21 = .ok (.aload_n 0, 1) := by decide +kernel
theorem dX3_cancel_22 : decode cX3_cancel 22 = .ok (.getfield 32, 3) := by decide +kernel
theorem dX3_cancel_25 : decode cX3_cancel 25 = .ok (.iload_n 1, 1) := by decide +kernel
theorem dX3_cancel_26 : decode cX3_cancel 26 = .ok (.baload, 1) := by decide +kernel
theorem dX3_cancel_27 : decode cX3_cancel 27 = .ok (.ifCond .eq 6, 3) := by decide +kernel
theorem dX3_cancel_30 : decode cX3_cancel 30 = .ok (.bipush (-2), 2) := by decide +kernel
theorem dX3_cancel_32 : decode cX3_cancel 32 = .ok (.ireturn, 1) := by decide +kernel
theorem dX3_cancel_33 : decode cX3_cancel 33 = .ok (.aload_n 0, 1) := by decide +kernel
theorem dX3_cancel_34 : decode cX3_cancel 34 = .ok (.getfield 32, 3) := by decide +kernel
theorem dX3_cancel_37 : decode cX3_cancel 37 = .ok (.iload_n 1, 1) := by decide +kernel
theorem dX3_cancel_38 : decode cX3_cancel 38 = .ok (.iconst 1, 1) := by decide +kernel
theorem dX3_cancel_39 : decode cX3_cancel 39 = .ok (.bastore, 1) := by decide +kernel
theorem dX3_cancel_40 : decode cX3_cancel 40 = .ok (.iconst 0, 1) := by decide +kernel
theorem dX3_cancel_41 : decode cX3_cancel 41 = .ok (.istore_n 2, 1) := by decide +kernel
theorem dX3_cancel_42 : decode cX3_cancel 42 = .ok (.iload_n 2, 1) := by decide +kernel
theorem dX3_cancel_43 : decode cX3_cancel 43 = .ok (.sipush 200, 3) := by decide +kernel
theorem dX3_cancel_46 : decode cX3_cancel 46 = .ok (.if_icmp .ge 36, 3) := by decide +kernel
theorem dX3_cancel_49 : decode cX3_cancel 49 = .ok (.aload_n 0, 1) := by decide +kernel
theorem dX3_cancel_50 : decode cX3_cancel 50 = .ok (.getfield 26, 3) := by decide +kernel
theorem dX3_cancel_53 : decode cX3_cancel 53 = .ok (.iload_n 2, 1) := by decide +kernel
theorem dX3_cancel_54 : decode cX3_cancel 54 = .ok (.aload_n 0, 1) := by decide +kernel
theorem dX3_cancel_55 : decode cX3_cancel 55 = .ok (.getfield 26, 3) := by decide +kernel
theorem dX3_cancel_58 : decode cX3_cancel 58 = .ok (.iload_n 2, 1) := by decide +kernel
theorem dX3_cancel_59 : decode cX3_cancel 59 = .ok (.iaload, 1) := by decide +kernel
theorem dX3_cancel_60 : decode cX3_cancel 60 = .ok (.iload_n 1, 1) := by decide +kernel
theorem dX3_cancel_61 : decode cX3_cancel 61 = .ok (.if_icmp .ne 8, 3) := by decide +kernel
theorem dX3_cancel_64 : decode cX3_cancel 64 = .ok (.bipush (-8), 2) := by decide +kernel
theorem dX3_cancel_66 : decode cX3_cancel 66 = .ok (.goto 9, 3) := by decide +kernel
theorem dX3_cancel_69 : decode cX3_cancel 69 = .ok (.aload_n 0, 1) := by decide +kernel
theorem dX3_cancel_70 : decode cX3_cancel 70 = .ok (.getfield 26, 3) := by decide +kernel
theorem dX3_cancel_73 : decode cX3_cancel 73 = .ok (.iload_n 2, 1) := by decide +kernel
theorem dX3_cancel_74 : decode cX3_cancel 74 = .ok (.iaload, 1) := by decide +kernel
theorem dX3_cancel_75 : decode cX3_cancel 75 = .ok (.iastore, 1) := by decide +kernel
theorem dX3_cancel_76 : decode cX3_cancel 76 = .ok (.iinc 2 1, 3) := by decide +kernel
theorem dX3_cancel_79 : decode cX3_cancel 79 = .ok (.goto (-37), 3) := by decide +kernel
theorem dX3_cancel_82 : decode cX3_cancel 82 = .ok (.aload_n 0, 1) := by decide +kernel
theorem dX3_cancel_83 : decode cX3_cancel 83 = .ok (.invokevirtual 97, 3) := by decide +kernel
theorem dX3_cancel_86 : decode cX3_cancel 86 = .ok (.ireturn, 1) := by decide +kernel
theorem dX3_leave_0 : decode cX3_leave 0 = .ok (.aload_n 0, 1) := by decide +kernel
theorem dX3_leave_1 : decode cX3_leave 1 = .ok (.iconst 0, 1) := by decide +kernel
theorem dX3_leave_2 : decode cX3_leave 2 = .ok (.putfield 50, 3) := by decide +kernel
theorem dX3_leave_5 : decode cX3_leave 5 = .ok (.iload_n 1, 1) := by decide +kernel
theorem dX3_leave_6 : decode cX3_leave 6 = .ok (.iconst 0, 1) := by decide +kernel
theorem dX3_leave_7 : decode cX3_leave 7 = .ok (.aload_n 0, 1) := by decide +kernel
theorem dX3_leave_8 : decode cX3_leave 8 = .ok (.getfield 84, 3) := by decide +kernel
theorem dX3_leave_11 : decode cX3_leave 11 = .ok (.iconst 1, 1) := by decide +kernel
theorem dX3_leave_12 : decode cX3_leave 12 = .ok (.isub, 1) := by decide +kernel
theorem dX3_leave_13 : decode cX3_leave 13 = .ok (.invokestatic 93, 3) := by decide +kernel
theorem dX3_leave_16 : decode cX3_leave 16 = .ok (.ifCond .ne 5, 3) := by decide +kernel
theorem dX3_leave_19 : decode cX3_leave 19 = .ok (.iconst (-1), 1) := by decide +kernel
theorem dX3_leave_20 : decode cX3_leave 20 = .ok (.ireturn, 1) := by decide +kernel
theorem dX3_leave_21 : decode cX3_leave 21 = .ok (.aload_n 0, 1) := by decide +kernel
theorem dX3_leave_22 : decode cX3_leave 22 = .ok (.getfield 35, 3) := by decide +kernel
theorem dX3_leave_25 : decode cX3_leave 25 = .ok (.iload_n 1, 1) := by decide +kernel
theorem dX3_leave_26 : decode cX3_leave 26 = .ok (.iaload, 1) := by decide +kernel
theorem dX3_leave_27 : decode cX3_leave 27 = .ok (.istore_n 2, 1) := by decide +kernel
theorem dX3_leave_28 : decode cX3_leave 28 = .ok (.aload_n 0, 1) := by decide +kernel
theorem dX3_leave_29 : decode cX3_leave 29 = .ok (.iload_n 1, 1) := by decide +kernel
theorem dX3_leave_30 : decode cX3_leave 30 = .ok (.invokevirtual 90, 3) := by decide +kernel
theorem dX3_leave_33 : decode cX3_leave 33 = .ok (.iload_n 2, 1) := by decide +kernel
theorem dX3_leave_34 : decode cX3_leave 34 = .ok (.ireturn, 1) := by decide +kernel
theorem dX3_seat_0 : decode cX3_seat 0 = .ok (.aload_n 0, 1) := by decide +kernel
theorem dX3_seat_1 : decode cX3_seat 1 = .ok (.iconst 0, 1) := by decide +kernel
theorem dX3_seat_2 : decode cX3_seat 2 = .ok (.putfield 50, 3) := by decide +kernel
theorem dX3_seat_5 : decode cX3_seat 5 = .ok (.iload_n 1, 1) := by decide +kernel
theorem dX3_seat_6 : decode cX3_seat 6 = .ok (.iconst 0, 1) := by decide +kernel
theorem dX3_seat_7 : decode cX3_seat 7 = .ok (.bipush 9, 2) := by decide +kernel
theorem dX3_seat_9 : decode cX3_seat 9 = .ok (.invokestatic 93, 3) := by decide +kernel
theorem dX3_seat_12 : decode cX3_seat 12 = .ok (.ifCond .eq 7, 3) := by decide +kernel
theorem dX3_seat_15 : decode cX3_seat 15 = .ok (.iload_n 2, 1) := by decide +kernel
theorem dX3_seat_16 : decode cX3_seat 16 = .ok (.ifCond .ge 5, 3) := by decide +kernel
theorem dX3_seat_19 : decode cX3_seat 19 = .ok (.iconst (-1), 1) := by decide +kernel
theorem dX3_seat_20 : decode cX3_seat 20 = .ok (.ireturn, 1) := by decide +kernel
theorem dX3_seat_21 : decode cX3_seat 21 = .ok (.aload_n 0, 1) := by decide +kernel
theorem dX3_seat_22 : decode cX3_seat 22 = .ok (.getfield 7, 3) := by decide +kernel
theorem dX3_seat_25 : decode cX3_seat 25 = .ok (.iload_n 1, 1) := by decide +kernel
theorem dX3_seat_26 : decode cX3_seat 26 = .ok (.baload, 1) := by decide +kernel
theorem dX3_seat_27 : decode cX3_seat 27 = .ok (.ifCond .eq 13, 3) := by decide +kernel
theorem dX3_seat_30 : decode cX3_seat 30 = .ok (.iload_n 2, 1) := by decide +kernel
theorem dX3_seat_31 : decode cX3_seat 31 = .ok (.aload_n 0, 1) := by decide +kernel
theorem dX3_seat_32 : decode cX3_seat 32 = .ok (.getfield 16, 3) := by decide +kernel
theorem dX3_seat_35 : decode cX3_seat 35 = .ok (.iload_n 1, 1) := by decide +kernel
theorem dX3_seat_36 : decode cX3_seat 36 = .ok (.iaload, 1) := by decide +kernel
theorem dX3_seat_37 : decode cX3_seat 37 = .ok (.if_icmp .lt 6, 3) := by decide +kernel
theorem dX3_seat_40 : decode cX3_seat 40 = .ok (.bipush (-2), 2) := by decide +kernel
theorem dX3_seat_42 : decode cX3_seat 42 = .ok (.ireturn, 1) := by decide +kernel
theorem dX3_seat_43 : decode cX3_seat 43 = .ok (.aload_n 0, 1) := by decide +kernel
theorem dX3_seat_44 : decode cX3_seat 44 = .ok (.getfield 26, 3) := by decide +kernel
theorem dX3_seat_47 : decode cX3_seat 47 = .ok (.bipush 20, 2) := by decide +kernel
theorem dX3_seat_49 : decode cX3_seat 49 = .ok (.iload_n 1, 1) := by decide +kernel
theorem dX3_seat_50 : decode cX3_seat 50 = .ok (.imul, 1) := by decide +kernel
theorem dX3_seat_51 : decode cX3_seat 51 = .ok (.iload_n 2, 1) := by decide +kernel
theorem dX3_seat_52 : decode cX3_seat 52 = .ok (.iadd, 1) := by decide +kernel
theorem dX3_seat_53 : decode cX3_seat 53 = .ok (.iaload, 1) := by decide +kernel
theorem dX3_seat_54 : decode cX3_seat 54 = .ok (.bipush (-8), 2) := by decide +kernel
theorem dX3_seat_56 : decode cX3_seat 56 = .ok (.if_icmp .ne 8, 3) := by decide +kernel
theorem dX3_seat_59 : decode cX3_seat 59 = .ok (.bipush (-8), 2) := by decide +kernel
theorem dX3_seat_61 : decode cX3_seat 61 = .ok (.goto 14, 3) := by decide +kernel
theorem dX3_seat_64 : decode cX3_seat 64 = .ok (.aload_n 0, 1) := by decide +kernel
theorem dX3_seat_65 : decode cX3_seat 65 = .ok (.getfield 26, 3) := by decide +kernel
theorem dX3_seat_68 : decode cX3_seat 68 = .ok (.bipush 20, 2) := by decide +kernel
theorem dX3_seat_70 : decode cX3_seat 70 = .ok (.iload_n 1, 1) := by decide +kernel
theorem dX3_seat_71 : decode cX3_seat 71 = .ok (.imul, 1) := by decide +kernel
theorem dX3_seat_72 : decode cX3_seat 72 = .ok (.iload_n 2, 1) := by decide +kernel
theorem dX3_seat_73 : decode cX3_seat 73 = .ok (.iadd, 1) := by decide +kernel
theorem dX3_seat_74 : decode cX3_seat 74 = .ok (.iaload, 1) := by decide +kernel
theorem dX3_seat_75 : decode cX3_seat 75 = .ok (.ireturn, 1) := by decide +kernel
theorem dX3_has_0 : decode cX3_has 0 = .ok (.aload_n 0, 1) := by decide +kernel
theorem dX3_has_1 : decode cX3_has 1 = .ok (.iconst 0, 1) := by decide +kernel
theorem dX3_has_2 : decode cX3_has 2 = .ok (.putfield 50, 3) := by decide +kernel
theorem dX3_has_5 : decode cX3_has 5 = .ok (.iload_n 1, 1) := by decide +kernel
theorem dX3_has_6 : decode cX3_has 6 = .ok (.iconst 0, 1) := by decide +kernel
theorem dX3_has_7 : decode cX3_has 7 = .ok (.aload_n 0, 1) := by decide +kernel
theorem dX3_has_8 : decode cX3_has 8 = .ok (.getfield 54, 3) := by decide +kernel
theorem dX3_has_11 : decode cX3_has 11 = .ok (.iconst 1, 1) := by decide +kernel
theorem dX3_has_12 : decode cX3_has 12 = .ok (.isub, 1) := by decide +kernel
theorem dX3_has_13 : decode cX3_has 13 = .ok (.invokestatic 93, 3) := by decide +kernel
theorem dX3_has_16 : decode cX3_has 16 = .ok (.ifCond .eq 13, 3) := by decide +kernel
theorem dX3_has_19 : decode cX3_has 19 = .ok (.iload_n 2, 1) := by decide +kernel
theorem dX3_has_20 : decode cX3_has 20 = .ok (.iconst 0, 1) := by decide +kernel
theorem dX3_has_21 : decode cX3_has 21 = .ok (.bipush 9, 2) := by decide +kernel
theorem dX3_has_23 : decode cX3_has 23 = .ok (.invokestatic 93, 3) := by decide +kernel
theorem dX3_has_26 : decode cX3_has 26 = .ok (.ifCond .ne 5, 3) := by decide +kernel
theorem dX3_has_29 : decode cX3_has 29 = .ok (.iconst (-1), 1) := by decide +kernel
theorem dX3_has_30 : decode cX3_has 30 = .ok (.ireturn, 1) := by decide +kernel
theorem dX3_has_31 : decode cX3_has 31 = .ok (.iconst 0, 1) := by decide +kernel
theorem dX3_has_32 : decode cX3_has 32 = .ok (.istore_n 3, 1) := by decide +kernel
theorem dX3_has_33 : decode cX3_has 33 = .ok (.iconst 0, 1) := by decide +kernel
theorem dX3_has_34 : decode cX3_has 34 = .ok (.istore 4, 2) := by decide +kernel
theorem dX3_has_36 : decode cX3_has 36 = .ok (.aload_n 0, 1) := by decide +kernel
theorem dX3_has_37 : decode cX3_has 37 = .ok (.getfield 7, 3) := by decide +kernel
theorem dX3_has_40 : decode cX3_has 40 = .ok (.iload_n 2, 1) := by decide +kernel
theorem dX3_has_41 : decode cX3_has 41 = .ok (.baload, 1) := by decide +kernel
theorem dX3_has_42 : decode cX3_has 42 = .ok (.ifCond .eq 44, 3) := by decide +kernel
theorem dX3_has_45 : decode cX3_has 45 = .ok (.iload 4, 2) := by decide +kernel
theorem dX3_has_47 : decode cX3_has 47 = .ok (.aload_n 0, 1) := by decide +kernel
theorem dX3_has_48 : decode cX3_has 48 = .ok (.getfield 16, 3) := by decide +kernel
theorem dX3_has_51 : decode cX3_has 51 = .ok (.iload_n 2, 1) := by decide +kernel
theorem dX3_has_52 : decode cX3_has 52 = .ok (.iaload, 1) := by decide +kernel
theorem dX3_has_53 : decode cX3_has 53 = .ok (.if_icmp .ge 33, 3) := by decide +kernel
theorem dX3_has_56 : decode cX3_has 56 = .ok (.iload_n 3, 1) := by decide +kernel
theorem dX3_has_57 : decode cX3_has 57 = .ok (.aload_n 0, 1) := by decide +kernel
theorem dX3_has_58 : decode cX3_has 58 = .ok (.getfield 26, 3) := by decide +kernel
theorem dX3_has_61 : decode cX3_has 61 = .ok (.bipush 20, 2) := by decide +kernel
theorem dX3_has_63 : decode cX3_has 63 = .ok (.iload_n 2, 1) := by decide +kernel
theorem dX3_has_64 : decode cX3_has 64 = .ok (.imul, 1) := by decide +kernel
theorem dX3_has_65 : decode cX3_has 65 = .ok (.iload 4, 2) := by decide +kernel
theorem dX3_has_67 : decode cX3_has 67 = .ok (.iadd, 1) := by decide +kernel
theorem dX3_has_68 : decode cX3_has 68 = .ok (.iaload, 1) := by decide +kernel
theorem dX3_has_69 : decode cX3_has 69 = .ok (.iload_n 1, 1) := by decide +kernel
theorem dX3_has_70 : decode cX3_has 70 = .ok (.if_icmp .ne 7, 3) := by decide +kernel
theorem dX3_has_73 : decode cX3_has 73 = .ok (.iconst 1, 1) := by decide +kernel
theorem dX3_has_74 : decode cX3_has 74 = .ok (.goto 4, 3) := by decide +kernel
theorem dX3_has_77 : decode cX3_has 77 = .ok (.iconst 0, 1) := by decide +kernel
theorem dX3_has_78 : decode cX3_has 78 = .ok (.iadd, 1) := by decide +kernel
theorem dX3_has_79 : decode cX3_has 79 = .ok (.istore_n 3, 1) := by decide +kernel
theorem dX3_has_80 : decode cX3_has 80 = .ok (.iinc 4 1, 3) := by decide +kernel
theorem dX3_has_83 : decode cX3_has 83 = .ok (.goto (-47), 3) := by decide +kernel
theorem dX3_has_86 : decode cX3_has 86 = .ok (.iload_n 3, 1) := by decide +kernel
theorem dX3_has_87 : decode cX3_has 87 = .ok (.ireturn, 1) := by decide +kernel
theorem dX3_about_0 : decode cX3_about 0 = .ok (.aload_n 0, 1) := by decide +kernel
theorem dX3_about_1 : decode cX3_about 1 = .ok (.iconst 0, 1) := by decide +kernel
theorem dX3_about_2 : decode cX3_about 2 = .ok (.putfield 50, 3) := by decide +kernel
theorem dX3_about_5 : decode cX3_about 5 = .ok (.iload_n 1, 1) := by decide +kernel
theorem dX3_about_6 : decode cX3_about 6 = .ok (.iconst 0, 1) := by decide +kernel
theorem dX3_about_7 : decode cX3_about 7 = .ok (.bipush 9, 2) := by decide +kernel
theorem dX3_about_9 : decode cX3_about 9 = .ok (.invokestatic 93, 3) := by decide +kernel
theorem dX3_about_12 : decode cX3_about 12 = .ok (.ifCond .eq 12, 3) := by decide +kernel
theorem dX3_about_15 : decode cX3_about 15 = .ok (.iload_n 2, 1) := by decide +kernel
theorem dX3_about_16 : decode cX3_about 16 = .ok (.iconst 0, 1) := by decide +kernel
theorem dX3_about_17 : decode cX3_about 17 = .ok (.iconst 3, 1) := by decide +kernel
theorem dX3_about_18 : decode cX3_about 18 = .ok (.invokestatic 93, 3) := by decide +kernel
theorem dX3_about_21 : decode cX3_about 21 = .ok (.ifCond .ne 5, 3) := by decide +kernel
theorem dX3_about_24 : decode cX3_about 24 = .ok (.iconst (-1), 1) := by decide +kernel
theorem dX3_about_25 : decode cX3_about 25 = .ok (.ireturn, 1) := by decide +kernel
theorem dX3_about_26 : decode cX3_about 26 = .ok (.aload_n 0, 1) := by decide +kernel
theorem dX3_about_27 : decode cX3_about 27 = .ok (.getfield 7, 3) := by decide +kernel
theorem dX3_about_30 : decode cX3_about 30 = .ok (.iload_n 1, 1) := by decide +kernel
theorem dX3_about_31 : decode cX3_about 31 = .ok (.baload, 1) := by decide +kernel
theorem dX3_about_32 : decode cX3_about 32 = .ok (.ifCond .ne 6, 3) := by decide +kernel
theorem dX3_about_35 : decode cX3_about 35 = .ok (.bipush (-2), 2) := by decide +kernel
theorem dX3_about_37 : decode cX3_about 37 = .ok (.ireturn, 1) := by decide +kernel
theorem dX3_about_38 : decode cX3_about 38 = .ok (.iload_n 2, 1) := by decide +kernel
theorem dX3_about_39 : decode cX3_about 39 = .ok (.ifCond .ne 11, 3) := by decide +kernel
theorem dX3_about_42 : decode cX3_about 42 = .ok (.aload_n 0, 1) := by decide +kernel
theorem dX3_about_43 : decode cX3_about 43 = .ok (.iload_n 1, 1) := by decide +kernel
theorem dX3_about_44 : decode cX3_about 44 = .ok (.invokevirtual 101, 3) := by decide +kernel
theorem dX3_about_47 : decode cX3_about 47 = .ok (.goto 37, 3) := by decide +kernel
theorem dX3_about_50 : decode cX3_about 50 = .ok (.iload_n 2, 1) := by decide +kernel
theorem dX3_about_51 : decode cX3_about 51 = .ok (.iconst 1, 1) := by decide +kernel
theorem dX3_about_52 : decode cX3_about 52 = .ok (.if_icmp .ne 12, 3) := by decide +kernel
theorem dX3_about_55 : decode cX3_about 55 = .ok (.aload_n 0, 1) := by decide +kernel
theorem dX3_about_56 : decode cX3_about 56 = .ok (.getfield 20, 3) := by decide +kernel
theorem dX3_about_59 : decode cX3_about 59 = .ok (.iload_n 1, 1) := by decide +kernel
theorem dX3_about_60 : decode cX3_about 60 = .ok (.iaload, 1) := by decide +kernel
theorem dX3_about_61 : decode cX3_about 61 = .ok (.goto 23, 3) := by decide +kernel
theorem dX3_about_64 : decode cX3_about 64 = .ok (.iload_n 2, 1) := by decide +kernel
theorem dX3_about_65 : decode cX3_about 65 = .ok (.iconst 2, 1) := by decide +kernel
theorem dX3_about_66 : decode cX3_about 66 = .ok (.if_icmp .ne 12, 3) := by decide +kernel
theorem dX3_about_69 : decode cX3_about 69 = .ok (.aload_n 0, 1) := by decide +kernel
theorem dX3_about_70 : decode cX3_about 70 = .ok (.getfield 23, 3) := by decide +kernel
theorem dX3_about_73 : decode cX3_about 73 = .ok (.iload_n 1, 1) := by decide +kernel
theorem dX3_about_74 : decode cX3_about 74 = .ok (.iaload, 1) := by decide +kernel
theorem dX3_about_75 : decode cX3_about 75 = .ok (.goto 9, 3) := by decide +kernel
theorem dX3_about_78 : decode cX3_about 78 = .ok (.aload_n 0, 1) := by decide +kernel
theorem dX3_about_79 : decode cX3_about 79 = .ok (.getfield 16, 3) := by decide +kernel
theorem dX3_about_82 : decode cX3_about 82 = .ok (.iload_n 1, 1) := by decide +kernel
theorem dX3_about_83 : decode cX3_about 83 = .ok (.iaload, 1) := by decide +kernel
theorem dX3_about_84 : decode cX3_about 84 = .ok (.ireturn, 1) := by decide +kernel
theorem dX3_told_0 : decode cX3_told 0 = .ok (.aload_n 0, 1) := by decide +kernel
theorem dX3_told_1 : decode cX3_told 1 = .ok (.iconst 0, 1) := by decide +kernel
theorem dX3_told_2 : decode cX3_told 2 = .ok (.putfield 50, 3) := by decide +kernel
theorem dX3_told_5 : decode cX3_told 5 = .ok (.iconst 0, 1) := by decide +kernel
theorem dX3_told_6 : decode cX3_told 6 = .ok (.istore_n 2, 1) := by decide +kernel
theorem dX3_told_7 : decode cX3_told 7 = .ok (.iconst 0, 1) := by decide +kernel
theorem dX3_told_8 : decode cX3_told 8 = .ok (.istore_n 3, 1) := by decide +kernel
theorem dX3_told_9 : decode cX3_told 9 = .ok (.iload_n 3, 1) := by decide +kernel
theorem dX3_told_10 : decode cX3_told 10 = .ok (.bipush 10, 2) := by decide +kernel
theorem dX3_told_12 : decode cX3_told 12 = .ok (.if_icmp .ge 26, 3) := by decide +kernel
theorem dX3_told_15 : decode cX3_told 15 = .ok (.iload_n 2, 1) := by decide +kernel
theorem dX3_told_16 : decode cX3_told 16 = .ok (.aload_n 0, 1) := by decide +kernel
theorem dX3_told_17 : decode cX3_told 17 = .ok (.getfield 7, 3) := by decide +kernel
theorem dX3_told_20 : decode cX3_told 20 = .ok (.iload_n 3, 1) := by decide +kernel
theorem dX3_told_21 : decode cX3_told 21 = .ok (.baload, 1) := by decide +kernel
theorem dX3_told_22 : decode cX3_told 22 = .ok (.ifCond .eq 7, 3) := by decide +kernel
theorem dX3_told_25 : decode cX3_told 25 = .ok (.iconst 1, 1) := by decide +kernel
theorem dX3_told_26 : decode cX3_told 26 = .ok (.goto 4, 3) := by decide +kernel
theorem dX3_told_29 : decode cX3_told 29 = .ok (.iconst 0, 1) := by decide +kernel
theorem dX3_told_30 : decode cX3_told 30 = .ok (.iadd, 1) := by decide +kernel
theorem dX3_told_31 : decode cX3_told 31 = .ok (.istore_n 2, 1) := by decide +kernel
theorem dX3_told_32 : decode cX3_told 32 = .ok (.iinc 3 1, 3) := by decide +kernel
theorem dX3_told_35 : decode cX3_told 35 = .ok (.goto (-26), 3) := by decide +kernel
theorem dX3_told_38 : decode cX3_told 38 = .ok (.iload_n 1, 1) := by decide +kernel
theorem dX3_told_39 : decode cX3_told 39 = .ok (.tableswitch 64 0 5 #[37, 42, 47, 52, 57, 62], 37) := by decide +kernel
theorem dX3_told_76 : decode cX3_told 76 = .ok (.aload_n 0, 1) := by decide +kernel
theorem dX3_told_77 : decode cX3_told 77 = .ok (.getfield 54, 3) := by decide +kernel
theorem dX3_told_80 : decode cX3_told 80 = .ok (.ireturn, 1) := by decide +kernel
theorem dX3_told_81 : decode cX3_told 81 = .ok (.aload_n 0, 1) := by decide +kernel
theorem dX3_told_82 : decode cX3_told 82 = .ok (.getfield 84, 3) := by decide +kernel
theorem dX3_told_85 : decode cX3_told 85 = .ok (.ireturn, 1) := by decide +kernel
theorem dX3_told_86 : decode cX3_told 86 = .ok (.aload_n 0, 1) := by decide +kernel
theorem dX3_told_87 : decode cX3_told 87 = .ok (.getfield 74, 3) := by decide +kernel
theorem dX3_told_90 : decode cX3_told 90 = .ok (.ireturn, 1) := by decide +kernel
theorem dX3_told_91 : decode cX3_told 91 = .ok (.aload_n 0, 1) := by decide +kernel
theorem dX3_told_92 : decode cX3_told 92 = .ok (.getfield 81, 3) := by decide +kernel
theorem dX3_told_95 : decode cX3_told 95 = .ok (.ireturn, 1) := by decide +kernel
theorem dX3_told_96 : decode cX3_told 96 = .ok (.aload_n 0, 1) := by decide +kernel
theorem dX3_told_97 : decode cX3_told 97 = .ok (.getfield 105, 3) := by decide +kernel
theorem dX3_told_100 : decode cX3_told 100 = .ok (.ireturn, 1) := by decide +kernel
theorem dX3_told_101 : decode cX3_told 101 = .ok (.iload_n 2, 1) := by decide +kernel
theorem dX3_told_102 : decode cX3_told 102 = .ok (.ireturn, 1) := by decide +kernel
theorem dX3_told_103 : decode cX3_told 103 = .ok (.iconst (-1), 1) := by decide +kernel
theorem dX3_told_104 : decode cX3_told 104 = .ok (.ireturn, 1) := by decide +kernel
theorem dX3_waiting_0 : decode cX3_waiting 0 = .ok (.aload_n 0, 1) := by decide +kernel
theorem dX3_waiting_1 : decode cX3_waiting 1 = .ok (.iconst 0, 1) := by decide +kernel
theorem dX3_waiting_2 : decode cX3_waiting 2 = .ok (.putfield 50, 3) := by decide +kernel
theorem dX3_waiting_5 : decode cX3_waiting 5 = .ok (.iload_n 1, 1) := by decide +kernel
theorem dX3_waiting_6 : decode cX3_waiting 6 = .ok (.iconst 0, 1) := by decide +kernel
theorem dX3_waiting_7 : decode cX3_waiting 7 = .ok (.aload_n 0, 1) := by decide +kernel
theorem dX3_waiting_8 : decode cX3_waiting 8 = .ok (.getfield 84, 3) := by decide +kernel
theorem dX3_waiting_11 : decode cX3_waiting 11 = .ok (.iconst 1, 1) := by decide +kernel
theorem dX3_waiting_12 : decode cX3_waiting 12 = .ok (.isub, 1) := by decide +kernel
theorem dX3_waiting_13 : decode cX3_waiting 13 = .ok (.invokestatic 93, 3) := by decide +kernel
theorem dX3_waiting_16 : decode cX3_waiting 16 = .ok (.ifCond .eq 12, 3) := by decide +kernel
theorem dX3_waiting_19 : decode cX3_waiting 19 = .ok (.aload_n 0, 1) := by decide +kernel
theorem dX3_waiting_20 : decode cX3_waiting 20 = .ok (.getfield 35, 3) := by decide +kernel
theorem dX3_waiting_23 : decode cX3_waiting 23 = .ok (.iload_n 1, 1) := by decide +kernel
theorem dX3_waiting_24 : decode cX3_waiting 24 = .ok (.iaload, 1) := by decide +kernel
theorem dX3_waiting_25 : decode cX3_waiting 25 = .ok (.goto 5, 3) := by decide +kernel
theorem dX3_waiting_28 : decode cX3_waiting 28 = .ok (.bipush (-8), 2) := by decide +kernel
theorem dX3_waiting_30 : decode cX3_waiting 30 = .ok (.ireturn, 1) := by decide +kernel
theorem dJ6_bitCount_0f7a4_0 : decode cJ6_bitCount_0f7a4 0 = .ok (.iload_n 0, 1) := by decide +kernel
theorem dJ6_bitCount_0f7a4_1 : decode cJ6_bitCount_0f7a4 1 = .ok (.iload_n 0, 1) := by decide +kernel
theorem dJ6_bitCount_0f7a4_2 : decode cJ6_bitCount_0f7a4 2 = .ok (.iconst 1, 1) := by decide +kernel
theorem dJ6_bitCount_0f7a4_3 : decode cJ6_bitCount_0f7a4 3 = .ok (.iushr, 1) := by decide +kernel
theorem dJ6_bitCount_0f7a4_4 : decode cJ6_bitCount_0f7a4 4 = .ok (.ldc_w 265, 3) := by decide +kernel
theorem dJ6_bitCount_0f7a4_7 : decode cJ6_bitCount_0f7a4 7 = .ok (.iand, 1) := by decide +kernel
theorem dJ6_bitCount_0f7a4_8 : decode cJ6_bitCount_0f7a4 8 = .ok (.isub, 1) := by decide +kernel
theorem dJ6_bitCount_0f7a4_9 : decode cJ6_bitCount_0f7a4 9 = .ok (.istore_n 0, 1) := by decide +kernel
theorem dJ6_bitCount_0f7a4_10 : decode cJ6_bitCount_0f7a4 10 = .ok (.iload_n 0, 1) := by decide +kernel
theorem dJ6_bitCount_0f7a4_11 : decode cJ6_bitCount_0f7a4 11 = .ok (.ldc_w 266, 3) := by decide +kernel
theorem dJ6_bitCount_0f7a4_14 : decode cJ6_bitCount_0f7a4 14 = .ok (.iand, 1) := by decide +kernel
theorem dJ6_bitCount_0f7a4_15 : decode cJ6_bitCount_0f7a4 15 = .ok (.iload_n 0, 1) := by decide +kernel
theorem dJ6_bitCount_0f7a4_16 : decode cJ6_bitCount_0f7a4 16 = .ok (.iconst 2, 1) := by decide +kernel
theorem dJ6_bitCount_0f7a4_17 : decode cJ6_bitCount_0f7a4 17 = .ok (.iushr, 1) := by decide +kernel
theorem dJ6_bitCount_0f7a4_18 : decode cJ6_bitCount_0f7a4 18 = .ok (.ldc_w 266, 3) := by decide +kernel
theorem dJ6_bitCount_0f7a4_21 : decode cJ6_bitCount_0f7a4 21 = .ok (.iand, 1) := by decide +kernel
theorem dJ6_bitCount_0f7a4_22 : decode cJ6_bitCount_0f7a4 22 = .ok (.iadd, 1) := by decide +kernel
theorem dJ6_bitCount_0f7a4_23 : decode cJ6_bitCount_0f7a4 23 = .ok (.istore_n 0, 1) := by decide +kernel
theorem dJ6_bitCount_0f7a4_24 : decode cJ6_bitCount_0f7a4 24 = .ok (.iload_n 0, 1) := by decide +kernel
theorem dJ6_bitCount_0f7a4_25 : decode cJ6_bitCount_0f7a4 25 = .ok (.iload_n 0, 1) := by decide +kernel
theorem dJ6_bitCount_0f7a4_26 : decode cJ6_bitCount_0f7a4 26 = .ok (.iconst 4, 1) := by decide +kernel
theorem dJ6_bitCount_0f7a4_27 : decode cJ6_bitCount_0f7a4 27 = .ok (.iushr, 1) := by decide +kernel
theorem dJ6_bitCount_0f7a4_28 : decode cJ6_bitCount_0f7a4 28 = .ok (.iadd, 1) := by decide +kernel
theorem dJ6_bitCount_0f7a4_29 : decode cJ6_bitCount_0f7a4 29 = .ok (.ldc_w 267, 3) := by decide +kernel
theorem dJ6_bitCount_0f7a4_32 : decode cJ6_bitCount_0f7a4 32 = .ok (.iand, 1) := by decide +kernel
theorem dJ6_bitCount_0f7a4_33 : decode cJ6_bitCount_0f7a4 33 = .ok (.istore_n 0, 1) := by decide +kernel
theorem dJ6_bitCount_0f7a4_34 : decode cJ6_bitCount_0f7a4 34 = .ok (.iload_n 0, 1) := by decide +kernel
theorem dJ6_bitCount_0f7a4_35 : decode cJ6_bitCount_0f7a4 35 = .ok (.iload_n 0, 1) := by decide +kernel
theorem dJ6_bitCount_0f7a4_36 : decode cJ6_bitCount_0f7a4 36 = .ok (.bipush 8, 2) := by decide +kernel
theorem dJ6_bitCount_0f7a4_38 : decode cJ6_bitCount_0f7a4 38 = .ok (.iushr, 1) := by decide +kernel
theorem dJ6_bitCount_0f7a4_39 : decode cJ6_bitCount_0f7a4 39 = .ok (.iadd, 1) := by decide +kernel
theorem dJ6_bitCount_0f7a4_40 : decode cJ6_bitCount_0f7a4 40 = .ok (.istore_n 0, 1) := by decide +kernel
theorem dJ6_bitCount_0f7a4_41 : decode cJ6_bitCount_0f7a4 41 = .ok (.iload_n 0, 1) := by decide +kernel
theorem dJ6_bitCount_0f7a4_42 : decode cJ6_bitCount_0f7a4 42 = .ok (.iload_n 0, 1) := by decide +kernel
theorem dJ6_bitCount_0f7a4_43 : decode cJ6_bitCount_0f7a4 43 = .ok (.bipush 16, 2) := by decide +kernel
theorem dJ6_bitCount_0f7a4_45 : decode cJ6_bitCount_0f7a4 45 = .ok (.iushr, 1) := by decide +kernel
theorem dJ6_bitCount_0f7a4_46 : decode cJ6_bitCount_0f7a4 46 = .ok (.iadd, 1) := by decide +kernel
theorem dJ6_bitCount_0f7a4_47 : decode cJ6_bitCount_0f7a4 47 = .ok (.istore_n 0, 1) := by decide +kernel
theorem dJ6_bitCount_0f7a4_48 : decode cJ6_bitCount_0f7a4 48 = .ok (.iload_n 0, 1) := by decide +kernel
theorem dJ6_bitCount_0f7a4_49 : decode cJ6_bitCount_0f7a4 49 = .ok (.bipush 63, 2) := by decide +kernel
theorem dJ6_bitCount_0f7a4_51 : decode cJ6_bitCount_0f7a4 51 = .ok (.iand, 1) := by decide +kernel
theorem dJ6_bitCount_0f7a4_52 : decode cJ6_bitCount_0f7a4 52 = .ok (.ireturn, 1) := by decide +kernel
