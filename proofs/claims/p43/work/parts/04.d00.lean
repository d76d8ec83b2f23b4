theorem dX0_bit_0 : decode cX0_bit 0 = .ok (.lconst 1, 1) := by decide +kernel
theorem dX0_bit_1 : decode cX0_bit 1 = .ok (.iload_n 0, 1) := by decide +kernel
theorem dX0_bit_2 : decode cX0_bit 2 = .ok (.lshl, 1) := by decide +kernel
theorem dX0_bit_3 : decode cX0_bit 3 = .ok (.lreturn, 1) := by decide +kernel
theorem dX0_has_0 : decode cX0_has 0 = .ok (.iload_n 2, 1) := by decide +kernel
theorem dX0_has_1 : decode cX0_has 1 = .ok (.ifCond .lt 23, 3) := by decide +kernel
theorem dX0_has_4 : decode cX0_has 4 = .ok (.iload_n 2, 1) := by decide +kernel
theorem dX0_has_5 : decode cX0_has 5 = .ok (.bipush 64, 2) := by decide +kernel
theorem dX0_has_7 : decode cX0_has 7 = .ok (.if_icmp .ge 17, 3) := by decide +kernel
theorem dX0_has_10 : decode cX0_has 10 = .ok (.lload_n 0, 1) := by decide +kernel
theorem dX0_has_11 : decode cX0_has 11 = .ok (.iload_n 2, 1) := by decide +kernel
theorem dX0_has_12 : decode cX0_has 12 = .ok (.lushr, 1) := by decide +kernel
theorem dX0_has_13 : decode cX0_has 13 = .ok (.lconst 1, 1) := by decide +kernel
theorem dX0_has_14 : decode cX0_has 14 = .ok (.land, 1) := by decide +kernel
theorem dX0_has_15 : decode cX0_has 15 = .ok (.lconst 0, 1) := by decide +kernel
theorem dX0_has_16 : decode cX0_has 16 = .ok (.lcmp, 1) := by decide +kernel
theorem dX0_has_17 : decode cX0_has 17 = .ok (.ifCond .eq 7, 3) := by decide +kernel
theorem dX0_has_20 : decode cX0_has 20 = .ok (.iconst 1, 1) := by decide +kernel
theorem dX0_has_21 : decode cX0_has 21 = .ok (.goto 4, 3) := by decide +kernel
theorem dX0_has_24 : decode cX0_has 24 = .ok (.iconst 0, 1) := by decide +kernel
theorem dX0_has_25 : decode cX0_has 25 = .ok (.ireturn, 1) := by decide +kernel
theorem dX0_firstOf_0 : decode cX0_firstOf 0 = .ok (.lload_n 0, 1) := by decide +kernel
theorem dX0_firstOf_1 : decode cX0_firstOf 1 = .ok (.lconst 0, 1) := by decide +kernel
theorem dX0_firstOf_2 : decode cX0_firstOf 2 = .ok (.lcmp, 1) := by decide +kernel
theorem dX0_firstOf_3 : decode cX0_firstOf 3 = .ok (.ifCond .ne 7, 3) := by decide +kernel
theorem dX0_firstOf_6 : decode cX0_firstOf 6 = .ok (.iconst (-1), 1) := by decide +kernel
theorem dX0_firstOf_7 : decode cX0_firstOf 7 = .ok (.goto 7, 3) := by decide +kernel
theorem dX0_firstOf_10 : decode cX0_firstOf 10 = .ok (.lload_n 0, 1) := by decide +kernel
theorem dX0_firstOf_11 : decode cX0_firstOf 11 = .ok (.invokestatic 9, 3) := by decide +kernel
theorem dX0_firstOf_14 : decode cX0_firstOf 14 = .ok (.ireturn, 1) := by decide +kernel
theorem dX0_beside_0 : decode cX0_beside 0 = .ok (.lload_n 0, 1) := by decide +kernel
theorem dX0_beside_1 : decode cX0_beside 1 = .ok (.bipush 8, 2) := by decide +kernel
theorem dX0_beside_3 : decode cX0_beside 3 = .ok (.lushr, 1) := by decide +kernel
theorem dX0_beside_4 : decode cX0_beside 4 = .ok (.lload_n 0, 1) := by decide +kernel
theorem dX0_beside_5 : decode cX0_beside 5 = .ok (.bipush 8, 2) := by decide +kernel
theorem dX0_beside_7 : decode cX0_beside 7 = .ok (.lshl, 1) := by decide +kernel
theorem dX0_beside_8 : decode cX0_beside 8 = .ok (.lor, 1) := by decide +kernel
theorem dX0_beside_9 : decode cX0_beside 9 = .ok (.lload_n 0, 1) := by decide +kernel
theorem dX0_beside_10 : decode cX0_beside 10 = .ok (.ldc2_w 17, 3) := by decide +kernel
theorem dX0_beside_13 : decode cX0_beside 13 = .ok (.land, 1) := by decide +kernel
theorem dX0_beside_14 : decode cX0_beside 14 = .ok (.iconst 1, 1) := by decide +kernel
theorem dX0_beside_15 : decode cX0_beside 15 = .ok (.lshl, 1) := by decide +kernel
theorem dX0_beside_16 : decode cX0_beside 16 = .ok (.lor, 1) := by decide +kernel
theorem dX0_beside_17 : decode cX0_beside 17 = .ok (.lload_n 0, 1) := by decide +kernel
theorem dX0_beside_18 : decode cX0_beside 18 = .ok (.ldc2_w 19, 3) := by decide +kernel
theorem dX0_beside_21 : decode cX0_beside 21 = .ok (.land, 1) := by decide +kernel
theorem dX0_beside_22 : decode cX0_beside 22 = .ok (.iconst 1, 1) := by decide +kernel
theorem dX0_beside_23 : decode cX0_beside 23 = .ok (.lushr, 1) := by decide +kernel
theorem dX0_beside_24 : decode cX0_beside 24 = .ok (.lor, 1) := by decide +kernel
theorem dX0_beside_25 : decode cX0_beside 25 = .ok (.lreturn, 1) := by decide +kernel
theorem dX0_next_0 : decode cX0_next 0 = .ok (.iload_n 0, 1) := by decide +kernel
theorem dX0_next_1 : decode cX0_next 1 = .ok (.bipush 8, 2) := by decide +kernel
theorem dX0_next_3 : decode cX0_next 3 = .ok (.irem, 1) := by decide +kernel
theorem dX0_next_4 : decode cX0_next 4 = .ok (.istore_n 2, 1) := by decide +kernel
theorem dX0_next_5 : decode cX0_next 5 = .ok (.iload_n 1, 1) := by decide +kernel
theorem dX0_next_6 : decode cX0_next 6 = .ok (.tableswitch 70 0 2 #[26, 41, 55], 26) := by decide +kernel
theorem dX0_next_32 : decode cX0_next 32 = .ok (.iload_n 0, 1) := by decide +kernel
theorem dX0_next_33 : decode cX0_next 33 = .ok (.bipush 8, 2) := by decide +kernel
theorem dX0_next_35 : decode cX0_next 35 = .ok (.if_icmp .lt 10, 3) := by decide +kernel
theorem dX0_next_38 : decode cX0_next 38 = .ok (.iload_n 0, 1) := by decide +kernel
theorem dX0_next_39 : decode cX0_next 39 = .ok (.bipush 8, 2) := by decide +kernel
theorem dX0_next_41 : decode cX0_next 41 = .ok (.isub, 1) := by decide +kernel
theorem dX0_next_42 : decode cX0_next 42 = .ok (.goto 4, 3) := by decide +kernel
theorem dX0_next_45 : decode cX0_next 45 = .ok (.iconst (-1), 1) := by decide +kernel
theorem dX0_next_46 : decode cX0_next 46 = .ok (.ireturn, 1) := by decide +kernel
theorem dX0_next_47 : decode cX0_next 47 = .ok (.iload_n 2, 1) := by decide +kernel
theorem dX0_next_48 : decode cX0_next 48 = .ok (.bipush 7, 2) := by decide +kernel
theorem dX0_next_50 : decode cX0_next 50 = .ok (.if_icmp .ge 9, 3) := by decide +kernel
theorem dX0_next_53 : decode cX0_next 53 = .ok (.iload_n 0, 1) := by decide +kernel
theorem dX0_next_54 : decode cX0_next 54 = .ok (.iconst 1, 1) := by decide +kernel
theorem dX0_next_55 : decode cX0_next 55 = .ok (.iadd, 1) := by decide +kernel
theorem dX0_next_56 : decode cX0_next 56 = .ok (.goto 4, 3) := by decide +kernel
theorem dX0_next_59 : decode cX0_next 59 = .ok (.iconst (-1), 1) := by decide +kernel
theorem dX0_next_60 : decode cX0_next 60 = .ok (.ireturn, 1) := by decide +kernel
theorem dX0_next_61 : decode cX0_next 61 = .ok (.iload_n 0, 1) := by decide +kernel
theorem dX0_next_62 : decode cX0_next 62 = .ok (.bipush 56, 2) := by decide +kernel
theorem dX0_next_64 : decode cX0_next 64 = .ok (.if_icmp .ge 10, 3) := by decide +kernel
theorem dX0_next_67 : decode cX0_next 67 = .ok (.iload_n 0, 1) := by decide +kernel
theorem dX0_next_68 : decode cX0_next 68 = .ok (.bipush 8, 2) := by decide +kernel
theorem dX0_next_70 : decode cX0_next 70 = .ok (.iadd, 1) := by decide +kernel
theorem dX0_next_71 : decode cX0_next 71 = .ok (.goto 4, 3) := by decide +kernel
theorem dX0_next_74 : decode cX0_next 74 = .ok (.iconst (-1), 1) := by decide +kernel
theorem dX0_next_75 : decode cX0_next 75 = .ok (.ireturn, 1) := by decide +kernel
theorem dX0_next_76 : decode cX0_next 76 = .ok (.iload_n 2, 1) := by decide +kernel
theorem dX0_next_77 : decode cX0_next 77 = .ok (.ifCond .le 9, 3) := by decide +kernel
theorem dX0_next_80 : decode cX0_next 80 = .ok (.iload_n 0, 1) := by decide +kernel
theorem dX0_next_81 : decode cX0_next 81 = .ok (.iconst 1, 1) := by decide +kernel
theorem dX0_next_82 : decode cX0_next 82 = .ok (.isub, 1) := by decide +kernel
theorem dX0_next_83 : decode cX0_next 83 = .ok (.goto 4, 3) := by decide +kernel
theorem dX0_next_86 : decode cX0_next 86 = .ok (.iconst (-1), 1) := by decide +kernel
theorem dX0_next_87 : decode cX0_next 87 = .ok (.ireturn, 1) := by decide +kernel
theorem dX0_pieceOf_0 : decode cX0_pieceOf 0 = .ok (.lload_n 0, 1) := by decide +kernel
theorem dX0_pieceOf_1 : decode cX0_pieceOf 1 = .ok (.iload_n 2, 1) := by decide +kernel
theorem dX0_pieceOf_2 : decode cX0_pieceOf 2 = .ok (.invokestatic 21, 3) := by decide +kernel
theorem dX0_pieceOf_5 : decode cX0_pieceOf 5 = .ok (.ifCond .ne 5, 3) := by decide +kernel
theorem dX0_pieceOf_8 : decode cX0_pieceOf 8 = .ok (.lconst 0, 1) := by decide +kernel
theorem dX0_pieceOf_9 : decode cX0_pieceOf 9 = .ok (.lreturn, 1) := by decide +kernel
theorem dX0_pieceOf_10 : decode cX0_pieceOf 10 = .ok (.iload_n 2, 1) := by decide +kernel
theorem dX0_pieceOf_11 : decode cX0_pieceOf 11 = .ok (.invokestatic 25, 3) := by decide +kernel
theorem dX0_pieceOf_14 : decode cX0_pieceOf 14 = .ok (.lstore_n 3, 1) := by decide +kernel
theorem dX0_pieceOf_15 : decode cX0_pieceOf 15 = .ok (.iconst 0, 1) := by decide +kernel
theorem dX0_pieceOf_16 : decode cX0_pieceOf 16 = .ok (.istore 5, 2) := by decide +kernel
theorem dX0_pieceOf_18 : decode cX0_pieceOf 18 = .ok (.iload 5, 2) := by decide +kernel
theorem dX0_pieceOf_20 : decode cX0_pieceOf 20 = .ok (.bipush 64, 2) := by decide +kernel
theorem dX0_pieceOf_22 : decode cX0_pieceOf 22 = .ok (.if_icmp .ge 32, 3) := by decide +kernel
theorem dX0_pieceOf_25 : decode cX0_pieceOf 25 = .ok (.lload_n 3, 1) := by decide +kernel
theorem dX0_pieceOf_26 : decode cX0_pieceOf 26 = .ok (.lload_n 3, 1) := by decide +kernel
theorem dX0_pieceOf_27 : decode cX0_pieceOf 27 = .ok (.invokestatic 29, 3) := by decide +kernel
theorem dX0_pieceOf_30 : decode cX0_pieceOf 30 = .ok (.lload_n 0, 1) := by decide +kernel
theorem dX0_pieceOf_31 : decode cX0_pieceOf 31 = .ok (.land, 1) := by decide +kernel
theorem dX0_pieceOf_32 : decode cX0_pieceOf 32 = .ok (.lor, 1) := by decide +kernel
theorem dX0_pieceOf_33 : decode cX0_pieceOf 33 = .ok (.lstore 6, 2) := by decide +kernel
theorem dX0_pieceOf_35 : decode cX0_pieceOf 35 = .ok (.lload 6, 2) := by decide +kernel
theorem dX0_pieceOf_37 : decode cX0_pieceOf 37 = .ok (.lload_n 3, 1) := by decide +kernel
theorem dX0_pieceOf_38 : decode cX0_pieceOf 38 = .ok (.lcmp, 1) := by decide +kernel
theorem dX0_pieceOf_39 : decode cX0_pieceOf 39 = .ok (.ifCond .ne 6, 3) := by decide +kernel
theorem dX0_pieceOf_42 : decode cX0_pieceOf 42 = .ok (.goto 12, 3) := by decide +kernel
theorem dX0_pieceOf_45 : decode cX0_pieceOf 45 = .ok (.lload 6, 2) := by decide +kernel
theorem dX0_pieceOf_47 : decode cX0_pieceOf 47 = .ok (.lstore_n 3, 1) := by decide +kernel
theorem dX0_pieceOf_48 : decode cX0_pieceOf 48 = .ok (.iinc 5 1, 3) := by decide +kernel
theorem dX0_pieceOf_51 : decode cX0_pieceOf 51 = .ok (.goto (-33), 3) := by decide +kernel
theorem dX0_pieceOf_54 : decode cX0_pieceOf 54 = .ok (.lload_n 3, 1) := by decide +kernel
theorem dX0_pieceOf_55 : decode cX0_pieceOf 55 = .ok (.lreturn, 1) := by decide +kernel
theorem dX1_init_0 : decode cX1_init 0 = .ok (.aload_n 0, 1) := by decide +kernel
theorem dX1_init_1 : decode cX1_init 1 = .ok (.invokespecial 3, 3) := by decide +kernel
theorem dX1_init_4 : decode cX1_init 4 = .ok (.aload_n 0, 1) := by decide +kernel
theorem dX1_init_5 : decode cX1_init 5 = .ok (.new 9, 3) := by decide +kernel
theorem dX1_init_8 : decode cX1_init 8 = .ok (.dup, 1) := by decide +kernel
theorem dX1_init_9 : decode cX1_init 9 = .ok (.invokespecial 11, 3) := by decide +kernel
theorem dX1_init_12 : decode cX1_init 12 = .ok (.putfield 12, 3) := by decide +kernel
theorem dX1_init_15 : decode cX1_init 15 = .ok (.aload_n 0, 1) := by decide +kernel
theorem dX1_init_16 : decode cX1_init 16 = .ok (.bipush 64, 2) := by decide +kernel
theorem dX1_init_18 : decode cX1_init 18 = .ok (.newarray .int, 2) := by decide +kernel
theorem dX1_init_20 : decode cX1_init 20 = .ok (.putfield 18, 3) := by decide +kernel
theorem dX1_init_23 : decode cX1_init 23 = .ok (.aload_n 0, 1) := by decide +kernel
theorem dX1_init_24 : decode cX1_init 24 = .ok (.bipush 64, 2) := by decide +kernel
theorem dX1_init_26 : decode cX1_init 26 = .ok (.newarray .long, 2) := by decide +kernel
theorem dX1_init_28 : decode cX1_init 28 = .ok (.putfield 22, 3) := by decide +kernel
theorem dX1_init_31 : decode cX1_init 31 = .ok (.aload_n 0, 1) := by decide +kernel
theorem dX1_init_32 : decode cX1_init 32 = .ok (.aload_n 1, 1) := by decide +kernel
theorem dX1_init_33 : decode cX1_init 33 = .ok (.putfield 26, 3) := by decide +kernel
theorem dX1_init_36 : decode cX1_init 36 = .ok (.aload_n 0, 1) := by decide +kernel
theorem dX1_init_37 : decode cX1_init 37 = .ok (.aload_n 2, 1) := by decide +kernel
theorem dX1_init_38 : decode cX1_init 38 = .ok (.putfield 29, 3) := by decide +kernel
theorem dX1_init_41 : decode cX1_init 41 = .ok (.aload_n 0, 1) := by decide +kernel
theorem dX1_init_42 : decode cX1_init 42 = .ok (.aload_n 3, 1) := by decide +kernel
theorem dX1_init_43 : decode cX1_init 43 = .ok (.putfield 33, 3) := by decide +kernel
theorem dX1_init_46 : decode cX1_init 46 = .ok (.return_, 1) := by decide +kernel
theorem dX1_begin_0 : decode cX1_begin 0 = .ok (.aload_n 0, 1) := by decide +kernel
theorem dX1_begin_1 : decode cX1_begin 1 = .ok (.getfield 12, 3) := by decide +kernel
theorem dX1_begin_4 : decode cX1_begin 4 = .ok (.aload_n 0, 1) := by decide +kernel
theorem dX1_begin_5 : decode cX1_begin 5 = .ok (.getfield 26, 3) := by decide +kernel
theorem dX1_begin_8 : decode cX1_begin 8 = .ok (.invokevirtual 37, 3) := by decide +kernel
theorem dX1_begin_11 : decode cX1_begin 11 = .ok (.aload_n 0, 1) := by decide +kernel
theorem dX1_begin_12 : decode cX1_begin 12 = .ok (.getfield 33, 3) := by decide +kernel
theorem dX1_begin_15 : decode cX1_begin 15 = .ok (.invokevirtual 41, 3) := by decide +kernel
theorem dX1_begin_18 : decode cX1_begin 18 = .ok (.aload_n 0, 1) := by decide +kernel
theorem dX1_begin_19 : decode cX1_begin 19 = .ok (.getfield 12, 3) := by decide +kernel
theorem dX1_begin_22 : decode cX1_begin 22 = .ok (.areturn, 1) := by decide +kernel
theorem dX1_lookOn_0 : decode cX1_lookOn 0 = .ok (.aload_n 0, 1) := by decide +kernel
theorem dX1_lookOn_1 : decode cX1_lookOn 1 = .ok (.invokevirtual 46, 3) := by decide +kernel
theorem dX1_lookOn_4 : decode cX1_lookOn 4 = .ok (.pop, 1) := by decide +kernel
theorem dX1_lookOn_5 : decode cX1_lookOn 5 = .ok (.aload_n 0, 1) := by decide +kernel
theorem dX1_lookOn_6 : decode cX1_lookOn 6 = .ok (.getfield 33, 3) := by decide +kernel
theorem dX1_lookOn_9 : decode cX1_lookOn 9 = .ok (.aload_n 0, 1) := by decide +kernel
theorem dX1_lookOn_10 : decode cX1_lookOn 10 = .ok (.getfield 12, 3) := by decide +kernel
theorem dX1_lookOn_13 : decode cX1_lookOn 13 = .ok (.iload_n 1, 1) := by decide +kernel
theorem dX1_lookOn_14 : decode cX1_lookOn 14 = .ok (.invokevirtual 50, 3) := by decide +kernel
theorem dX1_lookOn_17 : decode cX1_lookOn 17 = .ok (.pop, 1) := by decide +kernel
theorem dX1_lookOn_18 : decode cX1_lookOn 18 = .ok (.aload_n 0, 1) := by decide +kernel
theorem dX1_lookOn_19 : decode cX1_lookOn 19 = .ok (.getfield 12, 3) := by decide +kernel
theorem dX1_lookOn_22 : decode cX1_lookOn 22 = .ok (.areturn, 1) := by decide +kernel
theorem dX1_hourOfComing_0 : decode cX1_hourOfComing 0 = .ok (.iconst 1, 1) := by decide +kernel
theorem dX1_hourOfComing_1 : decode cX1_hourOfComing 1 = .ok (.istore_n 3, 1) := by decide +kernel
theorem dX1_hourOfComing_2 : decode cX1_hourOfComing 2 = .ok (.iload_n 3, 1) := by decide +kernel
theorem dX1_hourOfComing_3 : decode cX1_hourOfComing 3 = .ok (.iload_n 2, 1) := by decide +kernel
theorem dX1_hourOfComing_4 : decode cX1_hourOfComing 4 = .ok (.if_icmp .gt 34, 3) := by decide +kernel
theorem dX1_hourOfComing_7 : decode cX1_hourOfComing 7 = .ok (.aload_n 0, 1) := by decide +kernel
theorem dX1_hourOfComing_8 : decode cX1_hourOfComing 8 = .ok (.getfield 33, 3) := by decide +kernel
theorem dX1_hourOfComing_11 : decode cX1_hourOfComing 11 = .ok (.aload_n 0, 1) := by decide +kernel
theorem dX1_hourOfComing_12 : decode cX1_hourOfComing 12 = .ok (.getfield 12, 3) := by decide +kernel
theorem dX1_hourOfComing_15 : decode cX1_hourOfComing 15 = .ok (.invokevirtual 54, 3) := by decide +kernel
theorem dX1_hourOfComing_18 : decode cX1_hourOfComing 18 = .ok (.pop, 1) := by decide +kernel
theorem dX1_hourOfComing_19 : decode cX1_hourOfComing 19 = .ok (.aload_n 0, 1) := by decide +kernel
theorem dX1_hourOfComing_20 : decode cX1_hourOfComing 20 = .ok (.getfield 12, 3) := by decide +kernel
theorem dX1_hourOfComing_23 : decode cX1_hourOfComing 23 = .ok (.iload_n 1, 1) := by decide +kernel
theorem dX1_hourOfComing_24 : decode cX1_hourOfComing 24 = .ok (.invokevirtual 58, 3) := by decide +kernel
theorem dX1_hourOfComing_27 : decode cX1_hourOfComing 27 = .ok (.ifCond .eq 5, 3) := by decide +kernel
theorem dX1_hourOfComing_30 : decode cX1_hourOfComing 30 = .ok (.iload_n 3, 1) := by decide +kernel
theorem dX1_hourOfComing_31 : decode cX1_hourOfComing 31 = .ok (.ireturn, 1) := by decide +kernel
theorem dX1_hourOfComing_32 : decode cX1_hourOfComing 32 = .ok (.iinc 3 1, 3) := by decide +kernel
theorem dX1_hourOfComing_35 : decode cX1_hourOfComing 35 = .ok (.goto (-33), 3) := by decide +kernel
theorem dX1_hourOfComing_38 : decode cX1_hourOfComing 38 = .ok (.iconst (-1), 1) := by decide +kernel
theorem dX1_hourOfComing_39 : decode cX1_hourOfComing 39 = .ok (.ireturn, 1) := by decide +kernel
theorem dX1_hourOfReturn_0 : decode cX1_hourOfReturn 0 = .ok (.aload_n 0, 1) := by decide +kernel
theorem dX1_hourOfReturn_1 : decode cX1_hourOfReturn 1 = .ok (.invokevirtual 46, 3) := by decide +kernel
theorem dX1_hourOfReturn_4 : decode cX1_hourOfReturn 4 = .ok (.pop, 1) := by decide +kernel
theorem dX1_hourOfReturn_5 : decode cX1_hourOfReturn 5 = .ok (.aload_n 0, 1) := by decide +kernel
theorem dX1_hourOfReturn_6 : decode cX1_hourOfReturn 6 = .ok (.getfield 18, 3) := by decide +kernel
theorem dX1_hourOfReturn_9 : decode cX1_hourOfReturn 9 = .ok (.iconst (-1), 1) := by decide +kernel
theorem dX1_hourOfReturn_10 : decode cX1_hourOfReturn 10 = .ok (.invokestatic 62, 3) := by decide +kernel
theorem dX1_hourOfReturn_13 : decode cX1_hourOfReturn 13 = .ok (.aload_n 0, 1) := by decide +kernel
theorem dX1_hourOfReturn_14 : decode cX1_hourOfReturn 14 = .ok (.getfield 18, 3) := by decide +kernel
theorem dX1_hourOfReturn_17 : decode cX1_hourOfReturn 17 = .ok (.aload_n 0, 1) := by decide +kernel
theorem dX1_hourOfReturn_18 : decode cX1_hourOfReturn 18 = .ok (.getfield 12, 3) := by decide +kernel
theorem dX1_hourOfReturn_21 : decode cX1_hourOfReturn 21 = .ok (.getfield 68, 3) := by decide +kernel
theorem dX1_hourOfReturn_24 : decode cX1_hourOfReturn 24 = .ok (.iload_n 1, 1) := by decide +kernel
theorem dX1_hourOfReturn_25 : decode cX1_hourOfReturn 25 = .ok (.iaload, 1) := by decide +kernel
theorem dX1_hourOfReturn_26 : decode cX1_hourOfReturn 26 = .ok (.iconst 0, 1) := by decide +kernel
theorem dX1_hourOfReturn_27 : decode cX1_hourOfReturn 27 = .ok (.iastore, 1) := by decide +kernel
theorem dX1_hourOfReturn_28 : decode cX1_hourOfReturn 28 = .ok (.iconst 1, 1) := by decide +kernel
theorem dX1_hourOfReturn_29 : decode cX1_hourOfReturn 29 = .ok (.istore_n 2, 1) := by decide +kernel
theorem dX1_hourOfReturn_30 : decode cX1_hourOfReturn 30 = .ok (.iload_n 2, 1) := by decide +kernel
theorem dX1_hourOfReturn_31 : decode cX1_hourOfReturn 31 = .ok (.bipush 100, 2) := by decide +kernel
theorem dX1_hourOfReturn_33 : decode cX1_hourOfReturn 33 = .ok (.if_icmp .gt 50, 3) := by decide +kernel
theorem dX1_hourOfReturn_36 : decode cX1_hourOfReturn 36 = .ok (.aload_n 0, 1) := by decide +kernel
theorem dX1_hourOfReturn_37 : decode cX1_hourOfReturn 37 = .ok (.getfield 33, 3) := by decide +kernel
theorem dX1_hourOfReturn_40 : decode cX1_hourOfReturn 40 = .ok (.aload_n 0, 1) := by decide +kernel
theorem dX1_hourOfReturn_41 : decode cX1_hourOfReturn 41 = .ok (.getfield 12, 3) := by decide +kernel
theorem dX1_hourOfReturn_44 : decode cX1_hourOfReturn 44 = .ok (.invokevirtual 54, 3) := by decide +kernel
theorem dX1_hourOfReturn_47 : decode cX1_hourOfReturn 47 = .ok (.pop, 1) := by decide +kernel
theorem dX1_hourOfReturn_48 : decode cX1_hourOfReturn 48 = .ok (.aload_n 0, 1) := by decide +kernel
theorem dX1_hourOfReturn_49 : decode cX1_hourOfReturn 49 = .ok (.getfield 12, 3) := by decide +kernel
theorem dX1_hourOfReturn_52 : decode cX1_hourOfReturn 52 = .ok (.getfield 68, 3) := by decide +kernel
theorem dX1_hourOfReturn_55 : decode cX1_hourOfReturn 55 = .ok (.iload_n 1, 1) := by decide +kernel
theorem dX1_hourOfReturn_56 : decode cX1_hourOfReturn 56 = .ok (.iaload, 1) := by decide +kernel
theorem dX1_hourOfReturn_57 : decode cX1_hourOfReturn 57 = .ok (.istore_n 3, 1) := by decide +kernel
theorem dX1_hourOfReturn_58 : decode cX1_hourOfReturn 58 = .ok (.aload_n 0, 1) := by decide +kernel
theorem dX1_hourOfReturn_59 : decode cX1_hourOfReturn 59 = .ok (.getfield 18, 3) := by decide +kernel
theorem dX1_hourOfReturn_62 : decode cX1_hourOfReturn 62 = .ok (.iload_n 3, 1) := by decide +kernel
theorem dX1_hourOfReturn_63 : decode cX1_hourOfReturn 63 = .ok (.iaload, 1) := by decide +kernel
theorem dX1_hourOfReturn_64 : decode cX1_hourOfReturn 64 = .ok (.iconst (-1), 1) := by decide +kernel
theorem dX1_hourOfReturn_65 : decode cX1_hourOfReturn 65 = .ok (.if_icmp .eq 5, 3) := by decide +kernel
theorem dX1_hourOfReturn_68 : decode cX1_hourOfReturn 68 = .ok (.iload_n 2, 1) := by decide +kernel
theorem dX1_hourOfReturn_69 : decode cX1_hourOfReturn 69 = .ok (.ireturn, 1) := by decide +kernel
theorem dX1_hourOfReturn_70 : decode cX1_hourOfReturn 70 = .ok (.aload_n 0, 1) := by decide +kernel
theorem dX1_hourOfReturn_71 : decode cX1_hourOfReturn 71 = .ok (.getfield 18, 3) := by decide +kernel
theorem dX1_hourOfReturn_74 : decode cX1_hourOfReturn 74 = .ok (.iload_n 3, 1) := by decide +kernel
theorem dX1_hourOfReturn_75 : decode cX1_hourOfReturn 75 = .ok (.iload_n 2, 1) := by decide +kernel
theorem dX1_hourOfReturn_76 : decode cX1_hourOfReturn 76 = .ok (.iastore, 1) := by decide +kernel
theorem dX1_hourOfReturn_77 : decode cX1_hourOfReturn 77 = .ok (.iinc 2 1, 3) := by decide +kernel
theorem dX1_hourOfReturn_80 : decode cX1_hourOfReturn 80 = .ok (.goto (-50), 3) := by decide +kernel
theorem dX1_hourOfReturn_83 : decode cX1_hourOfReturn 83 = .ok (.iconst (-1), 1) := by decide +kernel
theorem dX1_hourOfReturn_84 : decode cX1_hourOfReturn 84 = .ok (.ireturn, 1) := by decide +kernel
theorem dX1_isAtWith_0 : decode cX1_isAtWith 0 = .ok (.aload_n 0, 1) := by decide +kernel
theorem dX1_isAtWith_1 : decode cX1_isAtWith 1 = .ok (.invokevirtual 46, 3) := by decide +kernel
theorem dX1_isAtWith_4 : decode cX1_isAtWith 4 = .ok (.pop, 1) := by decide +kernel
theorem dX1_isAtWith_5 : decode cX1_isAtWith 5 = .ok (.aload_n 0, 1) := by decide +kernel
theorem dX1_isAtWith_6 : decode cX1_isAtWith 6 = .ok (.getfield 12, 3) := by decide +kernel
theorem dX1_isAtWith_9 : decode cX1_isAtWith 9 = .ok (.iload_n 1, 1) := by decide +kernel
theorem dX1_isAtWith_10 : decode cX1_isAtWith 10 = .ok (.putfield 71, 3) := by decide +kernel
theorem dX1_isAtWith_13 : decode cX1_isAtWith 13 = .ok (.aload_n 0, 1) := by decide +kernel
theorem dX1_isAtWith_14 : decode cX1_isAtWith 14 = .ok (.getfield 33, 3) := by decide +kernel
theorem dX1_isAtWith_17 : decode cX1_isAtWith 17 = .ok (.aload_n 0, 1) := by decide +kernel
theorem dX1_isAtWith_18 : decode cX1_isAtWith 18 = .ok (.getfield 12, 3) := by decide +kernel
theorem dX1_isAtWith_21 : decode cX1_isAtWith 21 = .ok (.iload 4, 2) := by decide +kernel
theorem dX1_isAtWith_23 : decode cX1_isAtWith 23 = .ok (.invokevirtual 50, 3) := by decide +kernel
theorem dX1_isAtWith_26 : decode cX1_isAtWith 26 = .ok (.pop, 1) := by decide +kernel
theorem dX1_isAtWith_27 : decode cX1_isAtWith 27 = .ok (.aload_n 0, 1) := by decide +kernel
theorem dX1_isAtWith_28 : decode cX1_isAtWith 28 = .ok (.getfield 12, 3) := by decide +kernel
theorem dX1_isAtWith_31 : decode cX1_isAtWith 31 = .ok (.getfield 68, 3) := by decide +kernel
theorem dX1_isAtWith_34 : decode cX1_isAtWith 34 = .ok (.iload_n 2, 1) := by decide +kernel
theorem dX1_isAtWith_35 : decode cX1_isAtWith 35 = .ok (.iaload, 1) := by decide +kernel
theorem dX1_isAtWith_36 : decode cX1_isAtWith 36 = .ok (.iload_n 3, 1) := by decide +kernel
theorem dX1_isAtWith_37 : decode cX1_isAtWith 37 = .ok (.if_icmp .ne 7, 3) := by decide +kernel
theorem dX1_isAtWith_40 : decode cX1_isAtWith 40 = .ok (.iconst 1, 1) := by decide +kernel
theorem dX1_isAtWith_41 : decode cX1_isAtWith 41 = .ok (.goto 4, 3) := by decide +kernel
theorem dX1_isAtWith_44 : decode cX1_isAtWith 44 = .ok (.iconst 0, 1) := by decide +kernel
theorem dX1_isAtWith_45 : decode cX1_isAtWith 45 = .ok (.ireturn, 1) := by decide +kernel
theorem dX1_saltThatLures_0 : decode cX1_saltThatLures 0 = .ok (.aload_n 0, 1) := by decide +kernel
theorem dX1_saltThatLures_1 : decode cX1_saltThatLures 1 = .ok (.getfield 33, 3) := by decide +kernel
theorem dX1_saltThatLures_4 : decode cX1_saltThatLures 4 = .ok (.bipush 115, 2) := by decide +kernel
theorem dX1_saltThatLures_6 : decode cX1_saltThatLures 6 = .ok (.invokevirtual 75, 3) := by decide +kernel
theorem dX1_saltThatLures_9 : decode cX1_saltThatLures 9 = .ok (.lstore_n 3, 1) := by decide +kernel
theorem dX1_saltThatLures_10 : decode cX1_saltThatLures 10 = .ok (.iconst 1, 1) := by decide +kernel
theorem dX1_saltThatLures_11 : decode cX1_saltThatLures 11 = .ok (.istore 5, 2) := by decide +kernel
theorem dX1_saltThatLures_13 : decode cX1_saltThatLures 13 = .ok (.iload 5, 2) := by decide +kernel
theorem dX1_saltThatLures_15 : decode cX1_saltThatLures 15 = .ok (.bipush 9, 2) := by decide +kernel
theorem dX1_saltThatLures_17 : decode cX1_saltThatLures 17 = .ok (.if_icmp .gt 103, 3) := by decide +kernel
theorem dX1_saltThatLures_20 : decode cX1_saltThatLures 20 = .ok (.iconst 0, 1) := by decide +kernel
theorem dX1_saltThatLures_21 : decode cX1_saltThatLures 21 = .ok (.istore 6, 2) := by decide +kernel
theorem dX1_saltThatLures_23 : decode cX1_saltThatLures 23 = .ok (.iload 6, 2) := by decide +kernel
theorem dX1_saltThatLures_25 : decode cX1_saltThatLures 25 = .ok (.bipush 64, 2) := by decide +kernel
theorem dX1_saltThatLures_27 : decode cX1_saltThatLures 27 = .ok (.if_icmp .ge 87, 3) := by decide +kernel
theorem dX1_saltThatLures_30 : decode cX1_saltThatLures 30 = .ok (.lload_n 3, 1) := by decide +kernel
theorem dX1_saltThatLures_31 : decode cX1_saltThatLures 31 = .ok (.iload 6, 2) := by decide +kernel
theorem dX1_saltThatLures_33 : decode cX1_saltThatLures 33 = .ok (.invokestatic 79, 3) := by decide +kernel
theorem dX1_saltThatLures_36 : decode cX1_saltThatLures 36 = .ok (.ifCond .eq 72, 3) := by decide +kernel
theorem dX1_saltThatLures_39 : decode cX1_saltThatLures 39 = .ok (.aload_n 0, 1) := by decide +kernel
theorem dX1_saltThatLures_40 : decode cX1_saltThatLures 40 = .ok (.getfield 29, 3) := by decide +kernel
theorem dX1_saltThatLures_43 : decode cX1_saltThatLures 43 = .ok (.iload 6, 2) := by decide +kernel
theorem dX1_saltThatLures_45 : decode cX1_saltThatLures 45 = .ok (.invokevirtual 85, 3) := by decide +kernel
theorem dX1_saltThatLures_48 : decode cX1_saltThatLures 48 = .ok (.ifCond .eq 60, 3) := by decide +kernel
theorem dX1_saltThatLures_51 : decode cX1_saltThatLures 51 = .ok (.aload_n 0, 1) := by decide +kernel
theorem dX1_saltThatLures_52 : decode cX1_saltThatLures 52 = .ok (.getfield 26, 3) := by decide +kernel
theorem dX1_saltThatLures_55 : decode cX1_saltThatLures 55 = .ok (.getfield 91, 3) := by decide +kernel
theorem dX1_saltThatLures_58 : decode cX1_saltThatLures 58 = .ok (.iload 6, 2) := by decide +kernel
theorem dX1_saltThatLures_60 : decode cX1_saltThatLures 60 = .ok (.iaload, 1) := by decide +kernel
theorem dX1_saltThatLures_61 : decode cX1_saltThatLures 61 = .ok (.iload 5, 2) := by decide +kernel
theorem dX1_saltThatLures_63 : decode cX1_saltThatLures 63 = .ok (.iadd, 1) := by decide +kernel
theorem dX1_saltThatLures_64 : decode cX1_saltThatLures 64 = .ok (.bipush 9, 2) := by decide +kernel
theorem dX1_saltThatLures_66 : decode cX1_saltThatLures 66 = .ok (.if_icmp .gt 42, 3) := by decide +kernel
theorem dX1_saltThatLures_69 : decode cX1_saltThatLures 69 = .ok (.aload_n 0, 1) := by decide +kernel
theorem dX1_saltThatLures_70 : decode cX1_saltThatLures 70 = .ok (.invokevirtual 46, 3) := by decide +kernel
theorem dX1_saltThatLures_73 : decode cX1_saltThatLures 73 = .ok (.pop, 1) := by decide +kernel
theorem dX1_saltThatLures_74 : decode cX1_saltThatLures 74 = .ok (.aload_n 0, 1) := by decide +kernel
theorem dX1_saltThatLures_75 : decode cX1_saltThatLures 75 = .ok (.getfield 12, 3) := by decide +kernel
theorem dX1_saltThatLures_78 : decode cX1_saltThatLures 78 = .ok (.getfield 91, 3) := by decide +kernel
theorem dX1_saltThatLures_81 : decode cX1_saltThatLures 81 = .ok (.iload 6, 2) := by decide +kernel
theorem dX1_saltThatLures_83 : decode cX1_saltThatLures 83 = .ok (.dup2, 1) := by decide +kernel
theorem dX1_saltThatLures_84 : decode cX1_saltThatLures 84 = .ok (.iaload, 1) := by decide +kernel
theorem dX1_saltThatLures_85 : decode cX1_saltThatLures 85 = .ok (.iload 5, 2) := by decide +kernel
theorem dX1_saltThatLures_87 : decode cX1_saltThatLures 87 = .ok (.iadd, 1) := by decide +kernel
theorem dX1_saltThatLures_88 : decode cX1_saltThatLures 88 = .ok (.iastore, 1) := by decide +kernel
theorem dX1_saltThatLures_89 : decode cX1_saltThatLures 89 = .ok (.aload_n 0, 1) := by decide +kernel
theorem dX1_saltThatLures_90 : decode cX1_saltThatLures 90 = .ok (.iload_n 1, 1) := by decide +kernel
theorem dX1_saltThatLures_91 : decode cX1_saltThatLures 91 = .ok (.iload_n 2, 1) := by decide +kernel
theorem dX1_saltThatLures_92 : decode cX1_saltThatLures 92 = .ok (.invokevirtual 94, 3) := by decide +kernel
theorem dX1_saltThatLures_95 : decode cX1_saltThatLures 95 = .ok (.iconst (-1), 1) := by decide +kernel
theorem dX1_saltThatLures_96 : decode cX1_saltThatLures 96 = .ok (.if_icmp .eq 12, 3) := by decide +kernel
theorem dX1_saltThatLures_99 : decode cX1_saltThatLures 99 = .ok (.aload_n 0, 1) := by decide +kernel
theorem dX1_saltThatLures_100 : decode cX1_saltThatLures 100 = .ok (.iload 6, 2) := by decide +kernel
theorem dX1_saltThatLures_102 : decode cX1_saltThatLures 102 = .ok (.putfield 98, 3) := by decide +kernel
theorem dX1_saltThatLures_105 : decode cX1_saltThatLures 105 = .ok (.iload 5, 2) := by decide +kernel
theorem dX1_saltThatLures_107 : decode cX1_saltThatLures 107 = .ok (.ireturn, 1) := by decide +kernel
theorem dX1_saltThatLures_108 : decode cX1_saltThatLures 108 = .ok (.iinc 6 1, 3) := by decide +kernel
theorem dX1_saltThatLures_111 : decode cX1_saltThatLures 111 = .ok (.goto (-88), 3) := by decide +kernel
theorem dX1_saltThatLures_114 : decode cX1_saltThatLures 114 = .ok (.iinc 5 1, 3) := by decide +kernel
theorem dX1_saltThatLures_117 : decode cX1_saltThatLures 117 = .ok (.goto (-104), 3) := by decide +kernel
theorem dX1_saltThatLures_120 : decode cX1_saltThatLures 120 = .ok (.bipush (-2), 2) := by decide +kernel
theorem dX1_saltThatLures_122 : decode cX1_saltThatLures 122 = .ok (.ireturn, 1) := by decide +kernel
theorem dX1_isHedgedByOne_0 : decode cX1_isHedgedByOne 0 = .ok (.aload_n 0, 1) := by decide +kernel
theorem dX1_isHedgedByOne_1 : decode cX1_isHedgedByOne 1 = .ok (.getfield 33, 3) := by decide +kernel
theorem dX1_isHedgedByOne_4 : decode cX1_isHedgedByOne 4 = .ok (.bipush 116, 2) := by decide +kernel
theorem dX1_isHedgedByOne_6 : decode cX1_isHedgedByOne 6 = .ok (.invokevirtual 75, 3) := by decide +kernel
theorem dX1_isHedgedByOne_9 : decode cX1_isHedgedByOne 9 = .ok (.lstore_n 3, 1) := by decide +kernel
theorem dX1_isHedgedByOne_10 : decode cX1_isHedgedByOne 10 = .ok (.iconst 0, 1) := by decide +kernel
theorem dX1_isHedgedByOne_11 : decode cX1_isHedgedByOne 11 = .ok (.istore 5, 2) := by decide +kernel
theorem dX1_isHedgedByOne_13 : decode cX1_isHedgedByOne 13 = .ok (.iload 5, 2) := by decide +kernel
theorem dX1_isHedgedByOne_15 : decode cX1_isHedgedByOne 15 = .ok (.bipush 64, 2) := by decide +kernel
theorem dX1_isHedgedByOne_17 : decode cX1_isHedgedByOne 17 = .ok (.if_icmp .ge 80, 3) := by decide +kernel
theorem dX1_isHedgedByOne_20 : decode cX1_isHedgedByOne 20 = .ok (.aload_n 0, 1) := by decide +kernel
theorem dX1_isHedgedByOne_21 : decode cX1_isHedgedByOne 21 = .ok (.getfield 22, 3) := by decide +kernel
theorem dX1_isHedgedByOne_24 : decode cX1_isHedgedByOne 24 = .ok (.iload 5, 2) := by decide +kernel
theorem dX1_isHedgedByOne_26 : decode cX1_isHedgedByOne 26 = .ok (.lload_n 3, 1) := by decide +kernel
theorem dX1_isHedgedByOne_27 : decode cX1_isHedgedByOne 27 = .ok (.lastore, 1) := by decide +kernel
theorem dX1_isHedgedByOne_28 : decode cX1_isHedgedByOne 28 = .ok (.lload_n 3, 1) := by decide +kernel
theorem dX1_isHedgedByOne_29 : decode cX1_isHedgedByOne 29 = .ok (.iload 5, 2) := by decide +kernel
theorem dX1_isHedgedByOne_31 : decode cX1_isHedgedByOne 31 = .ok (.invokestatic 79, 3) := by decide +kernel
theorem dX1_isHedgedByOne_34 : decode cX1_isHedgedByOne 34 = .ok (.ifCond .eq 57, 3) := by decide +kernel
theorem dX1_isHedgedByOne_37 : decode cX1_isHedgedByOne 37 = .ok (.aload_n 0, 1) := by decide +kernel
theorem dX1_isHedgedByOne_38 : decode cX1_isHedgedByOne 38 = .ok (.getfield 29, 3) := by decide +kernel
theorem dX1_isHedgedByOne_41 : decode cX1_isHedgedByOne 41 = .ok (.iload 5, 2) := by decide +kernel
theorem dX1_isHedgedByOne_43 : decode cX1_isHedgedByOne 43 = .ok (.invokevirtual 85, 3) := by decide +kernel
theorem dX1_isHedgedByOne_46 : decode cX1_isHedgedByOne 46 = .ok (.ifCond .eq 45, 3) := by decide +kernel
theorem dX1_isHedgedByOne_49 : decode cX1_isHedgedByOne 49 = .ok (.aload_n 0, 1) := by decide +kernel
theorem dX1_isHedgedByOne_50 : decode cX1_isHedgedByOne 50 = .ok (.iload 5, 2) := by decide +kernel
theorem dX1_isHedgedByOne_52 : decode cX1_isHedgedByOne 52 = .ok (.iload 5, 2) := by decide +kernel
theorem dX1_isHedgedByOne_54 : decode cX1_isHedgedByOne 54 = .ok (.invokevirtual 101, 3) := by decide +kernel
theorem dX1_isHedgedByOne_57 : decode cX1_isHedgedByOne 57 = .ok (.aload_n 0, 1) := by decide +kernel
theorem dX1_isHedgedByOne_58 : decode cX1_isHedgedByOne 58 = .ok (.iload_n 1, 1) := by decide +kernel
theorem dX1_isHedgedByOne_59 : decode cX1_isHedgedByOne 59 = .ok (.iload_n 2, 1) := by decide +kernel
theorem dX1_isHedgedByOne_60 : decode cX1_isHedgedByOne 60 = .ok (.invokevirtual 94, 3) := by decide +kernel
theorem dX1_isHedgedByOne_63 : decode cX1_isHedgedByOne 63 = .ok (.iconst (-1), 1) := by decide +kernel
theorem dX1_isHedgedByOne_64 : decode cX1_isHedgedByOne 64 = .ok (.if_icmp .ne 11, 3) := by decide +kernel
theorem dX1_isHedgedByOne_67 : decode cX1_isHedgedByOne 67 = .ok (.aload_n 0, 1) := by decide +kernel
theorem dX1_isHedgedByOne_68 : decode cX1_isHedgedByOne 68 = .ok (.iload 5, 2) := by decide +kernel
theorem dX1_isHedgedByOne_70 : decode cX1_isHedgedByOne 70 = .ok (.putfield 98, 3) := by decide +kernel
theorem dX1_isHedgedByOne_73 : decode cX1_isHedgedByOne 73 = .ok (.iconst 1, 1) := by decide +kernel
theorem dX1_isHedgedByOne_74 : decode cX1_isHedgedByOne 74 = .ok (.ireturn, 1) := by decide +kernel
theorem dX1_isHedgedByOne_75 : decode cX1_isHedgedByOne 75 = .ok (.aload_n 0, 1) := by decide +kernel
theorem dX1_isHedgedByOne_76 : decode cX1_isHedgedByOne 76 = .ok (.getfield 22, 3) := by decide +kernel
theorem dX1_isHedgedByOne_79 : decode cX1_isHedgedByOne 79 = .ok (.iload 5, 2) := by decide +kernel
theorem dX1_isHedgedByOne_81 : decode cX1_isHedgedByOne 81 = .ok (.aload_n 0, 1) := by decide +kernel
theorem dX1_isHedgedByOne_82 : decode cX1_isHedgedByOne 82 = .ok (.getfield 33, 3) := by decide +kernel
theorem dX1_isHedgedByOne_85 : decode cX1_isHedgedByOne 85 = .ok (.bipush 116, 2) := by decide +kernel
theorem dX1_isHedgedByOne_87 : decode cX1_isHedgedByOne 87 = .ok (.invokevirtual 75, 3) := by decide +kernel
theorem dX1_isHedgedByOne_90 : decode cX1_isHedgedByOne 90 = .ok (.lastore, 1) := by decide +kernel
theorem dX1_isHedgedByOne_91 : decode cX1_isHedgedByOne 91 = .ok (.iinc 5 1, 3) := by decide +kernel
theorem dX1_isHedgedByOne_94 : decode cX1_isHedgedByOne 94 = .ok (.goto (-81), 3) := by decide +kernel
theorem dX1_isHedgedByOne_97 : decode cX1_isHedgedByOne 97 = .ok (.iconst 0, 1) := by decide +kernel
theorem dX1_isHedgedByOne_98 : decode cX1_isHedgedByOne 98 = .ok (.ireturn, 1) := by decide +kernel
theorem dX1_isHedgedByTwo_0 : decode cX1_isHedgedByTwo 0 = .ok (.iconst 0, 1) := by decide +kernel
theorem dX1_isHedgedByTwo_1 : decode cX1_isHedgedByTwo 1 = .ok (.istore_n 3, 1) := by decide +kernel
theorem dX1_isHedgedByTwo_2 : decode cX1_isHedgedByTwo 2 = .ok (.iload_n 3, 1) := by decide +kernel
theorem dX1_isHedgedByTwo_3 : decode cX1_isHedgedByTwo 3 = .ok (.bipush 64, 2) := by decide +kernel
theorem dX1_isHedgedByTwo_5 : decode cX1_isHedgedByTwo 5 = .ok (.if_icmp .ge 108, 3) := by decide +kernel
theorem dX1_isHedgedByTwo_8 : decode cX1_isHedgedByTwo 8 = .ok (.iload_n 3, 1) := by decide +kernel
theorem dX1_isHedgedByTwo_9 : decode cX1_isHedgedByTwo 9 = .ok (.iconst 1, 1) := by decide +kernel
theorem dX1_isHedgedByTwo_10 : decode cX1_isHedgedByTwo 10 = .ok (.iadd, 1) := by decide +kernel
theorem dX1_isHedgedByTwo_11 : decode cX1_isHedgedByTwo 11 = .ok (.istore 4, 2) := by decide +kernel
theorem dX1_isHedgedByTwo_13 : decode cX1_isHedgedByTwo 13 = .ok (.iload 4, 2) := by decide +kernel
theorem dX1_isHedgedByTwo_15 : decode cX1_isHedgedByTwo 15 = .ok (.bipush 64, 2) := by decide +kernel
theorem dX1_isHedgedByTwo_17 : decode cX1_isHedgedByTwo 17 = .ok (.if_icmp .ge 90, 3) := by decide +kernel
theorem dX1_isHedgedByTwo_20 : decode cX1_isHedgedByTwo 20 = .ok (.aload_n 0, 1) := by decide +kernel
theorem dX1_isHedgedByTwo_21 : decode cX1_isHedgedByTwo 21 = .ok (.getfield 22, 3) := by decide +kernel
theorem dX1_isHedgedByTwo_24 : decode cX1_isHedgedByTwo 24 = .ok (.iload_n 3, 1) := by decide +kernel
theorem dX1_isHedgedByTwo_25 : decode cX1_isHedgedByTwo 25 = .ok (.laload, 1) := by decide +kernel
theorem dX1_isHedgedByTwo_26 : decode cX1_isHedgedByTwo 26 = .ok (.iload 4, 2) := by decide +kernel
theorem dX1_isHedgedByTwo_28 : decode cX1_isHedgedByTwo 28 = .ok (.invokestatic 79, 3) := by decide +kernel
theorem dX1_isHedgedByTwo_31 : decode cX1_isHedgedByTwo 31 = .ok (.ifCond .eq 70, 3) := by decide +kernel
theorem dX1_isHedgedByTwo_34 : decode cX1_isHedgedByTwo 34 = .ok (.aload_n 0, 1) := by decide +kernel
theorem dX1_isHedgedByTwo_35 : decode cX1_isHedgedByTwo 35 = .ok (.getfield 22, 3) := by decide +kernel
theorem dX1_isHedgedByTwo_38 : decode cX1_isHedgedByTwo 38 = .ok (.iload 4, 2) := by decide +kernel
theorem dX1_isHedgedByTwo_40 : decode cX1_isHedgedByTwo 40 = .ok (.laload, 1) := by decide +kernel
theorem dX1_isHedgedByTwo_41 : decode cX1_isHedgedByTwo 41 = .ok (.iload_n 3, 1) := by decide +kernel
theorem dX1_isHedgedByTwo_42 : decode cX1_isHedgedByTwo 42 = .ok (.invokestatic 79, 3) := by decide +kernel
theorem dX1_isHedgedByTwo_45 : decode cX1_isHedgedByTwo 45 = .ok (.ifCond .eq 56, 3) := by decide +kernel
theorem dX1_isHedgedByTwo_48 : decode cX1_isHedgedByTwo 48 = .ok (.aload_n 0, 1) := by decide +kernel
theorem dX1_isHedgedByTwo_49 : decode cX1_isHedgedByTwo 49 = .ok (.getfield 29, 3) := by decide +kernel
theorem dX1_isHedgedByTwo_52 : decode cX1_isHedgedByTwo 52 = .ok (.iload_n 3, 1) := by decide +kernel
theorem dX1_isHedgedByTwo_53 : decode cX1_isHedgedByTwo 53 = .ok (.invokevirtual 85, 3) := by decide +kernel
theorem dX1_isHedgedByTwo_56 : decode cX1_isHedgedByTwo 56 = .ok (.ifCond .eq 45, 3) := by decide +kernel
theorem dX1_isHedgedByTwo_59 : decode cX1_isHedgedByTwo 59 = .ok (.aload_n 0, 1) := by decide +kernel
theorem dX1_isHedgedByTwo_60 : decode cX1_isHedgedByTwo 60 = .ok (.getfield 29, 3) := by decide +kernel
theorem dX1_isHedgedByTwo_63 : decode cX1_isHedgedByTwo 63 = .ok (.iload 4, 2) := by decide +kernel
theorem dX1_isHedgedByTwo_65 : decode cX1_isHedgedByTwo 65 = .ok (.invokevirtual 85, 3) := by decide +kernel
theorem dX1_isHedgedByTwo_68 : decode cX1_isHedgedByTwo 68 = .ok (.ifCond .eq 33, 3) := by decide +kernel
theorem dX1_isHedgedByTwo_71 : decode cX1_isHedgedByTwo 71 = .ok (.aload_n 0, 1) := by decide +kernel
theorem dX1_isHedgedByTwo_72 : decode cX1_isHedgedByTwo 72 = .ok (.iload_n 3, 1) := by decide +kernel
theorem dX1_isHedgedByTwo_73 : decode cX1_isHedgedByTwo 73 = .ok (.iload 4, 2) := by decide +kernel
theorem dX1_isHedgedByTwo_75 : decode cX1_isHedgedByTwo 75 = .ok (.invokevirtual 101, 3) := by decide +kernel
theorem dX1_isHedgedByTwo_78 : decode cX1_isHedgedByTwo 78 = .ok (.aload_n 0, 1) := by decide +kernel
theorem dX1_isHedgedByTwo_79 : decode cX1_isHedgedByTwo 79 = .ok (.iload_n 1, 1) := by decide +kernel
theorem dX1_isHedgedByTwo_80 : decode cX1_isHedgedByTwo 80 = .ok (.iload_n 2, 1) := by decide +kernel
theorem dX1_isHedgedByTwo_81 : decode cX1_isHedgedByTwo 81 = .ok (.invokevirtual 94, 3) := by decide +kernel
theorem dX1_isHedgedByTwo_84 : decode cX1_isHedgedByTwo 84 = .ok (.iconst (-1), 1) := by decide +kernel
theorem dX1_isHedgedByTwo_85 : decode cX1_isHedgedByTwo 85 = .ok (.if_icmp .ne 16, 3) := by decide +kernel
theorem dX1_isHedgedByTwo_88 : decode cX1_isHedgedByTwo 88 = .ok (.aload_n 0, 1) := by decide +kernel
theorem dX1_isHedgedByTwo_89 : decode cX1_isHedgedByTwo 89 = .ok (.iload_n 3, 1) := by decide +kernel
theorem dX1_isHedgedByTwo_90 : decode cX1_isHedgedByTwo 90 = .ok (.putfield 98, 3) := by decide +kernel
theorem dX1_isHedgedByTwo_93 : decode cX1_isHedgedByTwo 93 = .ok (.aload_n 0, 1) := by decide +kernel
theorem dX1_isHedgedByTwo_94 : decode cX1_isHedgedByTwo 94 = .ok (.iload 4, 2) := by decide +kernel
theorem dX1_isHedgedByTwo_96 : decode cX1_isHedgedByTwo 96 = .ok (.putfield 105, 3) := by decide +kernel
theorem dX1_isHedgedByTwo_99 : decode cX1_isHedgedByTwo 99 = .ok (.iconst 1, 1) := by decide +kernel
theorem dX1_isHedgedByTwo_100 : decode cX1_isHedgedByTwo 100 = .ok (.ireturn, 1) := by decide +kernel
theorem dX1_isHedgedByTwo_101 : decode cX1_isHedgedByTwo 101 = .ok (.iinc 4 1, 3) := by decide +kernel
theorem dX1_isHedgedByTwo_104 : decode cX1_isHedgedByTwo 104 = .ok (.goto (-91), 3) := by decide +kernel
theorem dX1_isHedgedByTwo_107 : decode cX1_isHedgedByTwo 107 = .ok (.iinc 3 1, 3) := by decide +kernel
theorem dX1_isHedgedByTwo_110 : decode cX1_isHedgedByTwo 110 = .ok (.goto (-108), 3) := by decide +kernel
theorem dX1_isHedgedByTwo_113 : decode cX1_isHedgedByTwo 113 = .ok (.iconst 0, 1) := by decide +kernel
theorem dX1_isHedgedByTwo_114 : decode cX1_isHedgedByTwo 114 = .ok (.ireturn, 1) := by decide +kernel
theorem dX1_beginWithThistles_0 : decode cX1_beginWithThistles 0 = .ok (.aload_n 0, 1) := by decide +kernel
theorem dX1_beginWithThistles_1 : decode cX1_beginWithThistles 1 = .ok (.invokevirtual 46, 3) := by decide +kernel
theorem dX1_beginWithThistles_4 : decode cX1_beginWithThistles 4 = .ok (.pop, 1) := by decide +kernel
theorem dX1_beginWithThistles_5 : decode cX1_beginWithThistles 5 = .ok (.aload_n 0, 1) := by decide +kernel
theorem dX1_beginWithThistles_6 : decode cX1_beginWithThistles 6 = .ok (.getfield 12, 3) := by decide +kernel
theorem dX1_beginWithThistles_9 : decode cX1_beginWithThistles 9 = .ok (.getfield 108, 3) := by decide +kernel
theorem dX1_beginWithThistles_12 : decode cX1_beginWithThistles 12 = .ok (.iload_n 1, 1) := by decide +kernel
theorem dX1_beginWithThistles_13 : decode cX1_beginWithThistles 13 = .ok (.bipush 9, 2) := by decide +kernel
theorem dX1_beginWithThistles_15 : decode cX1_beginWithThistles 15 = .ok (.iastore, 1) := by decide +kernel
theorem dX1_beginWithThistles_16 : decode cX1_beginWithThistles 16 = .ok (.aload_n 0, 1) := by decide +kernel
theorem dX1_beginWithThistles_17 : decode cX1_beginWithThistles 17 = .ok (.getfield 12, 3) := by decide +kernel
theorem dX1_beginWithThistles_20 : decode cX1_beginWithThistles 20 = .ok (.getfield 108, 3) := by decide +kernel
theorem dX1_beginWithThistles_23 : decode cX1_beginWithThistles 23 = .ok (.iload_n 2, 1) := by decide +kernel
theorem dX1_beginWithThistles_24 : decode cX1_beginWithThistles 24 = .ok (.bipush 9, 2) := by decide +kernel
theorem dX1_beginWithThistles_26 : decode cX1_beginWithThistles 26 = .ok (.iastore, 1) := by decide +kernel
theorem dX1_beginWithThistles_27 : decode cX1_beginWithThistles 27 = .ok (.return_, 1) := by decide +kernel
theorem dX2_init_0 : decode cX2_init 0 = .ok (.aload_n 0, 1) := by decide +kernel
theorem dX2_init_1 : decode cX2_init 1 = .ok (.invokespecial 3, 3) := by decide +kernel
theorem dX2_init_4 : decode cX2_init 4 = .ok (.aload_n 0, 1) := by decide +kernel
theorem dX2_init_5 : decode cX2_init 5 = .ok (.bipush 6, 2) := by decide +kernel
theorem dX2_init_7 : decode cX2_init 7 = .ok (.newarray .int, 2) := by decide +kernel
theorem dX2_init_9 : decode cX2_init 9 = .ok (.putfield 9, 3) := by decide +kernel
theorem dX2_init_12 : decode cX2_init 12 = .ok (.return_, 1) := by decide +kernel
theorem dX2_faultIn_0 : decode cX2_faultIn 0 = .ok (.aload_n 1, 1) := by decide +kernel
theorem dX2_faultIn_1 : decode cX2_faultIn 1 = .ok (.bipush 76, 2) := by decide +kernel
theorem dX2_faultIn_3 : decode cX2_faultIn 3 = .ok (.invokevirtual 15, 3) := by decide +kernel
theorem dX2_faultIn_6 : decode cX2_faultIn 6 = .ok (.bipush 8, 2) := by decide +kernel
theorem dX2_faultIn_8 : decode cX2_faultIn 8 = .ok (.istore_n 2, 1) := by decide +kernel
theorem dX2_faultIn_9 : decode cX2_faultIn 9 = .ok (.iconst 0, 1) := by decide +kernel
theorem dX2_faultIn_10 : decode cX2_faultIn 10 = .ok (.istore_n 3, 1) := by decide +kernel
theorem dX2_faultIn_11 : decode cX2_faultIn 11 = .ok (.iconst 0, 1) := by decide +kernel
theorem dX2_faultIn_12 : decode cX2_faultIn 12 = .ok (.istore 4, 2) := by decide +kernel
theorem dX2_faultIn_14 : decode cX2_faultIn 14 = .ok (.iconst 0, 1) := by decide +kernel
theorem dX2_faultIn_15 : decode cX2_faultIn 15 = .ok (.istore 5, 2) := by decide +kernel
theorem dX2_faultIn_17 : decode cX2_faultIn 17 = .ok (.iconst 0, 1) := by decide +kernel
theorem dX2_faultIn_18 : decode cX2_faultIn 18 = .ok (.istore 6, 2) := by decide +kernel
theorem dX2_faultIn_20 : decode cX2_faultIn 20 = .ok (.iload 6, 2) := by decide +kernel
theorem dX2_faultIn_22 : decode cX2_faultIn 22 = .ok (.bipush 76, 2) := by decide +kernel
theorem dX2_faultIn_24 : decode cX2_faultIn 24 = .ok (.if_icmp .gt 139, 3) := by decide +kernel
theorem dX2_faultIn_27 : decode cX2_faultIn 27 = .ok (.iload 4, 2) := by decide +kernel
theorem dX2_faultIn_29 : decode cX2_faultIn 29 = .ok (.ifCond .ne 15, 3) := by decide +kernel
theorem dX2_faultIn_32 : decode cX2_faultIn 32 = .ok (.iload_n 3, 1) := by decide +kernel
theorem dX2_faultIn_33 : decode cX2_faultIn 33 = .ok (.ifCond .le 7, 3) := by decide +kernel
theorem dX2_faultIn_36 : decode cX2_faultIn 36 = .ok (.iconst 1, 1) := by decide +kernel
theorem dX2_faultIn_37 : decode cX2_faultIn 37 = .ok (.goto 17, 3) := by decide +kernel
theorem dX2_faultIn_40 : decode cX2_faultIn 40 = .ok (.iconst 0, 1) := by decide +kernel
theorem dX2_faultIn_41 : decode cX2_faultIn 41 = .ok (.goto 13, 3) := by decide +kernel
theorem dX2_faultIn_44 : decode cX2_faultIn 44 = .ok (.iload_n 3, 1) := by decide +kernel
theorem dX2_faultIn_45 : decode cX2_faultIn 45 = .ok (.iload_n 2, 1) := by decide +kernel
theorem dX2_faultIn_46 : decode cX2_faultIn 46 = .ok (.if_icmp .ne 7, 3) := by decide +kernel
theorem dX2_faultIn_49 : decode cX2_faultIn 49 = .ok (.iconst 1, 1) := by decide +kernel
theorem dX2_faultIn_50 : decode cX2_faultIn 50 = .ok (.goto 4, 3) := by decide +kernel
theorem dX2_faultIn_53 : decode cX2_faultIn 53 = .ok (.iconst 0, 1) := by decide +kernel
theorem dX2_faultIn_54 : decode cX2_faultIn 54 = .ok (.istore 7, 2) := by decide +kernel
theorem dX2_faultIn_56 : decode cX2_faultIn 56 = .ok (.iload 7, 2) := by decide +kernel
theorem dX2_faultIn_58 : decode cX2_faultIn 58 = .ok (.ifCond .eq 12, 3) := by decide +kernel
theorem dX2_faultIn_61 : decode cX2_faultIn 61 = .ok (.aload_n 1, 1) := by decide +kernel
theorem dX2_faultIn_62 : decode cX2_faultIn 62 = .ok (.invokevirtual 21, 3) := by decide +kernel
theorem dX2_faultIn_65 : decode cX2_faultIn 65 = .ok (.ifCond .eq 5, 3) := by decide +kernel
theorem dX2_faultIn_68 : decode cX2_faultIn 68 = .ok (.iconst 0, 1) := by decide +kernel
theorem dX2_faultIn_69 : decode cX2_faultIn 69 = .ok (.ireturn, 1) := by decide +kernel
theorem dX2_faultIn_70 : decode cX2_faultIn 70 = .ok (.iload 7, 2) := by decide +kernel
theorem dX2_faultIn_72 : decode cX2_faultIn 72 = .ok (.ifCond .eq 29, 3) := by decide +kernel
theorem dX2_faultIn_75 : decode cX2_faultIn 75 = .ok (.iload 4, 2) := by decide +kernel
theorem dX2_faultIn_77 : decode cX2_faultIn 77 = .ok (.bipush 7, 2) := by decide +kernel
theorem dX2_faultIn_79 : decode cX2_faultIn 79 = .ok (.if_icmp .ge 22, 3) := by decide +kernel
theorem dX2_faultIn_82 : decode cX2_faultIn 82 = .ok (.aload_n 1, 1) := by decide +kernel
theorem dX2_faultIn_83 : decode cX2_faultIn 83 = .ok (.bipush 47, 2) := by decide +kernel
theorem dX2_faultIn_85 : decode cX2_faultIn 85 = .ok (.invokevirtual 25, 3) := by decide +kernel
theorem dX2_faultIn_88 : decode cX2_faultIn 88 = .ok (.ifCond .eq 13, 3) := by decide +kernel
theorem dX2_faultIn_91 : decode cX2_faultIn 91 = .ok (.iload_n 3, 1) := by decide +kernel
theorem dX2_faultIn_92 : decode cX2_faultIn 92 = .ok (.istore_n 2, 1) := by decide +kernel
theorem dX2_faultIn_93 : decode cX2_faultIn 93 = .ok (.iconst 0, 1) := by decide +kernel
theorem dX2_faultIn_94 : decode cX2_faultIn 94 = .ok (.istore_n 3, 1) := by decide +kernel
theorem dX2_faultIn_95 : decode cX2_faultIn 95 = .ok (.iinc 4 1, 3) := by decide +kernel
theorem dX2_faultIn_98 : decode cX2_faultIn 98 = .ok (.goto 59, 3) := by decide +kernel
theorem dX2_faultIn_101 : decode cX2_faultIn 101 = .ok (.iload_n 3, 1) := by decide +kernel
theorem dX2_faultIn_102 : decode cX2_faultIn 102 = .ok (.iload_n 2, 1) := by decide +kernel
theorem dX2_faultIn_103 : decode cX2_faultIn 103 = .ok (.if_icmp .ge 28, 3) := by decide +kernel
theorem dX2_faultIn_106 : decode cX2_faultIn 106 = .ok (.iload 5, 2) := by decide +kernel
theorem dX2_faultIn_108 : decode cX2_faultIn 108 = .ok (.bipush 6, 2) := by decide +kernel
theorem dX2_faultIn_110 : decode cX2_faultIn 110 = .ok (.if_icmp .ge 21, 3) := by decide +kernel
theorem dX2_faultIn_113 : decode cX2_faultIn 113 = .ok (.aload_n 1, 1) := by decide +kernel
theorem dX2_faultIn_114 : decode cX2_faultIn 114 = .ok (.bipush 43, 2) := by decide +kernel
theorem dX2_faultIn_116 : decode cX2_faultIn 116 = .ok (.invokevirtual 25, 3) := by decide +kernel
theorem dX2_faultIn_119 : decode cX2_faultIn 119 = .ok (.ifCond .eq 12, 3) := by decide +kernel
theorem dX2_faultIn_122 : decode cX2_faultIn 122 = .ok (.iinc 5 1, 3) := by decide +kernel
theorem dX2_faultIn_125 : decode cX2_faultIn 125 = .ok (.iinc 3 1, 3) := by decide +kernel
theorem dX2_faultIn_128 : decode cX2_faultIn 128 = .ok (.goto 29, 3) := by decide +kernel
theorem dX2_faultIn_131 : decode cX2_faultIn 131 = .ok (.iload_n 3, 1) := by decide +kernel
theorem dX2_faultIn_132 : decode cX2_faultIn 132 = .ok (.iload_n 2, 1) := by decide +kernel
theorem dX2_faultIn_133 : decode cX2_faultIn 133 = .ok (.if_icmp .ge 19, 3) := by decide +kernel
theorem dX2_faultIn_136 : decode cX2_faultIn 136 = .ok (.aload_n 1, 1) := by decide +kernel
theorem dX2_faultIn_137 : decode cX2_faultIn 137 = .ok (.ldc 29, 2) := by decide +kernel
theorem dX2_faultIn_139 : decode cX2_faultIn 139 = .ok (.invokevirtual 31, 3) := by decide +kernel
theorem dX2_faultIn_142 : decode cX2_faultIn 142 = .ok (.iconst (-1), 1) := by decide +kernel
theorem dX2_faultIn_143 : decode cX2_faultIn 143 = .ok (.if_icmp .eq 9, 3) := by decide +kernel
theorem dX2_faultIn_146 : decode cX2_faultIn 146 = .ok (.iinc 3 1, 3) := by decide +kernel
theorem dX2_faultIn_149 : decode cX2_faultIn 149 = .ok (.goto 8, 3) := by decide +kernel
theorem dX2_faultIn_152 : decode cX2_faultIn 152 = .ok (.aload_n 1, 1) := by decide +kernel
theorem dX2_faultIn_153 : decode cX2_faultIn 153 = .ok (.invokevirtual 35, 3) := by decide +kernel
theorem dX2_faultIn_156 : decode cX2_faultIn 156 = .ok (.ireturn, 1) := by decide +kernel
theorem dX2_faultIn_157 : decode cX2_faultIn 157 = .ok (.iinc 6 1, 3) := by decide +kernel
theorem dX2_faultIn_160 : decode cX2_faultIn 160 = .ok (.goto (-140), 3) := by decide +kernel
theorem dX2_faultIn_163 : decode cX2_faultIn 163 = .ok (.aload_n 1, 1) := by decide +kernel
theorem dX2_faultIn_164 : decode cX2_faultIn 164 = .ok (.invokevirtual 35, 3) := by decide +kernel
theorem dX2_faultIn_167 : decode cX2_faultIn 167 = .ok (.ireturn, 1) := by decide +kernel
theorem dX2_lay_0 : decode cX2_lay 0 = .ok (.aload_n 2, 1) := by decide +kernel
theorem dX2_lay_1 : decode cX2_lay 1 = .ok (.invokevirtual 39, 3) := by decide +kernel
theorem dX2_lay_4 : decode cX2_lay 4 = .ok (.aload_n 0, 1) := by decide +kernel
theorem dX2_lay_5 : decode cX2_lay 5 = .ok (.lconst 0, 1) := by decide +kernel
theorem dX2_lay_6 : decode cX2_lay 6 = .ok (.putfield 44, 3) := by decide +kernel
theorem dX2_lay_9 : decode cX2_lay 9 = .ok (.aload_n 0, 1) := by decide +kernel
theorem dX2_lay_10 : decode cX2_lay 10 = .ok (.lconst 0, 1) := by decide +kernel
theorem dX2_lay_11 : decode cX2_lay 11 = .ok (.putfield 48, 3) := by decide +kernel
theorem dX2_lay_14 : decode cX2_lay 14 = .ok (.aload_n 0, 1) := by decide +kernel
theorem dX2_lay_15 : decode cX2_lay 15 = .ok (.lconst 0, 1) := by decide +kernel
theorem dX2_lay_16 : decode cX2_lay 16 = .ok (.putfield 51, 3) := by decide +kernel
theorem dX2_lay_19 : decode cX2_lay 19 = .ok (.aload_n 0, 1) := by decide +kernel
theorem dX2_lay_20 : decode cX2_lay 20 = .ok (.iconst 0, 1) := by decide +kernel
theorem dX2_lay_21 : decode cX2_lay 21 = .ok (.putfield 54, 3) := by decide +kernel
theorem dX2_lay_24 : decode cX2_lay 24 = .ok (.aload_n 0, 1) := by decide +kernel
theorem dX2_lay_25 : decode cX2_lay 25 = .ok (.iconst 0, 1) := by decide +kernel
theorem dX2_lay_26 : decode cX2_lay 26 = .ok (.putfield 58, 3) := by decide +kernel
theorem dX2_lay_29 : decode cX2_lay 29 = .ok (.aload_n 0, 1) := by decide +kernel
theorem dX2_lay_30 : decode cX2_lay 30 = .ok (.iconst 1, 1) := by decide +kernel
theorem dX2_lay_31 : decode cX2_lay 31 = .ok (.putfield 61, 3) := by decide +kernel
theorem dX2_lay_34 : decode cX2_lay 34 = .ok (.iconst 0, 1) := by decide +kernel
theorem dX2_lay_35 : decode cX2_lay 35 = .ok (.istore_n 3, 1) := by decide +kernel
theorem dX2_lay_36 : decode cX2_lay 36 = .ok (.aload_n 1, 1) := by decide +kernel
theorem dX2_lay_37 : decode cX2_lay 37 = .ok (.bipush 76, 2) := by decide +kernel
theorem dX2_lay_39 : decode cX2_lay 39 = .ok (.invokevirtual 15, 3) := by decide +kernel
theorem dX2_lay_42 : decode cX2_lay 42 = .ok (.iconst 0, 1) := by decide +kernel
theorem dX2_lay_43 : decode cX2_lay 43 = .ok (.istore 4, 2) := by decide +kernel
theorem dX2_lay_45 : decode cX2_lay 45 = .ok (.iload 4, 2) := by decide +kernel
theorem dX2_lay_47 : decode cX2_lay 47 = .ok (.bipush 76, 2) := by decide +kernel
theorem dX2_lay_49 : decode cX2_lay 49 = .ok (.if_icmp .ge 72, 3) := by decide +kernel
theorem dX2_lay_52 : decode cX2_lay 52 = .ok (.aload_n 1, 1) := by decide +kernel
theorem dX2_lay_53 : decode cX2_lay 53 = .ok (.invokevirtual 21, 3) := by decide +kernel
theorem dX2_lay_56 : decode cX2_lay 56 = .ok (.ifCond .ne 65, 3) := by decide +kernel
theorem dX2_lay_59 : decode cX2_lay 59 = .ok (.aload_n 1, 1) := by decide +kernel
theorem dX2_lay_60 : decode cX2_lay 60 = .ok (.bipush 47, 2) := by decide +kernel
theorem dX2_lay_62 : decode cX2_lay 62 = .ok (.invokevirtual 25, 3) := by decide +kernel
theorem dX2_lay_65 : decode cX2_lay 65 = .ok (.ifCond .eq 18, 3) := by decide +kernel
theorem dX2_lay_68 : decode cX2_lay 68 = .ok (.aload_n 0, 1) := by decide +kernel
theorem dX2_lay_69 : decode cX2_lay 69 = .ok (.dup, 1) := by decide +kernel
theorem dX2_lay_70 : decode cX2_lay 70 = .ok (.getfield 61, 3) := by decide +kernel
theorem dX2_lay_73 : decode cX2_lay 73 = .ok (.iconst 1, 1) := by decide +kernel
theorem dX2_lay_74 : decode cX2_lay 74 = .ok (.iadd, 1) := by decide +kernel
theorem dX2_lay_75 : decode cX2_lay 75 = .ok (.putfield 61, 3) := by decide +kernel
theorem dX2_lay_78 : decode cX2_lay 78 = .ok (.iconst 0, 1) := by decide +kernel
theorem dX2_lay_79 : decode cX2_lay 79 = .ok (.istore_n 3, 1) := by decide +kernel
theorem dX2_lay_80 : decode cX2_lay 80 = .ok (.goto 35, 3) := by decide +kernel
theorem dX2_lay_83 : decode cX2_lay 83 = .ok (.aload_n 0, 1) := by decide +kernel
theorem dX2_lay_84 : decode cX2_lay 84 = .ok (.bipush 8, 2) := by decide +kernel
theorem dX2_lay_86 : decode cX2_lay 86 = .ok (.aload_n 0, 1) := by decide +kernel
theorem dX2_lay_87 : decode cX2_lay 87 = .ok (.getfield 61, 3) := by decide +kernel
theorem dX2_lay_90 : decode cX2_lay 90 = .ok (.iconst 1, 1) := by decide +kernel
theorem dX2_lay_91 : decode cX2_lay 91 = .ok (.isub, 1) := by decide +kernel
theorem dX2_lay_92 : decode cX2_lay 92 = .ok (.imul, 1) := by decide +kernel
theorem dX2_lay_93 : decode cX2_lay 93 = .ok (.iload_n 3, 1) := by decide +kernel
theorem dX2_lay_94 : decode cX2_lay 94 = .ok (.iadd, 1) := by decide +kernel
theorem dX2_lay_95 : decode cX2_lay 95 = .ok (.aload_n 1, 1) := by decide +kernel
theorem dX2_lay_96 : decode cX2_lay 96 = .ok (.aload_n 2, 1) := by decide +kernel
theorem dX2_lay_97 : decode cX2_lay 97 = .ok (.invokevirtual 64, 3) := by decide +kernel
theorem dX2_lay_100 : decode cX2_lay 100 = .ok (.iinc 3 1, 3) := by decide +kernel
theorem dX2_lay_103 : decode cX2_lay 103 = .ok (.aload_n 0, 1) := by decide +kernel
theorem dX2_lay_104 : decode cX2_lay 104 = .ok (.aload_n 0, 1) := by decide +kernel
theorem dX2_lay_105 : decode cX2_lay 105 = .ok (.getfield 58, 3) := by decide +kernel
theorem dX2_lay_108 : decode cX2_lay 108 = .ok (.iload_n 3, 1) := by decide +kernel
theorem dX2_lay_109 : decode cX2_lay 109 = .ok (.invokestatic 68, 3) := by decide +kernel
theorem dX2_lay_112 : decode cX2_lay 112 = .ok (.putfield 58, 3) := by decide +kernel
theorem dX2_lay_115 : decode cX2_lay 115 = .ok (.iinc 4 1, 3) := by decide +kernel
theorem dX2_lay_118 : decode cX2_lay 118 = .ok (.goto (-73), 3) := by decide +kernel
theorem dX2_lay_121 : decode cX2_lay 121 = .ok (.return_, 1) := by decide +kernel
theorem dX2_layCell_0 : decode cX2_layCell 0 = .ok (.iload_n 1, 1) := by decide +kernel
theorem dX2_layCell_1 : decode cX2_layCell 1 = .ok (.ifCond .lt 9, 3) := by decide +kernel
theorem dX2_layCell_4 : decode cX2_layCell 4 = .ok (.iload_n 1, 1) := by decide +kernel
theorem dX2_layCell_5 : decode cX2_layCell 5 = .ok (.bipush 64, 2) := by decide +kernel
theorem dX2_layCell_7 : decode cX2_layCell 7 = .ok (.if_icmp .lt 4, 3) := by decide +kernel
theorem dX2_layCell_10 : decode cX2_layCell 10 = .ok (.return_, 1) := by decide +kernel
theorem dX2_layCell_11 : decode cX2_layCell 11 = .ok (.aload_n 0, 1) := by decide +kernel
theorem dX2_layCell_12 : decode cX2_layCell 12 = .ok (.dup, 1) := by decide +kernel
theorem dX2_layCell_13 : decode cX2_layCell 13 = .ok (.getfield 44, 3) := by decide +kernel
theorem dX2_layCell_16 : decode cX2_layCell 16 = .ok (.iload_n 1, 1) := by decide +kernel
theorem dX2_layCell_17 : decode cX2_layCell 17 = .ok (.invokestatic 74, 3) := by decide +kernel
theorem dX2_layCell_20 : decode cX2_layCell 20 = .ok (.lor, 1) := by decide +kernel
theorem dX2_layCell_21 : decode cX2_layCell 21 = .ok (.putfield 44, 3) := by decide +kernel
theorem dX2_layCell_24 : decode cX2_layCell 24 = .ok (.aload_n 2, 1) := by decide +kernel
theorem dX2_layCell_25 : decode cX2_layCell 25 = .ok (.bipush 35, 2) := by decide +kernel
theorem dX2_layCell_27 : decode cX2_layCell 27 = .ok (.invokevirtual 25, 3) := by decide +kernel
theorem dX2_layCell_30 : decode cX2_layCell 30 = .ok (.ifCond .eq 19, 3) := by decide +kernel
theorem dX2_layCell_33 : decode cX2_layCell 33 = .ok (.aload_n 0, 1) := by decide +kernel
theorem dX2_layCell_34 : decode cX2_layCell 34 = .ok (.dup, 1) := by decide +kernel
theorem dX2_layCell_35 : decode cX2_layCell 35 = .ok (.getfield 51, 3) := by decide +kernel
theorem dX2_layCell_38 : decode cX2_layCell 38 = .ok (.iload_n 1, 1) := by decide +kernel
theorem dX2_layCell_39 : decode cX2_layCell 39 = .ok (.invokestatic 74, 3) := by decide +kernel
theorem dX2_layCell_42 : decode cX2_layCell 42 = .ok (.lor, 1) := by decide +kernel
theorem dX2_layCell_43 : decode cX2_layCell 43 = .ok (.putfield 51, 3) := by decide +kernel
theorem dX2_layCell_46 : decode cX2_layCell 46 = .ok (.goto 74, 3) := by decide +kernel
theorem dX2_layCell_49 : decode cX2_layCell 49 = .ok (.aload_n 0, 1) := by decide +kernel
theorem dX2_layCell_50 : decode cX2_layCell 50 = .ok (.getfield 54, 3) := by decide +kernel
theorem dX2_layCell_53 : decode cX2_layCell 53 = .ok (.bipush 6, 2) := by decide +kernel
theorem dX2_layCell_55 : decode cX2_layCell 55 = .ok (.if_icmp .ge 35, 3) := by decide +kernel
theorem dX2_layCell_58 : decode cX2_layCell 58 = .ok (.aload_n 2, 1) := by decide +kernel
theorem dX2_layCell_59 : decode cX2_layCell 59 = .ok (.bipush 43, 2) := by decide +kernel
theorem dX2_layCell_61 : decode cX2_layCell 61 = .ok (.invokevirtual 25, 3) := by decide +kernel
theorem dX2_layCell_64 : decode cX2_layCell 64 = .ok (.ifCond .eq 26, 3) := by decide +kernel
theorem dX2_layCell_67 : decode cX2_layCell 67 = .ok (.aload_n 0, 1) := by decide +kernel
theorem dX2_layCell_68 : decode cX2_layCell 68 = .ok (.getfield 9, 3) := by decide +kernel
theorem dX2_layCell_71 : decode cX2_layCell 71 = .ok (.aload_n 0, 1) := by decide +kernel
theorem dX2_layCell_72 : decode cX2_layCell 72 = .ok (.getfield 54, 3) := by decide +kernel
theorem dX2_layCell_75 : decode cX2_layCell 75 = .ok (.iload_n 1, 1) := by decide +kernel
theorem dX2_layCell_76 : decode cX2_layCell 76 = .ok (.iastore, 1) := by decide +kernel
theorem dX2_layCell_77 : decode cX2_layCell 77 = .ok (.aload_n 0, 1) := by decide +kernel
theorem dX2_layCell_78 : decode cX2_layCell 78 = .ok (.dup, 1) := by decide +kernel
theorem dX2_layCell_79 : decode cX2_layCell 79 = .ok (.getfield 54, 3) := by decide +kernel
theorem dX2_layCell_82 : decode cX2_layCell 82 = .ok (.iconst 1, 1) := by decide +kernel
theorem dX2_layCell_83 : decode cX2_layCell 83 = .ok (.iadd, 1) := by decide +kernel
theorem dX2_layCell_84 : decode cX2_layCell 84 = .ok (.putfield 54, 3) := by decide +kernel
theorem dX2_layCell_87 : decode cX2_layCell 87 = .ok (.goto 33, 3) := by decide +kernel
theorem dX2_layCell_90 : decode cX2_layCell 90 = .ok (.aload_n 0, 1) := by decide +kernel
theorem dX2_layCell_91 : decode cX2_layCell 91 = .ok (.dup, 1) := by decide +kernel
theorem dX2_layCell_92 : decode cX2_layCell 92 = .ok (.getfield 48, 3) := by decide +kernel
theorem dX2_layCell_95 : decode cX2_layCell 95 = .ok (.iload_n 1, 1) := by decide +kernel
theorem dX2_layCell_96 : decode cX2_layCell 96 = .ok (.invokestatic 74, 3) := by decide +kernel
theorem dX2_layCell_99 : decode cX2_layCell 99 = .ok (.lor, 1) := by decide +kernel
theorem dX2_layCell_100 : decode cX2_layCell 100 = .ok (.putfield 48, 3) := by decide +kernel
theorem dX2_layCell_103 : decode cX2_layCell 103 = .ok (.aload_n 3, 1) := by decide +kernel
theorem dX2_layCell_104 : decode cX2_layCell 104 = .ok (.getfield 80, 3) := by decide +kernel
theorem dX2_layCell_107 : decode cX2_layCell 107 = .ok (.iload_n 1, 1) := by decide +kernel
theorem dX2_layCell_108 : decode cX2_layCell 108 = .ok (.iconst 0, 1) := by decide +kernel
theorem dX2_layCell_109 : decode cX2_layCell 109 = .ok (.aload_n 2, 1) := by decide +kernel
theorem dX2_layCell_110 : decode cX2_layCell 110 = .ok (.iconst 0, 1) := by decide +kernel
theorem dX2_layCell_111 : decode cX2_layCell 111 = .ok (.bipush 9, 2) := by decide +kernel
theorem dX2_layCell_113 : decode cX2_layCell 113 = .ok (.invokevirtual 83, 3) := by decide +kernel
theorem dX2_layCell_116 : decode cX2_layCell 116 = .ok (.invokestatic 68, 3) := by decide +kernel
theorem dX2_layCell_119 : decode cX2_layCell 119 = .ok (.iastore, 1) := by decide +kernel
theorem dX2_layCell_120 : decode cX2_layCell 120 = .ok (.return_, 1) := by decide +kernel
theorem dX2_isThere_0 : decode cX2_isThere 0 = .ok (.aload_n 0, 1) := by decide +kernel
theorem dX2_isThere_1 : decode cX2_isThere 1 = .ok (.getfield 44, 3) := by decide +kernel
theorem dX2_isThere_4 : decode cX2_isThere 4 = .ok (.iload_n 1, 1) := by decide +kernel
theorem dX2_isThere_5 : decode cX2_isThere 5 = .ok (.invokestatic 86, 3) := by decide +kernel
theorem dX2_isThere_8 : decode cX2_isThere 8 = .ok (.ireturn, 1) := by decide +kernel
theorem dX2_isPlain_0 : decode cX2_isPlain 0 = .ok (.aload_n 0, 1) := by decide +kernel
theorem dX2_isPlain_1 : decode cX2_isPlain 1 = .ok (.getfield 48, 3) := by decide +kernel
theorem dX2_isPlain_4 : decode cX2_isPlain 4 = .ok (.iload_n 1, 1) := by decide +kernel
theorem dX2_isPlain_5 : decode cX2_isPlain 5 = .ok (.invokestatic 86, 3) := by decide +kernel
theorem dX2_isPlain_8 : decode cX2_isPlain 8 = .ok (.ireturn, 1) := by decide +kernel
theorem dX2_kindOf_0 : decode cX2_kindOf 0 = .ok (.aload_n 0, 1) := by decide +kernel
theorem dX2_kindOf_1 : decode cX2_kindOf 1 = .ok (.getfield 48, 3) := by decide +kernel
theorem dX2_kindOf_4 : decode cX2_kindOf 4 = .ok (.iload_n 1, 1) := by decide +kernel
theorem dX2_kindOf_5 : decode cX2_kindOf 5 = .ok (.invokestatic 86, 3) := by decide +kernel
theorem dX2_kindOf_8 : decode cX2_kindOf 8 = .ok (.ifCond .eq 5, 3) := by decide +kernel
theorem dX2_kindOf_11 : decode cX2_kindOf 11 = .ok (.iconst 0, 1) := by decide +kernel
theorem dX2_kindOf_12 : decode cX2_kindOf 12 = .ok (.ireturn, 1) := by decide +kernel
theorem dX2_kindOf_13 : decode cX2_kindOf 13 = .ok (.aload_n 0, 1) := by decide +kernel
theorem dX2_kindOf_14 : decode cX2_kindOf 14 = .ok (.getfield 51, 3) := by decide +kernel
theorem dX2_kindOf_17 : decode cX2_kindOf 17 = .ok (.iload_n 1, 1) := by decide +kernel
theorem dX2_kindOf_18 : decode cX2_kindOf 18 = .ok (.invokestatic 86, 3) := by decide +kernel
theorem dX2_kindOf_21 : decode cX2_kindOf 21 = .ok (.ifCond .eq 5, 3) := by decide +kernel
theorem dX2_kindOf_24 : decode cX2_kindOf 24 = .ok (.iconst 1, 1) := by decide +kernel
theorem dX2_kindOf_25 : decode cX2_kindOf 25 = .ok (.ireturn, 1) := by decide +kernel
theorem dX2_kindOf_26 : decode cX2_kindOf 26 = .ok (.aload_n 0, 1) := by decide +kernel
theorem dX2_kindOf_27 : decode cX2_kindOf 27 = .ok (.iload_n 2, 1) := by decide +kernel
theorem dX2_kindOf_28 : decode cX2_kindOf 28 = .ok (.invokevirtual 90, 3) := by decide +kernel
theorem dX2_kindOf_31 : decode cX2_kindOf 31 = .ok (.iload_n 1, 1) := by decide +kernel
theorem dX2_kindOf_32 : decode cX2_kindOf 32 = .ok (.invokestatic 86, 3) := by decide +kernel
theorem dX2_kindOf_35 : decode cX2_kindOf 35 = .ok (.ifCond .eq 7, 3) := by decide +kernel
theorem dX2_kindOf_38 : decode cX2_kindOf 38 = .ok (.iconst 3, 1) := by decide +kernel
theorem dX2_kindOf_39 : decode cX2_kindOf 39 = .ok (.goto 4, 3) := by decide +kernel
theorem dX2_kindOf_42 : decode cX2_kindOf 42 = .ok (.iconst 2, 1) := by decide +kernel
theorem dX2_kindOf_43 : decode cX2_kindOf 43 = .ok (.ireturn, 1) := by decide +kernel
theorem dX2_openTo_0 : decode cX2_openTo 0 = .ok (.aload_n 0, 1) := by decide +kernel
theorem dX2_openTo_1 : decode cX2_openTo 1 = .ok (.getfield 48, 3) := by decide +kernel
theorem dX2_openTo_4 : decode cX2_openTo 4 = .ok (.lstore_n 2, 1) := by decide +kernel
theorem dX2_openTo_5 : decode cX2_openTo 5 = .ok (.iconst 0, 1) := by decide +kernel
theorem dX2_openTo_6 : decode cX2_openTo 6 = .ok (.istore 4, 2) := by decide +kernel
theorem dX2_openTo_8 : decode cX2_openTo 8 = .ok (.iload 4, 2) := by decide +kernel
theorem dX2_openTo_10 : decode cX2_openTo 10 = .ok (.aload_n 0, 1) := by decide +kernel
theorem dX2_openTo_11 : decode cX2_openTo 11 = .ok (.getfield 54, 3) := by decide +kernel
theorem dX2_openTo_14 : decode cX2_openTo 14 = .ok (.if_icmp .ge 31, 3) := by decide +kernel
theorem dX2_openTo_17 : decode cX2_openTo 17 = .ok (.iload_n 1, 1) := by decide +kernel
theorem dX2_openTo_18 : decode cX2_openTo 18 = .ok (.iload 4, 2) := by decide +kernel
theorem dX2_openTo_20 : decode cX2_openTo 20 = .ok (.ishr, 1) := by decide +kernel
theorem dX2_openTo_21 : decode cX2_openTo 21 = .ok (.iconst 1, 1) := by decide +kernel
theorem dX2_openTo_22 : decode cX2_openTo 22 = .ok (.iand, 1) := by decide +kernel
theorem dX2_openTo_23 : decode cX2_openTo 23 = .ok (.ifCond .eq 16, 3) := by decide +kernel
theorem dX2_openTo_26 : decode cX2_openTo 26 = .ok (.lload_n 2, 1) := by decide +kernel
theorem dX2_openTo_27 : decode cX2_openTo 27 = .ok (.aload_n 0, 1) := by decide +kernel
theorem dX2_openTo_28 : decode cX2_openTo 28 = .ok (.getfield 9, 3) := by decide +kernel
theorem dX2_openTo_31 : decode cX2_openTo 31 = .ok (.iload 4, 2) := by decide +kernel
theorem dX2_openTo_33 : decode cX2_openTo 33 = .ok (.iaload, 1) := by decide +kernel
theorem dX2_openTo_34 : decode cX2_openTo 34 = .ok (.invokestatic 74, 3) := by decide +kernel
theorem dX2_openTo_37 : decode cX2_openTo 37 = .ok (.lor, 1) := by decide +kernel
theorem dX2_openTo_38 : decode cX2_openTo 38 = .ok (.lstore_n 2, 1) := by decide +kernel
theorem dX2_openTo_39 : decode cX2_openTo 39 = .ok (.iinc 4 1, 3) := by decide +kernel
theorem dX2_openTo_42 : decode cX2_openTo 42 = .ok (.goto (-34), 3) := by decide +kernel
theorem dX2_openTo_45 : decode cX2_openTo 45 = .ok (.lload_n 2, 1) := by decide +kernel
theorem dX2_openTo_46 : decode cX2_openTo 46 = .ok (.lreturn, 1) := by decide +kernel
theorem dX2_gatesIn_0 : decode cX2_gatesIn 0 = .ok (.iconst 0, 1) := by decide +kernel
theorem dX2_gatesIn_1 : decode cX2_gatesIn 1 = .ok (.istore_n 3, 1) := by decide +kernel
theorem dX2_gatesIn_2 : decode cX2_gatesIn 2 = .ok (.iconst 0, 1) := by decide +kernel
theorem dX2_gatesIn_3 : decode cX2_gatesIn 3 = .ok (.istore 4, 2) := by decide +kernel
theorem dX2_gatesIn_5 : decode cX2_gatesIn 5 = .ok (.iload 4, 2) := by decide +kernel
theorem dX2_gatesIn_7 : decode cX2_gatesIn 7 = .ok (.aload_n 0, 1) := by decide +kernel
theorem dX2_gatesIn_8 : decode cX2_gatesIn 8 = .ok (.getfield 54, 3) := by decide +kernel
theorem dX2_gatesIn_11 : decode cX2_gatesIn 11 = .ok (.if_icmp .ge 30, 3) := by decide +kernel
theorem dX2_gatesIn_14 : decode cX2_gatesIn 14 = .ok (.lload_n 1, 1) := by decide +kernel
theorem dX2_gatesIn_15 : decode cX2_gatesIn 15 = .ok (.aload_n 0, 1) := by decide +kernel
theorem dX2_gatesIn_16 : decode cX2_gatesIn 16 = .ok (.getfield 9, 3) := by decide +kernel
theorem dX2_gatesIn_19 : decode cX2_gatesIn 19 = .ok (.iload 4, 2) := by decide +kernel
theorem dX2_gatesIn_21 : decode cX2_gatesIn 21 = .ok (.iaload, 1) := by decide +kernel
theorem dX2_gatesIn_22 : decode cX2_gatesIn 22 = .ok (.invokestatic 86, 3) := by decide +kernel
theorem dX2_gatesIn_25 : decode cX2_gatesIn 25 = .ok (.ifCond .eq 10, 3) := by decide +kernel
theorem dX2_gatesIn_28 : decode cX2_gatesIn 28 = .ok (.iload_n 3, 1) := by decide +kernel
theorem dX2_gatesIn_29 : decode cX2_gatesIn 29 = .ok (.iconst 1, 1) := by decide +kernel
theorem dX2_gatesIn_30 : decode cX2_gatesIn 30 = .ok (.iload 4, 2) := by decide +kernel
theorem dX2_gatesIn_32 : decode cX2_gatesIn 32 = .ok (.ishl, 1) := by decide +kernel
theorem dX2_gatesIn_33 : decode cX2_gatesIn 33 = .ok (.ior, 1) := by decide +kernel
theorem dX2_gatesIn_34 : decode cX2_gatesIn 34 = .ok (.istore_n 3, 1) := by decide +kernel
theorem dX2_gatesIn_35 : decode cX2_gatesIn 35 = .ok (.iinc 4 1, 3) := by decide +kernel
theorem dX2_gatesIn_38 : decode cX2_gatesIn 38 = .ok (.goto (-33), 3) := by decide +kernel
theorem dX2_gatesIn_41 : decode cX2_gatesIn 41 = .ok (.iload_n 3, 1) := by decide +kernel
theorem dX2_gatesIn_42 : decode cX2_gatesIn 42 = .ok (.ireturn, 1) := by decide +kernel
theorem dX2_cellToldAs_0 : decode cX2_cellToldAs 0 = .ok (.aload_n 0, 1) := by decide +kernel
theorem dX2_cellToldAs_1 : decode cX2_cellToldAs 1 = .ok (.getfield 58, 3) := by decide +kernel
theorem dX2_cellToldAs_4 : decode cX2_cellToldAs 4 = .ok (.iconst 1, 1) := by decide +kernel
theorem dX2_cellToldAs_5 : decode cX2_cellToldAs 5 = .ok (.if_icmp .ge 7, 3) := by decide +kernel
theorem dX2_cellToldAs_8 : decode cX2_cellToldAs 8 = .ok (.iconst (-1), 1) := by decide +kernel
theorem dX2_cellToldAs_9 : decode cX2_cellToldAs 9 = .ok (.goto 19, 3) := by decide +kernel
theorem dX2_cellToldAs_12 : decode cX2_cellToldAs 12 = .ok (.bipush 8, 2) := by decide +kernel
theorem dX2_cellToldAs_14 : decode cX2_cellToldAs 14 = .ok (.iload_n 1, 1) := by decide +kernel
theorem dX2_cellToldAs_15 : decode cX2_cellToldAs 15 = .ok (.aload_n 0, 1) := by decide +kernel
theorem dX2_cellToldAs_16 : decode cX2_cellToldAs 16 = .ok (.getfield 58, 3) := by decide +kernel
theorem dX2_cellToldAs_19 : decode cX2_cellToldAs 19 = .ok (.idiv, 1) := by decide +kernel
theorem dX2_cellToldAs_20 : decode cX2_cellToldAs 20 = .ok (.imul, 1) := by decide +kernel
theorem dX2_cellToldAs_21 : decode cX2_cellToldAs 21 = .ok (.iload_n 1, 1) := by decide +kernel
theorem dX2_cellToldAs_22 : decode cX2_cellToldAs 22 = .ok (.aload_n 0, 1) := by decide +kernel
theorem dX2_cellToldAs_23 : decode cX2_cellToldAs 23 = .ok (.getfield 58, 3) := by decide +kernel
theorem dX2_cellToldAs_26 : decode cX2_cellToldAs 26 = .ok (.irem, 1) := by decide +kernel
theorem dX2_cellToldAs_27 : decode cX2_cellToldAs 27 = .ok (.iadd, 1) := by decide +kernel
theorem dX2_cellToldAs_28 : decode cX2_cellToldAs 28 = .ok (.ireturn, 1) := by decide +kernel
theorem dX3_init_0 : decode cX3_init 0 = .ok (.aload_n 0, 1) := by decide +kernel
theorem dX3_init_1 : decode cX3_init 1 = .ok (.invokespecial 1, 3) := by decide +kernel
theorem dX3_init_4 : decode cX3_init 4 = .ok (.aload_n 0, 1) := by decide +kernel
theorem dX3_init_5 : decode cX3_init 5 = .ok (.bipush 10, 2) := by decide +kernel
theorem dX3_init_7 : decode cX3_init 7 = .ok (.anewarray 9, 3) := by decide +kernel
theorem dX3_init_10 : decode cX3_init 10 = .ok (.putfield 11, 3) := by decide +kernel
theorem dX3_init_13 : decode cX3_init 13 = .ok (.iconst 0, 1) := by decide +kernel
theorem dX3_init_14 : decode cX3_init 14 = .ok (.istore_n 1, 1) := by decide +kernel
theorem dX3_init_15 : decode cX3_init 15 = .ok (.iload_n 1, 1) := by decide +kernel
theorem dX3_init_16 : decode cX3_init 16 = .ok (.bipush 10, 2) := by decide +kernel
theorem dX3_init_18 : decode cX3_init 18 = .ok (.if_icmp .ge 22, 3) := by decide +kernel
theorem dX3_init_21 : decode cX3_init 21 = .ok (.aload_n 0, 1) := by decide +kernel
theorem dX3_init_22 : decode cX3_init 22 = .ok (.getfield 11, 3) := by decide +kernel
theorem dX3_init_25 : decode cX3_init 25 = .ok (.iload_n 1, 1) := by decide +kernel
theorem dX3_init_26 : decode cX3_init 26 = .ok (.new 9, 3) := by decide +kernel
theorem dX3_init_29 : decode cX3_init 29 = .ok (.dup, 1) := by decide +kernel
theorem dX3_init_30 : decode cX3_init 30 = .ok (.invokespecial 15, 3) := by decide +kernel
theorem dX3_init_33 : decode cX3_init 33 = .ok (.aastore, 1) := by decide +kernel
theorem dX3_init_34 : decode cX3_init 34 = .ok (.iinc 1 1, 3) := by decide +kernel
theorem dX3_init_37 : decode cX3_init 37 = .ok (.goto (-22), 3) := by decide +kernel
theorem dX3_init_40 : decode cX3_init 40 = .ok (.return_, 1) := by decide +kernel
theorem dX3_forget_0 : decode cX3_forget 0 = .ok (.aload_n 0, 1) := by decide +kernel
theorem dX3_forget_1 : decode cX3_forget 1 = .ok (.iconst 0, 1) := by decide +kernel
theorem dX3_forget_2 : decode cX3_forget 2 = .ok (.putfield 16, 3) := by decide +kernel
theorem dX3_forget_5 : decode cX3_forget 5 = .ok (.return_, 1) := by decide +kernel
theorem dX3_add_0 : decode cX3_add 0 = .ok (.aload_n 0, 1) := by decide +kernel
theorem dX3_add_1 : decode cX3_add 1 = .ok (.getfield 11, 3) := by decide +kernel
theorem dX3_add_4 : decode cX3_add 4 = .ok (.aload_n 0, 1) := by decide +kernel
theorem dX3_add_5 : decode cX3_add 5 = .ok (.getfield 20, 3) := by decide +kernel
theorem dX3_add_8 : decode cX3_add 8 = .ok (.aaload, 1) := by decide +kernel
theorem dX3_add_9 : decode cX3_add 9 = .ok (.aload_n 1, 1) := by decide +kernel
theorem dX3_add_10 : decode cX3_add 10 = .ok (.invokevirtual 23, 3) := by decide +kernel
theorem dX3_add_13 : decode cX3_add 13 = .ok (.aload_n 0, 1) := by decide +kernel
theorem dX3_add_14 : decode cX3_add 14 = .ok (.aload_n 0, 1) := by decide +kernel
theorem dX3_add_15 : decode cX3_add 15 = .ok (.getfield 20, 3) := by decide +kernel
theorem dX3_add_18 : decode cX3_add 18 = .ok (.iconst 1, 1) := by decide +kernel
theorem dX3_add_19 : decode cX3_add 19 = .ok (.iadd, 1) := by decide +kernel
theorem dX3_add_20 : decode cX3_add 20 = .ok (.bipush 10, 2) := by decide +kernel
theorem dX3_add_22 : decode cX3_add 22 = .ok (.irem, 1) := by decide +kernel
theorem dX3_add_23 : decode cX3_add 23 = .ok (.putfield 20, 3) := by decide +kernel
theorem dX3_add_26 : decode cX3_add 26 = .ok (.aload_n 0, 1) := by decide +kernel
theorem dX3_add_27 : decode cX3_add 27 = .ok (.bipush 10, 2) := by decide +kernel
theorem dX3_add_29 : decode cX3_add 29 = .ok (.aload_n 0, 1) := by decide +kernel
theorem dX3_add_30 : decode cX3_add 30 = .ok (.getfield 16, 3) := by decide +kernel
theorem dX3_add_33 : decode cX3_add 33 = .ok (.iconst 1, 1) := by decide +kernel
theorem dX3_add_34 : decode cX3_add 34 = .ok (.iadd, 1) := by decide +kernel
theorem dX3_add_35 : decode cX3_add 35 = .ok (.invokestatic 27, 3) := by decide +kernel
theorem dX3_add_38 : decode cX3_add 38 = .ok (.putfield 16, 3) := by decide +kernel
theorem dX3_add_41 : decode cX3_add 41 = .ok (.return_, 1) := by decide +kernel
theorem dX3_bringBack_0 : decode cX3_bringBack 0 = .ok (.aload_n 0, 1) := by decide +kernel
theorem dX3_bringBack_1 : decode cX3_bringBack 1 = .ok (.getfield 16, 3) := by decide +kernel
theorem dX3_bringBack_4 : decode cX3_bringBack 4 = .ok (.ifCond .ne 5, 3) := by decide +kernel
theorem dX3_bringBack_7 : decode cX3_bringBack 7 = .ok (.iconst 0, 1) := by decide +kernel
theorem dX3_bringBack_8 : decode cX3_bringBack 8 = .ok (.ireturn, 1) := by decide +kernel
theorem dX3_bringBack_9 : decode cX3_bringBack 9 = .ok (.aload_n 0, 1) := by decide +kernel
theorem dX3_bringBack_10 : decode cX3_bringBack 10 = .ok (.aload_n 0, 1) := by decide +kernel
theorem dX3_bringBack_11 : decode cX3_bringBack 11 = .ok (.getfield 20, 3) := by decide +kernel
theorem dX3_bringBack_14 : decode cX3_bringBack 14 = .ok (.bipush 10, 2) := by decide +kernel
theorem dX3_bringBack_16 : decode cX3_bringBack 16 = .ok (.iadd, 1) := by decide +kernel
theorem dX3_bringBack_17 : decode cX3_bringBack 17 = .ok (.iconst 1, 1) := by decide +kernel
theorem dX3_bringBack_18 : decode cX3_bringBack 18 = .ok (.isub, 1) := by decide +kernel
theorem dX3_bringBack_19 : decode cX3_bringBack 19 = .ok (.bipush 10, 2) := by decide +kernel
theorem dX3_bringBack_21 : decode cX3_bringBack 21 = .ok (.irem, 1) := by decide +kernel
theorem dX3_bringBack_22 : decode cX3_bringBack 22 = .ok (.putfield 20, 3) := by decide +kernel
theorem dX3_bringBack_25 : decode cX3_bringBack 25 = .ok (.aload_n 1, 1) := by decide +kernel
theorem dX3_bringBack_26 : decode cX3_bringBack 26 = .ok (.aload_n 0, 1) := by decide +kernel
theorem dX3_bringBack_27 : decode cX3_bringBack 27 = .ok (.getfield 11, 3) := by decide +kernel
theorem dX3_bringBack_30 : decode cX3_bringBack 30 = .ok (.aload_n 0, 1) := by decide +kernel
theorem dX3_bringBack_31 : decode cX3_bringBack 31 = .ok (.getfield 20, 3) := by decide +kernel
theorem dX3_bringBack_34 : decode cX3_bringBack 34 = .ok (.aaload, 1) := by decide +kernel
theorem dX3_bringBack_35 : decode cX3_bringBack 35 = .ok (.invokevirtual 23, 3) := by decide +kernel
theorem dX3_bringBack_38 : decode cX3_bringBack 38 = .ok (.aload_n 0, 1) := by decide +kernel
theorem dX3_bringBack_39 : decode cX3_bringBack 39 = .ok (.dup, 1) := by decide +kernel
theorem dX3_bringBack_40 : decode cX3_bringBack 40 = .ok (.getfield 16, 3) := by decide +kernel
theorem dX3_bringBack_43 : decode cX3_bringBack 43 = .ok (.iconst 1, 1) := by decide +kernel
theorem dX3_bringBack_44 : decode cX3_bringBack 44 = .ok (.isub, 1) := by decide +kernel
theorem dX3_bringBack_45 : decode cX3_bringBack 45 = .ok (.putfield 16, 3) := by decide +kernel
theorem dX3_bringBack_48 : decode cX3_bringBack 48 = .ok (.iconst 1, 1) := by decide +kernel
theorem dX3_bringBack_49 : decode cX3_bringBack 49 = .ok (.ireturn, 1) := by decide +kernel
theorem dX4_init_0 : decode cX4_init 0 = .ok (.aload_n 0, 1) := by decide +kernel
theorem dX4_init_1 : decode cX4_init 1 = .ok (.invokespecial 1, 3) := by decide +kernel
theorem dX4_init_4 : decode cX4_init 4 = .ok (.aload_n 0, 1) := by decide +kernel
theorem dX4_init_5 : decode cX4_init 5 = .ok (.bipush 14, 2) := by decide +kernel
theorem dX4_init_7 : decode cX4_init 7 = .ok (.newarray .long, 2) := by decide +kernel
theorem dX4_init_9 : decode cX4_init 9 = .ok (.putfield 9, 3) := by decide +kernel
theorem dX4_init_12 : decode cX4_init 12 = .ok (.return_, 1) := by decide +kernel
theorem dX4_start_0 : decode cX4_start 0 = .ok (.aload_n 0, 1) := by decide +kernel
theorem dX4_start_1 : decode cX4_start 1 = .ok (.iconst 0, 1) := by decide +kernel
theorem dX4_start_2 : decode cX4_start 2 = .ok (.putfield 13, 3) := by decide +kernel
theorem dX4_start_5 : decode cX4_start 5 = .ok (.return_, 1) := by decide +kernel
theorem dX4_put_0 : decode cX4_put 0 = .ok (.aload_n 0, 1) := by decide +kernel
theorem dX4_put_1 : decode cX4_put 1 = .ok (.getfield 13, 3) := by decide +kernel
theorem dX4_put_4 : decode cX4_put 4 = .ok (.bipush 14, 2) := by decide +kernel
theorem dX4_put_6 : decode cX4_put 6 = .ok (.if_icmp .ge 23, 3) := by decide +kernel
theorem dX4_put_9 : decode cX4_put 9 = .ok (.aload_n 0, 1) := by decide +kernel
theorem dX4_put_10 : decode cX4_put 10 = .ok (.getfield 9, 3) := by decide +kernel
theorem dX4_put_13 : decode cX4_put 13 = .ok (.aload_n 0, 1) := by decide +kernel
theorem dX4_put_14 : decode cX4_put 14 = .ok (.getfield 13, 3) := by decide +kernel
theorem dX4_put_17 : decode cX4_put 17 = .ok (.lload_n 1, 1) := by decide +kernel
theorem dX4_put_18 : decode cX4_put 18 = .ok (.lastore, 1) := by decide +kernel
theorem dX4_put_19 : decode cX4_put 19 = .ok (.aload_n 0, 1) := by decide +kernel
theorem dX4_put_20 : decode cX4_put 20 = .ok (.dup, 1) := by decide +kernel
theorem dX4_put_21 : decode cX4_put 21 = .ok (.getfield 13, 3) := by decide +kernel
theorem dX4_put_24 : decode cX4_put 24 = .ok (.iconst 1, 1) := by decide +kernel
theorem dX4_put_25 : decode cX4_put 25 = .ok (.iadd, 1) := by decide +kernel
theorem dX4_put_26 : decode cX4_put 26 = .ok (.putfield 13, 3) := by decide +kernel
theorem dX4_put_29 : decode cX4_put 29 = .ok (.return_, 1) := by decide +kernel
theorem dX5_init_0 : decode cX5_init 0 = .ok (.aload_n 0, 1) := by decide +kernel
theorem dX5_init_1 : decode cX5_init 1 = .ok (.invokespecial 3, 3) := by decide +kernel
theorem dX5_init_4 : decode cX5_init 4 = .ok (.aload_n 0, 1) := by decide +kernel
theorem dX5_init_5 : decode cX5_init 5 = .ok (.bipush 40, 2) := by decide +kernel
theorem dX5_init_7 : decode cX5_init 7 = .ok (.newarray .int, 2) := by decide +kernel
theorem dX5_init_9 : decode cX5_init 9 = .ok (.putfield 9, 3) := by decide +kernel
theorem dX5_init_12 : decode cX5_init 12 = .ok (.aload_n 0, 1) := by decide +kernel
theorem dX5_init_13 : decode cX5_init 13 = .ok (.bipush 40, 2) := by decide +kernel
theorem dX5_init_15 : decode cX5_init 15 = .ok (.newarray .int, 2) := by decide +kernel
theorem dX5_init_17 : decode cX5_init 17 = .ok (.putfield 15, 3) := by decide +kernel
theorem dX5_init_20 : decode cX5_init 20 = .ok (.aload_n 0, 1) := by decide +kernel
theorem dX5_init_21 : decode cX5_init 21 = .ok (.bipush 40, 2) := by decide +kernel
theorem dX5_init_23 : decode cX5_init 23 = .ok (.newarray .int, 2) := by decide +kernel
theorem dX5_init_25 : decode cX5_init 25 = .ok (.putfield 18, 3) := by decide +kernel
theorem dX5_init_28 : decode cX5_init 28 = .ok (.aload_n 0, 1) := by decide +kernel
theorem dX5_init_29 : decode cX5_init 29 = .ok (.bipush 40, 2) := by decide +kernel
theorem dX5_init_31 : decode cX5_init 31 = .ok (.newarray .int, 2) := by decide +kernel
theorem dX5_init_33 : decode cX5_init 33 = .ok (.putfield 21, 3) := by decide +kernel
theorem dX5_init_36 : decode cX5_init 36 = .ok (.return_, 1) := by decide +kernel
theorem dX5_learn_0 : decode cX5_learn 0 = .ok (.aload_n 1, 1) := by decide +kernel
theorem dX5_learn_1 : decode cX5_learn 1 = .ok (.bipush 40, 2) := by decide +kernel
theorem dX5_learn_3 : decode cX5_learn 3 = .ok (.invokevirtual 24, 3) := by decide +kernel
theorem dX5_learn_6 : decode cX5_learn 6 = .ok (.aload_n 0, 1) := by decide +kernel
theorem dX5_learn_7 : decode cX5_learn 7 = .ok (.iconst 0, 1) := by decide +kernel
theorem dX5_learn_8 : decode cX5_learn 8 = .ok (.putfield 30, 3) := by decide +kernel
theorem dX5_learn_11 : decode cX5_learn 11 = .ok (.aload_n 0, 1) := by decide +kernel
theorem dX5_learn_12 : decode cX5_learn 12 = .ok (.iconst 0, 1) := by decide +kernel
theorem dX5_learn_13 : decode cX5_learn 13 = .ok (.putfield 34, 3) := by decide +kernel
theorem dX5_learn_16 : decode cX5_learn 16 = .ok (.aload_n 0, 1) := by decide +kernel
theorem dX5_learn_17 : decode cX5_learn 17 = .ok (.iconst 0, 1) := by decide +kernel
theorem dX5_learn_18 : decode cX5_learn 18 = .ok (.putfield 37, 3) := by decide +kernel
theorem dX5_learn_21 : decode cX5_learn 21 = .ok (.aload_n 0, 1) := by decide +kernel
theorem dX5_learn_22 : decode cX5_learn 22 = .ok (.iconst 0, 1) := by decide +kernel
theorem dX5_learn_23 : decode cX5_learn 23 = .ok (.putfield 40, 3) := by decide +kernel
theorem dX5_learn_26 : decode cX5_learn 26 = .ok (.aload_n 0, 1) := by decide +kernel
theorem dX5_learn_27 : decode cX5_learn 27 = .ok (.iconst 1, 1) := by decide +kernel
theorem dX5_learn_28 : decode cX5_learn 28 = .ok (.putfield 43, 3) := by decide +kernel
theorem dX5_learn_31 : decode cX5_learn 31 = .ok (.iconst 0, 1) := by decide +kernel
theorem dX5_learn_32 : decode cX5_learn 32 = .ok (.istore_n 2, 1) := by decide +kernel
theorem dX5_learn_33 : decode cX5_learn 33 = .ok (.iload_n 2, 1) := by decide +kernel
theorem dX5_learn_34 : decode cX5_learn 34 = .ok (.bipush 40, 2) := by decide +kernel
theorem dX5_learn_36 : decode cX5_learn 36 = .ok (.if_icmp .gt 90, 3) := by decide +kernel
theorem dX5_learn_39 : decode cX5_learn 39 = .ok (.aload_n 0, 1) := by decide +kernel
theorem dX5_learn_40 : decode cX5_learn 40 = .ok (.getfield 43, 3) := by decide +kernel
theorem dX5_learn_43 : decode cX5_learn 43 = .ok (.ifCond .ne 47, 3) := by decide +kernel
theorem dX5_learn_46 : decode cX5_learn 46 = .ok (.aload_n 0, 1) := by decide +kernel
theorem dX5_learn_47 : decode cX5_learn 47 = .ok (.getfield 37, 3) := by decide +kernel
theorem dX5_learn_50 : decode cX5_learn 50 = .ok (.ifCond .ne 40, 3) := by decide +kernel
theorem dX5_learn_53 : decode cX5_learn 53 = .ok (.aload_n 1, 1) := by decide +kernel
theorem dX5_learn_54 : decode cX5_learn 54 = .ok (.invokevirtual 47, 3) := by decide +kernel
theorem dX5_learn_57 : decode cX5_learn 57 = .ok (.ifCond .eq 33, 3) := by decide +kernel
theorem dX5_learn_60 : decode cX5_learn 60 = .ok (.aload_n 0, 1) := by decide +kernel
theorem dX5_learn_61 : decode cX5_learn 61 = .ok (.iconst 1, 1) := by decide +kernel
theorem dX5_learn_62 : decode cX5_learn 62 = .ok (.invokevirtual 51, 3) := by decide +kernel
theorem dX5_learn_65 : decode cX5_learn 65 = .ok (.aload_n 0, 1) := by decide +kernel
theorem dX5_learn_66 : decode cX5_learn 66 = .ok (.getfield 15, 3) := by decide +kernel
theorem dX5_learn_69 : decode cX5_learn 69 = .ok (.iconst 0, 1) := by decide +kernel
theorem dX5_learn_70 : decode cX5_learn 70 = .ok (.aload_n 0, 1) := by decide +kernel
theorem dX5_learn_71 : decode cX5_learn 71 = .ok (.getfield 9, 3) := by decide +kernel
theorem dX5_learn_74 : decode cX5_learn 74 = .ok (.iconst 0, 1) := by decide +kernel
theorem dX5_learn_75 : decode cX5_learn 75 = .ok (.bipush 40, 2) := by decide +kernel
theorem dX5_learn_77 : decode cX5_learn 77 = .ok (.invokestatic 54, 3) := by decide +kernel
theorem dX5_learn_80 : decode cX5_learn 80 = .ok (.aload_n 0, 1) := by decide +kernel
theorem dX5_learn_81 : decode cX5_learn 81 = .ok (.aload_n 0, 1) := by decide +kernel
theorem dX5_learn_82 : decode cX5_learn 82 = .ok (.getfield 30, 3) := by decide +kernel
theorem dX5_learn_85 : decode cX5_learn 85 = .ok (.putfield 60, 3) := by decide +kernel
theorem dX5_learn_88 : decode cX5_learn 88 = .ok (.iconst 0, 1) := by decide +kernel
theorem dX5_learn_89 : decode cX5_learn 89 = .ok (.ireturn, 1) := by decide +kernel
theorem dX5_learn_90 : decode cX5_learn 90 = .ok (.aload_n 0, 1) := by decide +kernel
theorem dX5_learn_91 : decode cX5_learn 91 = .ok (.getfield 43, 3) := by decide +kernel
theorem dX5_learn_94 : decode cX5_learn 94 = .ok (.ifCond .eq 11, 3) := by decide +kernel
theorem dX5_learn_97 : decode cX5_learn 97 = .ok (.aload_n 0, 1) := by decide +kernel
theorem dX5_learn_98 : decode cX5_learn 98 = .ok (.aload_n 1, 1) := by decide +kernel
theorem dX5_learn_99 : decode cX5_learn 99 = .ok (.invokevirtual 63, 3) := by decide +kernel
theorem dX5_learn_102 : decode cX5_learn 102 = .ok (.goto 8, 3) := by decide +kernel
theorem dX5_learn_105 : decode cX5_learn 105 = .ok (.aload_n 0, 1) := by decide +kernel
theorem dX5_learn_106 : decode cX5_learn 106 = .ok (.aload_n 1, 1) := by decide +kernel
theorem dX5_learn_107 : decode cX5_learn 107 = .ok (.invokevirtual 67, 3) := by decide +kernel
theorem dX5_learn_110 : decode cX5_learn 110 = .ok (.istore_n 3, 1) := by decide +kernel
theorem dX5_learn_111 : decode cX5_learn 111 = .ok (.iload_n 3, 1) := by decide +kernel
theorem dX5_learn_112 : decode cX5_learn 112 = .ok (.ifCond .ne 8, 3) := by decide +kernel
theorem dX5_learn_115 : decode cX5_learn 115 = .ok (.aload_n 1, 1) := by decide +kernel
theorem dX5_learn_116 : decode cX5_learn 116 = .ok (.invokevirtual 70, 3) := by decide +kernel
theorem dX5_learn_119 : decode cX5_learn 119 = .ok (.ireturn, 1) := by decide +kernel
theorem dX5_learn_120 : decode cX5_learn 120 = .ok (.iinc 2 1, 3) := by decide +kernel
theorem dX5_learn_123 : decode cX5_learn 123 = .ok (.goto (-90), 3) := by decide +kernel
theorem dX5_learn_126 : decode cX5_learn 126 = .ok (.aload_n 1, 1) := by decide +kernel
theorem dX5_learn_127 : decode cX5_learn 127 = .ok (.invokevirtual 70, 3) := by decide +kernel
theorem dX5_learn_130 : decode cX5_learn 130 = .ok (.ireturn, 1) := by decide +kernel
theorem dX5_readThing_0 : decode cX5_readThing 0 = .ok (.aload_n 1, 1) := by decide +kernel
theorem dX5_readThing_1 : decode cX5_readThing 1 = .ok (.bipush 45, 2) := by decide +kernel
theorem dX5_readThing_3 : decode cX5_readThing 3 = .ok (.invokevirtual 74, 3) := by decide +kernel
theorem dX5_readThing_6 : decode cX5_readThing 6 = .ok (.ifCond .eq 12, 3) := by decide +kernel
theorem dX5_readThing_9 : decode cX5_readThing 9 = .ok (.aload_n 0, 1) := by decide +kernel
theorem dX5_readThing_10 : decode cX5_readThing 10 = .ok (.sipush 256, 3) := by decide +kernel
theorem dX5_readThing_13 : decode cX5_readThing 13 = .ok (.invokevirtual 78, 3) := by decide +kernel
theorem dX5_readThing_16 : decode cX5_readThing 16 = .ok (.iconst 1, 1) := by decide +kernel
theorem dX5_readThing_17 : decode cX5_readThing 17 = .ok (.ireturn, 1) := by decide +kernel
theorem dX5_readThing_18 : decode cX5_readThing 18 = .ok (.aload_n 0, 1) := by decide +kernel
theorem dX5_readThing_19 : decode cX5_readThing 19 = .ok (.getfield 37, 3) := by decide +kernel
theorem dX5_readThing_22 : decode cX5_readThing 22 = .ok (.iconst 4, 1) := by decide +kernel
theorem dX5_readThing_23 : decode cX5_readThing 23 = .ok (.if_icmp .ge 47, 3) := by decide +kernel
theorem dX5_readThing_26 : decode cX5_readThing 26 = .ok (.aload_n 1, 1) := by decide +kernel
theorem dX5_readThing_27 : decode cX5_readThing 27 = .ok (.bipush 40, 2) := by decide +kernel
theorem dX5_readThing_29 : decode cX5_readThing 29 = .ok (.invokevirtual 74, 3) := by decide +kernel
theorem dX5_readThing_32 : decode cX5_readThing 32 = .ok (.ifCond .eq 38, 3) := by decide +kernel
theorem dX5_readThing_35 : decode cX5_readThing 35 = .ok (.aload_n 0, 1) := by decide +kernel
theorem dX5_readThing_36 : decode cX5_readThing 36 = .ok (.bipush 40, 2) := by decide +kernel
theorem dX5_readThing_38 : decode cX5_readThing 38 = .ok (.invokevirtual 78, 3) := by decide +kernel
theorem dX5_readThing_41 : decode cX5_readThing 41 = .ok (.aload_n 0, 1) := by decide +kernel
theorem dX5_readThing_42 : decode cX5_readThing 42 = .ok (.dup, 1) := by decide +kernel
theorem dX5_readThing_43 : decode cX5_readThing 43 = .ok (.getfield 37, 3) := by decide +kernel
theorem dX5_readThing_46 : decode cX5_readThing 46 = .ok (.iconst 1, 1) := by decide +kernel
theorem dX5_readThing_47 : decode cX5_readThing 47 = .ok (.iadd, 1) := by decide +kernel
theorem dX5_readThing_48 : decode cX5_readThing 48 = .ok (.putfield 37, 3) := by decide +kernel
theorem dX5_readThing_51 : decode cX5_readThing 51 = .ok (.aload_n 0, 1) := by decide +kernel
theorem dX5_readThing_52 : decode cX5_readThing 52 = .ok (.dup, 1) := by decide +kernel
theorem dX5_readThing_53 : decode cX5_readThing 53 = .ok (.getfield 40, 3) := by decide +kernel
theorem dX5_readThing_56 : decode cX5_readThing 56 = .ok (.iconst 1, 1) := by decide +kernel
theorem dX5_readThing_57 : decode cX5_readThing 57 = .ok (.aload_n 0, 1) := by decide +kernel
theorem dX5_readThing_58 : decode cX5_readThing 58 = .ok (.getfield 37, 3) := by decide +kernel
theorem dX5_readThing_61 : decode cX5_readThing 61 = .ok (.ishl, 1) := by decide +kernel
theorem dX5_readThing_62 : decode cX5_readThing 62 = .ok (.iconst (-1), 1) := by decide +kernel
theorem dX5_readThing_63 : decode cX5_readThing 63 = .ok (.ixor, 1) := by decide +kernel
theorem dX5_readThing_64 : decode cX5_readThing 64 = .ok (.iand, 1) := by decide +kernel
theorem dX5_readThing_65 : decode cX5_readThing 65 = .ok (.putfield 40, 3) := by decide +kernel
theorem dX5_readThing_68 : decode cX5_readThing 68 = .ok (.iconst 1, 1) := by decide +kernel
theorem dX5_readThing_69 : decode cX5_readThing 69 = .ok (.ireturn, 1) := by decide +kernel
theorem dX5_readThing_70 : decode cX5_readThing 70 = .ok (.aload_n 1, 1) := by decide +kernel
theorem dX5_readThing_71 : decode cX5_readThing 71 = .ok (.iconst 0, 1) := by decide +kernel
theorem dX5_readThing_72 : decode cX5_readThing 72 = .ok (.bipush 9, 2) := by decide +kernel
theorem dX5_readThing_74 : decode cX5_readThing 74 = .ok (.invokevirtual 81, 3) := by decide +kernel
theorem dX5_readThing_77 : decode cX5_readThing 77 = .ok (.istore_n 2, 1) := by decide +kernel
theorem dX5_readThing_78 : decode cX5_readThing 78 = .ok (.iload_n 2, 1) := by decide +kernel
theorem dX5_readThing_79 : decode cX5_readThing 79 = .ok (.iconst (-1), 1) := by decide +kernel
theorem dX5_readThing_80 : decode cX5_readThing 80 = .ok (.if_icmp .eq 16, 3) := by decide +kernel
theorem dX5_readThing_83 : decode cX5_readThing 83 = .ok (.aload_n 0, 1) := by decide +kernel
theorem dX5_readThing_84 : decode cX5_readThing 84 = .ok (.aload_n 1, 1) := by decide +kernel
theorem dX5_readThing_85 : decode cX5_readThing 85 = .ok (.iload_n 2, 1) := by decide +kernel
theorem dX5_readThing_86 : decode cX5_readThing 86 = .ok (.invokestatic 85, 3) := by decide +kernel
theorem dX5_readThing_89 : decode cX5_readThing 89 = .ok (.ineg, 1) := by decide +kernel
theorem dX5_readThing_90 : decode cX5_readThing 90 = .ok (.invokevirtual 89, 3) := by decide +kernel
theorem dX5_readThing_93 : decode cX5_readThing 93 = .ok (.goto 25, 3) := by decide +kernel
theorem dX5_readThing_96 : decode cX5_readThing 96 = .ok (.aload_n 1, 1) := by decide +kernel
theorem dX5_readThing_97 : decode cX5_readThing 97 = .ok (.ldc 92, 2) := by decide +kernel
theorem dX5_readThing_99 : decode cX5_readThing 99 = .ok (.invokevirtual 94, 3) := by decide +kernel
theorem dX5_readThing_102 : decode cX5_readThing 102 = .ok (.istore_n 3, 1) := by decide +kernel
theorem dX5_readThing_103 : decode cX5_readThing 103 = .ok (.iload_n 3, 1) := by decide +kernel
theorem dX5_readThing_104 : decode cX5_readThing 104 = .ok (.iconst (-1), 1) := by decide +kernel
theorem dX5_readThing_105 : decode cX5_readThing 105 = .ok (.if_icmp .ne 5, 3) := by decide +kernel
theorem dX5_readThing_108 : decode cX5_readThing 108 = .ok (.iconst 0, 1) := by decide +kernel
theorem dX5_readThing_109 : decode cX5_readThing 109 = .ok (.ireturn, 1) := by decide +kernel
theorem dX5_readThing_110 : decode cX5_readThing 110 = .ok (.aload_n 0, 1) := by decide +kernel
theorem dX5_readThing_111 : decode cX5_readThing 111 = .ok (.iload_n 3, 1) := by decide +kernel
theorem dX5_readThing_112 : decode cX5_readThing 112 = .ok (.invokestatic 98, 3) := by decide +kernel
theorem dX5_readThing_115 : decode cX5_readThing 115 = .ok (.invokevirtual 89, 3) := by decide +kernel
theorem dX5_readThing_118 : decode cX5_readThing 118 = .ok (.aload_n 0, 1) := by decide +kernel
theorem dX5_readThing_119 : decode cX5_readThing 119 = .ok (.iconst 0, 1) := by decide +kernel
theorem dX5_readThing_120 : decode cX5_readThing 120 = .ok (.putfield 43, 3) := by decide +kernel
theorem dX5_readThing_123 : decode cX5_readThing 123 = .ok (.iconst 1, 1) := by decide +kernel
theorem dX5_readThing_124 : decode cX5_readThing 124 = .ok (.ireturn, 1) := by decide +kernel
theorem dX5_readNumber_0 : decode cX5_readNumber 0 = .ok (.iload_n 1, 1) := by decide +kernel
theorem dX5_readNumber_1 : decode cX5_readNumber 1 = .ok (.istore_n 2, 1) := by decide +kernel
theorem dX5_readNumber_2 : decode cX5_readNumber 2 = .ok (.iconst 1, 1) := by decide +kernel
theorem dX5_readNumber_3 : decode cX5_readNumber 3 = .ok (.istore_n 3, 1) := by decide +kernel
theorem dX5_readNumber_4 : decode cX5_readNumber 4 = .ok (.iload_n 3, 1) := by decide +kernel
theorem dX5_readNumber_5 : decode cX5_readNumber 5 = .ok (.iconst 3, 1) := by decide +kernel
theorem dX5_readNumber_6 : decode cX5_readNumber 6 = .ok (.if_icmp .ge 35, 3) := by decide +kernel
theorem dX5_readNumber_9 : decode cX5_readNumber 9 = .ok (.aload_n 0, 1) := by decide +kernel
theorem dX5_readNumber_10 : decode cX5_readNumber 10 = .ok (.iconst 0, 1) := by decide +kernel
theorem dX5_readNumber_11 : decode cX5_readNumber 11 = .ok (.bipush 9, 2) := by decide +kernel
theorem dX5_readNumber_13 : decode cX5_readNumber 13 = .ok (.invokevirtual 81, 3) := by decide +kernel
theorem dX5_readNumber_16 : decode cX5_readNumber 16 = .ok (.istore 4, 2) := by decide +kernel
theorem dX5_readNumber_18 : decode cX5_readNumber 18 = .ok (.iload 4, 2) := by decide +kernel
theorem dX5_readNumber_20 : decode cX5_readNumber 20 = .ok (.iconst (-1), 1) := by decide +kernel
theorem dX5_readNumber_21 : decode cX5_readNumber 21 = .ok (.if_icmp .ne 6, 3) := by decide +kernel
theorem dX5_readNumber_24 : decode cX5_readNumber 24 = .ok (.goto 17, 3) := by decide +kernel
theorem dX5_readNumber_27 : decode cX5_readNumber 27 = .ok (.iload_n 2, 1) := by decide +kernel
theorem dX5_readNumber_28 : decode cX5_readNumber 28 = .ok (.bipush 10, 2) := by decide +kernel
theorem dX5_readNumber_30 : decode cX5_readNumber 30 = .ok (.imul, 1) := by decide +kernel
theorem dX5_readNumber_31 : decode cX5_readNumber 31 = .ok (.iload 4, 2) := by decide +kernel
theorem dX5_readNumber_33 : decode cX5_readNumber 33 = .ok (.iadd, 1) := by decide +kernel
theorem dX5_readNumber_34 : decode cX5_readNumber 34 = .ok (.istore_n 2, 1) := by decide +kernel
theorem dX5_readNumber_35 : decode cX5_readNumber 35 = .ok (.iinc 3 1, 3) := by decide +kernel
theorem dX5_readNumber_38 : decode cX5_readNumber 38 = .ok (.goto (-34), 3) := by decide +kernel
theorem dX5_readNumber_41 : decode cX5_readNumber 41 = .ok (.iload_n 2, 1) := by decide +kernel
theorem dX5_readNumber_42 : decode cX5_readNumber 42 = .ok (.ireturn, 1) := by decide +kernel
theorem dX5_readBinding_0 : decode cX5_readBinding 0 = .ok (.aload_n 0, 1) := by decide +kernel
theorem dX5_readBinding_1 : decode cX5_readBinding 1 = .ok (.getfield 37, 3) := by decide +kernel
theorem dX5_readBinding_4 : decode cX5_readBinding 4 = .ok (.ifCond .le 43, 3) := by decide +kernel
theorem dX5_readBinding_7 : decode cX5_readBinding 7 = .ok (.aload_n 1, 1) := by decide +kernel
theorem dX5_readBinding_8 : decode cX5_readBinding 8 = .ok (.bipush 41, 2) := by decide +kernel
theorem dX5_readBinding_10 : decode cX5_readBinding 10 = .ok (.invokevirtual 74, 3) := by decide +kernel
theorem dX5_readBinding_13 : decode cX5_readBinding 13 = .ok (.ifCond .eq 34, 3) := by decide +kernel
theorem dX5_readBinding_16 : decode cX5_readBinding 16 = .ok (.aload_n 0, 1) := by decide +kernel
theorem dX5_readBinding_17 : decode cX5_readBinding 17 = .ok (.iconst 1, 1) := by decide +kernel
theorem dX5_readBinding_18 : decode cX5_readBinding 18 = .ok (.invokevirtual 51, 3) := by decide +kernel
theorem dX5_readBinding_21 : decode cX5_readBinding 21 = .ok (.aload_n 0, 1) := by decide +kernel
theorem dX5_readBinding_22 : decode cX5_readBinding 22 = .ok (.iconst 0, 1) := by decide +kernel
theorem dX5_readBinding_23 : decode cX5_readBinding 23 = .ok (.aload_n 0, 1) := by decide +kernel
theorem dX5_readBinding_24 : decode cX5_readBinding 24 = .ok (.getfield 34, 3) := by decide +kernel
theorem dX5_readBinding_27 : decode cX5_readBinding 27 = .ok (.iconst 1, 1) := by decide +kernel
theorem dX5_readBinding_28 : decode cX5_readBinding 28 = .ok (.isub, 1) := by decide +kernel
theorem dX5_readBinding_29 : decode cX5_readBinding 29 = .ok (.invokestatic 102, 3) := by decide +kernel
theorem dX5_readBinding_32 : decode cX5_readBinding 32 = .ok (.putfield 34, 3) := by decide +kernel
theorem dX5_readBinding_35 : decode cX5_readBinding 35 = .ok (.aload_n 0, 1) := by decide +kernel
theorem dX5_readBinding_36 : decode cX5_readBinding 36 = .ok (.dup, 1) := by decide +kernel
theorem dX5_readBinding_37 : decode cX5_readBinding 37 = .ok (.getfield 37, 3) := by decide +kernel
theorem dX5_readBinding_40 : decode cX5_readBinding 40 = .ok (.iconst 1, 1) := by decide +kernel
theorem dX5_readBinding_41 : decode cX5_readBinding 41 = .ok (.isub, 1) := by decide +kernel
theorem dX5_readBinding_42 : decode cX5_readBinding 42 = .ok (.putfield 37, 3) := by decide +kernel
theorem dX5_readBinding_45 : decode cX5_readBinding 45 = .ok (.iconst 1, 1) := by decide +kernel
theorem dX5_readBinding_46 : decode cX5_readBinding 46 = .ok (.ireturn, 1) := by decide +kernel
theorem dX5_readBinding_47 : decode cX5_readBinding 47 = .ok (.aload_n 1, 1) := by decide +kernel
theorem dX5_readBinding_48 : decode cX5_readBinding 48 = .ok (.invokevirtual 107, 3) := by decide +kernel
theorem dX5_readBinding_51 : decode cX5_readBinding 51 = .ok (.istore_n 2, 1) := by decide +kernel
theorem dX5_readBinding_52 : decode cX5_readBinding 52 = .ok (.iload_n 2, 1) := by decide +kernel
theorem dX5_readBinding_53 : decode cX5_readBinding 53 = .ok (.invokestatic 110, 3) := by decide +kernel
theorem dX5_readBinding_56 : decode cX5_readBinding 56 = .ok (.istore_n 3, 1) := by decide +kernel
theorem dX5_readBinding_57 : decode cX5_readBinding 57 = .ok (.iload_n 3, 1) := by decide +kernel
theorem dX5_readBinding_58 : decode cX5_readBinding 58 = .ok (.ifCond .eq 22, 3) := by decide +kernel
theorem dX5_readBinding_61 : decode cX5_readBinding 61 = .ok (.iload_n 3, 1) := by decide +kernel
theorem dX5_readBinding_62 : decode cX5_readBinding 62 = .ok (.iconst 1, 1) := by decide +kernel
theorem dX5_readBinding_63 : decode cX5_readBinding 63 = .ok (.if_icmp .ne 19, 3) := by decide +kernel
theorem dX5_readBinding_66 : decode cX5_readBinding 66 = .ok (.aload_n 0, 1) := by decide +kernel
theorem dX5_readBinding_67 : decode cX5_readBinding 67 = .ok (.getfield 40, 3) := by decide +kernel
theorem dX5_readBinding_70 : decode cX5_readBinding 70 = .ok (.aload_n 0, 1) := by decide +kernel
theorem dX5_readBinding_71 : decode cX5_readBinding 71 = .ok (.getfield 37, 3) := by decide +kernel
theorem dX5_readBinding_74 : decode cX5_readBinding 74 = .ok (.ishr, 1) := by decide +kernel
theorem dX5_readBinding_75 : decode cX5_readBinding 75 = .ok (.iconst 1, 1) := by decide +kernel
theorem dX5_readBinding_76 : decode cX5_readBinding 76 = .ok (.iand, 1) := by decide +kernel
theorem dX5_readBinding_77 : decode cX5_readBinding 77 = .ok (.ifCond .eq 5, 3) := by decide +kernel
theorem dX5_readBinding_80 : decode cX5_readBinding 80 = .ok (.iconst 0, 1) := by decide +kernel
theorem dX5_readBinding_81 : decode cX5_readBinding 81 = .ok (.ireturn, 1) := by decide +kernel
theorem dX5_readBinding_82 : decode cX5_readBinding 82 = .ok (.iload_n 3, 1) := by decide +kernel
theorem dX5_readBinding_83 : decode cX5_readBinding 83 = .ok (.iconst 1, 1) := by decide +kernel
theorem dX5_readBinding_84 : decode cX5_readBinding 84 = .ok (.if_icmp .ne 18, 3) := by decide +kernel
theorem dX5_readBinding_87 : decode cX5_readBinding 87 = .ok (.aload_n 0, 1) := by decide +kernel
theorem dX5_readBinding_88 : decode cX5_readBinding 88 = .ok (.dup, 1) := by decide +kernel
theorem dX5_readBinding_89 : decode cX5_readBinding 89 = .ok (.getfield 40, 3) := by decide +kernel
theorem dX5_readBinding_92 : decode cX5_readBinding 92 = .ok (.iconst 1, 1) := by decide +kernel
theorem dX5_readBinding_93 : decode cX5_readBinding 93 = .ok (.aload_n 0, 1) := by decide +kernel
theorem dX5_readBinding_94 : decode cX5_readBinding 94 = .ok (.getfield 37, 3) := by decide +kernel
theorem dX5_readBinding_97 : decode cX5_readBinding 97 = .ok (.ishl, 1) := by decide +kernel
theorem dX5_readBinding_98 : decode cX5_readBinding 98 = .ok (.ior, 1) := by decide +kernel
theorem dX5_readBinding_99 : decode cX5_readBinding 99 = .ok (.putfield 40, 3) := by decide +kernel
theorem dX5_readBinding_102 : decode cX5_readBinding 102 = .ok (.aload_n 1, 1) := by decide +kernel
theorem dX5_readBinding_103 : decode cX5_readBinding 103 = .ok (.invokevirtual 113, 3) := by decide +kernel
theorem dX5_readBinding_106 : decode cX5_readBinding 106 = .ok (.aload_n 0, 1) := by decide +kernel
theorem dX5_readBinding_107 : decode cX5_readBinding 107 = .ok (.iload_n 3, 1) := by decide +kernel
theorem dX5_readBinding_108 : decode cX5_readBinding 108 = .ok (.invokevirtual 51, 3) := by decide +kernel
theorem dX5_readBinding_111 : decode cX5_readBinding 111 = .ok (.aload_n 0, 1) := by decide +kernel
theorem dX5_readBinding_112 : decode cX5_readBinding 112 = .ok (.iload_n 2, 1) := by decide +kernel
theorem dX5_readBinding_113 : decode cX5_readBinding 113 = .ok (.invokevirtual 78, 3) := by decide +kernel
theorem dX5_readBinding_116 : decode cX5_readBinding 116 = .ok (.aload_n 0, 1) := by decide +kernel
theorem dX5_readBinding_117 : decode cX5_readBinding 117 = .ok (.iconst 1, 1) := by decide +kernel
theorem dX5_readBinding_118 : decode cX5_readBinding 118 = .ok (.putfield 43, 3) := by decide +kernel
theorem dX5_readBinding_121 : decode cX5_readBinding 121 = .ok (.iconst 1, 1) := by decide +kernel
theorem dX5_readBinding_122 : decode cX5_readBinding 122 = .ok (.ireturn, 1) := by decide +kernel
theorem dX5_strengthOf_0 : decode cX5_strengthOf 0 = .ok (.iload_n 0, 1) := by decide +kernel
theorem dX5_strengthOf_1 : decode cX5_strengthOf 1 = .ok (.lookupswitch 83 #[(42, 79), (43, 77), (45, 77), (47, 79), (60, 75), (61, 75), (62, 75), (256, 81)], 75) := by decide +kernel
theorem dX5_strengthOf_76 : decode cX5_strengthOf 76 = .ok (.iconst 1, 1) := by decide +kernel
theorem dX5_strengthOf_77 : decode cX5_strengthOf 77 = .ok (.ireturn, 1) := by decide +kernel
theorem dX5_strengthOf_78 : decode cX5_strengthOf 78 = .ok (.iconst 2, 1) := by decide +kernel
theorem dX5_strengthOf_79 : decode cX5_strengthOf 79 = .ok (.ireturn, 1) := by decide +kernel
theorem dX5_strengthOf_80 : decode cX5_strengthOf 80 = .ok (.iconst 3, 1) := by decide +kernel
theorem dX5_strengthOf_81 : decode cX5_strengthOf 81 = .ok (.ireturn, 1) := by decide +kernel
theorem dX5_strengthOf_82 : decode cX5_strengthOf 82 = .ok (.iconst 4, 1) := by decide +kernel
theorem dX5_strengthOf_83 : decode cX5_strengthOf 83 = .ok (.ireturn, 1) := by decide +kernel
theorem dX5_strengthOf_84 : decode cX5_strengthOf 84 = .ok (.iconst 0, 1) := by decide +kernel
theorem dX5_strengthOf_85 : decode cX5_strengthOf 85 = .ok (.ireturn, 1) := by decide +kernel
theorem dX5_hold_0 : decode cX5_hold 0 = .ok (.aload_n 0, 1) := by decide +kernel
theorem dX5_hold_1 : decode cX5_hold 1 = .ok (.getfield 34, 3) := by decide +kernel
theorem dX5_hold_4 : decode cX5_hold 4 = .ok (.bipush 40, 2) := by decide +kernel
theorem dX5_hold_6 : decode cX5_hold 6 = .ok (.if_icmp .ge 23, 3) := by decide +kernel
theorem dX5_hold_9 : decode cX5_hold 9 = .ok (.aload_n 0, 1) := by decide +kernel
theorem dX5_hold_10 : decode cX5_hold 10 = .ok (.getfield 18, 3) := by decide +kernel
theorem dX5_hold_13 : decode cX5_hold 13 = .ok (.aload_n 0, 1) := by decide +kernel
theorem dX5_hold_14 : decode cX5_hold 14 = .ok (.getfield 34, 3) := by decide +kernel
theorem dX5_hold_17 : decode cX5_hold 17 = .ok (.iload_n 1, 1) := by decide +kernel
theorem dX5_hold_18 : decode cX5_hold 18 = .ok (.iastore, 1) := by decide +kernel
theorem dX5_hold_19 : decode cX5_hold 19 = .ok (.aload_n 0, 1) := by decide +kernel
theorem dX5_hold_20 : decode cX5_hold 20 = .ok (.dup, 1) := by decide +kernel
theorem dX5_hold_21 : decode cX5_hold 21 = .ok (.getfield 34, 3) := by decide +kernel
theorem dX5_hold_24 : decode cX5_hold 24 = .ok (.iconst 1, 1) := by decide +kernel
theorem dX5_hold_25 : decode cX5_hold 25 = .ok (.iadd, 1) := by decide +kernel
theorem dX5_hold_26 : decode cX5_hold 26 = .ok (.putfield 34, 3) := by decide +kernel
theorem dX5_hold_29 : decode cX5_hold 29 = .ok (.return_, 1) := by decide +kernel
theorem dX5_write_0 : decode cX5_write 0 = .ok (.aload_n 0, 1) := by decide +kernel
theorem dX5_write_1 : decode cX5_write 1 = .ok (.getfield 30, 3) := by decide +kernel
theorem dX5_write_4 : decode cX5_write 4 = .ok (.bipush 40, 2) := by decide +kernel
theorem dX5_write_6 : decode cX5_write 6 = .ok (.if_icmp .ge 23, 3) := by decide +kernel
theorem dX5_write_9 : decode cX5_write 9 = .ok (.aload_n 0, 1) := by decide +kernel
theorem dX5_write_10 : decode cX5_write 10 = .ok (.getfield 15, 3) := by decide +kernel
theorem dX5_write_13 : decode cX5_write 13 = .ok (.aload_n 0, 1) := by decide +kernel
theorem dX5_write_14 : decode cX5_write 14 = .ok (.getfield 30, 3) := by decide +kernel
theorem dX5_write_17 : decode cX5_write 17 = .ok (.iload_n 1, 1) := by decide +kernel
theorem dX5_write_18 : decode cX5_write 18 = .ok (.iastore, 1) := by decide +kernel
theorem dX5_write_19 : decode cX5_write 19 = .ok (.aload_n 0, 1) := by decide +kernel
theorem dX5_write_20 : decode cX5_write 20 = .ok (.dup, 1) := by decide +kernel
theorem dX5_write_21 : decode cX5_write 21 = .ok (.getfield 30, 3) := by decide +kernel
theorem dX5_write_24 : decode cX5_write 24 = .ok (.iconst 1, 1) := by decide +kernel
theorem dX5_write_25 : decode cX5_write 25 = .ok (.iadd, 1) := by decide +kernel
theorem dX5_write_26 : decode cX5_write 26 = .ok (.putfield 30, 3) := by decide +kernel
theorem dX5_write_29 : decode cX5_write 29 = .ok (.return_, 1) := by decide +kernel
theorem dX5_release_0 : decode cX5_release 0 = .ok (.aload_n 0, 1) := by decide +kernel
theorem dX5_release_1 : decode cX5_release 1 = .ok (.getfield 34, 3) := by decide +kernel
theorem dX5_release_4 : decode cX5_release 4 = .ok (.iconst 1, 1) := by decide +kernel
theorem dX5_release_5 : decode cX5_release 5 = .ok (.isub, 1) := by decide +kernel
theorem dX5_release_6 : decode cX5_release 6 = .ok (.istore_n 2, 1) := by decide +kernel
theorem dX5_release_7 : decode cX5_release 7 = .ok (.iload_n 2, 1) := by decide +kernel
theorem dX5_release_8 : decode cX5_release 8 = .ok (.ifCond .lt 37, 3) := by decide +kernel
theorem dX5_release_11 : decode cX5_release 11 = .ok (.aload_n 0, 1) := by decide +kernel
theorem dX5_release_12 : decode cX5_release 12 = .ok (.getfield 18, 3) := by decide +kernel
theorem dX5_release_15 : decode cX5_release 15 = .ok (.iload_n 2, 1) := by decide +kernel
theorem dX5_release_16 : decode cX5_release 16 = .ok (.iaload, 1) := by decide +kernel
theorem dX5_release_17 : decode cX5_release 17 = .ok (.invokestatic 110, 3) := by decide +kernel
theorem dX5_release_20 : decode cX5_release 20 = .ok (.iload_n 1, 1) := by decide +kernel
theorem dX5_release_21 : decode cX5_release 21 = .ok (.if_icmp .lt 24, 3) := by decide +kernel
theorem dX5_release_24 : decode cX5_release 24 = .ok (.aload_n 0, 1) := by decide +kernel
theorem dX5_release_25 : decode cX5_release 25 = .ok (.aload_n 0, 1) := by decide +kernel
theorem dX5_release_26 : decode cX5_release 26 = .ok (.getfield 18, 3) := by decide +kernel
theorem dX5_release_29 : decode cX5_release 29 = .ok (.iload_n 2, 1) := by decide +kernel
theorem dX5_release_30 : decode cX5_release 30 = .ok (.iaload, 1) := by decide +kernel
theorem dX5_release_31 : decode cX5_release 31 = .ok (.invokevirtual 89, 3) := by decide +kernel
theorem dX5_release_34 : decode cX5_release 34 = .ok (.aload_n 0, 1) := by decide +kernel
theorem dX5_release_35 : decode cX5_release 35 = .ok (.iload_n 2, 1) := by decide +kernel
theorem dX5_release_36 : decode cX5_release 36 = .ok (.putfield 34, 3) := by decide +kernel
theorem dX5_release_39 : decode cX5_release 39 = .ok (.iinc 2 (-1), 3) := by decide +kernel
theorem dX5_release_42 : decode cX5_release 42 = .ok (.goto (-35), 3) := by decide +kernel
theorem dX5_release_45 : decode cX5_release 45 = .ok (.return_, 1) := by decide +kernel
theorem dX5_numberOf_0 : decode cX5_numberOf 0 = .ok (.ldc 92, 2) := by decide +kernel
theorem dX5_numberOf_2 : decode cX5_numberOf 2 = .ok (.iload_n 0, 1) := by decide +kernel
theorem dX5_numberOf_3 : decode cX5_numberOf 3 = .ok (.i2c, 1) := by decide +kernel
theorem dX5_numberOf_4 : decode cX5_numberOf 4 = .ok (.invokevirtual 116, 3) := by decide +kernel
theorem dX5_numberOf_7 : decode cX5_numberOf 7 = .ok (.iconst 1, 1) := by decide +kernel
theorem dX5_numberOf_8 : decode cX5_numberOf 8 = .ok (.iadd, 1) := by decide +kernel
theorem dX5_numberOf_9 : decode cX5_numberOf 9 = .ok (.ireturn, 1) := by decide +kernel
theorem dX5_asksFor_0 : decode cX5_asksFor 0 = .ok (.iload_n 1, 1) := by decide +kernel
theorem dX5_asksFor_1 : decode cX5_asksFor 1 = .ok (.invokestatic 98, 3) := by decide +kernel
theorem dX5_asksFor_4 : decode cX5_asksFor 4 = .ok (.istore_n 2, 1) := by decide +kernel
theorem dX5_asksFor_5 : decode cX5_asksFor 5 = .ok (.iconst 0, 1) := by decide +kernel
theorem dX5_asksFor_6 : decode cX5_asksFor 6 = .ok (.istore_n 3, 1) := by decide +kernel
theorem dX5_asksFor_7 : decode cX5_asksFor 7 = .ok (.iload_n 3, 1) := by decide +kernel
theorem dX5_asksFor_8 : decode cX5_asksFor 8 = .ok (.aload_n 0, 1) := by decide +kernel
theorem dX5_asksFor_9 : decode cX5_asksFor 9 = .ok (.getfield 60, 3) := by decide +kernel
theorem dX5_asksFor_12 : decode cX5_asksFor 12 = .ok (.if_icmp .ge 21, 3) := by decide +kernel
theorem dX5_asksFor_15 : decode cX5_asksFor 15 = .ok (.aload_n 0, 1) := by decide +kernel
theorem dX5_asksFor_16 : decode cX5_asksFor 16 = .ok (.getfield 9, 3) := by decide +kernel
theorem dX5_asksFor_19 : decode cX5_asksFor 19 = .ok (.iload_n 3, 1) := by decide +kernel
theorem dX5_asksFor_20 : decode cX5_asksFor 20 = .ok (.iaload, 1) := by decide +kernel
theorem dX5_asksFor_21 : decode cX5_asksFor 21 = .ok (.iload_n 2, 1) := by decide +kernel
theorem dX5_asksFor_22 : decode cX5_asksFor 22 = .ok (.if_icmp .ne 5, 3) := by decide +kernel
theorem dX5_asksFor_25 : decode cX5_asksFor 25 = .ok (.iconst 1, 1) := by decide +kernel
theorem dX5_asksFor_26 : decode cX5_asksFor 26 = .ok (.ireturn, 1) := by decide +kernel
theorem dX5_asksFor_27 : decode cX5_asksFor 27 = .ok (.iinc 3 1, 3) := by decide +kernel
theorem dX5_asksFor_30 : decode cX5_asksFor 30 = .ok (.goto (-23), 3) := by decide +kernel
theorem dX5_asksFor_33 : decode cX5_asksFor 33 = .ok (.iconst 0, 1) := by decide +kernel
theorem dX5_asksFor_34 : decode cX5_asksFor 34 = .ok (.ireturn, 1) := by decide +kernel
theorem dX5_reckon_0 : decode cX5_reckon 0 = .ok (.iconst 0, 1) := by decide +kernel
theorem dX5_reckon_1 : decode cX5_reckon 1 = .ok (.istore_n 2, 1) := by decide +kernel
theorem dX5_reckon_2 : decode cX5_reckon 2 = .ok (.aload_n 0, 1) := by decide +kernel
theorem dX5_reckon_3 : decode cX5_reckon 3 = .ok (.getfield 21, 3) := by decide +kernel
theorem dX5_reckon_6 : decode cX5_reckon 6 = .ok (.iconst 0, 1) := by decide +kernel
theorem dX5_reckon_7 : decode cX5_reckon 7 = .ok (.iconst 0, 1) := by decide +kernel
theorem dX5_reckon_8 : decode cX5_reckon 8 = .ok (.iastore, 1) := by decide +kernel
theorem dX5_reckon_9 : decode cX5_reckon 9 = .ok (.iconst 0, 1) := by decide +kernel
theorem dX5_reckon_10 : decode cX5_reckon 10 = .ok (.istore_n 3, 1) := by decide +kernel
theorem dX5_reckon_11 : decode cX5_reckon 11 = .ok (.iload_n 3, 1) := by decide +kernel
theorem dX5_reckon_12 : decode cX5_reckon 12 = .ok (.aload_n 0, 1) := by decide +kernel
theorem dX5_reckon_13 : decode cX5_reckon 13 = .ok (.getfield 60, 3) := by decide +kernel
theorem dX5_reckon_16 : decode cX5_reckon 16 = .ok (.if_icmp .ge 313, 3) := by decide +kernel
theorem dX5_reckon_19 : decode cX5_reckon 19 = .ok (.aload_n 0, 1) := by decide +kernel
theorem dX5_reckon_20 : decode cX5_reckon 20 = .ok (.getfield 9, 3) := by decide +kernel
theorem dX5_reckon_23 : decode cX5_reckon 23 = .ok (.iload_n 3, 1) := by decide +kernel
theorem dX5_reckon_24 : decode cX5_reckon 24 = .ok (.iaload, 1) := by decide +kernel
theorem dX5_reckon_25 : decode cX5_reckon 25 = .ok (.istore 4, 2) := by decide +kernel
theorem dX5_reckon_27 : decode cX5_reckon 27 = .ok (.iload 4, 2) := by decide +kernel
theorem dX5_reckon_29 : decode cX5_reckon 29 = .ok (.aload_n 1, 1) := by decide +kernel
theorem dX5_reckon_30 : decode cX5_reckon 30 = .ok (.arraylength, 1) := by decide +kernel
theorem dX5_reckon_31 : decode cX5_reckon 31 = .ok (.if_icmp .gt 32, 3) := by decide +kernel
theorem dX5_reckon_34 : decode cX5_reckon 34 = .ok (.aload_n 0, 1) := by decide +kernel
theorem dX5_reckon_35 : decode cX5_reckon 35 = .ok (.getfield 21, 3) := by decide +kernel
theorem dX5_reckon_38 : decode cX5_reckon 38 = .ok (.iload_n 2, 1) := by decide +kernel
theorem dX5_reckon_39 : decode cX5_reckon 39 = .ok (.iload 4, 2) := by decide +kernel
theorem dX5_reckon_41 : decode cX5_reckon 41 = .ok (.ifCond .gt 9, 3) := by decide +kernel
theorem dX5_reckon_44 : decode cX5_reckon 44 = .ok (.iload 4, 2) := by decide +kernel
theorem dX5_reckon_46 : decode cX5_reckon 46 = .ok (.ineg, 1) := by decide +kernel
theorem dX5_reckon_47 : decode cX5_reckon 47 = .ok (.goto 9, 3) := by decide +kernel
theorem dX5_reckon_50 : decode cX5_reckon 50 = .ok (.aload_n 1, 1) := by decide +kernel
theorem dX5_reckon_51 : decode cX5_reckon 51 = .ok (.iload 4, 2) := by decide +kernel
theorem dX5_reckon_53 : decode cX5_reckon 53 = .ok (.iconst 1, 1) := by decide +kernel
theorem dX5_reckon_54 : decode cX5_reckon 54 = .ok (.isub, 1) := by decide +kernel
theorem dX5_reckon_55 : decode cX5_reckon 55 = .ok (.iaload, 1) := by decide +kernel
theorem dX5_reckon_56 : decode cX5_reckon 56 = .ok (.iastore, 1) := by decide +kernel
theorem dX5_reckon_57 : decode cX5_reckon 57 = .ok (.iinc 2 1, 3) := by decide +kernel
theorem dX5_reckon_60 : decode cX5_reckon 60 = .ok (.goto 263, 3) := by decide +kernel
theorem dX5_reckon_63 : decode cX5_reckon 63 = .ok (.iload 4, 2) := by decide +kernel
theorem dX5_reckon_65 : decode cX5_reckon 65 = .ok (.sipush 256, 3) := by decide +kernel
theorem dX5_reckon_68 : decode cX5_reckon 68 = .ok (.if_icmp .ne 28, 3) := by decide +kernel
theorem dX5_reckon_71 : decode cX5_reckon 71 = .ok (.iload_n 2, 1) := by decide +kernel
theorem dX5_reckon_72 : decode cX5_reckon 72 = .ok (.iconst 1, 1) := by decide +kernel
theorem dX5_reckon_73 : decode cX5_reckon 73 = .ok (.if_icmp .lt 23, 3) := by decide +kernel
theorem dX5_reckon_76 : decode cX5_reckon 76 = .ok (.aload_n 0, 1) := by decide +kernel
theorem dX5_reckon_77 : decode cX5_reckon 77 = .ok (.getfield 21, 3) := by decide +kernel
theorem dX5_reckon_80 : decode cX5_reckon 80 = .ok (.iload_n 2, 1) := by decide +kernel
theorem dX5_reckon_81 : decode cX5_reckon 81 = .ok (.iconst 1, 1) := by decide +kernel
theorem dX5_reckon_82 : decode cX5_reckon 82 = .ok (.isub, 1) := by decide +kernel
theorem dX5_reckon_83 : decode cX5_reckon 83 = .ok (.aload_n 0, 1) := by decide +kernel
theorem dX5_reckon_84 : decode cX5_reckon 84 = .ok (.getfield 21, 3) := by decide +kernel
theorem dX5_reckon_87 : decode cX5_reckon 87 = .ok (.iload_n 2, 1) := by decide +kernel
theorem dX5_reckon_88 : decode cX5_reckon 88 = .ok (.iconst 1, 1) := by decide +kernel
theorem dX5_reckon_89 : decode cX5_reckon 89 = .ok (.isub, 1) := by decide +kernel
theorem dX5_reckon_90 : decode cX5_reckon 90 = .ok (.iaload, 1) := by decide +kernel
theorem dX5_reckon_91 : decode cX5_reckon 91 = .ok (.ineg, 1) := by decide +kernel
theorem dX5_reckon_92 : decode cX5_reckon 92 = .ok (.iastore, 1) := by decide +kernel
theorem dX5_reckon_93 : decode cX5_reckon 93 = .ok (.goto 230, 3) := by decide +kernel
theorem dX5_reckon_96 : decode cX5_reckon 96 = .ok (.iload_n 2, 1) := by decide +kernel
theorem dX5_reckon_97 : decode cX5_reckon 97 = .ok (.iconst 2, 1) := by decide +kernel
theorem dX5_reckon_98 : decode cX5_reckon 98 = .ok (.if_icmp .lt 225, 3) := by decide +kernel
theorem dX5_reckon_101 : decode cX5_reckon 101 = .ok (.aload_n 0, 1) := by decide +kernel
theorem dX5_reckon_102 : decode cX5_reckon 102 = .ok (.getfield 21, 3) := by decide +kernel
theorem dX5_reckon_105 : decode cX5_reckon 105 = .ok (.iload_n 2, 1) := by decide +kernel
theorem dX5_reckon_106 : decode cX5_reckon 106 = .ok (.iconst 1, 1) := by decide +kernel
theorem dX5_reckon_107 : decode cX5_reckon 107 = .ok (.isub, 1) := by decide +kernel
theorem dX5_reckon_108 : decode cX5_reckon 108 = .ok (.iaload, 1) := by decide +kernel
theorem dX5_reckon_109 : decode cX5_reckon 109 = .ok (.istore 5, 2) := by decide +kernel
theorem dX5_reckon_111 : decode cX5_reckon 111 = .ok (.aload_n 0, 1) := by decide +kernel
theorem dX5_reckon_112 : decode cX5_reckon 112 = .ok (.getfield 21, 3) := by decide +kernel
theorem dX5_reckon_115 : decode cX5_reckon 115 = .ok (.iload_n 2, 1) := by decide +kernel
theorem dX5_reckon_116 : decode cX5_reckon 116 = .ok (.iconst 2, 1) := by decide +kernel
theorem dX5_reckon_117 : decode cX5_reckon 117 = .ok (.isub, 1) := by decide +kernel
theorem dX5_reckon_118 : decode cX5_reckon 118 = .ok (.iaload, 1) := by decide +kernel
theorem dX5_reckon_119 : decode cX5_reckon 119 = .ok (.istore 6, 2) := by decide +kernel
theorem dX5_reckon_121 : decode cX5_reckon 121 = .ok (.iinc 2 (-1), 3) := by decide +kernel
theorem dX5_reckon_124 : decode cX5_reckon 124 = .ok (.iload 4, 2) := by decide +kernel
theorem dX5_reckon_126 : decode cX5_reckon 126 = .ok (.lookupswitch 175 #[(42, 159), (43, 127), (45, 143), (60, 58), (61, 104), (62, 81)], 58) := by decide +kernel
theorem dX5_reckon_184 : decode cX5_reckon 184 = .ok (.aload_n 0, 1) := by decide +kernel
theorem dX5_reckon_185 : decode cX5_reckon 185 = .ok (.getfield 21, 3) := by decide +kernel
theorem dX5_reckon_188 : decode cX5_reckon 188 = .ok (.iload_n 2, 1) := by decide +kernel
theorem dX5_reckon_189 : decode cX5_reckon 189 = .ok (.iconst 1, 1) := by decide +kernel
theorem dX5_reckon_190 : decode cX5_reckon 190 = .ok (.isub, 1) := by decide +kernel
theorem dX5_reckon_191 : decode cX5_reckon 191 = .ok (.iload 6, 2) := by decide +kernel
theorem dX5_reckon_193 : decode cX5_reckon 193 = .ok (.iload 5, 2) := by decide +kernel
theorem dX5_reckon_195 : decode cX5_reckon 195 = .ok (.if_icmp .ge 7, 3) := by decide +kernel
theorem dX5_reckon_198 : decode cX5_reckon 198 = .ok (.iconst 1, 1) := by decide +kernel
theorem dX5_reckon_199 : decode cX5_reckon 199 = .ok (.goto 4, 3) := by decide +kernel
theorem dX5_reckon_202 : decode cX5_reckon 202 = .ok (.iconst 0, 1) := by decide +kernel
theorem dX5_reckon_203 : decode cX5_reckon 203 = .ok (.iastore, 1) := by decide +kernel
theorem dX5_reckon_204 : decode cX5_reckon 204 = .ok (.goto 119, 3) := by decide +kernel
theorem dX5_reckon_207 : decode cX5_reckon 207 = .ok (.aload_n 0, 1) := by decide +kernel
theorem dX5_reckon_208 : decode cX5_reckon 208 = .ok (.getfield 21, 3) := by decide +kernel
theorem dX5_reckon_211 : decode cX5_reckon 211 = .ok (.iload_n 2, 1) := by decide +kernel
theorem dX5_reckon_212 : decode cX5_reckon 212 = .ok (.iconst 1, 1) := by decide +kernel
theorem dX5_reckon_213 : decode cX5_reckon 213 = .ok (.isub, 1) := by decide +kernel
theorem dX5_reckon_214 : decode cX5_reckon 214 = .ok (.iload 6, 2) := by decide +kernel
theorem dX5_reckon_216 : decode cX5_reckon 216 = .ok (.iload 5, 2) := by decide +kernel
theorem dX5_reckon_218 : decode cX5_reckon 218 = .ok (.if_icmp .le 7, 3) := by decide +kernel
theorem dX5_reckon_221 : decode cX5_reckon 221 = .ok (.iconst 1, 1) := by decide +kernel
theorem dX5_reckon_222 : decode cX5_reckon 222 = .ok (.goto 4, 3) := by decide +kernel
theorem dX5_reckon_225 : decode cX5_reckon 225 = .ok (.iconst 0, 1) := by decide +kernel
theorem dX5_reckon_226 : decode cX5_reckon 226 = .ok (.iastore, 1) := by decide +kernel
theorem dX5_reckon_227 : decode cX5_reckon 227 = .ok (.goto 96, 3) := by decide +kernel
theorem dX5_reckon_230 : decode cX5_reckon 230 = .ok (.aload_n 0, 1) := by decide +kernel
theorem dX5_reckon_231 : decode cX5_reckon 231 = .ok (.getfield 21, 3) := by decide +kernel
theorem dX5_reckon_234 : decode cX5_reckon 234 = .ok (.iload_n 2, 1) := by decide +kernel
theorem dX5_reckon_235 : decode cX5_reckon 235 = .ok (.iconst 1, 1) := by decide +kernel
theorem dX5_reckon_236 : decode cX5_reckon 236 = .ok (.isub, 1) := by decide +kernel
theorem dX5_reckon_237 : decode cX5_reckon 237 = .ok (.iload 6, 2) := by decide +kernel
theorem dX5_reckon_239 : decode cX5_reckon 239 = .ok (.iload 5, 2) := by decide +kernel
theorem dX5_reckon_241 : decode cX5_reckon 241 = .ok (.if_icmp .ne 7, 3) := by decide +kernel
theorem dX5_reckon_244 : decode cX5_reckon 244 = .ok (.iconst 1, 1) := by decide +kernel
theorem dX5_reckon_245 : decode cX5_reckon 245 = .ok (.goto 4, 3) := by decide +kernel
theorem dX5_reckon_248 : decode cX5_reckon 248 = .ok (.iconst 0, 1) := by decide +kernel
theorem dX5_reckon_249 : decode cX5_reckon 249 = .ok (.iastore, 1) := by decide +kernel
theorem dX5_reckon_250 : decode cX5_reckon 250 = .ok (.goto 73, 3) := by decide +kernel
theorem dX5_reckon_253 : decode cX5_reckon 253 = .ok (.aload_n 0, 1) := by decide +kernel
theorem dX5_reckon_254 : decode cX5_reckon 254 = .ok (.getfield 21, 3) := by decide +kernel
theorem dX5_reckon_257 : decode cX5_reckon 257 = .ok (.iload_n 2, 1) := by decide +kernel
theorem dX5_reckon_258 : decode cX5_reckon 258 = .ok (.iconst 1, 1) := by decide +kernel
theorem dX5_reckon_259 : decode cX5_reckon 259 = .ok (.isub, 1) := by decide +kernel
theorem dX5_reckon_260 : decode cX5_reckon 260 = .ok (.iload 6, 2) := by decide +kernel
theorem dX5_reckon_262 : decode cX5_reckon 262 = .ok (.iload 5, 2) := by decide +kernel
theorem dX5_reckon_264 : decode cX5_reckon 264 = .ok (.iadd, 1) := by decide +kernel
theorem dX5_reckon_265 : decode cX5_reckon 265 = .ok (.iastore, 1) := by decide +kernel
theorem dX5_reckon_266 : decode cX5_reckon 266 = .ok (.goto 57, 3) := by decide +kernel
theorem dX5_reckon_269 : decode cX5_reckon 269 = .ok (.aload_n 0, 1) := by decide +kernel
theorem dX5_reckon_270 : decode cX5_reckon 270 = .ok (.getfield 21, 3) := by decide +kernel
theorem dX5_reckon_273 : decode cX5_reckon 273 = .ok (.iload_n 2, 1) := by decide +kernel
theorem dX5_reckon_274 : decode cX5_reckon 274 = .ok (.iconst 1, 1) := by decide +kernel
theorem dX5_reckon_275 : decode cX5_reckon 275 = .ok (.isub, 1) := by decide +kernel
theorem dX5_reckon_276 : decode cX5_reckon 276 = .ok (.iload 6, 2) := by decide +kernel
theorem dX5_reckon_278 : decode cX5_reckon 278 = .ok (.iload 5, 2) := by decide +kernel
theorem dX5_reckon_280 : decode cX5_reckon 280 = .ok (.isub, 1) := by decide +kernel
theorem dX5_reckon_281 : decode cX5_reckon 281 = .ok (.iastore, 1) := by decide +kernel
theorem dX5_reckon_282 : decode cX5_reckon 282 = .ok (.goto 41, 3) := by decide +kernel
theorem dX5_reckon_285 : decode cX5_reckon 285 = .ok (.aload_n 0, 1) := by decide +kernel
theorem dX5_reckon_286 : decode cX5_reckon 286 = .ok (.getfield 21, 3) := by decide +kernel
theorem dX5_reckon_289 : decode cX5_reckon 289 = .ok (.iload_n 2, 1) := by decide +kernel
theorem dX5_reckon_290 : decode cX5_reckon 290 = .ok (.iconst 1, 1) := by decide +kernel
theorem dX5_reckon_291 : decode cX5_reckon 291 = .ok (.isub, 1) := by decide +kernel
theorem dX5_reckon_292 : decode cX5_reckon 292 = .ok (.iload 6, 2) := by decide +kernel
theorem dX5_reckon_294 : decode cX5_reckon 294 = .ok (.iload 5, 2) := by decide +kernel
theorem dX5_reckon_296 : decode cX5_reckon 296 = .ok (.imul, 1) := by decide +kernel
theorem dX5_reckon_297 : decode cX5_reckon 297 = .ok (.iastore, 1) := by decide +kernel
theorem dX5_reckon_298 : decode cX5_reckon 298 = .ok (.goto 25, 3) := by decide +kernel
theorem dX5_reckon_301 : decode cX5_reckon 301 = .ok (.aload_n 0, 1) := by decide +kernel
theorem dX5_reckon_302 : decode cX5_reckon 302 = .ok (.getfield 21, 3) := by decide +kernel
theorem dX5_reckon_305 : decode cX5_reckon 305 = .ok (.iload_n 2, 1) := by decide +kernel
theorem dX5_reckon_306 : decode cX5_reckon 306 = .ok (.iconst 1, 1) := by decide +kernel
theorem dX5_reckon_307 : decode cX5_reckon 307 = .ok (.isub, 1) := by decide +kernel
theorem dX5_reckon_308 : decode cX5_reckon 308 = .ok (.iload 5, 2) := by decide +kernel
theorem dX5_reckon_310 : decode cX5_reckon 310 = .ok (.ifCond .ne 7, 3) := by decide +kernel
theorem dX5_reckon_313 : decode cX5_reckon 313 = .ok (.iconst 0, 1) := by decide +kernel
theorem dX5_reckon_314 : decode cX5_reckon 314 = .ok (.goto 8, 3) := by decide +kernel
theorem dX5_reckon_317 : decode cX5_reckon 317 = .ok (.iload 6, 2) := by decide +kernel
theorem dX5_reckon_319 : decode cX5_reckon 319 = .ok (.iload 5, 2) := by decide +kernel
theorem dX5_reckon_321 : decode cX5_reckon 321 = .ok (.idiv, 1) := by decide +kernel
theorem dX5_reckon_322 : decode cX5_reckon 322 = .ok (.iastore, 1) := by decide +kernel
theorem dX5_reckon_323 : decode cX5_reckon 323 = .ok (.iinc 3 1, 3) := by decide +kernel
theorem dX5_reckon_326 : decode cX5_reckon 326 = .ok (.goto (-315), 3) := by decide +kernel
theorem dX5_reckon_329 : decode cX5_reckon 329 = .ok (.aload_n 0, 1) := by decide +kernel
theorem dX5_reckon_330 : decode cX5_reckon 330 = .ok (.getfield 21, 3) := by decide +kernel
theorem dX5_reckon_333 : decode cX5_reckon 333 = .ok (.iconst 0, 1) := by decide +kernel
theorem dX5_reckon_334 : decode cX5_reckon 334 = .ok (.iaload, 1) := by decide +kernel
theorem dX5_reckon_335 : decode cX5_reckon 335 = .ok (.ireturn, 1) := by decide +kernel
theorem dX6_init_0 : decode cX6_init 0 = .ok (.aload_n 0, 1) := by decide +kernel
theorem dX6_init_1 : decode cX6_init 1 = .ok (.invokespecial 3, 3) := by decide +kernel
theorem dX6_init_4 : decode cX6_init 4 = .ok (.aload_n 0, 1) := by decide +kernel
theorem dX6_init_5 : decode cX6_init 5 = .ok (.bipush 64, 2) := by decide +kernel
theorem dX6_init_7 : decode cX6_init 7 = .ok (.newarray .int, 2) := by decide +kernel
theorem dX6_init_9 : decode cX6_init 9 = .ok (.putfield 9, 3) := by decide +kernel
theorem dX6_init_12 : decode cX6_init 12 = .ok (.aload_n 0, 1) := by decide +kernel
theorem dX6_init_13 : decode cX6_init 13 = .ok (.bipush 64, 2) := by decide +kernel
theorem dX6_init_15 : decode cX6_init 15 = .ok (.newarray .int, 2) := by decide +kernel
theorem dX6_init_17 : decode cX6_init 17 = .ok (.putfield 15, 3) := by decide +kernel
theorem dX6_init_20 : decode cX6_init 20 = .ok (.aload_n 0, 1) := by decide +kernel
theorem dX6_init_21 : decode cX6_init 21 = .ok (.bipush 64, 2) := by decide +kernel
theorem dX6_init_23 : decode cX6_init 23 = .ok (.newarray .int, 2) := by decide +kernel
theorem dX6_init_25 : decode cX6_init 25 = .ok (.putfield 18, 3) := by decide +kernel
theorem dX6_init_28 : decode cX6_init 28 = .ok (.aload_n 0, 1) := by decide +kernel
theorem dX6_init_29 : decode cX6_init 29 = .ok (.bipush 64, 2) := by decide +kernel
theorem dX6_init_31 : decode cX6_init 31 = .ok (.newarray .int, 2) := by decide +kernel
theorem dX6_init_33 : decode cX6_init 33 = .ok (.putfield 21, 3) := by decide +kernel
theorem dX6_init_36 : decode cX6_init 36 = .ok (.aload_n 0, 1) := by decide +kernel
theorem dX6_init_37 : decode cX6_init 37 = .ok (.bipush 64, 2) := by decide +kernel
theorem dX6_init_39 : decode cX6_init 39 = .ok (.newarray .int, 2) := by decide +kernel
theorem dX6_init_41 : decode cX6_init 41 = .ok (.putfield 24, 3) := by decide +kernel
theorem dX6_init_44 : decode cX6_init 44 = .ok (.aload_n 0, 1) := by decide +kernel
theorem dX6_init_45 : decode cX6_init 45 = .ok (.bipush 6, 2) := by decide +kernel
theorem dX6_init_47 : decode cX6_init 47 = .ok (.newarray .int, 2) := by decide +kernel
theorem dX6_init_49 : decode cX6_init 49 = .ok (.putfield 27, 3) := by decide +kernel
theorem dX6_init_52 : decode cX6_init 52 = .ok (.aload_n 0, 1) := by decide +kernel
theorem dX6_init_53 : decode cX6_init 53 = .ok (.bipush 6, 2) := by decide +kernel
theorem dX6_init_55 : decode cX6_init 55 = .ok (.newarray .int, 2) := by decide +kernel
theorem dX6_init_57 : decode cX6_init 57 = .ok (.putfield 30, 3) := by decide +kernel
theorem dX6_init_60 : decode cX6_init 60 = .ok (.aload_n 0, 1) := by decide +kernel
theorem dX6_init_61 : decode cX6_init 61 = .ok (.getfield 21, 3) := by decide +kernel
theorem dX6_init_64 : decode cX6_init 64 = .ok (.iconst (-1), 1) := by decide +kernel
theorem dX6_init_65 : decode cX6_init 65 = .ok (.invokestatic 33, 3) := by decide +kernel
theorem dX6_init_68 : decode cX6_init 68 = .ok (.aload_n 0, 1) := by decide +kernel
theorem dX6_init_69 : decode cX6_init 69 = .ok (.getfield 24, 3) := by decide +kernel
theorem dX6_init_72 : decode cX6_init 72 = .ok (.iconst (-1), 1) := by decide +kernel
theorem dX6_init_73 : decode cX6_init 73 = .ok (.invokestatic 33, 3) := by decide +kernel
theorem dX6_init_76 : decode cX6_init 76 = .ok (.return_, 1) := by decide +kernel
theorem dX6_clear_0 : decode cX6_clear 0 = .ok (.aload_n 0, 1) := by decide +kernel
theorem dX6_clear_1 : decode cX6_clear 1 = .ok (.getfield 9, 3) := by decide +kernel
theorem dX6_clear_4 : decode cX6_clear 4 = .ok (.iconst 0, 1) := by decide +kernel
theorem dX6_clear_5 : decode cX6_clear 5 = .ok (.invokestatic 33, 3) := by decide +kernel
theorem dX6_clear_8 : decode cX6_clear 8 = .ok (.aload_n 0, 1) := by decide +kernel
theorem dX6_clear_9 : decode cX6_clear 9 = .ok (.getfield 15, 3) := by decide +kernel
theorem dX6_clear_12 : decode cX6_clear 12 = .ok (.iconst 0, 1) := by decide +kernel
theorem dX6_clear_13 : decode cX6_clear 13 = .ok (.invokestatic 33, 3) := by decide +kernel
theorem dX6_clear_16 : decode cX6_clear 16 = .ok (.aload_n 0, 1) := by decide +kernel
theorem dX6_clear_17 : decode cX6_clear 17 = .ok (.getfield 18, 3) := by decide +kernel
theorem dX6_clear_20 : decode cX6_clear 20 = .ok (.iconst 0, 1) := by decide +kernel
theorem dX6_clear_21 : decode cX6_clear 21 = .ok (.invokestatic 33, 3) := by decide +kernel
theorem dX6_clear_24 : decode cX6_clear 24 = .ok (.aload_n 0, 1) := by decide +kernel
theorem dX6_clear_25 : decode cX6_clear 25 = .ok (.getfield 21, 3) := by decide +kernel
theorem dX6_clear_28 : decode cX6_clear 28 = .ok (.iconst (-1), 1) := by decide +kernel
theorem dX6_clear_29 : decode cX6_clear 29 = .ok (.invokestatic 33, 3) := by decide +kernel
theorem dX6_clear_32 : decode cX6_clear 32 = .ok (.aload_n 0, 1) := by decide +kernel
theorem dX6_clear_33 : decode cX6_clear 33 = .ok (.getfield 24, 3) := by decide +kernel
theorem dX6_clear_36 : decode cX6_clear 36 = .ok (.iconst (-1), 1) := by decide +kernel
theorem dX6_clear_37 : decode cX6_clear 37 = .ok (.invokestatic 33, 3) := by decide +kernel
theorem dX6_clear_40 : decode cX6_clear 40 = .ok (.aload_n 0, 1) := by decide +kernel
theorem dX6_clear_41 : decode cX6_clear 41 = .ok (.iconst 0, 1) := by decide +kernel
theorem dX6_clear_42 : decode cX6_clear 42 = .ok (.putfield 39, 3) := by decide +kernel
theorem dX6_clear_45 : decode cX6_clear 45 = .ok (.aload_n 0, 1) := by decide +kernel
theorem dX6_clear_46 : decode cX6_clear 46 = .ok (.iconst 0, 1) := by decide +kernel
theorem dX6_clear_47 : decode cX6_clear 47 = .ok (.putfield 43, 3) := by decide +kernel
theorem dX6_clear_50 : decode cX6_clear 50 = .ok (.aload_n 0, 1) := by decide +kernel
theorem dX6_clear_51 : decode cX6_clear 51 = .ok (.iconst 0, 1) := by decide +kernel
theorem dX6_clear_52 : decode cX6_clear 52 = .ok (.putfield 46, 3) := by decide +kernel
theorem dX6_clear_55 : decode cX6_clear 55 = .ok (.aload_n 0, 1) := by decide +kernel
theorem dX6_clear_56 : decode cX6_clear 56 = .ok (.iconst 0, 1) := by decide +kernel
theorem dX6_clear_57 : decode cX6_clear 57 = .ok (.putfield 49, 3) := by decide +kernel
theorem dX6_clear_60 : decode cX6_clear 60 = .ok (.aload_n 0, 1) := by decide +kernel
theorem dX6_clear_61 : decode cX6_clear 61 = .ok (.iconst 0, 1) := by decide +kernel
theorem dX6_clear_62 : decode cX6_clear 62 = .ok (.putfield 52, 3) := by decide +kernel
theorem dX6_clear_65 : decode cX6_clear 65 = .ok (.return_, 1) := by decide +kernel
theorem dX6_copyFrom_0 : decode cX6_copyFrom 0 = .ok (.aload_n 1, 1) := by decide +kernel
theorem dX6_copyFrom_1 : decode cX6_copyFrom 1 = .ok (.getfield 9, 3) := by decide +kernel
theorem dX6_copyFrom_4 : decode cX6_copyFrom 4 = .ok (.iconst 0, 1) := by decide +kernel
theorem dX6_copyFrom_5 : decode cX6_copyFrom 5 = .ok (.aload_n 0, 1) := by decide +kernel
theorem dX6_copyFrom_6 : decode cX6_copyFrom 6 = .ok (.getfield 9, 3) := by decide +kernel
theorem dX6_copyFrom_9 : decode cX6_copyFrom 9 = .ok (.iconst 0, 1) := by decide +kernel
theorem dX6_copyFrom_10 : decode cX6_copyFrom 10 = .ok (.bipush 64, 2) := by decide +kernel
