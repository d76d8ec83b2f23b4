theorem dX10_set_28 : decode cX10_set 28 = .ok (.iload_n 2, 1) := by decide +kernel
theorem dX10_set_29 : decode cX10_set 29 = .ok (.putfield 167, 3) := by decide +kernel
theorem dX10_set_32 : decode cX10_set 32 = .ok (.goto 35, 3) := by decide +kernel
theorem dX10_set_35 : decode cX10_set 35 = .ok (.iload_n 1, 1) := by decide +kernel
theorem dX10_set_36 : decode cX10_set 36 = .ok (.iconst 1, 1) := by decide +kernel
theorem dX10_set_37 : decode cX10_set 37 = .ok (.if_icmp .ne 30, 3) := by decide +kernel
theorem dX10_set_40 : decode cX10_set 40 = .ok (.iload_n 2, 1) := by decide +kernel
theorem dX10_set_41 : decode cX10_set 41 = .ok (.iconst 1, 1) := by decide +kernel
theorem dX10_set_42 : decode cX10_set 42 = .ok (.if_icmp .lt 25, 3) := by decide +kernel
theorem dX10_set_45 : decode cX10_set 45 = .ok (.iload_n 2, 1) := by decide +kernel
theorem dX10_set_46 : decode cX10_set 46 = .ok (.bipush 99, 2) := by decide +kernel
theorem dX10_set_48 : decode cX10_set 48 = .ok (.if_icmp .gt 19, 3) := by decide +kernel
theorem dX10_set_51 : decode cX10_set 51 = .ok (.aload_n 0, 1) := by decide +kernel
theorem dX10_set_52 : decode cX10_set 52 = .ok (.getfield 42, 3) := by decide +kernel
theorem dX10_set_55 : decode cX10_set 55 = .ok (.getfield 203, 3) := by decide +kernel
theorem dX10_set_58 : decode cX10_set 58 = .ok (.istore_n 3, 1) := by decide +kernel
theorem dX10_set_59 : decode cX10_set 59 = .ok (.aload_n 0, 1) := by decide +kernel
theorem dX10_set_60 : decode cX10_set 60 = .ok (.getfield 42, 3) := by decide +kernel
theorem dX10_set_63 : decode cX10_set 63 = .ok (.iload_n 2, 1) := by decide +kernel
theorem dX10_set_64 : decode cX10_set 64 = .ok (.putfield 203, 3) := by decide +kernel
theorem dX10_set_67 : decode cX10_set 67 = .ok (.iload_n 3, 1) := by decide +kernel
theorem dX10_set_68 : decode cX10_set 68 = .ok (.ireturn, 1) := by decide +kernel
theorem dX10_sheet_0 : decode cX10_sheet 0 = .ok (.iload_n 1, 1) := by decide +kernel
theorem dX10_sheet_1 : decode cX10_sheet 1 = .ok (.ifCond .lt 14, 3) := by decide +kernel
theorem dX10_sheet_4 : decode cX10_sheet 4 = .ok (.iload_n 1, 1) := by decide +kernel
theorem dX10_sheet_5 : decode cX10_sheet 5 = .ok (.iconst 3, 1) := by decide +kernel
theorem dX10_sheet_6 : decode cX10_sheet 6 = .ok (.if_icmp .gt 9, 3) := by decide +kernel
theorem dX10_sheet_9 : decode cX10_sheet 9 = .ok (.iload_n 2, 1) := by decide +kernel
theorem dX10_sheet_10 : decode cX10_sheet 10 = .ok (.bipush 6, 2) := by decide +kernel
theorem dX10_sheet_12 : decode cX10_sheet 12 = .ok (.if_icmp .le 5, 3) := by decide +kernel
theorem dX10_sheet_15 : decode cX10_sheet 15 = .ok (.iconst (-1), 1) := by decide +kernel
theorem dX10_sheet_16 : decode cX10_sheet 16 = .ok (.ireturn, 1) := by decide +kernel
theorem dX10_sheet_17 : decode cX10_sheet 17 = .ok (.iload_n 1, 1) := by decide +kernel
theorem dX10_sheet_18 : decode cX10_sheet 18 = .ok (.iconst 3, 1) := by decide +kernel
theorem dX10_sheet_19 : decode cX10_sheet 19 = .ok (.if_icmp .eq 10, 3) := by decide +kernel
theorem dX10_sheet_22 : decode cX10_sheet 22 = .ok (.iload_n 2, 1) := by decide +kernel
theorem dX10_sheet_23 : decode cX10_sheet 23 = .ok (.ifCond .ge 6, 3) := by decide +kernel
theorem dX10_sheet_26 : decode cX10_sheet 26 = .ok (.bipush (-2), 2) := by decide +kernel
theorem dX10_sheet_28 : decode cX10_sheet 28 = .ok (.ireturn, 1) := by decide +kernel
theorem dX10_sheet_29 : decode cX10_sheet 29 = .ok (.iconst 0, 1) := by decide +kernel
theorem dX10_sheet_30 : decode cX10_sheet 30 = .ok (.istore 5, 2) := by decide +kernel
theorem dX10_sheet_32 : decode cX10_sheet 32 = .ok (.iconst 0, 1) := by decide +kernel
theorem dX10_sheet_33 : decode cX10_sheet 33 = .ok (.istore 6, 2) := by decide +kernel
theorem dX10_sheet_35 : decode cX10_sheet 35 = .ok (.iload 6, 2) := by decide +kernel
theorem dX10_sheet_37 : decode cX10_sheet 37 = .ok (.aload_n 0, 1) := by decide +kernel
theorem dX10_sheet_38 : decode cX10_sheet 38 = .ok (.getfield 49, 3) := by decide +kernel
theorem dX10_sheet_41 : decode cX10_sheet 41 = .ok (.getfield 206, 3) := by decide +kernel
theorem dX10_sheet_44 : decode cX10_sheet 44 = .ok (.if_icmp .ge 72, 3) := by decide +kernel
theorem dX10_sheet_47 : decode cX10_sheet 47 = .ok (.iload_n 1, 1) := by decide +kernel
theorem dX10_sheet_48 : decode cX10_sheet 48 = .ok (.iconst 3, 1) := by decide +kernel
theorem dX10_sheet_49 : decode cX10_sheet 49 = .ok (.if_icmp .eq 13, 3) := by decide +kernel
theorem dX10_sheet_52 : decode cX10_sheet 52 = .ok (.iload 6, 2) := by decide +kernel
theorem dX10_sheet_54 : decode cX10_sheet 54 = .ok (.iload_n 2, 1) := by decide +kernel
theorem dX10_sheet_55 : decode cX10_sheet 55 = .ok (.if_icmp .ge 7, 3) := by decide +kernel
theorem dX10_sheet_58 : decode cX10_sheet 58 = .ok (.iconst 1, 1) := by decide +kernel
theorem dX10_sheet_59 : decode cX10_sheet 59 = .ok (.goto 4, 3) := by decide +kernel
theorem dX10_sheet_62 : decode cX10_sheet 62 = .ok (.iconst 0, 1) := by decide +kernel
theorem dX10_sheet_63 : decode cX10_sheet 63 = .ok (.istore 7, 2) := by decide +kernel
theorem dX10_sheet_65 : decode cX10_sheet 65 = .ok (.aload_n 0, 1) := by decide +kernel
theorem dX10_sheet_66 : decode cX10_sheet 66 = .ok (.getfield 49, 3) := by decide +kernel
theorem dX10_sheet_69 : decode cX10_sheet 69 = .ok (.getfield 186, 3) := by decide +kernel
theorem dX10_sheet_72 : decode cX10_sheet 72 = .ok (.iload 6, 2) := by decide +kernel
theorem dX10_sheet_74 : decode cX10_sheet 74 = .ok (.iload 7, 2) := by decide +kernel
theorem dX10_sheet_76 : decode cX10_sheet 76 = .ok (.ifCond .eq 17, 3) := by decide +kernel
theorem dX10_sheet_79 : decode cX10_sheet 79 = .ok (.iload_n 1, 1) := by decide +kernel
theorem dX10_sheet_80 : decode cX10_sheet 80 = .ok (.iload_n 3, 1) := by decide +kernel
theorem dX10_sheet_81 : decode cX10_sheet 81 = .ok (.iload 6, 2) := by decide +kernel
theorem dX10_sheet_83 : decode cX10_sheet 83 = .ok (.iload 4, 2) := by decide +kernel
theorem dX10_sheet_85 : decode cX10_sheet 85 = .ok (.imul, 1) := by decide +kernel
theorem dX10_sheet_86 : decode cX10_sheet 86 = .ok (.iadd, 1) := by decide +kernel
theorem dX10_sheet_87 : decode cX10_sheet 87 = .ok (.invokestatic 209, 3) := by decide +kernel
theorem dX10_sheet_90 : decode cX10_sheet 90 = .ok (.goto 4, 3) := by decide +kernel
theorem dX10_sheet_93 : decode cX10_sheet 93 = .ok (.iconst 0, 1) := by decide +kernel
theorem dX10_sheet_94 : decode cX10_sheet 94 = .ok (.iastore, 1) := by decide +kernel
theorem dX10_sheet_95 : decode cX10_sheet 95 = .ok (.iload 5, 2) := by decide +kernel
theorem dX10_sheet_97 : decode cX10_sheet 97 = .ok (.aload_n 0, 1) := by decide +kernel
theorem dX10_sheet_98 : decode cX10_sheet 98 = .ok (.getfield 49, 3) := by decide +kernel
theorem dX10_sheet_101 : decode cX10_sheet 101 = .ok (.getfield 186, 3) := by decide +kernel
theorem dX10_sheet_104 : decode cX10_sheet 104 = .ok (.iload 6, 2) := by decide +kernel
theorem dX10_sheet_106 : decode cX10_sheet 106 = .ok (.iaload, 1) := by decide +kernel
theorem dX10_sheet_107 : decode cX10_sheet 107 = .ok (.iadd, 1) := by decide +kernel
theorem dX10_sheet_108 : decode cX10_sheet 108 = .ok (.istore 5, 2) := by decide +kernel
theorem dX10_sheet_110 : decode cX10_sheet 110 = .ok (.iinc 6 1, 3) := by decide +kernel
theorem dX10_sheet_113 : decode cX10_sheet 113 = .ok (.goto (-78), 3) := by decide +kernel
theorem dX10_sheet_116 : decode cX10_sheet 116 = .ok (.iload_n 1, 1) := by decide +kernel
theorem dX10_sheet_117 : decode cX10_sheet 117 = .ok (.iconst 3, 1) := by decide +kernel
theorem dX10_sheet_118 : decode cX10_sheet 118 = .ok (.if_icmp .ne 8, 3) := by decide +kernel
theorem dX10_sheet_121 : decode cX10_sheet 121 = .ok (.bipush (-3), 2) := by decide +kernel
theorem dX10_sheet_123 : decode cX10_sheet 123 = .ok (.goto 5, 3) := by decide +kernel
theorem dX10_sheet_126 : decode cX10_sheet 126 = .ok (.iload 5, 2) := by decide +kernel
theorem dX10_sheet_128 : decode cX10_sheet 128 = .ok (.ireturn, 1) := by decide +kernel
theorem dX10_greedOf_0 : decode cX10_greedOf 0 = .ok (.iload_n 1, 1) := by decide +kernel
theorem dX10_greedOf_1 : decode cX10_greedOf 1 = .ok (.istore_n 2, 1) := by decide +kernel
theorem dX10_greedOf_2 : decode cX10_greedOf 2 = .ok (.iload_n 0, 1) := by decide +kernel
theorem dX10_greedOf_3 : decode cX10_greedOf 3 = .ok (.ifCond .ne 9, 3) := by decide +kernel
theorem dX10_greedOf_6 : decode cX10_greedOf 6 = .ok (.iload_n 1, 1) := by decide +kernel
theorem dX10_greedOf_7 : decode cX10_greedOf 7 = .ok (.i2b, 1) := by decide +kernel
theorem dX10_greedOf_8 : decode cX10_greedOf 8 = .ok (.istore_n 2, 1) := by decide +kernel
theorem dX10_greedOf_9 : decode cX10_greedOf 9 = .ok (.goto 11, 3) := by decide +kernel
theorem dX10_greedOf_12 : decode cX10_greedOf 12 = .ok (.iload_n 0, 1) := by decide +kernel
theorem dX10_greedOf_13 : decode cX10_greedOf 13 = .ok (.iconst 1, 1) := by decide +kernel
theorem dX10_greedOf_14 : decode cX10_greedOf 14 = .ok (.if_icmp .ne 6, 3) := by decide +kernel
theorem dX10_greedOf_17 : decode cX10_greedOf 17 = .ok (.iload_n 1, 1) := by decide +kernel
theorem dX10_greedOf_18 : decode cX10_greedOf 18 = .ok (.i2s, 1) := by decide +kernel
theorem dX10_greedOf_19 : decode cX10_greedOf 19 = .ok (.istore_n 2, 1) := by decide +kernel
theorem dX10_greedOf_20 : decode cX10_greedOf 20 = .ok (.iconst 0, 1) := by decide +kernel
theorem dX10_greedOf_21 : decode cX10_greedOf 21 = .ok (.bipush 9, 2) := by decide +kernel
theorem dX10_greedOf_23 : decode cX10_greedOf 23 = .ok (.iload_n 2, 1) := by decide +kernel
theorem dX10_greedOf_24 : decode cX10_greedOf 24 = .ok (.invokestatic 212, 3) := by decide +kernel
theorem dX10_greedOf_27 : decode cX10_greedOf 27 = .ok (.invokestatic 217, 3) := by decide +kernel
theorem dX10_greedOf_30 : decode cX10_greedOf 30 = .ok (.ireturn, 1) := by decide +kernel
theorem dX10_readHerds_0 : decode cX10_readHerds 0 = .ok (.aload_n 0, 1) := by decide +kernel
theorem dX10_readHerds_1 : decode cX10_readHerds 1 = .ok (.getfield 10, 3) := by decide +kernel
theorem dX10_readHerds_4 : decode cX10_readHerds 4 = .ok (.bipush 76, 2) := by decide +kernel
theorem dX10_readHerds_6 : decode cX10_readHerds 6 = .ok (.invokevirtual 220, 3) := by decide +kernel
theorem dX10_readHerds_9 : decode cX10_readHerds 9 = .ok (.aload_n 0, 1) := by decide +kernel
theorem dX10_readHerds_10 : decode cX10_readHerds 10 = .ok (.getfield 10, 3) := by decide +kernel
theorem dX10_readHerds_13 : decode cX10_readHerds 13 = .ok (.invokevirtual 224, 3) := by decide +kernel
theorem dX10_readHerds_16 : decode cX10_readHerds 16 = .ok (.ifCond .eq 5, 3) := by decide +kernel
theorem dX10_readHerds_19 : decode cX10_readHerds 19 = .ok (.iconst 0, 1) := by decide +kernel
theorem dX10_readHerds_20 : decode cX10_readHerds 20 = .ok (.ireturn, 1) := by decide +kernel
theorem dX10_readHerds_21 : decode cX10_readHerds 21 = .ok (.aload_n 0, 1) := by decide +kernel
theorem dX10_readHerds_22 : decode cX10_readHerds 22 = .ok (.getfield 53, 3) := by decide +kernel
theorem dX10_readHerds_25 : decode cX10_readHerds 25 = .ok (.aload_n 0, 1) := by decide +kernel
theorem dX10_readHerds_26 : decode cX10_readHerds 26 = .ok (.getfield 49, 3) := by decide +kernel
theorem dX10_readHerds_29 : decode cX10_readHerds 29 = .ok (.invokevirtual 131, 3) := by decide +kernel
theorem dX10_readHerds_32 : decode cX10_readHerds 32 = .ok (.iconst 1, 1) := by decide +kernel
theorem dX10_readHerds_33 : decode cX10_readHerds 33 = .ok (.istore_n 1, 1) := by decide +kernel
theorem dX10_readHerds_34 : decode cX10_readHerds 34 = .ok (.iload_n 1, 1) := by decide +kernel
theorem dX10_readHerds_35 : decode cX10_readHerds 35 = .ok (.bipush 6, 2) := by decide +kernel
theorem dX10_readHerds_37 : decode cX10_readHerds 37 = .ok (.if_icmp .gt 56, 3) := by decide +kernel
theorem dX10_readHerds_40 : decode cX10_readHerds 40 = .ok (.aload_n 0, 1) := by decide +kernel
theorem dX10_readHerds_41 : decode cX10_readHerds 41 = .ok (.invokevirtual 228, 3) := by decide +kernel
theorem dX10_readHerds_44 : decode cX10_readHerds 44 = .ok (.ifCond .ne 11, 3) := by decide +kernel
theorem dX10_readHerds_47 : decode cX10_readHerds 47 = .ok (.aload_n 0, 1) := by decide +kernel
theorem dX10_readHerds_48 : decode cX10_readHerds 48 = .ok (.getfield 10, 3) := by decide +kernel
theorem dX10_readHerds_51 : decode cX10_readHerds 51 = .ok (.invokevirtual 231, 3) := by decide +kernel
theorem dX10_readHerds_54 : decode cX10_readHerds 54 = .ok (.ireturn, 1) := by decide +kernel
theorem dX10_readHerds_55 : decode cX10_readHerds 55 = .ok (.aload_n 0, 1) := by decide +kernel
theorem dX10_readHerds_56 : decode cX10_readHerds 56 = .ok (.getfield 10, 3) := by decide +kernel
theorem dX10_readHerds_59 : decode cX10_readHerds 59 = .ok (.invokevirtual 224, 3) := by decide +kernel
theorem dX10_readHerds_62 : decode cX10_readHerds 62 = .ok (.ifCond .eq 5, 3) := by decide +kernel
theorem dX10_readHerds_65 : decode cX10_readHerds 65 = .ok (.iload_n 1, 1) := by decide +kernel
theorem dX10_readHerds_66 : decode cX10_readHerds 66 = .ok (.ireturn, 1) := by decide +kernel
theorem dX10_readHerds_67 : decode cX10_readHerds 67 = .ok (.aload_n 0, 1) := by decide +kernel
theorem dX10_readHerds_68 : decode cX10_readHerds 68 = .ok (.getfield 10, 3) := by decide +kernel
theorem dX10_readHerds_71 : decode cX10_readHerds 71 = .ok (.bipush 59, 2) := by decide +kernel
theorem dX10_readHerds_73 : decode cX10_readHerds 73 = .ok (.invokevirtual 234, 3) := by decide +kernel
theorem dX10_readHerds_76 : decode cX10_readHerds 76 = .ok (.ifCond .ne 11, 3) := by decide +kernel
theorem dX10_readHerds_79 : decode cX10_readHerds 79 = .ok (.aload_n 0, 1) := by decide +kernel
theorem dX10_readHerds_80 : decode cX10_readHerds 80 = .ok (.getfield 10, 3) := by decide +kernel
theorem dX10_readHerds_83 : decode cX10_readHerds 83 = .ok (.invokevirtual 231, 3) := by decide +kernel
theorem dX10_readHerds_86 : decode cX10_readHerds 86 = .ok (.ireturn, 1) := by decide +kernel
theorem dX10_readHerds_87 : decode cX10_readHerds 87 = .ok (.iinc 1 1, 3) := by decide +kernel
theorem dX10_readHerds_90 : decode cX10_readHerds 90 = .ok (.goto (-56), 3) := by decide +kernel
theorem dX10_readHerds_93 : decode cX10_readHerds 93 = .ok (.aload_n 0, 1) := by decide +kernel
theorem dX10_readHerds_94 : decode cX10_readHerds 94 = .ok (.getfield 10, 3) := by decide +kernel
theorem dX10_readHerds_97 : decode cX10_readHerds 97 = .ok (.invokevirtual 231, 3) := by decide +kernel
theorem dX10_readHerds_100 : decode cX10_readHerds 100 = .ok (.ireturn, 1) := by decide +kernel
theorem dX10_readHerd_0 : decode cX10_readHerd 0 = .ok (.aload_n 0, 1) := by decide +kernel
theorem dX10_readHerd_1 : decode cX10_readHerd 1 = .ok (.getfield 53, 3) := by decide +kernel
theorem dX10_readHerd_4 : decode cX10_readHerd 4 = .ok (.getfield 206, 3) := by decide +kernel
theorem dX10_readHerd_7 : decode cX10_readHerd 7 = .ok (.bipush 6, 2) := by decide +kernel
theorem dX10_readHerd_9 : decode cX10_readHerd 9 = .ok (.if_icmp .lt 5, 3) := by decide +kernel
theorem dX10_readHerd_12 : decode cX10_readHerd 12 = .ok (.iconst 0, 1) := by decide +kernel
theorem dX10_readHerd_13 : decode cX10_readHerd 13 = .ok (.ireturn, 1) := by decide +kernel
theorem dX10_readHerd_14 : decode cX10_readHerd 14 = .ok (.aload_n 0, 1) := by decide +kernel
theorem dX10_readHerd_15 : decode cX10_readHerd 15 = .ok (.aload_n 0, 1) := by decide +kernel
theorem dX10_readHerd_16 : decode cX10_readHerd 16 = .ok (.getfield 26, 3) := by decide +kernel
theorem dX10_readHerd_19 : decode cX10_readHerd 19 = .ok (.getfield 121, 3) := by decide +kernel
theorem dX10_readHerd_22 : decode cX10_readHerd 22 = .ok (.aload_n 0, 1) := by decide +kernel
theorem dX10_readHerd_23 : decode cX10_readHerd 23 = .ok (.getfield 26, 3) := by decide +kernel
theorem dX10_readHerd_26 : decode cX10_readHerd 26 = .ok (.getfield 124, 3) := by decide +kernel
theorem dX10_readHerd_29 : decode cX10_readHerd 29 = .ok (.invokevirtual 238, 3) := by decide +kernel
theorem dX10_readHerd_32 : decode cX10_readHerd 32 = .ok (.istore_n 1, 1) := by decide +kernel
theorem dX10_readHerd_33 : decode cX10_readHerd 33 = .ok (.iload_n 1, 1) := by decide +kernel
theorem dX10_readHerd_34 : decode cX10_readHerd 34 = .ok (.iconst (-1), 1) := by decide +kernel
theorem dX10_readHerd_35 : decode cX10_readHerd 35 = .ok (.if_icmp .ne 5, 3) := by decide +kernel
theorem dX10_readHerd_38 : decode cX10_readHerd 38 = .ok (.iconst 0, 1) := by decide +kernel
theorem dX10_readHerd_39 : decode cX10_readHerd 39 = .ok (.ireturn, 1) := by decide +kernel
theorem dX10_readHerd_40 : decode cX10_readHerd 40 = .ok (.aload_n 0, 1) := by decide +kernel
theorem dX10_readHerd_41 : decode cX10_readHerd 41 = .ok (.getfield 26, 3) := by decide +kernel
theorem dX10_readHerd_44 : decode cX10_readHerd 44 = .ok (.iload_n 1, 1) := by decide +kernel
theorem dX10_readHerd_45 : decode cX10_readHerd 45 = .ok (.invokevirtual 241, 3) := by decide +kernel
theorem dX10_readHerd_48 : decode cX10_readHerd 48 = .ok (.ifCond .ne 12, 3) := by decide +kernel
theorem dX10_readHerd_51 : decode cX10_readHerd 51 = .ok (.aload_n 0, 1) := by decide +kernel
theorem dX10_readHerd_52 : decode cX10_readHerd 52 = .ok (.getfield 10, 3) := by decide +kernel
theorem dX10_readHerd_55 : decode cX10_readHerd 55 = .ok (.invokevirtual 244, 3) := by decide +kernel
theorem dX10_readHerd_58 : decode cX10_readHerd 58 = .ok (.iconst 0, 1) := by decide +kernel
theorem dX10_readHerd_59 : decode cX10_readHerd 59 = .ok (.ireturn, 1) := by decide +kernel
theorem dX10_readHerd_60 : decode cX10_readHerd 60 = .ok (.aload_n 0, 1) := by decide +kernel
theorem dX10_readHerd_61 : decode cX10_readHerd 61 = .ok (.getfield 10, 3) := by decide +kernel
theorem dX10_readHerd_64 : decode cX10_readHerd 64 = .ok (.iconst 0, 1) := by decide +kernel
theorem dX10_readHerd_65 : decode cX10_readHerd 65 = .ok (.bipush 9, 2) := by decide +kernel
theorem dX10_readHerd_67 : decode cX10_readHerd 67 = .ok (.invokevirtual 247, 3) := by decide +kernel
theorem dX10_readHerd_70 : decode cX10_readHerd 70 = .ok (.istore_n 2, 1) := by decide +kernel
theorem dX10_readHerd_71 : decode cX10_readHerd 71 = .ok (.iload_n 2, 1) := by decide +kernel
theorem dX10_readHerd_72 : decode cX10_readHerd 72 = .ok (.iconst (-1), 1) := by decide +kernel
theorem dX10_readHerd_73 : decode cX10_readHerd 73 = .ok (.if_icmp .ne 5, 3) := by decide +kernel
theorem dX10_readHerd_76 : decode cX10_readHerd 76 = .ok (.iconst 0, 1) := by decide +kernel
theorem dX10_readHerd_77 : decode cX10_readHerd 77 = .ok (.ireturn, 1) := by decide +kernel
theorem dX10_readHerd_78 : decode cX10_readHerd 78 = .ok (.aload_n 0, 1) := by decide +kernel
theorem dX10_readHerd_79 : decode cX10_readHerd 79 = .ok (.getfield 53, 3) := by decide +kernel
theorem dX10_readHerd_82 : decode cX10_readHerd 82 = .ok (.iload_n 1, 1) := by decide +kernel
theorem dX10_readHerd_83 : decode cX10_readHerd 83 = .ok (.iload_n 2, 1) := by decide +kernel
theorem dX10_readHerd_84 : decode cX10_readHerd 84 = .ok (.aload_n 0, 1) := by decide +kernel
theorem dX10_readHerd_85 : decode cX10_readHerd 85 = .ok (.getfield 10, 3) := by decide +kernel
theorem dX10_readHerd_88 : decode cX10_readHerd 88 = .ok (.bipush 42, 2) := by decide +kernel
theorem dX10_readHerd_90 : decode cX10_readHerd 90 = .ok (.invokevirtual 234, 3) := by decide +kernel
theorem dX10_readHerd_93 : decode cX10_readHerd 93 = .ok (.invokevirtual 250, 3) := by decide +kernel
theorem dX10_readHerd_96 : decode cX10_readHerd 96 = .ok (.iconst 1, 1) := by decide +kernel
theorem dX10_readHerd_97 : decode cX10_readHerd 97 = .ok (.ireturn, 1) := by decide +kernel
theorem dX10_readCell_0 : decode cX10_readCell 0 = .ok (.aload_n 0, 1) := by decide +kernel
theorem dX10_readCell_1 : decode cX10_readCell 1 = .ok (.getfield 10, 3) := by decide +kernel
theorem dX10_readCell_4 : decode cX10_readCell 4 = .ok (.iload_n 1, 1) := by decide +kernel
theorem dX10_readCell_5 : decode cX10_readCell 5 = .ok (.invokevirtual 254, 3) := by decide +kernel
theorem dX10_readCell_8 : decode cX10_readCell 8 = .ok (.istore_n 3, 1) := by decide +kernel
theorem dX10_readCell_9 : decode cX10_readCell 9 = .ok (.iload_n 3, 1) := by decide +kernel
theorem dX10_readCell_10 : decode cX10_readCell 10 = .ok (.iconst (-1), 1) := by decide +kernel
theorem dX10_readCell_11 : decode cX10_readCell 11 = .ok (.if_icmp .ne 5, 3) := by decide +kernel
theorem dX10_readCell_14 : decode cX10_readCell 14 = .ok (.iconst (-1), 1) := by decide +kernel
theorem dX10_readCell_15 : decode cX10_readCell 15 = .ok (.ireturn, 1) := by decide +kernel
theorem dX10_readCell_16 : decode cX10_readCell 16 = .ok (.aload_n 0, 1) := by decide +kernel
theorem dX10_readCell_17 : decode cX10_readCell 17 = .ok (.getfield 10, 3) := by decide +kernel
theorem dX10_readCell_20 : decode cX10_readCell 20 = .ok (.iconst 1, 1) := by decide +kernel
theorem dX10_readCell_21 : decode cX10_readCell 21 = .ok (.iload_n 2, 1) := by decide +kernel
theorem dX10_readCell_22 : decode cX10_readCell 22 = .ok (.invokevirtual 247, 3) := by decide +kernel
theorem dX10_readCell_25 : decode cX10_readCell 25 = .ok (.istore 4, 2) := by decide +kernel
theorem dX10_readCell_27 : decode cX10_readCell 27 = .ok (.iload 4, 2) := by decide +kernel
theorem dX10_readCell_29 : decode cX10_readCell 29 = .ok (.iconst (-1), 1) := by decide +kernel
theorem dX10_readCell_30 : decode cX10_readCell 30 = .ok (.if_icmp .ne 7, 3) := by decide +kernel
theorem dX10_readCell_33 : decode cX10_readCell 33 = .ok (.iconst (-1), 1) := by decide +kernel
theorem dX10_readCell_34 : decode cX10_readCell 34 = .ok (.goto 12, 3) := by decide +kernel
theorem dX10_readCell_37 : decode cX10_readCell 37 = .ok (.bipush 8, 2) := by decide +kernel
theorem dX10_readCell_39 : decode cX10_readCell 39 = .ok (.iload 4, 2) := by decide +kernel
theorem dX10_readCell_41 : decode cX10_readCell 41 = .ok (.iconst 1, 1) := by decide +kernel
theorem dX10_readCell_42 : decode cX10_readCell 42 = .ok (.isub, 1) := by decide +kernel
theorem dX10_readCell_43 : decode cX10_readCell 43 = .ok (.imul, 1) := by decide +kernel
theorem dX10_readCell_44 : decode cX10_readCell 44 = .ok (.iload_n 3, 1) := by decide +kernel
theorem dX10_readCell_45 : decode cX10_readCell 45 = .ok (.iadd, 1) := by decide +kernel
theorem dX10_readCell_46 : decode cX10_readCell 46 = .ok (.ireturn, 1) := by decide +kernel
theorem dX10_salt_0 : decode cX10_salt 0 = .ok (.aload_n 0, 1) := by decide +kernel
theorem dX10_salt_1 : decode cX10_salt 1 = .ok (.getfield 53, 3) := by decide +kernel
theorem dX10_salt_4 : decode cX10_salt 4 = .ok (.aload_n 0, 1) := by decide +kernel
theorem dX10_salt_5 : decode cX10_salt 5 = .ok (.getfield 49, 3) := by decide +kernel
theorem dX10_salt_8 : decode cX10_salt 8 = .ok (.invokevirtual 131, 3) := by decide +kernel
theorem dX10_salt_11 : decode cX10_salt 11 = .ok (.aload_n 0, 1) := by decide +kernel
theorem dX10_salt_12 : decode cX10_salt 12 = .ok (.aload_n 0, 1) := by decide +kernel
theorem dX10_salt_13 : decode cX10_salt 13 = .ok (.aload_n 0, 1) := by decide +kernel
theorem dX10_salt_14 : decode cX10_salt 14 = .ok (.getfield 49, 3) := by decide +kernel
theorem dX10_salt_17 : decode cX10_salt 17 = .ok (.getfield 148, 3) := by decide +kernel
theorem dX10_salt_20 : decode cX10_salt 20 = .ok (.iload_n 1, 1) := by decide +kernel
theorem dX10_salt_21 : decode cX10_salt 21 = .ok (.iload_n 2, 1) := by decide +kernel
theorem dX10_salt_22 : decode cX10_salt 22 = .ok (.invokevirtual 257, 3) := by decide +kernel
theorem dX10_salt_25 : decode cX10_salt 25 = .ok (.invokevirtual 260, 3) := by decide +kernel
theorem dX10_salt_28 : decode cX10_salt 28 = .ok (.ireturn, 1) := by decide +kernel
theorem dX10_thistles_0 : decode cX10_thistles 0 = .ok (.aload_n 0, 1) := by decide +kernel
theorem dX10_thistles_1 : decode cX10_thistles 1 = .ok (.getfield 53, 3) := by decide +kernel
theorem dX10_thistles_4 : decode cX10_thistles 4 = .ok (.aload_n 0, 1) := by decide +kernel
theorem dX10_thistles_5 : decode cX10_thistles 5 = .ok (.getfield 49, 3) := by decide +kernel
theorem dX10_thistles_8 : decode cX10_thistles 8 = .ok (.invokevirtual 131, 3) := by decide +kernel
theorem dX10_thistles_11 : decode cX10_thistles 11 = .ok (.aload_n 0, 1) := by decide +kernel
theorem dX10_thistles_12 : decode cX10_thistles 12 = .ok (.aload_n 0, 1) := by decide +kernel
theorem dX10_thistles_13 : decode cX10_thistles 13 = .ok (.aload_n 0, 1) := by decide +kernel
theorem dX10_thistles_14 : decode cX10_thistles 14 = .ok (.getfield 49, 3) := by decide +kernel
theorem dX10_thistles_17 : decode cX10_thistles 17 = .ok (.getfield 151, 3) := by decide +kernel
theorem dX10_thistles_20 : decode cX10_thistles 20 = .ok (.iload_n 1, 1) := by decide +kernel
theorem dX10_thistles_21 : decode cX10_thistles 21 = .ok (.iload_n 2, 1) := by decide +kernel
theorem dX10_thistles_22 : decode cX10_thistles 22 = .ok (.invokevirtual 257, 3) := by decide +kernel
theorem dX10_thistles_25 : decode cX10_thistles 25 = .ok (.invokevirtual 260, 3) := by decide +kernel
theorem dX10_thistles_28 : decode cX10_thistles 28 = .ok (.ireturn, 1) := by decide +kernel
theorem dX10_gate_0 : decode cX10_gate 0 = .ok (.aload_n 0, 1) := by decide +kernel
theorem dX10_gate_1 : decode cX10_gate 1 = .ok (.getfield 53, 3) := by decide +kernel
theorem dX10_gate_4 : decode cX10_gate 4 = .ok (.aload_n 0, 1) := by decide +kernel
theorem dX10_gate_5 : decode cX10_gate 5 = .ok (.getfield 49, 3) := by decide +kernel
theorem dX10_gate_8 : decode cX10_gate 8 = .ok (.invokevirtual 131, 3) := by decide +kernel
theorem dX10_gate_11 : decode cX10_gate 11 = .ok (.aload_n 0, 1) := by decide +kernel
theorem dX10_gate_12 : decode cX10_gate 12 = .ok (.aload_n 0, 1) := by decide +kernel
theorem dX10_gate_13 : decode cX10_gate 13 = .ok (.iload_n 1, 1) := by decide +kernel
theorem dX10_gate_14 : decode cX10_gate 14 = .ok (.iload_n 2, 1) := by decide +kernel
theorem dX10_gate_15 : decode cX10_gate 15 = .ok (.invokevirtual 263, 3) := by decide +kernel
theorem dX10_gate_18 : decode cX10_gate 18 = .ok (.invokevirtual 260, 3) := by decide +kernel
theorem dX10_gate_21 : decode cX10_gate 21 = .ok (.ireturn, 1) := by decide +kernel
theorem dX10_drive_0 : decode cX10_drive 0 = .ok (.aload_n 0, 1) := by decide +kernel
theorem dX10_drive_1 : decode cX10_drive 1 = .ok (.getfield 53, 3) := by decide +kernel
theorem dX10_drive_4 : decode cX10_drive 4 = .ok (.aload_n 0, 1) := by decide +kernel
theorem dX10_drive_5 : decode cX10_drive 5 = .ok (.getfield 49, 3) := by decide +kernel
theorem dX10_drive_8 : decode cX10_drive 8 = .ok (.invokevirtual 131, 3) := by decide +kernel
theorem dX10_drive_11 : decode cX10_drive 11 = .ok (.aload_n 0, 1) := by decide +kernel
theorem dX10_drive_12 : decode cX10_drive 12 = .ok (.aload_n 0, 1) := by decide +kernel
theorem dX10_drive_13 : decode cX10_drive 13 = .ok (.iload_n 1, 1) := by decide +kernel
theorem dX10_drive_14 : decode cX10_drive 14 = .ok (.iload_n 2, 1) := by decide +kernel
theorem dX10_drive_15 : decode cX10_drive 15 = .ok (.invokevirtual 266, 3) := by decide +kernel
theorem dX10_drive_18 : decode cX10_drive 18 = .ok (.invokevirtual 260, 3) := by decide +kernel
theorem dX10_drive_21 : decode cX10_drive 21 = .ok (.ireturn, 1) := by decide +kernel
theorem dX10_hour_0 : decode cX10_hour 0 = .ok (.aload_n 0, 1) := by decide +kernel
theorem dX10_hour_1 : decode cX10_hour 1 = .ok (.getfield 53, 3) := by decide +kernel
theorem dX10_hour_4 : decode cX10_hour 4 = .ok (.aload_n 0, 1) := by decide +kernel
theorem dX10_hour_5 : decode cX10_hour 5 = .ok (.getfield 49, 3) := by decide +kernel
theorem dX10_hour_8 : decode cX10_hour 8 = .ok (.invokevirtual 131, 3) := by decide +kernel
theorem dX10_hour_11 : decode cX10_hour 11 = .ok (.aload_n 0, 1) := by decide +kernel
theorem dX10_hour_12 : decode cX10_hour 12 = .ok (.getfield 42, 3) := by decide +kernel
theorem dX10_hour_15 : decode cX10_hour 15 = .ok (.aload_n 0, 1) := by decide +kernel
theorem dX10_hour_16 : decode cX10_hour 16 = .ok (.getfield 49, 3) := by decide +kernel
theorem dX10_hour_19 : decode cX10_hour 19 = .ok (.invokevirtual 269, 3) := by decide +kernel
theorem dX10_hour_22 : decode cX10_hour 22 = .ok (.istore_n 1, 1) := by decide +kernel
theorem dX10_hour_23 : decode cX10_hour 23 = .ok (.aload_n 0, 1) := by decide +kernel
theorem dX10_hour_24 : decode cX10_hour 24 = .ok (.aload_n 0, 1) := by decide +kernel
theorem dX10_hour_25 : decode cX10_hour 25 = .ok (.getfield 49, 3) := by decide +kernel
theorem dX10_hour_28 : decode cX10_hour 28 = .ok (.invokevirtual 273, 3) := by decide +kernel
theorem dX10_hour_31 : decode cX10_hour 31 = .ok (.aload_n 0, 1) := by decide +kernel
theorem dX10_hour_32 : decode cX10_hour 32 = .ok (.iload_n 1, 1) := by decide +kernel
theorem dX10_hour_33 : decode cX10_hour 33 = .ok (.invokevirtual 260, 3) := by decide +kernel
theorem dX10_hour_36 : decode cX10_hour 36 = .ok (.ireturn, 1) := by decide +kernel
theorem dX10_hours_0 : decode cX10_hours 0 = .ok (.iload_n 1, 1) := by decide +kernel
theorem dX10_hours_1 : decode cX10_hours 1 = .ok (.ifCond .lt 9, 3) := by decide +kernel
theorem dX10_hours_4 : decode cX10_hours 4 = .ok (.iload_n 1, 1) := by decide +kernel
theorem dX10_hours_5 : decode cX10_hours 5 = .ok (.bipush 60, 2) := by decide +kernel
theorem dX10_hours_7 : decode cX10_hours 7 = .ok (.if_icmp .le 5, 3) := by decide +kernel
theorem dX10_hours_10 : decode cX10_hours 10 = .ok (.iconst (-1), 1) := by decide +kernel
theorem dX10_hours_11 : decode cX10_hours 11 = .ok (.ireturn, 1) := by decide +kernel
theorem dX10_hours_12 : decode cX10_hours 12 = .ok (.aload_n 0, 1) := by decide +kernel
theorem dX10_hours_13 : decode cX10_hours 13 = .ok (.getfield 53, 3) := by decide +kernel
theorem dX10_hours_16 : decode cX10_hours 16 = .ok (.aload_n 0, 1) := by decide +kernel
theorem dX10_hours_17 : decode cX10_hours 17 = .ok (.getfield 49, 3) := by decide +kernel
theorem dX10_hours_20 : decode cX10_hours 20 = .ok (.invokevirtual 131, 3) := by decide +kernel
theorem dX10_hours_23 : decode cX10_hours 23 = .ok (.aload_n 0, 1) := by decide +kernel
theorem dX10_hours_24 : decode cX10_hours 24 = .ok (.getfield 42, 3) := by decide +kernel
theorem dX10_hours_27 : decode cX10_hours 27 = .ok (.aload_n 0, 1) := by decide +kernel
theorem dX10_hours_28 : decode cX10_hours 28 = .ok (.getfield 49, 3) := by decide +kernel
theorem dX10_hours_31 : decode cX10_hours 31 = .ok (.iload_n 1, 1) := by decide +kernel
theorem dX10_hours_32 : decode cX10_hours 32 = .ok (.invokevirtual 276, 3) := by decide +kernel
theorem dX10_hours_35 : decode cX10_hours 35 = .ok (.istore_n 2, 1) := by decide +kernel
theorem dX10_hours_36 : decode cX10_hours 36 = .ok (.aload_n 0, 1) := by decide +kernel
theorem dX10_hours_37 : decode cX10_hours 37 = .ok (.aload_n 0, 1) := by decide +kernel
theorem dX10_hours_38 : decode cX10_hours 38 = .ok (.getfield 49, 3) := by decide +kernel
theorem dX10_hours_41 : decode cX10_hours 41 = .ok (.invokevirtual 273, 3) := by decide +kernel
theorem dX10_hours_44 : decode cX10_hours 44 = .ok (.iload_n 1, 1) := by decide +kernel
theorem dX10_hours_45 : decode cX10_hours 45 = .ok (.ifCond .ne 7, 3) := by decide +kernel
theorem dX10_hours_48 : decode cX10_hours 48 = .ok (.iload_n 2, 1) := by decide +kernel
theorem dX10_hours_49 : decode cX10_hours 49 = .ok (.goto 8, 3) := by decide +kernel
theorem dX10_hours_52 : decode cX10_hours 52 = .ok (.aload_n 0, 1) := by decide +kernel
theorem dX10_hours_53 : decode cX10_hours 53 = .ok (.iload_n 2, 1) := by decide +kernel
theorem dX10_hours_54 : decode cX10_hours 54 = .ok (.invokevirtual 260, 3) := by decide +kernel
theorem dX10_hours_57 : decode cX10_hours 57 = .ok (.ireturn, 1) := by decide +kernel
theorem dX10_day_0 : decode cX10_day 0 = .ok (.aload_n 0, 1) := by decide +kernel
theorem dX10_day_1 : decode cX10_day 1 = .ok (.invokevirtual 280, 3) := by decide +kernel
theorem dX10_day_4 : decode cX10_day 4 = .ok (.istore_n 1, 1) := by decide +kernel
theorem dX10_day_5 : decode cX10_day 5 = .ok (.iload_n 1, 1) := by decide +kernel
theorem dX10_day_6 : decode cX10_day 6 = .ok (.ifCond .eq 12, 3) := by decide +kernel
theorem dX10_day_9 : decode cX10_day 9 = .ok (.aload_n 0, 1) := by decide +kernel
theorem dX10_day_10 : decode cX10_day 10 = .ok (.getfield 10, 3) := by decide +kernel
theorem dX10_day_13 : decode cX10_day 13 = .ok (.invokevirtual 93, 3) := by decide +kernel
theorem dX10_day_16 : decode cX10_day 16 = .ok (.iload_n 1, 1) := by decide +kernel
theorem dX10_day_17 : decode cX10_day 17 = .ok (.ireturn, 1) := by decide +kernel
theorem dX10_day_18 : decode cX10_day 18 = .ok (.aload_n 0, 1) := by decide +kernel
theorem dX10_day_19 : decode cX10_day 19 = .ok (.getfield 53, 3) := by decide +kernel
theorem dX10_day_22 : decode cX10_day 22 = .ok (.aload_n 0, 1) := by decide +kernel
theorem dX10_day_23 : decode cX10_day 23 = .ok (.getfield 49, 3) := by decide +kernel
theorem dX10_day_26 : decode cX10_day 26 = .ok (.invokevirtual 131, 3) := by decide +kernel
theorem dX10_day_29 : decode cX10_day 29 = .ok (.aload_n 0, 1) := by decide +kernel
theorem dX10_day_30 : decode cX10_day 30 = .ok (.getfield 10, 3) := by decide +kernel
theorem dX10_day_33 : decode cX10_day 33 = .ok (.bipush 60, 2) := by decide +kernel
theorem dX10_day_35 : decode cX10_day 35 = .ok (.invokevirtual 220, 3) := by decide +kernel
theorem dX10_day_38 : decode cX10_day 38 = .ok (.iconst 0, 1) := by decide +kernel
theorem dX10_day_39 : decode cX10_day 39 = .ok (.istore_n 2, 1) := by decide +kernel
theorem dX10_day_40 : decode cX10_day 40 = .ok (.iconst 0, 1) := by decide +kernel
theorem dX10_day_41 : decode cX10_day 41 = .ok (.istore_n 3, 1) := by decide +kernel
theorem dX10_day_42 : decode cX10_day 42 = .ok (.iconst 0, 1) := by decide +kernel
theorem dX10_day_43 : decode cX10_day 43 = .ok (.istore 4, 2) := by decide +kernel
theorem dX10_day_45 : decode cX10_day 45 = .ok (.iconst 0, 1) := by decide +kernel
theorem dX10_day_46 : decode cX10_day 46 = .ok (.istore 5, 2) := by decide +kernel
theorem dX10_day_48 : decode cX10_day 48 = .ok (.iload 5, 2) := by decide +kernel
theorem dX10_day_50 : decode cX10_day 50 = .ok (.bipush 60, 2) := by decide +kernel
theorem dX10_day_52 : decode cX10_day 52 = .ok (.if_icmp .ge 69, 3) := by decide +kernel
theorem dX10_day_55 : decode cX10_day 55 = .ok (.iload 4, 2) := by decide +kernel
theorem dX10_day_57 : decode cX10_day 57 = .ok (.ifCond .ne 64, 3) := by decide +kernel
theorem dX10_day_60 : decode cX10_day 60 = .ok (.aload_n 0, 1) := by decide +kernel
theorem dX10_day_61 : decode cX10_day 61 = .ok (.getfield 10, 3) := by decide +kernel
theorem dX10_day_64 : decode cX10_day 64 = .ok (.invokevirtual 224, 3) := by decide +kernel
theorem dX10_day_67 : decode cX10_day 67 = .ok (.ifCond .ne 54, 3) := by decide +kernel
theorem dX10_day_70 : decode cX10_day 70 = .ok (.aload_n 0, 1) := by decide +kernel
theorem dX10_day_71 : decode cX10_day 71 = .ok (.aload_n 0, 1) := by decide +kernel
theorem dX10_day_72 : decode cX10_day 72 = .ok (.invokevirtual 283, 3) := by decide +kernel
theorem dX10_day_75 : decode cX10_day 75 = .ok (.invokevirtual 286, 3) := by decide +kernel
theorem dX10_day_78 : decode cX10_day 78 = .ok (.istore 6, 2) := by decide +kernel
theorem dX10_day_80 : decode cX10_day 80 = .ok (.iload 6, 2) := by decide +kernel
theorem dX10_day_82 : decode cX10_day 82 = .ok (.ifCond .ge 7, 3) := by decide +kernel
theorem dX10_day_85 : decode cX10_day 85 = .ok (.iconst 1, 1) := by decide +kernel
theorem dX10_day_86 : decode cX10_day 86 = .ok (.goto 4, 3) := by decide +kernel
theorem dX10_day_89 : decode cX10_day 89 = .ok (.iconst 0, 1) := by decide +kernel
theorem dX10_day_90 : decode cX10_day 90 = .ok (.istore 4, 2) := by decide +kernel
theorem dX10_day_92 : decode cX10_day 92 = .ok (.iload 4, 2) := by decide +kernel
theorem dX10_day_94 : decode cX10_day 94 = .ok (.ifCond .ne 21, 3) := by decide +kernel
theorem dX10_day_97 : decode cX10_day 97 = .ok (.iinc 2 1, 3) := by decide +kernel
theorem dX10_day_100 : decode cX10_day 100 = .ok (.iload_n 3, 1) := by decide +kernel
theorem dX10_day_101 : decode cX10_day 101 = .ok (.iload 6, 2) := by decide +kernel
theorem dX10_day_103 : decode cX10_day 103 = .ok (.iadd, 1) := by decide +kernel
theorem dX10_day_104 : decode cX10_day 104 = .ok (.istore_n 3, 1) := by decide +kernel
theorem dX10_day_105 : decode cX10_day 105 = .ok (.aload_n 0, 1) := by decide +kernel
theorem dX10_day_106 : decode cX10_day 106 = .ok (.getfield 10, 3) := by decide +kernel
theorem dX10_day_109 : decode cX10_day 109 = .ok (.bipush 59, 2) := by decide +kernel
theorem dX10_day_111 : decode cX10_day 111 = .ok (.invokevirtual 234, 3) := by decide +kernel
theorem dX10_day_114 : decode cX10_day 114 = .ok (.pop, 1) := by decide +kernel
theorem dX10_day_115 : decode cX10_day 115 = .ok (.iinc 5 1, 3) := by decide +kernel
theorem dX10_day_118 : decode cX10_day 118 = .ok (.goto (-70), 3) := by decide +kernel
theorem dX10_day_121 : decode cX10_day 121 = .ok (.iload_n 2, 1) := by decide +kernel
theorem dX10_day_122 : decode cX10_day 122 = .ok (.ifCond .le 14, 3) := by decide +kernel
theorem dX10_day_125 : decode cX10_day 125 = .ok (.aload_n 0, 1) := by decide +kernel
theorem dX10_day_126 : decode cX10_day 126 = .ok (.getfield 75, 3) := by decide +kernel
theorem dX10_day_129 : decode cX10_day 129 = .ok (.aload_n 0, 1) := by decide +kernel
theorem dX10_day_130 : decode cX10_day 130 = .ok (.getfield 53, 3) := by decide +kernel
theorem dX10_day_133 : decode cX10_day 133 = .ok (.invokevirtual 289, 3) := by decide +kernel
theorem dX10_day_136 : decode cX10_day 136 = .ok (.aload_n 0, 1) := by decide +kernel
theorem dX10_day_137 : decode cX10_day 137 = .ok (.getfield 10, 3) := by decide +kernel
theorem dX10_day_140 : decode cX10_day 140 = .ok (.invokevirtual 93, 3) := by decide +kernel
theorem dX10_day_143 : decode cX10_day 143 = .ok (.aload_n 0, 1) := by decide +kernel
theorem dX10_day_144 : decode cX10_day 144 = .ok (.getfield 19, 3) := by decide +kernel
theorem dX10_day_147 : decode cX10_day 147 = .ok (.invokevirtual 292, 3) := by decide +kernel
theorem dX10_day_150 : decode cX10_day 150 = .ok (.aload_n 0, 1) := by decide +kernel
theorem dX10_day_151 : decode cX10_day 151 = .ok (.getfield 19, 3) := by decide +kernel
theorem dX10_day_154 : decode cX10_day 154 = .ok (.iload 4, 2) := by decide +kernel
theorem dX10_day_156 : decode cX10_day 156 = .ok (.ifCond .eq 7, 3) := by decide +kernel
theorem dX10_day_159 : decode cX10_day 159 = .ok (.lconst 1, 1) := by decide +kernel
theorem dX10_day_160 : decode cX10_day 160 = .ok (.goto 4, 3) := by decide +kernel
theorem dX10_day_163 : decode cX10_day 163 = .ok (.lconst 0, 1) := by decide +kernel
theorem dX10_day_164 : decode cX10_day 164 = .ok (.invokevirtual 295, 3) := by decide +kernel
theorem dX10_day_167 : decode cX10_day 167 = .ok (.aload_n 0, 1) := by decide +kernel
theorem dX10_day_168 : decode cX10_day 168 = .ok (.getfield 19, 3) := by decide +kernel
theorem dX10_day_171 : decode cX10_day 171 = .ok (.iload_n 3, 1) := by decide +kernel
theorem dX10_day_172 : decode cX10_day 172 = .ok (.i2l, 1) := by decide +kernel
theorem dX10_day_173 : decode cX10_day 173 = .ok (.invokevirtual 295, 3) := by decide +kernel
theorem dX10_day_176 : decode cX10_day 176 = .ok (.iload_n 2, 1) := by decide +kernel
theorem dX10_day_177 : decode cX10_day 177 = .ok (.ireturn, 1) := by decide +kernel
theorem dX10_undo_0 : decode cX10_undo 0 = .ok (.aload_n 0, 1) := by decide +kernel
theorem dX10_undo_1 : decode cX10_undo 1 = .ok (.getfield 75, 3) := by decide +kernel
theorem dX10_undo_4 : decode cX10_undo 4 = .ok (.aload_n 0, 1) := by decide +kernel
theorem dX10_undo_5 : decode cX10_undo 5 = .ok (.getfield 49, 3) := by decide +kernel
theorem dX10_undo_8 : decode cX10_undo 8 = .ok (.invokevirtual 299, 3) := by decide +kernel
theorem dX10_undo_11 : decode cX10_undo 11 = .ok (.ifCond .eq 13, 3) := by decide +kernel
theorem dX10_undo_14 : decode cX10_undo 14 = .ok (.aload_n 0, 1) := by decide +kernel
theorem dX10_undo_15 : decode cX10_undo 15 = .ok (.getfield 75, 3) := by decide +kernel
theorem dX10_undo_18 : decode cX10_undo 18 = .ok (.getfield 303, 3) := by decide +kernel
theorem dX10_undo_21 : decode cX10_undo 21 = .ok (.goto 4, 3) := by decide +kernel
theorem dX10_undo_24 : decode cX10_undo 24 = .ok (.iconst (-1), 1) := by decide +kernel
theorem dX10_undo_25 : decode cX10_undo 25 = .ok (.ireturn, 1) := by decide +kernel
theorem dX10_remembered_0 : decode cX10_remembered 0 = .ok (.iload_n 1, 1) := by decide +kernel
theorem dX10_remembered_1 : decode cX10_remembered 1 = .ok (.ifCond .lt 14, 3) := by decide +kernel
theorem dX10_remembered_4 : decode cX10_remembered 4 = .ok (.aload_n 0, 1) := by decide +kernel
theorem dX10_remembered_5 : decode cX10_remembered 5 = .ok (.getfield 75, 3) := by decide +kernel
theorem dX10_remembered_8 : decode cX10_remembered 8 = .ok (.aload_n 0, 1) := by decide +kernel
theorem dX10_remembered_9 : decode cX10_remembered 9 = .ok (.getfield 53, 3) := by decide +kernel
theorem dX10_remembered_12 : decode cX10_remembered 12 = .ok (.invokevirtual 289, 3) := by decide +kernel
theorem dX10_remembered_15 : decode cX10_remembered 15 = .ok (.iload_n 1, 1) := by decide +kernel
theorem dX10_remembered_16 : decode cX10_remembered 16 = .ok (.ireturn, 1) := by decide +kernel
theorem dX10_tellPlaces_0 : decode cX10_tellPlaces 0 = .ok (.aload_n 0, 1) := by decide +kernel
theorem dX10_tellPlaces_1 : decode cX10_tellPlaces 1 = .ok (.getfield 19, 3) := by decide +kernel
theorem dX10_tellPlaces_4 : decode cX10_tellPlaces 4 = .ok (.invokevirtual 292, 3) := by decide +kernel
theorem dX10_tellPlaces_7 : decode cX10_tellPlaces 7 = .ok (.iconst 0, 1) := by decide +kernel
theorem dX10_tellPlaces_8 : decode cX10_tellPlaces 8 = .ok (.istore_n 2, 1) := by decide +kernel
theorem dX10_tellPlaces_9 : decode cX10_tellPlaces 9 = .ok (.iload_n 2, 1) := by decide +kernel
theorem dX10_tellPlaces_10 : decode cX10_tellPlaces 10 = .ok (.aload_n 1, 1) := by decide +kernel
theorem dX10_tellPlaces_11 : decode cX10_tellPlaces 11 = .ok (.getfield 206, 3) := by decide +kernel
theorem dX10_tellPlaces_14 : decode cX10_tellPlaces 14 = .ok (.if_icmp .ge 23, 3) := by decide +kernel
theorem dX10_tellPlaces_17 : decode cX10_tellPlaces 17 = .ok (.aload_n 0, 1) := by decide +kernel
theorem dX10_tellPlaces_18 : decode cX10_tellPlaces 18 = .ok (.getfield 19, 3) := by decide +kernel
theorem dX10_tellPlaces_21 : decode cX10_tellPlaces 21 = .ok (.aload_n 1, 1) := by decide +kernel
theorem dX10_tellPlaces_22 : decode cX10_tellPlaces 22 = .ok (.getfield 183, 3) := by decide +kernel
theorem dX10_tellPlaces_25 : decode cX10_tellPlaces 25 = .ok (.iload_n 2, 1) := by decide +kernel
theorem dX10_tellPlaces_26 : decode cX10_tellPlaces 26 = .ok (.iaload, 1) := by decide +kernel
theorem dX10_tellPlaces_27 : decode cX10_tellPlaces 27 = .ok (.i2l, 1) := by decide +kernel
theorem dX10_tellPlaces_28 : decode cX10_tellPlaces 28 = .ok (.invokevirtual 295, 3) := by decide +kernel
theorem dX10_tellPlaces_31 : decode cX10_tellPlaces 31 = .ok (.iinc 2 1, 3) := by decide +kernel
theorem dX10_tellPlaces_34 : decode cX10_tellPlaces 34 = .ok (.goto (-25), 3) := by decide +kernel
theorem dX10_tellPlaces_37 : decode cX10_tellPlaces 37 = .ok (.return_, 1) := by decide +kernel
theorem dX10_lay_0 : decode cX10_lay 0 = .ok (.aload_n 0, 1) := by decide +kernel
theorem dX10_lay_1 : decode cX10_lay 1 = .ok (.getfield 26, 3) := by decide +kernel
theorem dX10_lay_4 : decode cX10_lay 4 = .ok (.iload_n 2, 1) := by decide +kernel
theorem dX10_lay_5 : decode cX10_lay 5 = .ok (.invokevirtual 135, 3) := by decide +kernel
theorem dX10_lay_8 : decode cX10_lay 8 = .ok (.ifCond .ne 5, 3) := by decide +kernel
theorem dX10_lay_11 : decode cX10_lay 11 = .ok (.iconst (-1), 1) := by decide +kernel
theorem dX10_lay_12 : decode cX10_lay 12 = .ok (.ireturn, 1) := by decide +kernel
theorem dX10_lay_13 : decode cX10_lay 13 = .ok (.aload_n 0, 1) := by decide +kernel
theorem dX10_lay_14 : decode cX10_lay 14 = .ok (.getfield 26, 3) := by decide +kernel
theorem dX10_lay_17 : decode cX10_lay 17 = .ok (.iload_n 2, 1) := by decide +kernel
theorem dX10_lay_18 : decode cX10_lay 18 = .ok (.invokevirtual 241, 3) := by decide +kernel
theorem dX10_lay_21 : decode cX10_lay 21 = .ok (.ifCond .ne 6, 3) := by decide +kernel
theorem dX10_lay_24 : decode cX10_lay 24 = .ok (.bipush (-2), 2) := by decide +kernel
theorem dX10_lay_26 : decode cX10_lay 26 = .ok (.ireturn, 1) := by decide +kernel
theorem dX10_lay_27 : decode cX10_lay 27 = .ok (.iload_n 3, 1) := by decide +kernel
theorem dX10_lay_28 : decode cX10_lay 28 = .ok (.ifCond .lt 9, 3) := by decide +kernel
theorem dX10_lay_31 : decode cX10_lay 31 = .ok (.iload_n 3, 1) := by decide +kernel
theorem dX10_lay_32 : decode cX10_lay 32 = .ok (.bipush 9, 2) := by decide +kernel
theorem dX10_lay_34 : decode cX10_lay 34 = .ok (.if_icmp .le 5, 3) := by decide +kernel
theorem dX10_lay_37 : decode cX10_lay 37 = .ok (.iconst (-1), 1) := by decide +kernel
theorem dX10_lay_38 : decode cX10_lay 38 = .ok (.ireturn, 1) := by decide +kernel
theorem dX10_lay_39 : decode cX10_lay 39 = .ok (.aload_n 1, 1) := by decide +kernel
theorem dX10_lay_40 : decode cX10_lay 40 = .ok (.iload_n 2, 1) := by decide +kernel
theorem dX10_lay_41 : decode cX10_lay 41 = .ok (.iaload, 1) := by decide +kernel
theorem dX10_lay_42 : decode cX10_lay 42 = .ok (.istore 4, 2) := by decide +kernel
theorem dX10_lay_44 : decode cX10_lay 44 = .ok (.aload_n 1, 1) := by decide +kernel
theorem dX10_lay_45 : decode cX10_lay 45 = .ok (.iload_n 2, 1) := by decide +kernel
theorem dX10_lay_46 : decode cX10_lay 46 = .ok (.iload_n 3, 1) := by decide +kernel
theorem dX10_lay_47 : decode cX10_lay 47 = .ok (.iastore, 1) := by decide +kernel
theorem dX10_lay_48 : decode cX10_lay 48 = .ok (.iload 4, 2) := by decide +kernel
theorem dX10_lay_50 : decode cX10_lay 50 = .ok (.ireturn, 1) := by decide +kernel
theorem dX10_turn_0 : decode cX10_turn 0 = .ok (.iload_n 1, 1) := by decide +kernel
theorem dX10_turn_1 : decode cX10_turn 1 = .ok (.ifCond .lt 14, 3) := by decide +kernel
theorem dX10_turn_4 : decode cX10_turn 4 = .ok (.iload_n 1, 1) := by decide +kernel
theorem dX10_turn_5 : decode cX10_turn 5 = .ok (.aload_n 0, 1) := by decide +kernel
theorem dX10_turn_6 : decode cX10_turn 6 = .ok (.getfield 26, 3) := by decide +kernel
theorem dX10_turn_9 : decode cX10_turn 9 = .ok (.getfield 306, 3) := by decide +kernel
theorem dX10_turn_12 : decode cX10_turn 12 = .ok (.if_icmp .lt 5, 3) := by decide +kernel
theorem dX10_turn_15 : decode cX10_turn 15 = .ok (.iconst (-1), 1) := by decide +kernel
theorem dX10_turn_16 : decode cX10_turn 16 = .ok (.ireturn, 1) := by decide +kernel
theorem dX10_turn_17 : decode cX10_turn 17 = .ok (.aload_n 0, 1) := by decide +kernel
theorem dX10_turn_18 : decode cX10_turn 18 = .ok (.getfield 49, 3) := by decide +kernel
theorem dX10_turn_21 : decode cX10_turn 21 = .ok (.aload_n 0, 1) := by decide +kernel
theorem dX10_turn_22 : decode cX10_turn 22 = .ok (.getfield 26, 3) := by decide +kernel
theorem dX10_turn_25 : decode cX10_turn 25 = .ok (.getfield 309, 3) := by decide +kernel
theorem dX10_turn_28 : decode cX10_turn 28 = .ok (.iload_n 1, 1) := by decide +kernel
theorem dX10_turn_29 : decode cX10_turn 29 = .ok (.iaload, 1) := by decide +kernel
theorem dX10_turn_30 : decode cX10_turn 30 = .ok (.invokevirtual 174, 3) := by decide +kernel
theorem dX10_turn_33 : decode cX10_turn 33 = .ok (.ifCond .eq 6, 3) := by decide +kernel
theorem dX10_turn_36 : decode cX10_turn 36 = .ok (.bipush (-2), 2) := by decide +kernel
theorem dX10_turn_38 : decode cX10_turn 38 = .ok (.ireturn, 1) := by decide +kernel
theorem dX10_turn_39 : decode cX10_turn 39 = .ok (.iload_n 2, 1) := by decide +kernel
theorem dX10_turn_40 : decode cX10_turn 40 = .ok (.ifCond .eq 10, 3) := by decide +kernel
theorem dX10_turn_43 : decode cX10_turn 43 = .ok (.iload_n 2, 1) := by decide +kernel
theorem dX10_turn_44 : decode cX10_turn 44 = .ok (.iconst 1, 1) := by decide +kernel
theorem dX10_turn_45 : decode cX10_turn 45 = .ok (.if_icmp .eq 5, 3) := by decide +kernel
theorem dX10_turn_48 : decode cX10_turn 48 = .ok (.iconst (-1), 1) := by decide +kernel
theorem dX10_turn_49 : decode cX10_turn 49 = .ok (.ireturn, 1) := by decide +kernel
theorem dX10_turn_50 : decode cX10_turn 50 = .ok (.aload_n 0, 1) := by decide +kernel
theorem dX10_turn_51 : decode cX10_turn 51 = .ok (.getfield 49, 3) := by decide +kernel
theorem dX10_turn_54 : decode cX10_turn 54 = .ok (.getfield 154, 3) := by decide +kernel
theorem dX10_turn_57 : decode cX10_turn 57 = .ok (.iload_n 1, 1) := by decide +kernel
theorem dX10_turn_58 : decode cX10_turn 58 = .ok (.ishr, 1) := by decide +kernel
theorem dX10_turn_59 : decode cX10_turn 59 = .ok (.iconst 1, 1) := by decide +kernel
theorem dX10_turn_60 : decode cX10_turn 60 = .ok (.iand, 1) := by decide +kernel
theorem dX10_turn_61 : decode cX10_turn 61 = .ok (.istore_n 3, 1) := by decide +kernel
theorem dX10_turn_62 : decode cX10_turn 62 = .ok (.aload_n 0, 1) := by decide +kernel
theorem dX10_turn_63 : decode cX10_turn 63 = .ok (.getfield 49, 3) := by decide +kernel
theorem dX10_turn_66 : decode cX10_turn 66 = .ok (.aload_n 0, 1) := by decide +kernel
theorem dX10_turn_67 : decode cX10_turn 67 = .ok (.getfield 49, 3) := by decide +kernel
theorem dX10_turn_70 : decode cX10_turn 70 = .ok (.getfield 154, 3) := by decide +kernel
theorem dX10_turn_73 : decode cX10_turn 73 = .ok (.iconst 1, 1) := by decide +kernel
theorem dX10_turn_74 : decode cX10_turn 74 = .ok (.iload_n 1, 1) := by decide +kernel
theorem dX10_turn_75 : decode cX10_turn 75 = .ok (.ishl, 1) := by decide +kernel
theorem dX10_turn_76 : decode cX10_turn 76 = .ok (.iconst (-1), 1) := by decide +kernel
theorem dX10_turn_77 : decode cX10_turn 77 = .ok (.ixor, 1) := by decide +kernel
theorem dX10_turn_78 : decode cX10_turn 78 = .ok (.iand, 1) := by decide +kernel
theorem dX10_turn_79 : decode cX10_turn 79 = .ok (.iload_n 2, 1) := by decide +kernel
theorem dX10_turn_80 : decode cX10_turn 80 = .ok (.iload_n 1, 1) := by decide +kernel
theorem dX10_turn_81 : decode cX10_turn 81 = .ok (.ishl, 1) := by decide +kernel
theorem dX10_turn_82 : decode cX10_turn 82 = .ok (.ior, 1) := by decide +kernel
theorem dX10_turn_83 : decode cX10_turn 83 = .ok (.putfield 154, 3) := by decide +kernel
theorem dX10_turn_86 : decode cX10_turn 86 = .ok (.iload_n 3, 1) := by decide +kernel
theorem dX10_turn_87 : decode cX10_turn 87 = .ok (.ireturn, 1) := by decide +kernel
theorem dX10_chase_0 : decode cX10_chase 0 = .ok (.aload_n 0, 1) := by decide +kernel
theorem dX10_chase_1 : decode cX10_chase 1 = .ok (.getfield 49, 3) := by decide +kernel
theorem dX10_chase_4 : decode cX10_chase 4 = .ok (.iload_n 1, 1) := by decide +kernel
theorem dX10_chase_5 : decode cX10_chase 5 = .ok (.invokevirtual 178, 3) := by decide +kernel
theorem dX10_chase_8 : decode cX10_chase 8 = .ok (.ifCond .eq 14, 3) := by decide +kernel
theorem dX10_chase_11 : decode cX10_chase 11 = .ok (.aload_n 0, 1) := by decide +kernel
theorem dX10_chase_12 : decode cX10_chase 12 = .ok (.getfield 26, 3) := by decide +kernel
theorem dX10_chase_15 : decode cX10_chase 15 = .ok (.iload_n 2, 1) := by decide +kernel
theorem dX10_chase_16 : decode cX10_chase 16 = .ok (.invokevirtual 135, 3) := by decide +kernel
theorem dX10_chase_19 : decode cX10_chase 19 = .ok (.ifCond .ne 5, 3) := by decide +kernel
theorem dX10_chase_22 : decode cX10_chase 22 = .ok (.iconst (-1), 1) := by decide +kernel
theorem dX10_chase_23 : decode cX10_chase 23 = .ok (.ireturn, 1) := by decide +kernel
theorem dX10_chase_24 : decode cX10_chase 24 = .ok (.aload_n 0, 1) := by decide +kernel
theorem dX10_chase_25 : decode cX10_chase 25 = .ok (.getfield 49, 3) := by decide +kernel
theorem dX10_chase_28 : decode cX10_chase 28 = .ok (.getfield 183, 3) := by decide +kernel
theorem dX10_chase_31 : decode cX10_chase 31 = .ok (.iload_n 1, 1) := by decide +kernel
theorem dX10_chase_32 : decode cX10_chase 32 = .ok (.iaload, 1) := by decide +kernel
theorem dX10_chase_33 : decode cX10_chase 33 = .ok (.istore_n 3, 1) := by decide +kernel
theorem dX10_chase_34 : decode cX10_chase 34 = .ok (.iload_n 3, 1) := by decide +kernel
theorem dX10_chase_35 : decode cX10_chase 35 = .ok (.invokestatic 312, 3) := by decide +kernel
theorem dX10_chase_38 : decode cX10_chase 38 = .ok (.invokestatic 317, 3) := by decide +kernel
theorem dX10_chase_41 : decode cX10_chase 41 = .ok (.aload_n 0, 1) := by decide +kernel
theorem dX10_chase_42 : decode cX10_chase 42 = .ok (.getfield 26, 3) := by decide +kernel
theorem dX10_chase_45 : decode cX10_chase 45 = .ok (.aload_n 0, 1) := by decide +kernel
theorem dX10_chase_46 : decode cX10_chase 46 = .ok (.getfield 49, 3) := by decide +kernel
theorem dX10_chase_49 : decode cX10_chase 49 = .ok (.getfield 154, 3) := by decide +kernel
theorem dX10_chase_52 : decode cX10_chase 52 = .ok (.invokevirtual 195, 3) := by decide +kernel
theorem dX10_chase_55 : decode cX10_chase 55 = .ok (.land, 1) := by decide +kernel
theorem dX10_chase_56 : decode cX10_chase 56 = .ok (.lstore 4, 2) := by decide +kernel
theorem dX10_chase_58 : decode cX10_chase 58 = .ok (.lload 4, 2) := by decide +kernel
theorem dX10_chase_60 : decode cX10_chase 60 = .ok (.iload_n 2, 1) := by decide +kernel
theorem dX10_chase_61 : decode cX10_chase 61 = .ok (.invokestatic 321, 3) := by decide +kernel
theorem dX10_chase_64 : decode cX10_chase 64 = .ok (.ifCond .ne 6, 3) := by decide +kernel
theorem dX10_chase_67 : decode cX10_chase 67 = .ok (.bipush (-2), 2) := by decide +kernel
theorem dX10_chase_69 : decode cX10_chase 69 = .ok (.ireturn, 1) := by decide +kernel
theorem dX10_chase_70 : decode cX10_chase 70 = .ok (.aload_n 0, 1) := by decide +kernel
theorem dX10_chase_71 : decode cX10_chase 71 = .ok (.getfield 49, 3) := by decide +kernel
theorem dX10_chase_74 : decode cX10_chase 74 = .ok (.iload_n 1, 1) := by decide +kernel
theorem dX10_chase_75 : decode cX10_chase 75 = .ok (.iload_n 2, 1) := by decide +kernel
theorem dX10_chase_76 : decode cX10_chase 76 = .ok (.invokevirtual 325, 3) := by decide +kernel
theorem dX10_chase_79 : decode cX10_chase 79 = .ok (.iload_n 3, 1) := by decide +kernel
theorem dX10_chase_80 : decode cX10_chase 80 = .ok (.ireturn, 1) := by decide +kernel
theorem dX10_faultOfDay_0 : decode cX10_faultOfDay 0 = .ok (.aload_n 0, 1) := by decide +kernel
theorem dX10_faultOfDay_1 : decode cX10_faultOfDay 1 = .ok (.getfield 10, 3) := by decide +kernel
theorem dX10_faultOfDay_4 : decode cX10_faultOfDay 4 = .ok (.bipush 60, 2) := by decide +kernel
theorem dX10_faultOfDay_6 : decode cX10_faultOfDay 6 = .ok (.invokevirtual 220, 3) := by decide +kernel
theorem dX10_faultOfDay_9 : decode cX10_faultOfDay 9 = .ok (.aload_n 0, 1) := by decide +kernel
theorem dX10_faultOfDay_10 : decode cX10_faultOfDay 10 = .ok (.getfield 10, 3) := by decide +kernel
theorem dX10_faultOfDay_13 : decode cX10_faultOfDay 13 = .ok (.invokevirtual 224, 3) := by decide +kernel
theorem dX10_faultOfDay_16 : decode cX10_faultOfDay 16 = .ok (.ifCond .eq 5, 3) := by decide +kernel
theorem dX10_faultOfDay_19 : decode cX10_faultOfDay 19 = .ok (.iconst 0, 1) := by decide +kernel
theorem dX10_faultOfDay_20 : decode cX10_faultOfDay 20 = .ok (.ireturn, 1) := by decide +kernel
theorem dX10_faultOfDay_21 : decode cX10_faultOfDay 21 = .ok (.iconst 0, 1) := by decide +kernel
theorem dX10_faultOfDay_22 : decode cX10_faultOfDay 22 = .ok (.istore_n 1, 1) := by decide +kernel
theorem dX10_faultOfDay_23 : decode cX10_faultOfDay 23 = .ok (.iload_n 1, 1) := by decide +kernel
theorem dX10_faultOfDay_24 : decode cX10_faultOfDay 24 = .ok (.bipush 60, 2) := by decide +kernel
theorem dX10_faultOfDay_26 : decode cX10_faultOfDay 26 = .ok (.if_icmp .ge 57, 3) := by decide +kernel
theorem dX10_faultOfDay_29 : decode cX10_faultOfDay 29 = .ok (.aload_n 0, 1) := by decide +kernel
theorem dX10_faultOfDay_30 : decode cX10_faultOfDay 30 = .ok (.invokevirtual 283, 3) := by decide +kernel
theorem dX10_faultOfDay_33 : decode cX10_faultOfDay 33 = .ok (.iconst (-1), 1) := by decide +kernel
theorem dX10_faultOfDay_34 : decode cX10_faultOfDay 34 = .ok (.if_icmp .ne 11, 3) := by decide +kernel
theorem dX10_faultOfDay_37 : decode cX10_faultOfDay 37 = .ok (.aload_n 0, 1) := by decide +kernel
theorem dX10_faultOfDay_38 : decode cX10_faultOfDay 38 = .ok (.getfield 10, 3) := by decide +kernel
theorem dX10_faultOfDay_41 : decode cX10_faultOfDay 41 = .ok (.invokevirtual 231, 3) := by decide +kernel
theorem dX10_faultOfDay_44 : decode cX10_faultOfDay 44 = .ok (.ireturn, 1) := by decide +kernel
theorem dX10_faultOfDay_45 : decode cX10_faultOfDay 45 = .ok (.aload_n 0, 1) := by decide +kernel
theorem dX10_faultOfDay_46 : decode cX10_faultOfDay 46 = .ok (.getfield 10, 3) := by decide +kernel
theorem dX10_faultOfDay_49 : decode cX10_faultOfDay 49 = .ok (.invokevirtual 224, 3) := by decide +kernel
theorem dX10_faultOfDay_52 : decode cX10_faultOfDay 52 = .ok (.ifCond .eq 5, 3) := by decide +kernel
theorem dX10_faultOfDay_55 : decode cX10_faultOfDay 55 = .ok (.iconst 0, 1) := by decide +kernel
theorem dX10_faultOfDay_56 : decode cX10_faultOfDay 56 = .ok (.ireturn, 1) := by decide +kernel
theorem dX10_faultOfDay_57 : decode cX10_faultOfDay 57 = .ok (.aload_n 0, 1) := by decide +kernel
theorem dX10_faultOfDay_58 : decode cX10_faultOfDay 58 = .ok (.getfield 10, 3) := by decide +kernel
theorem dX10_faultOfDay_61 : decode cX10_faultOfDay 61 = .ok (.bipush 59, 2) := by decide +kernel
theorem dX10_faultOfDay_63 : decode cX10_faultOfDay 63 = .ok (.invokevirtual 234, 3) := by decide +kernel
theorem dX10_faultOfDay_66 : decode cX10_faultOfDay 66 = .ok (.ifCond .ne 11, 3) := by decide +kernel
theorem dX10_faultOfDay_69 : decode cX10_faultOfDay 69 = .ok (.aload_n 0, 1) := by decide +kernel
theorem dX10_faultOfDay_70 : decode cX10_faultOfDay 70 = .ok (.getfield 10, 3) := by decide +kernel
theorem dX10_faultOfDay_73 : decode cX10_faultOfDay 73 = .ok (.invokevirtual 231, 3) := by decide +kernel
theorem dX10_faultOfDay_76 : decode cX10_faultOfDay 76 = .ok (.ireturn, 1) := by decide +kernel
theorem dX10_faultOfDay_77 : decode cX10_faultOfDay 77 = .ok (.iinc 1 1, 3) := by decide +kernel
theorem dX10_faultOfDay_80 : decode cX10_faultOfDay 80 = .ok (.goto (-57), 3) := by decide +kernel
theorem dX10_faultOfDay_83 : decode cX10_faultOfDay 83 = .ok (.aload_n 0, 1) := by decide +kernel
theorem dX10_faultOfDay_84 : decode cX10_faultOfDay 84 = .ok (.getfield 10, 3) := by decide +kernel
theorem dX10_faultOfDay_87 : decode cX10_faultOfDay 87 = .ok (.invokevirtual 231, 3) := by decide +kernel
theorem dX10_faultOfDay_90 : decode cX10_faultOfDay 90 = .ok (.ireturn, 1) := by decide +kernel
theorem dX10_readAct_0 : decode cX10_readAct 0 = .ok (.aload_n 0, 1) := by decide +kernel
theorem dX10_readAct_1 : decode cX10_readAct 1 = .ok (.getfield 10, 3) := by decide +kernel
theorem dX10_readAct_4 : decode cX10_readAct 4 = .ok (.ldc_w 329, 3) := by decide +kernel
theorem dX10_readAct_7 : decode cX10_readAct 7 = .ok (.invokevirtual 331, 3) := by decide +kernel
theorem dX10_readAct_10 : decode cX10_readAct 10 = .ok (.istore_n 1, 1) := by decide +kernel
theorem dX10_readAct_11 : decode cX10_readAct 11 = .ok (.iconst 0, 1) := by decide +kernel
theorem dX10_readAct_12 : decode cX10_readAct 12 = .ok (.istore_n 2, 1) := by decide +kernel
theorem dX10_readAct_13 : decode cX10_readAct 13 = .ok (.iconst 0, 1) := by decide +kernel
theorem dX10_readAct_14 : decode cX10_readAct 14 = .ok (.istore_n 3, 1) := by decide +kernel
theorem dX10_readAct_15 : decode cX10_readAct 15 = .ok (.iload_n 1, 1) := by decide +kernel
theorem dX10_readAct_16 : decode cX10_readAct 16 = .ok (.tableswitch 191 99 116 #[145, 159, 191, 191, 191, 88, 191, 191, 191, 191, 191, 191, 145, 191, 191, 191, 113, 113], 88) := by decide +kernel
theorem dX10_readAct_104 : decode cX10_readAct 104 = .ok (.aload_n 0, 1) := by decide +kernel
theorem dX10_readAct_105 : decode cX10_readAct 105 = .ok (.getfield 10, 3) := by decide +kernel
theorem dX10_readAct_108 : decode cX10_readAct 108 = .ok (.iconst 1, 1) := by decide +kernel
theorem dX10_readAct_109 : decode cX10_readAct 109 = .ok (.bipush 9, 2) := by decide +kernel
theorem dX10_readAct_111 : decode cX10_readAct 111 = .ok (.invokevirtual 247, 3) := by decide +kernel
theorem dX10_readAct_114 : decode cX10_readAct 114 = .ok (.istore_n 2, 1) := by decide +kernel
theorem dX10_readAct_115 : decode cX10_readAct 115 = .ok (.iload_n 2, 1) := by decide +kernel
theorem dX10_readAct_116 : decode cX10_readAct 116 = .ok (.iconst (-1), 1) := by decide +kernel
theorem dX10_readAct_117 : decode cX10_readAct 117 = .ok (.if_icmp .ne 7, 3) := by decide +kernel
theorem dX10_readAct_120 : decode cX10_readAct 120 = .ok (.iconst 1, 1) := by decide +kernel
theorem dX10_readAct_121 : decode cX10_readAct 121 = .ok (.goto 4, 3) := by decide +kernel
theorem dX10_readAct_124 : decode cX10_readAct 124 = .ok (.iload_n 2, 1) := by decide +kernel
theorem dX10_readAct_125 : decode cX10_readAct 125 = .ok (.istore_n 2, 1) := by decide +kernel
theorem dX10_readAct_126 : decode cX10_readAct 126 = .ok (.goto 83, 3) := by decide +kernel
theorem dX10_readAct_129 : decode cX10_readAct 129 = .ok (.aload_n 0, 1) := by decide +kernel
theorem dX10_readAct_130 : decode cX10_readAct 130 = .ok (.bipush 8, 2) := by decide +kernel
theorem dX10_readAct_132 : decode cX10_readAct 132 = .ok (.bipush 8, 2) := by decide +kernel
theorem dX10_readAct_134 : decode cX10_readAct 134 = .ok (.invokevirtual 238, 3) := by decide +kernel
theorem dX10_readAct_137 : decode cX10_readAct 137 = .ok (.istore_n 3, 1) := by decide +kernel
theorem dX10_readAct_138 : decode cX10_readAct 138 = .ok (.iload_n 3, 1) := by decide +kernel
theorem dX10_readAct_139 : decode cX10_readAct 139 = .ok (.iconst (-1), 1) := by decide +kernel
theorem dX10_readAct_140 : decode cX10_readAct 140 = .ok (.if_icmp .ne 7, 3) := by decide +kernel
theorem dX10_readAct_143 : decode cX10_readAct 143 = .ok (.iconst (-1), 1) := by decide +kernel
theorem dX10_readAct_144 : decode cX10_readAct 144 = .ok (.goto 13, 3) := by decide +kernel
theorem dX10_readAct_147 : decode cX10_readAct 147 = .ok (.aload_n 0, 1) := by decide +kernel
theorem dX10_readAct_148 : decode cX10_readAct 148 = .ok (.getfield 10, 3) := by decide +kernel
theorem dX10_readAct_151 : decode cX10_readAct 151 = .ok (.iconst 0, 1) := by decide +kernel
theorem dX10_readAct_152 : decode cX10_readAct 152 = .ok (.bipush 9, 2) := by decide +kernel
theorem dX10_readAct_154 : decode cX10_readAct 154 = .ok (.invokevirtual 247, 3) := by decide +kernel
theorem dX10_readAct_157 : decode cX10_readAct 157 = .ok (.istore_n 2, 1) := by decide +kernel
theorem dX10_readAct_158 : decode cX10_readAct 158 = .ok (.goto 51, 3) := by decide +kernel
theorem dX10_readAct_161 : decode cX10_readAct 161 = .ok (.aload_n 0, 1) := by decide +kernel
theorem dX10_readAct_162 : decode cX10_readAct 162 = .ok (.getfield 10, 3) := by decide +kernel
theorem dX10_readAct_165 : decode cX10_readAct 165 = .ok (.iconst 0, 1) := by decide +kernel
theorem dX10_readAct_166 : decode cX10_readAct 166 = .ok (.bipush 9, 2) := by decide +kernel
theorem dX10_readAct_168 : decode cX10_readAct 168 = .ok (.invokevirtual 247, 3) := by decide +kernel
theorem dX10_readAct_171 : decode cX10_readAct 171 = .ok (.istore_n 2, 1) := by decide +kernel
theorem dX10_readAct_172 : decode cX10_readAct 172 = .ok (.goto 37, 3) := by decide +kernel
theorem dX10_readAct_175 : decode cX10_readAct 175 = .ok (.aload_n 0, 1) := by decide +kernel
theorem dX10_readAct_176 : decode cX10_readAct 176 = .ok (.getfield 10, 3) := by decide +kernel
theorem dX10_readAct_179 : decode cX10_readAct 179 = .ok (.iconst 0, 1) := by decide +kernel
theorem dX10_readAct_180 : decode cX10_readAct 180 = .ok (.bipush 9, 2) := by decide +kernel
theorem dX10_readAct_182 : decode cX10_readAct 182 = .ok (.invokevirtual 247, 3) := by decide +kernel
theorem dX10_readAct_185 : decode cX10_readAct 185 = .ok (.istore_n 2, 1) := by decide +kernel
theorem dX10_readAct_186 : decode cX10_readAct 186 = .ok (.iload_n 2, 1) := by decide +kernel
theorem dX10_readAct_187 : decode cX10_readAct 187 = .ok (.iconst (-1), 1) := by decide +kernel
theorem dX10_readAct_188 : decode cX10_readAct 188 = .ok (.if_icmp .ne 7, 3) := by decide +kernel
theorem dX10_readAct_191 : decode cX10_readAct 191 = .ok (.iconst (-1), 1) := by decide +kernel
theorem dX10_readAct_192 : decode cX10_readAct 192 = .ok (.goto 11, 3) := by decide +kernel
theorem dX10_readAct_195 : decode cX10_readAct 195 = .ok (.aload_n 0, 1) := by decide +kernel
theorem dX10_readAct_196 : decode cX10_readAct 196 = .ok (.bipush 8, 2) := by decide +kernel
theorem dX10_readAct_198 : decode cX10_readAct 198 = .ok (.bipush 8, 2) := by decide +kernel
theorem dX10_readAct_200 : decode cX10_readAct 200 = .ok (.invokevirtual 238, 3) := by decide +kernel
theorem dX10_readAct_203 : decode cX10_readAct 203 = .ok (.istore_n 3, 1) := by decide +kernel
theorem dX10_readAct_204 : decode cX10_readAct 204 = .ok (.goto 5, 3) := by decide +kernel
theorem dX10_readAct_207 : decode cX10_readAct 207 = .ok (.iconst (-1), 1) := by decide +kernel
theorem dX10_readAct_208 : decode cX10_readAct 208 = .ok (.ireturn, 1) := by decide +kernel
theorem dX10_readAct_209 : decode cX10_readAct 209 = .ok (.iload_n 2, 1) := by decide +kernel
theorem dX10_readAct_210 : decode cX10_readAct 210 = .ok (.iconst (-1), 1) := by decide +kernel
theorem dX10_readAct_211 : decode cX10_readAct 211 = .ok (.if_icmp .eq 8, 3) := by decide +kernel
theorem dX10_readAct_214 : decode cX10_readAct 214 = .ok (.iload_n 3, 1) := by decide +kernel
theorem dX10_readAct_215 : decode cX10_readAct 215 = .ok (.iconst (-1), 1) := by decide +kernel
theorem dX10_readAct_216 : decode cX10_readAct 216 = .ok (.if_icmp .ne 7, 3) := by decide +kernel
theorem dX10_readAct_219 : decode cX10_readAct 219 = .ok (.iconst (-1), 1) := by decide +kernel
theorem dX10_readAct_220 : decode cX10_readAct 220 = .ok (.goto 14, 3) := by decide +kernel
theorem dX10_readAct_223 : decode cX10_readAct 223 = .ok (.iload_n 1, 1) := by decide +kernel
theorem dX10_readAct_224 : decode cX10_readAct 224 = .ok (.bipush 10, 2) := by decide +kernel
theorem dX10_readAct_226 : decode cX10_readAct 226 = .ok (.ishl, 1) := by decide +kernel
theorem dX10_readAct_227 : decode cX10_readAct 227 = .ok (.iload_n 2, 1) := by decide +kernel
theorem dX10_readAct_228 : decode cX10_readAct 228 = .ok (.bipush 6, 2) := by decide +kernel
theorem dX10_readAct_230 : decode cX10_readAct 230 = .ok (.ishl, 1) := by decide +kernel
theorem dX10_readAct_231 : decode cX10_readAct 231 = .ok (.ior, 1) := by decide +kernel
theorem dX10_readAct_232 : decode cX10_readAct 232 = .ok (.iload_n 3, 1) := by decide +kernel
theorem dX10_readAct_233 : decode cX10_readAct 233 = .ok (.ior, 1) := by decide +kernel
theorem dX10_readAct_234 : decode cX10_readAct 234 = .ok (.ireturn, 1) := by decide +kernel
theorem dX10_perform_0 : decode cX10_perform 0 = .ok (.iload_n 1, 1) := by decide +kernel
theorem dX10_perform_1 : decode cX10_perform 1 = .ok (.bipush 6, 2) := by decide +kernel
theorem dX10_perform_3 : decode cX10_perform 3 = .ok (.ishr, 1) := by decide +kernel
theorem dX10_perform_4 : decode cX10_perform 4 = .ok (.bipush 15, 2) := by decide +kernel
theorem dX10_perform_6 : decode cX10_perform 6 = .ok (.iand, 1) := by decide +kernel
theorem dX10_perform_7 : decode cX10_perform 7 = .ok (.istore_n 2, 1) := by decide +kernel
theorem dX10_perform_8 : decode cX10_perform 8 = .ok (.iload_n 1, 1) := by decide +kernel
theorem dX10_perform_9 : decode cX10_perform 9 = .ok (.bipush 63, 2) := by decide +kernel
theorem dX10_perform_11 : decode cX10_perform 11 = .ok (.iand, 1) := by decide +kernel
theorem dX10_perform_12 : decode cX10_perform 12 = .ok (.istore_n 3, 1) := by decide +kernel
theorem dX10_perform_13 : decode cX10_perform 13 = .ok (.iload_n 1, 1) := by decide +kernel
theorem dX10_perform_14 : decode cX10_perform 14 = .ok (.bipush 10, 2) := by decide +kernel
theorem dX10_perform_16 : decode cX10_perform 16 = .ok (.ishr, 1) := by decide +kernel
theorem dX10_perform_17 : decode cX10_perform 17 = .ok (.tableswitch 169 99 116 #[147, 158, 169, 169, 169, 87, 169, 169, 169, 169, 169, 169, 136, 169, 169, 169, 100, 118], 87) := by decide +kernel
theorem dX10_perform_104 : decode cX10_perform 104 = .ok (.aload_n 0, 1) := by decide +kernel
theorem dX10_perform_105 : decode cX10_perform 105 = .ok (.getfield 42, 3) := by decide +kernel
theorem dX10_perform_108 : decode cX10_perform 108 = .ok (.aload_n 0, 1) := by decide +kernel
theorem dX10_perform_109 : decode cX10_perform 109 = .ok (.getfield 49, 3) := by decide +kernel
theorem dX10_perform_112 : decode cX10_perform 112 = .ok (.iload_n 2, 1) := by decide +kernel
theorem dX10_perform_113 : decode cX10_perform 113 = .ok (.invokevirtual 276, 3) := by decide +kernel
theorem dX10_perform_116 : decode cX10_perform 116 = .ok (.ireturn, 1) := by decide +kernel
theorem dX10_perform_117 : decode cX10_perform 117 = .ok (.iconst 0, 1) := by decide +kernel
theorem dX10_perform_118 : decode cX10_perform 118 = .ok (.aload_n 0, 1) := by decide +kernel
theorem dX10_perform_119 : decode cX10_perform 119 = .ok (.aload_n 0, 1) := by decide +kernel
theorem dX10_perform_120 : decode cX10_perform 120 = .ok (.getfield 49, 3) := by decide +kernel
theorem dX10_perform_123 : decode cX10_perform 123 = .ok (.getfield 148, 3) := by decide +kernel
theorem dX10_perform_126 : decode cX10_perform 126 = .ok (.iload_n 3, 1) := by decide +kernel
theorem dX10_perform_127 : decode cX10_perform 127 = .ok (.iload_n 2, 1) := by decide +kernel
theorem dX10_perform_128 : decode cX10_perform 128 = .ok (.invokevirtual 257, 3) := by decide +kernel
theorem dX10_perform_131 : decode cX10_perform 131 = .ok (.invokestatic 212, 3) := by decide +kernel
theorem dX10_perform_134 : decode cX10_perform 134 = .ok (.ireturn, 1) := by decide +kernel
theorem dX10_perform_135 : decode cX10_perform 135 = .ok (.iconst 0, 1) := by decide +kernel
theorem dX10_perform_136 : decode cX10_perform 136 = .ok (.aload_n 0, 1) := by decide +kernel
theorem dX10_perform_137 : decode cX10_perform 137 = .ok (.aload_n 0, 1) := by decide +kernel
theorem dX10_perform_138 : decode cX10_perform 138 = .ok (.getfield 49, 3) := by decide +kernel
theorem dX10_perform_141 : decode cX10_perform 141 = .ok (.getfield 151, 3) := by decide +kernel
theorem dX10_perform_144 : decode cX10_perform 144 = .ok (.iload_n 3, 1) := by decide +kernel
theorem dX10_perform_145 : decode cX10_perform 145 = .ok (.iload_n 2, 1) := by decide +kernel
theorem dX10_perform_146 : decode cX10_perform 146 = .ok (.invokevirtual 257, 3) := by decide +kernel
theorem dX10_perform_149 : decode cX10_perform 149 = .ok (.invokestatic 212, 3) := by decide +kernel
theorem dX10_perform_152 : decode cX10_perform 152 = .ok (.ireturn, 1) := by decide +kernel
theorem dX10_perform_153 : decode cX10_perform 153 = .ok (.iconst 0, 1) := by decide +kernel
theorem dX10_perform_154 : decode cX10_perform 154 = .ok (.aload_n 0, 1) := by decide +kernel
theorem dX10_perform_155 : decode cX10_perform 155 = .ok (.iload_n 2, 1) := by decide +kernel
theorem dX10_perform_156 : decode cX10_perform 156 = .ok (.iconst 1, 1) := by decide +kernel
theorem dX10_perform_157 : decode cX10_perform 157 = .ok (.invokevirtual 263, 3) := by decide +kernel
theorem dX10_perform_160 : decode cX10_perform 160 = .ok (.invokestatic 212, 3) := by decide +kernel
theorem dX10_perform_163 : decode cX10_perform 163 = .ok (.ireturn, 1) := by decide +kernel
theorem dX10_perform_164 : decode cX10_perform 164 = .ok (.iconst 0, 1) := by decide +kernel
theorem dX10_perform_165 : decode cX10_perform 165 = .ok (.aload_n 0, 1) := by decide +kernel
theorem dX10_perform_166 : decode cX10_perform 166 = .ok (.iload_n 2, 1) := by decide +kernel
theorem dX10_perform_167 : decode cX10_perform 167 = .ok (.iconst 0, 1) := by decide +kernel
theorem dX10_perform_168 : decode cX10_perform 168 = .ok (.invokevirtual 263, 3) := by decide +kernel
theorem dX10_perform_171 : decode cX10_perform 171 = .ok (.invokestatic 212, 3) := by decide +kernel
theorem dX10_perform_174 : decode cX10_perform 174 = .ok (.ireturn, 1) := by decide +kernel
theorem dX10_perform_175 : decode cX10_perform 175 = .ok (.iconst 0, 1) := by decide +kernel
theorem dX10_perform_176 : decode cX10_perform 176 = .ok (.aload_n 0, 1) := by decide +kernel
theorem dX10_perform_177 : decode cX10_perform 177 = .ok (.iload_n 2, 1) := by decide +kernel
theorem dX10_perform_178 : decode cX10_perform 178 = .ok (.iload_n 3, 1) := by decide +kernel
theorem dX10_perform_179 : decode cX10_perform 179 = .ok (.invokevirtual 266, 3) := by decide +kernel
theorem dX10_perform_182 : decode cX10_perform 182 = .ok (.invokestatic 212, 3) := by decide +kernel
theorem dX10_perform_185 : decode cX10_perform 185 = .ok (.ireturn, 1) := by decide +kernel
theorem dX10_perform_186 : decode cX10_perform 186 = .ok (.iconst (-1), 1) := by decide +kernel
theorem dX10_perform_187 : decode cX10_perform 187 = .ok (.ireturn, 1) := by decide +kernel
theorem dX10_road_0 : decode cX10_road 0 = .ok (.aload_n 0, 1) := by decide +kernel
theorem dX10_road_1 : decode cX10_road 1 = .ok (.invokevirtual 335, 3) := by decide +kernel
theorem dX10_road_4 : decode cX10_road 4 = .ok (.lstore_n 1, 1) := by decide +kernel
theorem dX10_road_5 : decode cX10_road 5 = .ok (.iconst 0, 1) := by decide +kernel
theorem dX10_road_6 : decode cX10_road 6 = .ok (.istore_n 3, 1) := by decide +kernel
theorem dX10_road_7 : decode cX10_road 7 = .ok (.iconst 0, 1) := by decide +kernel
theorem dX10_road_8 : decode cX10_road 8 = .ok (.istore 4, 2) := by decide +kernel
theorem dX10_road_10 : decode cX10_road 10 = .ok (.lload_n 1, 1) := by decide +kernel
theorem dX10_road_11 : decode cX10_road 11 = .ok (.lstore 5, 2) := by decide +kernel
theorem dX10_road_13 : decode cX10_road 13 = .ok (.iconst 0, 1) := by decide +kernel
theorem dX10_road_14 : decode cX10_road 14 = .ok (.istore 7, 2) := by decide +kernel
theorem dX10_road_16 : decode cX10_road 16 = .ok (.iload 7, 2) := by decide +kernel
theorem dX10_road_18 : decode cX10_road 18 = .ok (.bipush 64, 2) := by decide +kernel
theorem dX10_road_20 : decode cX10_road 20 = .ok (.if_icmp .ge 54, 3) := by decide +kernel
theorem dX10_road_23 : decode cX10_road 23 = .ok (.lload 5, 2) := by decide +kernel
theorem dX10_road_25 : decode cX10_road 25 = .ok (.lconst 0, 1) := by decide +kernel
theorem dX10_road_26 : decode cX10_road 26 = .ok (.lcmp, 1) := by decide +kernel
theorem dX10_road_27 : decode cX10_road 27 = .ok (.ifCond .eq 47, 3) := by decide +kernel
theorem dX10_road_30 : decode cX10_road 30 = .ok (.lload 5, 2) := by decide +kernel
theorem dX10_road_32 : decode cX10_road 32 = .ok (.lload 5, 2) := by decide +kernel
theorem dX10_road_34 : decode cX10_road 34 = .ok (.invokestatic 339, 3) := by decide +kernel
theorem dX10_road_37 : decode cX10_road 37 = .ok (.invokestatic 343, 3) := by decide +kernel
theorem dX10_road_40 : decode cX10_road 40 = .ok (.lstore 8, 2) := by decide +kernel
theorem dX10_road_42 : decode cX10_road 42 = .ok (.lload 5, 2) := by decide +kernel
theorem dX10_road_44 : decode cX10_road 44 = .ok (.lload 8, 2) := by decide +kernel
theorem dX10_road_46 : decode cX10_road 46 = .ok (.ldc2_w 347, 3) := by decide +kernel
theorem dX10_road_49 : decode cX10_road 49 = .ok (.lxor, 1) := by decide +kernel
theorem dX10_road_50 : decode cX10_road 50 = .ok (.land, 1) := by decide +kernel
theorem dX10_road_51 : decode cX10_road 51 = .ok (.lstore 5, 2) := by decide +kernel
theorem dX10_road_53 : decode cX10_road 53 = .ok (.iinc 3 1, 3) := by decide +kernel
theorem dX10_road_56 : decode cX10_road 56 = .ok (.iload 4, 2) := by decide +kernel
theorem dX10_road_58 : decode cX10_road 58 = .ok (.lload 8, 2) := by decide +kernel
theorem dX10_road_60 : decode cX10_road 60 = .ok (.invokestatic 349, 3) := by decide +kernel
theorem dX10_road_63 : decode cX10_road 63 = .ok (.invokestatic 217, 3) := by decide +kernel
theorem dX10_road_66 : decode cX10_road 66 = .ok (.istore 4, 2) := by decide +kernel
theorem dX10_road_68 : decode cX10_road 68 = .ok (.iinc 7 1, 3) := by decide +kernel
theorem dX10_road_71 : decode cX10_road 71 = .ok (.goto (-55), 3) := by decide +kernel
theorem dX10_road_74 : decode cX10_road 74 = .ok (.aload_n 0, 1) := by decide +kernel
theorem dX10_road_75 : decode cX10_road 75 = .ok (.getfield 19, 3) := by decide +kernel
theorem dX10_road_78 : decode cX10_road 78 = .ok (.invokevirtual 292, 3) := by decide +kernel
theorem dX10_road_81 : decode cX10_road 81 = .ok (.aload_n 0, 1) := by decide +kernel
theorem dX10_road_82 : decode cX10_road 82 = .ok (.getfield 19, 3) := by decide +kernel
theorem dX10_road_85 : decode cX10_road 85 = .ok (.lload_n 1, 1) := by decide +kernel
theorem dX10_road_86 : decode cX10_road 86 = .ok (.invokevirtual 295, 3) := by decide +kernel
theorem dX10_road_89 : decode cX10_road 89 = .ok (.aload_n 0, 1) := by decide +kernel
theorem dX10_road_90 : decode cX10_road 90 = .ok (.getfield 19, 3) := by decide +kernel
theorem dX10_road_93 : decode cX10_road 93 = .ok (.iload_n 3, 1) := by decide +kernel
theorem dX10_road_94 : decode cX10_road 94 = .ok (.i2l, 1) := by decide +kernel
theorem dX10_road_95 : decode cX10_road 95 = .ok (.invokevirtual 295, 3) := by decide +kernel
theorem dX10_road_98 : decode cX10_road 98 = .ok (.aload_n 0, 1) := by decide +kernel
theorem dX10_road_99 : decode cX10_road 99 = .ok (.getfield 19, 3) := by decide +kernel
theorem dX10_road_102 : decode cX10_road 102 = .ok (.iload 4, 2) := by decide +kernel
theorem dX10_road_104 : decode cX10_road 104 = .ok (.i2l, 1) := by decide +kernel
theorem dX10_road_105 : decode cX10_road 105 = .ok (.invokevirtual 295, 3) := by decide +kernel
theorem dX10_road_108 : decode cX10_road 108 = .ok (.lload_n 1, 1) := by decide +kernel
theorem dX10_road_109 : decode cX10_road 109 = .ok (.invokestatic 349, 3) := by decide +kernel
theorem dX10_road_112 : decode cX10_road 112 = .ok (.ireturn, 1) := by decide +kernel
theorem dX10_squares_0 : decode cX10_squares 0 = .ok (.aload_n 0, 1) := by decide +kernel
theorem dX10_squares_1 : decode cX10_squares 1 = .ok (.invokevirtual 335, 3) := by decide +kernel
theorem dX10_squares_4 : decode cX10_squares 4 = .ok (.lstore_n 1, 1) := by decide +kernel
theorem dX10_squares_5 : decode cX10_squares 5 = .ok (.lconst 0, 1) := by decide +kernel
theorem dX10_squares_6 : decode cX10_squares 6 = .ok (.lstore_n 3, 1) := by decide +kernel
theorem dX10_squares_7 : decode cX10_squares 7 = .ok (.iconst 0, 1) := by decide +kernel
theorem dX10_squares_8 : decode cX10_squares 8 = .ok (.istore 5, 2) := by decide +kernel
theorem dX10_squares_10 : decode cX10_squares 10 = .ok (.iload 5, 2) := by decide +kernel
theorem dX10_squares_12 : decode cX10_squares 12 = .ok (.bipush 64, 2) := by decide +kernel
theorem dX10_squares_14 : decode cX10_squares 14 = .ok (.if_icmp .ge 44, 3) := by decide +kernel
theorem dX10_squares_17 : decode cX10_squares 17 = .ok (.iload 5, 2) := by decide +kernel
theorem dX10_squares_19 : decode cX10_squares 19 = .ok (.invokestatic 312, 3) := by decide +kernel
theorem dX10_squares_22 : decode cX10_squares 22 = .ok (.lstore 6, 2) := by decide +kernel
theorem dX10_squares_24 : decode cX10_squares 24 = .ok (.lload_n 1, 1) := by decide +kernel
theorem dX10_squares_25 : decode cX10_squares 25 = .ok (.lload 6, 2) := by decide +kernel
theorem dX10_squares_27 : decode cX10_squares 27 = .ok (.land, 1) := by decide +kernel
theorem dX10_squares_28 : decode cX10_squares 28 = .ok (.lconst 0, 1) := by decide +kernel
theorem dX10_squares_29 : decode cX10_squares 29 = .ok (.lcmp, 1) := by decide +kernel
theorem dX10_squares_30 : decode cX10_squares 30 = .ok (.ifCond .eq 22, 3) := by decide +kernel
theorem dX10_squares_33 : decode cX10_squares 33 = .ok (.lload 6, 2) := by decide +kernel
theorem dX10_squares_35 : decode cX10_squares 35 = .ok (.invokestatic 317, 3) := by decide +kernel
theorem dX10_squares_38 : decode cX10_squares 38 = .ok (.lload_n 1, 1) := by decide +kernel
theorem dX10_squares_39 : decode cX10_squares 39 = .ok (.land, 1) := by decide +kernel
theorem dX10_squares_40 : decode cX10_squares 40 = .ok (.invokestatic 349, 3) := by decide +kernel
theorem dX10_squares_43 : decode cX10_squares 43 = .ok (.iconst 3, 1) := by decide +kernel
theorem dX10_squares_44 : decode cX10_squares 44 = .ok (.if_icmp .lt 8, 3) := by decide +kernel
theorem dX10_squares_47 : decode cX10_squares 47 = .ok (.lload_n 3, 1) := by decide +kernel
theorem dX10_squares_48 : decode cX10_squares 48 = .ok (.lload 6, 2) := by decide +kernel
theorem dX10_squares_50 : decode cX10_squares 50 = .ok (.lor, 1) := by decide +kernel
theorem dX10_squares_51 : decode cX10_squares 51 = .ok (.lstore_n 3, 1) := by decide +kernel
theorem dX10_squares_52 : decode cX10_squares 52 = .ok (.iinc 5 1, 3) := by decide +kernel
theorem dX10_squares_55 : decode cX10_squares 55 = .ok (.goto (-45), 3) := by decide +kernel
theorem dX10_squares_58 : decode cX10_squares 58 = .ok (.aload_n 0, 1) := by decide +kernel
theorem dX10_squares_59 : decode cX10_squares 59 = .ok (.getfield 19, 3) := by decide +kernel
theorem dX10_squares_62 : decode cX10_squares 62 = .ok (.invokevirtual 292, 3) := by decide +kernel
theorem dX10_squares_65 : decode cX10_squares 65 = .ok (.aload_n 0, 1) := by decide +kernel
theorem dX10_squares_66 : decode cX10_squares 66 = .ok (.getfield 19, 3) := by decide +kernel
theorem dX10_squares_69 : decode cX10_squares 69 = .ok (.lload_n 3, 1) := by decide +kernel
theorem dX10_squares_70 : decode cX10_squares 70 = .ok (.invokevirtual 295, 3) := by decide +kernel
theorem dX10_squares_73 : decode cX10_squares 73 = .ok (.lload_n 3, 1) := by decide +kernel
theorem dX10_squares_74 : decode cX10_squares 74 = .ok (.invokestatic 349, 3) := by decide +kernel
theorem dX10_squares_77 : decode cX10_squares 77 = .ok (.ireturn, 1) := by decide +kernel
theorem dX10_cart_0 : decode cX10_cart 0 = .ok (.aload_n 0, 1) := by decide +kernel
theorem dX10_cart_1 : decode cX10_cart 1 = .ok (.getfield 26, 3) := by decide +kernel
theorem dX10_cart_4 : decode cX10_cart 4 = .ok (.iload_n 1, 1) := by decide +kernel
theorem dX10_cart_5 : decode cX10_cart 5 = .ok (.invokevirtual 135, 3) := by decide +kernel
theorem dX10_cart_8 : decode cX10_cart 8 = .ok (.ifCond .eq 14, 3) := by decide +kernel
theorem dX10_cart_11 : decode cX10_cart 11 = .ok (.aload_n 0, 1) := by decide +kernel
theorem dX10_cart_12 : decode cX10_cart 12 = .ok (.getfield 26, 3) := by decide +kernel
theorem dX10_cart_15 : decode cX10_cart 15 = .ok (.iload_n 2, 1) := by decide +kernel
theorem dX10_cart_16 : decode cX10_cart 16 = .ok (.invokevirtual 135, 3) := by decide +kernel
theorem dX10_cart_19 : decode cX10_cart 19 = .ok (.ifCond .ne 5, 3) := by decide +kernel
theorem dX10_cart_22 : decode cX10_cart 22 = .ok (.iconst (-1), 1) := by decide +kernel
theorem dX10_cart_23 : decode cX10_cart 23 = .ok (.ireturn, 1) := by decide +kernel
theorem dX10_cart_24 : decode cX10_cart 24 = .ok (.aload_n 0, 1) := by decide +kernel
theorem dX10_cart_25 : decode cX10_cart 25 = .ok (.invokevirtual 335, 3) := by decide +kernel
theorem dX10_cart_28 : decode cX10_cart 28 = .ok (.lstore_n 3, 1) := by decide +kernel
theorem dX10_cart_29 : decode cX10_cart 29 = .ok (.aload_n 0, 1) := by decide +kernel
theorem dX10_cart_30 : decode cX10_cart 30 = .ok (.getfield 68, 3) := by decide +kernel
theorem dX10_cart_33 : decode cX10_cart 33 = .ok (.lload_n 3, 1) := by decide +kernel
theorem dX10_cart_34 : decode cX10_cart 34 = .ok (.iload_n 2, 1) := by decide +kernel
theorem dX10_cart_35 : decode cX10_cart 35 = .ok (.invokevirtual 354, 3) := by decide +kernel
theorem dX10_cart_38 : decode cX10_cart 38 = .ok (.aload_n 0, 1) := by decide +kernel
theorem dX10_cart_39 : decode cX10_cart 39 = .ok (.getfield 68, 3) := by decide +kernel
theorem dX10_cart_42 : decode cX10_cart 42 = .ok (.getfield 358, 3) := by decide +kernel
theorem dX10_cart_45 : decode cX10_cart 45 = .ok (.iload_n 1, 1) := by decide +kernel
theorem dX10_cart_46 : decode cX10_cart 46 = .ok (.iaload, 1) := by decide +kernel
theorem dX10_cart_47 : decode cX10_cart 47 = .ok (.istore 5, 2) := by decide +kernel
theorem dX10_cart_49 : decode cX10_cart 49 = .ok (.iload 5, 2) := by decide +kernel
theorem dX10_cart_51 : decode cX10_cart 51 = .ok (.iconst (-1), 1) := by decide +kernel
theorem dX10_cart_52 : decode cX10_cart 52 = .ok (.if_icmp .ne 6, 3) := by decide +kernel
theorem dX10_cart_55 : decode cX10_cart 55 = .ok (.bipush (-2), 2) := by decide +kernel
theorem dX10_cart_57 : decode cX10_cart 57 = .ok (.ireturn, 1) := by decide +kernel
theorem dX10_cart_58 : decode cX10_cart 58 = .ok (.aload_n 0, 1) := by decide +kernel
theorem dX10_cart_59 : decode cX10_cart 59 = .ok (.getfield 19, 3) := by decide +kernel
theorem dX10_cart_62 : decode cX10_cart 62 = .ok (.invokevirtual 292, 3) := by decide +kernel
theorem dX10_cart_65 : decode cX10_cart 65 = .ok (.aload_n 0, 1) := by decide +kernel
theorem dX10_cart_66 : decode cX10_cart 66 = .ok (.getfield 19, 3) := by decide +kernel
theorem dX10_cart_69 : decode cX10_cart 69 = .ok (.iload_n 1, 1) := by decide +kernel
theorem dX10_cart_70 : decode cX10_cart 70 = .ok (.i2l, 1) := by decide +kernel
theorem dX10_cart_71 : decode cX10_cart 71 = .ok (.invokevirtual 295, 3) := by decide +kernel
theorem dX10_cart_74 : decode cX10_cart 74 = .ok (.iload_n 1, 1) := by decide +kernel
theorem dX10_cart_75 : decode cX10_cart 75 = .ok (.istore 6, 2) := by decide +kernel
theorem dX10_cart_77 : decode cX10_cart 77 = .ok (.iload 5, 2) := by decide +kernel
theorem dX10_cart_79 : decode cX10_cart 79 = .ok (.iconst 1, 1) := by decide +kernel
theorem dX10_cart_80 : decode cX10_cart 80 = .ok (.isub, 1) := by decide +kernel
theorem dX10_cart_81 : decode cX10_cart 81 = .ok (.istore 7, 2) := by decide +kernel
theorem dX10_cart_83 : decode cX10_cart 83 = .ok (.iload 7, 2) := by decide +kernel
theorem dX10_cart_85 : decode cX10_cart 85 = .ok (.ifCond .lt 32, 3) := by decide +kernel
theorem dX10_cart_88 : decode cX10_cart 88 = .ok (.aload_n 0, 1) := by decide +kernel
theorem dX10_cart_89 : decode cX10_cart 89 = .ok (.getfield 68, 3) := by decide +kernel
theorem dX10_cart_92 : decode cX10_cart 92 = .ok (.iload 6, 2) := by decide +kernel
theorem dX10_cart_94 : decode cX10_cart 94 = .ok (.iload 7, 2) := by decide +kernel
theorem dX10_cart_96 : decode cX10_cart 96 = .ok (.invokevirtual 361, 3) := by decide +kernel
theorem dX10_cart_99 : decode cX10_cart 99 = .ok (.istore 6, 2) := by decide +kernel
theorem dX10_cart_101 : decode cX10_cart 101 = .ok (.aload_n 0, 1) := by decide +kernel
theorem dX10_cart_102 : decode cX10_cart 102 = .ok (.getfield 19, 3) := by decide +kernel
theorem dX10_cart_105 : decode cX10_cart 105 = .ok (.iload 6, 2) := by decide +kernel
theorem dX10_cart_107 : decode cX10_cart 107 = .ok (.i2l, 1) := by decide +kernel
theorem dX10_cart_108 : decode cX10_cart 108 = .ok (.invokevirtual 295, 3) := by decide +kernel
theorem dX10_cart_111 : decode cX10_cart 111 = .ok (.iinc 7 (-1), 3) := by decide +kernel
theorem dX10_cart_114 : decode cX10_cart 114 = .ok (.goto (-31), 3) := by decide +kernel
theorem dX10_cart_117 : decode cX10_cart 117 = .ok (.iload 5, 2) := by decide +kernel
theorem dX10_cart_119 : decode cX10_cart 119 = .ok (.ireturn, 1) := by decide +kernel
theorem dX10_joined_0 : decode cX10_joined 0 = .ok (.aload_n 0, 1) := by decide +kernel
theorem dX10_joined_1 : decode cX10_joined 1 = .ok (.getfield 49, 3) := by decide +kernel
theorem dX10_joined_4 : decode cX10_joined 4 = .ok (.iload_n 1, 1) := by decide +kernel
theorem dX10_joined_5 : decode cX10_joined 5 = .ok (.invokevirtual 178, 3) := by decide +kernel
theorem dX10_joined_8 : decode cX10_joined 8 = .ok (.ifCond .ne 5, 3) := by decide +kernel
theorem dX10_joined_11 : decode cX10_joined 11 = .ok (.iconst (-1), 1) := by decide +kernel
theorem dX10_joined_12 : decode cX10_joined 12 = .ok (.ireturn, 1) := by decide +kernel
theorem dX10_joined_13 : decode cX10_joined 13 = .ok (.aload_n 0, 1) := by decide +kernel
theorem dX10_joined_14 : decode cX10_joined 14 = .ok (.invokevirtual 335, 3) := by decide +kernel
theorem dX10_joined_17 : decode cX10_joined 17 = .ok (.aload_n 0, 1) := by decide +kernel
theorem dX10_joined_18 : decode cX10_joined 18 = .ok (.getfield 49, 3) := by decide +kernel
theorem dX10_joined_21 : decode cX10_joined 21 = .ok (.getfield 183, 3) := by decide +kernel
theorem dX10_joined_24 : decode cX10_joined 24 = .ok (.iload_n 1, 1) := by decide +kernel
theorem dX10_joined_25 : decode cX10_joined 25 = .ok (.iaload, 1) := by decide +kernel
theorem dX10_joined_26 : decode cX10_joined 26 = .ok (.invokestatic 343, 3) := by decide +kernel
theorem dX10_joined_29 : decode cX10_joined 29 = .ok (.lstore_n 2, 1) := by decide +kernel
theorem dX10_joined_30 : decode cX10_joined 30 = .ok (.lload_n 2, 1) := by decide +kernel
theorem dX10_joined_31 : decode cX10_joined 31 = .ok (.lconst 0, 1) := by decide +kernel
theorem dX10_joined_32 : decode cX10_joined 32 = .ok (.lcmp, 1) := by decide +kernel
theorem dX10_joined_33 : decode cX10_joined 33 = .ok (.ifCond .ne 6, 3) := by decide +kernel
theorem dX10_joined_36 : decode cX10_joined 36 = .ok (.bipush (-2), 2) := by decide +kernel
theorem dX10_joined_38 : decode cX10_joined 38 = .ok (.ireturn, 1) := by decide +kernel
theorem dX10_joined_39 : decode cX10_joined 39 = .ok (.iconst 0, 1) := by decide +kernel
theorem dX10_joined_40 : decode cX10_joined 40 = .ok (.istore 4, 2) := by decide +kernel
theorem dX10_joined_42 : decode cX10_joined 42 = .ok (.iconst 0, 1) := by decide +kernel
theorem dX10_joined_43 : decode cX10_joined 43 = .ok (.istore 5, 2) := by decide +kernel
theorem dX10_joined_45 : decode cX10_joined 45 = .ok (.iload 5, 2) := by decide +kernel
theorem dX10_joined_47 : decode cX10_joined 47 = .ok (.aload_n 0, 1) := by decide +kernel
theorem dX10_joined_48 : decode cX10_joined 48 = .ok (.getfield 49, 3) := by decide +kernel
theorem dX10_joined_51 : decode cX10_joined 51 = .ok (.getfield 206, 3) := by decide +kernel
theorem dX10_joined_54 : decode cX10_joined 54 = .ok (.if_icmp .ge 35, 3) := by decide +kernel
theorem dX10_joined_57 : decode cX10_joined 57 = .ok (.lload_n 2, 1) := by decide +kernel
theorem dX10_joined_58 : decode cX10_joined 58 = .ok (.aload_n 0, 1) := by decide +kernel
theorem dX10_joined_59 : decode cX10_joined 59 = .ok (.getfield 49, 3) := by decide +kernel
theorem dX10_joined_62 : decode cX10_joined 62 = .ok (.getfield 183, 3) := by decide +kernel
theorem dX10_joined_65 : decode cX10_joined 65 = .ok (.iload 5, 2) := by decide +kernel
theorem dX10_joined_67 : decode cX10_joined 67 = .ok (.iaload, 1) := by decide +kernel
theorem dX10_joined_68 : decode cX10_joined 68 = .ok (.invokestatic 321, 3) := by decide +kernel
theorem dX10_joined_71 : decode cX10_joined 71 = .ok (.ifCond .eq 12, 3) := by decide +kernel
theorem dX10_joined_74 : decode cX10_joined 74 = .ok (.iload 4, 2) := by decide +kernel
theorem dX10_joined_76 : decode cX10_joined 76 = .ok (.iconst 1, 1) := by decide +kernel
theorem dX10_joined_77 : decode cX10_joined 77 = .ok (.iload 5, 2) := by decide +kernel
theorem dX10_joined_79 : decode cX10_joined 79 = .ok (.ishl, 1) := by decide +kernel
theorem dX10_joined_80 : decode cX10_joined 80 = .ok (.ior, 1) := by decide +kernel
theorem dX10_joined_81 : decode cX10_joined 81 = .ok (.istore 4, 2) := by decide +kernel
theorem dX10_joined_83 : decode cX10_joined 83 = .ok (.iinc 5 1, 3) := by decide +kernel
theorem dX10_joined_86 : decode cX10_joined 86 = .ok (.goto (-41), 3) := by decide +kernel
theorem dX10_joined_89 : decode cX10_joined 89 = .ok (.aload_n 0, 1) := by decide +kernel
theorem dX10_joined_90 : decode cX10_joined 90 = .ok (.getfield 19, 3) := by decide +kernel
theorem dX10_joined_93 : decode cX10_joined 93 = .ok (.invokevirtual 292, 3) := by decide +kernel
theorem dX10_joined_96 : decode cX10_joined 96 = .ok (.aload_n 0, 1) := by decide +kernel
theorem dX10_joined_97 : decode cX10_joined 97 = .ok (.getfield 19, 3) := by decide +kernel
theorem dX10_joined_100 : decode cX10_joined 100 = .ok (.lload_n 2, 1) := by decide +kernel
theorem dX10_joined_101 : decode cX10_joined 101 = .ok (.invokestatic 349, 3) := by decide +kernel
theorem dX10_joined_104 : decode cX10_joined 104 = .ok (.i2l, 1) := by decide +kernel
theorem dX10_joined_105 : decode cX10_joined 105 = .ok (.invokevirtual 295, 3) := by decide +kernel
theorem dX10_joined_108 : decode cX10_joined 108 = .ok (.iload 4, 2) := by decide +kernel
theorem dX10_joined_110 : decode cX10_joined 110 = .ok (.ireturn, 1) := by decide +kernel
theorem dX10_owners_0 : decode cX10_owners 0 = .ok (.aload_n 0, 1) := by decide +kernel
theorem dX10_owners_1 : decode cX10_owners 1 = .ok (.getfield 49, 3) := by decide +kernel
theorem dX10_owners_4 : decode cX10_owners 4 = .ok (.getfield 206, 3) := by decide +kernel
theorem dX10_owners_7 : decode cX10_owners 7 = .ok (.ifCond .ne 6, 3) := by decide +kernel
theorem dX10_owners_10 : decode cX10_owners 10 = .ok (.bipush (-2), 2) := by decide +kernel
theorem dX10_owners_12 : decode cX10_owners 12 = .ok (.ireturn, 1) := by decide +kernel
theorem dX10_owners_13 : decode cX10_owners 13 = .ok (.aload_n 0, 1) := by decide +kernel
theorem dX10_owners_14 : decode cX10_owners 14 = .ok (.invokevirtual 335, 3) := by decide +kernel
theorem dX10_owners_17 : decode cX10_owners 17 = .ok (.lstore_n 1, 1) := by decide +kernel
theorem dX10_owners_18 : decode cX10_owners 18 = .ok (.iconst 0, 1) := by decide +kernel
theorem dX10_owners_19 : decode cX10_owners 19 = .ok (.istore_n 3, 1) := by decide +kernel
theorem dX10_owners_20 : decode cX10_owners 20 = .ok (.iconst 0, 1) := by decide +kernel
theorem dX10_owners_21 : decode cX10_owners 21 = .ok (.istore 4, 2) := by decide +kernel
theorem dX10_owners_23 : decode cX10_owners 23 = .ok (.aload_n 0, 1) := by decide +kernel
theorem dX10_owners_24 : decode cX10_owners 24 = .ok (.getfield 19, 3) := by decide +kernel
theorem dX10_owners_27 : decode cX10_owners 27 = .ok (.invokevirtual 292, 3) := by decide +kernel
theorem dX10_owners_30 : decode cX10_owners 30 = .ok (.iconst 0, 1) := by decide +kernel
theorem dX10_owners_31 : decode cX10_owners 31 = .ok (.istore 5, 2) := by decide +kernel
theorem dX10_owners_33 : decode cX10_owners 33 = .ok (.iload 5, 2) := by decide +kernel
theorem dX10_owners_35 : decode cX10_owners 35 = .ok (.aload_n 0, 1) := by decide +kernel
theorem dX10_owners_36 : decode cX10_owners 36 = .ok (.getfield 49, 3) := by decide +kernel
theorem dX10_owners_39 : decode cX10_owners 39 = .ok (.getfield 206, 3) := by decide +kernel
theorem dX10_owners_42 : decode cX10_owners 42 = .ok (.if_icmp .ge 49, 3) := by decide +kernel
theorem dX10_owners_45 : decode cX10_owners 45 = .ok (.lload_n 1, 1) := by decide +kernel
theorem dX10_owners_46 : decode cX10_owners 46 = .ok (.aload_n 0, 1) := by decide +kernel
theorem dX10_owners_47 : decode cX10_owners 47 = .ok (.getfield 49, 3) := by decide +kernel
theorem dX10_owners_50 : decode cX10_owners 50 = .ok (.iload 5, 2) := by decide +kernel
theorem dX10_owners_52 : decode cX10_owners 52 = .ok (.invokevirtual 364, 3) := by decide +kernel
theorem dX10_owners_55 : decode cX10_owners 55 = .ok (.land, 1) := by decide +kernel
theorem dX10_owners_56 : decode cX10_owners 56 = .ok (.invokestatic 349, 3) := by decide +kernel
theorem dX10_owners_59 : decode cX10_owners 59 = .ok (.istore 6, 2) := by decide +kernel
theorem dX10_owners_61 : decode cX10_owners 61 = .ok (.aload_n 0, 1) := by decide +kernel
theorem dX10_owners_62 : decode cX10_owners 62 = .ok (.getfield 19, 3) := by decide +kernel
theorem dX10_owners_65 : decode cX10_owners 65 = .ok (.iload 6, 2) := by decide +kernel
theorem dX10_owners_67 : decode cX10_owners 67 = .ok (.i2l, 1) := by decide +kernel
theorem dX10_owners_68 : decode cX10_owners 68 = .ok (.invokevirtual 295, 3) := by decide +kernel
theorem dX10_owners_71 : decode cX10_owners 71 = .ok (.iload 6, 2) := by decide +kernel
theorem dX10_owners_73 : decode cX10_owners 73 = .ok (.iload 4, 2) := by decide +kernel
theorem dX10_owners_75 : decode cX10_owners 75 = .ok (.if_icmp .le 10, 3) := by decide +kernel
theorem dX10_owners_78 : decode cX10_owners 78 = .ok (.iload 6, 2) := by decide +kernel
theorem dX10_owners_80 : decode cX10_owners 80 = .ok (.istore 4, 2) := by decide +kernel
theorem dX10_owners_82 : decode cX10_owners 82 = .ok (.iload 5, 2) := by decide +kernel
theorem dX10_owners_84 : decode cX10_owners 84 = .ok (.istore_n 3, 1) := by decide +kernel
theorem dX10_owners_85 : decode cX10_owners 85 = .ok (.iinc 5 1, 3) := by decide +kernel
theorem dX10_owners_88 : decode cX10_owners 88 = .ok (.goto (-55), 3) := by decide +kernel
theorem dX10_owners_91 : decode cX10_owners 91 = .ok (.iload_n 3, 1) := by decide +kernel
theorem dX10_owners_92 : decode cX10_owners 92 = .ok (.ireturn, 1) := by decide +kernel
theorem dX10_least_0 : decode cX10_least 0 = .ok (.iconst 0, 1) := by decide +kernel
theorem dX10_least_1 : decode cX10_least 1 = .ok (.istore_n 1, 1) := by decide +kernel
theorem dX10_least_2 : decode cX10_least 2 = .ok (.iload_n 1, 1) := by decide +kernel
theorem dX10_least_3 : decode cX10_least 3 = .ok (.bipush 99, 2) := by decide +kernel
theorem dX10_least_5 : decode cX10_least 5 = .ok (.if_icmp .gt 40, 3) := by decide +kernel
theorem dX10_least_8 : decode cX10_least 8 = .ok (.aload_n 0, 1) := by decide +kernel
theorem dX10_least_9 : decode cX10_least 9 = .ok (.getfield 49, 3) := by decide +kernel
theorem dX10_least_12 : decode cX10_least 12 = .ok (.iload_n 1, 1) := by decide +kernel
theorem dX10_least_13 : decode cX10_least 13 = .ok (.invokevirtual 367, 3) := by decide +kernel
theorem dX10_least_16 : decode cX10_least 16 = .ok (.istore_n 2, 1) := by decide +kernel
theorem dX10_least_17 : decode cX10_least 17 = .ok (.iload_n 2, 1) := by decide +kernel
theorem dX10_least_18 : decode cX10_least 18 = .ok (.ifCond .le 21, 3) := by decide +kernel
theorem dX10_least_21 : decode cX10_least 21 = .ok (.aload_n 0, 1) := by decide +kernel
theorem dX10_least_22 : decode cX10_least 22 = .ok (.getfield 19, 3) := by decide +kernel
theorem dX10_least_25 : decode cX10_least 25 = .ok (.invokevirtual 292, 3) := by decide +kernel
theorem dX10_least_28 : decode cX10_least 28 = .ok (.aload_n 0, 1) := by decide +kernel
theorem dX10_least_29 : decode cX10_least 29 = .ok (.getfield 19, 3) := by decide +kernel
theorem dX10_least_32 : decode cX10_least 32 = .ok (.iload_n 2, 1) := by decide +kernel
theorem dX10_least_33 : decode cX10_least 33 = .ok (.i2l, 1) := by decide +kernel
theorem dX10_least_34 : decode cX10_least 34 = .ok (.invokevirtual 295, 3) := by decide +kernel
theorem dX10_least_37 : decode cX10_least 37 = .ok (.iload_n 1, 1) := by decide +kernel
theorem dX10_least_38 : decode cX10_least 38 = .ok (.ireturn, 1) := by decide +kernel
theorem dX10_least_39 : decode cX10_least 39 = .ok (.iinc 1 1, 3) := by decide +kernel
theorem dX10_least_42 : decode cX10_least 42 = .ok (.goto (-40), 3) := by decide +kernel
theorem dX10_least_45 : decode cX10_least 45 = .ok (.bipush (-2), 2) := by decide +kernel
theorem dX10_least_47 : decode cX10_least 47 = .ok (.ireturn, 1) := by decide +kernel
theorem dX10_furthest_0 : decode cX10_furthest 0 = .ok (.aload_n 0, 1) := by decide +kernel
theorem dX10_furthest_1 : decode cX10_furthest 1 = .ok (.getfield 26, 3) := by decide +kernel
theorem dX10_furthest_4 : decode cX10_furthest 4 = .ok (.iload_n 1, 1) := by decide +kernel
theorem dX10_furthest_5 : decode cX10_furthest 5 = .ok (.invokevirtual 135, 3) := by decide +kernel
theorem dX10_furthest_8 : decode cX10_furthest 8 = .ok (.ifCond .ne 5, 3) := by decide +kernel
theorem dX10_furthest_11 : decode cX10_furthest 11 = .ok (.iconst (-1), 1) := by decide +kernel
theorem dX10_furthest_12 : decode cX10_furthest 12 = .ok (.ireturn, 1) := by decide +kernel
theorem dX10_furthest_13 : decode cX10_furthest 13 = .ok (.aload_n 0, 1) := by decide +kernel
theorem dX10_furthest_14 : decode cX10_furthest 14 = .ok (.getfield 68, 3) := by decide +kernel
theorem dX10_furthest_17 : decode cX10_furthest 17 = .ok (.aload_n 0, 1) := by decide +kernel
theorem dX10_furthest_18 : decode cX10_furthest 18 = .ok (.invokevirtual 335, 3) := by decide +kernel
theorem dX10_furthest_21 : decode cX10_furthest 21 = .ok (.iload_n 1, 1) := by decide +kernel
theorem dX10_furthest_22 : decode cX10_furthest 22 = .ok (.invokevirtual 354, 3) := by decide +kernel
theorem dX10_furthest_25 : decode cX10_furthest 25 = .ok (.aload_n 0, 1) := by decide +kernel
theorem dX10_furthest_26 : decode cX10_furthest 26 = .ok (.getfield 68, 3) := by decide +kernel
theorem dX10_furthest_29 : decode cX10_furthest 29 = .ok (.getfield 358, 3) := by decide +kernel
theorem dX10_furthest_32 : decode cX10_furthest 32 = .ok (.iload_n 1, 1) := by decide +kernel
theorem dX10_furthest_33 : decode cX10_furthest 33 = .ok (.iaload, 1) := by decide +kernel
theorem dX10_furthest_34 : decode cX10_furthest 34 = .ok (.iconst (-1), 1) := by decide +kernel
theorem dX10_furthest_35 : decode cX10_furthest 35 = .ok (.if_icmp .ne 6, 3) := by decide +kernel
theorem dX10_furthest_38 : decode cX10_furthest 38 = .ok (.bipush (-2), 2) := by decide +kernel
theorem dX10_furthest_40 : decode cX10_furthest 40 = .ok (.ireturn, 1) := by decide +kernel
theorem dX10_furthest_41 : decode cX10_furthest 41 = .ok (.iload_n 1, 1) := by decide +kernel
theorem dX10_furthest_42 : decode cX10_furthest 42 = .ok (.istore_n 2, 1) := by decide +kernel
theorem dX10_furthest_43 : decode cX10_furthest 43 = .ok (.iconst 0, 1) := by decide +kernel
theorem dX10_furthest_44 : decode cX10_furthest 44 = .ok (.istore_n 3, 1) := by decide +kernel
theorem dX10_furthest_45 : decode cX10_furthest 45 = .ok (.iconst 0, 1) := by decide +kernel
theorem dX10_furthest_46 : decode cX10_furthest 46 = .ok (.istore 4, 2) := by decide +kernel
theorem dX10_furthest_48 : decode cX10_furthest 48 = .ok (.iload 4, 2) := by decide +kernel
theorem dX10_furthest_50 : decode cX10_furthest 50 = .ok (.bipush 64, 2) := by decide +kernel
theorem dX10_furthest_52 : decode cX10_furthest 52 = .ok (.if_icmp .ge 37, 3) := by decide +kernel
theorem dX10_furthest_55 : decode cX10_furthest 55 = .ok (.aload_n 0, 1) := by decide +kernel
theorem dX10_furthest_56 : decode cX10_furthest 56 = .ok (.getfield 68, 3) := by decide +kernel
theorem dX10_furthest_59 : decode cX10_furthest 59 = .ok (.getfield 358, 3) := by decide +kernel
theorem dX10_furthest_62 : decode cX10_furthest 62 = .ok (.iload 4, 2) := by decide +kernel
theorem dX10_furthest_64 : decode cX10_furthest 64 = .ok (.iaload, 1) := by decide +kernel
theorem dX10_furthest_65 : decode cX10_furthest 65 = .ok (.iload_n 3, 1) := by decide +kernel
theorem dX10_furthest_66 : decode cX10_furthest 66 = .ok (.if_icmp .le 17, 3) := by decide +kernel
theorem dX10_furthest_69 : decode cX10_furthest 69 = .ok (.aload_n 0, 1) := by decide +kernel
theorem dX10_furthest_70 : decode cX10_furthest 70 = .ok (.getfield 68, 3) := by decide +kernel
theorem dX10_furthest_73 : decode cX10_furthest 73 = .ok (.getfield 358, 3) := by decide +kernel
theorem dX10_furthest_76 : decode cX10_furthest 76 = .ok (.iload 4, 2) := by decide +kernel
theorem dX10_furthest_78 : decode cX10_furthest 78 = .ok (.iaload, 1) := by decide +kernel
theorem dX10_furthest_79 : decode cX10_furthest 79 = .ok (.istore_n 3, 1) := by decide +kernel
theorem dX10_furthest_80 : decode cX10_furthest 80 = .ok (.iload 4, 2) := by decide +kernel
theorem dX10_furthest_82 : decode cX10_furthest 82 = .ok (.istore_n 2, 1) := by decide +kernel
theorem dX10_furthest_83 : decode cX10_furthest 83 = .ok (.iinc 4 1, 3) := by decide +kernel
theorem dX10_furthest_86 : decode cX10_furthest 86 = .ok (.goto (-38), 3) := by decide +kernel
theorem dX10_furthest_89 : decode cX10_furthest 89 = .ok (.aload_n 0, 1) := by decide +kernel
theorem dX10_furthest_90 : decode cX10_furthest 90 = .ok (.getfield 19, 3) := by decide +kernel
theorem dX10_furthest_93 : decode cX10_furthest 93 = .ok (.invokevirtual 292, 3) := by decide +kernel
theorem dX10_furthest_96 : decode cX10_furthest 96 = .ok (.aload_n 0, 1) := by decide +kernel
theorem dX10_furthest_97 : decode cX10_furthest 97 = .ok (.getfield 19, 3) := by decide +kernel
theorem dX10_furthest_100 : decode cX10_furthest 100 = .ok (.iload_n 3, 1) := by decide +kernel
theorem dX10_furthest_101 : decode cX10_furthest 101 = .ok (.i2l, 1) := by decide +kernel
theorem dX10_furthest_102 : decode cX10_furthest 102 = .ok (.invokevirtual 295, 3) := by decide +kernel
theorem dX10_furthest_105 : decode cX10_furthest 105 = .ok (.iload_n 2, 1) := by decide +kernel
theorem dX10_furthest_106 : decode cX10_furthest 106 = .ok (.ireturn, 1) := by decide +kernel
theorem dX10_roadNow_0 : decode cX10_roadNow 0 = .ok (.aload_n 0, 1) := by decide +kernel
theorem dX10_roadNow_1 : decode cX10_roadNow 1 = .ok (.getfield 49, 3) := by decide +kernel
theorem dX10_roadNow_4 : decode cX10_roadNow 4 = .ok (.aload_n 0, 1) := by decide +kernel
theorem dX10_roadNow_5 : decode cX10_roadNow 5 = .ok (.getfield 42, 3) := by decide +kernel
theorem dX10_roadNow_8 : decode cX10_roadNow 8 = .ok (.getfield 167, 3) := by decide +kernel
theorem dX10_roadNow_11 : decode cX10_roadNow 11 = .ok (.invokevirtual 370, 3) := by decide +kernel
theorem dX10_roadNow_14 : decode cX10_roadNow 14 = .ok (.lreturn, 1) := by decide +kernel
theorem dX10_where_0 : decode cX10_where 0 = .ok (.aload_n 0, 1) := by decide +kernel
theorem dX10_where_1 : decode cX10_where 1 = .ok (.getfield 49, 3) := by decide +kernel
theorem dX10_where_4 : decode cX10_where 4 = .ok (.iload_n 1, 1) := by decide +kernel
theorem dX10_where_5 : decode cX10_where 5 = .ok (.invokevirtual 178, 3) := by decide +kernel
theorem dX10_where_8 : decode cX10_where 8 = .ok (.ifCond .eq 13, 3) := by decide +kernel
theorem dX10_where_11 : decode cX10_where 11 = .ok (.iload_n 2, 1) := by decide +kernel
theorem dX10_where_12 : decode cX10_where 12 = .ok (.ifCond .lt 9, 3) := by decide +kernel
theorem dX10_where_15 : decode cX10_where 15 = .ok (.iload_n 2, 1) := by decide +kernel
theorem dX10_where_16 : decode cX10_where 16 = .ok (.bipush 100, 2) := by decide +kernel
theorem dX10_where_18 : decode cX10_where 18 = .ok (.if_icmp .le 5, 3) := by decide +kernel
theorem dX10_where_21 : decode cX10_where 21 = .ok (.iconst (-1), 1) := by decide +kernel
theorem dX10_where_22 : decode cX10_where 22 = .ok (.ireturn, 1) := by decide +kernel
theorem dX10_where_23 : decode cX10_where 23 = .ok (.aload_n 0, 1) := by decide +kernel
theorem dX10_where_24 : decode cX10_where 24 = .ok (.getfield 61, 3) := by decide +kernel
theorem dX10_where_27 : decode cX10_where 27 = .ok (.iload_n 2, 1) := by decide +kernel
theorem dX10_where_28 : decode cX10_where 28 = .ok (.invokevirtual 373, 3) := by decide +kernel
theorem dX10_where_31 : decode cX10_where 31 = .ok (.astore_n 3, 1) := by decide +kernel
theorem dX10_where_32 : decode cX10_where 32 = .ok (.aload_n 0, 1) := by decide +kernel
theorem dX10_where_33 : decode cX10_where 33 = .ok (.getfield 19, 3) := by decide +kernel
theorem dX10_where_36 : decode cX10_where 36 = .ok (.invokevirtual 292, 3) := by decide +kernel
theorem dX10_where_39 : decode cX10_where 39 = .ok (.aload_n 0, 1) := by decide +kernel
theorem dX10_where_40 : decode cX10_where 40 = .ok (.getfield 19, 3) := by decide +kernel
theorem dX10_where_43 : decode cX10_where 43 = .ok (.aload_n 3, 1) := by decide +kernel
theorem dX10_where_44 : decode cX10_where 44 = .ok (.getfield 192, 3) := by decide +kernel
theorem dX10_where_47 : decode cX10_where 47 = .ok (.iload_n 1, 1) := by decide +kernel
theorem dX10_where_48 : decode cX10_where 48 = .ok (.ishr, 1) := by decide +kernel
theorem dX10_where_49 : decode cX10_where 49 = .ok (.iconst 1, 1) := by decide +kernel
theorem dX10_where_50 : decode cX10_where 50 = .ok (.iand, 1) := by decide +kernel
theorem dX10_where_51 : decode cX10_where 51 = .ok (.i2l, 1) := by decide +kernel
theorem dX10_where_52 : decode cX10_where 52 = .ok (.invokevirtual 295, 3) := by decide +kernel
theorem dX10_where_55 : decode cX10_where 55 = .ok (.aload_n 0, 1) := by decide +kernel
theorem dX10_where_56 : decode cX10_where 56 = .ok (.getfield 19, 3) := by decide +kernel
theorem dX10_where_59 : decode cX10_where 59 = .ok (.aload_n 3, 1) := by decide +kernel
theorem dX10_where_60 : decode cX10_where 60 = .ok (.aload_n 0, 1) := by decide +kernel
theorem dX10_where_61 : decode cX10_where 61 = .ok (.getfield 42, 3) := by decide +kernel
theorem dX10_where_64 : decode cX10_where 64 = .ok (.getfield 167, 3) := by decide +kernel
theorem dX10_where_67 : decode cX10_where 67 = .ok (.invokevirtual 370, 3) := by decide +kernel
theorem dX10_where_70 : decode cX10_where 70 = .ok (.invokestatic 349, 3) := by decide +kernel
theorem dX10_where_73 : decode cX10_where 73 = .ok (.i2l, 1) := by decide +kernel
theorem dX10_where_74 : decode cX10_where 74 = .ok (.invokevirtual 295, 3) := by decide +kernel
theorem dX10_where_77 : decode cX10_where 77 = .ok (.aload_n 3, 1) := by decide +kernel
theorem dX10_where_78 : decode cX10_where 78 = .ok (.getfield 183, 3) := by decide +kernel
theorem dX10_where_81 : decode cX10_where 81 = .ok (.iload_n 1, 1) := by decide +kernel
theorem dX10_where_82 : decode cX10_where 82 = .ok (.iaload, 1) := by decide +kernel
theorem dX10_where_83 : decode cX10_where 83 = .ok (.ireturn, 1) := by decide +kernel
theorem dX10_roadin_0 : decode cX10_roadin 0 = .ok (.iload_n 1, 1) := by decide +kernel
theorem dX10_roadin_1 : decode cX10_roadin 1 = .ok (.ifCond .lt 9, 3) := by decide +kernel
theorem dX10_roadin_4 : decode cX10_roadin 4 = .ok (.iload_n 1, 1) := by decide +kernel
theorem dX10_roadin_5 : decode cX10_roadin 5 = .ok (.bipush 100, 2) := by decide +kernel
theorem dX10_roadin_7 : decode cX10_roadin 7 = .ok (.if_icmp .le 5, 3) := by decide +kernel
theorem dX10_roadin_10 : decode cX10_roadin 10 = .ok (.iconst (-1), 1) := by decide +kernel
theorem dX10_roadin_11 : decode cX10_roadin 11 = .ok (.ireturn, 1) := by decide +kernel
theorem dX10_roadin_12 : decode cX10_roadin 12 = .ok (.aload_n 0, 1) := by decide +kernel
theorem dX10_roadin_13 : decode cX10_roadin 13 = .ok (.getfield 61, 3) := by decide +kernel
theorem dX10_roadin_16 : decode cX10_roadin 16 = .ok (.iload_n 1, 1) := by decide +kernel
theorem dX10_roadin_17 : decode cX10_roadin 17 = .ok (.invokevirtual 373, 3) := by decide +kernel
theorem dX10_roadin_20 : decode cX10_roadin 20 = .ok (.aload_n 0, 1) := by decide +kernel
theorem dX10_roadin_21 : decode cX10_roadin 21 = .ok (.getfield 42, 3) := by decide +kernel
theorem dX10_roadin_24 : decode cX10_roadin 24 = .ok (.getfield 167, 3) := by decide +kernel
theorem dX10_roadin_27 : decode cX10_roadin 27 = .ok (.invokevirtual 370, 3) := by decide +kernel
theorem dX10_roadin_30 : decode cX10_roadin 30 = .ok (.lstore_n 2, 1) := by decide +kernel
theorem dX10_roadin_31 : decode cX10_roadin 31 = .ok (.aload_n 0, 1) := by decide +kernel
theorem dX10_roadin_32 : decode cX10_roadin 32 = .ok (.getfield 19, 3) := by decide +kernel
theorem dX10_roadin_35 : decode cX10_roadin 35 = .ok (.invokevirtual 292, 3) := by decide +kernel
theorem dX10_roadin_38 : decode cX10_roadin 38 = .ok (.aload_n 0, 1) := by decide +kernel
theorem dX10_roadin_39 : decode cX10_roadin 39 = .ok (.getfield 19, 3) := by decide +kernel
theorem dX10_roadin_42 : decode cX10_roadin 42 = .ok (.lload_n 2, 1) := by decide +kernel
theorem dX10_roadin_43 : decode cX10_roadin 43 = .ok (.invokevirtual 295, 3) := by decide +kernel
theorem dX10_roadin_46 : decode cX10_roadin 46 = .ok (.aload_n 0, 1) := by decide +kernel
theorem dX10_roadin_47 : decode cX10_roadin 47 = .ok (.getfield 19, 3) := by decide +kernel
theorem dX10_roadin_50 : decode cX10_roadin 50 = .ok (.aload_n 0, 1) := by decide +kernel
theorem dX10_roadin_51 : decode cX10_roadin 51 = .ok (.invokevirtual 335, 3) := by decide +kernel
theorem dX10_roadin_54 : decode cX10_roadin 54 = .ok (.lload_n 2, 1) := by decide +kernel
theorem dX10_roadin_55 : decode cX10_roadin 55 = .ok (.ldc2_w 347, 3) := by decide +kernel
theorem dX10_roadin_58 : decode cX10_roadin 58 = .ok (.lxor, 1) := by decide +kernel
theorem dX10_roadin_59 : decode cX10_roadin 59 = .ok (.land, 1) := by decide +kernel
theorem dX10_roadin_60 : decode cX10_roadin 60 = .ok (.invokevirtual 295, 3) := by decide +kernel
theorem dX10_roadin_63 : decode cX10_roadin 63 = .ok (.lload_n 2, 1) := by decide +kernel
theorem dX10_roadin_64 : decode cX10_roadin 64 = .ok (.invokestatic 349, 3) := by decide +kernel
theorem dX10_roadin_67 : decode cX10_roadin 67 = .ok (.ireturn, 1) := by decide +kernel
theorem dX10_market_0 : decode cX10_market 0 = .ok (.aload_n 0, 1) := by decide +kernel
theorem dX10_market_1 : decode cX10_market 1 = .ok (.getfield 26, 3) := by decide +kernel
theorem dX10_market_4 : decode cX10_market 4 = .ok (.iload_n 1, 1) := by decide +kernel
theorem dX10_market_5 : decode cX10_market 5 = .ok (.invokevirtual 135, 3) := by decide +kernel
theorem dX10_market_8 : decode cX10_market 8 = .ok (.ifCond .eq 14, 3) := by decide +kernel
theorem dX10_market_11 : decode cX10_market 11 = .ok (.iload_n 2, 1) := by decide +kernel
theorem dX10_market_12 : decode cX10_market 12 = .ok (.iconst 1, 1) := by decide +kernel
theorem dX10_market_13 : decode cX10_market 13 = .ok (.if_icmp .lt 9, 3) := by decide +kernel
theorem dX10_market_16 : decode cX10_market 16 = .ok (.iload_n 2, 1) := by decide +kernel
theorem dX10_market_17 : decode cX10_market 17 = .ok (.bipush 100, 2) := by decide +kernel
theorem dX10_market_19 : decode cX10_market 19 = .ok (.if_icmp .le 5, 3) := by decide +kernel
theorem dX10_market_22 : decode cX10_market 22 = .ok (.iconst (-1), 1) := by decide +kernel
theorem dX10_market_23 : decode cX10_market 23 = .ok (.ireturn, 1) := by decide +kernel
theorem dX10_market_24 : decode cX10_market 24 = .ok (.aload_n 0, 1) := by decide +kernel
theorem dX10_market_25 : decode cX10_market 25 = .ok (.getfield 61, 3) := by decide +kernel
theorem dX10_market_28 : decode cX10_market 28 = .ok (.invokevirtual 377, 3) := by decide +kernel
theorem dX10_market_31 : decode cX10_market 31 = .ok (.astore_n 3, 1) := by decide +kernel
theorem dX10_market_32 : decode cX10_market 32 = .ok (.iconst 0, 1) := by decide +kernel
theorem dX10_market_33 : decode cX10_market 33 = .ok (.istore 4, 2) := by decide +kernel
theorem dX10_market_35 : decode cX10_market 35 = .ok (.iconst (-1), 1) := by decide +kernel
theorem dX10_market_36 : decode cX10_market 36 = .ok (.istore 5, 2) := by decide +kernel
theorem dX10_market_38 : decode cX10_market 38 = .ok (.iconst (-1), 1) := by decide +kernel
theorem dX10_market_39 : decode cX10_market 39 = .ok (.istore 6, 2) := by decide +kernel
theorem dX10_market_41 : decode cX10_market 41 = .ok (.iconst 0, 1) := by decide +kernel
theorem dX10_market_42 : decode cX10_market 42 = .ok (.istore 7, 2) := by decide +kernel
theorem dX10_market_44 : decode cX10_market 44 = .ok (.iconst 0, 1) := by decide +kernel
theorem dX10_market_45 : decode cX10_market 45 = .ok (.istore 8, 2) := by decide +kernel
theorem dX10_market_47 : decode cX10_market 47 = .ok (.iconst 1, 1) := by decide +kernel
theorem dX10_market_48 : decode cX10_market 48 = .ok (.istore 9, 2) := by decide +kernel
theorem dX10_market_50 : decode cX10_market 50 = .ok (.iload 9, 2) := by decide +kernel
theorem dX10_market_52 : decode cX10_market 52 = .ok (.iload_n 2, 1) := by decide +kernel
theorem dX10_market_53 : decode cX10_market 53 = .ok (.if_icmp .gt 73, 3) := by decide +kernel
theorem dX10_market_56 : decode cX10_market 56 = .ok (.aload_n 0, 1) := by decide +kernel
theorem dX10_market_57 : decode cX10_market 57 = .ok (.getfield 42, 3) := by decide +kernel
theorem dX10_market_60 : decode cX10_market 60 = .ok (.aload_n 3, 1) := by decide +kernel
theorem dX10_market_61 : decode cX10_market 61 = .ok (.invokevirtual 269, 3) := by decide +kernel
theorem dX10_market_64 : decode cX10_market 64 = .ok (.pop, 1) := by decide +kernel
theorem dX10_market_65 : decode cX10_market 65 = .ok (.aload_n 3, 1) := by decide +kernel
theorem dX10_market_66 : decode cX10_market 66 = .ok (.iload_n 1, 1) := by decide +kernel
theorem dX10_market_67 : decode cX10_market 67 = .ok (.aload_n 0, 1) := by decide +kernel
theorem dX10_market_68 : decode cX10_market 68 = .ok (.getfield 42, 3) := by decide +kernel
theorem dX10_market_71 : decode cX10_market 71 = .ok (.getfield 167, 3) := by decide +kernel
theorem dX10_market_74 : decode cX10_market 74 = .ok (.invokevirtual 170, 3) := by decide +kernel
theorem dX10_market_77 : decode cX10_market 77 = .ok (.ifCond .eq 40, 3) := by decide +kernel
theorem dX10_market_80 : decode cX10_market 80 = .ok (.iinc 4 1, 3) := by decide +kernel
theorem dX10_market_83 : decode cX10_market 83 = .ok (.iload 5, 2) := by decide +kernel
theorem dX10_market_85 : decode cX10_market 85 = .ok (.iconst (-1), 1) := by decide +kernel
theorem dX10_market_86 : decode cX10_market 86 = .ok (.if_icmp .ne 8, 3) := by decide +kernel
theorem dX10_market_89 : decode cX10_market 89 = .ok (.iload 9, 2) := by decide +kernel
theorem dX10_market_91 : decode cX10_market 91 = .ok (.goto 5, 3) := by decide +kernel
theorem dX10_market_94 : decode cX10_market 94 = .ok (.iload 5, 2) := by decide +kernel
theorem dX10_market_96 : decode cX10_market 96 = .ok (.istore 5, 2) := by decide +kernel
theorem dX10_market_98 : decode cX10_market 98 = .ok (.iload 9, 2) := by decide +kernel
theorem dX10_market_100 : decode cX10_market 100 = .ok (.istore 6, 2) := by decide +kernel
theorem dX10_market_102 : decode cX10_market 102 = .ok (.iinc 7 1, 3) := by decide +kernel
theorem dX10_market_105 : decode cX10_market 105 = .ok (.iload 8, 2) := by decide +kernel
theorem dX10_market_107 : decode cX10_market 107 = .ok (.iload 7, 2) := by decide +kernel
theorem dX10_market_109 : decode cX10_market 109 = .ok (.invokestatic 217, 3) := by decide +kernel
theorem dX10_market_112 : decode cX10_market 112 = .ok (.istore 8, 2) := by decide +kernel
theorem dX10_market_114 : decode cX10_market 114 = .ok (.goto 6, 3) := by decide +kernel
theorem dX10_market_117 : decode cX10_market 117 = .ok (.iconst 0, 1) := by decide +kernel
theorem dX10_market_118 : decode cX10_market 118 = .ok (.istore 7, 2) := by decide +kernel
theorem dX10_market_120 : decode cX10_market 120 = .ok (.iinc 9 1, 3) := by decide +kernel
theorem dX10_market_123 : decode cX10_market 123 = .ok (.goto (-73), 3) := by decide +kernel
theorem dX10_market_126 : decode cX10_market 126 = .ok (.aload_n 0, 1) := by decide +kernel
theorem dX10_market_127 : decode cX10_market 127 = .ok (.getfield 19, 3) := by decide +kernel
theorem dX10_market_130 : decode cX10_market 130 = .ok (.invokevirtual 292, 3) := by decide +kernel
theorem dX10_market_133 : decode cX10_market 133 = .ok (.aload_n 0, 1) := by decide +kernel
theorem dX10_market_134 : decode cX10_market 134 = .ok (.getfield 19, 3) := by decide +kernel
theorem dX10_market_137 : decode cX10_market 137 = .ok (.iload 5, 2) := by decide +kernel
theorem dX10_market_139 : decode cX10_market 139 = .ok (.i2l, 1) := by decide +kernel
theorem dX10_market_140 : decode cX10_market 140 = .ok (.invokevirtual 295, 3) := by decide +kernel
theorem dX10_market_143 : decode cX10_market 143 = .ok (.aload_n 0, 1) := by decide +kernel
theorem dX10_market_144 : decode cX10_market 144 = .ok (.getfield 19, 3) := by decide +kernel
theorem dX10_market_147 : decode cX10_market 147 = .ok (.iload 6, 2) := by decide +kernel
theorem dX10_market_149 : decode cX10_market 149 = .ok (.i2l, 1) := by decide +kernel
theorem dX10_market_150 : decode cX10_market 150 = .ok (.invokevirtual 295, 3) := by decide +kernel
theorem dX10_market_153 : decode cX10_market 153 = .ok (.aload_n 0, 1) := by decide +kernel
theorem dX10_market_154 : decode cX10_market 154 = .ok (.getfield 19, 3) := by decide +kernel
theorem dX10_market_157 : decode cX10_market 157 = .ok (.iload 8, 2) := by decide +kernel
theorem dX10_market_159 : decode cX10_market 159 = .ok (.i2l, 1) := by decide +kernel
theorem dX10_market_160 : decode cX10_market 160 = .ok (.invokevirtual 295, 3) := by decide +kernel
theorem dX10_market_163 : decode cX10_market 163 = .ok (.iload 4, 2) := by decide +kernel
theorem dX10_market_165 : decode cX10_market 165 = .ok (.ireturn, 1) := by decide +kernel
theorem dX10_trodden_0 : decode cX10_trodden 0 = .ok (.aload_n 0, 1) := by decide +kernel
theorem dX10_trodden_1 : decode cX10_trodden 1 = .ok (.getfield 26, 3) := by decide +kernel
theorem dX10_trodden_4 : decode cX10_trodden 4 = .ok (.iload_n 1, 1) := by decide +kernel
theorem dX10_trodden_5 : decode cX10_trodden 5 = .ok (.invokevirtual 135, 3) := by decide +kernel
theorem dX10_trodden_8 : decode cX10_trodden 8 = .ok (.ifCond .ne 5, 3) := by decide +kernel
theorem dX10_trodden_11 : decode cX10_trodden 11 = .ok (.iconst (-1), 1) := by decide +kernel
theorem dX10_trodden_12 : decode cX10_trodden 12 = .ok (.ireturn, 1) := by decide +kernel
theorem dX10_trodden_13 : decode cX10_trodden 13 = .ok (.aload_n 0, 1) := by decide +kernel
theorem dX10_trodden_14 : decode cX10_trodden 14 = .ok (.getfield 61, 3) := by decide +kernel
theorem dX10_trodden_17 : decode cX10_trodden 17 = .ok (.invokevirtual 377, 3) := by decide +kernel
theorem dX10_trodden_20 : decode cX10_trodden 20 = .ok (.astore_n 2, 1) := by decide +kernel
theorem dX10_trodden_21 : decode cX10_trodden 21 = .ok (.aload_n 2, 1) := by decide +kernel
theorem dX10_trodden_22 : decode cX10_trodden 22 = .ok (.iload_n 1, 1) := by decide +kernel
theorem dX10_trodden_23 : decode cX10_trodden 23 = .ok (.invokevirtual 174, 3) := by decide +kernel
theorem dX10_trodden_26 : decode cX10_trodden 26 = .ok (.ifCond .eq 7, 3) := by decide +kernel
theorem dX10_trodden_29 : decode cX10_trodden 29 = .ok (.iconst 0, 1) := by decide +kernel
theorem dX10_trodden_30 : decode cX10_trodden 30 = .ok (.goto 13, 3) := by decide +kernel
theorem dX10_trodden_33 : decode cX10_trodden 33 = .ok (.aload_n 0, 1) := by decide +kernel
theorem dX10_trodden_34 : decode cX10_trodden 34 = .ok (.getfield 61, 3) := by decide +kernel
theorem dX10_trodden_37 : decode cX10_trodden 37 = .ok (.iload_n 1, 1) := by decide +kernel
theorem dX10_trodden_38 : decode cX10_trodden 38 = .ok (.bipush 100, 2) := by decide +kernel
theorem dX10_trodden_40 : decode cX10_trodden 40 = .ok (.invokevirtual 380, 3) := by decide +kernel
theorem dX10_trodden_43 : decode cX10_trodden 43 = .ok (.istore_n 3, 1) := by decide +kernel
theorem dX10_trodden_44 : decode cX10_trodden 44 = .ok (.iload_n 3, 1) := by decide +kernel
theorem dX10_trodden_45 : decode cX10_trodden 45 = .ok (.iconst (-1), 1) := by decide +kernel
theorem dX10_trodden_46 : decode cX10_trodden 46 = .ok (.if_icmp .ne 6, 3) := by decide +kernel
theorem dX10_trodden_49 : decode cX10_trodden 49 = .ok (.bipush (-2), 2) := by decide +kernel
theorem dX10_trodden_51 : decode cX10_trodden 51 = .ok (.ireturn, 1) := by decide +kernel
theorem dX10_trodden_52 : decode cX10_trodden 52 = .ok (.aload_n 0, 1) := by decide +kernel
theorem dX10_trodden_53 : decode cX10_trodden 53 = .ok (.getfield 19, 3) := by decide +kernel
theorem dX10_trodden_56 : decode cX10_trodden 56 = .ok (.invokevirtual 292, 3) := by decide +kernel
theorem dX10_trodden_59 : decode cX10_trodden 59 = .ok (.aload_n 0, 1) := by decide +kernel
theorem dX10_trodden_60 : decode cX10_trodden 60 = .ok (.getfield 19, 3) := by decide +kernel
theorem dX10_trodden_63 : decode cX10_trodden 63 = .ok (.aload_n 2, 1) := by decide +kernel
theorem dX10_trodden_64 : decode cX10_trodden 64 = .ok (.iload_n 1, 1) := by decide +kernel
theorem dX10_trodden_65 : decode cX10_trodden 65 = .ok (.invokevirtual 383, 3) := by decide +kernel
theorem dX10_trodden_68 : decode cX10_trodden 68 = .ok (.i2l, 1) := by decide +kernel
theorem dX10_trodden_69 : decode cX10_trodden 69 = .ok (.invokevirtual 295, 3) := by decide +kernel
theorem dX10_trodden_72 : decode cX10_trodden 72 = .ok (.iload_n 3, 1) := by decide +kernel
theorem dX10_trodden_73 : decode cX10_trodden 73 = .ok (.ireturn, 1) := by decide +kernel
theorem dX10_meets_0 : decode cX10_meets 0 = .ok (.aload_n 0, 1) := by decide +kernel
theorem dX10_meets_1 : decode cX10_meets 1 = .ok (.getfield 61, 3) := by decide +kernel
theorem dX10_meets_4 : decode cX10_meets 4 = .ok (.invokevirtual 377, 3) := by decide +kernel
theorem dX10_meets_7 : decode cX10_meets 7 = .ok (.astore_n 1, 1) := by decide +kernel
theorem dX10_meets_8 : decode cX10_meets 8 = .ok (.iconst 0, 1) := by decide +kernel
theorem dX10_meets_9 : decode cX10_meets 9 = .ok (.istore_n 2, 1) := by decide +kernel
theorem dX10_meets_10 : decode cX10_meets 10 = .ok (.iload_n 2, 1) := by decide +kernel
theorem dX10_meets_11 : decode cX10_meets 11 = .ok (.bipush 100, 2) := by decide +kernel
theorem dX10_meets_13 : decode cX10_meets 13 = .ok (.if_icmp .gt 56, 3) := by decide +kernel
theorem dX10_meets_16 : decode cX10_meets 16 = .ok (.iload_n 2, 1) := by decide +kernel
theorem dX10_meets_17 : decode cX10_meets 17 = .ok (.ifCond .le 12, 3) := by decide +kernel
theorem dX10_meets_20 : decode cX10_meets 20 = .ok (.aload_n 0, 1) := by decide +kernel
theorem dX10_meets_21 : decode cX10_meets 21 = .ok (.getfield 42, 3) := by decide +kernel
theorem dX10_meets_24 : decode cX10_meets 24 = .ok (.aload_n 1, 1) := by decide +kernel
theorem dX10_meets_25 : decode cX10_meets 25 = .ok (.invokevirtual 269, 3) := by decide +kernel
theorem dX10_meets_28 : decode cX10_meets 28 = .ok (.pop, 1) := by decide +kernel
theorem dX10_meets_29 : decode cX10_meets 29 = .ok (.aload_n 1, 1) := by decide +kernel
theorem dX10_meets_30 : decode cX10_meets 30 = .ok (.aload_n 0, 1) := by decide +kernel
theorem dX10_meets_31 : decode cX10_meets 31 = .ok (.getfield 42, 3) := by decide +kernel
theorem dX10_meets_34 : decode cX10_meets 34 = .ok (.getfield 167, 3) := by decide +kernel
theorem dX10_meets_37 : decode cX10_meets 37 = .ok (.invokevirtual 367, 3) := by decide +kernel
theorem dX10_meets_40 : decode cX10_meets 40 = .ok (.istore_n 3, 1) := by decide +kernel
theorem dX10_meets_41 : decode cX10_meets 41 = .ok (.iload_n 3, 1) := by decide +kernel
theorem dX10_meets_42 : decode cX10_meets 42 = .ok (.ifCond .le 21, 3) := by decide +kernel
theorem dX10_meets_45 : decode cX10_meets 45 = .ok (.aload_n 0, 1) := by decide +kernel
theorem dX10_meets_46 : decode cX10_meets 46 = .ok (.getfield 19, 3) := by decide +kernel
theorem dX10_meets_49 : decode cX10_meets 49 = .ok (.invokevirtual 292, 3) := by decide +kernel
theorem dX10_meets_52 : decode cX10_meets 52 = .ok (.aload_n 0, 1) := by decide +kernel
theorem dX10_meets_53 : decode cX10_meets 53 = .ok (.getfield 19, 3) := by decide +kernel
theorem dX10_meets_56 : decode cX10_meets 56 = .ok (.iload_n 3, 1) := by decide +kernel
theorem dX10_meets_57 : decode cX10_meets 57 = .ok (.i2l, 1) := by decide +kernel
theorem dX10_meets_58 : decode cX10_meets 58 = .ok (.invokevirtual 295, 3) := by decide +kernel
theorem dX10_meets_61 : decode cX10_meets 61 = .ok (.iload_n 2, 1) := by decide +kernel
theorem dX10_meets_62 : decode cX10_meets 62 = .ok (.ireturn, 1) := by decide +kernel
theorem dX10_meets_63 : decode cX10_meets 63 = .ok (.iinc 2 1, 3) := by decide +kernel
theorem dX10_meets_66 : decode cX10_meets 66 = .ok (.goto (-56), 3) := by decide +kernel
theorem dX10_meets_69 : decode cX10_meets 69 = .ok (.bipush (-2), 2) := by decide +kernel
theorem dX10_meets_71 : decode cX10_meets 71 = .ok (.ireturn, 1) := by decide +kernel
theorem dX10_round_0 : decode cX10_round 0 = .ok (.aload_n 0, 1) := by decide +kernel
theorem dX10_round_1 : decode cX10_round 1 = .ok (.getfield 49, 3) := by decide +kernel
theorem dX10_round_4 : decode cX10_round 4 = .ok (.iload_n 1, 1) := by decide +kernel
theorem dX10_round_5 : decode cX10_round 5 = .ok (.invokevirtual 178, 3) := by decide +kernel
theorem dX10_round_8 : decode cX10_round 8 = .ok (.ifCond .ne 5, 3) := by decide +kernel
theorem dX10_round_11 : decode cX10_round 11 = .ok (.iconst (-1), 1) := by decide +kernel
theorem dX10_round_12 : decode cX10_round 12 = .ok (.ireturn, 1) := by decide +kernel
theorem dX10_round_13 : decode cX10_round 13 = .ok (.aload_n 0, 1) := by decide +kernel
theorem dX10_round_14 : decode cX10_round 14 = .ok (.getfield 61, 3) := by decide +kernel
theorem dX10_round_17 : decode cX10_round 17 = .ok (.iload_n 1, 1) := by decide +kernel
theorem dX10_round_18 : decode cX10_round 18 = .ok (.invokevirtual 386, 3) := by decide +kernel
theorem dX10_round_21 : decode cX10_round 21 = .ok (.istore_n 2, 1) := by decide +kernel
theorem dX10_round_22 : decode cX10_round 22 = .ok (.iload_n 2, 1) := by decide +kernel
theorem dX10_round_23 : decode cX10_round 23 = .ok (.iconst (-1), 1) := by decide +kernel
theorem dX10_round_24 : decode cX10_round 24 = .ok (.if_icmp .ne 5, 3) := by decide +kernel
theorem dX10_round_27 : decode cX10_round 27 = .ok (.iconst (-1), 1) := by decide +kernel
theorem dX10_round_28 : decode cX10_round 28 = .ok (.ireturn, 1) := by decide +kernel
theorem dX10_round_29 : decode cX10_round 29 = .ok (.aload_n 0, 1) := by decide +kernel
theorem dX10_round_30 : decode cX10_round 30 = .ok (.getfield 61, 3) := by decide +kernel
theorem dX10_round_33 : decode cX10_round 33 = .ok (.getfield 389, 3) := by decide +kernel
theorem dX10_round_36 : decode cX10_round 36 = .ok (.getfield 183, 3) := by decide +kernel
theorem dX10_round_39 : decode cX10_round 39 = .ok (.iload_n 1, 1) := by decide +kernel
theorem dX10_round_40 : decode cX10_round 40 = .ok (.iaload, 1) := by decide +kernel
theorem dX10_round_41 : decode cX10_round 41 = .ok (.istore_n 3, 1) := by decide +kernel
theorem dX10_round_42 : decode cX10_round 42 = .ok (.aload_n 0, 1) := by decide +kernel
theorem dX10_round_43 : decode cX10_round 43 = .ok (.getfield 19, 3) := by decide +kernel
theorem dX10_round_46 : decode cX10_round 46 = .ok (.invokevirtual 292, 3) := by decide +kernel
theorem dX10_round_49 : decode cX10_round 49 = .ok (.aload_n 0, 1) := by decide +kernel
theorem dX10_round_50 : decode cX10_round 50 = .ok (.getfield 19, 3) := by decide +kernel
theorem dX10_round_53 : decode cX10_round 53 = .ok (.iload_n 3, 1) := by decide +kernel
theorem dX10_round_54 : decode cX10_round 54 = .ok (.i2l, 1) := by decide +kernel
theorem dX10_round_55 : decode cX10_round 55 = .ok (.invokevirtual 295, 3) := by decide +kernel
theorem dX10_round_58 : decode cX10_round 58 = .ok (.aload_n 0, 1) := by decide +kernel
theorem dX10_round_59 : decode cX10_round 59 = .ok (.getfield 19, 3) := by decide +kernel
theorem dX10_round_62 : decode cX10_round 62 = .ok (.iload_n 2, 1) := by decide +kernel
theorem dX10_round_63 : decode cX10_round 63 = .ok (.aload_n 0, 1) := by decide +kernel
theorem dX10_round_64 : decode cX10_round 64 = .ok (.getfield 61, 3) := by decide +kernel
theorem dX10_round_67 : decode cX10_round 67 = .ok (.getfield 392, 3) := by decide +kernel
theorem dX10_round_70 : decode cX10_round 70 = .ok (.iload_n 3, 1) := by decide +kernel
theorem dX10_round_71 : decode cX10_round 71 = .ok (.iaload, 1) := by decide +kernel
theorem dX10_round_72 : decode cX10_round 72 = .ok (.isub, 1) := by decide +kernel
theorem dX10_round_73 : decode cX10_round 73 = .ok (.i2l, 1) := by decide +kernel
theorem dX10_round_74 : decode cX10_round 74 = .ok (.invokevirtual 295, 3) := by decide +kernel
theorem dX10_round_77 : decode cX10_round 77 = .ok (.iload_n 2, 1) := by decide +kernel
theorem dX10_round_78 : decode cX10_round 78 = .ok (.ireturn, 1) := by decide +kernel
theorem dX10_lure_0 : decode cX10_lure 0 = .ok (.aload_n 0, 1) := by decide +kernel
theorem dX10_lure_1 : decode cX10_lure 1 = .ok (.getfield 26, 3) := by decide +kernel
theorem dX10_lure_4 : decode cX10_lure 4 = .ok (.iload_n 1, 1) := by decide +kernel
theorem dX10_lure_5 : decode cX10_lure 5 = .ok (.invokevirtual 135, 3) := by decide +kernel
theorem dX10_lure_8 : decode cX10_lure 8 = .ok (.ifCond .eq 14, 3) := by decide +kernel
theorem dX10_lure_11 : decode cX10_lure 11 = .ok (.iload_n 2, 1) := by decide +kernel
theorem dX10_lure_12 : decode cX10_lure 12 = .ok (.iconst 1, 1) := by decide +kernel
theorem dX10_lure_13 : decode cX10_lure 13 = .ok (.if_icmp .lt 9, 3) := by decide +kernel
theorem dX10_lure_16 : decode cX10_lure 16 = .ok (.iload_n 2, 1) := by decide +kernel
theorem dX10_lure_17 : decode cX10_lure 17 = .ok (.bipush 100, 2) := by decide +kernel
theorem dX10_lure_19 : decode cX10_lure 19 = .ok (.if_icmp .le 5, 3) := by decide +kernel
theorem dX10_lure_22 : decode cX10_lure 22 = .ok (.iconst (-1), 1) := by decide +kernel
theorem dX10_lure_23 : decode cX10_lure 23 = .ok (.ireturn, 1) := by decide +kernel
theorem dX10_lure_24 : decode cX10_lure 24 = .ok (.aload_n 0, 1) := by decide +kernel
theorem dX10_lure_25 : decode cX10_lure 25 = .ok (.getfield 61, 3) := by decide +kernel
theorem dX10_lure_28 : decode cX10_lure 28 = .ok (.invokevirtual 377, 3) := by decide +kernel
theorem dX10_lure_31 : decode cX10_lure 31 = .ok (.pop, 1) := by decide +kernel
theorem dX10_lure_32 : decode cX10_lure 32 = .ok (.aload_n 0, 1) := by decide +kernel
theorem dX10_lure_33 : decode cX10_lure 33 = .ok (.getfield 49, 3) := by decide +kernel
theorem dX10_lure_36 : decode cX10_lure 36 = .ok (.iload_n 1, 1) := by decide +kernel
theorem dX10_lure_37 : decode cX10_lure 37 = .ok (.invokevirtual 174, 3) := by decide +kernel
theorem dX10_lure_40 : decode cX10_lure 40 = .ok (.ifCond .ne 16, 3) := by decide +kernel
theorem dX10_lure_43 : decode cX10_lure 43 = .ok (.aload_n 0, 1) := by decide +kernel
theorem dX10_lure_44 : decode cX10_lure 44 = .ok (.getfield 61, 3) := by decide +kernel
theorem dX10_lure_47 : decode cX10_lure 47 = .ok (.iload_n 1, 1) := by decide +kernel
theorem dX10_lure_48 : decode cX10_lure 48 = .ok (.iload_n 2, 1) := by decide +kernel
theorem dX10_lure_49 : decode cX10_lure 49 = .ok (.invokevirtual 380, 3) := by decide +kernel
theorem dX10_lure_52 : decode cX10_lure 52 = .ok (.iconst (-1), 1) := by decide +kernel
theorem dX10_lure_53 : decode cX10_lure 53 = .ok (.if_icmp .eq 7, 3) := by decide +kernel
theorem dX10_lure_56 : decode cX10_lure 56 = .ok (.iconst 1, 1) := by decide +kernel
theorem dX10_lure_57 : decode cX10_lure 57 = .ok (.goto 4, 3) := by decide +kernel
theorem dX10_lure_60 : decode cX10_lure 60 = .ok (.iconst 0, 1) := by decide +kernel
theorem dX10_lure_61 : decode cX10_lure 61 = .ok (.istore_n 3, 1) := by decide +kernel
theorem dX10_lure_62 : decode cX10_lure 62 = .ok (.iload_n 3, 1) := by decide +kernel
theorem dX10_lure_63 : decode cX10_lure 63 = .ok (.ifCond .eq 7, 3) := by decide +kernel
theorem dX10_lure_66 : decode cX10_lure 66 = .ok (.iconst 0, 1) := by decide +kernel
theorem dX10_lure_67 : decode cX10_lure 67 = .ok (.goto 12, 3) := by decide +kernel
theorem dX10_lure_70 : decode cX10_lure 70 = .ok (.aload_n 0, 1) := by decide +kernel
theorem dX10_lure_71 : decode cX10_lure 71 = .ok (.getfield 61, 3) := by decide +kernel
theorem dX10_lure_74 : decode cX10_lure 74 = .ok (.iload_n 1, 1) := by decide +kernel
theorem dX10_lure_75 : decode cX10_lure 75 = .ok (.iload_n 2, 1) := by decide +kernel
theorem dX10_lure_76 : decode cX10_lure 76 = .ok (.invokevirtual 395, 3) := by decide +kernel
theorem dX10_lure_79 : decode cX10_lure 79 = .ok (.istore 4, 2) := by decide +kernel
theorem dX10_lure_81 : decode cX10_lure 81 = .ok (.iload 4, 2) := by decide +kernel
theorem dX10_lure_83 : decode cX10_lure 83 = .ok (.bipush (-2), 2) := by decide +kernel
theorem dX10_lure_85 : decode cX10_lure 85 = .ok (.if_icmp .eq 35, 3) := by decide +kernel
theorem dX10_lure_88 : decode cX10_lure 88 = .ok (.aload_n 0, 1) := by decide +kernel
theorem dX10_lure_89 : decode cX10_lure 89 = .ok (.getfield 19, 3) := by decide +kernel
theorem dX10_lure_92 : decode cX10_lure 92 = .ok (.invokevirtual 292, 3) := by decide +kernel
theorem dX10_lure_95 : decode cX10_lure 95 = .ok (.aload_n 0, 1) := by decide +kernel
theorem dX10_lure_96 : decode cX10_lure 96 = .ok (.getfield 19, 3) := by decide +kernel
theorem dX10_lure_99 : decode cX10_lure 99 = .ok (.iload_n 3, 1) := by decide +kernel
theorem dX10_lure_100 : decode cX10_lure 100 = .ok (.ifCond .eq 9, 3) := by decide +kernel
theorem dX10_lure_103 : decode cX10_lure 103 = .ok (.ldc2_w 347, 3) := by decide +kernel
theorem dX10_lure_106 : decode cX10_lure 106 = .ok (.goto 11, 3) := by decide +kernel
theorem dX10_lure_109 : decode cX10_lure 109 = .ok (.aload_n 0, 1) := by decide +kernel
theorem dX10_lure_110 : decode cX10_lure 110 = .ok (.getfield 61, 3) := by decide +kernel
theorem dX10_lure_113 : decode cX10_lure 113 = .ok (.getfield 398, 3) := by decide +kernel
theorem dX10_lure_116 : decode cX10_lure 116 = .ok (.i2l, 1) := by decide +kernel
theorem dX10_lure_117 : decode cX10_lure 117 = .ok (.invokevirtual 295, 3) := by decide +kernel
theorem dX10_lure_120 : decode cX10_lure 120 = .ok (.iload 4, 2) := by decide +kernel
