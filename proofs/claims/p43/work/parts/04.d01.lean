theorem dX6_copyFrom_12 : decode cX6_copyFrom 12 = .ok (.invokestatic 55, 3) := by decide +kernel
theorem dX6_copyFrom_15 : decode cX6_copyFrom 15 = .ok (.aload_n 1, 1) := by decide +kernel
theorem dX6_copyFrom_16 : decode cX6_copyFrom 16 = .ok (.getfield 15, 3) := by decide +kernel
theorem dX6_copyFrom_19 : decode cX6_copyFrom 19 = .ok (.iconst 0, 1) := by decide +kernel
theorem dX6_copyFrom_20 : decode cX6_copyFrom 20 = .ok (.aload_n 0, 1) := by decide +kernel
theorem dX6_copyFrom_21 : decode cX6_copyFrom 21 = .ok (.getfield 15, 3) := by decide +kernel
theorem dX6_copyFrom_24 : decode cX6_copyFrom 24 = .ok (.iconst 0, 1) := by decide +kernel
theorem dX6_copyFrom_25 : decode cX6_copyFrom 25 = .ok (.bipush 64, 2) := by decide +kernel
theorem dX6_copyFrom_27 : decode cX6_copyFrom 27 = .ok (.invokestatic 55, 3) := by decide +kernel
theorem dX6_copyFrom_30 : decode cX6_copyFrom 30 = .ok (.aload_n 1, 1) := by decide +kernel
theorem dX6_copyFrom_31 : decode cX6_copyFrom 31 = .ok (.getfield 18, 3) := by decide +kernel
theorem dX6_copyFrom_34 : decode cX6_copyFrom 34 = .ok (.iconst 0, 1) := by decide +kernel
theorem dX6_copyFrom_35 : decode cX6_copyFrom 35 = .ok (.aload_n 0, 1) := by decide +kernel
theorem dX6_copyFrom_36 : decode cX6_copyFrom 36 = .ok (.getfield 18, 3) := by decide +kernel
theorem dX6_copyFrom_39 : decode cX6_copyFrom 39 = .ok (.iconst 0, 1) := by decide +kernel
theorem dX6_copyFrom_40 : decode cX6_copyFrom 40 = .ok (.bipush 64, 2) := by decide +kernel
theorem dX6_copyFrom_42 : decode cX6_copyFrom 42 = .ok (.invokestatic 55, 3) := by decide +kernel
theorem dX6_copyFrom_45 : decode cX6_copyFrom 45 = .ok (.aload_n 1, 1) := by decide +kernel
theorem dX6_copyFrom_46 : decode cX6_copyFrom 46 = .ok (.getfield 21, 3) := by decide +kernel
theorem dX6_copyFrom_49 : decode cX6_copyFrom 49 = .ok (.iconst 0, 1) := by decide +kernel
theorem dX6_copyFrom_50 : decode cX6_copyFrom 50 = .ok (.aload_n 0, 1) := by decide +kernel
theorem dX6_copyFrom_51 : decode cX6_copyFrom 51 = .ok (.getfield 21, 3) := by decide +kernel
theorem dX6_copyFrom_54 : decode cX6_copyFrom 54 = .ok (.iconst 0, 1) := by decide +kernel
theorem dX6_copyFrom_55 : decode cX6_copyFrom 55 = .ok (.bipush 64, 2) := by decide +kernel
theorem dX6_copyFrom_57 : decode cX6_copyFrom 57 = .ok (.invokestatic 55, 3) := by decide +kernel
theorem dX6_copyFrom_60 : decode cX6_copyFrom 60 = .ok (.aload_n 1, 1) := by decide +kernel
theorem dX6_copyFrom_61 : decode cX6_copyFrom 61 = .ok (.getfield 24, 3) := by decide +kernel
theorem dX6_copyFrom_64 : decode cX6_copyFrom 64 = .ok (.iconst 0, 1) := by decide +kernel
theorem dX6_copyFrom_65 : decode cX6_copyFrom 65 = .ok (.aload_n 0, 1) := by decide +kernel
theorem dX6_copyFrom_66 : decode cX6_copyFrom 66 = .ok (.getfield 24, 3) := by decide +kernel
theorem dX6_copyFrom_69 : decode cX6_copyFrom 69 = .ok (.iconst 0, 1) := by decide +kernel
theorem dX6_copyFrom_70 : decode cX6_copyFrom 70 = .ok (.bipush 64, 2) := by decide +kernel
theorem dX6_copyFrom_72 : decode cX6_copyFrom 72 = .ok (.invokestatic 55, 3) := by decide +kernel
theorem dX6_copyFrom_75 : decode cX6_copyFrom 75 = .ok (.aload_n 1, 1) := by decide +kernel
theorem dX6_copyFrom_76 : decode cX6_copyFrom 76 = .ok (.getfield 27, 3) := by decide +kernel
theorem dX6_copyFrom_79 : decode cX6_copyFrom 79 = .ok (.iconst 0, 1) := by decide +kernel
theorem dX6_copyFrom_80 : decode cX6_copyFrom 80 = .ok (.aload_n 0, 1) := by decide +kernel
theorem dX6_copyFrom_81 : decode cX6_copyFrom 81 = .ok (.getfield 27, 3) := by decide +kernel
theorem dX6_copyFrom_84 : decode cX6_copyFrom 84 = .ok (.iconst 0, 1) := by decide +kernel
theorem dX6_copyFrom_85 : decode cX6_copyFrom 85 = .ok (.bipush 6, 2) := by decide +kernel
theorem dX6_copyFrom_87 : decode cX6_copyFrom 87 = .ok (.invokestatic 55, 3) := by decide +kernel
theorem dX6_copyFrom_90 : decode cX6_copyFrom 90 = .ok (.aload_n 1, 1) := by decide +kernel
theorem dX6_copyFrom_91 : decode cX6_copyFrom 91 = .ok (.getfield 30, 3) := by decide +kernel
theorem dX6_copyFrom_94 : decode cX6_copyFrom 94 = .ok (.iconst 0, 1) := by decide +kernel
theorem dX6_copyFrom_95 : decode cX6_copyFrom 95 = .ok (.aload_n 0, 1) := by decide +kernel
theorem dX6_copyFrom_96 : decode cX6_copyFrom 96 = .ok (.getfield 30, 3) := by decide +kernel
theorem dX6_copyFrom_99 : decode cX6_copyFrom 99 = .ok (.iconst 0, 1) := by decide +kernel
theorem dX6_copyFrom_100 : decode cX6_copyFrom 100 = .ok (.bipush 6, 2) := by decide +kernel
theorem dX6_copyFrom_102 : decode cX6_copyFrom 102 = .ok (.invokestatic 55, 3) := by decide +kernel
theorem dX6_copyFrom_105 : decode cX6_copyFrom 105 = .ok (.aload_n 0, 1) := by decide +kernel
theorem dX6_copyFrom_106 : decode cX6_copyFrom 106 = .ok (.aload_n 1, 1) := by decide +kernel
theorem dX6_copyFrom_107 : decode cX6_copyFrom 107 = .ok (.getfield 39, 3) := by decide +kernel
theorem dX6_copyFrom_110 : decode cX6_copyFrom 110 = .ok (.putfield 39, 3) := by decide +kernel
theorem dX6_copyFrom_113 : decode cX6_copyFrom 113 = .ok (.aload_n 0, 1) := by decide +kernel
theorem dX6_copyFrom_114 : decode cX6_copyFrom 114 = .ok (.aload_n 1, 1) := by decide +kernel
theorem dX6_copyFrom_115 : decode cX6_copyFrom 115 = .ok (.getfield 43, 3) := by decide +kernel
theorem dX6_copyFrom_118 : decode cX6_copyFrom 118 = .ok (.putfield 43, 3) := by decide +kernel
theorem dX6_copyFrom_121 : decode cX6_copyFrom 121 = .ok (.aload_n 0, 1) := by decide +kernel
theorem dX6_copyFrom_122 : decode cX6_copyFrom 122 = .ok (.aload_n 1, 1) := by decide +kernel
theorem dX6_copyFrom_123 : decode cX6_copyFrom 123 = .ok (.getfield 46, 3) := by decide +kernel
theorem dX6_copyFrom_126 : decode cX6_copyFrom 126 = .ok (.putfield 46, 3) := by decide +kernel
theorem dX6_copyFrom_129 : decode cX6_copyFrom 129 = .ok (.aload_n 0, 1) := by decide +kernel
theorem dX6_copyFrom_130 : decode cX6_copyFrom 130 = .ok (.aload_n 1, 1) := by decide +kernel
theorem dX6_copyFrom_131 : decode cX6_copyFrom 131 = .ok (.getfield 49, 3) := by decide +kernel
theorem dX6_copyFrom_134 : decode cX6_copyFrom 134 = .ok (.putfield 49, 3) := by decide +kernel
theorem dX6_copyFrom_137 : decode cX6_copyFrom 137 = .ok (.aload_n 0, 1) := by decide +kernel
theorem dX6_copyFrom_138 : decode cX6_copyFrom 138 = .ok (.aload_n 1, 1) := by decide +kernel
theorem dX6_copyFrom_139 : decode cX6_copyFrom 139 = .ok (.getfield 52, 3) := by decide +kernel
theorem dX6_copyFrom_142 : decode cX6_copyFrom 142 = .ok (.putfield 52, 3) := by decide +kernel
theorem dX6_copyFrom_145 : decode cX6_copyFrom 145 = .ok (.return_, 1) := by decide +kernel
theorem dX6_hasHerd_0 : decode cX6_hasHerd 0 = .ok (.iload_n 1, 1) := by decide +kernel
theorem dX6_hasHerd_1 : decode cX6_hasHerd 1 = .ok (.ifCond .lt 15, 3) := by decide +kernel
theorem dX6_hasHerd_4 : decode cX6_hasHerd 4 = .ok (.iload_n 1, 1) := by decide +kernel
theorem dX6_hasHerd_5 : decode cX6_hasHerd 5 = .ok (.aload_n 0, 1) := by decide +kernel
theorem dX6_hasHerd_6 : decode cX6_hasHerd 6 = .ok (.getfield 39, 3) := by decide +kernel
theorem dX6_hasHerd_9 : decode cX6_hasHerd 9 = .ok (.if_icmp .ge 7, 3) := by decide +kernel
theorem dX6_hasHerd_12 : decode cX6_hasHerd 12 = .ok (.iconst 1, 1) := by decide +kernel
theorem dX6_hasHerd_13 : decode cX6_hasHerd 13 = .ok (.goto 4, 3) := by decide +kernel
theorem dX6_hasHerd_16 : decode cX6_hasHerd 16 = .ok (.iconst 0, 1) := by decide +kernel
theorem dX6_hasHerd_17 : decode cX6_hasHerd 17 = .ok (.ireturn, 1) := by decide +kernel
theorem dX6_addHerd_0 : decode cX6_addHerd 0 = .ok (.aload_n 0, 1) := by decide +kernel
theorem dX6_addHerd_1 : decode cX6_addHerd 1 = .ok (.getfield 39, 3) := by decide +kernel
theorem dX6_addHerd_4 : decode cX6_addHerd 4 = .ok (.bipush 6, 2) := by decide +kernel
theorem dX6_addHerd_6 : decode cX6_addHerd 6 = .ok (.if_icmp .lt 4, 3) := by decide +kernel
theorem dX6_addHerd_9 : decode cX6_addHerd 9 = .ok (.return_, 1) := by decide +kernel
theorem dX6_addHerd_10 : decode cX6_addHerd 10 = .ok (.aload_n 0, 1) := by decide +kernel
theorem dX6_addHerd_11 : decode cX6_addHerd 11 = .ok (.getfield 39, 3) := by decide +kernel
theorem dX6_addHerd_14 : decode cX6_addHerd 14 = .ok (.istore 4, 2) := by decide +kernel
theorem dX6_addHerd_16 : decode cX6_addHerd 16 = .ok (.aload_n 0, 1) := by decide +kernel
theorem dX6_addHerd_17 : decode cX6_addHerd 17 = .ok (.dup, 1) := by decide +kernel
theorem dX6_addHerd_18 : decode cX6_addHerd 18 = .ok (.getfield 39, 3) := by decide +kernel
theorem dX6_addHerd_21 : decode cX6_addHerd 21 = .ok (.iconst 1, 1) := by decide +kernel
theorem dX6_addHerd_22 : decode cX6_addHerd 22 = .ok (.iadd, 1) := by decide +kernel
theorem dX6_addHerd_23 : decode cX6_addHerd 23 = .ok (.putfield 39, 3) := by decide +kernel
theorem dX6_addHerd_26 : decode cX6_addHerd 26 = .ok (.aload_n 0, 1) := by decide +kernel
theorem dX6_addHerd_27 : decode cX6_addHerd 27 = .ok (.getfield 30, 3) := by decide +kernel
theorem dX6_addHerd_30 : decode cX6_addHerd 30 = .ok (.iload 4, 2) := by decide +kernel
theorem dX6_addHerd_32 : decode cX6_addHerd 32 = .ok (.iload_n 2, 1) := by decide +kernel
theorem dX6_addHerd_33 : decode cX6_addHerd 33 = .ok (.iastore, 1) := by decide +kernel
theorem dX6_addHerd_34 : decode cX6_addHerd 34 = .ok (.aload_n 0, 1) := by decide +kernel
theorem dX6_addHerd_35 : decode cX6_addHerd 35 = .ok (.dup, 1) := by decide +kernel
theorem dX6_addHerd_36 : decode cX6_addHerd 36 = .ok (.getfield 43, 3) := by decide +kernel
theorem dX6_addHerd_39 : decode cX6_addHerd 39 = .ok (.iload_n 3, 1) := by decide +kernel
theorem dX6_addHerd_40 : decode cX6_addHerd 40 = .ok (.ifCond .eq 10, 3) := by decide +kernel
theorem dX6_addHerd_43 : decode cX6_addHerd 43 = .ok (.iconst 1, 1) := by decide +kernel
theorem dX6_addHerd_44 : decode cX6_addHerd 44 = .ok (.iload 4, 2) := by decide +kernel
theorem dX6_addHerd_46 : decode cX6_addHerd 46 = .ok (.ishl, 1) := by decide +kernel
theorem dX6_addHerd_47 : decode cX6_addHerd 47 = .ok (.goto 4, 3) := by decide +kernel
theorem dX6_addHerd_50 : decode cX6_addHerd 50 = .ok (.iconst 0, 1) := by decide +kernel
theorem dX6_addHerd_51 : decode cX6_addHerd 51 = .ok (.ior, 1) := by decide +kernel
theorem dX6_addHerd_52 : decode cX6_addHerd 52 = .ok (.putfield 43, 3) := by decide +kernel
theorem dX6_addHerd_55 : decode cX6_addHerd 55 = .ok (.aload_n 0, 1) := by decide +kernel
theorem dX6_addHerd_56 : decode cX6_addHerd 56 = .ok (.iload 4, 2) := by decide +kernel
theorem dX6_addHerd_58 : decode cX6_addHerd 58 = .ok (.iload_n 1, 1) := by decide +kernel
theorem dX6_addHerd_59 : decode cX6_addHerd 59 = .ok (.invokevirtual 61, 3) := by decide +kernel
theorem dX6_addHerd_62 : decode cX6_addHerd 62 = .ok (.aload_n 0, 1) := by decide +kernel
theorem dX6_addHerd_63 : decode cX6_addHerd 63 = .ok (.dup, 1) := by decide +kernel
theorem dX6_addHerd_64 : decode cX6_addHerd 64 = .ok (.getfield 46, 3) := by decide +kernel
theorem dX6_addHerd_67 : decode cX6_addHerd 67 = .ok (.iconst 1, 1) := by decide +kernel
theorem dX6_addHerd_68 : decode cX6_addHerd 68 = .ok (.iload 4, 2) := by decide +kernel
theorem dX6_addHerd_70 : decode cX6_addHerd 70 = .ok (.ishl, 1) := by decide +kernel
theorem dX6_addHerd_71 : decode cX6_addHerd 71 = .ok (.ior, 1) := by decide +kernel
theorem dX6_addHerd_72 : decode cX6_addHerd 72 = .ok (.putfield 46, 3) := by decide +kernel
theorem dX6_addHerd_75 : decode cX6_addHerd 75 = .ok (.return_, 1) := by decide +kernel
theorem dX6_tread_0 : decode cX6_tread 0 = .ok (.aload_n 0, 1) := by decide +kernel
theorem dX6_tread_1 : decode cX6_tread 1 = .ok (.getfield 27, 3) := by decide +kernel
theorem dX6_tread_4 : decode cX6_tread 4 = .ok (.iload_n 1, 1) := by decide +kernel
theorem dX6_tread_5 : decode cX6_tread 5 = .ok (.iload_n 2, 1) := by decide +kernel
theorem dX6_tread_6 : decode cX6_tread 6 = .ok (.iastore, 1) := by decide +kernel
theorem dX6_tread_7 : decode cX6_tread 7 = .ok (.aload_n 0, 1) := by decide +kernel
theorem dX6_tread_8 : decode cX6_tread 8 = .ok (.getfield 21, 3) := by decide +kernel
theorem dX6_tread_11 : decode cX6_tread 11 = .ok (.iload_n 2, 1) := by decide +kernel
theorem dX6_tread_12 : decode cX6_tread 12 = .ok (.aload_n 0, 1) := by decide +kernel
theorem dX6_tread_13 : decode cX6_tread 13 = .ok (.getfield 52, 3) := by decide +kernel
theorem dX6_tread_16 : decode cX6_tread 16 = .ok (.iastore, 1) := by decide +kernel
theorem dX6_tread_17 : decode cX6_tread 17 = .ok (.aload_n 0, 1) := by decide +kernel
theorem dX6_tread_18 : decode cX6_tread 18 = .ok (.getfield 24, 3) := by decide +kernel
theorem dX6_tread_21 : decode cX6_tread 21 = .ok (.iload_n 2, 1) := by decide +kernel
theorem dX6_tread_22 : decode cX6_tread 22 = .ok (.iload_n 1, 1) := by decide +kernel
theorem dX6_tread_23 : decode cX6_tread 23 = .ok (.iastore, 1) := by decide +kernel
theorem dX6_tread_24 : decode cX6_tread 24 = .ok (.aload_n 0, 1) := by decide +kernel
theorem dX6_tread_25 : decode cX6_tread 25 = .ok (.dup, 1) := by decide +kernel
theorem dX6_tread_26 : decode cX6_tread 26 = .ok (.getfield 46, 3) := by decide +kernel
theorem dX6_tread_29 : decode cX6_tread 29 = .ok (.iconst 1, 1) := by decide +kernel
theorem dX6_tread_30 : decode cX6_tread 30 = .ok (.iload_n 1, 1) := by decide +kernel
theorem dX6_tread_31 : decode cX6_tread 31 = .ok (.ishl, 1) := by decide +kernel
theorem dX6_tread_32 : decode cX6_tread 32 = .ok (.iconst (-1), 1) := by decide +kernel
theorem dX6_tread_33 : decode cX6_tread 33 = .ok (.ixor, 1) := by decide +kernel
theorem dX6_tread_34 : decode cX6_tread 34 = .ok (.iand, 1) := by decide +kernel
theorem dX6_tread_35 : decode cX6_tread 35 = .ok (.putfield 46, 3) := by decide +kernel
theorem dX6_tread_38 : decode cX6_tread 38 = .ok (.return_, 1) := by decide +kernel
theorem dX6_graze_0 : decode cX6_graze 0 = .ok (.aload_n 0, 1) := by decide +kernel
theorem dX6_graze_1 : decode cX6_graze 1 = .ok (.getfield 9, 3) := by decide +kernel
theorem dX6_graze_4 : decode cX6_graze 4 = .ok (.iload_n 1, 1) := by decide +kernel
theorem dX6_graze_5 : decode cX6_graze 5 = .ok (.iaload, 1) := by decide +kernel
theorem dX6_graze_6 : decode cX6_graze 6 = .ok (.ifCond .le 16, 3) := by decide +kernel
theorem dX6_graze_9 : decode cX6_graze 9 = .ok (.aload_n 0, 1) := by decide +kernel
theorem dX6_graze_10 : decode cX6_graze 10 = .ok (.getfield 9, 3) := by decide +kernel
theorem dX6_graze_13 : decode cX6_graze 13 = .ok (.iload_n 1, 1) := by decide +kernel
theorem dX6_graze_14 : decode cX6_graze 14 = .ok (.dup2, 1) := by decide +kernel
theorem dX6_graze_15 : decode cX6_graze 15 = .ok (.iaload, 1) := by decide +kernel
theorem dX6_graze_16 : decode cX6_graze 16 = .ok (.iconst 1, 1) := by decide +kernel
theorem dX6_graze_17 : decode cX6_graze 17 = .ok (.isub, 1) := by decide +kernel
theorem dX6_graze_18 : decode cX6_graze 18 = .ok (.iastore, 1) := by decide +kernel
theorem dX6_graze_19 : decode cX6_graze 19 = .ok (.goto 22, 3) := by decide +kernel
theorem dX6_graze_22 : decode cX6_graze 22 = .ok (.aload_n 0, 1) := by decide +kernel
theorem dX6_graze_23 : decode cX6_graze 23 = .ok (.getfield 15, 3) := by decide +kernel
theorem dX6_graze_26 : decode cX6_graze 26 = .ok (.iload_n 1, 1) := by decide +kernel
theorem dX6_graze_27 : decode cX6_graze 27 = .ok (.iaload, 1) := by decide +kernel
theorem dX6_graze_28 : decode cX6_graze 28 = .ok (.ifCond .le 13, 3) := by decide +kernel
theorem dX6_graze_31 : decode cX6_graze 31 = .ok (.aload_n 0, 1) := by decide +kernel
theorem dX6_graze_32 : decode cX6_graze 32 = .ok (.getfield 15, 3) := by decide +kernel
theorem dX6_graze_35 : decode cX6_graze 35 = .ok (.iload_n 1, 1) := by decide +kernel
theorem dX6_graze_36 : decode cX6_graze 36 = .ok (.dup2, 1) := by decide +kernel
theorem dX6_graze_37 : decode cX6_graze 37 = .ok (.iaload, 1) := by decide +kernel
theorem dX6_graze_38 : decode cX6_graze 38 = .ok (.iconst 1, 1) := by decide +kernel
theorem dX6_graze_39 : decode cX6_graze 39 = .ok (.isub, 1) := by decide +kernel
theorem dX6_graze_40 : decode cX6_graze 40 = .ok (.iastore, 1) := by decide +kernel
theorem dX6_graze_41 : decode cX6_graze 41 = .ok (.return_, 1) := by decide +kernel
theorem dX6_isRoad_0 : decode cX6_isRoad 0 = .ok (.aload_n 0, 1) := by decide +kernel
theorem dX6_isRoad_1 : decode cX6_isRoad 1 = .ok (.getfield 21, 3) := by decide +kernel
theorem dX6_isRoad_4 : decode cX6_isRoad 4 = .ok (.iload_n 1, 1) := by decide +kernel
theorem dX6_isRoad_5 : decode cX6_isRoad 5 = .ok (.iaload, 1) := by decide +kernel
theorem dX6_isRoad_6 : decode cX6_isRoad 6 = .ok (.iconst (-1), 1) := by decide +kernel
theorem dX6_isRoad_7 : decode cX6_isRoad 7 = .ok (.if_icmp .eq 22, 3) := by decide +kernel
theorem dX6_isRoad_10 : decode cX6_isRoad 10 = .ok (.aload_n 0, 1) := by decide +kernel
theorem dX6_isRoad_11 : decode cX6_isRoad 11 = .ok (.getfield 52, 3) := by decide +kernel
theorem dX6_isRoad_14 : decode cX6_isRoad 14 = .ok (.aload_n 0, 1) := by decide +kernel
theorem dX6_isRoad_15 : decode cX6_isRoad 15 = .ok (.getfield 21, 3) := by decide +kernel
theorem dX6_isRoad_18 : decode cX6_isRoad 18 = .ok (.iload_n 1, 1) := by decide +kernel
theorem dX6_isRoad_19 : decode cX6_isRoad 19 = .ok (.iaload, 1) := by decide +kernel
theorem dX6_isRoad_20 : decode cX6_isRoad 20 = .ok (.isub, 1) := by decide +kernel
theorem dX6_isRoad_21 : decode cX6_isRoad 21 = .ok (.iload_n 2, 1) := by decide +kernel
theorem dX6_isRoad_22 : decode cX6_isRoad 22 = .ok (.if_icmp .gt 7, 3) := by decide +kernel
theorem dX6_isRoad_25 : decode cX6_isRoad 25 = .ok (.iconst 1, 1) := by decide +kernel
theorem dX6_isRoad_26 : decode cX6_isRoad 26 = .ok (.goto 4, 3) := by decide +kernel
theorem dX6_isRoad_29 : decode cX6_isRoad 29 = .ok (.iconst 0, 1) := by decide +kernel
theorem dX6_isRoad_30 : decode cX6_isRoad 30 = .ok (.ireturn, 1) := by decide +kernel
theorem dX6_roadCells_0 : decode cX6_roadCells 0 = .ok (.lconst 0, 1) := by decide +kernel
theorem dX6_roadCells_1 : decode cX6_roadCells 1 = .ok (.lstore_n 2, 1) := by decide +kernel
theorem dX6_roadCells_2 : decode cX6_roadCells 2 = .ok (.iconst 0, 1) := by decide +kernel
theorem dX6_roadCells_3 : decode cX6_roadCells 3 = .ok (.istore 4, 2) := by decide +kernel
theorem dX6_roadCells_5 : decode cX6_roadCells 5 = .ok (.iload 4, 2) := by decide +kernel
theorem dX6_roadCells_7 : decode cX6_roadCells 7 = .ok (.bipush 64, 2) := by decide +kernel
theorem dX6_roadCells_9 : decode cX6_roadCells 9 = .ok (.if_icmp .ge 27, 3) := by decide +kernel
theorem dX6_roadCells_12 : decode cX6_roadCells 12 = .ok (.aload_n 0, 1) := by decide +kernel
theorem dX6_roadCells_13 : decode cX6_roadCells 13 = .ok (.iload 4, 2) := by decide +kernel
theorem dX6_roadCells_15 : decode cX6_roadCells 15 = .ok (.iload_n 1, 1) := by decide +kernel
theorem dX6_roadCells_16 : decode cX6_roadCells 16 = .ok (.invokevirtual 65, 3) := by decide +kernel
theorem dX6_roadCells_19 : decode cX6_roadCells 19 = .ok (.ifCond .eq 11, 3) := by decide +kernel
theorem dX6_roadCells_22 : decode cX6_roadCells 22 = .ok (.lload_n 2, 1) := by decide +kernel
theorem dX6_roadCells_23 : decode cX6_roadCells 23 = .ok (.iload 4, 2) := by decide +kernel
theorem dX6_roadCells_25 : decode cX6_roadCells 25 = .ok (.invokestatic 69, 3) := by decide +kernel
theorem dX6_roadCells_28 : decode cX6_roadCells 28 = .ok (.lor, 1) := by decide +kernel
theorem dX6_roadCells_29 : decode cX6_roadCells 29 = .ok (.lstore_n 2, 1) := by decide +kernel
theorem dX6_roadCells_30 : decode cX6_roadCells 30 = .ok (.iinc 4 1, 3) := by decide +kernel
theorem dX6_roadCells_33 : decode cX6_roadCells 33 = .ok (.goto (-28), 3) := by decide +kernel
theorem dX6_roadCells_36 : decode cX6_roadCells 36 = .ok (.lload_n 2, 1) := by decide +kernel
theorem dX6_roadCells_37 : decode cX6_roadCells 37 = .ok (.lreturn, 1) := by decide +kernel
theorem dX6_troddenLastBy_0 : decode cX6_troddenLastBy 0 = .ok (.lconst 0, 1) := by decide +kernel
theorem dX6_troddenLastBy_1 : decode cX6_troddenLastBy 1 = .ok (.lstore_n 2, 1) := by decide +kernel
theorem dX6_troddenLastBy_2 : decode cX6_troddenLastBy 2 = .ok (.iconst 0, 1) := by decide +kernel
theorem dX6_troddenLastBy_3 : decode cX6_troddenLastBy 3 = .ok (.istore 4, 2) := by decide +kernel
theorem dX6_troddenLastBy_5 : decode cX6_troddenLastBy 5 = .ok (.iload 4, 2) := by decide +kernel
theorem dX6_troddenLastBy_7 : decode cX6_troddenLastBy 7 = .ok (.bipush 64, 2) := by decide +kernel
theorem dX6_troddenLastBy_9 : decode cX6_troddenLastBy 9 = .ok (.if_icmp .ge 28, 3) := by decide +kernel
theorem dX6_troddenLastBy_12 : decode cX6_troddenLastBy 12 = .ok (.aload_n 0, 1) := by decide +kernel
theorem dX6_troddenLastBy_13 : decode cX6_troddenLastBy 13 = .ok (.getfield 24, 3) := by decide +kernel
theorem dX6_troddenLastBy_16 : decode cX6_troddenLastBy 16 = .ok (.iload 4, 2) := by decide +kernel
theorem dX6_troddenLastBy_18 : decode cX6_troddenLastBy 18 = .ok (.iaload, 1) := by decide +kernel
theorem dX6_troddenLastBy_19 : decode cX6_troddenLastBy 19 = .ok (.iload_n 1, 1) := by decide +kernel
theorem dX6_troddenLastBy_20 : decode cX6_troddenLastBy 20 = .ok (.if_icmp .ne 11, 3) := by decide +kernel
theorem dX6_troddenLastBy_23 : decode cX6_troddenLastBy 23 = .ok (.lload_n 2, 1) := by decide +kernel
theorem dX6_troddenLastBy_24 : decode cX6_troddenLastBy 24 = .ok (.iload 4, 2) := by decide +kernel
theorem dX6_troddenLastBy_26 : decode cX6_troddenLastBy 26 = .ok (.invokestatic 69, 3) := by decide +kernel
theorem dX6_troddenLastBy_29 : decode cX6_troddenLastBy 29 = .ok (.lor, 1) := by decide +kernel
theorem dX6_troddenLastBy_30 : decode cX6_troddenLastBy 30 = .ok (.lstore_n 2, 1) := by decide +kernel
theorem dX6_troddenLastBy_31 : decode cX6_troddenLastBy 31 = .ok (.iinc 4 1, 3) := by decide +kernel
theorem dX6_troddenLastBy_34 : decode cX6_troddenLastBy 34 = .ok (.goto (-29), 3) := by decide +kernel
theorem dX6_troddenLastBy_37 : decode cX6_troddenLastBy 37 = .ok (.lload_n 2, 1) := by decide +kernel
theorem dX6_troddenLastBy_38 : decode cX6_troddenLastBy 38 = .ok (.lreturn, 1) := by decide +kernel
theorem dX6_herdCells_0 : decode cX6_herdCells 0 = .ok (.lconst 0, 1) := by decide +kernel
theorem dX6_herdCells_1 : decode cX6_herdCells 1 = .ok (.lstore_n 1, 1) := by decide +kernel
theorem dX6_herdCells_2 : decode cX6_herdCells 2 = .ok (.iconst 0, 1) := by decide +kernel
theorem dX6_herdCells_3 : decode cX6_herdCells 3 = .ok (.istore_n 3, 1) := by decide +kernel
theorem dX6_herdCells_4 : decode cX6_herdCells 4 = .ok (.iload_n 3, 1) := by decide +kernel
theorem dX6_herdCells_5 : decode cX6_herdCells 5 = .ok (.aload_n 0, 1) := by decide +kernel
theorem dX6_herdCells_6 : decode cX6_herdCells 6 = .ok (.getfield 39, 3) := by decide +kernel
theorem dX6_herdCells_9 : decode cX6_herdCells 9 = .ok (.if_icmp .ge 21, 3) := by decide +kernel
theorem dX6_herdCells_12 : decode cX6_herdCells 12 = .ok (.lload_n 1, 1) := by decide +kernel
theorem dX6_herdCells_13 : decode cX6_herdCells 13 = .ok (.aload_n 0, 1) := by decide +kernel
theorem dX6_herdCells_14 : decode cX6_herdCells 14 = .ok (.getfield 27, 3) := by decide +kernel
theorem dX6_herdCells_17 : decode cX6_herdCells 17 = .ok (.iload_n 3, 1) := by decide +kernel
theorem dX6_herdCells_18 : decode cX6_herdCells 18 = .ok (.iaload, 1) := by decide +kernel
theorem dX6_herdCells_19 : decode cX6_herdCells 19 = .ok (.invokestatic 69, 3) := by decide +kernel
theorem dX6_herdCells_22 : decode cX6_herdCells 22 = .ok (.lor, 1) := by decide +kernel
theorem dX6_herdCells_23 : decode cX6_herdCells 23 = .ok (.lstore_n 1, 1) := by decide +kernel
theorem dX6_herdCells_24 : decode cX6_herdCells 24 = .ok (.iinc 3 1, 3) := by decide +kernel
theorem dX6_herdCells_27 : decode cX6_herdCells 27 = .ok (.goto (-23), 3) := by decide +kernel
theorem dX6_herdCells_30 : decode cX6_herdCells 30 = .ok (.lload_n 1, 1) := by decide +kernel
theorem dX6_herdCells_31 : decode cX6_herdCells 31 = .ok (.lreturn, 1) := by decide +kernel
theorem dX6_herdsAt_0 : decode cX6_herdsAt 0 = .ok (.iconst 0, 1) := by decide +kernel
theorem dX6_herdsAt_1 : decode cX6_herdsAt 1 = .ok (.istore_n 2, 1) := by decide +kernel
theorem dX6_herdsAt_2 : decode cX6_herdsAt 2 = .ok (.iconst 0, 1) := by decide +kernel
theorem dX6_herdsAt_3 : decode cX6_herdsAt 3 = .ok (.istore_n 3, 1) := by decide +kernel
theorem dX6_herdsAt_4 : decode cX6_herdsAt 4 = .ok (.iload_n 3, 1) := by decide +kernel
theorem dX6_herdsAt_5 : decode cX6_herdsAt 5 = .ok (.aload_n 0, 1) := by decide +kernel
theorem dX6_herdsAt_6 : decode cX6_herdsAt 6 = .ok (.getfield 39, 3) := by decide +kernel
theorem dX6_herdsAt_9 : decode cX6_herdsAt 9 = .ok (.if_icmp .ge 25, 3) := by decide +kernel
theorem dX6_herdsAt_12 : decode cX6_herdsAt 12 = .ok (.aload_n 0, 1) := by decide +kernel
theorem dX6_herdsAt_13 : decode cX6_herdsAt 13 = .ok (.getfield 27, 3) := by decide +kernel
theorem dX6_herdsAt_16 : decode cX6_herdsAt 16 = .ok (.iload_n 3, 1) := by decide +kernel
theorem dX6_herdsAt_17 : decode cX6_herdsAt 17 = .ok (.iaload, 1) := by decide +kernel
theorem dX6_herdsAt_18 : decode cX6_herdsAt 18 = .ok (.iload_n 1, 1) := by decide +kernel
theorem dX6_herdsAt_19 : decode cX6_herdsAt 19 = .ok (.if_icmp .ne 9, 3) := by decide +kernel
theorem dX6_herdsAt_22 : decode cX6_herdsAt 22 = .ok (.iload_n 2, 1) := by decide +kernel
theorem dX6_herdsAt_23 : decode cX6_herdsAt 23 = .ok (.iconst 1, 1) := by decide +kernel
theorem dX6_herdsAt_24 : decode cX6_herdsAt 24 = .ok (.iload_n 3, 1) := by decide +kernel
theorem dX6_herdsAt_25 : decode cX6_herdsAt 25 = .ok (.ishl, 1) := by decide +kernel
theorem dX6_herdsAt_26 : decode cX6_herdsAt 26 = .ok (.ior, 1) := by decide +kernel
theorem dX6_herdsAt_27 : decode cX6_herdsAt 27 = .ok (.istore_n 2, 1) := by decide +kernel
theorem dX6_herdsAt_28 : decode cX6_herdsAt 28 = .ok (.iinc 3 1, 3) := by decide +kernel
theorem dX6_herdsAt_31 : decode cX6_herdsAt 31 = .ok (.goto (-27), 3) := by decide +kernel
theorem dX6_herdsAt_34 : decode cX6_herdsAt 34 = .ok (.iload_n 2, 1) := by decide +kernel
theorem dX6_herdsAt_35 : decode cX6_herdsAt 35 = .ok (.ireturn, 1) := by decide +kernel
theorem dX6_firstHerdAt_0 : decode cX6_firstHerdAt 0 = .ok (.aload_n 0, 1) := by decide +kernel
theorem dX6_firstHerdAt_1 : decode cX6_firstHerdAt 1 = .ok (.iload_n 1, 1) := by decide +kernel
theorem dX6_firstHerdAt_2 : decode cX6_firstHerdAt 2 = .ok (.invokevirtual 75, 3) := by decide +kernel
theorem dX6_firstHerdAt_5 : decode cX6_firstHerdAt 5 = .ok (.i2l, 1) := by decide +kernel
theorem dX6_firstHerdAt_6 : decode cX6_firstHerdAt 6 = .ok (.invokestatic 79, 3) := by decide +kernel
theorem dX6_firstHerdAt_9 : decode cX6_firstHerdAt 9 = .ok (.ireturn, 1) := by decide +kernel
theorem dX6_sizeOfMeeting_0 : decode cX6_sizeOfMeeting 0 = .ok (.aload_n 0, 1) := by decide +kernel
theorem dX6_sizeOfMeeting_1 : decode cX6_sizeOfMeeting 1 = .ok (.getfield 39, 3) := by decide +kernel
theorem dX6_sizeOfMeeting_4 : decode cX6_sizeOfMeeting 4 = .ok (.ifCond .ne 5, 3) := by decide +kernel
theorem dX6_sizeOfMeeting_7 : decode cX6_sizeOfMeeting 7 = .ok (.iconst 0, 1) := by decide +kernel
theorem dX6_sizeOfMeeting_8 : decode cX6_sizeOfMeeting 8 = .ok (.ireturn, 1) := by decide +kernel
theorem dX6_sizeOfMeeting_9 : decode cX6_sizeOfMeeting 9 = .ok (.aload_n 0, 1) := by decide +kernel
theorem dX6_sizeOfMeeting_10 : decode cX6_sizeOfMeeting 10 = .ok (.iload_n 1, 1) := by decide +kernel
theorem dX6_sizeOfMeeting_11 : decode cX6_sizeOfMeeting 11 = .ok (.invokevirtual 83, 3) := by decide +kernel
theorem dX6_sizeOfMeeting_14 : decode cX6_sizeOfMeeting 14 = .ok (.aload_n 0, 1) := by decide +kernel
theorem dX6_sizeOfMeeting_15 : decode cX6_sizeOfMeeting 15 = .ok (.getfield 27, 3) := by decide +kernel
theorem dX6_sizeOfMeeting_18 : decode cX6_sizeOfMeeting 18 = .ok (.iconst 0, 1) := by decide +kernel
theorem dX6_sizeOfMeeting_19 : decode cX6_sizeOfMeeting 19 = .ok (.iaload, 1) := by decide +kernel
theorem dX6_sizeOfMeeting_20 : decode cX6_sizeOfMeeting 20 = .ok (.invokestatic 86, 3) := by decide +kernel
theorem dX6_sizeOfMeeting_23 : decode cX6_sizeOfMeeting 23 = .ok (.lstore_n 2, 1) := by decide +kernel
theorem dX6_sizeOfMeeting_24 : decode cX6_sizeOfMeeting 24 = .ok (.aload_n 0, 1) := by decide +kernel
theorem dX6_sizeOfMeeting_25 : decode cX6_sizeOfMeeting 25 = .ok (.invokevirtual 90, 3) := by decide +kernel
theorem dX6_sizeOfMeeting_28 : decode cX6_sizeOfMeeting 28 = .ok (.lload_n 2, 1) := by decide +kernel
theorem dX6_sizeOfMeeting_29 : decode cX6_sizeOfMeeting 29 = .ok (.ldc2_w 94, 3) := by decide +kernel
theorem dX6_sizeOfMeeting_32 : decode cX6_sizeOfMeeting 32 = .ok (.lxor, 1) := by decide +kernel
theorem dX6_sizeOfMeeting_33 : decode cX6_sizeOfMeeting 33 = .ok (.land, 1) := by decide +kernel
theorem dX6_sizeOfMeeting_34 : decode cX6_sizeOfMeeting 34 = .ok (.lconst 0, 1) := by decide +kernel
theorem dX6_sizeOfMeeting_35 : decode cX6_sizeOfMeeting 35 = .ok (.lcmp, 1) := by decide +kernel
theorem dX6_sizeOfMeeting_36 : decode cX6_sizeOfMeeting 36 = .ok (.ifCond .ne 10, 3) := by decide +kernel
theorem dX6_sizeOfMeeting_39 : decode cX6_sizeOfMeeting 39 = .ok (.lload_n 2, 1) := by decide +kernel
theorem dX6_sizeOfMeeting_40 : decode cX6_sizeOfMeeting 40 = .ok (.invokestatic 96, 3) := by decide +kernel
theorem dX6_sizeOfMeeting_43 : decode cX6_sizeOfMeeting 43 = .ok (.goto 4, 3) := by decide +kernel
theorem dX6_sizeOfMeeting_46 : decode cX6_sizeOfMeeting 46 = .ok (.iconst 0, 1) := by decide +kernel
theorem dX6_sizeOfMeeting_47 : decode cX6_sizeOfMeeting 47 = .ok (.ireturn, 1) := by decide +kernel
theorem dX6_grassInAll_0 : decode cX6_grassInAll 0 = .ok (.iconst 0, 1) := by decide +kernel
theorem dX6_grassInAll_1 : decode cX6_grassInAll 1 = .ok (.istore_n 1, 1) := by decide +kernel
theorem dX6_grassInAll_2 : decode cX6_grassInAll 2 = .ok (.iconst 0, 1) := by decide +kernel
theorem dX6_grassInAll_3 : decode cX6_grassInAll 3 = .ok (.istore_n 2, 1) := by decide +kernel
theorem dX6_grassInAll_4 : decode cX6_grassInAll 4 = .ok (.iload_n 2, 1) := by decide +kernel
theorem dX6_grassInAll_5 : decode cX6_grassInAll 5 = .ok (.bipush 64, 2) := by decide +kernel
theorem dX6_grassInAll_7 : decode cX6_grassInAll 7 = .ok (.if_icmp .ge 18, 3) := by decide +kernel
theorem dX6_grassInAll_10 : decode cX6_grassInAll 10 = .ok (.iload_n 1, 1) := by decide +kernel
theorem dX6_grassInAll_11 : decode cX6_grassInAll 11 = .ok (.aload_n 0, 1) := by decide +kernel
theorem dX6_grassInAll_12 : decode cX6_grassInAll 12 = .ok (.getfield 9, 3) := by decide +kernel
theorem dX6_grassInAll_15 : decode cX6_grassInAll 15 = .ok (.iload_n 2, 1) := by decide +kernel
theorem dX6_grassInAll_16 : decode cX6_grassInAll 16 = .ok (.iaload, 1) := by decide +kernel
theorem dX6_grassInAll_17 : decode cX6_grassInAll 17 = .ok (.iadd, 1) := by decide +kernel
theorem dX6_grassInAll_18 : decode cX6_grassInAll 18 = .ok (.istore_n 1, 1) := by decide +kernel
theorem dX6_grassInAll_19 : decode cX6_grassInAll 19 = .ok (.iinc 2 1, 3) := by decide +kernel
theorem dX6_grassInAll_22 : decode cX6_grassInAll 22 = .ok (.goto (-18), 3) := by decide +kernel
theorem dX6_grassInAll_25 : decode cX6_grassInAll 25 = .ok (.iload_n 1, 1) := by decide +kernel
theorem dX6_grassInAll_26 : decode cX6_grassInAll 26 = .ok (.ireturn, 1) := by decide +kernel
theorem dX7_init_0 : decode cX7_init 0 = .ok (.aload_n 0, 1) := by decide +kernel
theorem dX7_init_1 : decode cX7_init 1 = .ok (.invokespecial 3, 3) := by decide +kernel
theorem dX7_init_4 : decode cX7_init 4 = .ok (.aload_n 0, 1) := by decide +kernel
theorem dX7_init_5 : decode cX7_init 5 = .ok (.bipush 80, 2) := by decide +kernel
theorem dX7_init_7 : decode cX7_init 7 = .ok (.newarray .char, 2) := by decide +kernel
theorem dX7_init_9 : decode cX7_init 9 = .ok (.putfield 11, 3) := by decide +kernel
theorem dX7_init_12 : decode cX7_init 12 = .ok (.aload_n 0, 1) := by decide +kernel
theorem dX7_init_13 : decode cX7_init 13 = .ok (.bipush 80, 2) := by decide +kernel
theorem dX7_init_15 : decode cX7_init 15 = .ok (.putfield 15, 3) := by decide +kernel
theorem dX7_init_18 : decode cX7_init 18 = .ok (.return_, 1) := by decide +kernel
theorem dX7_append_0 : decode cX7_append 0 = .ok (.aload_n 0, 1) := by decide +kernel
theorem dX7_append_1 : decode cX7_append 1 = .ok (.getfield 19, 3) := by decide +kernel
theorem dX7_append_4 : decode cX7_append 4 = .ok (.iconst 4, 1) := by decide +kernel
theorem dX7_append_5 : decode cX7_append 5 = .ok (.iadd, 1) := by decide +kernel
theorem dX7_append_6 : decode cX7_append 6 = .ok (.bipush 80, 2) := by decide +kernel
theorem dX7_append_8 : decode cX7_append 8 = .ok (.if_icmp .le 5, 3) := by decide +kernel
theorem dX7_append_11 : decode cX7_append 11 = .ok (.iconst 0, 1) := by decide +kernel
theorem dX7_append_12 : decode cX7_append 12 = .ok (.ireturn, 1) := by decide +kernel
theorem dX7_append_13 : decode cX7_append 13 = .ok (.bipush 24, 2) := by decide +kernel
theorem dX7_append_15 : decode cX7_append 15 = .ok (.istore_n 2, 1) := by decide +kernel
theorem dX7_append_16 : decode cX7_append 16 = .ok (.iload_n 2, 1) := by decide +kernel
theorem dX7_append_17 : decode cX7_append 17 = .ok (.ifCond .lt 36, 3) := by decide +kernel
theorem dX7_append_20 : decode cX7_append 20 = .ok (.aload_n 0, 1) := by decide +kernel
theorem dX7_append_21 : decode cX7_append 21 = .ok (.getfield 11, 3) := by decide +kernel
theorem dX7_append_24 : decode cX7_append 24 = .ok (.aload_n 0, 1) := by decide +kernel
theorem dX7_append_25 : decode cX7_append 25 = .ok (.getfield 19, 3) := by decide +kernel
theorem dX7_append_28 : decode cX7_append 28 = .ok (.iload_n 1, 1) := by decide +kernel
theorem dX7_append_29 : decode cX7_append 29 = .ok (.iload_n 2, 1) := by decide +kernel
theorem dX7_append_30 : decode cX7_append 30 = .ok (.iushr, 1) := by decide +kernel
theorem dX7_append_31 : decode cX7_append 31 = .ok (.sipush 255, 3) := by decide +kernel
theorem dX7_append_34 : decode cX7_append 34 = .ok (.iand, 1) := by decide +kernel
theorem dX7_append_35 : decode cX7_append 35 = .ok (.i2c, 1) := by decide +kernel
theorem dX7_append_36 : decode cX7_append 36 = .ok (.castore, 1) := by decide +kernel
theorem dX7_append_37 : decode cX7_append 37 = .ok (.aload_n 0, 1) := by decide +kernel
theorem dX7_append_38 : decode cX7_append 38 = .ok (.dup, 1) := by decide +kernel
theorem dX7_append_39 : decode cX7_append 39 = .ok (.getfield 19, 3) := by decide +kernel
theorem dX7_append_42 : decode cX7_append 42 = .ok (.iconst 1, 1) := by decide +kernel
theorem dX7_append_43 : decode cX7_append 43 = .ok (.iadd, 1) := by decide +kernel
theorem dX7_append_44 : decode cX7_append 44 = .ok (.putfield 19, 3) := by decide +kernel
theorem dX7_append_47 : decode cX7_append 47 = .ok (.iinc 2 (-8), 3) := by decide +kernel
theorem dX7_append_50 : decode cX7_append 50 = .ok (.goto (-34), 3) := by decide +kernel
theorem dX7_append_53 : decode cX7_append 53 = .ok (.iconst 1, 1) := by decide +kernel
theorem dX7_append_54 : decode cX7_append 54 = .ok (.ireturn, 1) := by decide +kernel
theorem dX7_tell_0 : decode cX7_tell 0 = .ok (.aload_n 0, 1) := by decide +kernel
theorem dX7_tell_1 : decode cX7_tell 1 = .ok (.bipush 80, 2) := by decide +kernel
theorem dX7_tell_3 : decode cX7_tell 3 = .ok (.aload_n 1, 1) := by decide +kernel
theorem dX7_tell_4 : decode cX7_tell 4 = .ok (.invokevirtual 22, 3) := by decide +kernel
theorem dX7_tell_7 : decode cX7_tell 7 = .ok (.invokestatic 27, 3) := by decide +kernel
theorem dX7_tell_10 : decode cX7_tell 10 = .ok (.putfield 19, 3) := by decide +kernel
theorem dX7_tell_13 : decode cX7_tell 13 = .ok (.iconst 0, 1) := by decide +kernel
theorem dX7_tell_14 : decode cX7_tell 14 = .ok (.istore_n 2, 1) := by decide +kernel
theorem dX7_tell_15 : decode cX7_tell 15 = .ok (.iload_n 2, 1) := by decide +kernel
theorem dX7_tell_16 : decode cX7_tell 16 = .ok (.aload_n 0, 1) := by decide +kernel
theorem dX7_tell_17 : decode cX7_tell 17 = .ok (.getfield 19, 3) := by decide +kernel
theorem dX7_tell_20 : decode cX7_tell 20 = .ok (.if_icmp .ge 20, 3) := by decide +kernel
theorem dX7_tell_23 : decode cX7_tell 23 = .ok (.aload_n 0, 1) := by decide +kernel
theorem dX7_tell_24 : decode cX7_tell 24 = .ok (.getfield 11, 3) := by decide +kernel
theorem dX7_tell_27 : decode cX7_tell 27 = .ok (.iload_n 2, 1) := by decide +kernel
theorem dX7_tell_28 : decode cX7_tell 28 = .ok (.aload_n 1, 1) := by decide +kernel
theorem dX7_tell_29 : decode cX7_tell 29 = .ok (.iload_n 2, 1) := by decide +kernel
theorem dX7_tell_30 : decode cX7_tell 30 = .ok (.invokevirtual 33, 3) := by decide +kernel
theorem dX7_tell_33 : decode cX7_tell 33 = .ok (.castore, 1) := by decide +kernel
theorem dX7_tell_34 : decode cX7_tell 34 = .ok (.iinc 2 1, 3) := by decide +kernel
theorem dX7_tell_37 : decode cX7_tell 37 = .ok (.goto (-22), 3) := by decide +kernel
theorem dX7_tell_40 : decode cX7_tell 40 = .ok (.return_, 1) := by decide +kernel
theorem dX7_empty_0 : decode cX7_empty 0 = .ok (.aload_n 0, 1) := by decide +kernel
theorem dX7_empty_1 : decode cX7_empty 1 = .ok (.iconst 0, 1) := by decide +kernel
theorem dX7_empty_2 : decode cX7_empty 2 = .ok (.putfield 19, 3) := by decide +kernel
theorem dX7_empty_5 : decode cX7_empty 5 = .ok (.return_, 1) := by decide +kernel
theorem dX7_begin_0 : decode cX7_begin 0 = .ok (.aload_n 0, 1) := by decide +kernel
theorem dX7_begin_1 : decode cX7_begin 1 = .ok (.iconst 0, 1) := by decide +kernel
theorem dX7_begin_2 : decode cX7_begin 2 = .ok (.putfield 37, 3) := by decide +kernel
theorem dX7_begin_5 : decode cX7_begin 5 = .ok (.aload_n 0, 1) := by decide +kernel
theorem dX7_begin_6 : decode cX7_begin 6 = .ok (.iload_n 1, 1) := by decide +kernel
theorem dX7_begin_7 : decode cX7_begin 7 = .ok (.putfield 15, 3) := by decide +kernel
theorem dX7_begin_10 : decode cX7_begin 10 = .ok (.return_, 1) := by decide +kernel
theorem dX7_here_0 : decode cX7_here 0 = .ok (.aload_n 0, 1) := by decide +kernel
theorem dX7_here_1 : decode cX7_here 1 = .ok (.getfield 37, 3) := by decide +kernel
theorem dX7_here_4 : decode cX7_here 4 = .ok (.aload_n 0, 1) := by decide +kernel
theorem dX7_here_5 : decode cX7_here 5 = .ok (.getfield 15, 3) := by decide +kernel
theorem dX7_here_8 : decode cX7_here 8 = .ok (.if_icmp .lt 21, 3) := by decide +kernel
theorem dX7_here_11 : decode cX7_here 11 = .ok (.aload_n 0, 1) := by decide +kernel
theorem dX7_here_12 : decode cX7_here 12 = .ok (.getfield 19, 3) := by decide +kernel
theorem dX7_here_15 : decode cX7_here 15 = .ok (.aload_n 0, 1) := by decide +kernel
theorem dX7_here_16 : decode cX7_here 16 = .ok (.getfield 15, 3) := by decide +kernel
theorem dX7_here_19 : decode cX7_here 19 = .ok (.if_icmp .le 8, 3) := by decide +kernel
theorem dX7_here_22 : decode cX7_here 22 = .ok (.bipush (-2), 2) := by decide +kernel
theorem dX7_here_24 : decode cX7_here 24 = .ok (.goto 4, 3) := by decide +kernel
theorem dX7_here_27 : decode cX7_here 27 = .ok (.iconst (-1), 1) := by decide +kernel
theorem dX7_here_28 : decode cX7_here 28 = .ok (.ireturn, 1) := by decide +kernel
theorem dX7_here_29 : decode cX7_here 29 = .ok (.aload_n 0, 1) := by decide +kernel
theorem dX7_here_30 : decode cX7_here 30 = .ok (.getfield 37, 3) := by decide +kernel
theorem dX7_here_33 : decode cX7_here 33 = .ok (.ifCond .lt 26, 3) := by decide +kernel
theorem dX7_here_36 : decode cX7_here 36 = .ok (.aload_n 0, 1) := by decide +kernel
theorem dX7_here_37 : decode cX7_here 37 = .ok (.getfield 37, 3) := by decide +kernel
theorem dX7_here_40 : decode cX7_here 40 = .ok (.aload_n 0, 1) := by decide +kernel
theorem dX7_here_41 : decode cX7_here 41 = .ok (.getfield 19, 3) := by decide +kernel
theorem dX7_here_44 : decode cX7_here 44 = .ok (.if_icmp .ge 15, 3) := by decide +kernel
theorem dX7_here_47 : decode cX7_here 47 = .ok (.aload_n 0, 1) := by decide +kernel
theorem dX7_here_48 : decode cX7_here 48 = .ok (.getfield 11, 3) := by decide +kernel
theorem dX7_here_51 : decode cX7_here 51 = .ok (.aload_n 0, 1) := by decide +kernel
theorem dX7_here_52 : decode cX7_here 52 = .ok (.getfield 37, 3) := by decide +kernel
theorem dX7_here_55 : decode cX7_here 55 = .ok (.caload, 1) := by decide +kernel
theorem dX7_here_56 : decode cX7_here 56 = .ok (.goto 4, 3) := by decide +kernel
theorem dX7_here_59 : decode cX7_here 59 = .ok (.iconst (-1), 1) := by decide +kernel
theorem dX7_here_60 : decode cX7_here 60 = .ok (.ireturn, 1) := by decide +kernel
theorem dX7_step_0 : decode cX7_step 0 = .ok (.aload_n 0, 1) := by decide +kernel
theorem dX7_step_1 : decode cX7_step 1 = .ok (.dup, 1) := by decide +kernel
theorem dX7_step_2 : decode cX7_step 2 = .ok (.getfield 37, 3) := by decide +kernel
theorem dX7_step_5 : decode cX7_step 5 = .ok (.iconst 1, 1) := by decide +kernel
theorem dX7_step_6 : decode cX7_step 6 = .ok (.iadd, 1) := by decide +kernel
theorem dX7_step_7 : decode cX7_step 7 = .ok (.putfield 37, 3) := by decide +kernel
theorem dX7_step_10 : decode cX7_step 10 = .ok (.return_, 1) := by decide +kernel
theorem dX7_stepBack_0 : decode cX7_stepBack 0 = .ok (.aload_n 0, 1) := by decide +kernel
theorem dX7_stepBack_1 : decode cX7_stepBack 1 = .ok (.dup, 1) := by decide +kernel
theorem dX7_stepBack_2 : decode cX7_stepBack 2 = .ok (.getfield 37, 3) := by decide +kernel
theorem dX7_stepBack_5 : decode cX7_stepBack 5 = .ok (.iconst 1, 1) := by decide +kernel
theorem dX7_stepBack_6 : decode cX7_stepBack 6 = .ok (.isub, 1) := by decide +kernel
theorem dX7_stepBack_7 : decode cX7_stepBack 7 = .ok (.putfield 37, 3) := by decide +kernel
theorem dX7_stepBack_10 : decode cX7_stepBack 10 = .ok (.return_, 1) := by decide +kernel
theorem dX7_isAtEnd_0 : decode cX7_isAtEnd 0 = .ok (.aload_n 0, 1) := by decide +kernel
theorem dX7_isAtEnd_1 : decode cX7_isAtEnd 1 = .ok (.invokevirtual 40, 3) := by decide +kernel
theorem dX7_isAtEnd_4 : decode cX7_isAtEnd 4 = .ok (.iconst (-1), 1) := by decide +kernel
theorem dX7_isAtEnd_5 : decode cX7_isAtEnd 5 = .ok (.if_icmp .ne 7, 3) := by decide +kernel
theorem dX7_isAtEnd_8 : decode cX7_isAtEnd 8 = .ok (.iconst 1, 1) := by decide +kernel
theorem dX7_isAtEnd_9 : decode cX7_isAtEnd 9 = .ok (.goto 4, 3) := by decide +kernel
theorem dX7_isAtEnd_12 : decode cX7_isAtEnd 12 = .ok (.iconst 0, 1) := by decide +kernel
theorem dX7_isAtEnd_13 : decode cX7_isAtEnd 13 = .ok (.ireturn, 1) := by decide +kernel
theorem dX7_fault_0 : decode cX7_fault 0 = .ok (.iconst (-1), 1) := by decide +kernel
theorem dX7_fault_1 : decode cX7_fault 1 = .ok (.aload_n 0, 1) := by decide +kernel
theorem dX7_fault_2 : decode cX7_fault 2 = .ok (.getfield 37, 3) := by decide +kernel
theorem dX7_fault_5 : decode cX7_fault 5 = .ok (.isub, 1) := by decide +kernel
theorem dX7_fault_6 : decode cX7_fault 6 = .ok (.ireturn, 1) := by decide +kernel
theorem dX7_take_0 : decode cX7_take 0 = .ok (.aload_n 0, 1) := by decide +kernel
theorem dX7_take_1 : decode cX7_take 1 = .ok (.invokevirtual 40, 3) := by decide +kernel
theorem dX7_take_4 : decode cX7_take 4 = .ok (.iload_n 1, 1) := by decide +kernel
theorem dX7_take_5 : decode cX7_take 5 = .ok (.if_icmp .eq 5, 3) := by decide +kernel
theorem dX7_take_8 : decode cX7_take 8 = .ok (.iconst 0, 1) := by decide +kernel
theorem dX7_take_9 : decode cX7_take 9 = .ok (.ireturn, 1) := by decide +kernel
theorem dX7_take_10 : decode cX7_take 10 = .ok (.aload_n 0, 1) := by decide +kernel
theorem dX7_take_11 : decode cX7_take 11 = .ok (.invokevirtual 43, 3) := by decide +kernel
theorem dX7_take_14 : decode cX7_take 14 = .ok (.iconst 1, 1) := by decide +kernel
theorem dX7_take_15 : decode cX7_take 15 = .ok (.ireturn, 1) := by decide +kernel
theorem dX7_takeOneOf_0 : decode cX7_takeOneOf 0 = .ok (.aload_n 0, 1) := by decide +kernel
theorem dX7_takeOneOf_1 : decode cX7_takeOneOf 1 = .ok (.invokevirtual 40, 3) := by decide +kernel
theorem dX7_takeOneOf_4 : decode cX7_takeOneOf 4 = .ok (.istore_n 2, 1) := by decide +kernel
theorem dX7_takeOneOf_5 : decode cX7_takeOneOf 5 = .ok (.iload_n 2, 1) := by decide +kernel
theorem dX7_takeOneOf_6 : decode cX7_takeOneOf 6 = .ok (.ifCond .lt 12, 3) := by decide +kernel
theorem dX7_takeOneOf_9 : decode cX7_takeOneOf 9 = .ok (.aload_n 1, 1) := by decide +kernel
theorem dX7_takeOneOf_10 : decode cX7_takeOneOf 10 = .ok (.iload_n 2, 1) := by decide +kernel
theorem dX7_takeOneOf_11 : decode cX7_takeOneOf 11 = .ok (.i2c, 1) := by decide +kernel
theorem dX7_takeOneOf_12 : decode cX7_takeOneOf 12 = .ok (.invokevirtual 46, 3) := by decide +kernel
theorem dX7_takeOneOf_15 : decode cX7_takeOneOf 15 = .ok (.ifCond .ge 5, 3) := by decide +kernel
theorem dX7_takeOneOf_18 : decode cX7_takeOneOf 18 = .ok (.iconst (-1), 1) := by decide +kernel
theorem dX7_takeOneOf_19 : decode cX7_takeOneOf 19 = .ok (.ireturn, 1) := by decide +kernel
theorem dX7_takeOneOf_20 : decode cX7_takeOneOf 20 = .ok (.aload_n 0, 1) := by decide +kernel
theorem dX7_takeOneOf_21 : decode cX7_takeOneOf 21 = .ok (.invokevirtual 43, 3) := by decide +kernel
theorem dX7_takeOneOf_24 : decode cX7_takeOneOf 24 = .ok (.iload_n 2, 1) := by decide +kernel
theorem dX7_takeOneOf_25 : decode cX7_takeOneOf 25 = .ok (.ireturn, 1) := by decide +kernel
theorem dX7_column_0 : decode cX7_column 0 = .ok (.aload_n 0, 1) := by decide +kernel
theorem dX7_column_1 : decode cX7_column 1 = .ok (.bipush 97, 2) := by decide +kernel
theorem dX7_column_3 : decode cX7_column 3 = .ok (.iconst 0, 1) := by decide +kernel
theorem dX7_column_4 : decode cX7_column 4 = .ok (.iload_n 1, 1) := by decide +kernel
theorem dX7_column_5 : decode cX7_column 5 = .ok (.iconst 1, 1) := by decide +kernel
theorem dX7_column_6 : decode cX7_column 6 = .ok (.isub, 1) := by decide +kernel
theorem dX7_column_7 : decode cX7_column 7 = .ok (.invokevirtual 50, 3) := by decide +kernel
theorem dX7_column_10 : decode cX7_column 10 = .ok (.ireturn, 1) := by decide +kernel
theorem dX7_digit_0 : decode cX7_digit 0 = .ok (.aload_n 0, 1) := by decide +kernel
theorem dX7_digit_1 : decode cX7_digit 1 = .ok (.bipush 48, 2) := by decide +kernel
theorem dX7_digit_3 : decode cX7_digit 3 = .ok (.iload_n 1, 1) := by decide +kernel
theorem dX7_digit_4 : decode cX7_digit 4 = .ok (.iload_n 2, 1) := by decide +kernel
theorem dX7_digit_5 : decode cX7_digit 5 = .ok (.invokevirtual 50, 3) := by decide +kernel
theorem dX7_digit_8 : decode cX7_digit 8 = .ok (.ireturn, 1) := by decide +kernel
theorem dX7_takeFrom_0 : decode cX7_takeFrom 0 = .ok (.aload_n 0, 1) := by decide +kernel
theorem dX7_takeFrom_1 : decode cX7_takeFrom 1 = .ok (.invokevirtual 40, 3) := by decide +kernel
theorem dX7_takeFrom_4 : decode cX7_takeFrom 4 = .ok (.iload_n 1, 1) := by decide +kernel
theorem dX7_takeFrom_5 : decode cX7_takeFrom 5 = .ok (.isub, 1) := by decide +kernel
theorem dX7_takeFrom_6 : decode cX7_takeFrom 6 = .ok (.istore 4, 2) := by decide +kernel
theorem dX7_takeFrom_8 : decode cX7_takeFrom 8 = .ok (.iload 4, 2) := by decide +kernel
theorem dX7_takeFrom_10 : decode cX7_takeFrom 10 = .ok (.iload_n 2, 1) := by decide +kernel
theorem dX7_takeFrom_11 : decode cX7_takeFrom 11 = .ok (.if_icmp .lt 9, 3) := by decide +kernel
theorem dX7_takeFrom_14 : decode cX7_takeFrom 14 = .ok (.iload 4, 2) := by decide +kernel
theorem dX7_takeFrom_16 : decode cX7_takeFrom 16 = .ok (.iload_n 3, 1) := by decide +kernel
theorem dX7_takeFrom_17 : decode cX7_takeFrom 17 = .ok (.if_icmp .le 5, 3) := by decide +kernel
theorem dX7_takeFrom_20 : decode cX7_takeFrom 20 = .ok (.iconst (-1), 1) := by decide +kernel
theorem dX7_takeFrom_21 : decode cX7_takeFrom 21 = .ok (.ireturn, 1) := by decide +kernel
theorem dX7_takeFrom_22 : decode cX7_takeFrom 22 = .ok (.aload_n 0, 1) := by decide +kernel
theorem dX7_takeFrom_23 : decode cX7_takeFrom 23 = .ok (.invokevirtual 43, 3) := by decide +kernel
theorem dX7_takeFrom_26 : decode cX7_takeFrom 26 = .ok (.iload 4, 2) := by decide +kernel
theorem dX7_takeFrom_28 : decode cX7_takeFrom 28 = .ok (.ireturn, 1) := by decide +kernel
theorem dX8_init_0 : decode cX8_init 0 = .ok (.aload_n 0, 1) := by decide +kernel
theorem dX8_init_1 : decode cX8_init 1 = .ok (.invokespecial 3, 3) := by decide +kernel
theorem dX8_init_4 : decode cX8_init 4 = .ok (.aload_n 0, 1) := by decide +kernel
theorem dX8_init_5 : decode cX8_init 5 = .ok (.bipush 64, 2) := by decide +kernel
theorem dX8_init_7 : decode cX8_init 7 = .ok (.newarray .int, 2) := by decide +kernel
theorem dX8_init_9 : decode cX8_init 9 = .ok (.putfield 9, 3) := by decide +kernel
theorem dX8_init_12 : decode cX8_init 12 = .ok (.aload_n 0, 1) := by decide +kernel
theorem dX8_init_13 : decode cX8_init 13 = .ok (.bipush 64, 2) := by decide +kernel
theorem dX8_init_15 : decode cX8_init 15 = .ok (.newarray .long, 2) := by decide +kernel
theorem dX8_init_17 : decode cX8_init 17 = .ok (.putfield 15, 3) := by decide +kernel
theorem dX8_init_20 : decode cX8_init 20 = .ok (.aload_n 0, 1) := by decide +kernel
theorem dX8_init_21 : decode cX8_init 21 = .ok (.bipush 64, 2) := by decide +kernel
theorem dX8_init_23 : decode cX8_init 23 = .ok (.newarray .long, 2) := by decide +kernel
theorem dX8_init_25 : decode cX8_init 25 = .ok (.putfield 19, 3) := by decide +kernel
theorem dX8_init_28 : decode cX8_init 28 = .ok (.return_, 1) := by decide +kernel
theorem dX8_measure_0 : decode cX8_measure 0 = .ok (.aload_n 0, 1) := by decide +kernel
theorem dX8_measure_1 : decode cX8_measure 1 = .ok (.getfield 9, 3) := by decide +kernel
theorem dX8_measure_4 : decode cX8_measure 4 = .ok (.iconst (-1), 1) := by decide +kernel
theorem dX8_measure_5 : decode cX8_measure 5 = .ok (.invokestatic 22, 3) := by decide +kernel
theorem dX8_measure_8 : decode cX8_measure 8 = .ok (.lconst 0, 1) := by decide +kernel
theorem dX8_measure_9 : decode cX8_measure 9 = .ok (.lstore 4, 2) := by decide +kernel
theorem dX8_measure_11 : decode cX8_measure 11 = .ok (.lload_n 1, 1) := by decide +kernel
theorem dX8_measure_12 : decode cX8_measure 12 = .ok (.iload_n 3, 1) := by decide +kernel
theorem dX8_measure_13 : decode cX8_measure 13 = .ok (.invokestatic 28, 3) := by decide +kernel
theorem dX8_measure_16 : decode cX8_measure 16 = .ok (.ifCond .eq 10, 3) := by decide +kernel
theorem dX8_measure_19 : decode cX8_measure 19 = .ok (.iload_n 3, 1) := by decide +kernel
theorem dX8_measure_20 : decode cX8_measure 20 = .ok (.invokestatic 34, 3) := by decide +kernel
theorem dX8_measure_23 : decode cX8_measure 23 = .ok (.goto 4, 3) := by decide +kernel
theorem dX8_measure_26 : decode cX8_measure 26 = .ok (.lconst 0, 1) := by decide +kernel
theorem dX8_measure_27 : decode cX8_measure 27 = .ok (.lstore 6, 2) := by decide +kernel
theorem dX8_measure_29 : decode cX8_measure 29 = .ok (.iconst 0, 1) := by decide +kernel
theorem dX8_measure_30 : decode cX8_measure 30 = .ok (.istore 8, 2) := by decide +kernel
theorem dX8_measure_32 : decode cX8_measure 32 = .ok (.iload 8, 2) := by decide +kernel
theorem dX8_measure_34 : decode cX8_measure 34 = .ok (.bipush 64, 2) := by decide +kernel
theorem dX8_measure_36 : decode cX8_measure 36 = .ok (.if_icmp .ge 74, 3) := by decide +kernel
theorem dX8_measure_39 : decode cX8_measure 39 = .ok (.lload 6, 2) := by decide +kernel
theorem dX8_measure_41 : decode cX8_measure 41 = .ok (.lconst 0, 1) := by decide +kernel
theorem dX8_measure_42 : decode cX8_measure 42 = .ok (.lcmp, 1) := by decide +kernel
theorem dX8_measure_43 : decode cX8_measure 43 = .ok (.ifCond .eq 67, 3) := by decide +kernel
theorem dX8_measure_46 : decode cX8_measure 46 = .ok (.iconst 0, 1) := by decide +kernel
theorem dX8_measure_47 : decode cX8_measure 47 = .ok (.istore 9, 2) := by decide +kernel
theorem dX8_measure_49 : decode cX8_measure 49 = .ok (.iload 9, 2) := by decide +kernel
theorem dX8_measure_51 : decode cX8_measure 51 = .ok (.bipush 64, 2) := by decide +kernel
theorem dX8_measure_53 : decode cX8_measure 53 = .ok (.if_icmp .ge 28, 3) := by decide +kernel
theorem dX8_measure_56 : decode cX8_measure 56 = .ok (.lload 6, 2) := by decide +kernel
theorem dX8_measure_58 : decode cX8_measure 58 = .ok (.iload 9, 2) := by decide +kernel
theorem dX8_measure_60 : decode cX8_measure 60 = .ok (.invokestatic 28, 3) := by decide +kernel
theorem dX8_measure_63 : decode cX8_measure 63 = .ok (.ifCond .eq 12, 3) := by decide +kernel
theorem dX8_measure_66 : decode cX8_measure 66 = .ok (.aload_n 0, 1) := by decide +kernel
theorem dX8_measure_67 : decode cX8_measure 67 = .ok (.getfield 9, 3) := by decide +kernel
theorem dX8_measure_70 : decode cX8_measure 70 = .ok (.iload 9, 2) := by decide +kernel
theorem dX8_measure_72 : decode cX8_measure 72 = .ok (.iload 8, 2) := by decide +kernel
theorem dX8_measure_74 : decode cX8_measure 74 = .ok (.iastore, 1) := by decide +kernel
theorem dX8_measure_75 : decode cX8_measure 75 = .ok (.iinc 9 1, 3) := by decide +kernel
theorem dX8_measure_78 : decode cX8_measure 78 = .ok (.goto (-29), 3) := by decide +kernel
theorem dX8_measure_81 : decode cX8_measure 81 = .ok (.lload 4, 2) := by decide +kernel
theorem dX8_measure_83 : decode cX8_measure 83 = .ok (.lload 6, 2) := by decide +kernel
theorem dX8_measure_85 : decode cX8_measure 85 = .ok (.lor, 1) := by decide +kernel
theorem dX8_measure_86 : decode cX8_measure 86 = .ok (.lstore 4, 2) := by decide +kernel
theorem dX8_measure_88 : decode cX8_measure 88 = .ok (.lload 6, 2) := by decide +kernel
theorem dX8_measure_90 : decode cX8_measure 90 = .ok (.invokestatic 38, 3) := by decide +kernel
theorem dX8_measure_93 : decode cX8_measure 93 = .ok (.lload_n 1, 1) := by decide +kernel
theorem dX8_measure_94 : decode cX8_measure 94 = .ok (.land, 1) := by decide +kernel
theorem dX8_measure_95 : decode cX8_measure 95 = .ok (.lload 4, 2) := by decide +kernel
theorem dX8_measure_97 : decode cX8_measure 97 = .ok (.ldc2_w 42, 3) := by decide +kernel
theorem dX8_measure_100 : decode cX8_measure 100 = .ok (.lxor, 1) := by decide +kernel
theorem dX8_measure_101 : decode cX8_measure 101 = .ok (.land, 1) := by decide +kernel
theorem dX8_measure_102 : decode cX8_measure 102 = .ok (.lstore 6, 2) := by decide +kernel
theorem dX8_measure_104 : decode cX8_measure 104 = .ok (.iinc 8 1, 3) := by decide +kernel
theorem dX8_measure_107 : decode cX8_measure 107 = .ok (.goto (-75), 3) := by decide +kernel
theorem dX8_measure_110 : decode cX8_measure 110 = .ok (.return_, 1) := by decide +kernel
theorem dX8_leastBeside_0 : decode cX8_leastBeside 0 = .ok (.iload_n 1, 1) := by decide +kernel
theorem dX8_leastBeside_1 : decode cX8_leastBeside 1 = .ok (.invokestatic 34, 3) := by decide +kernel
theorem dX8_leastBeside_4 : decode cX8_leastBeside 4 = .ok (.invokestatic 38, 3) := by decide +kernel
theorem dX8_leastBeside_7 : decode cX8_leastBeside 7 = .ok (.lstore_n 3, 1) := by decide +kernel
theorem dX8_leastBeside_8 : decode cX8_leastBeside 8 = .ok (.iconst 0, 1) := by decide +kernel
theorem dX8_leastBeside_9 : decode cX8_leastBeside 9 = .ok (.istore 5, 2) := by decide +kernel
theorem dX8_leastBeside_11 : decode cX8_leastBeside 11 = .ok (.iload 5, 2) := by decide +kernel
theorem dX8_leastBeside_13 : decode cX8_leastBeside 13 = .ok (.bipush 64, 2) := by decide +kernel
theorem dX8_leastBeside_15 : decode cX8_leastBeside 15 = .ok (.if_icmp .ge 32, 3) := by decide +kernel
theorem dX8_leastBeside_18 : decode cX8_leastBeside 18 = .ok (.lload_n 3, 1) := by decide +kernel
theorem dX8_leastBeside_19 : decode cX8_leastBeside 19 = .ok (.iload 5, 2) := by decide +kernel
theorem dX8_leastBeside_21 : decode cX8_leastBeside 21 = .ok (.invokestatic 28, 3) := by decide +kernel
theorem dX8_leastBeside_24 : decode cX8_leastBeside 24 = .ok (.ifCond .eq 17, 3) := by decide +kernel
theorem dX8_leastBeside_27 : decode cX8_leastBeside 27 = .ok (.aload_n 0, 1) := by decide +kernel
theorem dX8_leastBeside_28 : decode cX8_leastBeside 28 = .ok (.getfield 9, 3) := by decide +kernel
theorem dX8_leastBeside_31 : decode cX8_leastBeside 31 = .ok (.iload 5, 2) := by decide +kernel
theorem dX8_leastBeside_33 : decode cX8_leastBeside 33 = .ok (.iaload, 1) := by decide +kernel
theorem dX8_leastBeside_34 : decode cX8_leastBeside 34 = .ok (.iload_n 2, 1) := by decide +kernel
theorem dX8_leastBeside_35 : decode cX8_leastBeside 35 = .ok (.if_icmp .ne 6, 3) := by decide +kernel
theorem dX8_leastBeside_38 : decode cX8_leastBeside 38 = .ok (.iload 5, 2) := by decide +kernel
theorem dX8_leastBeside_40 : decode cX8_leastBeside 40 = .ok (.ireturn, 1) := by decide +kernel
theorem dX8_leastBeside_41 : decode cX8_leastBeside 41 = .ok (.iinc 5 1, 3) := by decide +kernel
theorem dX8_leastBeside_44 : decode cX8_leastBeside 44 = .ok (.goto (-33), 3) := by decide +kernel
theorem dX8_leastBeside_47 : decode cX8_leastBeside 47 = .ok (.iload_n 1, 1) := by decide +kernel
theorem dX8_leastBeside_48 : decode cX8_leastBeside 48 = .ok (.ireturn, 1) := by decide +kernel
theorem dX8_countWays_0 : decode cX8_countWays 0 = .ok (.aload_n 0, 1) := by decide +kernel
theorem dX8_countWays_1 : decode cX8_countWays 1 = .ok (.getfield 15, 3) := by decide +kernel
theorem dX8_countWays_4 : decode cX8_countWays 4 = .ok (.lconst 0, 1) := by decide +kernel
theorem dX8_countWays_5 : decode cX8_countWays 5 = .ok (.invokestatic 44, 3) := by decide +kernel
theorem dX8_countWays_8 : decode cX8_countWays 8 = .ok (.lload_n 1, 1) := by decide +kernel
theorem dX8_countWays_9 : decode cX8_countWays 9 = .ok (.iload_n 3, 1) := by decide +kernel
theorem dX8_countWays_10 : decode cX8_countWays 10 = .ok (.invokestatic 28, 3) := by decide +kernel
theorem dX8_countWays_13 : decode cX8_countWays 13 = .ok (.ifCond .eq 10, 3) := by decide +kernel
theorem dX8_countWays_16 : decode cX8_countWays 16 = .ok (.aload_n 0, 1) := by decide +kernel
theorem dX8_countWays_17 : decode cX8_countWays 17 = .ok (.getfield 15, 3) := by decide +kernel
theorem dX8_countWays_20 : decode cX8_countWays 20 = .ok (.iload_n 3, 1) := by decide +kernel
theorem dX8_countWays_21 : decode cX8_countWays 21 = .ok (.lconst 1, 1) := by decide +kernel
theorem dX8_countWays_22 : decode cX8_countWays 22 = .ok (.lastore, 1) := by decide +kernel
theorem dX8_countWays_23 : decode cX8_countWays 23 = .ok (.iconst 0, 1) := by decide +kernel
theorem dX8_countWays_24 : decode cX8_countWays 24 = .ok (.istore 5, 2) := by decide +kernel
theorem dX8_countWays_26 : decode cX8_countWays 26 = .ok (.iload 5, 2) := by decide +kernel
theorem dX8_countWays_28 : decode cX8_countWays 28 = .ok (.iload 4, 2) := by decide +kernel
theorem dX8_countWays_30 : decode cX8_countWays 30 = .ok (.if_icmp .ge 66, 3) := by decide +kernel
theorem dX8_countWays_33 : decode cX8_countWays 33 = .ok (.iconst 0, 1) := by decide +kernel
theorem dX8_countWays_34 : decode cX8_countWays 34 = .ok (.istore 6, 2) := by decide +kernel
theorem dX8_countWays_36 : decode cX8_countWays 36 = .ok (.iload 6, 2) := by decide +kernel
theorem dX8_countWays_38 : decode cX8_countWays 38 = .ok (.bipush 64, 2) := by decide +kernel
theorem dX8_countWays_40 : decode cX8_countWays 40 = .ok (.if_icmp .ge 35, 3) := by decide +kernel
theorem dX8_countWays_43 : decode cX8_countWays 43 = .ok (.aload_n 0, 1) := by decide +kernel
theorem dX8_countWays_44 : decode cX8_countWays 44 = .ok (.getfield 19, 3) := by decide +kernel
theorem dX8_countWays_47 : decode cX8_countWays 47 = .ok (.iload 6, 2) := by decide +kernel
theorem dX8_countWays_49 : decode cX8_countWays 49 = .ok (.lload_n 1, 1) := by decide +kernel
theorem dX8_countWays_50 : decode cX8_countWays 50 = .ok (.iload 6, 2) := by decide +kernel
theorem dX8_countWays_52 : decode cX8_countWays 52 = .ok (.invokestatic 28, 3) := by decide +kernel
theorem dX8_countWays_55 : decode cX8_countWays 55 = .ok (.ifCond .eq 12, 3) := by decide +kernel
theorem dX8_countWays_58 : decode cX8_countWays 58 = .ok (.aload_n 0, 1) := by decide +kernel
theorem dX8_countWays_59 : decode cX8_countWays 59 = .ok (.iload 6, 2) := by decide +kernel
theorem dX8_countWays_61 : decode cX8_countWays 61 = .ok (.invokevirtual 47, 3) := by decide +kernel
theorem dX8_countWays_64 : decode cX8_countWays 64 = .ok (.goto 4, 3) := by decide +kernel
theorem dX8_countWays_67 : decode cX8_countWays 67 = .ok (.lconst 0, 1) := by decide +kernel
theorem dX8_countWays_68 : decode cX8_countWays 68 = .ok (.lastore, 1) := by decide +kernel
theorem dX8_countWays_69 : decode cX8_countWays 69 = .ok (.iinc 6 1, 3) := by decide +kernel
theorem dX8_countWays_72 : decode cX8_countWays 72 = .ok (.goto (-36), 3) := by decide +kernel
theorem dX8_countWays_75 : decode cX8_countWays 75 = .ok (.aload_n 0, 1) := by decide +kernel
theorem dX8_countWays_76 : decode cX8_countWays 76 = .ok (.getfield 19, 3) := by decide +kernel
theorem dX8_countWays_79 : decode cX8_countWays 79 = .ok (.iconst 0, 1) := by decide +kernel
theorem dX8_countWays_80 : decode cX8_countWays 80 = .ok (.aload_n 0, 1) := by decide +kernel
theorem dX8_countWays_81 : decode cX8_countWays 81 = .ok (.getfield 15, 3) := by decide +kernel
theorem dX8_countWays_84 : decode cX8_countWays 84 = .ok (.iconst 0, 1) := by decide +kernel
theorem dX8_countWays_85 : decode cX8_countWays 85 = .ok (.bipush 64, 2) := by decide +kernel
theorem dX8_countWays_87 : decode cX8_countWays 87 = .ok (.invokestatic 50, 3) := by decide +kernel
theorem dX8_countWays_90 : decode cX8_countWays 90 = .ok (.iinc 5 1, 3) := by decide +kernel
theorem dX8_countWays_93 : decode cX8_countWays 93 = .ok (.goto (-67), 3) := by decide +kernel
theorem dX8_countWays_96 : decode cX8_countWays 96 = .ok (.return_, 1) := by decide +kernel
theorem dX8_sumBeside_0 : decode cX8_sumBeside 0 = .ok (.lconst 0, 1) := by decide +kernel
theorem dX8_sumBeside_1 : decode cX8_sumBeside 1 = .ok (.lstore_n 2, 1) := by decide +kernel
theorem dX8_sumBeside_2 : decode cX8_sumBeside 2 = .ok (.iconst 0, 1) := by decide +kernel
theorem dX8_sumBeside_3 : decode cX8_sumBeside 3 = .ok (.istore 4, 2) := by decide +kernel
theorem dX8_sumBeside_5 : decode cX8_sumBeside 5 = .ok (.iload 4, 2) := by decide +kernel
theorem dX8_sumBeside_7 : decode cX8_sumBeside 7 = .ok (.iconst 3, 1) := by decide +kernel
theorem dX8_sumBeside_8 : decode cX8_sumBeside 8 = .ok (.if_icmp .gt 37, 3) := by decide +kernel
theorem dX8_sumBeside_11 : decode cX8_sumBeside 11 = .ok (.iload_n 1, 1) := by decide +kernel
theorem dX8_sumBeside_12 : decode cX8_sumBeside 12 = .ok (.iload 4, 2) := by decide +kernel
theorem dX8_sumBeside_14 : decode cX8_sumBeside 14 = .ok (.invokestatic 56, 3) := by decide +kernel
theorem dX8_sumBeside_17 : decode cX8_sumBeside 17 = .ok (.istore 5, 2) := by decide +kernel
theorem dX8_sumBeside_19 : decode cX8_sumBeside 19 = .ok (.lload_n 2, 1) := by decide +kernel
theorem dX8_sumBeside_20 : decode cX8_sumBeside 20 = .ok (.iload 5, 2) := by decide +kernel
theorem dX8_sumBeside_22 : decode cX8_sumBeside 22 = .ok (.iconst (-1), 1) := by decide +kernel
theorem dX8_sumBeside_23 : decode cX8_sumBeside 23 = .ok (.if_icmp .ne 7, 3) := by decide +kernel
theorem dX8_sumBeside_26 : decode cX8_sumBeside 26 = .ok (.lconst 0, 1) := by decide +kernel
theorem dX8_sumBeside_27 : decode cX8_sumBeside 27 = .ok (.goto 10, 3) := by decide +kernel
theorem dX8_sumBeside_30 : decode cX8_sumBeside 30 = .ok (.aload_n 0, 1) := by decide +kernel
theorem dX8_sumBeside_31 : decode cX8_sumBeside 31 = .ok (.getfield 15, 3) := by decide +kernel
theorem dX8_sumBeside_34 : decode cX8_sumBeside 34 = .ok (.iload 5, 2) := by decide +kernel
theorem dX8_sumBeside_36 : decode cX8_sumBeside 36 = .ok (.laload, 1) := by decide +kernel
theorem dX8_sumBeside_37 : decode cX8_sumBeside 37 = .ok (.ladd, 1) := by decide +kernel
theorem dX8_sumBeside_38 : decode cX8_sumBeside 38 = .ok (.lstore_n 2, 1) := by decide +kernel
theorem dX8_sumBeside_39 : decode cX8_sumBeside 39 = .ok (.iinc 4 1, 3) := by decide +kernel
theorem dX8_sumBeside_42 : decode cX8_sumBeside 42 = .ok (.goto (-37), 3) := by decide +kernel
theorem dX8_sumBeside_45 : decode cX8_sumBeside 45 = .ok (.ldc2_w 60, 3) := by decide +kernel
theorem dX8_sumBeside_48 : decode cX8_sumBeside 48 = .ok (.lload_n 2, 1) := by decide +kernel
theorem dX8_sumBeside_49 : decode cX8_sumBeside 49 = .ok (.invokestatic 62, 3) := by decide +kernel
theorem dX8_sumBeside_52 : decode cX8_sumBeside 52 = .ok (.lreturn, 1) := by decide +kernel
theorem dX8_leastWithWay_0 : decode cX8_leastWithWay 0 = .ok (.iload_n 1, 1) := by decide +kernel
theorem dX8_leastWithWay_1 : decode cX8_leastWithWay 1 = .ok (.invokestatic 34, 3) := by decide +kernel
theorem dX8_leastWithWay_4 : decode cX8_leastWithWay 4 = .ok (.invokestatic 38, 3) := by decide +kernel
theorem dX8_leastWithWay_7 : decode cX8_leastWithWay 7 = .ok (.lstore_n 2, 1) := by decide +kernel
theorem dX8_leastWithWay_8 : decode cX8_leastWithWay 8 = .ok (.iconst 0, 1) := by decide +kernel
theorem dX8_leastWithWay_9 : decode cX8_leastWithWay 9 = .ok (.istore 4, 2) := by decide +kernel
theorem dX8_leastWithWay_11 : decode cX8_leastWithWay 11 = .ok (.iload 4, 2) := by decide +kernel
theorem dX8_leastWithWay_13 : decode cX8_leastWithWay 13 = .ok (.bipush 64, 2) := by decide +kernel
theorem dX8_leastWithWay_15 : decode cX8_leastWithWay 15 = .ok (.if_icmp .ge 33, 3) := by decide +kernel
theorem dX8_leastWithWay_18 : decode cX8_leastWithWay 18 = .ok (.lload_n 2, 1) := by decide +kernel
theorem dX8_leastWithWay_19 : decode cX8_leastWithWay 19 = .ok (.iload 4, 2) := by decide +kernel
theorem dX8_leastWithWay_21 : decode cX8_leastWithWay 21 = .ok (.invokestatic 28, 3) := by decide +kernel
theorem dX8_leastWithWay_24 : decode cX8_leastWithWay 24 = .ok (.ifCond .eq 18, 3) := by decide +kernel
theorem dX8_leastWithWay_27 : decode cX8_leastWithWay 27 = .ok (.aload_n 0, 1) := by decide +kernel
theorem dX8_leastWithWay_28 : decode cX8_leastWithWay 28 = .ok (.getfield 15, 3) := by decide +kernel
theorem dX8_leastWithWay_31 : decode cX8_leastWithWay 31 = .ok (.iload 4, 2) := by decide +kernel
theorem dX8_leastWithWay_33 : decode cX8_leastWithWay 33 = .ok (.laload, 1) := by decide +kernel
theorem dX8_leastWithWay_34 : decode cX8_leastWithWay 34 = .ok (.lconst 0, 1) := by decide +kernel
theorem dX8_leastWithWay_35 : decode cX8_leastWithWay 35 = .ok (.lcmp, 1) := by decide +kernel
theorem dX8_leastWithWay_36 : decode cX8_leastWithWay 36 = .ok (.ifCond .le 6, 3) := by decide +kernel
theorem dX8_leastWithWay_39 : decode cX8_leastWithWay 39 = .ok (.iload 4, 2) := by decide +kernel
theorem dX8_leastWithWay_41 : decode cX8_leastWithWay 41 = .ok (.ireturn, 1) := by decide +kernel
theorem dX8_leastWithWay_42 : decode cX8_leastWithWay 42 = .ok (.iinc 4 1, 3) := by decide +kernel
theorem dX8_leastWithWay_45 : decode cX8_leastWithWay 45 = .ok (.goto (-34), 3) := by decide +kernel
theorem dX8_leastWithWay_48 : decode cX8_leastWithWay 48 = .ok (.iconst (-1), 1) := by decide +kernel
theorem dX8_leastWithWay_49 : decode cX8_leastWithWay 49 = .ok (.ireturn, 1) := by decide +kernel
theorem dX8_stray_0 : decode cX8_stray 0 = .ok (.aload_n 0, 1) := by decide +kernel
theorem dX8_stray_1 : decode cX8_stray 1 = .ok (.getfield 15, 3) := by decide +kernel
theorem dX8_stray_4 : decode cX8_stray 4 = .ok (.lconst 0, 1) := by decide +kernel
theorem dX8_stray_5 : decode cX8_stray 5 = .ok (.invokestatic 44, 3) := by decide +kernel
theorem dX8_stray_8 : decode cX8_stray 8 = .ok (.lload_n 1, 1) := by decide +kernel
theorem dX8_stray_9 : decode cX8_stray 9 = .ok (.iload_n 3, 1) := by decide +kernel
theorem dX8_stray_10 : decode cX8_stray 10 = .ok (.invokestatic 28, 3) := by decide +kernel
theorem dX8_stray_13 : decode cX8_stray 13 = .ok (.ifCond .eq 12, 3) := by decide +kernel
theorem dX8_stray_16 : decode cX8_stray 16 = .ok (.aload_n 0, 1) := by decide +kernel
theorem dX8_stray_17 : decode cX8_stray 17 = .ok (.getfield 15, 3) := by decide +kernel
theorem dX8_stray_20 : decode cX8_stray 20 = .ok (.iload_n 3, 1) := by decide +kernel
theorem dX8_stray_21 : decode cX8_stray 21 = .ok (.ldc2_w 60, 3) := by decide +kernel
theorem dX8_stray_24 : decode cX8_stray 24 = .ok (.lastore, 1) := by decide +kernel
theorem dX8_stray_25 : decode cX8_stray 25 = .ok (.iconst 0, 1) := by decide +kernel
theorem dX8_stray_26 : decode cX8_stray 26 = .ok (.istore 5, 2) := by decide +kernel
theorem dX8_stray_28 : decode cX8_stray 28 = .ok (.iload 5, 2) := by decide +kernel
theorem dX8_stray_30 : decode cX8_stray 30 = .ok (.iload 4, 2) := by decide +kernel
theorem dX8_stray_32 : decode cX8_stray 32 = .ok (.if_icmp .ge 67, 3) := by decide +kernel
theorem dX8_stray_35 : decode cX8_stray 35 = .ok (.aload_n 0, 1) := by decide +kernel
theorem dX8_stray_36 : decode cX8_stray 36 = .ok (.getfield 19, 3) := by decide +kernel
theorem dX8_stray_39 : decode cX8_stray 39 = .ok (.lconst 0, 1) := by decide +kernel
theorem dX8_stray_40 : decode cX8_stray 40 = .ok (.invokestatic 44, 3) := by decide +kernel
theorem dX8_stray_43 : decode cX8_stray 43 = .ok (.iconst 0, 1) := by decide +kernel
theorem dX8_stray_44 : decode cX8_stray 44 = .ok (.istore 6, 2) := by decide +kernel
theorem dX8_stray_46 : decode cX8_stray 46 = .ok (.iload 6, 2) := by decide +kernel
theorem dX8_stray_48 : decode cX8_stray 48 = .ok (.bipush 64, 2) := by decide +kernel
theorem dX8_stray_50 : decode cX8_stray 50 = .ok (.if_icmp .ge 28, 3) := by decide +kernel
theorem dX8_stray_53 : decode cX8_stray 53 = .ok (.aload_n 0, 1) := by decide +kernel
theorem dX8_stray_54 : decode cX8_stray 54 = .ok (.getfield 15, 3) := by decide +kernel
theorem dX8_stray_57 : decode cX8_stray 57 = .ok (.iload 6, 2) := by decide +kernel
theorem dX8_stray_59 : decode cX8_stray 59 = .ok (.laload, 1) := by decide +kernel
theorem dX8_stray_60 : decode cX8_stray 60 = .ok (.lconst 0, 1) := by decide +kernel
theorem dX8_stray_61 : decode cX8_stray 61 = .ok (.lcmp, 1) := by decide +kernel
theorem dX8_stray_62 : decode cX8_stray 62 = .ok (.ifCond .le 10, 3) := by decide +kernel
theorem dX8_stray_65 : decode cX8_stray 65 = .ok (.aload_n 0, 1) := by decide +kernel
theorem dX8_stray_66 : decode cX8_stray 66 = .ok (.lload_n 1, 1) := by decide +kernel
theorem dX8_stray_67 : decode cX8_stray 67 = .ok (.iload 6, 2) := by decide +kernel
theorem dX8_stray_69 : decode cX8_stray 69 = .ok (.invokevirtual 68, 3) := by decide +kernel
theorem dX8_stray_72 : decode cX8_stray 72 = .ok (.iinc 6 1, 3) := by decide +kernel
theorem dX8_stray_75 : decode cX8_stray 75 = .ok (.goto (-29), 3) := by decide +kernel
theorem dX8_stray_78 : decode cX8_stray 78 = .ok (.aload_n 0, 1) := by decide +kernel
theorem dX8_stray_79 : decode cX8_stray 79 = .ok (.getfield 19, 3) := by decide +kernel
theorem dX8_stray_82 : decode cX8_stray 82 = .ok (.iconst 0, 1) := by decide +kernel
theorem dX8_stray_83 : decode cX8_stray 83 = .ok (.aload_n 0, 1) := by decide +kernel
theorem dX8_stray_84 : decode cX8_stray 84 = .ok (.getfield 15, 3) := by decide +kernel
theorem dX8_stray_87 : decode cX8_stray 87 = .ok (.iconst 0, 1) := by decide +kernel
theorem dX8_stray_88 : decode cX8_stray 88 = .ok (.bipush 64, 2) := by decide +kernel
theorem dX8_stray_90 : decode cX8_stray 90 = .ok (.invokestatic 50, 3) := by decide +kernel
theorem dX8_stray_93 : decode cX8_stray 93 = .ok (.iinc 5 1, 3) := by decide +kernel
theorem dX8_stray_96 : decode cX8_stray 96 = .ok (.goto (-68), 3) := by decide +kernel
theorem dX8_stray_99 : decode cX8_stray 99 = .ok (.return_, 1) := by decide +kernel
theorem dX8_shareOut_0 : decode cX8_shareOut 0 = .ok (.iconst 1, 1) := by decide +kernel
theorem dX8_shareOut_1 : decode cX8_shareOut 1 = .ok (.iload_n 3, 1) := by decide +kernel
theorem dX8_shareOut_2 : decode cX8_shareOut 2 = .ok (.invokestatic 34, 3) := by decide +kernel
theorem dX8_shareOut_5 : decode cX8_shareOut 5 = .ok (.invokestatic 38, 3) := by decide +kernel
theorem dX8_shareOut_8 : decode cX8_shareOut 8 = .ok (.lload_n 1, 1) := by decide +kernel
theorem dX8_shareOut_9 : decode cX8_shareOut 9 = .ok (.land, 1) := by decide +kernel
theorem dX8_shareOut_10 : decode cX8_shareOut 10 = .ok (.invokestatic 72, 3) := by decide +kernel
theorem dX8_shareOut_13 : decode cX8_shareOut 13 = .ok (.iadd, 1) := by decide +kernel
theorem dX8_shareOut_14 : decode cX8_shareOut 14 = .ok (.istore 4, 2) := by decide +kernel
theorem dX8_shareOut_16 : decode cX8_shareOut 16 = .ok (.aload_n 0, 1) := by decide +kernel
theorem dX8_shareOut_17 : decode cX8_shareOut 17 = .ok (.getfield 15, 3) := by decide +kernel
theorem dX8_shareOut_20 : decode cX8_shareOut 20 = .ok (.iload_n 3, 1) := by decide +kernel
theorem dX8_shareOut_21 : decode cX8_shareOut 21 = .ok (.laload, 1) := by decide +kernel
theorem dX8_shareOut_22 : decode cX8_shareOut 22 = .ok (.iload 4, 2) := by decide +kernel
theorem dX8_shareOut_24 : decode cX8_shareOut 24 = .ok (.i2l, 1) := by decide +kernel
theorem dX8_shareOut_25 : decode cX8_shareOut 25 = .ok (.ldiv, 1) := by decide +kernel
theorem dX8_shareOut_26 : decode cX8_shareOut 26 = .ok (.lstore 5, 2) := by decide +kernel
theorem dX8_shareOut_28 : decode cX8_shareOut 28 = .ok (.aload_n 0, 1) := by decide +kernel
theorem dX8_shareOut_29 : decode cX8_shareOut 29 = .ok (.getfield 19, 3) := by decide +kernel
theorem dX8_shareOut_32 : decode cX8_shareOut 32 = .ok (.iload_n 3, 1) := by decide +kernel
theorem dX8_shareOut_33 : decode cX8_shareOut 33 = .ok (.dup2, 1) := by decide +kernel
theorem dX8_shareOut_34 : decode cX8_shareOut 34 = .ok (.laload, 1) := by decide +kernel
theorem dX8_shareOut_35 : decode cX8_shareOut 35 = .ok (.lload 5, 2) := by decide +kernel
theorem dX8_shareOut_37 : decode cX8_shareOut 37 = .ok (.ladd, 1) := by decide +kernel
theorem dX8_shareOut_38 : decode cX8_shareOut 38 = .ok (.lastore, 1) := by decide +kernel
theorem dX8_shareOut_39 : decode cX8_shareOut 39 = .ok (.iconst 0, 1) := by decide +kernel
theorem dX8_shareOut_40 : decode cX8_shareOut 40 = .ok (.istore 7, 2) := by decide +kernel
theorem dX8_shareOut_42 : decode cX8_shareOut 42 = .ok (.iload 7, 2) := by decide +kernel
theorem dX8_shareOut_44 : decode cX8_shareOut 44 = .ok (.iconst 3, 1) := by decide +kernel
theorem dX8_shareOut_45 : decode cX8_shareOut 45 = .ok (.if_icmp .gt 38, 3) := by decide +kernel
theorem dX8_shareOut_48 : decode cX8_shareOut 48 = .ok (.iload_n 3, 1) := by decide +kernel
theorem dX8_shareOut_49 : decode cX8_shareOut 49 = .ok (.iload 7, 2) := by decide +kernel
theorem dX8_shareOut_51 : decode cX8_shareOut 51 = .ok (.invokestatic 56, 3) := by decide +kernel
theorem dX8_shareOut_54 : decode cX8_shareOut 54 = .ok (.istore 8, 2) := by decide +kernel
theorem dX8_shareOut_56 : decode cX8_shareOut 56 = .ok (.lload_n 1, 1) := by decide +kernel
theorem dX8_shareOut_57 : decode cX8_shareOut 57 = .ok (.iload 8, 2) := by decide +kernel
theorem dX8_shareOut_59 : decode cX8_shareOut 59 = .ok (.invokestatic 28, 3) := by decide +kernel
theorem dX8_shareOut_62 : decode cX8_shareOut 62 = .ok (.ifCond .eq 15, 3) := by decide +kernel
theorem dX8_shareOut_65 : decode cX8_shareOut 65 = .ok (.aload_n 0, 1) := by decide +kernel
theorem dX8_shareOut_66 : decode cX8_shareOut 66 = .ok (.getfield 19, 3) := by decide +kernel
theorem dX8_shareOut_69 : decode cX8_shareOut 69 = .ok (.iload 8, 2) := by decide +kernel
theorem dX8_shareOut_71 : decode cX8_shareOut 71 = .ok (.dup2, 1) := by decide +kernel
theorem dX8_shareOut_72 : decode cX8_shareOut 72 = .ok (.laload, 1) := by decide +kernel
theorem dX8_shareOut_73 : decode cX8_shareOut 73 = .ok (.lload 5, 2) := by decide +kernel
theorem dX8_shareOut_75 : decode cX8_shareOut 75 = .ok (.ladd, 1) := by decide +kernel
theorem dX8_shareOut_76 : decode cX8_shareOut 76 = .ok (.lastore, 1) := by decide +kernel
theorem dX8_shareOut_77 : decode cX8_shareOut 77 = .ok (.iinc 7 1, 3) := by decide +kernel
theorem dX8_shareOut_80 : decode cX8_shareOut 80 = .ok (.goto (-38), 3) := by decide +kernel
theorem dX8_shareOut_83 : decode cX8_shareOut 83 = .ok (.return_, 1) := by decide +kernel
theorem dX8_likeliest_0 : decode cX8_likeliest 0 = .ok (.iconst (-1), 1) := by decide +kernel
theorem dX8_likeliest_1 : decode cX8_likeliest 1 = .ok (.istore_n 1, 1) := by decide +kernel
theorem dX8_likeliest_2 : decode cX8_likeliest 2 = .ok (.lconst 0, 1) := by decide +kernel
theorem dX8_likeliest_3 : decode cX8_likeliest 3 = .ok (.lstore_n 2, 1) := by decide +kernel
theorem dX8_likeliest_4 : decode cX8_likeliest 4 = .ok (.iconst 0, 1) := by decide +kernel
theorem dX8_likeliest_5 : decode cX8_likeliest 5 = .ok (.istore 4, 2) := by decide +kernel
theorem dX8_likeliest_7 : decode cX8_likeliest 7 = .ok (.iload 4, 2) := by decide +kernel
theorem dX8_likeliest_9 : decode cX8_likeliest 9 = .ok (.bipush 64, 2) := by decide +kernel
theorem dX8_likeliest_11 : decode cX8_likeliest 11 = .ok (.if_icmp .ge 32, 3) := by decide +kernel
theorem dX8_likeliest_14 : decode cX8_likeliest 14 = .ok (.aload_n 0, 1) := by decide +kernel
theorem dX8_likeliest_15 : decode cX8_likeliest 15 = .ok (.getfield 15, 3) := by decide +kernel
theorem dX8_likeliest_18 : decode cX8_likeliest 18 = .ok (.iload 4, 2) := by decide +kernel
theorem dX8_likeliest_20 : decode cX8_likeliest 20 = .ok (.laload, 1) := by decide +kernel
theorem dX8_likeliest_21 : decode cX8_likeliest 21 = .ok (.lload_n 2, 1) := by decide +kernel
theorem dX8_likeliest_22 : decode cX8_likeliest 22 = .ok (.lcmp, 1) := by decide +kernel
theorem dX8_likeliest_23 : decode cX8_likeliest 23 = .ok (.ifCond .le 14, 3) := by decide +kernel
theorem dX8_likeliest_26 : decode cX8_likeliest 26 = .ok (.aload_n 0, 1) := by decide +kernel
theorem dX8_likeliest_27 : decode cX8_likeliest 27 = .ok (.getfield 15, 3) := by decide +kernel
theorem dX8_likeliest_30 : decode cX8_likeliest 30 = .ok (.iload 4, 2) := by decide +kernel
theorem dX8_likeliest_32 : decode cX8_likeliest 32 = .ok (.laload, 1) := by decide +kernel
theorem dX8_likeliest_33 : decode cX8_likeliest 33 = .ok (.lstore_n 2, 1) := by decide +kernel
theorem dX8_likeliest_34 : decode cX8_likeliest 34 = .ok (.iload 4, 2) := by decide +kernel
theorem dX8_likeliest_36 : decode cX8_likeliest 36 = .ok (.istore_n 1, 1) := by decide +kernel
theorem dX8_likeliest_37 : decode cX8_likeliest 37 = .ok (.iinc 4 1, 3) := by decide +kernel
theorem dX8_likeliest_40 : decode cX8_likeliest 40 = .ok (.goto (-33), 3) := by decide +kernel
theorem dX8_likeliest_43 : decode cX8_likeliest 43 = .ok (.iload_n 1, 1) := by decide +kernel
theorem dX8_likeliest_44 : decode cX8_likeliest 44 = .ok (.ireturn, 1) := by decide +kernel
theorem dX9_init_0 : decode cX9_init 0 = .ok (.aload_n 0, 1) := by decide +kernel
theorem dX9_init_1 : decode cX9_init 1 = .ok (.invokespecial 3, 3) := by decide +kernel
theorem dX9_init_4 : decode cX9_init 4 = .ok (.aload_n 0, 1) := by decide +kernel
theorem dX9_init_5 : decode cX9_init 5 = .ok (.bipush 12, 2) := by decide +kernel
theorem dX9_init_7 : decode cX9_init 7 = .ok (.putfield 9, 3) := by decide +kernel
theorem dX9_init_10 : decode cX9_init 10 = .ok (.aload_n 0, 1) := by decide +kernel
theorem dX9_init_11 : decode cX9_init 11 = .ok (.bipush 6, 2) := by decide +kernel
theorem dX9_init_13 : decode cX9_init 13 = .ok (.putfield 15, 3) := by decide +kernel
theorem dX9_init_16 : decode cX9_init 16 = .ok (.aload_n 0, 1) := by decide +kernel
theorem dX9_init_17 : decode cX9_init 17 = .ok (.bipush 9, 2) := by decide +kernel
theorem dX9_init_19 : decode cX9_init 19 = .ok (.newarray .int, 2) := by decide +kernel
theorem dX9_init_21 : decode cX9_init 21 = .ok (.putfield 20, 3) := by decide +kernel
theorem dX9_init_24 : decode cX9_init 24 = .ok (.aload_n 0, 1) := by decide +kernel
theorem dX9_init_25 : decode cX9_init 25 = .ok (.aload_n 1, 1) := by decide +kernel
theorem dX9_init_26 : decode cX9_init 26 = .ok (.putfield 24, 3) := by decide +kernel
theorem dX9_init_29 : decode cX9_init 29 = .ok (.aload_n 0, 1) := by decide +kernel
theorem dX9_init_30 : decode cX9_init 30 = .ok (.aload_n 2, 1) := by decide +kernel
theorem dX9_init_31 : decode cX9_init 31 = .ok (.putfield 28, 3) := by decide +kernel
theorem dX9_init_34 : decode cX9_init 34 = .ok (.return_, 1) := by decide +kernel
theorem dX9_forgetWeighed_0 : decode cX9_forgetWeighed 0 = .ok (.aload_n 0, 1) := by decide +kernel
theorem dX9_forgetWeighed_1 : decode cX9_forgetWeighed 1 = .ok (.lconst 0, 1) := by decide +kernel
theorem dX9_forgetWeighed_2 : decode cX9_forgetWeighed 2 = .ok (.putfield 32, 3) := by decide +kernel
theorem dX9_forgetWeighed_5 : decode cX9_forgetWeighed 5 = .ok (.return_, 1) := by decide +kernel
theorem dX9_tellingBy_0 : decode cX9_tellingBy 0 = .ok (.aload_n 0, 1) := by decide +kernel
theorem dX9_tellingBy_1 : decode cX9_tellingBy 1 = .ok (.getfield 28, 3) := by decide +kernel
theorem dX9_tellingBy_4 : decode cX9_tellingBy 4 = .ok (.iload_n 1, 1) := by decide +kernel
theorem dX9_tellingBy_5 : decode cX9_tellingBy 5 = .ok (.invokevirtual 36, 3) := by decide +kernel
theorem dX9_tellingBy_8 : decode cX9_tellingBy 8 = .ok (.ifCond .eq 10, 3) := by decide +kernel
theorem dX9_tellingBy_11 : decode cX9_tellingBy 11 = .ok (.aload_n 0, 1) := by decide +kernel
theorem dX9_tellingBy_12 : decode cX9_tellingBy 12 = .ok (.getfield 32, 3) := by decide +kernel
theorem dX9_tellingBy_15 : decode cX9_tellingBy 15 = .ok (.goto 4, 3) := by decide +kernel
theorem dX9_tellingBy_18 : decode cX9_tellingBy 18 = .ok (.lconst 0, 1) := by decide +kernel
theorem dX9_tellingBy_19 : decode cX9_tellingBy 19 = .ok (.lreturn, 1) := by decide +kernel
theorem dX9_pass_0 : decode cX9_pass 0 = .ok (.aload_n 0, 1) := by decide +kernel
theorem dX9_pass_1 : decode cX9_pass 1 = .ok (.getfield 24, 3) := by decide +kernel
theorem dX9_pass_4 : decode cX9_pass 4 = .ok (.aload_n 1, 1) := by decide +kernel
theorem dX9_pass_5 : decode cX9_pass 5 = .ok (.getfield 40, 3) := by decide +kernel
theorem dX9_pass_8 : decode cX9_pass 8 = .ok (.invokevirtual 45, 3) := by decide +kernel
theorem dX9_pass_11 : decode cX9_pass 11 = .ok (.lstore_n 2, 1) := by decide +kernel
theorem dX9_pass_12 : decode cX9_pass 12 = .ok (.iconst 0, 1) := by decide +kernel
theorem dX9_pass_13 : decode cX9_pass 13 = .ok (.istore 4, 2) := by decide +kernel
theorem dX9_pass_15 : decode cX9_pass 15 = .ok (.aload_n 1, 1) := by decide +kernel
theorem dX9_pass_16 : decode cX9_pass 16 = .ok (.dup, 1) := by decide +kernel
theorem dX9_pass_17 : decode cX9_pass 17 = .ok (.getfield 51, 3) := by decide +kernel
theorem dX9_pass_20 : decode cX9_pass 20 = .ok (.iconst 1, 1) := by decide +kernel
theorem dX9_pass_21 : decode cX9_pass 21 = .ok (.iadd, 1) := by decide +kernel
theorem dX9_pass_22 : decode cX9_pass 22 = .ok (.putfield 51, 3) := by decide +kernel
theorem dX9_pass_25 : decode cX9_pass 25 = .ok (.iconst 0, 1) := by decide +kernel
theorem dX9_pass_26 : decode cX9_pass 26 = .ok (.istore 5, 2) := by decide +kernel
theorem dX9_pass_28 : decode cX9_pass 28 = .ok (.iload 5, 2) := by decide +kernel
theorem dX9_pass_30 : decode cX9_pass 30 = .ok (.aload_n 1, 1) := by decide +kernel
theorem dX9_pass_31 : decode cX9_pass 31 = .ok (.getfield 54, 3) := by decide +kernel
theorem dX9_pass_34 : decode cX9_pass 34 = .ok (.if_icmp .ge 68, 3) := by decide +kernel
theorem dX9_pass_37 : decode cX9_pass 37 = .ok (.aload_n 1, 1) := by decide +kernel
theorem dX9_pass_38 : decode cX9_pass 38 = .ok (.getfield 57, 3) := by decide +kernel
theorem dX9_pass_41 : decode cX9_pass 41 = .ok (.iload 5, 2) := by decide +kernel
theorem dX9_pass_43 : decode cX9_pass 43 = .ok (.iaload, 1) := by decide +kernel
theorem dX9_pass_44 : decode cX9_pass 44 = .ok (.istore 6, 2) := by decide +kernel
theorem dX9_pass_46 : decode cX9_pass 46 = .ok (.aload_n 0, 1) := by decide +kernel
theorem dX9_pass_47 : decode cX9_pass 47 = .ok (.aload_n 1, 1) := by decide +kernel
theorem dX9_pass_48 : decode cX9_pass 48 = .ok (.iload 5, 2) := by decide +kernel
theorem dX9_pass_50 : decode cX9_pass 50 = .ok (.lload_n 2, 1) := by decide +kernel
theorem dX9_pass_51 : decode cX9_pass 51 = .ok (.invokevirtual 60, 3) := by decide +kernel
theorem dX9_pass_54 : decode cX9_pass 54 = .ok (.istore 7, 2) := by decide +kernel
theorem dX9_pass_56 : decode cX9_pass 56 = .ok (.aload_n 1, 1) := by decide +kernel
theorem dX9_pass_57 : decode cX9_pass 57 = .ok (.iload 5, 2) := by decide +kernel
theorem dX9_pass_59 : decode cX9_pass 59 = .ok (.iload 7, 2) := by decide +kernel
theorem dX9_pass_61 : decode cX9_pass 61 = .ok (.invokevirtual 64, 3) := by decide +kernel
theorem dX9_pass_64 : decode cX9_pass 64 = .ok (.aload_n 1, 1) := by decide +kernel
theorem dX9_pass_65 : decode cX9_pass 65 = .ok (.iload 7, 2) := by decide +kernel
theorem dX9_pass_67 : decode cX9_pass 67 = .ok (.invokevirtual 68, 3) := by decide +kernel
theorem dX9_pass_70 : decode cX9_pass 70 = .ok (.iload 7, 2) := by decide +kernel
theorem dX9_pass_72 : decode cX9_pass 72 = .ok (.iload 6, 2) := by decide +kernel
theorem dX9_pass_74 : decode cX9_pass 74 = .ok (.if_icmp .ne 19, 3) := by decide +kernel
theorem dX9_pass_77 : decode cX9_pass 77 = .ok (.aload_n 1, 1) := by decide +kernel
theorem dX9_pass_78 : decode cX9_pass 78 = .ok (.dup, 1) := by decide +kernel
theorem dX9_pass_79 : decode cX9_pass 79 = .ok (.getfield 72, 3) := by decide +kernel
theorem dX9_pass_82 : decode cX9_pass 82 = .ok (.iconst 1, 1) := by decide +kernel
theorem dX9_pass_83 : decode cX9_pass 83 = .ok (.iload 5, 2) := by decide +kernel
theorem dX9_pass_85 : decode cX9_pass 85 = .ok (.ishl, 1) := by decide +kernel
theorem dX9_pass_86 : decode cX9_pass 86 = .ok (.ior, 1) := by decide +kernel
theorem dX9_pass_87 : decode cX9_pass 87 = .ok (.putfield 72, 3) := by decide +kernel
theorem dX9_pass_90 : decode cX9_pass 90 = .ok (.goto 6, 3) := by decide +kernel
theorem dX9_pass_93 : decode cX9_pass 93 = .ok (.iinc 4 1, 3) := by decide +kernel
theorem dX9_pass_96 : decode cX9_pass 96 = .ok (.iinc 5 1, 3) := by decide +kernel
theorem dX9_pass_99 : decode cX9_pass 99 = .ok (.goto (-71), 3) := by decide +kernel
theorem dX9_pass_102 : decode cX9_pass 102 = .ok (.aload_n 0, 1) := by decide +kernel
theorem dX9_pass_103 : decode cX9_pass 103 = .ok (.getfield 15, 3) := by decide +kernel
theorem dX9_pass_106 : decode cX9_pass 106 = .ok (.ifCond .le 20, 3) := by decide +kernel
theorem dX9_pass_109 : decode cX9_pass 109 = .ok (.aload_n 1, 1) := by decide +kernel
theorem dX9_pass_110 : decode cX9_pass 110 = .ok (.getfield 51, 3) := by decide +kernel
theorem dX9_pass_113 : decode cX9_pass 113 = .ok (.aload_n 0, 1) := by decide +kernel
theorem dX9_pass_114 : decode cX9_pass 114 = .ok (.getfield 15, 3) := by decide +kernel
theorem dX9_pass_117 : decode cX9_pass 117 = .ok (.irem, 1) := by decide +kernel
theorem dX9_pass_118 : decode cX9_pass 118 = .ok (.ifCond .ne 8, 3) := by decide +kernel
theorem dX9_pass_121 : decode cX9_pass 121 = .ok (.aload_n 0, 1) := by decide +kernel
theorem dX9_pass_122 : decode cX9_pass 122 = .ok (.aload_n 1, 1) := by decide +kernel
theorem dX9_pass_123 : decode cX9_pass 123 = .ok (.invokevirtual 75, 3) := by decide +kernel
theorem dX9_pass_126 : decode cX9_pass 126 = .ok (.iload 4, 2) := by decide +kernel
theorem dX9_pass_128 : decode cX9_pass 128 = .ok (.ireturn, 1) := by decide +kernel
theorem dX9_passMany_0 : decode cX9_passMany 0 = .ok (.iconst 0, 1) := by decide +kernel
theorem dX9_passMany_1 : decode cX9_passMany 1 = .ok (.istore_n 3, 1) := by decide +kernel
theorem dX9_passMany_2 : decode cX9_passMany 2 = .ok (.iconst 0, 1) := by decide +kernel
theorem dX9_passMany_3 : decode cX9_passMany 3 = .ok (.istore 4, 2) := by decide +kernel
theorem dX9_passMany_5 : decode cX9_passMany 5 = .ok (.iload 4, 2) := by decide +kernel
theorem dX9_passMany_7 : decode cX9_passMany 7 = .ok (.iload_n 2, 1) := by decide +kernel
theorem dX9_passMany_8 : decode cX9_passMany 8 = .ok (.if_icmp .ge 17, 3) := by decide +kernel
theorem dX9_passMany_11 : decode cX9_passMany 11 = .ok (.iload_n 3, 1) := by decide +kernel
theorem dX9_passMany_12 : decode cX9_passMany 12 = .ok (.aload_n 0, 1) := by decide +kernel
theorem dX9_passMany_13 : decode cX9_passMany 13 = .ok (.aload_n 1, 1) := by decide +kernel
theorem dX9_passMany_14 : decode cX9_passMany 14 = .ok (.invokevirtual 79, 3) := by decide +kernel
theorem dX9_passMany_17 : decode cX9_passMany 17 = .ok (.iadd, 1) := by decide +kernel
theorem dX9_passMany_18 : decode cX9_passMany 18 = .ok (.istore_n 3, 1) := by decide +kernel
theorem dX9_passMany_19 : decode cX9_passMany 19 = .ok (.iinc 4 1, 3) := by decide +kernel
theorem dX9_passMany_22 : decode cX9_passMany 22 = .ok (.goto (-17), 3) := by decide +kernel
theorem dX9_passMany_25 : decode cX9_passMany 25 = .ok (.iload_n 3, 1) := by decide +kernel
theorem dX9_passMany_26 : decode cX9_passMany 26 = .ok (.ireturn, 1) := by decide +kernel
theorem dX9_choose_0 : decode cX9_choose 0 = .ok (.aload_n 1, 1) := by decide +kernel
theorem dX9_choose_1 : decode cX9_choose 1 = .ok (.getfield 57, 3) := by decide +kernel
theorem dX9_choose_4 : decode cX9_choose 4 = .ok (.iload_n 2, 1) := by decide +kernel
theorem dX9_choose_5 : decode cX9_choose 5 = .ok (.iaload, 1) := by decide +kernel
theorem dX9_choose_6 : decode cX9_choose 6 = .ok (.istore 5, 2) := by decide +kernel
theorem dX9_choose_8 : decode cX9_choose 8 = .ok (.aload_n 1, 1) := by decide +kernel
theorem dX9_choose_9 : decode cX9_choose 9 = .ok (.getfield 83, 3) := by decide +kernel
theorem dX9_choose_12 : decode cX9_choose 12 = .ok (.iload_n 2, 1) := by decide +kernel
theorem dX9_choose_13 : decode cX9_choose 13 = .ok (.ishr, 1) := by decide +kernel
theorem dX9_choose_14 : decode cX9_choose 14 = .ok (.iconst 1, 1) := by decide +kernel
theorem dX9_choose_15 : decode cX9_choose 15 = .ok (.iand, 1) := by decide +kernel
theorem dX9_choose_16 : decode cX9_choose 16 = .ok (.ifCond .eq 15, 3) := by decide +kernel
theorem dX9_choose_19 : decode cX9_choose 19 = .ok (.aload_n 1, 1) := by decide +kernel
theorem dX9_choose_20 : decode cX9_choose 20 = .ok (.getfield 51, 3) := by decide +kernel
theorem dX9_choose_23 : decode cX9_choose 23 = .ok (.iconst 2, 1) := by decide +kernel
theorem dX9_choose_24 : decode cX9_choose 24 = .ok (.irem, 1) := by decide +kernel
theorem dX9_choose_25 : decode cX9_choose 25 = .ok (.ifCond .eq 6, 3) := by decide +kernel
theorem dX9_choose_28 : decode cX9_choose 28 = .ok (.iload 5, 2) := by decide +kernel
theorem dX9_choose_30 : decode cX9_choose 30 = .ok (.ireturn, 1) := by decide +kernel
theorem dX9_choose_31 : decode cX9_choose 31 = .ok (.iload 5, 2) := by decide +kernel
theorem dX9_choose_33 : decode cX9_choose 33 = .ok (.istore 6, 2) := by decide +kernel
theorem dX9_choose_35 : decode cX9_choose 35 = .ok (.aload_n 0, 1) := by decide +kernel
theorem dX9_choose_36 : decode cX9_choose 36 = .ok (.aload_n 1, 1) := by decide +kernel
theorem dX9_choose_37 : decode cX9_choose 37 = .ok (.iload_n 2, 1) := by decide +kernel
theorem dX9_choose_38 : decode cX9_choose 38 = .ok (.iload 5, 2) := by decide +kernel
theorem dX9_choose_40 : decode cX9_choose 40 = .ok (.invokevirtual 86, 3) := by decide +kernel
theorem dX9_choose_43 : decode cX9_choose 43 = .ok (.istore 7, 2) := by decide +kernel
theorem dX9_choose_45 : decode cX9_choose 45 = .ok (.iconst 0, 1) := by decide +kernel
theorem dX9_choose_46 : decode cX9_choose 46 = .ok (.istore 8, 2) := by decide +kernel
theorem dX9_choose_48 : decode cX9_choose 48 = .ok (.iload 8, 2) := by decide +kernel
theorem dX9_choose_50 : decode cX9_choose 50 = .ok (.iconst 3, 1) := by decide +kernel
theorem dX9_choose_51 : decode cX9_choose 51 = .ok (.if_icmp .gt 52, 3) := by decide +kernel
theorem dX9_choose_54 : decode cX9_choose 54 = .ok (.iload 5, 2) := by decide +kernel
theorem dX9_choose_56 : decode cX9_choose 56 = .ok (.iload 8, 2) := by decide +kernel
theorem dX9_choose_58 : decode cX9_choose 58 = .ok (.invokestatic 92, 3) := by decide +kernel
theorem dX9_choose_61 : decode cX9_choose 61 = .ok (.istore 9, 2) := by decide +kernel
theorem dX9_choose_63 : decode cX9_choose 63 = .ok (.lload_n 3, 1) := by decide +kernel
theorem dX9_choose_64 : decode cX9_choose 64 = .ok (.iload 9, 2) := by decide +kernel
theorem dX9_choose_66 : decode cX9_choose 66 = .ok (.invokestatic 96, 3) := by decide +kernel
theorem dX9_choose_69 : decode cX9_choose 69 = .ok (.ifCond .eq 28, 3) := by decide +kernel
theorem dX9_choose_72 : decode cX9_choose 72 = .ok (.aload_n 0, 1) := by decide +kernel
theorem dX9_choose_73 : decode cX9_choose 73 = .ok (.aload_n 1, 1) := by decide +kernel
theorem dX9_choose_74 : decode cX9_choose 74 = .ok (.iload_n 2, 1) := by decide +kernel
theorem dX9_choose_75 : decode cX9_choose 75 = .ok (.iload 9, 2) := by decide +kernel
theorem dX9_choose_77 : decode cX9_choose 77 = .ok (.invokevirtual 86, 3) := by decide +kernel
theorem dX9_choose_80 : decode cX9_choose 80 = .ok (.istore 10, 2) := by decide +kernel
theorem dX9_choose_82 : decode cX9_choose 82 = .ok (.iload 10, 2) := by decide +kernel
theorem dX9_choose_84 : decode cX9_choose 84 = .ok (.iload 7, 2) := by decide +kernel
theorem dX9_choose_86 : decode cX9_choose 86 = .ok (.if_icmp .le 11, 3) := by decide +kernel
theorem dX9_choose_89 : decode cX9_choose 89 = .ok (.iload 10, 2) := by decide +kernel
theorem dX9_choose_91 : decode cX9_choose 91 = .ok (.istore 7, 2) := by decide +kernel
theorem dX9_choose_93 : decode cX9_choose 93 = .ok (.iload 9, 2) := by decide +kernel
theorem dX9_choose_95 : decode cX9_choose 95 = .ok (.istore 6, 2) := by decide +kernel
theorem dX9_choose_97 : decode cX9_choose 97 = .ok (.iinc 8 1, 3) := by decide +kernel
theorem dX9_choose_100 : decode cX9_choose 100 = .ok (.goto (-52), 3) := by decide +kernel
theorem dX9_choose_103 : decode cX9_choose 103 = .ok (.iload 6, 2) := by decide +kernel
theorem dX9_choose_105 : decode cX9_choose 105 = .ok (.ireturn, 1) := by decide +kernel
theorem dX9_weigh_0 : decode cX9_weigh 0 = .ok (.aload_n 0, 1) := by decide +kernel
theorem dX9_weigh_1 : decode cX9_weigh 1 = .ok (.dup, 1) := by decide +kernel
theorem dX9_weigh_2 : decode cX9_weigh 2 = .ok (.getfield 32, 3) := by decide +kernel
theorem dX9_weigh_5 : decode cX9_weigh 5 = .ok (.iload_n 3, 1) := by decide +kernel
theorem dX9_weigh_6 : decode cX9_weigh 6 = .ok (.invokestatic 100, 3) := by decide +kernel
theorem dX9_weigh_9 : decode cX9_weigh 9 = .ok (.lor, 1) := by decide +kernel
theorem dX9_weigh_10 : decode cX9_weigh 10 = .ok (.putfield 32, 3) := by decide +kernel
theorem dX9_weigh_13 : decode cX9_weigh 13 = .ok (.aload_n 0, 1) := by decide +kernel
theorem dX9_weigh_14 : decode cX9_weigh 14 = .ok (.getfield 20, 3) := by decide +kernel
theorem dX9_weigh_17 : decode cX9_weigh 17 = .ok (.iconst 0, 1) := by decide +kernel
theorem dX9_weigh_18 : decode cX9_weigh 18 = .ok (.aload_n 1, 1) := by decide +kernel
theorem dX9_weigh_19 : decode cX9_weigh 19 = .ok (.getfield 103, 3) := by decide +kernel
theorem dX9_weigh_22 : decode cX9_weigh 22 = .ok (.iload_n 3, 1) := by decide +kernel
theorem dX9_weigh_23 : decode cX9_weigh 23 = .ok (.iaload, 1) := by decide +kernel
theorem dX9_weigh_24 : decode cX9_weigh 24 = .ok (.iastore, 1) := by decide +kernel
theorem dX9_weigh_25 : decode cX9_weigh 25 = .ok (.aload_n 0, 1) := by decide +kernel
theorem dX9_weigh_26 : decode cX9_weigh 26 = .ok (.getfield 20, 3) := by decide +kernel
theorem dX9_weigh_29 : decode cX9_weigh 29 = .ok (.iconst 1, 1) := by decide +kernel
theorem dX9_weigh_30 : decode cX9_weigh 30 = .ok (.aload_n 1, 1) := by decide +kernel
theorem dX9_weigh_31 : decode cX9_weigh 31 = .ok (.getfield 106, 3) := by decide +kernel
theorem dX9_weigh_34 : decode cX9_weigh 34 = .ok (.iload_n 3, 1) := by decide +kernel
theorem dX9_weigh_35 : decode cX9_weigh 35 = .ok (.iaload, 1) := by decide +kernel
theorem dX9_weigh_36 : decode cX9_weigh 36 = .ok (.iastore, 1) := by decide +kernel
theorem dX9_weigh_37 : decode cX9_weigh 37 = .ok (.aload_n 0, 1) := by decide +kernel
theorem dX9_weigh_38 : decode cX9_weigh 38 = .ok (.getfield 20, 3) := by decide +kernel
theorem dX9_weigh_41 : decode cX9_weigh 41 = .ok (.iconst 2, 1) := by decide +kernel
theorem dX9_weigh_42 : decode cX9_weigh 42 = .ok (.aload_n 1, 1) := by decide +kernel
theorem dX9_weigh_43 : decode cX9_weigh 43 = .ok (.getfield 109, 3) := by decide +kernel
theorem dX9_weigh_46 : decode cX9_weigh 46 = .ok (.iload_n 3, 1) := by decide +kernel
theorem dX9_weigh_47 : decode cX9_weigh 47 = .ok (.iaload, 1) := by decide +kernel
theorem dX9_weigh_48 : decode cX9_weigh 48 = .ok (.iastore, 1) := by decide +kernel
theorem dX9_weigh_49 : decode cX9_weigh 49 = .ok (.aload_n 0, 1) := by decide +kernel
theorem dX9_weigh_50 : decode cX9_weigh 50 = .ok (.getfield 20, 3) := by decide +kernel
theorem dX9_weigh_53 : decode cX9_weigh 53 = .ok (.iconst 3, 1) := by decide +kernel
theorem dX9_weigh_54 : decode cX9_weigh 54 = .ok (.aload_n 1, 1) := by decide +kernel
theorem dX9_weigh_55 : decode cX9_weigh 55 = .ok (.iload_n 3, 1) := by decide +kernel
theorem dX9_weigh_56 : decode cX9_weigh 56 = .ok (.aload_n 0, 1) := by decide +kernel
theorem dX9_weigh_57 : decode cX9_weigh 57 = .ok (.getfield 9, 3) := by decide +kernel
theorem dX9_weigh_60 : decode cX9_weigh 60 = .ok (.invokevirtual 112, 3) := by decide +kernel
theorem dX9_weigh_63 : decode cX9_weigh 63 = .ok (.ifCond .eq 7, 3) := by decide +kernel
theorem dX9_weigh_66 : decode cX9_weigh 66 = .ok (.iconst 1, 1) := by decide +kernel
theorem dX9_weigh_67 : decode cX9_weigh 67 = .ok (.goto 4, 3) := by decide +kernel
theorem dX9_weigh_70 : decode cX9_weigh 70 = .ok (.iconst 0, 1) := by decide +kernel
theorem dX9_weigh_71 : decode cX9_weigh 71 = .ok (.iastore, 1) := by decide +kernel
theorem dX9_weigh_72 : decode cX9_weigh 72 = .ok (.aload_n 0, 1) := by decide +kernel
theorem dX9_weigh_73 : decode cX9_weigh 73 = .ok (.getfield 20, 3) := by decide +kernel
theorem dX9_weigh_76 : decode cX9_weigh 76 = .ok (.iconst 4, 1) := by decide +kernel
theorem dX9_weigh_77 : decode cX9_weigh 77 = .ok (.aload_n 1, 1) := by decide +kernel
theorem dX9_weigh_78 : decode cX9_weigh 78 = .ok (.getfield 57, 3) := by decide +kernel
theorem dX9_weigh_81 : decode cX9_weigh 81 = .ok (.iload_n 2, 1) := by decide +kernel
theorem dX9_weigh_82 : decode cX9_weigh 82 = .ok (.iaload, 1) := by decide +kernel
theorem dX9_weigh_83 : decode cX9_weigh 83 = .ok (.iload_n 3, 1) := by decide +kernel
theorem dX9_weigh_84 : decode cX9_weigh 84 = .ok (.if_icmp .ne 7, 3) := by decide +kernel
theorem dX9_weigh_87 : decode cX9_weigh 87 = .ok (.iconst 0, 1) := by decide +kernel
theorem dX9_weigh_88 : decode cX9_weigh 88 = .ok (.goto 4, 3) := by decide +kernel
theorem dX9_weigh_91 : decode cX9_weigh 91 = .ok (.iconst 1, 1) := by decide +kernel
theorem dX9_weigh_92 : decode cX9_weigh 92 = .ok (.iastore, 1) := by decide +kernel
theorem dX9_weigh_93 : decode cX9_weigh 93 = .ok (.aload_n 0, 1) := by decide +kernel
theorem dX9_weigh_94 : decode cX9_weigh 94 = .ok (.getfield 20, 3) := by decide +kernel
theorem dX9_weigh_97 : decode cX9_weigh 97 = .ok (.iconst 5, 1) := by decide +kernel
theorem dX9_weigh_98 : decode cX9_weigh 98 = .ok (.aload_n 1, 1) := by decide +kernel
theorem dX9_weigh_99 : decode cX9_weigh 99 = .ok (.iload_n 3, 1) := by decide +kernel
theorem dX9_weigh_100 : decode cX9_weigh 100 = .ok (.invokevirtual 116, 3) := by decide +kernel
theorem dX9_weigh_103 : decode cX9_weigh 103 = .ok (.iconst 1, 1) := by decide +kernel
theorem dX9_weigh_104 : decode cX9_weigh 104 = .ok (.iload_n 2, 1) := by decide +kernel
theorem dX9_weigh_105 : decode cX9_weigh 105 = .ok (.ishl, 1) := by decide +kernel
theorem dX9_weigh_106 : decode cX9_weigh 106 = .ok (.iconst (-1), 1) := by decide +kernel
theorem dX9_weigh_107 : decode cX9_weigh 107 = .ok (.ixor, 1) := by decide +kernel
theorem dX9_weigh_108 : decode cX9_weigh 108 = .ok (.iand, 1) := by decide +kernel
theorem dX9_weigh_109 : decode cX9_weigh 109 = .ok (.invokestatic 120, 3) := by decide +kernel
theorem dX9_weigh_112 : decode cX9_weigh 112 = .ok (.iastore, 1) := by decide +kernel
theorem dX9_weigh_113 : decode cX9_weigh 113 = .ok (.aload_n 0, 1) := by decide +kernel
theorem dX9_weigh_114 : decode cX9_weigh 114 = .ok (.getfield 20, 3) := by decide +kernel
theorem dX9_weigh_117 : decode cX9_weigh 117 = .ok (.bipush 6, 2) := by decide +kernel
theorem dX9_weigh_119 : decode cX9_weigh 119 = .ok (.aload_n 1, 1) := by decide +kernel
theorem dX9_weigh_120 : decode cX9_weigh 120 = .ok (.getfield 125, 3) := by decide +kernel
theorem dX9_weigh_123 : decode cX9_weigh 123 = .ok (.iload_n 2, 1) := by decide +kernel
theorem dX9_weigh_124 : decode cX9_weigh 124 = .ok (.iaload, 1) := by decide +kernel
theorem dX9_weigh_125 : decode cX9_weigh 125 = .ok (.iastore, 1) := by decide +kernel
theorem dX9_weigh_126 : decode cX9_weigh 126 = .ok (.aload_n 0, 1) := by decide +kernel
theorem dX9_weigh_127 : decode cX9_weigh 127 = .ok (.getfield 20, 3) := by decide +kernel
theorem dX9_weigh_130 : decode cX9_weigh 130 = .ok (.bipush 7, 2) := by decide +kernel
theorem dX9_weigh_132 : decode cX9_weigh 132 = .ok (.iload_n 2, 1) := by decide +kernel
theorem dX9_weigh_133 : decode cX9_weigh 133 = .ok (.iastore, 1) := by decide +kernel
theorem dX9_weigh_134 : decode cX9_weigh 134 = .ok (.aload_n 0, 1) := by decide +kernel
theorem dX9_weigh_135 : decode cX9_weigh 135 = .ok (.getfield 20, 3) := by decide +kernel
theorem dX9_weigh_138 : decode cX9_weigh 138 = .ok (.bipush 8, 2) := by decide +kernel
theorem dX9_weigh_140 : decode cX9_weigh 140 = .ok (.aload_n 1, 1) := by decide +kernel
theorem dX9_weigh_141 : decode cX9_weigh 141 = .ok (.getfield 51, 3) := by decide +kernel
theorem dX9_weigh_144 : decode cX9_weigh 144 = .ok (.iastore, 1) := by decide +kernel
theorem dX9_weigh_145 : decode cX9_weigh 145 = .ok (.aload_n 0, 1) := by decide +kernel
theorem dX9_weigh_146 : decode cX9_weigh 146 = .ok (.getfield 28, 3) := by decide +kernel
theorem dX9_weigh_149 : decode cX9_weigh 149 = .ok (.aload_n 0, 1) := by decide +kernel
theorem dX9_weigh_150 : decode cX9_weigh 150 = .ok (.getfield 20, 3) := by decide +kernel
theorem dX9_weigh_153 : decode cX9_weigh 153 = .ok (.invokevirtual 128, 3) := by decide +kernel
theorem dX9_weigh_156 : decode cX9_weigh 156 = .ok (.ireturn, 1) := by decide +kernel
theorem dX9_grow_0 : decode cX9_grow 0 = .ok (.aload_n 1, 1) := by decide +kernel
theorem dX9_grow_1 : decode cX9_grow 1 = .ok (.invokevirtual 132, 3) := by decide +kernel
theorem dX9_grow_4 : decode cX9_grow 4 = .ok (.lstore_n 2, 1) := by decide +kernel
theorem dX9_grow_5 : decode cX9_grow 5 = .ok (.iconst 0, 1) := by decide +kernel
theorem dX9_grow_6 : decode cX9_grow 6 = .ok (.istore 4, 2) := by decide +kernel
theorem dX9_grow_8 : decode cX9_grow 8 = .ok (.iload 4, 2) := by decide +kernel
theorem dX9_grow_10 : decode cX9_grow 10 = .ok (.bipush 64, 2) := by decide +kernel
theorem dX9_grow_12 : decode cX9_grow 12 = .ok (.if_icmp .ge 51, 3) := by decide +kernel
theorem dX9_grow_15 : decode cX9_grow 15 = .ok (.aload_n 0, 1) := by decide +kernel
theorem dX9_grow_16 : decode cX9_grow 16 = .ok (.getfield 24, 3) := by decide +kernel
theorem dX9_grow_19 : decode cX9_grow 19 = .ok (.iload 4, 2) := by decide +kernel
theorem dX9_grow_21 : decode cX9_grow 21 = .ok (.invokevirtual 136, 3) := by decide +kernel
theorem dX9_grow_24 : decode cX9_grow 24 = .ok (.ifCond .eq 33, 3) := by decide +kernel
theorem dX9_grow_27 : decode cX9_grow 27 = .ok (.lload_n 2, 1) := by decide +kernel
theorem dX9_grow_28 : decode cX9_grow 28 = .ok (.iload 4, 2) := by decide +kernel
theorem dX9_grow_30 : decode cX9_grow 30 = .ok (.invokestatic 96, 3) := by decide +kernel
theorem dX9_grow_33 : decode cX9_grow 33 = .ok (.ifCond .ne 24, 3) := by decide +kernel
theorem dX9_grow_36 : decode cX9_grow 36 = .ok (.aload_n 1, 1) := by decide +kernel
theorem dX9_grow_37 : decode cX9_grow 37 = .ok (.getfield 103, 3) := by decide +kernel
theorem dX9_grow_40 : decode cX9_grow 40 = .ok (.iload 4, 2) := by decide +kernel
theorem dX9_grow_42 : decode cX9_grow 42 = .ok (.bipush 9, 2) := by decide +kernel
theorem dX9_grow_44 : decode cX9_grow 44 = .ok (.aload_n 1, 1) := by decide +kernel
theorem dX9_grow_45 : decode cX9_grow 45 = .ok (.getfield 103, 3) := by decide +kernel
theorem dX9_grow_48 : decode cX9_grow 48 = .ok (.iload 4, 2) := by decide +kernel
theorem dX9_grow_50 : decode cX9_grow 50 = .ok (.iaload, 1) := by decide +kernel
theorem dX9_grow_51 : decode cX9_grow 51 = .ok (.iconst 1, 1) := by decide +kernel
theorem dX9_grow_52 : decode cX9_grow 52 = .ok (.iadd, 1) := by decide +kernel
theorem dX9_grow_53 : decode cX9_grow 53 = .ok (.invokestatic 140, 3) := by decide +kernel
theorem dX9_grow_56 : decode cX9_grow 56 = .ok (.iastore, 1) := by decide +kernel
theorem dX9_grow_57 : decode cX9_grow 57 = .ok (.iinc 4 1, 3) := by decide +kernel
theorem dX9_grow_60 : decode cX9_grow 60 = .ok (.goto (-52), 3) := by decide +kernel
theorem dX9_grow_63 : decode cX9_grow 63 = .ok (.return_, 1) := by decide +kernel
theorem dX10_init_0 : decode cX10_init 0 = .ok (.aload_n 0, 1) := by decide +kernel
theorem dX10_init_1 : decode cX10_init 1 = .ok (.invokespecial 1, 3) := by decide +kernel
theorem dX10_init_4 : decode cX10_init 4 = .ok (.aload_n 0, 1) := by decide +kernel
theorem dX10_init_5 : decode cX10_init 5 = .ok (.new 7, 3) := by decide +kernel
theorem dX10_init_8 : decode cX10_init 8 = .ok (.dup, 1) := by decide +kernel
theorem dX10_init_9 : decode cX10_init 9 = .ok (.invokespecial 9, 3) := by decide +kernel
theorem dX10_init_12 : decode cX10_init 12 = .ok (.putfield 10, 3) := by decide +kernel
theorem dX10_init_15 : decode cX10_init 15 = .ok (.aload_n 0, 1) := by decide +kernel
theorem dX10_init_16 : decode cX10_init 16 = .ok (.new 16, 3) := by decide +kernel
theorem dX10_init_19 : decode cX10_init 19 = .ok (.dup, 1) := by decide +kernel
theorem dX10_init_20 : decode cX10_init 20 = .ok (.invokespecial 18, 3) := by decide +kernel
theorem dX10_init_23 : decode cX10_init 23 = .ok (.putfield 19, 3) := by decide +kernel
theorem dX10_init_26 : decode cX10_init 26 = .ok (.aload_n 0, 1) := by decide +kernel
theorem dX10_init_27 : decode cX10_init 27 = .ok (.new 23, 3) := by decide +kernel
theorem dX10_init_30 : decode cX10_init 30 = .ok (.dup, 1) := by decide +kernel
theorem dX10_init_31 : decode cX10_init 31 = .ok (.invokespecial 25, 3) := by decide +kernel
theorem dX10_init_34 : decode cX10_init 34 = .ok (.putfield 26, 3) := by decide +kernel
theorem dX10_init_37 : decode cX10_init 37 = .ok (.aload_n 0, 1) := by decide +kernel
theorem dX10_init_38 : decode cX10_init 38 = .ok (.new 30, 3) := by decide +kernel
theorem dX10_init_41 : decode cX10_init 41 = .ok (.dup, 1) := by decide +kernel
theorem dX10_init_42 : decode cX10_init 42 = .ok (.invokespecial 32, 3) := by decide +kernel
theorem dX10_init_45 : decode cX10_init 45 = .ok (.putfield 33, 3) := by decide +kernel
theorem dX10_init_48 : decode cX10_init 48 = .ok (.aload_n 0, 1) := by decide +kernel
theorem dX10_init_49 : decode cX10_init 49 = .ok (.new 37, 3) := by decide +kernel
theorem dX10_init_52 : decode cX10_init 52 = .ok (.dup, 1) := by decide +kernel
theorem dX10_init_53 : decode cX10_init 53 = .ok (.aload_n 0, 1) := by decide +kernel
theorem dX10_init_54 : decode cX10_init 54 = .ok (.getfield 26, 3) := by decide +kernel
theorem dX10_init_57 : decode cX10_init 57 = .ok (.aload_n 0, 1) := by decide +kernel
theorem dX10_init_58 : decode cX10_init 58 = .ok (.getfield 33, 3) := by decide +kernel
theorem dX10_init_61 : decode cX10_init 61 = .ok (.invokespecial 39, 3) := by decide +kernel
theorem dX10_init_64 : decode cX10_init 64 = .ok (.putfield 42, 3) := by decide +kernel
theorem dX10_init_67 : decode cX10_init 67 = .ok (.aload_n 0, 1) := by decide +kernel
theorem dX10_init_68 : decode cX10_init 68 = .ok (.new 46, 3) := by decide +kernel
theorem dX10_init_71 : decode cX10_init 71 = .ok (.dup, 1) := by decide +kernel
theorem dX10_init_72 : decode cX10_init 72 = .ok (.invokespecial 48, 3) := by decide +kernel
theorem dX10_init_75 : decode cX10_init 75 = .ok (.putfield 49, 3) := by decide +kernel
theorem dX10_init_78 : decode cX10_init 78 = .ok (.aload_n 0, 1) := by decide +kernel
theorem dX10_init_79 : decode cX10_init 79 = .ok (.new 46, 3) := by decide +kernel
theorem dX10_init_82 : decode cX10_init 82 = .ok (.dup, 1) := by decide +kernel
theorem dX10_init_83 : decode cX10_init 83 = .ok (.invokespecial 48, 3) := by decide +kernel
theorem dX10_init_86 : decode cX10_init 86 = .ok (.putfield 53, 3) := by decide +kernel
theorem dX10_init_89 : decode cX10_init 89 = .ok (.aload_n 0, 1) := by decide +kernel
theorem dX10_init_90 : decode cX10_init 90 = .ok (.new 56, 3) := by decide +kernel
theorem dX10_init_93 : decode cX10_init 93 = .ok (.dup, 1) := by decide +kernel
theorem dX10_init_94 : decode cX10_init 94 = .ok (.aload_n 0, 1) := by decide +kernel
theorem dX10_init_95 : decode cX10_init 95 = .ok (.getfield 49, 3) := by decide +kernel
theorem dX10_init_98 : decode cX10_init 98 = .ok (.aload_n 0, 1) := by decide +kernel
theorem dX10_init_99 : decode cX10_init 99 = .ok (.getfield 26, 3) := by decide +kernel
theorem dX10_init_102 : decode cX10_init 102 = .ok (.aload_n 0, 1) := by decide +kernel
theorem dX10_init_103 : decode cX10_init 103 = .ok (.getfield 42, 3) := by decide +kernel
theorem dX10_init_106 : decode cX10_init 106 = .ok (.invokespecial 58, 3) := by decide +kernel
theorem dX10_init_109 : decode cX10_init 109 = .ok (.putfield 61, 3) := by decide +kernel
theorem dX10_init_112 : decode cX10_init 112 = .ok (.aload_n 0, 1) := by decide +kernel
theorem dX10_init_113 : decode cX10_init 113 = .ok (.new 65, 3) := by decide +kernel
theorem dX10_init_116 : decode cX10_init 116 = .ok (.dup, 1) := by decide +kernel
theorem dX10_init_117 : decode cX10_init 117 = .ok (.invokespecial 67, 3) := by decide +kernel
theorem dX10_init_120 : decode cX10_init 120 = .ok (.putfield 68, 3) := by decide +kernel
theorem dX10_init_123 : decode cX10_init 123 = .ok (.aload_n 0, 1) := by decide +kernel
theorem dX10_init_124 : decode cX10_init 124 = .ok (.new 72, 3) := by decide +kernel
theorem dX10_init_127 : decode cX10_init 127 = .ok (.dup, 1) := by decide +kernel
theorem dX10_init_128 : decode cX10_init 128 = .ok (.invokespecial 74, 3) := by decide +kernel
theorem dX10_init_131 : decode cX10_init 131 = .ok (.putfield 75, 3) := by decide +kernel
theorem dX10_init_134 : decode cX10_init 134 = .ok (.aload_n 0, 1) := by decide +kernel
theorem dX10_init_135 : decode cX10_init 135 = .ok (.iconst 2, 1) := by decide +kernel
theorem dX10_init_136 : decode cX10_init 136 = .ok (.anewarray 46, 3) := by decide +kernel
theorem dX10_init_139 : decode cX10_init 139 = .ok (.putfield 79, 3) := by decide +kernel
theorem dX10_init_142 : decode cX10_init 142 = .ok (.iconst 0, 1) := by decide +kernel
theorem dX10_init_143 : decode cX10_init 143 = .ok (.istore_n 1, 1) := by decide +kernel
theorem dX10_init_144 : decode cX10_init 144 = .ok (.iload_n 1, 1) := by decide +kernel
theorem dX10_init_145 : decode cX10_init 145 = .ok (.iconst 2, 1) := by decide +kernel
theorem dX10_init_146 : decode cX10_init 146 = .ok (.if_icmp .ge 22, 3) := by decide +kernel
theorem dX10_init_149 : decode cX10_init 149 = .ok (.aload_n 0, 1) := by decide +kernel
theorem dX10_init_150 : decode cX10_init 150 = .ok (.getfield 79, 3) := by decide +kernel
theorem dX10_init_153 : decode cX10_init 153 = .ok (.iload_n 1, 1) := by decide +kernel
theorem dX10_init_154 : decode cX10_init 154 = .ok (.new 46, 3) := by decide +kernel
theorem dX10_init_157 : decode cX10_init 157 = .ok (.dup, 1) := by decide +kernel
theorem dX10_init_158 : decode cX10_init 158 = .ok (.invokespecial 48, 3) := by decide +kernel
theorem dX10_init_161 : decode cX10_init 161 = .ok (.aastore, 1) := by decide +kernel
theorem dX10_init_162 : decode cX10_init 162 = .ok (.iinc 1 1, 3) := by decide +kernel
theorem dX10_init_165 : decode cX10_init 165 = .ok (.goto (-21), 3) := by decide +kernel
theorem dX10_init_168 : decode cX10_init 168 = .ok (.aload_n 0, 1) := by decide +kernel
theorem dX10_init_169 : decode cX10_init 169 = .ok (.getfield 10, 3) := by decide +kernel
theorem dX10_init_172 : decode cX10_init 172 = .ok (.ldc 83, 2) := by decide +kernel
theorem dX10_init_174 : decode cX10_init 174 = .ok (.invokevirtual 85, 3) := by decide +kernel
theorem dX10_init_177 : decode cX10_init 177 = .ok (.aload_n 0, 1) := by decide +kernel
theorem dX10_init_178 : decode cX10_init 178 = .ok (.getfield 33, 3) := by decide +kernel
theorem dX10_init_181 : decode cX10_init 181 = .ok (.aload_n 0, 1) := by decide +kernel
theorem dX10_init_182 : decode cX10_init 182 = .ok (.getfield 10, 3) := by decide +kernel
theorem dX10_init_185 : decode cX10_init 185 = .ok (.invokevirtual 89, 3) := by decide +kernel
theorem dX10_init_188 : decode cX10_init 188 = .ok (.pop, 1) := by decide +kernel
theorem dX10_init_189 : decode cX10_init 189 = .ok (.aload_n 0, 1) := by decide +kernel
theorem dX10_init_190 : decode cX10_init 190 = .ok (.getfield 10, 3) := by decide +kernel
theorem dX10_init_193 : decode cX10_init 193 = .ok (.invokevirtual 93, 3) := by decide +kernel
theorem dX10_init_196 : decode cX10_init 196 = .ok (.return_, 1) := by decide +kernel
theorem dX10_sign_0 : decode cX10_sign 0 = .ok (.aload_n 0, 1) := by decide +kernel
theorem dX10_sign_1 : decode cX10_sign 1 = .ok (.getfield 10, 3) := by decide +kernel
theorem dX10_sign_4 : decode cX10_sign 4 = .ok (.iload_n 1, 1) := by decide +kernel
theorem dX10_sign_5 : decode cX10_sign 5 = .ok (.invokevirtual 96, 3) := by decide +kernel
theorem dX10_sign_8 : decode cX10_sign 8 = .ok (.ifCond .eq 13, 3) := by decide +kernel
theorem dX10_sign_11 : decode cX10_sign 11 = .ok (.aload_n 0, 1) := by decide +kernel
theorem dX10_sign_12 : decode cX10_sign 12 = .ok (.getfield 10, 3) := by decide +kernel
theorem dX10_sign_15 : decode cX10_sign 15 = .ok (.getfield 100, 3) := by decide +kernel
theorem dX10_sign_18 : decode cX10_sign 18 = .ok (.goto 4, 3) := by decide +kernel
theorem dX10_sign_21 : decode cX10_sign 21 = .ok (.iconst (-1), 1) := by decide +kernel
theorem dX10_sign_22 : decode cX10_sign 22 = .ok (.ireturn, 1) := by decide +kernel
theorem dX10_end_0 : decode cX10_end 0 = .ok (.iload_n 1, 1) := by decide +kernel
theorem dX10_end_1 : decode cX10_end 1 = .ok (.ifCond .lt 14, 3) := by decide +kernel
theorem dX10_end_4 : decode cX10_end 4 = .ok (.iload_n 1, 1) := by decide +kernel
theorem dX10_end_5 : decode cX10_end 5 = .ok (.aload_n 0, 1) := by decide +kernel
theorem dX10_end_6 : decode cX10_end 6 = .ok (.getfield 10, 3) := by decide +kernel
theorem dX10_end_9 : decode cX10_end 9 = .ok (.getfield 100, 3) := by decide +kernel
theorem dX10_end_12 : decode cX10_end 12 = .ok (.if_icmp .le 5, 3) := by decide +kernel
theorem dX10_end_15 : decode cX10_end 15 = .ok (.iconst 0, 1) := by decide +kernel
theorem dX10_end_16 : decode cX10_end 16 = .ok (.ireturn, 1) := by decide +kernel
theorem dX10_end_17 : decode cX10_end 17 = .ok (.aload_n 0, 1) := by decide +kernel
theorem dX10_end_18 : decode cX10_end 18 = .ok (.getfield 10, 3) := by decide +kernel
theorem dX10_end_21 : decode cX10_end 21 = .ok (.iload_n 1, 1) := by decide +kernel
theorem dX10_end_22 : decode cX10_end 22 = .ok (.putfield 100, 3) := by decide +kernel
theorem dX10_end_25 : decode cX10_end 25 = .ok (.iconst 1, 1) := by decide +kernel
theorem dX10_end_26 : decode cX10_end 26 = .ok (.ireturn, 1) := by decide +kernel
theorem dX10_meadow_0 : decode cX10_meadow 0 = .ok (.aload_n 0, 1) := by decide +kernel
theorem dX10_meadow_1 : decode cX10_meadow 1 = .ok (.getfield 26, 3) := by decide +kernel
theorem dX10_meadow_4 : decode cX10_meadow 4 = .ok (.aload_n 0, 1) := by decide +kernel
theorem dX10_meadow_5 : decode cX10_meadow 5 = .ok (.getfield 10, 3) := by decide +kernel
theorem dX10_meadow_8 : decode cX10_meadow 8 = .ok (.invokevirtual 104, 3) := by decide +kernel
theorem dX10_meadow_11 : decode cX10_meadow 11 = .ok (.istore_n 1, 1) := by decide +kernel
theorem dX10_meadow_12 : decode cX10_meadow 12 = .ok (.iload_n 1, 1) := by decide +kernel
theorem dX10_meadow_13 : decode cX10_meadow 13 = .ok (.ifCond .ne 35, 3) := by decide +kernel
theorem dX10_meadow_16 : decode cX10_meadow 16 = .ok (.aload_n 0, 1) := by decide +kernel
theorem dX10_meadow_17 : decode cX10_meadow 17 = .ok (.getfield 26, 3) := by decide +kernel
theorem dX10_meadow_20 : decode cX10_meadow 20 = .ok (.aload_n 0, 1) := by decide +kernel
theorem dX10_meadow_21 : decode cX10_meadow 21 = .ok (.getfield 10, 3) := by decide +kernel
theorem dX10_meadow_24 : decode cX10_meadow 24 = .ok (.aload_n 0, 1) := by decide +kernel
theorem dX10_meadow_25 : decode cX10_meadow 25 = .ok (.getfield 49, 3) := by decide +kernel
theorem dX10_meadow_28 : decode cX10_meadow 28 = .ok (.invokevirtual 107, 3) := by decide +kernel
theorem dX10_meadow_31 : decode cX10_meadow 31 = .ok (.aload_n 0, 1) := by decide +kernel
theorem dX10_meadow_32 : decode cX10_meadow 32 = .ok (.getfield 75, 3) := by decide +kernel
theorem dX10_meadow_35 : decode cX10_meadow 35 = .ok (.invokevirtual 111, 3) := by decide +kernel
theorem dX10_meadow_38 : decode cX10_meadow 38 = .ok (.aload_n 0, 1) := by decide +kernel
theorem dX10_meadow_39 : decode cX10_meadow 39 = .ok (.iconst 0, 1) := by decide +kernel
theorem dX10_meadow_40 : decode cX10_meadow 40 = .ok (.putfield 114, 3) := by decide +kernel
theorem dX10_meadow_43 : decode cX10_meadow 43 = .ok (.aload_n 0, 1) := by decide +kernel
theorem dX10_meadow_44 : decode cX10_meadow 44 = .ok (.iconst 0, 1) := by decide +kernel
theorem dX10_meadow_45 : decode cX10_meadow 45 = .ok (.putfield 117, 3) := by decide +kernel
theorem dX10_meadow_48 : decode cX10_meadow 48 = .ok (.aload_n 0, 1) := by decide +kernel
theorem dX10_meadow_49 : decode cX10_meadow 49 = .ok (.getfield 10, 3) := by decide +kernel
theorem dX10_meadow_52 : decode cX10_meadow 52 = .ok (.invokevirtual 93, 3) := by decide +kernel
theorem dX10_meadow_55 : decode cX10_meadow 55 = .ok (.iload_n 1, 1) := by decide +kernel
theorem dX10_meadow_56 : decode cX10_meadow 56 = .ok (.ifCond .ne 21, 3) := by decide +kernel
theorem dX10_meadow_59 : decode cX10_meadow 59 = .ok (.aload_n 0, 1) := by decide +kernel
theorem dX10_meadow_60 : decode cX10_meadow 60 = .ok (.getfield 26, 3) := by decide +kernel
theorem dX10_meadow_63 : decode cX10_meadow 63 = .ok (.getfield 121, 3) := by decide +kernel
theorem dX10_meadow_66 : decode cX10_meadow 66 = .ok (.aload_n 0, 1) := by decide +kernel
theorem dX10_meadow_67 : decode cX10_meadow 67 = .ok (.getfield 26, 3) := by decide +kernel
theorem dX10_meadow_70 : decode cX10_meadow 70 = .ok (.getfield 124, 3) := by decide +kernel
theorem dX10_meadow_73 : decode cX10_meadow 73 = .ok (.imul, 1) := by decide +kernel
theorem dX10_meadow_74 : decode cX10_meadow 74 = .ok (.goto 4, 3) := by decide +kernel
theorem dX10_meadow_77 : decode cX10_meadow 77 = .ok (.iload_n 1, 1) := by decide +kernel
theorem dX10_meadow_78 : decode cX10_meadow 78 = .ok (.ireturn, 1) := by decide +kernel
theorem dX10_herds_0 : decode cX10_herds 0 = .ok (.aload_n 0, 1) := by decide +kernel
theorem dX10_herds_1 : decode cX10_herds 1 = .ok (.invokevirtual 127, 3) := by decide +kernel
theorem dX10_herds_4 : decode cX10_herds 4 = .ok (.istore_n 1, 1) := by decide +kernel
theorem dX10_herds_5 : decode cX10_herds 5 = .ok (.iload_n 1, 1) := by decide +kernel
theorem dX10_herds_6 : decode cX10_herds 6 = .ok (.ifCond .le 26, 3) := by decide +kernel
theorem dX10_herds_9 : decode cX10_herds 9 = .ok (.aload_n 0, 1) := by decide +kernel
theorem dX10_herds_10 : decode cX10_herds 10 = .ok (.getfield 49, 3) := by decide +kernel
theorem dX10_herds_13 : decode cX10_herds 13 = .ok (.aload_n 0, 1) := by decide +kernel
theorem dX10_herds_14 : decode cX10_herds 14 = .ok (.getfield 53, 3) := by decide +kernel
theorem dX10_herds_17 : decode cX10_herds 17 = .ok (.invokevirtual 131, 3) := by decide +kernel
theorem dX10_herds_20 : decode cX10_herds 20 = .ok (.aload_n 0, 1) := by decide +kernel
theorem dX10_herds_21 : decode cX10_herds 21 = .ok (.getfield 75, 3) := by decide +kernel
theorem dX10_herds_24 : decode cX10_herds 24 = .ok (.invokevirtual 111, 3) := by decide +kernel
theorem dX10_herds_27 : decode cX10_herds 27 = .ok (.aload_n 0, 1) := by decide +kernel
theorem dX10_herds_28 : decode cX10_herds 28 = .ok (.iconst 0, 1) := by decide +kernel
theorem dX10_herds_29 : decode cX10_herds 29 = .ok (.putfield 114, 3) := by decide +kernel
theorem dX10_herds_32 : decode cX10_herds 32 = .ok (.aload_n 0, 1) := by decide +kernel
theorem dX10_herds_33 : decode cX10_herds 33 = .ok (.getfield 10, 3) := by decide +kernel
theorem dX10_herds_36 : decode cX10_herds 36 = .ok (.invokevirtual 93, 3) := by decide +kernel
theorem dX10_herds_39 : decode cX10_herds 39 = .ok (.iload_n 1, 1) := by decide +kernel
theorem dX10_herds_40 : decode cX10_herds 40 = .ok (.ireturn, 1) := by decide +kernel
theorem dX10_rule_0 : decode cX10_rule 0 = .ok (.aload_n 0, 1) := by decide +kernel
theorem dX10_rule_1 : decode cX10_rule 1 = .ok (.getfield 10, 3) := by decide +kernel
theorem dX10_rule_4 : decode cX10_rule 4 = .ok (.getfield 100, 3) := by decide +kernel
theorem dX10_rule_7 : decode cX10_rule 7 = .ok (.ifCond .ne 12, 3) := by decide +kernel
theorem dX10_rule_10 : decode cX10_rule 10 = .ok (.aload_n 0, 1) := by decide +kernel
theorem dX10_rule_11 : decode cX10_rule 11 = .ok (.getfield 10, 3) := by decide +kernel
theorem dX10_rule_14 : decode cX10_rule 14 = .ok (.ldc 83, 2) := by decide +kernel
theorem dX10_rule_16 : decode cX10_rule 16 = .ok (.invokevirtual 85, 3) := by decide +kernel
theorem dX10_rule_19 : decode cX10_rule 19 = .ok (.aload_n 0, 1) := by decide +kernel
theorem dX10_rule_20 : decode cX10_rule 20 = .ok (.getfield 33, 3) := by decide +kernel
theorem dX10_rule_23 : decode cX10_rule 23 = .ok (.aload_n 0, 1) := by decide +kernel
theorem dX10_rule_24 : decode cX10_rule 24 = .ok (.getfield 10, 3) := by decide +kernel
theorem dX10_rule_27 : decode cX10_rule 27 = .ok (.invokevirtual 89, 3) := by decide +kernel
theorem dX10_rule_30 : decode cX10_rule 30 = .ok (.istore_n 1, 1) := by decide +kernel
theorem dX10_rule_31 : decode cX10_rule 31 = .ok (.aload_n 0, 1) := by decide +kernel
theorem dX10_rule_32 : decode cX10_rule 32 = .ok (.getfield 10, 3) := by decide +kernel
theorem dX10_rule_35 : decode cX10_rule 35 = .ok (.invokevirtual 93, 3) := by decide +kernel
theorem dX10_rule_38 : decode cX10_rule 38 = .ok (.iload_n 1, 1) := by decide +kernel
theorem dX10_rule_39 : decode cX10_rule 39 = .ok (.ireturn, 1) := by decide +kernel
theorem dX10_cell_0 : decode cX10_cell 0 = .ok (.aload_n 0, 1) := by decide +kernel
theorem dX10_cell_1 : decode cX10_cell 1 = .ok (.getfield 26, 3) := by decide +kernel
theorem dX10_cell_4 : decode cX10_cell 4 = .ok (.iload_n 1, 1) := by decide +kernel
theorem dX10_cell_5 : decode cX10_cell 5 = .ok (.invokevirtual 135, 3) := by decide +kernel
theorem dX10_cell_8 : decode cX10_cell 8 = .ok (.ifCond .eq 13, 3) := by decide +kernel
theorem dX10_cell_11 : decode cX10_cell 11 = .ok (.iload_n 2, 1) := by decide +kernel
theorem dX10_cell_12 : decode cX10_cell 12 = .ok (.ifCond .lt 9, 3) := by decide +kernel
theorem dX10_cell_15 : decode cX10_cell 15 = .ok (.iload_n 2, 1) := by decide +kernel
theorem dX10_cell_16 : decode cX10_cell 16 = .ok (.bipush 7, 2) := by decide +kernel
theorem dX10_cell_18 : decode cX10_cell 18 = .ok (.if_icmp .le 13, 3) := by decide +kernel
theorem dX10_cell_21 : decode cX10_cell 21 = .ok (.new 138, 3) := by decide +kernel
theorem dX10_cell_24 : decode cX10_cell 24 = .ok (.dup, 1) := by decide +kernel
theorem dX10_cell_25 : decode cX10_cell 25 = .ok (.ldc 140, 2) := by decide +kernel
theorem dX10_cell_27 : decode cX10_cell 27 = .ok (.invokespecial 142, 3) := by decide +kernel
theorem dX10_cell_30 : decode cX10_cell 30 = .ok (.athrow, 1) := by decide +kernel
theorem dX10_cell_31 : decode cX10_cell 31 = .ok (.iload_n 2, 1) := by decide +kernel
theorem dX10_cell_32 : decode cX10_cell 32 = .ok (.tableswitch 134 0 6 #[44, 54, 64, 74, 90, 100, 110], 44) := by decide +kernel
theorem dX10_cell_76 : decode cX10_cell 76 = .ok (.aload_n 0, 1) := by decide +kernel
theorem dX10_cell_77 : decode cX10_cell 77 = .ok (.getfield 49, 3) := by decide +kernel
theorem dX10_cell_80 : decode cX10_cell 80 = .ok (.getfield 144, 3) := by decide +kernel
theorem dX10_cell_83 : decode cX10_cell 83 = .ok (.iload_n 1, 1) := by decide +kernel
theorem dX10_cell_84 : decode cX10_cell 84 = .ok (.iaload, 1) := by decide +kernel
theorem dX10_cell_85 : decode cX10_cell 85 = .ok (.ireturn, 1) := by decide +kernel
theorem dX10_cell_86 : decode cX10_cell 86 = .ok (.aload_n 0, 1) := by decide +kernel
theorem dX10_cell_87 : decode cX10_cell 87 = .ok (.getfield 49, 3) := by decide +kernel
theorem dX10_cell_90 : decode cX10_cell 90 = .ok (.getfield 148, 3) := by decide +kernel
theorem dX10_cell_93 : decode cX10_cell 93 = .ok (.iload_n 1, 1) := by decide +kernel
theorem dX10_cell_94 : decode cX10_cell 94 = .ok (.iaload, 1) := by decide +kernel
theorem dX10_cell_95 : decode cX10_cell 95 = .ok (.ireturn, 1) := by decide +kernel
theorem dX10_cell_96 : decode cX10_cell 96 = .ok (.aload_n 0, 1) := by decide +kernel
theorem dX10_cell_97 : decode cX10_cell 97 = .ok (.getfield 49, 3) := by decide +kernel
theorem dX10_cell_100 : decode cX10_cell 100 = .ok (.getfield 151, 3) := by decide +kernel
theorem dX10_cell_103 : decode cX10_cell 103 = .ok (.iload_n 1, 1) := by decide +kernel
theorem dX10_cell_104 : decode cX10_cell 104 = .ok (.iaload, 1) := by decide +kernel
theorem dX10_cell_105 : decode cX10_cell 105 = .ok (.ireturn, 1) := by decide +kernel
theorem dX10_cell_106 : decode cX10_cell 106 = .ok (.aload_n 0, 1) := by decide +kernel
theorem dX10_cell_107 : decode cX10_cell 107 = .ok (.getfield 26, 3) := by decide +kernel
theorem dX10_cell_110 : decode cX10_cell 110 = .ok (.iload_n 1, 1) := by decide +kernel
theorem dX10_cell_111 : decode cX10_cell 111 = .ok (.aload_n 0, 1) := by decide +kernel
theorem dX10_cell_112 : decode cX10_cell 112 = .ok (.getfield 49, 3) := by decide +kernel
theorem dX10_cell_115 : decode cX10_cell 115 = .ok (.getfield 154, 3) := by decide +kernel
theorem dX10_cell_118 : decode cX10_cell 118 = .ok (.invokevirtual 157, 3) := by decide +kernel
theorem dX10_cell_121 : decode cX10_cell 121 = .ok (.ireturn, 1) := by decide +kernel
theorem dX10_cell_122 : decode cX10_cell 122 = .ok (.aload_n 0, 1) := by decide +kernel
theorem dX10_cell_123 : decode cX10_cell 123 = .ok (.getfield 49, 3) := by decide +kernel
theorem dX10_cell_126 : decode cX10_cell 126 = .ok (.getfield 161, 3) := by decide +kernel
theorem dX10_cell_129 : decode cX10_cell 129 = .ok (.iload_n 1, 1) := by decide +kernel
theorem dX10_cell_130 : decode cX10_cell 130 = .ok (.iaload, 1) := by decide +kernel
theorem dX10_cell_131 : decode cX10_cell 131 = .ok (.ireturn, 1) := by decide +kernel
theorem dX10_cell_132 : decode cX10_cell 132 = .ok (.aload_n 0, 1) := by decide +kernel
theorem dX10_cell_133 : decode cX10_cell 133 = .ok (.getfield 49, 3) := by decide +kernel
theorem dX10_cell_136 : decode cX10_cell 136 = .ok (.getfield 164, 3) := by decide +kernel
theorem dX10_cell_139 : decode cX10_cell 139 = .ok (.iload_n 1, 1) := by decide +kernel
theorem dX10_cell_140 : decode cX10_cell 140 = .ok (.iaload, 1) := by decide +kernel
theorem dX10_cell_141 : decode cX10_cell 141 = .ok (.ireturn, 1) := by decide +kernel
theorem dX10_cell_142 : decode cX10_cell 142 = .ok (.aload_n 0, 1) := by decide +kernel
theorem dX10_cell_143 : decode cX10_cell 143 = .ok (.getfield 49, 3) := by decide +kernel
theorem dX10_cell_146 : decode cX10_cell 146 = .ok (.iload_n 1, 1) := by decide +kernel
theorem dX10_cell_147 : decode cX10_cell 147 = .ok (.aload_n 0, 1) := by decide +kernel
theorem dX10_cell_148 : decode cX10_cell 148 = .ok (.getfield 42, 3) := by decide +kernel
theorem dX10_cell_151 : decode cX10_cell 151 = .ok (.getfield 167, 3) := by decide +kernel
theorem dX10_cell_154 : decode cX10_cell 154 = .ok (.invokevirtual 170, 3) := by decide +kernel
theorem dX10_cell_157 : decode cX10_cell 157 = .ok (.ifCond .eq 7, 3) := by decide +kernel
theorem dX10_cell_160 : decode cX10_cell 160 = .ok (.iconst 1, 1) := by decide +kernel
theorem dX10_cell_161 : decode cX10_cell 161 = .ok (.goto 4, 3) := by decide +kernel
theorem dX10_cell_164 : decode cX10_cell 164 = .ok (.iconst 0, 1) := by decide +kernel
theorem dX10_cell_165 : decode cX10_cell 165 = .ok (.ireturn, 1) := by decide +kernel
theorem dX10_cell_166 : decode cX10_cell 166 = .ok (.aload_n 0, 1) := by decide +kernel
theorem dX10_cell_167 : decode cX10_cell 167 = .ok (.getfield 49, 3) := by decide +kernel
theorem dX10_cell_170 : decode cX10_cell 170 = .ok (.iload_n 1, 1) := by decide +kernel
theorem dX10_cell_171 : decode cX10_cell 171 = .ok (.invokevirtual 174, 3) := by decide +kernel
theorem dX10_cell_174 : decode cX10_cell 174 = .ok (.ireturn, 1) := by decide +kernel
theorem dX10_herd_0 : decode cX10_herd 0 = .ok (.aload_n 0, 1) := by decide +kernel
theorem dX10_herd_1 : decode cX10_herd 1 = .ok (.getfield 49, 3) := by decide +kernel
theorem dX10_herd_4 : decode cX10_herd 4 = .ok (.iload_n 1, 1) := by decide +kernel
theorem dX10_herd_5 : decode cX10_herd 5 = .ok (.invokevirtual 178, 3) := by decide +kernel
theorem dX10_herd_8 : decode cX10_herd 8 = .ok (.ifCond .eq 12, 3) := by decide +kernel
theorem dX10_herd_11 : decode cX10_herd 11 = .ok (.iload_n 2, 1) := by decide +kernel
theorem dX10_herd_12 : decode cX10_herd 12 = .ok (.ifCond .lt 8, 3) := by decide +kernel
theorem dX10_herd_15 : decode cX10_herd 15 = .ok (.iload_n 2, 1) := by decide +kernel
theorem dX10_herd_16 : decode cX10_herd 16 = .ok (.iconst 4, 1) := by decide +kernel
theorem dX10_herd_17 : decode cX10_herd 17 = .ok (.if_icmp .le 13, 3) := by decide +kernel
theorem dX10_herd_20 : decode cX10_herd 20 = .ok (.new 138, 3) := by decide +kernel
theorem dX10_herd_23 : decode cX10_herd 23 = .ok (.dup, 1) := by decide +kernel
theorem dX10_herd_24 : decode cX10_herd 24 = .ok (.ldc 181, 2) := by decide +kernel
theorem dX10_herd_26 : decode cX10_herd 26 = .ok (.invokespecial 142, 3) := by decide +kernel
theorem dX10_herd_29 : decode cX10_herd 29 = .ok (.athrow, 1) := by decide +kernel
theorem dX10_herd_30 : decode cX10_herd 30 = .ok (.iload_n 2, 1) := by decide +kernel
theorem dX10_herd_31 : decode cX10_herd 31 = .ok (.tableswitch 73 0 3 #[29, 39, 49, 61], 29) := by decide +kernel
theorem dX10_herd_60 : decode cX10_herd 60 = .ok (.aload_n 0, 1) := by decide +kernel
theorem dX10_herd_61 : decode cX10_herd 61 = .ok (.getfield 49, 3) := by decide +kernel
theorem dX10_herd_64 : decode cX10_herd 64 = .ok (.getfield 183, 3) := by decide +kernel
theorem dX10_herd_67 : decode cX10_herd 67 = .ok (.iload_n 1, 1) := by decide +kernel
theorem dX10_herd_68 : decode cX10_herd 68 = .ok (.iaload, 1) := by decide +kernel
theorem dX10_herd_69 : decode cX10_herd 69 = .ok (.ireturn, 1) := by decide +kernel
theorem dX10_herd_70 : decode cX10_herd 70 = .ok (.aload_n 0, 1) := by decide +kernel
theorem dX10_herd_71 : decode cX10_herd 71 = .ok (.getfield 49, 3) := by decide +kernel
theorem dX10_herd_74 : decode cX10_herd 74 = .ok (.getfield 186, 3) := by decide +kernel
theorem dX10_herd_77 : decode cX10_herd 77 = .ok (.iload_n 1, 1) := by decide +kernel
theorem dX10_herd_78 : decode cX10_herd 78 = .ok (.iaload, 1) := by decide +kernel
theorem dX10_herd_79 : decode cX10_herd 79 = .ok (.ireturn, 1) := by decide +kernel
theorem dX10_herd_80 : decode cX10_herd 80 = .ok (.aload_n 0, 1) := by decide +kernel
theorem dX10_herd_81 : decode cX10_herd 81 = .ok (.getfield 49, 3) := by decide +kernel
theorem dX10_herd_84 : decode cX10_herd 84 = .ok (.getfield 189, 3) := by decide +kernel
theorem dX10_herd_87 : decode cX10_herd 87 = .ok (.iload_n 1, 1) := by decide +kernel
theorem dX10_herd_88 : decode cX10_herd 88 = .ok (.ishr, 1) := by decide +kernel
theorem dX10_herd_89 : decode cX10_herd 89 = .ok (.iconst 1, 1) := by decide +kernel
theorem dX10_herd_90 : decode cX10_herd 90 = .ok (.iand, 1) := by decide +kernel
theorem dX10_herd_91 : decode cX10_herd 91 = .ok (.ireturn, 1) := by decide +kernel
theorem dX10_herd_92 : decode cX10_herd 92 = .ok (.aload_n 0, 1) := by decide +kernel
theorem dX10_herd_93 : decode cX10_herd 93 = .ok (.getfield 49, 3) := by decide +kernel
theorem dX10_herd_96 : decode cX10_herd 96 = .ok (.getfield 192, 3) := by decide +kernel
theorem dX10_herd_99 : decode cX10_herd 99 = .ok (.iload_n 1, 1) := by decide +kernel
theorem dX10_herd_100 : decode cX10_herd 100 = .ok (.ishr, 1) := by decide +kernel
theorem dX10_herd_101 : decode cX10_herd 101 = .ok (.iconst 1, 1) := by decide +kernel
theorem dX10_herd_102 : decode cX10_herd 102 = .ok (.iand, 1) := by decide +kernel
theorem dX10_herd_103 : decode cX10_herd 103 = .ok (.ireturn, 1) := by decide +kernel
theorem dX10_herd_104 : decode cX10_herd 104 = .ok (.aload_n 0, 1) := by decide +kernel
theorem dX10_herd_105 : decode cX10_herd 105 = .ok (.getfield 42, 3) := by decide +kernel
theorem dX10_herd_108 : decode cX10_herd 108 = .ok (.aload_n 0, 1) := by decide +kernel
theorem dX10_herd_109 : decode cX10_herd 109 = .ok (.getfield 49, 3) := by decide +kernel
theorem dX10_herd_112 : decode cX10_herd 112 = .ok (.iload_n 1, 1) := by decide +kernel
theorem dX10_herd_113 : decode cX10_herd 113 = .ok (.aload_n 0, 1) := by decide +kernel
theorem dX10_herd_114 : decode cX10_herd 114 = .ok (.getfield 26, 3) := by decide +kernel
theorem dX10_herd_117 : decode cX10_herd 117 = .ok (.aload_n 0, 1) := by decide +kernel
theorem dX10_herd_118 : decode cX10_herd 118 = .ok (.getfield 49, 3) := by decide +kernel
theorem dX10_herd_121 : decode cX10_herd 121 = .ok (.getfield 154, 3) := by decide +kernel
theorem dX10_herd_124 : decode cX10_herd 124 = .ok (.invokevirtual 195, 3) := by decide +kernel
theorem dX10_herd_127 : decode cX10_herd 127 = .ok (.invokevirtual 199, 3) := by decide +kernel
theorem dX10_herd_130 : decode cX10_herd 130 = .ok (.ireturn, 1) := by decide +kernel
theorem dX10_set_0 : decode cX10_set 0 = .ok (.iconst (-1), 1) := by decide +kernel
theorem dX10_set_1 : decode cX10_set 1 = .ok (.istore_n 3, 1) := by decide +kernel
theorem dX10_set_2 : decode cX10_set 2 = .ok (.iload_n 1, 1) := by decide +kernel
theorem dX10_set_3 : decode cX10_set 3 = .ok (.ifCond .ne 32, 3) := by decide +kernel
theorem dX10_set_6 : decode cX10_set 6 = .ok (.iload_n 2, 1) := by decide +kernel
theorem dX10_set_7 : decode cX10_set 7 = .ok (.ifCond .lt 28, 3) := by decide +kernel
theorem dX10_set_10 : decode cX10_set 10 = .ok (.iload_n 2, 1) := by decide +kernel
theorem dX10_set_11 : decode cX10_set 11 = .ok (.bipush 99, 2) := by decide +kernel
theorem dX10_set_13 : decode cX10_set 13 = .ok (.if_icmp .gt 22, 3) := by decide +kernel
theorem dX10_set_16 : decode cX10_set 16 = .ok (.aload_n 0, 1) := by decide +kernel
theorem dX10_set_17 : decode cX10_set 17 = .ok (.getfield 42, 3) := by decide +kernel
theorem dX10_set_20 : decode cX10_set 20 = .ok (.getfield 167, 3) := by decide +kernel
theorem dX10_set_23 : decode cX10_set 23 = .ok (.istore_n 3, 1) := by decide +kernel
theorem dX10_set_24 : decode cX10_set 24 = .ok (.aload_n 0, 1) := by decide +kernel
theorem dX10_set_25 : decode cX10_set 25 = .ok (.getfield 42, 3) := by decide +kernel
