theorem dX5_init_0 : decode cX5_init 0 = .ok (.aload_n 0, 1) := by decide +kernel
theorem dX5_init_1 : decode cX5_init 1 = .ok (.invokespecial 1, 3) := by decide +kernel
theorem dX5_init_4 : decode cX5_init 4 = .ok (.aload_n 0, 1) := by decide +kernel
theorem dX5_init_5 : decode cX5_init 5 = .ok (.bipush 40, 2) := by decide +kernel
theorem dX5_init_7 : decode cX5_init 7 = .ok (.newarray .int, 2) := by decide +kernel
theorem dX5_init_9 : decode cX5_init 9 = .ok (.putfield 7, 3) := by decide +kernel
theorem dX5_init_12 : decode cX5_init 12 = .ok (.aload_n 0, 1) := by decide +kernel
theorem dX5_init_13 : decode cX5_init 13 = .ok (.bipush 40, 2) := by decide +kernel
theorem dX5_init_15 : decode cX5_init 15 = .ok (.newarray .int, 2) := by decide +kernel
theorem dX5_init_17 : decode cX5_init 17 = .ok (.putfield 13, 3) := by decide +kernel
theorem dX5_init_20 : decode cX5_init 20 = .ok (.aload_n 0, 1) := by decide +kernel
theorem dX5_init_21 : decode cX5_init 21 = .ok (.bipush 40, 2) := by decide +kernel
theorem dX5_init_23 : decode cX5_init 23 = .ok (.newarray .int, 2) := by decide +kernel
theorem dX5_init_25 : decode cX5_init 25 = .ok (.putfield 16, 3) := by decide +kernel
theorem dX5_init_28 : decode cX5_init 28 = .ok (.aload_n 0, 1) := by decide +kernel
theorem dX5_init_29 : decode cX5_init 29 = .ok (.sipush 1600, 3) := by decide +kernel
theorem dX5_init_32 : decode cX5_init 32 = .ok (.newarray .int, 2) := by decide +kernel
theorem dX5_init_34 : decode cX5_init 34 = .ok (.putfield 19, 3) := by decide +kernel
theorem dX5_init_37 : decode cX5_init 37 = .ok (.aload_n 0, 1) := by decide +kernel
theorem dX5_init_38 : decode cX5_init 38 = .ok (.sipush 1600, 3) := by decide +kernel
theorem dX5_init_41 : decode cX5_init 41 = .ok (.newarray .boolean, 2) := by decide +kernel
theorem dX5_init_43 : decode cX5_init 43 = .ok (.putfield 22, 3) := by decide +kernel
theorem dX5_init_46 : decode cX5_init 46 = .ok (.aload_n 0, 1) := by decide +kernel
theorem dX5_init_47 : decode cX5_init 47 = .ok (.bipush 80, 2) := by decide +kernel
theorem dX5_init_49 : decode cX5_init 49 = .ok (.newarray .int, 2) := by decide +kernel
theorem dX5_init_51 : decode cX5_init 51 = .ok (.putfield 26, 3) := by decide +kernel
theorem dX5_init_54 : decode cX5_init 54 = .ok (.aload_n 0, 1) := by decide +kernel
theorem dX5_init_55 : decode cX5_init 55 = .ok (.bipush 80, 2) := by decide +kernel
theorem dX5_init_57 : decode cX5_init 57 = .ok (.newarray .int, 2) := by decide +kernel
theorem dX5_init_59 : decode cX5_init 59 = .ok (.putfield 29, 3) := by decide +kernel
theorem dX5_init_62 : decode cX5_init 62 = .ok (.aload_n 0, 1) := by decide +kernel
theorem dX5_init_63 : decode cX5_init 63 = .ok (.bipush 80, 2) := by decide +kernel
theorem dX5_init_65 : decode cX5_init 65 = .ok (.newarray .int, 2) := by decide +kernel
theorem dX5_init_67 : decode cX5_init 67 = .ok (.putfield 32, 3) := by decide +kernel
theorem dX5_init_70 : decode cX5_init 70 = .ok (.aload_n 0, 1) := by decide +kernel
theorem dX5_init_71 : decode cX5_init 71 = .ok (.iconst 4, 1) := by decide +kernel
theorem dX5_init_72 : decode cX5_init 72 = .ok (.putfield 35, 3) := by decide +kernel
theorem dX5_init_75 : decode cX5_init 75 = .ok (.aload_n 0, 1) := by decide +kernel
theorem dX5_init_76 : decode cX5_init 76 = .ok (.bipush 20, 2) := by decide +kernel
theorem dX5_init_78 : decode cX5_init 78 = .ok (.newarray .int, 2) := by decide +kernel
theorem dX5_init_80 : decode cX5_init 80 = .ok (.putfield 39, 3) := by decide +kernel
theorem dX5_init_83 : decode cX5_init 83 = .ok (.aload_n 0, 1) := by decide +kernel
theorem dX5_init_84 : decode cX5_init 84 = .ok (.bipush 20, 2) := by decide +kernel
theorem dX5_init_86 : decode cX5_init 86 = .ok (.newarray .int, 2) := by decide +kernel
theorem dX5_init_88 : decode cX5_init 88 = .ok (.putfield 42, 3) := by decide +kernel
theorem dX5_init_91 : decode cX5_init 91 = .ok (.aload_n 0, 1) := by decide +kernel
theorem dX5_init_92 : decode cX5_init 92 = .ok (.bipush 50, 2) := by decide +kernel
theorem dX5_init_94 : decode cX5_init 94 = .ok (.newarray .int, 2) := by decide +kernel
theorem dX5_init_96 : decode cX5_init 96 = .ok (.putfield 45, 3) := by decide +kernel
theorem dX5_init_99 : decode cX5_init 99 = .ok (.aload_n 0, 1) := by decide +kernel
theorem dX5_init_100 : decode cX5_init 100 = .ok (.bipush 40, 2) := by decide +kernel
theorem dX5_init_102 : decode cX5_init 102 = .ok (.newarray .int, 2) := by decide +kernel
theorem dX5_init_104 : decode cX5_init 104 = .ok (.putfield 48, 3) := by decide +kernel
theorem dX5_init_107 : decode cX5_init 107 = .ok (.aload_n 0, 1) := by decide +kernel
theorem dX5_init_108 : decode cX5_init 108 = .ok (.bipush 40, 2) := by decide +kernel
theorem dX5_init_110 : decode cX5_init 110 = .ok (.newarray .int, 2) := by decide +kernel
theorem dX5_init_112 : decode cX5_init 112 = .ok (.putfield 51, 3) := by decide +kernel
theorem dX5_init_115 : decode cX5_init 115 = .ok (.aload_n 0, 1) := by decide +kernel
theorem dX5_init_116 : decode cX5_init 116 = .ok (.bipush 40, 2) := by decide +kernel
theorem dX5_init_118 : decode cX5_init 118 = .ok (.newarray .int, 2) := by decide +kernel
theorem dX5_init_120 : decode cX5_init 120 = .ok (.putfield 54, 3) := by decide +kernel
theorem dX5_init_123 : decode cX5_init 123 = .ok (.aload_n 0, 1) := by decide +kernel
theorem dX5_init_124 : decode cX5_init 124 = .ok (.bipush 40, 2) := by decide +kernel
theorem dX5_init_126 : decode cX5_init 126 = .ok (.newarray .int, 2) := by decide +kernel
theorem dX5_init_128 : decode cX5_init 128 = .ok (.putfield 57, 3) := by decide +kernel
theorem dX5_init_131 : decode cX5_init 131 = .ok (.aload_n 0, 1) := by decide +kernel
theorem dX5_init_132 : decode cX5_init 132 = .ok (.bipush 40, 2) := by decide +kernel
theorem dX5_init_134 : decode cX5_init 134 = .ok (.newarray .boolean, 2) := by decide +kernel
theorem dX5_init_136 : decode cX5_init 136 = .ok (.putfield 60, 3) := by decide +kernel
theorem dX5_init_139 : decode cX5_init 139 = .ok (.aload_n 0, 1) := by decide +kernel
theorem dX5_init_140 : decode cX5_init 140 = .ok (.bipush 40, 2) := by decide +kernel
theorem dX5_init_142 : decode cX5_init 142 = .ok (.newarray .int, 2) := by decide +kernel
theorem dX5_init_144 : decode cX5_init 144 = .ok (.putfield 63, 3) := by decide +kernel
theorem dX5_init_147 : decode cX5_init 147 = .ok (.aload_n 0, 1) := by decide +kernel
theorem dX5_init_148 : decode cX5_init 148 = .ok (.bipush 40, 2) := by decide +kernel
theorem dX5_init_150 : decode cX5_init 150 = .ok (.newarray .int, 2) := by decide +kernel
theorem dX5_init_152 : decode cX5_init 152 = .ok (.putfield 66, 3) := by decide +kernel
theorem dX5_init_155 : decode cX5_init 155 = .ok (.return_, 1) := by decide +kernel
theorem dX5_thrown_0 : decode cX5_thrown 0 = .ok (.aload_n 0, 1) := by decide +kernel
theorem dX5_thrown_1 : decode cX5_thrown 1 = .ok (.getfield 69, 3) := by decide +kernel
theorem dX5_thrown_4 : decode cX5_thrown 4 = .ok (.ireturn, 1) := by decide +kernel
theorem dX5_isNet_0 : decode cX5_isNet 0 = .ok (.iload_n 1, 1) := by decide +kernel
theorem dX5_isNet_1 : decode cX5_isNet 1 = .ok (.ifCond .lt 15, 3) := by decide +kernel
theorem dX5_isNet_4 : decode cX5_isNet 4 = .ok (.iload_n 1, 1) := by decide +kernel
theorem dX5_isNet_5 : decode cX5_isNet 5 = .ok (.aload_n 0, 1) := by decide +kernel
theorem dX5_isNet_6 : decode cX5_isNet 6 = .ok (.getfield 72, 3) := by decide +kernel
theorem dX5_isNet_9 : decode cX5_isNet 9 = .ok (.if_icmp .ge 7, 3) := by decide +kernel
theorem dX5_isNet_12 : decode cX5_isNet 12 = .ok (.iconst 1, 1) := by decide +kernel
theorem dX5_isNet_13 : decode cX5_isNet 13 = .ok (.goto 4, 3) := by decide +kernel
theorem dX5_isNet_16 : decode cX5_isNet 16 = .ok (.iconst 0, 1) := by decide +kernel
theorem dX5_isNet_17 : decode cX5_isNet 17 = .ok (.ireturn, 1) := by decide +kernel
theorem dX5_within_0 : decode cX5_within 0 = .ok (.iload_n 0, 1) := by decide +kernel
theorem dX5_within_1 : decode cX5_within 1 = .ok (.iload_n 1, 1) := by decide +kernel
theorem dX5_within_2 : decode cX5_within 2 = .ok (.if_icmp .lt 12, 3) := by decide +kernel
theorem dX5_within_5 : decode cX5_within 5 = .ok (.iload_n 0, 1) := by decide +kernel
theorem dX5_within_6 : decode cX5_within 6 = .ok (.iload_n 2, 1) := by decide +kernel
theorem dX5_within_7 : decode cX5_within 7 = .ok (.if_icmp .gt 7, 3) := by decide +kernel
theorem dX5_within_10 : decode cX5_within 10 = .ok (.iconst 1, 1) := by decide +kernel
theorem dX5_within_11 : decode cX5_within 11 = .ok (.goto 4, 3) := by decide +kernel
theorem dX5_within_14 : decode cX5_within 14 = .ok (.iconst 0, 1) := by decide +kernel
theorem dX5_within_15 : decode cX5_within 15 = .ok (.ireturn, 1) := by decide +kernel
theorem dX5_net_0 : decode cX5_net 0 = .ok (.aload_n 0, 1) := by decide +kernel
theorem dX5_net_1 : decode cX5_net 1 = .ok (.iload_n 1, 1) := by decide +kernel
theorem dX5_net_2 : decode cX5_net 2 = .ok (.iconst 0, 1) := by decide +kernel
theorem dX5_net_3 : decode cX5_net 3 = .ok (.ldc 75, 2) := by decide +kernel
theorem dX5_net_5 : decode cX5_net 5 = .ok (.invokestatic 76, 3) := by decide +kernel
theorem dX5_net_8 : decode cX5_net 8 = .ok (.ifCond .eq 24, 3) := by decide +kernel
theorem dX5_net_11 : decode cX5_net 11 = .ok (.iload_n 2, 1) := by decide +kernel
theorem dX5_net_12 : decode cX5_net 12 = .ok (.iload_n 1, 1) := by decide +kernel
theorem dX5_net_13 : decode cX5_net 13 = .ok (.ldc 75, 2) := by decide +kernel
theorem dX5_net_15 : decode cX5_net 15 = .ok (.invokestatic 76, 3) := by decide +kernel
theorem dX5_net_18 : decode cX5_net 18 = .ok (.ifCond .eq 14, 3) := by decide +kernel
theorem dX5_net_21 : decode cX5_net 21 = .ok (.iload_n 3, 1) := by decide +kernel
theorem dX5_net_22 : decode cX5_net 22 = .ok (.iconst 0, 1) := by decide +kernel
theorem dX5_net_23 : decode cX5_net 23 = .ok (.sipush 10000, 3) := by decide +kernel
theorem dX5_net_26 : decode cX5_net 26 = .ok (.invokestatic 76, 3) := by decide +kernel
theorem dX5_net_29 : decode cX5_net 29 = .ok (.ifCond .ne 7, 3) := by decide +kernel
theorem dX5_net_32 : decode cX5_net 32 = .ok (.iconst 1, 1) := by decide +kernel
theorem dX5_net_33 : decode cX5_net 33 = .ok (.goto 17, 3) := by decide +kernel
theorem dX5_net_36 : decode cX5_net 36 = .ok (.aload_n 0, 1) := by decide +kernel
theorem dX5_net_37 : decode cX5_net 37 = .ok (.getfield 72, 3) := by decide +kernel
theorem dX5_net_40 : decode cX5_net 40 = .ok (.bipush 40, 2) := by decide +kernel
theorem dX5_net_42 : decode cX5_net 42 = .ok (.if_icmp .ne 7, 3) := by decide +kernel
theorem dX5_net_45 : decode cX5_net 45 = .ok (.iconst 2, 1) := by decide +kernel
theorem dX5_net_46 : decode cX5_net 46 = .ok (.goto 4, 3) := by decide +kernel
theorem dX5_net_49 : decode cX5_net 49 = .ok (.iconst 0, 1) := by decide +kernel
theorem dX5_net_50 : decode cX5_net 50 = .ok (.putfield 69, 3) := by decide +kernel
theorem dX5_net_53 : decode cX5_net 53 = .ok (.aload_n 0, 1) := by decide +kernel
theorem dX5_net_54 : decode cX5_net 54 = .ok (.getfield 69, 3) := by decide +kernel
theorem dX5_net_57 : decode cX5_net 57 = .ok (.ifCond .le 5, 3) := by decide +kernel
theorem dX5_net_60 : decode cX5_net 60 = .ok (.iconst 0, 1) := by decide +kernel
theorem dX5_net_61 : decode cX5_net 61 = .ok (.ireturn, 1) := by decide +kernel
theorem dX5_net_62 : decode cX5_net 62 = .ok (.aload_n 0, 1) := by decide +kernel
theorem dX5_net_63 : decode cX5_net 63 = .ok (.getfield 7, 3) := by decide +kernel
theorem dX5_net_66 : decode cX5_net 66 = .ok (.aload_n 0, 1) := by decide +kernel
theorem dX5_net_67 : decode cX5_net 67 = .ok (.getfield 72, 3) := by decide +kernel
theorem dX5_net_70 : decode cX5_net 70 = .ok (.iload_n 1, 1) := by decide +kernel
theorem dX5_net_71 : decode cX5_net 71 = .ok (.iastore, 1) := by decide +kernel
theorem dX5_net_72 : decode cX5_net 72 = .ok (.aload_n 0, 1) := by decide +kernel
theorem dX5_net_73 : decode cX5_net 73 = .ok (.getfield 13, 3) := by decide +kernel
theorem dX5_net_76 : decode cX5_net 76 = .ok (.aload_n 0, 1) := by decide +kernel
theorem dX5_net_77 : decode cX5_net 77 = .ok (.getfield 72, 3) := by decide +kernel
theorem dX5_net_80 : decode cX5_net 80 = .ok (.iload_n 2, 1) := by decide +kernel
theorem dX5_net_81 : decode cX5_net 81 = .ok (.iastore, 1) := by decide +kernel
theorem dX5_net_82 : decode cX5_net 82 = .ok (.aload_n 0, 1) := by decide +kernel
theorem dX5_net_83 : decode cX5_net 83 = .ok (.getfield 16, 3) := by decide +kernel
theorem dX5_net_86 : decode cX5_net 86 = .ok (.aload_n 0, 1) := by decide +kernel
theorem dX5_net_87 : decode cX5_net 87 = .ok (.getfield 72, 3) := by decide +kernel
theorem dX5_net_90 : decode cX5_net 90 = .ok (.iload_n 3, 1) := by decide +kernel
theorem dX5_net_91 : decode cX5_net 91 = .ok (.iastore, 1) := by decide +kernel
theorem dX5_net_92 : decode cX5_net 92 = .ok (.aload_n 0, 1) := by decide +kernel
theorem dX5_net_93 : decode cX5_net 93 = .ok (.getfield 48, 3) := by decide +kernel
theorem dX5_net_96 : decode cX5_net 96 = .ok (.aload_n 0, 1) := by decide +kernel
theorem dX5_net_97 : decode cX5_net 97 = .ok (.getfield 72, 3) := by decide +kernel
theorem dX5_net_100 : decode cX5_net 100 = .ok (.iconst 0, 1) := by decide +kernel
theorem dX5_net_101 : decode cX5_net 101 = .ok (.iastore, 1) := by decide +kernel
theorem dX5_net_102 : decode cX5_net 102 = .ok (.aload_n 0, 1) := by decide +kernel
theorem dX5_net_103 : decode cX5_net 103 = .ok (.dup, 1) := by decide +kernel
theorem dX5_net_104 : decode cX5_net 104 = .ok (.getfield 72, 3) := by decide +kernel
theorem dX5_net_107 : decode cX5_net 107 = .ok (.iconst 1, 1) := by decide +kernel
theorem dX5_net_108 : decode cX5_net 108 = .ok (.iadd, 1) := by decide +kernel
theorem dX5_net_109 : decode cX5_net 109 = .ok (.putfield 72, 3) := by decide +kernel
theorem dX5_net_112 : decode cX5_net 112 = .ok (.aload_n 0, 1) := by decide +kernel
theorem dX5_net_113 : decode cX5_net 113 = .ok (.getfield 72, 3) := by decide +kernel
theorem dX5_net_116 : decode cX5_net 116 = .ok (.iconst 1, 1) := by decide +kernel
theorem dX5_net_117 : decode cX5_net 117 = .ok (.isub, 1) := by decide +kernel
theorem dX5_net_118 : decode cX5_net 118 = .ok (.ireturn, 1) := by decide +kernel
theorem dX5_couple_0 : decode cX5_couple 0 = .ok (.aload_n 0, 1) := by decide +kernel
theorem dX5_couple_1 : decode cX5_couple 1 = .ok (.aload_n 0, 1) := by decide +kernel
theorem dX5_couple_2 : decode cX5_couple 2 = .ok (.iload_n 1, 1) := by decide +kernel
theorem dX5_couple_3 : decode cX5_couple 3 = .ok (.invokevirtual 80, 3) := by decide +kernel
theorem dX5_couple_6 : decode cX5_couple 6 = .ok (.ifCond .eq 11, 3) := by decide +kernel
theorem dX5_couple_9 : decode cX5_couple 9 = .ok (.aload_n 0, 1) := by decide +kernel
theorem dX5_couple_10 : decode cX5_couple 10 = .ok (.iload_n 2, 1) := by decide +kernel
theorem dX5_couple_11 : decode cX5_couple 11 = .ok (.invokevirtual 80, 3) := by decide +kernel
theorem dX5_couple_14 : decode cX5_couple 14 = .ok (.ifCond .ne 7, 3) := by decide +kernel
theorem dX5_couple_17 : decode cX5_couple 17 = .ok (.iconst 1, 1) := by decide +kernel
theorem dX5_couple_18 : decode cX5_couple 18 = .ok (.goto 24, 3) := by decide +kernel
theorem dX5_couple_21 : decode cX5_couple 21 = .ok (.iload_n 1, 1) := by decide +kernel
theorem dX5_couple_22 : decode cX5_couple 22 = .ok (.iload_n 2, 1) := by decide +kernel
theorem dX5_couple_23 : decode cX5_couple 23 = .ok (.if_icmp .eq 14, 3) := by decide +kernel
theorem dX5_couple_26 : decode cX5_couple 26 = .ok (.iload_n 3, 1) := by decide +kernel
theorem dX5_couple_27 : decode cX5_couple 27 = .ok (.iconst 1, 1) := by decide +kernel
theorem dX5_couple_28 : decode cX5_couple 28 = .ok (.sipush 1000, 3) := by decide +kernel
theorem dX5_couple_31 : decode cX5_couple 31 = .ok (.invokestatic 76, 3) := by decide +kernel
theorem dX5_couple_34 : decode cX5_couple 34 = .ok (.ifCond .ne 7, 3) := by decide +kernel
theorem dX5_couple_37 : decode cX5_couple 37 = .ok (.iconst 2, 1) := by decide +kernel
theorem dX5_couple_38 : decode cX5_couple 38 = .ok (.goto 4, 3) := by decide +kernel
theorem dX5_couple_41 : decode cX5_couple 41 = .ok (.iconst 0, 1) := by decide +kernel
theorem dX5_couple_42 : decode cX5_couple 42 = .ok (.putfield 69, 3) := by decide +kernel
theorem dX5_couple_45 : decode cX5_couple 45 = .ok (.aload_n 0, 1) := by decide +kernel
theorem dX5_couple_46 : decode cX5_couple 46 = .ok (.getfield 69, 3) := by decide +kernel
theorem dX5_couple_49 : decode cX5_couple 49 = .ok (.ifCond .le 5, 3) := by decide +kernel
theorem dX5_couple_52 : decode cX5_couple 52 = .ok (.iconst 0, 1) := by decide +kernel
theorem dX5_couple_53 : decode cX5_couple 53 = .ok (.ireturn, 1) := by decide +kernel
theorem dX5_couple_54 : decode cX5_couple 54 = .ok (.aload_n 0, 1) := by decide +kernel
theorem dX5_couple_55 : decode cX5_couple 55 = .ok (.getfield 19, 3) := by decide +kernel
theorem dX5_couple_58 : decode cX5_couple 58 = .ok (.bipush 40, 2) := by decide +kernel
theorem dX5_couple_60 : decode cX5_couple 60 = .ok (.iload_n 1, 1) := by decide +kernel
theorem dX5_couple_61 : decode cX5_couple 61 = .ok (.imul, 1) := by decide +kernel
theorem dX5_couple_62 : decode cX5_couple 62 = .ok (.iload_n 2, 1) := by decide +kernel
theorem dX5_couple_63 : decode cX5_couple 63 = .ok (.iadd, 1) := by decide +kernel
theorem dX5_couple_64 : decode cX5_couple 64 = .ok (.iaload, 1) := by decide +kernel
theorem dX5_couple_65 : decode cX5_couple 65 = .ok (.istore 4, 2) := by decide +kernel
theorem dX5_couple_67 : decode cX5_couple 67 = .ok (.iload 4, 2) := by decide +kernel
theorem dX5_couple_69 : decode cX5_couple 69 = .ok (.ifCond .ne 19, 3) := by decide +kernel
theorem dX5_couple_72 : decode cX5_couple 72 = .ok (.aload_n 0, 1) := by decide +kernel
theorem dX5_couple_73 : decode cX5_couple 73 = .ok (.getfield 84, 3) := by decide +kernel
theorem dX5_couple_76 : decode cX5_couple 76 = .ok (.bipush 120, 2) := by decide +kernel
theorem dX5_couple_78 : decode cX5_couple 78 = .ok (.if_icmp .ne 10, 3) := by decide +kernel
theorem dX5_couple_81 : decode cX5_couple 81 = .ok (.aload_n 0, 1) := by decide +kernel
theorem dX5_couple_82 : decode cX5_couple 82 = .ok (.iconst 3, 1) := by decide +kernel
theorem dX5_couple_83 : decode cX5_couple 83 = .ok (.putfield 69, 3) := by decide +kernel
theorem dX5_couple_86 : decode cX5_couple 86 = .ok (.iconst 0, 1) := by decide +kernel
theorem dX5_couple_87 : decode cX5_couple 87 = .ok (.ireturn, 1) := by decide +kernel
theorem dX5_couple_88 : decode cX5_couple 88 = .ok (.aload_n 0, 1) := by decide +kernel
theorem dX5_couple_89 : decode cX5_couple 89 = .ok (.dup, 1) := by decide +kernel
theorem dX5_couple_90 : decode cX5_couple 90 = .ok (.getfield 84, 3) := by decide +kernel
theorem dX5_couple_93 : decode cX5_couple 93 = .ok (.iload 4, 2) := by decide +kernel
theorem dX5_couple_95 : decode cX5_couple 95 = .ok (.ifCond .ne 7, 3) := by decide +kernel
theorem dX5_couple_98 : decode cX5_couple 98 = .ok (.iconst 1, 1) := by decide +kernel
theorem dX5_couple_99 : decode cX5_couple 99 = .ok (.goto 4, 3) := by decide +kernel
theorem dX5_couple_102 : decode cX5_couple 102 = .ok (.iconst 0, 1) := by decide +kernel
theorem dX5_couple_103 : decode cX5_couple 103 = .ok (.iadd, 1) := by decide +kernel
theorem dX5_couple_104 : decode cX5_couple 104 = .ok (.putfield 84, 3) := by decide +kernel
theorem dX5_couple_107 : decode cX5_couple 107 = .ok (.aload_n 0, 1) := by decide +kernel
theorem dX5_couple_108 : decode cX5_couple 108 = .ok (.getfield 19, 3) := by decide +kernel
theorem dX5_couple_111 : decode cX5_couple 111 = .ok (.bipush 40, 2) := by decide +kernel
theorem dX5_couple_113 : decode cX5_couple 113 = .ok (.iload_n 1, 1) := by decide +kernel
theorem dX5_couple_114 : decode cX5_couple 114 = .ok (.imul, 1) := by decide +kernel
theorem dX5_couple_115 : decode cX5_couple 115 = .ok (.iload_n 2, 1) := by decide +kernel
theorem dX5_couple_116 : decode cX5_couple 116 = .ok (.iadd, 1) := by decide +kernel
theorem dX5_couple_117 : decode cX5_couple 117 = .ok (.iload_n 3, 1) := by decide +kernel
theorem dX5_couple_118 : decode cX5_couple 118 = .ok (.iastore, 1) := by decide +kernel
theorem dX5_couple_119 : decode cX5_couple 119 = .ok (.aload_n 0, 1) := by decide +kernel
theorem dX5_couple_120 : decode cX5_couple 120 = .ok (.getfield 19, 3) := by decide +kernel
theorem dX5_couple_123 : decode cX5_couple 123 = .ok (.bipush 40, 2) := by decide +kernel
theorem dX5_couple_125 : decode cX5_couple 125 = .ok (.iload_n 2, 1) := by decide +kernel
theorem dX5_couple_126 : decode cX5_couple 126 = .ok (.imul, 1) := by decide +kernel
theorem dX5_couple_127 : decode cX5_couple 127 = .ok (.iload_n 1, 1) := by decide +kernel
theorem dX5_couple_128 : decode cX5_couple 128 = .ok (.iadd, 1) := by decide +kernel
theorem dX5_couple_129 : decode cX5_couple 129 = .ok (.iload_n 3, 1) := by decide +kernel
theorem dX5_couple_130 : decode cX5_couple 130 = .ok (.iastore, 1) := by decide +kernel
theorem dX5_couple_131 : decode cX5_couple 131 = .ok (.iload 4, 2) := by decide +kernel
theorem dX5_couple_133 : decode cX5_couple 133 = .ok (.ireturn, 1) := by decide +kernel
theorem dX5_exclude_0 : decode cX5_exclude 0 = .ok (.aload_n 0, 1) := by decide +kernel
theorem dX5_exclude_1 : decode cX5_exclude 1 = .ok (.aload_n 0, 1) := by decide +kernel
theorem dX5_exclude_2 : decode cX5_exclude 2 = .ok (.iload_n 1, 1) := by decide +kernel
theorem dX5_exclude_3 : decode cX5_exclude 3 = .ok (.invokevirtual 80, 3) := by decide +kernel
theorem dX5_exclude_6 : decode cX5_exclude 6 = .ok (.ifCond .eq 11, 3) := by decide +kernel
theorem dX5_exclude_9 : decode cX5_exclude 9 = .ok (.aload_n 0, 1) := by decide +kernel
theorem dX5_exclude_10 : decode cX5_exclude 10 = .ok (.iload_n 2, 1) := by decide +kernel
theorem dX5_exclude_11 : decode cX5_exclude 11 = .ok (.invokevirtual 80, 3) := by decide +kernel
theorem dX5_exclude_14 : decode cX5_exclude 14 = .ok (.ifCond .ne 7, 3) := by decide +kernel
theorem dX5_exclude_17 : decode cX5_exclude 17 = .ok (.iconst 1, 1) := by decide +kernel
theorem dX5_exclude_18 : decode cX5_exclude 18 = .ok (.goto 13, 3) := by decide +kernel
theorem dX5_exclude_21 : decode cX5_exclude 21 = .ok (.iload_n 1, 1) := by decide +kernel
theorem dX5_exclude_22 : decode cX5_exclude 22 = .ok (.iload_n 2, 1) := by decide +kernel
theorem dX5_exclude_23 : decode cX5_exclude 23 = .ok (.if_icmp .ne 7, 3) := by decide +kernel
theorem dX5_exclude_26 : decode cX5_exclude 26 = .ok (.iconst 2, 1) := by decide +kernel
theorem dX5_exclude_27 : decode cX5_exclude 27 = .ok (.goto 4, 3) := by decide +kernel
theorem dX5_exclude_30 : decode cX5_exclude 30 = .ok (.iconst 0, 1) := by decide +kernel
theorem dX5_exclude_31 : decode cX5_exclude 31 = .ok (.putfield 69, 3) := by decide +kernel
theorem dX5_exclude_34 : decode cX5_exclude 34 = .ok (.aload_n 0, 1) := by decide +kernel
theorem dX5_exclude_35 : decode cX5_exclude 35 = .ok (.getfield 69, 3) := by decide +kernel
theorem dX5_exclude_38 : decode cX5_exclude 38 = .ok (.ifCond .gt 17, 3) := by decide +kernel
theorem dX5_exclude_41 : decode cX5_exclude 41 = .ok (.aload_n 0, 1) := by decide +kernel
theorem dX5_exclude_42 : decode cX5_exclude 42 = .ok (.getfield 22, 3) := by decide +kernel
theorem dX5_exclude_45 : decode cX5_exclude 45 = .ok (.bipush 40, 2) := by decide +kernel
theorem dX5_exclude_47 : decode cX5_exclude 47 = .ok (.iload_n 1, 1) := by decide +kernel
theorem dX5_exclude_48 : decode cX5_exclude 48 = .ok (.imul, 1) := by decide +kernel
theorem dX5_exclude_49 : decode cX5_exclude 49 = .ok (.iload_n 2, 1) := by decide +kernel
theorem dX5_exclude_50 : decode cX5_exclude 50 = .ok (.iadd, 1) := by decide +kernel
theorem dX5_exclude_51 : decode cX5_exclude 51 = .ok (.baload, 1) := by decide +kernel
theorem dX5_exclude_52 : decode cX5_exclude 52 = .ok (.ifCond .eq 5, 3) := by decide +kernel
theorem dX5_exclude_55 : decode cX5_exclude 55 = .ok (.iconst 0, 1) := by decide +kernel
theorem dX5_exclude_56 : decode cX5_exclude 56 = .ok (.ireturn, 1) := by decide +kernel
theorem dX5_exclude_57 : decode cX5_exclude 57 = .ok (.aload_n 0, 1) := by decide +kernel
theorem dX5_exclude_58 : decode cX5_exclude 58 = .ok (.getfield 22, 3) := by decide +kernel
theorem dX5_exclude_61 : decode cX5_exclude 61 = .ok (.bipush 40, 2) := by decide +kernel
theorem dX5_exclude_63 : decode cX5_exclude 63 = .ok (.iload_n 1, 1) := by decide +kernel
theorem dX5_exclude_64 : decode cX5_exclude 64 = .ok (.imul, 1) := by decide +kernel
theorem dX5_exclude_65 : decode cX5_exclude 65 = .ok (.iload_n 2, 1) := by decide +kernel
theorem dX5_exclude_66 : decode cX5_exclude 66 = .ok (.iadd, 1) := by decide +kernel
theorem dX5_exclude_67 : decode cX5_exclude 67 = .ok (.iconst 1, 1) := by decide +kernel
theorem dX5_exclude_68 : decode cX5_exclude 68 = .ok (.bastore, 1) := by decide +kernel
theorem dX5_exclude_69 : decode cX5_exclude 69 = .ok (.aload_n 0, 1) := by decide +kernel
theorem dX5_exclude_70 : decode cX5_exclude 70 = .ok (.getfield 22, 3) := by decide +kernel
theorem dX5_exclude_73 : decode cX5_exclude 73 = .ok (.bipush 40, 2) := by decide +kernel
theorem dX5_exclude_75 : decode cX5_exclude 75 = .ok (.iload_n 2, 1) := by decide +kernel
theorem dX5_exclude_76 : decode cX5_exclude 76 = .ok (.imul, 1) := by decide +kernel
theorem dX5_exclude_77 : decode cX5_exclude 77 = .ok (.iload_n 1, 1) := by decide +kernel
theorem dX5_exclude_78 : decode cX5_exclude 78 = .ok (.iadd, 1) := by decide +kernel
theorem dX5_exclude_79 : decode cX5_exclude 79 = .ok (.iconst 1, 1) := by decide +kernel
theorem dX5_exclude_80 : decode cX5_exclude 80 = .ok (.bastore, 1) := by decide +kernel
theorem dX5_exclude_81 : decode cX5_exclude 81 = .ok (.aload_n 0, 1) := by decide +kernel
theorem dX5_exclude_82 : decode cX5_exclude 82 = .ok (.dup, 1) := by decide +kernel
theorem dX5_exclude_83 : decode cX5_exclude 83 = .ok (.getfield 87, 3) := by decide +kernel
theorem dX5_exclude_86 : decode cX5_exclude 86 = .ok (.iconst 1, 1) := by decide +kernel
theorem dX5_exclude_87 : decode cX5_exclude 87 = .ok (.iadd, 1) := by decide +kernel
theorem dX5_exclude_88 : decode cX5_exclude 88 = .ok (.putfield 87, 3) := by decide +kernel
theorem dX5_exclude_91 : decode cX5_exclude 91 = .ok (.iconst 1, 1) := by decide +kernel
theorem dX5_exclude_92 : decode cX5_exclude 92 = .ok (.ireturn, 1) := by decide +kernel
theorem dX5_leads_0 : decode cX5_leads 0 = .ok (.iconst 0, 1) := by decide +kernel
theorem dX5_leads_1 : decode cX5_leads 1 = .ok (.istore_n 3, 1) := by decide +kernel
theorem dX5_leads_2 : decode cX5_leads 2 = .ok (.iload_n 3, 1) := by decide +kernel
theorem dX5_leads_3 : decode cX5_leads 3 = .ok (.bipush 40, 2) := by decide +kernel
theorem dX5_leads_5 : decode cX5_leads 5 = .ok (.if_icmp .ge 25, 3) := by decide +kernel
theorem dX5_leads_8 : decode cX5_leads 8 = .ok (.aload_n 0, 1) := by decide +kernel
theorem dX5_leads_9 : decode cX5_leads 9 = .ok (.getfield 60, 3) := by decide +kernel
theorem dX5_leads_12 : decode cX5_leads 12 = .ok (.iload_n 3, 1) := by decide +kernel
theorem dX5_leads_13 : decode cX5_leads 13 = .ok (.iload_n 3, 1) := by decide +kernel
theorem dX5_leads_14 : decode cX5_leads 14 = .ok (.iload_n 1, 1) := by decide +kernel
theorem dX5_leads_15 : decode cX5_leads 15 = .ok (.if_icmp .ne 7, 3) := by decide +kernel
theorem dX5_leads_18 : decode cX5_leads 18 = .ok (.iconst 1, 1) := by decide +kernel
theorem dX5_leads_19 : decode cX5_leads 19 = .ok (.goto 4, 3) := by decide +kernel
theorem dX5_leads_22 : decode cX5_leads 22 = .ok (.iconst 0, 1) := by decide +kernel
theorem dX5_leads_23 : decode cX5_leads 23 = .ok (.bastore, 1) := by decide +kernel
theorem dX5_leads_24 : decode cX5_leads 24 = .ok (.iinc 3 1, 3) := by decide +kernel
theorem dX5_leads_27 : decode cX5_leads 27 = .ok (.goto (-25), 3) := by decide +kernel
theorem dX5_leads_30 : decode cX5_leads 30 = .ok (.iconst 0, 1) := by decide +kernel
theorem dX5_leads_31 : decode cX5_leads 31 = .ok (.istore_n 3, 1) := by decide +kernel
theorem dX5_leads_32 : decode cX5_leads 32 = .ok (.iload_n 3, 1) := by decide +kernel
theorem dX5_leads_33 : decode cX5_leads 33 = .ok (.aload_n 0, 1) := by decide +kernel
theorem dX5_leads_34 : decode cX5_leads 34 = .ok (.getfield 72, 3) := by decide +kernel
theorem dX5_leads_37 : decode cX5_leads 37 = .ok (.if_icmp .ge 74, 3) := by decide +kernel
theorem dX5_leads_40 : decode cX5_leads 40 = .ok (.iconst 0, 1) := by decide +kernel
theorem dX5_leads_41 : decode cX5_leads 41 = .ok (.istore 4, 2) := by decide +kernel
theorem dX5_leads_43 : decode cX5_leads 43 = .ok (.iload 4, 2) := by decide +kernel
theorem dX5_leads_45 : decode cX5_leads 45 = .ok (.aload_n 0, 1) := by decide +kernel
theorem dX5_leads_46 : decode cX5_leads 46 = .ok (.getfield 90, 3) := by decide +kernel
theorem dX5_leads_49 : decode cX5_leads 49 = .ok (.if_icmp .ge 56, 3) := by decide +kernel
theorem dX5_leads_52 : decode cX5_leads 52 = .ok (.aload_n 0, 1) := by decide +kernel
theorem dX5_leads_53 : decode cX5_leads 53 = .ok (.getfield 60, 3) := by decide +kernel
theorem dX5_leads_56 : decode cX5_leads 56 = .ok (.aload_n 0, 1) := by decide +kernel
theorem dX5_leads_57 : decode cX5_leads 57 = .ok (.getfield 29, 3) := by decide +kernel
theorem dX5_leads_60 : decode cX5_leads 60 = .ok (.iload 4, 2) := by decide +kernel
theorem dX5_leads_62 : decode cX5_leads 62 = .ok (.iaload, 1) := by decide +kernel
theorem dX5_leads_63 : decode cX5_leads 63 = .ok (.aload_n 0, 1) := by decide +kernel
theorem dX5_leads_64 : decode cX5_leads 64 = .ok (.getfield 60, 3) := by decide +kernel
theorem dX5_leads_67 : decode cX5_leads 67 = .ok (.aload_n 0, 1) := by decide +kernel
theorem dX5_leads_68 : decode cX5_leads 68 = .ok (.getfield 29, 3) := by decide +kernel
theorem dX5_leads_71 : decode cX5_leads 71 = .ok (.iload 4, 2) := by decide +kernel
theorem dX5_leads_73 : decode cX5_leads 73 = .ok (.iaload, 1) := by decide +kernel
theorem dX5_leads_74 : decode cX5_leads 74 = .ok (.baload, 1) := by decide +kernel
theorem dX5_leads_75 : decode cX5_leads 75 = .ok (.ifCond .ne 18, 3) := by decide +kernel
theorem dX5_leads_78 : decode cX5_leads 78 = .ok (.aload_n 0, 1) := by decide +kernel
theorem dX5_leads_79 : decode cX5_leads 79 = .ok (.getfield 60, 3) := by decide +kernel
theorem dX5_leads_82 : decode cX5_leads 82 = .ok (.aload_n 0, 1) := by decide +kernel
theorem dX5_leads_83 : decode cX5_leads 83 = .ok (.getfield 26, 3) := by decide +kernel
theorem dX5_leads_86 : decode cX5_leads 86 = .ok (.iload 4, 2) := by decide +kernel
theorem dX5_leads_88 : decode cX5_leads 88 = .ok (.iaload, 1) := by decide +kernel
theorem dX5_leads_89 : decode cX5_leads 89 = .ok (.baload, 1) := by decide +kernel
theorem dX5_leads_90 : decode cX5_leads 90 = .ok (.ifCond .eq 7, 3) := by decide +kernel
theorem dX5_leads_93 : decode cX5_leads 93 = .ok (.iconst 1, 1) := by decide +kernel
theorem dX5_leads_94 : decode cX5_leads 94 = .ok (.goto 4, 3) := by decide +kernel
theorem dX5_leads_97 : decode cX5_leads 97 = .ok (.iconst 0, 1) := by decide +kernel
theorem dX5_leads_98 : decode cX5_leads 98 = .ok (.bastore, 1) := by decide +kernel
theorem dX5_leads_99 : decode cX5_leads 99 = .ok (.iinc 4 1, 3) := by decide +kernel
theorem dX5_leads_102 : decode cX5_leads 102 = .ok (.goto (-59), 3) := by decide +kernel
theorem dX5_leads_105 : decode cX5_leads 105 = .ok (.iinc 3 1, 3) := by decide +kernel
theorem dX5_leads_108 : decode cX5_leads 108 = .ok (.goto (-76), 3) := by decide +kernel
theorem dX5_leads_111 : decode cX5_leads 111 = .ok (.aload_n 0, 1) := by decide +kernel
theorem dX5_leads_112 : decode cX5_leads 112 = .ok (.getfield 60, 3) := by decide +kernel
theorem dX5_leads_115 : decode cX5_leads 115 = .ok (.iload_n 2, 1) := by decide +kernel
theorem dX5_leads_116 : decode cX5_leads 116 = .ok (.baload, 1) := by decide +kernel
theorem dX5_leads_117 : decode cX5_leads 117 = .ok (.ireturn, 1) := by decide +kernel
theorem dX5_stage_0 : decode cX5_stage 0 = .ok (.aload_n 0, 1) := by decide +kernel
theorem dX5_stage_1 : decode cX5_stage 1 = .ok (.aload_n 0, 1) := by decide +kernel
theorem dX5_stage_2 : decode cX5_stage 2 = .ok (.iload_n 1, 1) := by decide +kernel
theorem dX5_stage_3 : decode cX5_stage 3 = .ok (.invokevirtual 80, 3) := by decide +kernel
theorem dX5_stage_6 : decode cX5_stage 6 = .ok (.ifCond .eq 11, 3) := by decide +kernel
theorem dX5_stage_9 : decode cX5_stage 9 = .ok (.aload_n 0, 1) := by decide +kernel
theorem dX5_stage_10 : decode cX5_stage 10 = .ok (.iload_n 2, 1) := by decide +kernel
theorem dX5_stage_11 : decode cX5_stage 11 = .ok (.invokevirtual 80, 3) := by decide +kernel
theorem dX5_stage_14 : decode cX5_stage 14 = .ok (.ifCond .ne 7, 3) := by decide +kernel
theorem dX5_stage_17 : decode cX5_stage 17 = .ok (.iconst 1, 1) := by decide +kernel
theorem dX5_stage_18 : decode cX5_stage 18 = .ok (.goto 36, 3) := by decide +kernel
theorem dX5_stage_21 : decode cX5_stage 21 = .ok (.iload_n 1, 1) := by decide +kernel
theorem dX5_stage_22 : decode cX5_stage 22 = .ok (.iload_n 2, 1) := by decide +kernel
theorem dX5_stage_23 : decode cX5_stage 23 = .ok (.if_icmp .eq 13, 3) := by decide +kernel
theorem dX5_stage_26 : decode cX5_stage 26 = .ok (.iload_n 3, 1) := by decide +kernel
theorem dX5_stage_27 : decode cX5_stage 27 = .ok (.iconst 0, 1) := by decide +kernel
theorem dX5_stage_28 : decode cX5_stage 28 = .ok (.ldc 93, 2) := by decide +kernel
theorem dX5_stage_30 : decode cX5_stage 30 = .ok (.invokestatic 76, 3) := by decide +kernel
theorem dX5_stage_33 : decode cX5_stage 33 = .ok (.ifCond .ne 7, 3) := by decide +kernel
theorem dX5_stage_36 : decode cX5_stage 36 = .ok (.iconst 2, 1) := by decide +kernel
theorem dX5_stage_37 : decode cX5_stage 37 = .ok (.goto 17, 3) := by decide +kernel
theorem dX5_stage_40 : decode cX5_stage 40 = .ok (.aload_n 0, 1) := by decide +kernel
theorem dX5_stage_41 : decode cX5_stage 41 = .ok (.getfield 90, 3) := by decide +kernel
theorem dX5_stage_44 : decode cX5_stage 44 = .ok (.bipush 80, 2) := by decide +kernel
theorem dX5_stage_46 : decode cX5_stage 46 = .ok (.if_icmp .ne 7, 3) := by decide +kernel
theorem dX5_stage_49 : decode cX5_stage 49 = .ok (.iconst 3, 1) := by decide +kernel
theorem dX5_stage_50 : decode cX5_stage 50 = .ok (.goto 4, 3) := by decide +kernel
theorem dX5_stage_53 : decode cX5_stage 53 = .ok (.iconst 0, 1) := by decide +kernel
theorem dX5_stage_54 : decode cX5_stage 54 = .ok (.putfield 69, 3) := by decide +kernel
theorem dX5_stage_57 : decode cX5_stage 57 = .ok (.aload_n 0, 1) := by decide +kernel
theorem dX5_stage_58 : decode cX5_stage 58 = .ok (.getfield 69, 3) := by decide +kernel
theorem dX5_stage_61 : decode cX5_stage 61 = .ok (.ifCond .le 5, 3) := by decide +kernel
theorem dX5_stage_64 : decode cX5_stage 64 = .ok (.iconst 0, 1) := by decide +kernel
theorem dX5_stage_65 : decode cX5_stage 65 = .ok (.ireturn, 1) := by decide +kernel
theorem dX5_stage_66 : decode cX5_stage 66 = .ok (.aload_n 0, 1) := by decide +kernel
theorem dX5_stage_67 : decode cX5_stage 67 = .ok (.iload_n 2, 1) := by decide +kernel
theorem dX5_stage_68 : decode cX5_stage 68 = .ok (.iload_n 1, 1) := by decide +kernel
theorem dX5_stage_69 : decode cX5_stage 69 = .ok (.invokevirtual 94, 3) := by decide +kernel
theorem dX5_stage_72 : decode cX5_stage 72 = .ok (.ifCond .eq 5, 3) := by decide +kernel
theorem dX5_stage_75 : decode cX5_stage 75 = .ok (.iconst (-1), 1) := by decide +kernel
theorem dX5_stage_76 : decode cX5_stage 76 = .ok (.ireturn, 1) := by decide +kernel
theorem dX5_stage_77 : decode cX5_stage 77 = .ok (.aload_n 0, 1) := by decide +kernel
theorem dX5_stage_78 : decode cX5_stage 78 = .ok (.getfield 26, 3) := by decide +kernel
theorem dX5_stage_81 : decode cX5_stage 81 = .ok (.aload_n 0, 1) := by decide +kernel
theorem dX5_stage_82 : decode cX5_stage 82 = .ok (.getfield 90, 3) := by decide +kernel
theorem dX5_stage_85 : decode cX5_stage 85 = .ok (.iload_n 1, 1) := by decide +kernel
theorem dX5_stage_86 : decode cX5_stage 86 = .ok (.iastore, 1) := by decide +kernel
theorem dX5_stage_87 : decode cX5_stage 87 = .ok (.aload_n 0, 1) := by decide +kernel
theorem dX5_stage_88 : decode cX5_stage 88 = .ok (.getfield 29, 3) := by decide +kernel
theorem dX5_stage_91 : decode cX5_stage 91 = .ok (.aload_n 0, 1) := by decide +kernel
theorem dX5_stage_92 : decode cX5_stage 92 = .ok (.getfield 90, 3) := by decide +kernel
theorem dX5_stage_95 : decode cX5_stage 95 = .ok (.iload_n 2, 1) := by decide +kernel
theorem dX5_stage_96 : decode cX5_stage 96 = .ok (.iastore, 1) := by decide +kernel
theorem dX5_stage_97 : decode cX5_stage 97 = .ok (.aload_n 0, 1) := by decide +kernel
theorem dX5_stage_98 : decode cX5_stage 98 = .ok (.getfield 32, 3) := by decide +kernel
theorem dX5_stage_101 : decode cX5_stage 101 = .ok (.aload_n 0, 1) := by decide +kernel
theorem dX5_stage_102 : decode cX5_stage 102 = .ok (.getfield 90, 3) := by decide +kernel
theorem dX5_stage_105 : decode cX5_stage 105 = .ok (.iload_n 3, 1) := by decide +kernel
theorem dX5_stage_106 : decode cX5_stage 106 = .ok (.iastore, 1) := by decide +kernel
theorem dX5_stage_107 : decode cX5_stage 107 = .ok (.aload_n 0, 1) := by decide +kernel
theorem dX5_stage_108 : decode cX5_stage 108 = .ok (.dup, 1) := by decide +kernel
theorem dX5_stage_109 : decode cX5_stage 109 = .ok (.getfield 90, 3) := by decide +kernel
theorem dX5_stage_112 : decode cX5_stage 112 = .ok (.iconst 1, 1) := by decide +kernel
theorem dX5_stage_113 : decode cX5_stage 113 = .ok (.iadd, 1) := by decide +kernel
theorem dX5_stage_114 : decode cX5_stage 114 = .ok (.putfield 90, 3) := by decide +kernel
theorem dX5_stage_117 : decode cX5_stage 117 = .ok (.aload_n 0, 1) := by decide +kernel
theorem dX5_stage_118 : decode cX5_stage 118 = .ok (.getfield 90, 3) := by decide +kernel
theorem dX5_stage_121 : decode cX5_stage 121 = .ok (.iconst 1, 1) := by decide +kernel
theorem dX5_stage_122 : decode cX5_stage 122 = .ok (.isub, 1) := by decide +kernel
theorem dX5_stage_123 : decode cX5_stage 123 = .ok (.ireturn, 1) := by decide +kernel
theorem dX5_keep_0 : decode cX5_keep 0 = .ok (.aload_n 0, 1) := by decide +kernel
theorem dX5_keep_1 : decode cX5_keep 1 = .ok (.iload_n 1, 1) := by decide +kernel
theorem dX5_keep_2 : decode cX5_keep 2 = .ok (.iconst 1, 1) := by decide +kernel
theorem dX5_keep_3 : decode cX5_keep 3 = .ok (.bipush 8, 2) := by decide +kernel
theorem dX5_keep_5 : decode cX5_keep 5 = .ok (.invokestatic 76, 3) := by decide +kernel
theorem dX5_keep_8 : decode cX5_keep 8 = .ok (.ifCond .eq 7, 3) := by decide +kernel
theorem dX5_keep_11 : decode cX5_keep 11 = .ok (.iconst 0, 1) := by decide +kernel
theorem dX5_keep_12 : decode cX5_keep 12 = .ok (.goto 4, 3) := by decide +kernel
theorem dX5_keep_15 : decode cX5_keep 15 = .ok (.iconst 1, 1) := by decide +kernel
theorem dX5_keep_16 : decode cX5_keep 16 = .ok (.putfield 69, 3) := by decide +kernel
theorem dX5_keep_19 : decode cX5_keep 19 = .ok (.aload_n 0, 1) := by decide +kernel
theorem dX5_keep_20 : decode cX5_keep 20 = .ok (.getfield 69, 3) := by decide +kernel
theorem dX5_keep_23 : decode cX5_keep 23 = .ok (.ifCond .le 5, 3) := by decide +kernel
theorem dX5_keep_26 : decode cX5_keep 26 = .ok (.iconst 0, 1) := by decide +kernel
theorem dX5_keep_27 : decode cX5_keep 27 = .ok (.ireturn, 1) := by decide +kernel
theorem dX5_keep_28 : decode cX5_keep 28 = .ok (.aload_n 0, 1) := by decide +kernel
theorem dX5_keep_29 : decode cX5_keep 29 = .ok (.getfield 35, 3) := by decide +kernel
theorem dX5_keep_32 : decode cX5_keep 32 = .ok (.istore_n 2, 1) := by decide +kernel
theorem dX5_keep_33 : decode cX5_keep 33 = .ok (.aload_n 0, 1) := by decide +kernel
theorem dX5_keep_34 : decode cX5_keep 34 = .ok (.iload_n 1, 1) := by decide +kernel
theorem dX5_keep_35 : decode cX5_keep 35 = .ok (.putfield 35, 3) := by decide +kernel
theorem dX5_keep_38 : decode cX5_keep 38 = .ok (.iload_n 2, 1) := by decide +kernel
theorem dX5_keep_39 : decode cX5_keep 39 = .ok (.ireturn, 1) := by decide +kernel
theorem dX5_row_0 : decode cX5_row 0 = .ok (.aload_n 0, 1) := by decide +kernel
theorem dX5_row_1 : decode cX5_row 1 = .ok (.iload_n 1, 1) := by decide +kernel
theorem dX5_row_2 : decode cX5_row 2 = .ok (.iconst 0, 1) := by decide +kernel
theorem dX5_row_3 : decode cX5_row 3 = .ok (.ldc 93, 2) := by decide +kernel
theorem dX5_row_5 : decode cX5_row 5 = .ok (.invokestatic 76, 3) := by decide +kernel
theorem dX5_row_8 : decode cX5_row 8 = .ok (.ifCond .eq 13, 3) := by decide +kernel
theorem dX5_row_11 : decode cX5_row 11 = .ok (.iload_n 2, 1) := by decide +kernel
theorem dX5_row_12 : decode cX5_row 12 = .ok (.iconst 0, 1) := by decide +kernel
theorem dX5_row_13 : decode cX5_row 13 = .ok (.ldc 93, 2) := by decide +kernel
theorem dX5_row_15 : decode cX5_row 15 = .ok (.invokestatic 76, 3) := by decide +kernel
theorem dX5_row_18 : decode cX5_row 18 = .ok (.ifCond .ne 7, 3) := by decide +kernel
theorem dX5_row_21 : decode cX5_row 21 = .ok (.iconst 1, 1) := by decide +kernel
theorem dX5_row_22 : decode cX5_row 22 = .ok (.goto 17, 3) := by decide +kernel
theorem dX5_row_25 : decode cX5_row 25 = .ok (.aload_n 0, 1) := by decide +kernel
theorem dX5_row_26 : decode cX5_row 26 = .ok (.getfield 98, 3) := by decide +kernel
theorem dX5_row_29 : decode cX5_row 29 = .ok (.bipush 20, 2) := by decide +kernel
theorem dX5_row_31 : decode cX5_row 31 = .ok (.if_icmp .ne 7, 3) := by decide +kernel
theorem dX5_row_34 : decode cX5_row 34 = .ok (.iconst 2, 1) := by decide +kernel
theorem dX5_row_35 : decode cX5_row 35 = .ok (.goto 4, 3) := by decide +kernel
theorem dX5_row_38 : decode cX5_row 38 = .ok (.iconst 0, 1) := by decide +kernel
theorem dX5_row_39 : decode cX5_row 39 = .ok (.putfield 69, 3) := by decide +kernel
theorem dX5_row_42 : decode cX5_row 42 = .ok (.aload_n 0, 1) := by decide +kernel
theorem dX5_row_43 : decode cX5_row 43 = .ok (.getfield 69, 3) := by decide +kernel
theorem dX5_row_46 : decode cX5_row 46 = .ok (.ifCond .gt 25, 3) := by decide +kernel
theorem dX5_row_49 : decode cX5_row 49 = .ok (.aload_n 0, 1) := by decide +kernel
theorem dX5_row_50 : decode cX5_row 50 = .ok (.getfield 98, 3) := by decide +kernel
theorem dX5_row_53 : decode cX5_row 53 = .ok (.ifCond .le 20, 3) := by decide +kernel
theorem dX5_row_56 : decode cX5_row 56 = .ok (.iload_n 1, 1) := by decide +kernel
theorem dX5_row_57 : decode cX5_row 57 = .ok (.aload_n 0, 1) := by decide +kernel
theorem dX5_row_58 : decode cX5_row 58 = .ok (.getfield 39, 3) := by decide +kernel
theorem dX5_row_61 : decode cX5_row 61 = .ok (.aload_n 0, 1) := by decide +kernel
theorem dX5_row_62 : decode cX5_row 62 = .ok (.getfield 98, 3) := by decide +kernel
theorem dX5_row_65 : decode cX5_row 65 = .ok (.iconst 1, 1) := by decide +kernel
theorem dX5_row_66 : decode cX5_row 66 = .ok (.isub, 1) := by decide +kernel
theorem dX5_row_67 : decode cX5_row 67 = .ok (.iaload, 1) := by decide +kernel
theorem dX5_row_68 : decode cX5_row 68 = .ok (.if_icmp .gt 5, 3) := by decide +kernel
theorem dX5_row_71 : decode cX5_row 71 = .ok (.iconst 0, 1) := by decide +kernel
theorem dX5_row_72 : decode cX5_row 72 = .ok (.ireturn, 1) := by decide +kernel
theorem dX5_row_73 : decode cX5_row 73 = .ok (.aload_n 0, 1) := by decide +kernel
theorem dX5_row_74 : decode cX5_row 74 = .ok (.getfield 39, 3) := by decide +kernel
theorem dX5_row_77 : decode cX5_row 77 = .ok (.aload_n 0, 1) := by decide +kernel
theorem dX5_row_78 : decode cX5_row 78 = .ok (.getfield 98, 3) := by decide +kernel
theorem dX5_row_81 : decode cX5_row 81 = .ok (.iload_n 1, 1) := by decide +kernel
theorem dX5_row_82 : decode cX5_row 82 = .ok (.iastore, 1) := by decide +kernel
theorem dX5_row_83 : decode cX5_row 83 = .ok (.aload_n 0, 1) := by decide +kernel
theorem dX5_row_84 : decode cX5_row 84 = .ok (.getfield 42, 3) := by decide +kernel
theorem dX5_row_87 : decode cX5_row 87 = .ok (.aload_n 0, 1) := by decide +kernel
theorem dX5_row_88 : decode cX5_row 88 = .ok (.getfield 98, 3) := by decide +kernel
theorem dX5_row_91 : decode cX5_row 91 = .ok (.iload_n 2, 1) := by decide +kernel
theorem dX5_row_92 : decode cX5_row 92 = .ok (.iastore, 1) := by decide +kernel
theorem dX5_row_93 : decode cX5_row 93 = .ok (.aload_n 0, 1) := by decide +kernel
theorem dX5_row_94 : decode cX5_row 94 = .ok (.dup, 1) := by decide +kernel
theorem dX5_row_95 : decode cX5_row 95 = .ok (.getfield 98, 3) := by decide +kernel
theorem dX5_row_98 : decode cX5_row 98 = .ok (.iconst 1, 1) := by decide +kernel
theorem dX5_row_99 : decode cX5_row 99 = .ok (.iadd, 1) := by decide +kernel
theorem dX5_row_100 : decode cX5_row 100 = .ok (.putfield 98, 3) := by decide +kernel
theorem dX5_row_103 : decode cX5_row 103 = .ok (.iconst 1, 1) := by decide +kernel
theorem dX5_row_104 : decode cX5_row 104 = .ok (.ireturn, 1) := by decide +kernel
theorem dX5_isSource_0 : decode cX5_isSource 0 = .ok (.aload_n 0, 1) := by decide +kernel
theorem dX5_isSource_1 : decode cX5_isSource 1 = .ok (.getfield 19, 3) := by decide +kernel
theorem dX5_isSource_4 : decode cX5_isSource 4 = .ok (.bipush 40, 2) := by decide +kernel
theorem dX5_isSource_6 : decode cX5_isSource 6 = .ok (.iload_n 1, 1) := by decide +kernel
theorem dX5_isSource_7 : decode cX5_isSource 7 = .ok (.imul, 1) := by decide +kernel
theorem dX5_isSource_8 : decode cX5_isSource 8 = .ok (.iload_n 2, 1) := by decide +kernel
theorem dX5_isSource_9 : decode cX5_isSource 9 = .ok (.iadd, 1) := by decide +kernel
theorem dX5_isSource_10 : decode cX5_isSource 10 = .ok (.iaload, 1) := by decide +kernel
theorem dX5_isSource_11 : decode cX5_isSource 11 = .ok (.ifCond .le 21, 3) := by decide +kernel
theorem dX5_isSource_14 : decode cX5_isSource 14 = .ok (.aload_n 0, 1) := by decide +kernel
theorem dX5_isSource_15 : decode cX5_isSource 15 = .ok (.getfield 22, 3) := by decide +kernel
theorem dX5_isSource_18 : decode cX5_isSource 18 = .ok (.bipush 40, 2) := by decide +kernel
theorem dX5_isSource_20 : decode cX5_isSource 20 = .ok (.iload_n 1, 1) := by decide +kernel
theorem dX5_isSource_21 : decode cX5_isSource 21 = .ok (.imul, 1) := by decide +kernel
theorem dX5_isSource_22 : decode cX5_isSource 22 = .ok (.iload_n 2, 1) := by decide +kernel
theorem dX5_isSource_23 : decode cX5_isSource 23 = .ok (.iadd, 1) := by decide +kernel
theorem dX5_isSource_24 : decode cX5_isSource 24 = .ok (.baload, 1) := by decide +kernel
theorem dX5_isSource_25 : decode cX5_isSource 25 = .ok (.ifCond .ne 7, 3) := by decide +kernel
theorem dX5_isSource_28 : decode cX5_isSource 28 = .ok (.iconst 1, 1) := by decide +kernel
theorem dX5_isSource_29 : decode cX5_isSource 29 = .ok (.goto 4, 3) := by decide +kernel
theorem dX5_isSource_32 : decode cX5_isSource 32 = .ok (.iconst 0, 1) := by decide +kernel
theorem dX5_isSource_33 : decode cX5_isSource 33 = .ok (.ireturn, 1) := by decide +kernel
theorem dX5_isStronger_0 : decode cX5_isStronger 0 = .ok (.aload_n 0, 1) := by decide +kernel
theorem dX5_isStronger_1 : decode cX5_isStronger 1 = .ok (.getfield 19, 3) := by decide +kernel
theorem dX5_isStronger_4 : decode cX5_isStronger 4 = .ok (.bipush 40, 2) := by decide +kernel
theorem dX5_isStronger_6 : decode cX5_isStronger 6 = .ok (.iload_n 1, 1) := by decide +kernel
theorem dX5_isStronger_7 : decode cX5_isStronger 7 = .ok (.imul, 1) := by decide +kernel
theorem dX5_isStronger_8 : decode cX5_isStronger 8 = .ok (.iload_n 2, 1) := by decide +kernel
theorem dX5_isStronger_9 : decode cX5_isStronger 9 = .ok (.iadd, 1) := by decide +kernel
theorem dX5_isStronger_10 : decode cX5_isStronger 10 = .ok (.iaload, 1) := by decide +kernel
theorem dX5_isStronger_11 : decode cX5_isStronger 11 = .ok (.istore 4, 2) := by decide +kernel
theorem dX5_isStronger_13 : decode cX5_isStronger 13 = .ok (.aload_n 0, 1) := by decide +kernel
theorem dX5_isStronger_14 : decode cX5_isStronger 14 = .ok (.getfield 19, 3) := by decide +kernel
theorem dX5_isStronger_17 : decode cX5_isStronger 17 = .ok (.bipush 40, 2) := by decide +kernel
theorem dX5_isStronger_19 : decode cX5_isStronger 19 = .ok (.iload_n 1, 1) := by decide +kernel
theorem dX5_isStronger_20 : decode cX5_isStronger 20 = .ok (.imul, 1) := by decide +kernel
theorem dX5_isStronger_21 : decode cX5_isStronger 21 = .ok (.iload_n 3, 1) := by decide +kernel
theorem dX5_isStronger_22 : decode cX5_isStronger 22 = .ok (.iadd, 1) := by decide +kernel
theorem dX5_isStronger_23 : decode cX5_isStronger 23 = .ok (.iaload, 1) := by decide +kernel
theorem dX5_isStronger_24 : decode cX5_isStronger 24 = .ok (.istore 5, 2) := by decide +kernel
theorem dX5_isStronger_26 : decode cX5_isStronger 26 = .ok (.iload 4, 2) := by decide +kernel
theorem dX5_isStronger_28 : decode cX5_isStronger 28 = .ok (.aload_n 0, 1) := by decide +kernel
theorem dX5_isStronger_29 : decode cX5_isStronger 29 = .ok (.getfield 16, 3) := by decide +kernel
theorem dX5_isStronger_32 : decode cX5_isStronger 32 = .ok (.iload_n 2, 1) := by decide +kernel
theorem dX5_isStronger_33 : decode cX5_isStronger 33 = .ok (.iaload, 1) := by decide +kernel
theorem dX5_isStronger_34 : decode cX5_isStronger 34 = .ok (.imul, 1) := by decide +kernel
theorem dX5_isStronger_35 : decode cX5_isStronger 35 = .ok (.istore 6, 2) := by decide +kernel
theorem dX5_isStronger_37 : decode cX5_isStronger 37 = .ok (.iload 5, 2) := by decide +kernel
theorem dX5_isStronger_39 : decode cX5_isStronger 39 = .ok (.aload_n 0, 1) := by decide +kernel
theorem dX5_isStronger_40 : decode cX5_isStronger 40 = .ok (.getfield 16, 3) := by decide +kernel
theorem dX5_isStronger_43 : decode cX5_isStronger 43 = .ok (.iload_n 3, 1) := by decide +kernel
theorem dX5_isStronger_44 : decode cX5_isStronger 44 = .ok (.iaload, 1) := by decide +kernel
theorem dX5_isStronger_45 : decode cX5_isStronger 45 = .ok (.imul, 1) := by decide +kernel
theorem dX5_isStronger_46 : decode cX5_isStronger 46 = .ok (.istore 7, 2) := by decide +kernel
theorem dX5_isStronger_48 : decode cX5_isStronger 48 = .ok (.iload 6, 2) := by decide +kernel
theorem dX5_isStronger_50 : decode cX5_isStronger 50 = .ok (.iload 7, 2) := by decide +kernel
theorem dX5_isStronger_52 : decode cX5_isStronger 52 = .ok (.if_icmp .eq 18, 3) := by decide +kernel
theorem dX5_isStronger_55 : decode cX5_isStronger 55 = .ok (.iload 6, 2) := by decide +kernel
theorem dX5_isStronger_57 : decode cX5_isStronger 57 = .ok (.iload 7, 2) := by decide +kernel
theorem dX5_isStronger_59 : decode cX5_isStronger 59 = .ok (.if_icmp .le 7, 3) := by decide +kernel
theorem dX5_isStronger_62 : decode cX5_isStronger 62 = .ok (.iconst 1, 1) := by decide +kernel
theorem dX5_isStronger_63 : decode cX5_isStronger 63 = .ok (.goto 39, 3) := by decide +kernel
theorem dX5_isStronger_66 : decode cX5_isStronger 66 = .ok (.iconst 0, 1) := by decide +kernel
theorem dX5_isStronger_67 : decode cX5_isStronger 67 = .ok (.goto 35, 3) := by decide +kernel
theorem dX5_isStronger_70 : decode cX5_isStronger 70 = .ok (.iload 4, 2) := by decide +kernel
theorem dX5_isStronger_72 : decode cX5_isStronger 72 = .ok (.iload 5, 2) := by decide +kernel
theorem dX5_isStronger_74 : decode cX5_isStronger 74 = .ok (.if_icmp .eq 18, 3) := by decide +kernel
theorem dX5_isStronger_77 : decode cX5_isStronger 77 = .ok (.iload 4, 2) := by decide +kernel
theorem dX5_isStronger_79 : decode cX5_isStronger 79 = .ok (.iload 5, 2) := by decide +kernel
theorem dX5_isStronger_81 : decode cX5_isStronger 81 = .ok (.if_icmp .le 7, 3) := by decide +kernel
theorem dX5_isStronger_84 : decode cX5_isStronger 84 = .ok (.iconst 1, 1) := by decide +kernel
theorem dX5_isStronger_85 : decode cX5_isStronger 85 = .ok (.goto 17, 3) := by decide +kernel
theorem dX5_isStronger_88 : decode cX5_isStronger 88 = .ok (.iconst 0, 1) := by decide +kernel
theorem dX5_isStronger_89 : decode cX5_isStronger 89 = .ok (.goto 13, 3) := by decide +kernel
theorem dX5_isStronger_92 : decode cX5_isStronger 92 = .ok (.iload_n 2, 1) := by decide +kernel
theorem dX5_isStronger_93 : decode cX5_isStronger 93 = .ok (.iload_n 3, 1) := by decide +kernel
theorem dX5_isStronger_94 : decode cX5_isStronger 94 = .ok (.if_icmp .ge 7, 3) := by decide +kernel
theorem dX5_isStronger_97 : decode cX5_isStronger 97 = .ok (.iconst 1, 1) := by decide +kernel
theorem dX5_isStronger_98 : decode cX5_isStronger 98 = .ok (.goto 4, 3) := by decide +kernel
theorem dX5_isStronger_101 : decode cX5_isStronger 101 = .ok (.iconst 0, 1) := by decide +kernel
theorem dX5_isStronger_102 : decode cX5_isStronger 102 = .ok (.ireturn, 1) := by decide +kernel
theorem dX5_gather_0 : decode cX5_gather 0 = .ok (.iconst 0, 1) := by decide +kernel
theorem dX5_gather_1 : decode cX5_gather 1 = .ok (.istore_n 3, 1) := by decide +kernel
theorem dX5_gather_2 : decode cX5_gather 2 = .ok (.iconst 0, 1) := by decide +kernel
theorem dX5_gather_3 : decode cX5_gather 3 = .ok (.istore 4, 2) := by decide +kernel
theorem dX5_gather_5 : decode cX5_gather 5 = .ok (.iload 4, 2) := by decide +kernel
theorem dX5_gather_7 : decode cX5_gather 7 = .ok (.aload_n 0, 1) := by decide +kernel
theorem dX5_gather_8 : decode cX5_gather 8 = .ok (.getfield 72, 3) := by decide +kernel
theorem dX5_gather_11 : decode cX5_gather 11 = .ok (.if_icmp .ge 116, 3) := by decide +kernel
theorem dX5_gather_14 : decode cX5_gather 14 = .ok (.aload_n 0, 1) := by decide +kernel
theorem dX5_gather_15 : decode cX5_gather 15 = .ok (.iload_n 1, 1) := by decide +kernel
theorem dX5_gather_16 : decode cX5_gather 16 = .ok (.iload 4, 2) := by decide +kernel
theorem dX5_gather_18 : decode cX5_gather 18 = .ok (.invokevirtual 101, 3) := by decide +kernel
theorem dX5_gather_21 : decode cX5_gather 21 = .ok (.ifCond .eq 100, 3) := by decide +kernel
theorem dX5_gather_24 : decode cX5_gather 24 = .ok (.iload_n 2, 1) := by decide +kernel
theorem dX5_gather_25 : decode cX5_gather 25 = .ok (.ifCond .ne 35, 3) := by decide +kernel
theorem dX5_gather_28 : decode cX5_gather 28 = .ok (.aload_n 0, 1) := by decide +kernel
theorem dX5_gather_29 : decode cX5_gather 29 = .ok (.getfield 51, 3) := by decide +kernel
theorem dX5_gather_32 : decode cX5_gather 32 = .ok (.iload 4, 2) := by decide +kernel
theorem dX5_gather_34 : decode cX5_gather 34 = .ok (.iaload, 1) := by decide +kernel
theorem dX5_gather_35 : decode cX5_gather 35 = .ok (.aload_n 0, 1) := by decide +kernel
theorem dX5_gather_36 : decode cX5_gather 36 = .ok (.getfield 54, 3) := by decide +kernel
theorem dX5_gather_39 : decode cX5_gather 39 = .ok (.iload_n 1, 1) := by decide +kernel
theorem dX5_gather_40 : decode cX5_gather 40 = .ok (.iaload, 1) := by decide +kernel
theorem dX5_gather_41 : decode cX5_gather 41 = .ok (.if_icmp .gt 80, 3) := by decide +kernel
theorem dX5_gather_44 : decode cX5_gather 44 = .ok (.aload_n 0, 1) := by decide +kernel
theorem dX5_gather_45 : decode cX5_gather 45 = .ok (.getfield 51, 3) := by decide +kernel
theorem dX5_gather_48 : decode cX5_gather 48 = .ok (.iload_n 1, 1) := by decide +kernel
theorem dX5_gather_49 : decode cX5_gather 49 = .ok (.iaload, 1) := by decide +kernel
theorem dX5_gather_50 : decode cX5_gather 50 = .ok (.aload_n 0, 1) := by decide +kernel
theorem dX5_gather_51 : decode cX5_gather 51 = .ok (.getfield 54, 3) := by decide +kernel
theorem dX5_gather_54 : decode cX5_gather 54 = .ok (.iload 4, 2) := by decide +kernel
theorem dX5_gather_56 : decode cX5_gather 56 = .ok (.iaload, 1) := by decide +kernel
theorem dX5_gather_57 : decode cX5_gather 57 = .ok (.if_icmp .gt 64, 3) := by decide +kernel
theorem dX5_gather_60 : decode cX5_gather 60 = .ok (.iload_n 3, 1) := by decide +kernel
theorem dX5_gather_61 : decode cX5_gather 61 = .ok (.istore 5, 2) := by decide +kernel
theorem dX5_gather_63 : decode cX5_gather 63 = .ok (.iload 5, 2) := by decide +kernel
theorem dX5_gather_65 : decode cX5_gather 65 = .ok (.ifCond .le 44, 3) := by decide +kernel
theorem dX5_gather_68 : decode cX5_gather 68 = .ok (.aload_n 0, 1) := by decide +kernel
theorem dX5_gather_69 : decode cX5_gather 69 = .ok (.iload_n 1, 1) := by decide +kernel
theorem dX5_gather_70 : decode cX5_gather 70 = .ok (.iload 4, 2) := by decide +kernel
theorem dX5_gather_72 : decode cX5_gather 72 = .ok (.aload_n 0, 1) := by decide +kernel
theorem dX5_gather_73 : decode cX5_gather 73 = .ok (.getfield 63, 3) := by decide +kernel
theorem dX5_gather_76 : decode cX5_gather 76 = .ok (.iload 5, 2) := by decide +kernel
theorem dX5_gather_78 : decode cX5_gather 78 = .ok (.iconst 1, 1) := by decide +kernel
theorem dX5_gather_79 : decode cX5_gather 79 = .ok (.isub, 1) := by decide +kernel
theorem dX5_gather_80 : decode cX5_gather 80 = .ok (.iaload, 1) := by decide +kernel
theorem dX5_gather_81 : decode cX5_gather 81 = .ok (.invokevirtual 104, 3) := by decide +kernel
theorem dX5_gather_84 : decode cX5_gather 84 = .ok (.ifCond .eq 25, 3) := by decide +kernel
theorem dX5_gather_87 : decode cX5_gather 87 = .ok (.aload_n 0, 1) := by decide +kernel
theorem dX5_gather_88 : decode cX5_gather 88 = .ok (.getfield 63, 3) := by decide +kernel
theorem dX5_gather_91 : decode cX5_gather 91 = .ok (.iload 5, 2) := by decide +kernel
theorem dX5_gather_93 : decode cX5_gather 93 = .ok (.aload_n 0, 1) := by decide +kernel
theorem dX5_gather_94 : decode cX5_gather 94 = .ok (.getfield 63, 3) := by decide +kernel
theorem dX5_gather_97 : decode cX5_gather 97 = .ok (.iload 5, 2) := by decide +kernel
theorem dX5_gather_99 : decode cX5_gather 99 = .ok (.iconst 1, 1) := by decide +kernel
theorem dX5_gather_100 : decode cX5_gather 100 = .ok (.isub, 1) := by decide +kernel
theorem dX5_gather_101 : decode cX5_gather 101 = .ok (.iaload, 1) := by decide +kernel
theorem dX5_gather_102 : decode cX5_gather 102 = .ok (.iastore, 1) := by decide +kernel
theorem dX5_gather_103 : decode cX5_gather 103 = .ok (.iinc 5 (-1), 3) := by decide +kernel
theorem dX5_gather_106 : decode cX5_gather 106 = .ok (.goto (-43), 3) := by decide +kernel
theorem dX5_gather_109 : decode cX5_gather 109 = .ok (.aload_n 0, 1) := by decide +kernel
theorem dX5_gather_110 : decode cX5_gather 110 = .ok (.getfield 63, 3) := by decide +kernel
theorem dX5_gather_113 : decode cX5_gather 113 = .ok (.iload 5, 2) := by decide +kernel
theorem dX5_gather_115 : decode cX5_gather 115 = .ok (.iload 4, 2) := by decide +kernel
theorem dX5_gather_117 : decode cX5_gather 117 = .ok (.iastore, 1) := by decide +kernel
theorem dX5_gather_118 : decode cX5_gather 118 = .ok (.iinc 3 1, 3) := by decide +kernel
theorem dX5_gather_121 : decode cX5_gather 121 = .ok (.iinc 4 1, 3) := by decide +kernel
theorem dX5_gather_124 : decode cX5_gather 124 = .ok (.goto (-119), 3) := by decide +kernel
theorem dX5_gather_127 : decode cX5_gather 127 = .ok (.iload_n 3, 1) := by decide +kernel
theorem dX5_gather_128 : decode cX5_gather 128 = .ok (.ireturn, 1) := by decide +kernel
theorem dX5_sum_0 : decode cX5_sum 0 = .ok (.aload_n 0, 1) := by decide +kernel
theorem dX5_sum_1 : decode cX5_sum 1 = .ok (.iload_n 1, 1) := by decide +kernel
theorem dX5_sum_2 : decode cX5_sum 2 = .ok (.iload_n 2, 1) := by decide +kernel
theorem dX5_sum_3 : decode cX5_sum 3 = .ok (.invokevirtual 107, 3) := by decide +kernel
theorem dX5_sum_6 : decode cX5_sum 6 = .ok (.istore_n 3, 1) := by decide +kernel
theorem dX5_sum_7 : decode cX5_sum 7 = .ok (.iconst 0, 1) := by decide +kernel
theorem dX5_sum_8 : decode cX5_sum 8 = .ok (.istore 4, 2) := by decide +kernel
theorem dX5_sum_10 : decode cX5_sum 10 = .ok (.iconst 0, 1) := by decide +kernel
theorem dX5_sum_11 : decode cX5_sum 11 = .ok (.istore 5, 2) := by decide +kernel
theorem dX5_sum_13 : decode cX5_sum 13 = .ok (.iload 5, 2) := by decide +kernel
theorem dX5_sum_15 : decode cX5_sum 15 = .ok (.iload_n 3, 1) := by decide +kernel
theorem dX5_sum_16 : decode cX5_sum 16 = .ok (.if_icmp .ge 57, 3) := by decide +kernel
theorem dX5_sum_19 : decode cX5_sum 19 = .ok (.iload 5, 2) := by decide +kernel
theorem dX5_sum_21 : decode cX5_sum 21 = .ok (.aload_n 0, 1) := by decide +kernel
theorem dX5_sum_22 : decode cX5_sum 22 = .ok (.getfield 35, 3) := by decide +kernel
theorem dX5_sum_25 : decode cX5_sum 25 = .ok (.if_icmp .ge 48, 3) := by decide +kernel
theorem dX5_sum_28 : decode cX5_sum 28 = .ok (.iload 4, 2) := by decide +kernel
theorem dX5_sum_30 : decode cX5_sum 30 = .ok (.aload_n 0, 1) := by decide +kernel
theorem dX5_sum_31 : decode cX5_sum 31 = .ok (.getfield 19, 3) := by decide +kernel
theorem dX5_sum_34 : decode cX5_sum 34 = .ok (.bipush 40, 2) := by decide +kernel
theorem dX5_sum_36 : decode cX5_sum 36 = .ok (.iload_n 1, 1) := by decide +kernel
theorem dX5_sum_37 : decode cX5_sum 37 = .ok (.imul, 1) := by decide +kernel
theorem dX5_sum_38 : decode cX5_sum 38 = .ok (.aload_n 0, 1) := by decide +kernel
theorem dX5_sum_39 : decode cX5_sum 39 = .ok (.getfield 63, 3) := by decide +kernel
theorem dX5_sum_42 : decode cX5_sum 42 = .ok (.iload 5, 2) := by decide +kernel
theorem dX5_sum_44 : decode cX5_sum 44 = .ok (.iaload, 1) := by decide +kernel
theorem dX5_sum_45 : decode cX5_sum 45 = .ok (.iadd, 1) := by decide +kernel
theorem dX5_sum_46 : decode cX5_sum 46 = .ok (.iaload, 1) := by decide +kernel
theorem dX5_sum_47 : decode cX5_sum 47 = .ok (.aload_n 0, 1) := by decide +kernel
theorem dX5_sum_48 : decode cX5_sum 48 = .ok (.getfield 16, 3) := by decide +kernel
theorem dX5_sum_51 : decode cX5_sum 51 = .ok (.aload_n 0, 1) := by decide +kernel
theorem dX5_sum_52 : decode cX5_sum 52 = .ok (.getfield 63, 3) := by decide +kernel
theorem dX5_sum_55 : decode cX5_sum 55 = .ok (.iload 5, 2) := by decide +kernel
theorem dX5_sum_57 : decode cX5_sum 57 = .ok (.iaload, 1) := by decide +kernel
theorem dX5_sum_58 : decode cX5_sum 58 = .ok (.iaload, 1) := by decide +kernel
theorem dX5_sum_59 : decode cX5_sum 59 = .ok (.imul, 1) := by decide +kernel
theorem dX5_sum_60 : decode cX5_sum 60 = .ok (.sipush 1000, 3) := by decide +kernel
theorem dX5_sum_63 : decode cX5_sum 63 = .ok (.idiv, 1) := by decide +kernel
theorem dX5_sum_64 : decode cX5_sum 64 = .ok (.iadd, 1) := by decide +kernel
theorem dX5_sum_65 : decode cX5_sum 65 = .ok (.istore 4, 2) := by decide +kernel
theorem dX5_sum_67 : decode cX5_sum 67 = .ok (.iinc 5 1, 3) := by decide +kernel
theorem dX5_sum_70 : decode cX5_sum 70 = .ok (.goto (-57), 3) := by decide +kernel
theorem dX5_sum_73 : decode cX5_sum 73 = .ok (.iload 4, 2) := by decide +kernel
theorem dX5_sum_75 : decode cX5_sum 75 = .ok (.ireturn, 1) := by decide +kernel
theorem dX5_spans_0 : decode cX5_spans 0 = .ok (.iconst 0, 1) := by decide +kernel
theorem dX5_spans_1 : decode cX5_spans 1 = .ok (.istore_n 1, 1) := by decide +kernel
theorem dX5_spans_2 : decode cX5_spans 2 = .ok (.iload_n 1, 1) := by decide +kernel
theorem dX5_spans_3 : decode cX5_spans 3 = .ok (.aload_n 0, 1) := by decide +kernel
theorem dX5_spans_4 : decode cX5_spans 4 = .ok (.getfield 72, 3) := by decide +kernel
theorem dX5_spans_7 : decode cX5_spans 7 = .ok (.if_icmp .ge 180, 3) := by decide +kernel
theorem dX5_spans_10 : decode cX5_spans 10 = .ok (.iconst 0, 1) := by decide +kernel
theorem dX5_spans_11 : decode cX5_spans 11 = .ok (.istore_n 2, 1) := by decide +kernel
theorem dX5_spans_12 : decode cX5_spans 12 = .ok (.iload_n 2, 1) := by decide +kernel
theorem dX5_spans_13 : decode cX5_spans 13 = .ok (.aload_n 0, 1) := by decide +kernel
theorem dX5_spans_14 : decode cX5_spans 14 = .ok (.getfield 72, 3) := by decide +kernel
theorem dX5_spans_17 : decode cX5_spans 17 = .ok (.if_icmp .ge 164, 3) := by decide +kernel
theorem dX5_spans_20 : decode cX5_spans 20 = .ok (.aload_n 0, 1) := by decide +kernel
theorem dX5_spans_21 : decode cX5_spans 21 = .ok (.getfield 7, 3) := by decide +kernel
theorem dX5_spans_24 : decode cX5_spans 24 = .ok (.iload_n 2, 1) := by decide +kernel
theorem dX5_spans_25 : decode cX5_spans 25 = .ok (.iaload, 1) := by decide +kernel
theorem dX5_spans_26 : decode cX5_spans 26 = .ok (.istore_n 3, 1) := by decide +kernel
theorem dX5_spans_27 : decode cX5_spans 27 = .ok (.aload_n 0, 1) := by decide +kernel
theorem dX5_spans_28 : decode cX5_spans 28 = .ok (.getfield 13, 3) := by decide +kernel
theorem dX5_spans_31 : decode cX5_spans 31 = .ok (.iload_n 2, 1) := by decide +kernel
theorem dX5_spans_32 : decode cX5_spans 32 = .ok (.iaload, 1) := by decide +kernel
theorem dX5_spans_33 : decode cX5_spans 33 = .ok (.istore 4, 2) := by decide +kernel
theorem dX5_spans_35 : decode cX5_spans 35 = .ok (.iconst 0, 1) := by decide +kernel
theorem dX5_spans_36 : decode cX5_spans 36 = .ok (.istore 5, 2) := by decide +kernel
theorem dX5_spans_38 : decode cX5_spans 38 = .ok (.iconst 0, 1) := by decide +kernel
theorem dX5_spans_39 : decode cX5_spans 39 = .ok (.istore 6, 2) := by decide +kernel
theorem dX5_spans_41 : decode cX5_spans 41 = .ok (.iload 6, 2) := by decide +kernel
theorem dX5_spans_43 : decode cX5_spans 43 = .ok (.aload_n 0, 1) := by decide +kernel
theorem dX5_spans_44 : decode cX5_spans 44 = .ok (.getfield 90, 3) := by decide +kernel
theorem dX5_spans_47 : decode cX5_spans 47 = .ok (.if_icmp .ge 106, 3) := by decide +kernel
theorem dX5_spans_50 : decode cX5_spans 50 = .ok (.aload_n 0, 1) := by decide +kernel
theorem dX5_spans_51 : decode cX5_spans 51 = .ok (.getfield 29, 3) := by decide +kernel
theorem dX5_spans_54 : decode cX5_spans 54 = .ok (.iload 6, 2) := by decide +kernel
theorem dX5_spans_56 : decode cX5_spans 56 = .ok (.iaload, 1) := by decide +kernel
theorem dX5_spans_57 : decode cX5_spans 57 = .ok (.iload_n 2, 1) := by decide +kernel
theorem dX5_spans_58 : decode cX5_spans 58 = .ok (.if_icmp .ne 89, 3) := by decide +kernel
theorem dX5_spans_61 : decode cX5_spans 61 = .ok (.aload_n 0, 1) := by decide +kernel
theorem dX5_spans_62 : decode cX5_spans 62 = .ok (.getfield 51, 3) := by decide +kernel
theorem dX5_spans_65 : decode cX5_spans 65 = .ok (.aload_n 0, 1) := by decide +kernel
theorem dX5_spans_66 : decode cX5_spans 66 = .ok (.getfield 26, 3) := by decide +kernel
theorem dX5_spans_69 : decode cX5_spans 69 = .ok (.iload 6, 2) := by decide +kernel
theorem dX5_spans_71 : decode cX5_spans 71 = .ok (.iaload, 1) := by decide +kernel
theorem dX5_spans_72 : decode cX5_spans 72 = .ok (.iaload, 1) := by decide +kernel
theorem dX5_spans_73 : decode cX5_spans 73 = .ok (.aload_n 0, 1) := by decide +kernel
theorem dX5_spans_74 : decode cX5_spans 74 = .ok (.getfield 32, 3) := by decide +kernel
theorem dX5_spans_77 : decode cX5_spans 77 = .ok (.iload 6, 2) := by decide +kernel
theorem dX5_spans_79 : decode cX5_spans 79 = .ok (.iaload, 1) := by decide +kernel
theorem dX5_spans_80 : decode cX5_spans 80 = .ok (.iadd, 1) := by decide +kernel
theorem dX5_spans_81 : decode cX5_spans 81 = .ok (.istore 7, 2) := by decide +kernel
theorem dX5_spans_83 : decode cX5_spans 83 = .ok (.aload_n 0, 1) := by decide +kernel
theorem dX5_spans_84 : decode cX5_spans 84 = .ok (.getfield 54, 3) := by decide +kernel
theorem dX5_spans_87 : decode cX5_spans 87 = .ok (.aload_n 0, 1) := by decide +kernel
theorem dX5_spans_88 : decode cX5_spans 88 = .ok (.getfield 26, 3) := by decide +kernel
theorem dX5_spans_91 : decode cX5_spans 91 = .ok (.iload 6, 2) := by decide +kernel
theorem dX5_spans_93 : decode cX5_spans 93 = .ok (.iaload, 1) := by decide +kernel
theorem dX5_spans_94 : decode cX5_spans 94 = .ok (.iaload, 1) := by decide +kernel
theorem dX5_spans_95 : decode cX5_spans 95 = .ok (.aload_n 0, 1) := by decide +kernel
theorem dX5_spans_96 : decode cX5_spans 96 = .ok (.getfield 32, 3) := by decide +kernel
theorem dX5_spans_99 : decode cX5_spans 99 = .ok (.iload 6, 2) := by decide +kernel
theorem dX5_spans_101 : decode cX5_spans 101 = .ok (.iaload, 1) := by decide +kernel
theorem dX5_spans_102 : decode cX5_spans 102 = .ok (.iadd, 1) := by decide +kernel
theorem dX5_spans_103 : decode cX5_spans 103 = .ok (.istore 8, 2) := by decide +kernel
theorem dX5_spans_105 : decode cX5_spans 105 = .ok (.iload 5, 2) := by decide +kernel
theorem dX5_spans_107 : decode cX5_spans 107 = .ok (.ifCond .eq 9, 3) := by decide +kernel
theorem dX5_spans_110 : decode cX5_spans 110 = .ok (.iload 7, 2) := by decide +kernel
theorem dX5_spans_112 : decode cX5_spans 112 = .ok (.iload_n 3, 1) := by decide +kernel
theorem dX5_spans_113 : decode cX5_spans 113 = .ok (.if_icmp .ge 8, 3) := by decide +kernel
theorem dX5_spans_116 : decode cX5_spans 116 = .ok (.iload 7, 2) := by decide +kernel
theorem dX5_spans_118 : decode cX5_spans 118 = .ok (.goto 4, 3) := by decide +kernel
theorem dX5_spans_121 : decode cX5_spans 121 = .ok (.iload_n 3, 1) := by decide +kernel
theorem dX5_spans_122 : decode cX5_spans 122 = .ok (.istore_n 3, 1) := by decide +kernel
theorem dX5_spans_123 : decode cX5_spans 123 = .ok (.iload 5, 2) := by decide +kernel
theorem dX5_spans_125 : decode cX5_spans 125 = .ok (.ifCond .eq 10, 3) := by decide +kernel
theorem dX5_spans_128 : decode cX5_spans 128 = .ok (.iload 8, 2) := by decide +kernel
theorem dX5_spans_130 : decode cX5_spans 130 = .ok (.iload 4, 2) := by decide +kernel
theorem dX5_spans_132 : decode cX5_spans 132 = .ok (.if_icmp .le 8, 3) := by decide +kernel
theorem dX5_spans_135 : decode cX5_spans 135 = .ok (.iload 8, 2) := by decide +kernel
theorem dX5_spans_137 : decode cX5_spans 137 = .ok (.goto 5, 3) := by decide +kernel
theorem dX5_spans_140 : decode cX5_spans 140 = .ok (.iload 4, 2) := by decide +kernel
theorem dX5_spans_142 : decode cX5_spans 142 = .ok (.istore 4, 2) := by decide +kernel
theorem dX5_spans_144 : decode cX5_spans 144 = .ok (.iconst 1, 1) := by decide +kernel
theorem dX5_spans_145 : decode cX5_spans 145 = .ok (.istore 5, 2) := by decide +kernel
theorem dX5_spans_147 : decode cX5_spans 147 = .ok (.iinc 6 1, 3) := by decide +kernel
theorem dX5_spans_150 : decode cX5_spans 150 = .ok (.goto (-109), 3) := by decide +kernel
theorem dX5_spans_153 : decode cX5_spans 153 = .ok (.aload_n 0, 1) := by decide +kernel
theorem dX5_spans_154 : decode cX5_spans 154 = .ok (.getfield 51, 3) := by decide +kernel
theorem dX5_spans_157 : decode cX5_spans 157 = .ok (.iload_n 2, 1) := by decide +kernel
theorem dX5_spans_158 : decode cX5_spans 158 = .ok (.iload_n 3, 1) := by decide +kernel
theorem dX5_spans_159 : decode cX5_spans 159 = .ok (.iastore, 1) := by decide +kernel
theorem dX5_spans_160 : decode cX5_spans 160 = .ok (.aload_n 0, 1) := by decide +kernel
theorem dX5_spans_161 : decode cX5_spans 161 = .ok (.getfield 54, 3) := by decide +kernel
theorem dX5_spans_164 : decode cX5_spans 164 = .ok (.iload_n 2, 1) := by decide +kernel
theorem dX5_spans_165 : decode cX5_spans 165 = .ok (.iload 4, 2) := by decide +kernel
theorem dX5_spans_167 : decode cX5_spans 167 = .ok (.aload_n 0, 1) := by decide +kernel
theorem dX5_spans_168 : decode cX5_spans 168 = .ok (.getfield 48, 3) := by decide +kernel
theorem dX5_spans_171 : decode cX5_spans 171 = .ok (.iload_n 2, 1) := by decide +kernel
theorem dX5_spans_172 : decode cX5_spans 172 = .ok (.iaload, 1) := by decide +kernel
theorem dX5_spans_173 : decode cX5_spans 173 = .ok (.iadd, 1) := by decide +kernel
theorem dX5_spans_174 : decode cX5_spans 174 = .ok (.iastore, 1) := by decide +kernel
theorem dX5_spans_175 : decode cX5_spans 175 = .ok (.iinc 2 1, 3) := by decide +kernel
theorem dX5_spans_178 : decode cX5_spans 178 = .ok (.goto (-166), 3) := by decide +kernel
theorem dX5_spans_181 : decode cX5_spans 181 = .ok (.iinc 1 1, 3) := by decide +kernel
theorem dX5_spans_184 : decode cX5_spans 184 = .ok (.goto (-182), 3) := by decide +kernel
theorem dX5_spans_187 : decode cX5_spans 187 = .ok (.return_, 1) := by decide +kernel
theorem dX5_run_0 : decode cX5_run 0 = .ok (.aload_n 0, 1) := by decide +kernel
theorem dX5_run_1 : decode cX5_run 1 = .ok (.iload_n 1, 1) := by decide +kernel
theorem dX5_run_2 : decode cX5_run 2 = .ok (.iconst 1, 1) := by decide +kernel
theorem dX5_run_3 : decode cX5_run 3 = .ok (.bipush 50, 2) := by decide +kernel
theorem dX5_run_5 : decode cX5_run 5 = .ok (.invokestatic 76, 3) := by decide +kernel
theorem dX5_run_8 : decode cX5_run 8 = .ok (.ifCond .eq 7, 3) := by decide +kernel
theorem dX5_run_11 : decode cX5_run 11 = .ok (.iconst 0, 1) := by decide +kernel
theorem dX5_run_12 : decode cX5_run 12 = .ok (.goto 4, 3) := by decide +kernel
theorem dX5_run_15 : decode cX5_run 15 = .ok (.iconst 1, 1) := by decide +kernel
theorem dX5_run_16 : decode cX5_run 16 = .ok (.putfield 69, 3) := by decide +kernel
theorem dX5_run_19 : decode cX5_run 19 = .ok (.aload_n 0, 1) := by decide +kernel
theorem dX5_run_20 : decode cX5_run 20 = .ok (.getfield 69, 3) := by decide +kernel
theorem dX5_run_23 : decode cX5_run 23 = .ok (.ifCond .le 5, 3) := by decide +kernel
theorem dX5_run_26 : decode cX5_run 26 = .ok (.iconst 0, 1) := by decide +kernel
theorem dX5_run_27 : decode cX5_run 27 = .ok (.ireturn, 1) := by decide +kernel
theorem dX5_run_28 : decode cX5_run 28 = .ok (.iconst 0, 1) := by decide +kernel
theorem dX5_run_29 : decode cX5_run 29 = .ok (.istore_n 3, 1) := by decide +kernel
theorem dX5_run_30 : decode cX5_run 30 = .ok (.iload_n 3, 1) := by decide +kernel
theorem dX5_run_31 : decode cX5_run 31 = .ok (.aload_n 0, 1) := by decide +kernel
theorem dX5_run_32 : decode cX5_run 32 = .ok (.getfield 72, 3) := by decide +kernel
theorem dX5_run_35 : decode cX5_run 35 = .ok (.if_icmp .ge 43, 3) := by decide +kernel
theorem dX5_run_38 : decode cX5_run 38 = .ok (.aload_n 0, 1) := by decide +kernel
theorem dX5_run_39 : decode cX5_run 39 = .ok (.getfield 48, 3) := by decide +kernel
theorem dX5_run_42 : decode cX5_run 42 = .ok (.iload_n 3, 1) := by decide +kernel
theorem dX5_run_43 : decode cX5_run 43 = .ok (.iload_n 2, 1) := by decide +kernel
theorem dX5_run_44 : decode cX5_run 44 = .ok (.ifCond .eq 12, 3) := by decide +kernel
theorem dX5_run_47 : decode cX5_run 47 = .ok (.aload_n 0, 1) := by decide +kernel
theorem dX5_run_48 : decode cX5_run 48 = .ok (.iload_n 3, 1) := by decide +kernel
theorem dX5_run_49 : decode cX5_run 49 = .ok (.iconst 1, 1) := by decide +kernel
theorem dX5_run_50 : decode cX5_run 50 = .ok (.invokevirtual 111, 3) := by decide +kernel
theorem dX5_run_53 : decode cX5_run 53 = .ok (.goto 4, 3) := by decide +kernel
theorem dX5_run_56 : decode cX5_run 56 = .ok (.iconst 0, 1) := by decide +kernel
theorem dX5_run_57 : decode cX5_run 57 = .ok (.iastore, 1) := by decide +kernel
theorem dX5_run_58 : decode cX5_run 58 = .ok (.aload_n 0, 1) := by decide +kernel
theorem dX5_run_59 : decode cX5_run 59 = .ok (.getfield 51, 3) := by decide +kernel
theorem dX5_run_62 : decode cX5_run 62 = .ok (.iload_n 3, 1) := by decide +kernel
theorem dX5_run_63 : decode cX5_run 63 = .ok (.iconst 0, 1) := by decide +kernel
theorem dX5_run_64 : decode cX5_run 64 = .ok (.iastore, 1) := by decide +kernel
theorem dX5_run_65 : decode cX5_run 65 = .ok (.aload_n 0, 1) := by decide +kernel
theorem dX5_run_66 : decode cX5_run 66 = .ok (.getfield 54, 3) := by decide +kernel
theorem dX5_run_69 : decode cX5_run 69 = .ok (.iload_n 3, 1) := by decide +kernel
theorem dX5_run_70 : decode cX5_run 70 = .ok (.iconst 0, 1) := by decide +kernel
theorem dX5_run_71 : decode cX5_run 71 = .ok (.iastore, 1) := by decide +kernel
theorem dX5_run_72 : decode cX5_run 72 = .ok (.iinc 3 1, 3) := by decide +kernel
theorem dX5_run_75 : decode cX5_run 75 = .ok (.goto (-45), 3) := by decide +kernel
theorem dX5_run_78 : decode cX5_run 78 = .ok (.aload_n 0, 1) := by decide +kernel
theorem dX5_run_79 : decode cX5_run 79 = .ok (.iconst 0, 1) := by decide +kernel
theorem dX5_run_80 : decode cX5_run 80 = .ok (.putfield 114, 3) := by decide +kernel
theorem dX5_run_83 : decode cX5_run 83 = .ok (.iconst 0, 1) := by decide +kernel
theorem dX5_run_84 : decode cX5_run 84 = .ok (.istore_n 3, 1) := by decide +kernel
theorem dX5_run_85 : decode cX5_run 85 = .ok (.aload_n 0, 1) := by decide +kernel
theorem dX5_run_86 : decode cX5_run 86 = .ok (.getfield 114, 3) := by decide +kernel
theorem dX5_run_89 : decode cX5_run 89 = .ok (.iload_n 1, 1) := by decide +kernel
theorem dX5_run_90 : decode cX5_run 90 = .ok (.if_icmp .ge 140, 3) := by decide +kernel
theorem dX5_run_93 : decode cX5_run 93 = .ok (.iload_n 3, 1) := by decide +kernel
theorem dX5_run_94 : decode cX5_run 94 = .ok (.ifCond .ne 136, 3) := by decide +kernel
theorem dX5_run_97 : decode cX5_run 97 = .ok (.aload_n 0, 1) := by decide +kernel
theorem dX5_run_98 : decode cX5_run 98 = .ok (.invokevirtual 117, 3) := by decide +kernel
theorem dX5_run_101 : decode cX5_run 101 = .ok (.iconst 0, 1) := by decide +kernel
theorem dX5_run_102 : decode cX5_run 102 = .ok (.istore 4, 2) := by decide +kernel
theorem dX5_run_104 : decode cX5_run 104 = .ok (.iconst 0, 1) := by decide +kernel
theorem dX5_run_105 : decode cX5_run 105 = .ok (.istore 5, 2) := by decide +kernel
theorem dX5_run_107 : decode cX5_run 107 = .ok (.iload 5, 2) := by decide +kernel
theorem dX5_run_109 : decode cX5_run 109 = .ok (.aload_n 0, 1) := by decide +kernel
theorem dX5_run_110 : decode cX5_run 110 = .ok (.getfield 72, 3) := by decide +kernel
theorem dX5_run_113 : decode cX5_run 113 = .ok (.if_icmp .ge 50, 3) := by decide +kernel
theorem dX5_run_116 : decode cX5_run 116 = .ok (.aload_n 0, 1) := by decide +kernel
theorem dX5_run_117 : decode cX5_run 117 = .ok (.getfield 57, 3) := by decide +kernel
theorem dX5_run_120 : decode cX5_run 120 = .ok (.iload 5, 2) := by decide +kernel
theorem dX5_run_122 : decode cX5_run 122 = .ok (.aload_n 0, 1) := by decide +kernel
theorem dX5_run_123 : decode cX5_run 123 = .ok (.iload 5, 2) := by decide +kernel
theorem dX5_run_125 : decode cX5_run 125 = .ok (.iconst 0, 1) := by decide +kernel
theorem dX5_run_126 : decode cX5_run 126 = .ok (.invokevirtual 111, 3) := by decide +kernel
theorem dX5_run_129 : decode cX5_run 129 = .ok (.iastore, 1) := by decide +kernel
theorem dX5_run_130 : decode cX5_run 130 = .ok (.iload 4, 2) := by decide +kernel
theorem dX5_run_132 : decode cX5_run 132 = .ok (.aload_n 0, 1) := by decide +kernel
theorem dX5_run_133 : decode cX5_run 133 = .ok (.getfield 57, 3) := by decide +kernel
theorem dX5_run_136 : decode cX5_run 136 = .ok (.iload 5, 2) := by decide +kernel
theorem dX5_run_138 : decode cX5_run 138 = .ok (.iaload, 1) := by decide +kernel
theorem dX5_run_139 : decode cX5_run 139 = .ok (.aload_n 0, 1) := by decide +kernel
theorem dX5_run_140 : decode cX5_run 140 = .ok (.getfield 48, 3) := by decide +kernel
theorem dX5_run_143 : decode cX5_run 143 = .ok (.iload 5, 2) := by decide +kernel
theorem dX5_run_145 : decode cX5_run 145 = .ok (.iaload, 1) := by decide +kernel
theorem dX5_run_146 : decode cX5_run 146 = .ok (.if_icmp .eq 7, 3) := by decide +kernel
theorem dX5_run_149 : decode cX5_run 149 = .ok (.iconst 1, 1) := by decide +kernel
theorem dX5_run_150 : decode cX5_run 150 = .ok (.goto 4, 3) := by decide +kernel
theorem dX5_run_153 : decode cX5_run 153 = .ok (.iconst 0, 1) := by decide +kernel
theorem dX5_run_154 : decode cX5_run 154 = .ok (.iadd, 1) := by decide +kernel
theorem dX5_run_155 : decode cX5_run 155 = .ok (.istore 4, 2) := by decide +kernel
theorem dX5_run_157 : decode cX5_run 157 = .ok (.iinc 5 1, 3) := by decide +kernel
theorem dX5_run_160 : decode cX5_run 160 = .ok (.goto (-53), 3) := by decide +kernel
theorem dX5_run_163 : decode cX5_run 163 = .ok (.iconst 0, 1) := by decide +kernel
theorem dX5_run_164 : decode cX5_run 164 = .ok (.istore 5, 2) := by decide +kernel
theorem dX5_run_166 : decode cX5_run 166 = .ok (.iload 5, 2) := by decide +kernel
theorem dX5_run_168 : decode cX5_run 168 = .ok (.aload_n 0, 1) := by decide +kernel
theorem dX5_run_169 : decode cX5_run 169 = .ok (.getfield 72, 3) := by decide +kernel
theorem dX5_run_172 : decode cX5_run 172 = .ok (.if_icmp .ge 23, 3) := by decide +kernel
theorem dX5_run_175 : decode cX5_run 175 = .ok (.aload_n 0, 1) := by decide +kernel
theorem dX5_run_176 : decode cX5_run 176 = .ok (.getfield 48, 3) := by decide +kernel
theorem dX5_run_179 : decode cX5_run 179 = .ok (.iload 5, 2) := by decide +kernel
theorem dX5_run_181 : decode cX5_run 181 = .ok (.aload_n 0, 1) := by decide +kernel
theorem dX5_run_182 : decode cX5_run 182 = .ok (.getfield 57, 3) := by decide +kernel
theorem dX5_run_185 : decode cX5_run 185 = .ok (.iload 5, 2) := by decide +kernel
theorem dX5_run_187 : decode cX5_run 187 = .ok (.iaload, 1) := by decide +kernel
theorem dX5_run_188 : decode cX5_run 188 = .ok (.iastore, 1) := by decide +kernel
theorem dX5_run_189 : decode cX5_run 189 = .ok (.iinc 5 1, 3) := by decide +kernel
theorem dX5_run_192 : decode cX5_run 192 = .ok (.goto (-26), 3) := by decide +kernel
theorem dX5_run_195 : decode cX5_run 195 = .ok (.aload_n 0, 1) := by decide +kernel
theorem dX5_run_196 : decode cX5_run 196 = .ok (.getfield 45, 3) := by decide +kernel
theorem dX5_run_199 : decode cX5_run 199 = .ok (.aload_n 0, 1) := by decide +kernel
theorem dX5_run_200 : decode cX5_run 200 = .ok (.getfield 114, 3) := by decide +kernel
theorem dX5_run_203 : decode cX5_run 203 = .ok (.iload 4, 2) := by decide +kernel
theorem dX5_run_205 : decode cX5_run 205 = .ok (.iastore, 1) := by decide +kernel
theorem dX5_run_206 : decode cX5_run 206 = .ok (.aload_n 0, 1) := by decide +kernel
theorem dX5_run_207 : decode cX5_run 207 = .ok (.dup, 1) := by decide +kernel
theorem dX5_run_208 : decode cX5_run 208 = .ok (.getfield 114, 3) := by decide +kernel
theorem dX5_run_211 : decode cX5_run 211 = .ok (.iconst 1, 1) := by decide +kernel
theorem dX5_run_212 : decode cX5_run 212 = .ok (.iadd, 1) := by decide +kernel
theorem dX5_run_213 : decode cX5_run 213 = .ok (.putfield 114, 3) := by decide +kernel
theorem dX5_run_216 : decode cX5_run 216 = .ok (.iload 4, 2) := by decide +kernel
theorem dX5_run_218 : decode cX5_run 218 = .ok (.ifCond .ne 7, 3) := by decide +kernel
theorem dX5_run_221 : decode cX5_run 221 = .ok (.iconst 1, 1) := by decide +kernel
theorem dX5_run_222 : decode cX5_run 222 = .ok (.goto 4, 3) := by decide +kernel
theorem dX5_run_225 : decode cX5_run 225 = .ok (.iconst 0, 1) := by decide +kernel
theorem dX5_run_226 : decode cX5_run 226 = .ok (.istore_n 3, 1) := by decide +kernel
theorem dX5_run_227 : decode cX5_run 227 = .ok (.goto (-142), 3) := by decide +kernel
theorem dX5_run_230 : decode cX5_run 230 = .ok (.aload_n 0, 1) := by decide +kernel
theorem dX5_run_231 : decode cX5_run 231 = .ok (.invokevirtual 117, 3) := by decide +kernel
theorem dX5_run_234 : decode cX5_run 234 = .ok (.aload_n 0, 1) := by decide +kernel
theorem dX5_run_235 : decode cX5_run 235 = .ok (.aload_n 0, 1) := by decide +kernel
theorem dX5_run_236 : decode cX5_run 236 = .ok (.getfield 72, 3) := by decide +kernel
theorem dX5_run_239 : decode cX5_run 239 = .ok (.putfield 120, 3) := by decide +kernel
theorem dX5_run_242 : decode cX5_run 242 = .ok (.aload_n 0, 1) := by decide +kernel
theorem dX5_run_243 : decode cX5_run 243 = .ok (.getfield 114, 3) := by decide +kernel
theorem dX5_run_246 : decode cX5_run 246 = .ok (.ireturn, 1) := by decide +kernel
theorem dX5_early_0 : decode cX5_early 0 = .ok (.aload_n 0, 1) := by decide +kernel
theorem dX5_early_1 : decode cX5_early 1 = .ok (.aload_n 0, 1) := by decide +kernel
theorem dX5_early_2 : decode cX5_early 2 = .ok (.iload_n 1, 1) := by decide +kernel
theorem dX5_early_3 : decode cX5_early 3 = .ok (.invokevirtual 80, 3) := by decide +kernel
theorem dX5_early_6 : decode cX5_early 6 = .ok (.ifCond .eq 7, 3) := by decide +kernel
theorem dX5_early_9 : decode cX5_early 9 = .ok (.iconst 0, 1) := by decide +kernel
theorem dX5_early_10 : decode cX5_early 10 = .ok (.goto 4, 3) := by decide +kernel
theorem dX5_early_13 : decode cX5_early 13 = .ok (.iconst 1, 1) := by decide +kernel
theorem dX5_early_14 : decode cX5_early 14 = .ok (.putfield 69, 3) := by decide +kernel
theorem dX5_early_17 : decode cX5_early 17 = .ok (.aload_n 0, 1) := by decide +kernel
theorem dX5_early_18 : decode cX5_early 18 = .ok (.getfield 69, 3) := by decide +kernel
theorem dX5_early_21 : decode cX5_early 21 = .ok (.ifCond .le 7, 3) := by decide +kernel
theorem dX5_early_24 : decode cX5_early 24 = .ok (.iconst 0, 1) := by decide +kernel
theorem dX5_early_25 : decode cX5_early 25 = .ok (.goto 21, 3) := by decide +kernel
theorem dX5_early_28 : decode cX5_early 28 = .ok (.iload_n 1, 1) := by decide +kernel
theorem dX5_early_29 : decode cX5_early 29 = .ok (.aload_n 0, 1) := by decide +kernel
theorem dX5_early_30 : decode cX5_early 30 = .ok (.getfield 120, 3) := by decide +kernel
theorem dX5_early_33 : decode cX5_early 33 = .ok (.if_icmp .ge 12, 3) := by decide +kernel
theorem dX5_early_36 : decode cX5_early 36 = .ok (.aload_n 0, 1) := by decide +kernel
theorem dX5_early_37 : decode cX5_early 37 = .ok (.getfield 51, 3) := by decide +kernel
theorem dX5_early_40 : decode cX5_early 40 = .ok (.iload_n 1, 1) := by decide +kernel
theorem dX5_early_41 : decode cX5_early 41 = .ok (.iaload, 1) := by decide +kernel
theorem dX5_early_42 : decode cX5_early 42 = .ok (.goto 4, 3) := by decide +kernel
theorem dX5_early_45 : decode cX5_early 45 = .ok (.iconst (-1), 1) := by decide +kernel
theorem dX5_early_46 : decode cX5_early 46 = .ok (.ireturn, 1) := by decide +kernel
theorem dX5_late_0 : decode cX5_late 0 = .ok (.aload_n 0, 1) := by decide +kernel
theorem dX5_late_1 : decode cX5_late 1 = .ok (.aload_n 0, 1) := by decide +kernel
theorem dX5_late_2 : decode cX5_late 2 = .ok (.iload_n 1, 1) := by decide +kernel
theorem dX5_late_3 : decode cX5_late 3 = .ok (.invokevirtual 80, 3) := by decide +kernel
theorem dX5_late_6 : decode cX5_late 6 = .ok (.ifCond .eq 7, 3) := by decide +kernel
theorem dX5_late_9 : decode cX5_late 9 = .ok (.iconst 0, 1) := by decide +kernel
theorem dX5_late_10 : decode cX5_late 10 = .ok (.goto 4, 3) := by decide +kernel
theorem dX5_late_13 : decode cX5_late 13 = .ok (.iconst 1, 1) := by decide +kernel
theorem dX5_late_14 : decode cX5_late 14 = .ok (.putfield 69, 3) := by decide +kernel
theorem dX5_late_17 : decode cX5_late 17 = .ok (.aload_n 0, 1) := by decide +kernel
theorem dX5_late_18 : decode cX5_late 18 = .ok (.getfield 69, 3) := by decide +kernel
theorem dX5_late_21 : decode cX5_late 21 = .ok (.ifCond .le 7, 3) := by decide +kernel
theorem dX5_late_24 : decode cX5_late 24 = .ok (.iconst 0, 1) := by decide +kernel
theorem dX5_late_25 : decode cX5_late 25 = .ok (.goto 21, 3) := by decide +kernel
theorem dX5_late_28 : decode cX5_late 28 = .ok (.iload_n 1, 1) := by decide +kernel
theorem dX5_late_29 : decode cX5_late 29 = .ok (.aload_n 0, 1) := by decide +kernel
theorem dX5_late_30 : decode cX5_late 30 = .ok (.getfield 120, 3) := by decide +kernel
theorem dX5_late_33 : decode cX5_late 33 = .ok (.if_icmp .ge 12, 3) := by decide +kernel
theorem dX5_late_36 : decode cX5_late 36 = .ok (.aload_n 0, 1) := by decide +kernel
theorem dX5_late_37 : decode cX5_late 37 = .ok (.getfield 54, 3) := by decide +kernel
theorem dX5_late_40 : decode cX5_late 40 = .ok (.iload_n 1, 1) := by decide +kernel
theorem dX5_late_41 : decode cX5_late 41 = .ok (.iaload, 1) := by decide +kernel
theorem dX5_late_42 : decode cX5_late 42 = .ok (.goto 4, 3) := by decide +kernel
theorem dX5_late_45 : decode cX5_late 45 = .ok (.iconst (-1), 1) := by decide +kernel
theorem dX5_late_46 : decode cX5_late 46 = .ok (.ireturn, 1) := by decide +kernel
theorem dX5_added_0 : decode cX5_added 0 = .ok (.aload_n 0, 1) := by decide +kernel
theorem dX5_added_1 : decode cX5_added 1 = .ok (.aload_n 0, 1) := by decide +kernel
theorem dX5_added_2 : decode cX5_added 2 = .ok (.iload_n 1, 1) := by decide +kernel
theorem dX5_added_3 : decode cX5_added 3 = .ok (.invokevirtual 80, 3) := by decide +kernel
theorem dX5_added_6 : decode cX5_added 6 = .ok (.ifCond .eq 7, 3) := by decide +kernel
theorem dX5_added_9 : decode cX5_added 9 = .ok (.iconst 0, 1) := by decide +kernel
theorem dX5_added_10 : decode cX5_added 10 = .ok (.goto 4, 3) := by decide +kernel
theorem dX5_added_13 : decode cX5_added 13 = .ok (.iconst 1, 1) := by decide +kernel
theorem dX5_added_14 : decode cX5_added 14 = .ok (.putfield 69, 3) := by decide +kernel
theorem dX5_added_17 : decode cX5_added 17 = .ok (.aload_n 0, 1) := by decide +kernel
theorem dX5_added_18 : decode cX5_added 18 = .ok (.getfield 69, 3) := by decide +kernel
theorem dX5_added_21 : decode cX5_added 21 = .ok (.ifCond .le 7, 3) := by decide +kernel
theorem dX5_added_24 : decode cX5_added 24 = .ok (.iconst 0, 1) := by decide +kernel
theorem dX5_added_25 : decode cX5_added 25 = .ok (.goto 9, 3) := by decide +kernel
theorem dX5_added_28 : decode cX5_added 28 = .ok (.aload_n 0, 1) := by decide +kernel
theorem dX5_added_29 : decode cX5_added 29 = .ok (.getfield 48, 3) := by decide +kernel
theorem dX5_added_32 : decode cX5_added 32 = .ok (.iload_n 1, 1) := by decide +kernel
theorem dX5_added_33 : decode cX5_added 33 = .ok (.iaload, 1) := by decide +kernel
theorem dX5_added_34 : decode cX5_added 34 = .ok (.ireturn, 1) := by decide +kernel
theorem dX5_changed_0 : decode cX5_changed 0 = .ok (.aload_n 0, 1) := by decide +kernel
theorem dX5_changed_1 : decode cX5_changed 1 = .ok (.iload_n 1, 1) := by decide +kernel
theorem dX5_changed_2 : decode cX5_changed 2 = .ok (.ifCond .lt 11, 3) := by decide +kernel
theorem dX5_changed_5 : decode cX5_changed 5 = .ok (.iload_n 1, 1) := by decide +kernel
theorem dX5_changed_6 : decode cX5_changed 6 = .ok (.aload_n 0, 1) := by decide +kernel
theorem dX5_changed_7 : decode cX5_changed 7 = .ok (.getfield 114, 3) := by decide +kernel
theorem dX5_changed_10 : decode cX5_changed 10 = .ok (.if_icmp .lt 7, 3) := by decide +kernel
theorem dX5_changed_13 : decode cX5_changed 13 = .ok (.iconst 1, 1) := by decide +kernel
theorem dX5_changed_14 : decode cX5_changed 14 = .ok (.goto 4, 3) := by decide +kernel
theorem dX5_changed_17 : decode cX5_changed 17 = .ok (.iconst 0, 1) := by decide +kernel
theorem dX5_changed_18 : decode cX5_changed 18 = .ok (.putfield 69, 3) := by decide +kernel
theorem dX5_changed_21 : decode cX5_changed 21 = .ok (.aload_n 0, 1) := by decide +kernel
theorem dX5_changed_22 : decode cX5_changed 22 = .ok (.getfield 69, 3) := by decide +kernel
theorem dX5_changed_25 : decode cX5_changed 25 = .ok (.ifCond .le 7, 3) := by decide +kernel
theorem dX5_changed_28 : decode cX5_changed 28 = .ok (.iconst 0, 1) := by decide +kernel
theorem dX5_changed_29 : decode cX5_changed 29 = .ok (.goto 9, 3) := by decide +kernel
theorem dX5_changed_32 : decode cX5_changed 32 = .ok (.aload_n 0, 1) := by decide +kernel
theorem dX5_changed_33 : decode cX5_changed 33 = .ok (.getfield 45, 3) := by decide +kernel
theorem dX5_changed_36 : decode cX5_changed 36 = .ok (.iload_n 1, 1) := by decide +kernel
theorem dX5_changed_37 : decode cX5_changed 37 = .ok (.iaload, 1) := by decide +kernel
theorem dX5_changed_38 : decode cX5_changed 38 = .ok (.ireturn, 1) := by decide +kernel
theorem dX5_source_0 : decode cX5_source 0 = .ok (.aload_n 0, 1) := by decide +kernel
theorem dX5_source_1 : decode cX5_source 1 = .ok (.aload_n 0, 1) := by decide +kernel
theorem dX5_source_2 : decode cX5_source 2 = .ok (.iload_n 1, 1) := by decide +kernel
theorem dX5_source_3 : decode cX5_source 3 = .ok (.invokevirtual 80, 3) := by decide +kernel
theorem dX5_source_6 : decode cX5_source 6 = .ok (.ifCond .eq 7, 3) := by decide +kernel
theorem dX5_source_9 : decode cX5_source 9 = .ok (.iload_n 2, 1) := by decide +kernel
theorem dX5_source_10 : decode cX5_source 10 = .ok (.ifCond .ge 7, 3) := by decide +kernel
theorem dX5_source_13 : decode cX5_source 13 = .ok (.iconst 1, 1) := by decide +kernel
theorem dX5_source_14 : decode cX5_source 14 = .ok (.goto 4, 3) := by decide +kernel
theorem dX5_source_17 : decode cX5_source 17 = .ok (.iconst 0, 1) := by decide +kernel
theorem dX5_source_18 : decode cX5_source 18 = .ok (.putfield 69, 3) := by decide +kernel
theorem dX5_source_21 : decode cX5_source 21 = .ok (.aload_n 0, 1) := by decide +kernel
theorem dX5_source_22 : decode cX5_source 22 = .ok (.getfield 69, 3) := by decide +kernel
theorem dX5_source_25 : decode cX5_source 25 = .ok (.ifCond .le 5, 3) := by decide +kernel
theorem dX5_source_28 : decode cX5_source 28 = .ok (.iconst 0, 1) := by decide +kernel
theorem dX5_source_29 : decode cX5_source 29 = .ok (.ireturn, 1) := by decide +kernel
theorem dX5_source_30 : decode cX5_source 30 = .ok (.iload_n 2, 1) := by decide +kernel
theorem dX5_source_31 : decode cX5_source 31 = .ok (.aload_n 0, 1) := by decide +kernel
theorem dX5_source_32 : decode cX5_source 32 = .ok (.iload_n 1, 1) := by decide +kernel
theorem dX5_source_33 : decode cX5_source 33 = .ok (.iconst 1, 1) := by decide +kernel
theorem dX5_source_34 : decode cX5_source 34 = .ok (.invokevirtual 107, 3) := by decide +kernel
theorem dX5_source_37 : decode cX5_source 37 = .ok (.if_icmp .ge 12, 3) := by decide +kernel
theorem dX5_source_40 : decode cX5_source 40 = .ok (.aload_n 0, 1) := by decide +kernel
theorem dX5_source_41 : decode cX5_source 41 = .ok (.getfield 63, 3) := by decide +kernel
theorem dX5_source_44 : decode cX5_source 44 = .ok (.iload_n 2, 1) := by decide +kernel
theorem dX5_source_45 : decode cX5_source 45 = .ok (.iaload, 1) := by decide +kernel
theorem dX5_source_46 : decode cX5_source 46 = .ok (.goto 4, 3) := by decide +kernel
theorem dX5_source_49 : decode cX5_source 49 = .ok (.iconst (-1), 1) := by decide +kernel
theorem dX5_source_50 : decode cX5_source 50 = .ok (.ireturn, 1) := by decide +kernel
theorem dX5_heightOf_0 : decode cX5_heightOf 0 = .ok (.aload_n 0, 1) := by decide +kernel
theorem dX5_heightOf_1 : decode cX5_heightOf 1 = .ok (.iload_n 1, 1) := by decide +kernel
theorem dX5_heightOf_2 : decode cX5_heightOf 2 = .ok (.iconst 1, 1) := by decide +kernel
theorem dX5_heightOf_3 : decode cX5_heightOf 3 = .ok (.invokevirtual 107, 3) := by decide +kernel
theorem dX5_heightOf_6 : decode cX5_heightOf 6 = .ok (.istore_n 2, 1) := by decide +kernel
theorem dX5_heightOf_7 : decode cX5_heightOf 7 = .ok (.iconst 0, 1) := by decide +kernel
theorem dX5_heightOf_8 : decode cX5_heightOf 8 = .ok (.istore_n 3, 1) := by decide +kernel
theorem dX5_heightOf_9 : decode cX5_heightOf 9 = .ok (.iconst 0, 1) := by decide +kernel
theorem dX5_heightOf_10 : decode cX5_heightOf 10 = .ok (.istore 4, 2) := by decide +kernel
theorem dX5_heightOf_12 : decode cX5_heightOf 12 = .ok (.iload 4, 2) := by decide +kernel
theorem dX5_heightOf_14 : decode cX5_heightOf 14 = .ok (.iload_n 2, 1) := by decide +kernel
theorem dX5_heightOf_15 : decode cX5_heightOf 15 = .ok (.if_icmp .ge 38, 3) := by decide +kernel
theorem dX5_heightOf_18 : decode cX5_heightOf 18 = .ok (.iload 4, 2) := by decide +kernel
theorem dX5_heightOf_20 : decode cX5_heightOf 20 = .ok (.aload_n 0, 1) := by decide +kernel
theorem dX5_heightOf_21 : decode cX5_heightOf 21 = .ok (.getfield 35, 3) := by decide +kernel
theorem dX5_heightOf_24 : decode cX5_heightOf 24 = .ok (.if_icmp .ge 29, 3) := by decide +kernel
theorem dX5_heightOf_27 : decode cX5_heightOf 27 = .ok (.iload_n 3, 1) := by decide +kernel
theorem dX5_heightOf_28 : decode cX5_heightOf 28 = .ok (.aload_n 0, 1) := by decide +kernel
theorem dX5_heightOf_29 : decode cX5_heightOf 29 = .ok (.getfield 19, 3) := by decide +kernel
theorem dX5_heightOf_32 : decode cX5_heightOf 32 = .ok (.bipush 40, 2) := by decide +kernel
theorem dX5_heightOf_34 : decode cX5_heightOf 34 = .ok (.iload_n 1, 1) := by decide +kernel
theorem dX5_heightOf_35 : decode cX5_heightOf 35 = .ok (.imul, 1) := by decide +kernel
theorem dX5_heightOf_36 : decode cX5_heightOf 36 = .ok (.aload_n 0, 1) := by decide +kernel
theorem dX5_heightOf_37 : decode cX5_heightOf 37 = .ok (.getfield 63, 3) := by decide +kernel
theorem dX5_heightOf_40 : decode cX5_heightOf 40 = .ok (.iload 4, 2) := by decide +kernel
theorem dX5_heightOf_42 : decode cX5_heightOf 42 = .ok (.iaload, 1) := by decide +kernel
theorem dX5_heightOf_43 : decode cX5_heightOf 43 = .ok (.iadd, 1) := by decide +kernel
theorem dX5_heightOf_44 : decode cX5_heightOf 44 = .ok (.iaload, 1) := by decide +kernel
theorem dX5_heightOf_45 : decode cX5_heightOf 45 = .ok (.iadd, 1) := by decide +kernel
theorem dX5_heightOf_46 : decode cX5_heightOf 46 = .ok (.istore_n 3, 1) := by decide +kernel
theorem dX5_heightOf_47 : decode cX5_heightOf 47 = .ok (.iinc 4 1, 3) := by decide +kernel
theorem dX5_heightOf_50 : decode cX5_heightOf 50 = .ok (.goto (-38), 3) := by decide +kernel
theorem dX5_heightOf_53 : decode cX5_heightOf 53 = .ok (.iload_n 3, 1) := by decide +kernel
theorem dX5_heightOf_54 : decode cX5_heightOf 54 = .ok (.ireturn, 1) := by decide +kernel
theorem dX5_height_0 : decode cX5_height 0 = .ok (.aload_n 0, 1) := by decide +kernel
theorem dX5_height_1 : decode cX5_height 1 = .ok (.aload_n 0, 1) := by decide +kernel
theorem dX5_height_2 : decode cX5_height 2 = .ok (.iload_n 1, 1) := by decide +kernel
theorem dX5_height_3 : decode cX5_height 3 = .ok (.invokevirtual 80, 3) := by decide +kernel
theorem dX5_height_6 : decode cX5_height 6 = .ok (.ifCond .eq 7, 3) := by decide +kernel
theorem dX5_height_9 : decode cX5_height 9 = .ok (.iconst 0, 1) := by decide +kernel
theorem dX5_height_10 : decode cX5_height 10 = .ok (.goto 4, 3) := by decide +kernel
theorem dX5_height_13 : decode cX5_height 13 = .ok (.iconst 1, 1) := by decide +kernel
theorem dX5_height_14 : decode cX5_height 14 = .ok (.putfield 69, 3) := by decide +kernel
theorem dX5_height_17 : decode cX5_height 17 = .ok (.aload_n 0, 1) := by decide +kernel
theorem dX5_height_18 : decode cX5_height 18 = .ok (.getfield 69, 3) := by decide +kernel
theorem dX5_height_21 : decode cX5_height 21 = .ok (.ifCond .le 7, 3) := by decide +kernel
theorem dX5_height_24 : decode cX5_height 24 = .ok (.iconst 0, 1) := by decide +kernel
theorem dX5_height_25 : decode cX5_height 25 = .ok (.goto 8, 3) := by decide +kernel
theorem dX5_height_28 : decode cX5_height 28 = .ok (.aload_n 0, 1) := by decide +kernel
theorem dX5_height_29 : decode cX5_height 29 = .ok (.iload_n 1, 1) := by decide +kernel
theorem dX5_height_30 : decode cX5_height 30 = .ok (.invokevirtual 123, 3) := by decide +kernel
theorem dX5_height_33 : decode cX5_height 33 = .ok (.ireturn, 1) := by decide +kernel
theorem dX5_through_0 : decode cX5_through 0 = .ok (.iconst 0, 1) := by decide +kernel
theorem dX5_through_1 : decode cX5_through 1 = .ok (.istore_n 2, 1) := by decide +kernel
theorem dX5_through_2 : decode cX5_through 2 = .ok (.iconst 0, 1) := by decide +kernel
theorem dX5_through_3 : decode cX5_through 3 = .ok (.istore_n 3, 1) := by decide +kernel
theorem dX5_through_4 : decode cX5_through 4 = .ok (.iload_n 3, 1) := by decide +kernel
theorem dX5_through_5 : decode cX5_through 5 = .ok (.aload_n 0, 1) := by decide +kernel
theorem dX5_through_6 : decode cX5_through 6 = .ok (.getfield 98, 3) := by decide +kernel
theorem dX5_through_9 : decode cX5_through 9 = .ok (.if_icmp .ge 30, 3) := by decide +kernel
theorem dX5_through_12 : decode cX5_through 12 = .ok (.aload_n 0, 1) := by decide +kernel
theorem dX5_through_13 : decode cX5_through 13 = .ok (.getfield 39, 3) := by decide +kernel
theorem dX5_through_16 : decode cX5_through 16 = .ok (.iload_n 3, 1) := by decide +kernel
theorem dX5_through_17 : decode cX5_through 17 = .ok (.iaload, 1) := by decide +kernel
theorem dX5_through_18 : decode cX5_through 18 = .ok (.iload_n 1, 1) := by decide +kernel
theorem dX5_through_19 : decode cX5_through 19 = .ok (.if_icmp .gt 12, 3) := by decide +kernel
theorem dX5_through_22 : decode cX5_through 22 = .ok (.aload_n 0, 1) := by decide +kernel
theorem dX5_through_23 : decode cX5_through 23 = .ok (.getfield 42, 3) := by decide +kernel
theorem dX5_through_26 : decode cX5_through 26 = .ok (.iload_n 3, 1) := by decide +kernel
theorem dX5_through_27 : decode cX5_through 27 = .ok (.iaload, 1) := by decide +kernel
theorem dX5_through_28 : decode cX5_through 28 = .ok (.goto 4, 3) := by decide +kernel
theorem dX5_through_31 : decode cX5_through 31 = .ok (.iload_n 2, 1) := by decide +kernel
theorem dX5_through_32 : decode cX5_through 32 = .ok (.istore_n 2, 1) := by decide +kernel
theorem dX5_through_33 : decode cX5_through 33 = .ok (.iinc 3 1, 3) := by decide +kernel
theorem dX5_through_36 : decode cX5_through 36 = .ok (.goto (-32), 3) := by decide +kernel
theorem dX5_through_39 : decode cX5_through 39 = .ok (.iload_n 2, 1) := by decide +kernel
theorem dX5_through_40 : decode cX5_through 40 = .ok (.ireturn, 1) := by decide +kernel
theorem dX5_noise_0 : decode cX5_noise 0 = .ok (.aload_n 0, 1) := by decide +kernel
theorem dX5_noise_1 : decode cX5_noise 1 = .ok (.aload_n 0, 1) := by decide +kernel
theorem dX5_noise_2 : decode cX5_noise 2 = .ok (.iload_n 1, 1) := by decide +kernel
theorem dX5_noise_3 : decode cX5_noise 3 = .ok (.invokevirtual 80, 3) := by decide +kernel
theorem dX5_noise_6 : decode cX5_noise 6 = .ok (.ifCond .eq 7, 3) := by decide +kernel
theorem dX5_noise_9 : decode cX5_noise 9 = .ok (.iconst 0, 1) := by decide +kernel
theorem dX5_noise_10 : decode cX5_noise 10 = .ok (.goto 4, 3) := by decide +kernel
theorem dX5_noise_13 : decode cX5_noise 13 = .ok (.iconst 1, 1) := by decide +kernel
theorem dX5_noise_14 : decode cX5_noise 14 = .ok (.putfield 69, 3) := by decide +kernel
theorem dX5_noise_17 : decode cX5_noise 17 = .ok (.iconst 0, 1) := by decide +kernel
theorem dX5_noise_18 : decode cX5_noise 18 = .ok (.istore_n 2, 1) := by decide +kernel
theorem dX5_noise_19 : decode cX5_noise 19 = .ok (.iload_n 2, 1) := by decide +kernel
theorem dX5_noise_20 : decode cX5_noise 20 = .ok (.aload_n 0, 1) := by decide +kernel
theorem dX5_noise_21 : decode cX5_noise 21 = .ok (.getfield 72, 3) := by decide +kernel
theorem dX5_noise_24 : decode cX5_noise 24 = .ok (.if_icmp .ge 23, 3) := by decide +kernel
theorem dX5_noise_27 : decode cX5_noise 27 = .ok (.aload_n 0, 1) := by decide +kernel
theorem dX5_noise_28 : decode cX5_noise 28 = .ok (.getfield 69, 3) := by decide +kernel
theorem dX5_noise_31 : decode cX5_noise 31 = .ok (.ifCond .ne 16, 3) := by decide +kernel
theorem dX5_noise_34 : decode cX5_noise 34 = .ok (.aload_n 0, 1) := by decide +kernel
theorem dX5_noise_35 : decode cX5_noise 35 = .ok (.getfield 66, 3) := by decide +kernel
theorem dX5_noise_38 : decode cX5_noise 38 = .ok (.iload_n 2, 1) := by decide +kernel
theorem dX5_noise_39 : decode cX5_noise 39 = .ok (.iconst 0, 1) := by decide +kernel
theorem dX5_noise_40 : decode cX5_noise 40 = .ok (.iastore, 1) := by decide +kernel
theorem dX5_noise_41 : decode cX5_noise 41 = .ok (.iinc 2 1, 3) := by decide +kernel
theorem dX5_noise_44 : decode cX5_noise 44 = .ok (.goto (-25), 3) := by decide +kernel
theorem dX5_noise_47 : decode cX5_noise 47 = .ok (.iconst 0, 1) := by decide +kernel
theorem dX5_noise_48 : decode cX5_noise 48 = .ok (.istore_n 2, 1) := by decide +kernel
theorem dX5_noise_49 : decode cX5_noise 49 = .ok (.iload_n 2, 1) := by decide +kernel
theorem dX5_noise_50 : decode cX5_noise 50 = .ok (.aload_n 0, 1) := by decide +kernel
theorem dX5_noise_51 : decode cX5_noise 51 = .ok (.getfield 72, 3) := by decide +kernel
theorem dX5_noise_54 : decode cX5_noise 54 = .ok (.if_icmp .ge 116, 3) := by decide +kernel
theorem dX5_noise_57 : decode cX5_noise 57 = .ok (.aload_n 0, 1) := by decide +kernel
theorem dX5_noise_58 : decode cX5_noise 58 = .ok (.getfield 69, 3) := by decide +kernel
theorem dX5_noise_61 : decode cX5_noise 61 = .ok (.ifCond .ne 109, 3) := by decide +kernel
theorem dX5_noise_64 : decode cX5_noise 64 = .ok (.iconst 0, 1) := by decide +kernel
theorem dX5_noise_65 : decode cX5_noise 65 = .ok (.istore_n 3, 1) := by decide +kernel
theorem dX5_noise_66 : decode cX5_noise 66 = .ok (.iload_n 3, 1) := by decide +kernel
theorem dX5_noise_67 : decode cX5_noise 67 = .ok (.aload_n 0, 1) := by decide +kernel
theorem dX5_noise_68 : decode cX5_noise 68 = .ok (.getfield 72, 3) := by decide +kernel
theorem dX5_noise_71 : decode cX5_noise 71 = .ok (.if_icmp .ge 93, 3) := by decide +kernel
theorem dX5_noise_74 : decode cX5_noise 74 = .ok (.iconst 0, 1) := by decide +kernel
theorem dX5_noise_75 : decode cX5_noise 75 = .ok (.istore 4, 2) := by decide +kernel
theorem dX5_noise_77 : decode cX5_noise 77 = .ok (.iconst 0, 1) := by decide +kernel
theorem dX5_noise_78 : decode cX5_noise 78 = .ok (.istore 5, 2) := by decide +kernel
theorem dX5_noise_80 : decode cX5_noise 80 = .ok (.iload 5, 2) := by decide +kernel
theorem dX5_noise_82 : decode cX5_noise 82 = .ok (.aload_n 0, 1) := by decide +kernel
theorem dX5_noise_83 : decode cX5_noise 83 = .ok (.getfield 90, 3) := by decide +kernel
theorem dX5_noise_86 : decode cX5_noise 86 = .ok (.if_icmp .ge 58, 3) := by decide +kernel
theorem dX5_noise_89 : decode cX5_noise 89 = .ok (.aload_n 0, 1) := by decide +kernel
theorem dX5_noise_90 : decode cX5_noise 90 = .ok (.getfield 29, 3) := by decide +kernel
theorem dX5_noise_93 : decode cX5_noise 93 = .ok (.iload 5, 2) := by decide +kernel
theorem dX5_noise_95 : decode cX5_noise 95 = .ok (.iaload, 1) := by decide +kernel
theorem dX5_noise_96 : decode cX5_noise 96 = .ok (.iload_n 3, 1) := by decide +kernel
theorem dX5_noise_97 : decode cX5_noise 97 = .ok (.if_icmp .ne 22, 3) := by decide +kernel
theorem dX5_noise_100 : decode cX5_noise 100 = .ok (.aload_n 0, 1) := by decide +kernel
theorem dX5_noise_101 : decode cX5_noise 101 = .ok (.aload_n 0, 1) := by decide +kernel
theorem dX5_noise_102 : decode cX5_noise 102 = .ok (.getfield 66, 3) := by decide +kernel
theorem dX5_noise_105 : decode cX5_noise 105 = .ok (.aload_n 0, 1) := by decide +kernel
theorem dX5_noise_106 : decode cX5_noise 106 = .ok (.getfield 26, 3) := by decide +kernel
theorem dX5_noise_109 : decode cX5_noise 109 = .ok (.iload 5, 2) := by decide +kernel
theorem dX5_noise_111 : decode cX5_noise 111 = .ok (.iaload, 1) := by decide +kernel
theorem dX5_noise_112 : decode cX5_noise 112 = .ok (.iaload, 1) := by decide +kernel
theorem dX5_noise_113 : decode cX5_noise 113 = .ok (.invokevirtual 127, 3) := by decide +kernel
theorem dX5_noise_116 : decode cX5_noise 116 = .ok (.goto 4, 3) := by decide +kernel
theorem dX5_noise_119 : decode cX5_noise 119 = .ok (.iconst 0, 1) := by decide +kernel
theorem dX5_noise_120 : decode cX5_noise 120 = .ok (.istore 6, 2) := by decide +kernel
theorem dX5_noise_122 : decode cX5_noise 122 = .ok (.iload 6, 2) := by decide +kernel
theorem dX5_noise_124 : decode cX5_noise 124 = .ok (.iload 4, 2) := by decide +kernel
theorem dX5_noise_126 : decode cX5_noise 126 = .ok (.if_icmp .le 8, 3) := by decide +kernel
theorem dX5_noise_129 : decode cX5_noise 129 = .ok (.iload 6, 2) := by decide +kernel
theorem dX5_noise_131 : decode cX5_noise 131 = .ok (.goto 5, 3) := by decide +kernel
theorem dX5_noise_134 : decode cX5_noise 134 = .ok (.iload 4, 2) := by decide +kernel
theorem dX5_noise_136 : decode cX5_noise 136 = .ok (.istore 4, 2) := by decide +kernel
theorem dX5_noise_138 : decode cX5_noise 138 = .ok (.iinc 5 1, 3) := by decide +kernel
theorem dX5_noise_141 : decode cX5_noise 141 = .ok (.goto (-61), 3) := by decide +kernel
theorem dX5_noise_144 : decode cX5_noise 144 = .ok (.aload_n 0, 1) := by decide +kernel
theorem dX5_noise_145 : decode cX5_noise 145 = .ok (.getfield 66, 3) := by decide +kernel
theorem dX5_noise_148 : decode cX5_noise 148 = .ok (.iload_n 3, 1) := by decide +kernel
theorem dX5_noise_149 : decode cX5_noise 149 = .ok (.aload_n 0, 1) := by decide +kernel
theorem dX5_noise_150 : decode cX5_noise 150 = .ok (.iload_n 3, 1) := by decide +kernel
theorem dX5_noise_151 : decode cX5_noise 151 = .ok (.invokevirtual 123, 3) := by decide +kernel
theorem dX5_noise_154 : decode cX5_noise 154 = .ok (.iload 4, 2) := by decide +kernel
theorem dX5_noise_156 : decode cX5_noise 156 = .ok (.iadd, 1) := by decide +kernel
theorem dX5_noise_157 : decode cX5_noise 157 = .ok (.iastore, 1) := by decide +kernel
theorem dX5_noise_158 : decode cX5_noise 158 = .ok (.iinc 3 1, 3) := by decide +kernel
theorem dX5_noise_161 : decode cX5_noise 161 = .ok (.goto (-95), 3) := by decide +kernel
theorem dX5_noise_164 : decode cX5_noise 164 = .ok (.iinc 2 1, 3) := by decide +kernel
theorem dX5_noise_167 : decode cX5_noise 167 = .ok (.goto (-118), 3) := by decide +kernel
theorem dX5_noise_170 : decode cX5_noise 170 = .ok (.aload_n 0, 1) := by decide +kernel
theorem dX5_noise_171 : decode cX5_noise 171 = .ok (.getfield 69, 3) := by decide +kernel
theorem dX5_noise_174 : decode cX5_noise 174 = .ok (.ifCond .le 7, 3) := by decide +kernel
theorem dX5_noise_177 : decode cX5_noise 177 = .ok (.iconst 0, 1) := by decide +kernel
theorem dX5_noise_178 : decode cX5_noise 178 = .ok (.goto 9, 3) := by decide +kernel
theorem dX5_noise_181 : decode cX5_noise 181 = .ok (.aload_n 0, 1) := by decide +kernel
theorem dX5_noise_182 : decode cX5_noise 182 = .ok (.getfield 66, 3) := by decide +kernel
theorem dX5_noise_185 : decode cX5_noise 185 = .ok (.iload_n 1, 1) := by decide +kernel
theorem dX5_noise_186 : decode cX5_noise 186 = .ok (.iaload, 1) := by decide +kernel
theorem dX5_noise_187 : decode cX5_noise 187 = .ok (.ireturn, 1) := by decide +kernel
theorem dX5_count_0 : decode cX5_count 0 = .ok (.aload_n 0, 1) := by decide +kernel
theorem dX5_count_1 : decode cX5_count 1 = .ok (.iload_n 1, 1) := by decide +kernel
theorem dX5_count_2 : decode cX5_count 2 = .ok (.iconst 0, 1) := by decide +kernel
theorem dX5_count_3 : decode cX5_count 3 = .ok (.iconst 4, 1) := by decide +kernel
theorem dX5_count_4 : decode cX5_count 4 = .ok (.invokestatic 76, 3) := by decide +kernel
theorem dX5_count_7 : decode cX5_count 7 = .ok (.ifCond .eq 7, 3) := by decide +kernel
theorem dX5_count_10 : decode cX5_count 10 = .ok (.iconst 0, 1) := by decide +kernel
theorem dX5_count_11 : decode cX5_count 11 = .ok (.goto 4, 3) := by decide +kernel
theorem dX5_count_14 : decode cX5_count 14 = .ok (.iconst 1, 1) := by decide +kernel
theorem dX5_count_15 : decode cX5_count 15 = .ok (.putfield 69, 3) := by decide +kernel
theorem dX5_count_18 : decode cX5_count 18 = .ok (.aload_n 0, 1) := by decide +kernel
theorem dX5_count_19 : decode cX5_count 19 = .ok (.getfield 69, 3) := by decide +kernel
theorem dX5_count_22 : decode cX5_count 22 = .ok (.ifCond .le 5, 3) := by decide +kernel
theorem dX5_count_25 : decode cX5_count 25 = .ok (.iconst 0, 1) := by decide +kernel
theorem dX5_count_26 : decode cX5_count 26 = .ok (.ireturn, 1) := by decide +kernel
theorem dX5_count_27 : decode cX5_count 27 = .ok (.iload_n 1, 1) := by decide +kernel
theorem dX5_count_28 : decode cX5_count 28 = .ok (.ifCond .ne 10, 3) := by decide +kernel
theorem dX5_count_31 : decode cX5_count 31 = .ok (.aload_n 0, 1) := by decide +kernel
theorem dX5_count_32 : decode cX5_count 32 = .ok (.getfield 72, 3) := by decide +kernel
theorem dX5_count_35 : decode cX5_count 35 = .ok (.goto 43, 3) := by decide +kernel
theorem dX5_count_38 : decode cX5_count 38 = .ok (.iload_n 1, 1) := by decide +kernel
theorem dX5_count_39 : decode cX5_count 39 = .ok (.iconst 1, 1) := by decide +kernel
theorem dX5_count_40 : decode cX5_count 40 = .ok (.if_icmp .ne 10, 3) := by decide +kernel
theorem dX5_count_43 : decode cX5_count 43 = .ok (.aload_n 0, 1) := by decide +kernel
theorem dX5_count_44 : decode cX5_count 44 = .ok (.getfield 84, 3) := by decide +kernel
theorem dX5_count_47 : decode cX5_count 47 = .ok (.goto 31, 3) := by decide +kernel
theorem dX5_count_50 : decode cX5_count 50 = .ok (.iload_n 1, 1) := by decide +kernel
theorem dX5_count_51 : decode cX5_count 51 = .ok (.iconst 2, 1) := by decide +kernel
theorem dX5_count_52 : decode cX5_count 52 = .ok (.if_icmp .ne 10, 3) := by decide +kernel
theorem dX5_count_55 : decode cX5_count 55 = .ok (.aload_n 0, 1) := by decide +kernel
theorem dX5_count_56 : decode cX5_count 56 = .ok (.getfield 87, 3) := by decide +kernel
theorem dX5_count_59 : decode cX5_count 59 = .ok (.goto 19, 3) := by decide +kernel
theorem dX5_count_62 : decode cX5_count 62 = .ok (.iload_n 1, 1) := by decide +kernel
theorem dX5_count_63 : decode cX5_count 63 = .ok (.iconst 3, 1) := by decide +kernel
theorem dX5_count_64 : decode cX5_count 64 = .ok (.if_icmp .ne 10, 3) := by decide +kernel
theorem dX5_count_67 : decode cX5_count 67 = .ok (.aload_n 0, 1) := by decide +kernel
theorem dX5_count_68 : decode cX5_count 68 = .ok (.getfield 90, 3) := by decide +kernel
theorem dX5_count_71 : decode cX5_count 71 = .ok (.goto 7, 3) := by decide +kernel
theorem dX5_count_74 : decode cX5_count 74 = .ok (.aload_n 0, 1) := by decide +kernel
theorem dX5_count_75 : decode cX5_count 75 = .ok (.getfield 98, 3) := by decide +kernel
theorem dX5_count_78 : decode cX5_count 78 = .ok (.ireturn, 1) := by decide +kernel
theorem dX5_clear_0 : decode cX5_clear 0 = .ok (.aload_n 0, 1) := by decide +kernel
theorem dX5_clear_1 : decode cX5_clear 1 = .ok (.iconst 0, 1) := by decide +kernel
theorem dX5_clear_2 : decode cX5_clear 2 = .ok (.putfield 69, 3) := by decide +kernel
theorem dX5_clear_5 : decode cX5_clear 5 = .ok (.aload_n 0, 1) := by decide +kernel
theorem dX5_clear_6 : decode cX5_clear 6 = .ok (.iconst 0, 1) := by decide +kernel
theorem dX5_clear_7 : decode cX5_clear 7 = .ok (.putfield 72, 3) := by decide +kernel
theorem dX5_clear_10 : decode cX5_clear 10 = .ok (.aload_n 0, 1) := by decide +kernel
theorem dX5_clear_11 : decode cX5_clear 11 = .ok (.iconst 0, 1) := by decide +kernel
theorem dX5_clear_12 : decode cX5_clear 12 = .ok (.putfield 84, 3) := by decide +kernel
theorem dX5_clear_15 : decode cX5_clear 15 = .ok (.aload_n 0, 1) := by decide +kernel
theorem dX5_clear_16 : decode cX5_clear 16 = .ok (.iconst 0, 1) := by decide +kernel
theorem dX5_clear_17 : decode cX5_clear 17 = .ok (.putfield 87, 3) := by decide +kernel
theorem dX5_clear_20 : decode cX5_clear 20 = .ok (.aload_n 0, 1) := by decide +kernel
theorem dX5_clear_21 : decode cX5_clear 21 = .ok (.iconst 0, 1) := by decide +kernel
theorem dX5_clear_22 : decode cX5_clear 22 = .ok (.putfield 90, 3) := by decide +kernel
theorem dX5_clear_25 : decode cX5_clear 25 = .ok (.aload_n 0, 1) := by decide +kernel
theorem dX5_clear_26 : decode cX5_clear 26 = .ok (.iconst 4, 1) := by decide +kernel
theorem dX5_clear_27 : decode cX5_clear 27 = .ok (.putfield 35, 3) := by decide +kernel
theorem dX5_clear_30 : decode cX5_clear 30 = .ok (.aload_n 0, 1) := by decide +kernel
theorem dX5_clear_31 : decode cX5_clear 31 = .ok (.iconst 0, 1) := by decide +kernel
theorem dX5_clear_32 : decode cX5_clear 32 = .ok (.putfield 98, 3) := by decide +kernel
theorem dX5_clear_35 : decode cX5_clear 35 = .ok (.aload_n 0, 1) := by decide +kernel
theorem dX5_clear_36 : decode cX5_clear 36 = .ok (.iconst 0, 1) := by decide +kernel
theorem dX5_clear_37 : decode cX5_clear 37 = .ok (.putfield 120, 3) := by decide +kernel
theorem dX5_clear_40 : decode cX5_clear 40 = .ok (.aload_n 0, 1) := by decide +kernel
theorem dX5_clear_41 : decode cX5_clear 41 = .ok (.iconst 0, 1) := by decide +kernel
theorem dX5_clear_42 : decode cX5_clear 42 = .ok (.putfield 114, 3) := by decide +kernel
theorem dX5_clear_45 : decode cX5_clear 45 = .ok (.iconst 0, 1) := by decide +kernel
theorem dX5_clear_46 : decode cX5_clear 46 = .ok (.istore_n 1, 1) := by decide +kernel
theorem dX5_clear_47 : decode cX5_clear 47 = .ok (.iload_n 1, 1) := by decide +kernel
theorem dX5_clear_48 : decode cX5_clear 48 = .ok (.sipush 1600, 3) := by decide +kernel
theorem dX5_clear_51 : decode cX5_clear 51 = .ok (.if_icmp .ge 23, 3) := by decide +kernel
theorem dX5_clear_54 : decode cX5_clear 54 = .ok (.aload_n 0, 1) := by decide +kernel
theorem dX5_clear_55 : decode cX5_clear 55 = .ok (.getfield 19, 3) := by decide +kernel
theorem dX5_clear_58 : decode cX5_clear 58 = .ok (.iload_n 1, 1) := by decide +kernel
theorem dX5_clear_59 : decode cX5_clear 59 = .ok (.iconst 0, 1) := by decide +kernel
theorem dX5_clear_60 : decode cX5_clear 60 = .ok (.iastore, 1) := by decide +kernel
theorem dX5_clear_61 : decode cX5_clear 61 = .ok (.aload_n 0, 1) := by decide +kernel
theorem dX5_clear_62 : decode cX5_clear 62 = .ok (.getfield 22, 3) := by decide +kernel
theorem dX5_clear_65 : decode cX5_clear 65 = .ok (.iload_n 1, 1) := by decide +kernel
theorem dX5_clear_66 : decode cX5_clear 66 = .ok (.iconst 0, 1) := by decide +kernel
theorem dX5_clear_67 : decode cX5_clear 67 = .ok (.bastore, 1) := by decide +kernel
theorem dX5_clear_68 : decode cX5_clear 68 = .ok (.iinc 1 1, 3) := by decide +kernel
theorem dX5_clear_71 : decode cX5_clear 71 = .ok (.goto (-24), 3) := by decide +kernel
theorem dX5_clear_74 : decode cX5_clear 74 = .ok (.return_, 1) := by decide +kernel
