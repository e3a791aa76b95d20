theorem dX8_perform_0 : decode cX8_perform 0 = .ok (.aload_n 0, 1) := by decide +kernel
theorem dX8_perform_1 : decode cX8_perform 1 = .ok (.iload_n 1, 1) := by decide +kernel
theorem dX8_perform_2 : decode cX8_perform 2 = .ok (.invokevirtual 179, 3) := by decide +kernel
theorem dX8_perform_5 : decode cX8_perform 5 = .ok (.istore_n 2, 1) := by decide +kernel
theorem dX8_perform_6 : decode cX8_perform 6 = .ok (.iload_n 1, 1) := by decide +kernel
theorem dX8_perform_7 : decode cX8_perform 7 = .ok (.bipush 14, 2) := by decide +kernel
theorem dX8_perform_9 : decode cX8_perform 9 = .ok (.if_icmp .ne 46, 3) := by decide +kernel
theorem dX8_perform_12 : decode cX8_perform 12 = .ok (.aload_n 0, 1) := by decide +kernel
theorem dX8_perform_13 : decode cX8_perform 13 = .ok (.getfield 25, 3) := by decide +kernel
theorem dX8_perform_16 : decode cX8_perform 16 = .ok (.aload_n 0, 1) := by decide +kernel
theorem dX8_perform_17 : decode cX8_perform 17 = .ok (.iconst 1, 1) := by decide +kernel
theorem dX8_perform_18 : decode cX8_perform 18 = .ok (.invokevirtual 153, 3) := by decide +kernel
theorem dX8_perform_21 : decode cX8_perform 21 = .ok (.aload_n 0, 1) := by decide +kernel
theorem dX8_perform_22 : decode cX8_perform 22 = .ok (.iconst 0, 1) := by decide +kernel
theorem dX8_perform_23 : decode cX8_perform 23 = .ok (.invokevirtual 150, 3) := by decide +kernel
theorem dX8_perform_26 : decode cX8_perform 26 = .ok (.iastore, 1) := by decide +kernel
theorem dX8_perform_27 : decode cX8_perform 27 = .ok (.aload_n 0, 1) := by decide +kernel
theorem dX8_perform_28 : decode cX8_perform 28 = .ok (.getfield 28, 3) := by decide +kernel
theorem dX8_perform_31 : decode cX8_perform 31 = .ok (.aload_n 0, 1) := by decide +kernel
theorem dX8_perform_32 : decode cX8_perform 32 = .ok (.iconst 1, 1) := by decide +kernel
theorem dX8_perform_33 : decode cX8_perform 33 = .ok (.invokevirtual 153, 3) := by decide +kernel
theorem dX8_perform_36 : decode cX8_perform 36 = .ok (.aload_n 0, 1) := by decide +kernel
theorem dX8_perform_37 : decode cX8_perform 37 = .ok (.iconst 0, 1) := by decide +kernel
theorem dX8_perform_38 : decode cX8_perform 38 = .ok (.invokevirtual 153, 3) := by decide +kernel
theorem dX8_perform_41 : decode cX8_perform 41 = .ok (.iastore, 1) := by decide +kernel
theorem dX8_perform_42 : decode cX8_perform 42 = .ok (.aload_n 0, 1) := by decide +kernel
theorem dX8_perform_43 : decode cX8_perform 43 = .ok (.aload_n 0, 1) := by decide +kernel
theorem dX8_perform_44 : decode cX8_perform 44 = .ok (.getfield 96, 3) := by decide +kernel
theorem dX8_perform_47 : decode cX8_perform 47 = .ok (.iconst 2, 1) := by decide +kernel
theorem dX8_perform_48 : decode cX8_perform 48 = .ok (.isub, 1) := by decide +kernel
theorem dX8_perform_49 : decode cX8_perform 49 = .ok (.putfield 96, 3) := by decide +kernel
theorem dX8_perform_52 : decode cX8_perform 52 = .ok (.goto 95, 3) := by decide +kernel
theorem dX8_perform_55 : decode cX8_perform 55 = .ok (.iload_n 1, 1) := by decide +kernel
theorem dX8_perform_56 : decode cX8_perform 56 = .ok (.bipush 15, 2) := by decide +kernel
theorem dX8_perform_58 : decode cX8_perform 58 = .ok (.if_icmp .eq 22, 3) := by decide +kernel
theorem dX8_perform_61 : decode cX8_perform 61 = .ok (.iload_n 1, 1) := by decide +kernel
theorem dX8_perform_62 : decode cX8_perform 62 = .ok (.bipush 16, 2) := by decide +kernel
theorem dX8_perform_64 : decode cX8_perform 64 = .ok (.if_icmp .ne 51, 3) := by decide +kernel
theorem dX8_perform_67 : decode cX8_perform 67 = .ok (.iload_n 2, 1) := by decide +kernel
theorem dX8_perform_68 : decode cX8_perform 68 = .ok (.ifCond .ge 47, 3) := by decide +kernel
theorem dX8_perform_71 : decode cX8_perform 71 = .ok (.aload_n 0, 1) := by decide +kernel
theorem dX8_perform_72 : decode cX8_perform 72 = .ok (.iconst 0, 1) := by decide +kernel
theorem dX8_perform_73 : decode cX8_perform 73 = .ok (.invokevirtual 150, 3) := by decide +kernel
theorem dX8_perform_76 : decode cX8_perform 76 = .ok (.iconst 2, 1) := by decide +kernel
theorem dX8_perform_77 : decode cX8_perform 77 = .ok (.if_icmp .ne 38, 3) := by decide +kernel
theorem dX8_perform_80 : decode cX8_perform 80 = .ok (.aload_n 0, 1) := by decide +kernel
theorem dX8_perform_81 : decode cX8_perform 81 = .ok (.iconst 0, 1) := by decide +kernel
theorem dX8_perform_82 : decode cX8_perform 82 = .ok (.invokevirtual 153, 3) := by decide +kernel
theorem dX8_perform_85 : decode cX8_perform 85 = .ok (.istore_n 3, 1) := by decide +kernel
theorem dX8_perform_86 : decode cX8_perform 86 = .ok (.aload_n 0, 1) := by decide +kernel
theorem dX8_perform_87 : decode cX8_perform 87 = .ok (.dup, 1) := by decide +kernel
theorem dX8_perform_88 : decode cX8_perform 88 = .ok (.getfield 96, 3) := by decide +kernel
theorem dX8_perform_91 : decode cX8_perform 91 = .ok (.iconst 1, 1) := by decide +kernel
theorem dX8_perform_92 : decode cX8_perform 92 = .ok (.isub, 1) := by decide +kernel
theorem dX8_perform_93 : decode cX8_perform 93 = .ok (.putfield 96, 3) := by decide +kernel
theorem dX8_perform_96 : decode cX8_perform 96 = .ok (.aload_n 0, 1) := by decide +kernel
theorem dX8_perform_97 : decode cX8_perform 97 = .ok (.aload_n 0, 1) := by decide +kernel
theorem dX8_perform_98 : decode cX8_perform 98 = .ok (.getfield 25, 3) := by decide +kernel
theorem dX8_perform_101 : decode cX8_perform 101 = .ok (.iload_n 3, 1) := by decide +kernel
theorem dX8_perform_102 : decode cX8_perform 102 = .ok (.iaload, 1) := by decide +kernel
theorem dX8_perform_103 : decode cX8_perform 103 = .ok (.aload_n 0, 1) := by decide +kernel
theorem dX8_perform_104 : decode cX8_perform 104 = .ok (.getfield 28, 3) := by decide +kernel
theorem dX8_perform_107 : decode cX8_perform 107 = .ok (.iload_n 3, 1) := by decide +kernel
theorem dX8_perform_108 : decode cX8_perform 108 = .ok (.iaload, 1) := by decide +kernel
theorem dX8_perform_109 : decode cX8_perform 109 = .ok (.invokevirtual 99, 3) := by decide +kernel
theorem dX8_perform_112 : decode cX8_perform 112 = .ok (.goto 35, 3) := by decide +kernel
theorem dX8_perform_115 : decode cX8_perform 115 = .ok (.iload_n 1, 1) := by decide +kernel
theorem dX8_perform_116 : decode cX8_perform 116 = .ok (.bipush 16, 2) := by decide +kernel
theorem dX8_perform_118 : decode cX8_perform 118 = .ok (.if_icmp .ne 7, 3) := by decide +kernel
theorem dX8_perform_121 : decode cX8_perform 121 = .ok (.iload_n 2, 1) := by decide +kernel
theorem dX8_perform_122 : decode cX8_perform 122 = .ok (.ifCond .lt 25, 3) := by decide +kernel
theorem dX8_perform_125 : decode cX8_perform 125 = .ok (.aload_n 0, 1) := by decide +kernel
theorem dX8_perform_126 : decode cX8_perform 126 = .ok (.aload_n 0, 1) := by decide +kernel
theorem dX8_perform_127 : decode cX8_perform 127 = .ok (.getfield 96, 3) := by decide +kernel
theorem dX8_perform_130 : decode cX8_perform 130 = .ok (.iload_n 1, 1) := by decide +kernel
theorem dX8_perform_131 : decode cX8_perform 131 = .ok (.bipush 15, 2) := by decide +kernel
theorem dX8_perform_133 : decode cX8_perform 133 = .ok (.isub, 1) := by decide +kernel
theorem dX8_perform_134 : decode cX8_perform 134 = .ok (.isub, 1) := by decide +kernel
theorem dX8_perform_135 : decode cX8_perform 135 = .ok (.putfield 96, 3) := by decide +kernel
theorem dX8_perform_138 : decode cX8_perform 138 = .ok (.iload_n 2, 1) := by decide +kernel
theorem dX8_perform_139 : decode cX8_perform 139 = .ok (.ifCond .lt 8, 3) := by decide +kernel
theorem dX8_perform_142 : decode cX8_perform 142 = .ok (.aload_n 0, 1) := by decide +kernel
theorem dX8_perform_143 : decode cX8_perform 143 = .ok (.iload_n 2, 1) := by decide +kernel
theorem dX8_perform_144 : decode cX8_perform 144 = .ok (.invokevirtual 200, 3) := by decide +kernel
theorem dX8_perform_147 : decode cX8_perform 147 = .ok (.return_, 1) := by decide +kernel
theorem dX8_loopOf_0 : decode cX8_loopOf 0 = .ok (.aload_n 0, 1) := by decide +kernel
theorem dX8_loopOf_1 : decode cX8_loopOf 1 = .ok (.iconst 0, 1) := by decide +kernel
theorem dX8_loopOf_2 : decode cX8_loopOf 2 = .ok (.invokevirtual 153, 3) := by decide +kernel
theorem dX8_loopOf_5 : decode cX8_loopOf 5 = .ok (.istore_n 2, 1) := by decide +kernel
theorem dX8_loopOf_6 : decode cX8_loopOf 6 = .ok (.aload_n 0, 1) := by decide +kernel
theorem dX8_loopOf_7 : decode cX8_loopOf 7 = .ok (.iload_n 1, 1) := by decide +kernel
theorem dX8_loopOf_8 : decode cX8_loopOf 8 = .ok (.bipush 19, 2) := by decide +kernel
theorem dX8_loopOf_10 : decode cX8_loopOf 10 = .ok (.if_icmp .ne 7, 3) := by decide +kernel
theorem dX8_loopOf_13 : decode cX8_loopOf 13 = .ok (.iconst 1, 1) := by decide +kernel
theorem dX8_loopOf_14 : decode cX8_loopOf 14 = .ok (.goto 14, 3) := by decide +kernel
theorem dX8_loopOf_17 : decode cX8_loopOf 17 = .ok (.iload_n 1, 1) := by decide +kernel
theorem dX8_loopOf_18 : decode cX8_loopOf 18 = .ok (.bipush 20, 2) := by decide +kernel
theorem dX8_loopOf_20 : decode cX8_loopOf 20 = .ok (.if_icmp .ne 7, 3) := by decide +kernel
theorem dX8_loopOf_23 : decode cX8_loopOf 23 = .ok (.iconst 2, 1) := by decide +kernel
theorem dX8_loopOf_24 : decode cX8_loopOf 24 = .ok (.goto 4, 3) := by decide +kernel
theorem dX8_loopOf_27 : decode cX8_loopOf 27 = .ok (.iconst 3, 1) := by decide +kernel
theorem dX8_loopOf_28 : decode cX8_loopOf 28 = .ok (.iload_n 2, 1) := by decide +kernel
theorem dX8_loopOf_29 : decode cX8_loopOf 29 = .ok (.invokevirtual 113, 3) := by decide +kernel
theorem dX8_loopOf_32 : decode cX8_loopOf 32 = .ok (.aload_n 0, 1) := by decide +kernel
theorem dX8_loopOf_33 : decode cX8_loopOf 33 = .ok (.getfield 103, 3) := by decide +kernel
theorem dX8_loopOf_36 : decode cX8_loopOf 36 = .ok (.iconst 1, 1) := by decide +kernel
theorem dX8_loopOf_37 : decode cX8_loopOf 37 = .ok (.isub, 1) := by decide +kernel
theorem dX8_loopOf_38 : decode cX8_loopOf 38 = .ok (.istore_n 3, 1) := by decide +kernel
theorem dX8_loopOf_39 : decode cX8_loopOf 39 = .ok (.iload_n 1, 1) := by decide +kernel
theorem dX8_loopOf_40 : decode cX8_loopOf 40 = .ok (.bipush 19, 2) := by decide +kernel
theorem dX8_loopOf_42 : decode cX8_loopOf 42 = .ok (.if_icmp .ne 28, 3) := by decide +kernel
theorem dX8_loopOf_45 : decode cX8_loopOf 45 = .ok (.aload_n 0, 1) := by decide +kernel
theorem dX8_loopOf_46 : decode cX8_loopOf 46 = .ok (.getfield 49, 3) := by decide +kernel
theorem dX8_loopOf_49 : decode cX8_loopOf 49 = .ok (.iload_n 3, 1) := by decide +kernel
theorem dX8_loopOf_50 : decode cX8_loopOf 50 = .ok (.aload_n 0, 1) := by decide +kernel
theorem dX8_loopOf_51 : decode cX8_loopOf 51 = .ok (.iconst 1, 1) := by decide +kernel
theorem dX8_loopOf_52 : decode cX8_loopOf 52 = .ok (.invokevirtual 153, 3) := by decide +kernel
theorem dX8_loopOf_55 : decode cX8_loopOf 55 = .ok (.i2l, 1) := by decide +kernel
theorem dX8_loopOf_56 : decode cX8_loopOf 56 = .ok (.lastore, 1) := by decide +kernel
theorem dX8_loopOf_57 : decode cX8_loopOf 57 = .ok (.aload_n 0, 1) := by decide +kernel
theorem dX8_loopOf_58 : decode cX8_loopOf 58 = .ok (.aload_n 0, 1) := by decide +kernel
theorem dX8_loopOf_59 : decode cX8_loopOf 59 = .ok (.getfield 96, 3) := by decide +kernel
theorem dX8_loopOf_62 : decode cX8_loopOf 62 = .ok (.iconst 2, 1) := by decide +kernel
theorem dX8_loopOf_63 : decode cX8_loopOf 63 = .ok (.isub, 1) := by decide +kernel
theorem dX8_loopOf_64 : decode cX8_loopOf 64 = .ok (.putfield 96, 3) := by decide +kernel
theorem dX8_loopOf_67 : decode cX8_loopOf 67 = .ok (.goto 73, 3) := by decide +kernel
theorem dX8_loopOf_70 : decode cX8_loopOf 70 = .ok (.iload_n 1, 1) := by decide +kernel
theorem dX8_loopOf_71 : decode cX8_loopOf 71 = .ok (.bipush 20, 2) := by decide +kernel
theorem dX8_loopOf_73 : decode cX8_loopOf 73 = .ok (.if_icmp .ne 50, 3) := by decide +kernel
theorem dX8_loopOf_76 : decode cX8_loopOf 76 = .ok (.aload_n 0, 1) := by decide +kernel
theorem dX8_loopOf_77 : decode cX8_loopOf 77 = .ok (.getfield 49, 3) := by decide +kernel
theorem dX8_loopOf_80 : decode cX8_loopOf 80 = .ok (.iload_n 3, 1) := by decide +kernel
theorem dX8_loopOf_81 : decode cX8_loopOf 81 = .ok (.aload_n 0, 1) := by decide +kernel
theorem dX8_loopOf_82 : decode cX8_loopOf 82 = .ok (.iconst 3, 1) := by decide +kernel
theorem dX8_loopOf_83 : decode cX8_loopOf 83 = .ok (.invokevirtual 153, 3) := by decide +kernel
theorem dX8_loopOf_86 : decode cX8_loopOf 86 = .ok (.i2l, 1) := by decide +kernel
theorem dX8_loopOf_87 : decode cX8_loopOf 87 = .ok (.lastore, 1) := by decide +kernel
theorem dX8_loopOf_88 : decode cX8_loopOf 88 = .ok (.aload_n 0, 1) := by decide +kernel
theorem dX8_loopOf_89 : decode cX8_loopOf 89 = .ok (.getfield 53, 3) := by decide +kernel
theorem dX8_loopOf_92 : decode cX8_loopOf 92 = .ok (.iload_n 3, 1) := by decide +kernel
theorem dX8_loopOf_93 : decode cX8_loopOf 93 = .ok (.aload_n 0, 1) := by decide +kernel
theorem dX8_loopOf_94 : decode cX8_loopOf 94 = .ok (.iconst 2, 1) := by decide +kernel
theorem dX8_loopOf_95 : decode cX8_loopOf 95 = .ok (.invokevirtual 153, 3) := by decide +kernel
theorem dX8_loopOf_98 : decode cX8_loopOf 98 = .ok (.iastore, 1) := by decide +kernel
theorem dX8_loopOf_99 : decode cX8_loopOf 99 = .ok (.aload_n 0, 1) := by decide +kernel
theorem dX8_loopOf_100 : decode cX8_loopOf 100 = .ok (.getfield 56, 3) := by decide +kernel
theorem dX8_loopOf_103 : decode cX8_loopOf 103 = .ok (.iload_n 3, 1) := by decide +kernel
theorem dX8_loopOf_104 : decode cX8_loopOf 104 = .ok (.aload_n 0, 1) := by decide +kernel
theorem dX8_loopOf_105 : decode cX8_loopOf 105 = .ok (.iconst 1, 1) := by decide +kernel
theorem dX8_loopOf_106 : decode cX8_loopOf 106 = .ok (.invokevirtual 153, 3) := by decide +kernel
theorem dX8_loopOf_109 : decode cX8_loopOf 109 = .ok (.iastore, 1) := by decide +kernel
theorem dX8_loopOf_110 : decode cX8_loopOf 110 = .ok (.aload_n 0, 1) := by decide +kernel
theorem dX8_loopOf_111 : decode cX8_loopOf 111 = .ok (.aload_n 0, 1) := by decide +kernel
theorem dX8_loopOf_112 : decode cX8_loopOf 112 = .ok (.getfield 96, 3) := by decide +kernel
theorem dX8_loopOf_115 : decode cX8_loopOf 115 = .ok (.iconst 4, 1) := by decide +kernel
theorem dX8_loopOf_116 : decode cX8_loopOf 116 = .ok (.isub, 1) := by decide +kernel
theorem dX8_loopOf_117 : decode cX8_loopOf 117 = .ok (.putfield 96, 3) := by decide +kernel
theorem dX8_loopOf_120 : decode cX8_loopOf 120 = .ok (.goto 20, 3) := by decide +kernel
theorem dX8_loopOf_123 : decode cX8_loopOf 123 = .ok (.aload_n 0, 1) := by decide +kernel
theorem dX8_loopOf_124 : decode cX8_loopOf 124 = .ok (.getfield 49, 3) := by decide +kernel
theorem dX8_loopOf_127 : decode cX8_loopOf 127 = .ok (.iload_n 3, 1) := by decide +kernel
theorem dX8_loopOf_128 : decode cX8_loopOf 128 = .ok (.lconst 0, 1) := by decide +kernel
theorem dX8_loopOf_129 : decode cX8_loopOf 129 = .ok (.lastore, 1) := by decide +kernel
theorem dX8_loopOf_130 : decode cX8_loopOf 130 = .ok (.aload_n 0, 1) := by decide +kernel
theorem dX8_loopOf_131 : decode cX8_loopOf 131 = .ok (.dup, 1) := by decide +kernel
theorem dX8_loopOf_132 : decode cX8_loopOf 132 = .ok (.getfield 96, 3) := by decide +kernel
theorem dX8_loopOf_135 : decode cX8_loopOf 135 = .ok (.iconst 1, 1) := by decide +kernel
theorem dX8_loopOf_136 : decode cX8_loopOf 136 = .ok (.isub, 1) := by decide +kernel
theorem dX8_loopOf_137 : decode cX8_loopOf 137 = .ok (.putfield 96, 3) := by decide +kernel
theorem dX8_loopOf_140 : decode cX8_loopOf 140 = .ok (.return_, 1) := by decide +kernel
theorem dX8_number0_0 : decode cX8_number0 0 = .ok (.aload_n 0, 1) := by decide +kernel
theorem dX8_number0_1 : decode cX8_number0 1 = .ok (.getfield 96, 3) := by decide +kernel
theorem dX8_number0_4 : decode cX8_number0 4 = .ok (.ifCond .le 11, 3) := by decide +kernel
theorem dX8_number0_7 : decode cX8_number0 7 = .ok (.aload_n 0, 1) := by decide +kernel
theorem dX8_number0_8 : decode cX8_number0 8 = .ok (.iconst 0, 1) := by decide +kernel
theorem dX8_number0_9 : decode cX8_number0 9 = .ok (.invokevirtual 153, 3) := by decide +kernel
theorem dX8_number0_12 : decode cX8_number0 12 = .ok (.goto 4, 3) := by decide +kernel
theorem dX8_number0_15 : decode cX8_number0 15 = .ok (.iconst 0, 1) := by decide +kernel
theorem dX8_number0_16 : decode cX8_number0 16 = .ok (.ireturn, 1) := by decide +kernel
theorem dX8_told_0 : decode cX8_told 0 = .ok (.iload_n 1, 1) := by decide +kernel
theorem dX8_told_1 : decode cX8_told 1 = .ok (.ifCond .ne 10, 3) := by decide +kernel
theorem dX8_told_4 : decode cX8_told 4 = .ok (.aload_n 0, 1) := by decide +kernel
theorem dX8_told_5 : decode cX8_told 5 = .ok (.getfield 66, 3) := by decide +kernel
theorem dX8_told_8 : decode cX8_told 8 = .ok (.goto 63, 3) := by decide +kernel
theorem dX8_told_11 : decode cX8_told 11 = .ok (.iload_n 1, 1) := by decide +kernel
theorem dX8_told_12 : decode cX8_told 12 = .ok (.iconst 1, 1) := by decide +kernel
theorem dX8_told_13 : decode cX8_told 13 = .ok (.if_icmp .ne 10, 3) := by decide +kernel
theorem dX8_told_16 : decode cX8_told 16 = .ok (.aload_n 0, 1) := by decide +kernel
theorem dX8_told_17 : decode cX8_told 17 = .ok (.getfield 69, 3) := by decide +kernel
theorem dX8_told_20 : decode cX8_told 20 = .ok (.goto 51, 3) := by decide +kernel
theorem dX8_told_23 : decode cX8_told 23 = .ok (.iload_n 1, 1) := by decide +kernel
theorem dX8_told_24 : decode cX8_told 24 = .ok (.iconst 2, 1) := by decide +kernel
theorem dX8_told_25 : decode cX8_told 25 = .ok (.if_icmp .ne 18, 3) := by decide +kernel
theorem dX8_told_28 : decode cX8_told 28 = .ok (.aload_n 0, 1) := by decide +kernel
theorem dX8_told_29 : decode cX8_told 29 = .ok (.getfield 72, 3) := by decide +kernel
theorem dX8_told_32 : decode cX8_told 32 = .ok (.ifCond .eq 7, 3) := by decide +kernel
theorem dX8_told_35 : decode cX8_told 35 = .ok (.iconst 1, 1) := by decide +kernel
theorem dX8_told_36 : decode cX8_told 36 = .ok (.goto 35, 3) := by decide +kernel
theorem dX8_told_39 : decode cX8_told 39 = .ok (.iconst 0, 1) := by decide +kernel
theorem dX8_told_40 : decode cX8_told 40 = .ok (.goto 31, 3) := by decide +kernel
theorem dX8_told_43 : decode cX8_told 43 = .ok (.iload_n 1, 1) := by decide +kernel
theorem dX8_told_44 : decode cX8_told 44 = .ok (.iconst 3, 1) := by decide +kernel
theorem dX8_told_45 : decode cX8_told 45 = .ok (.if_icmp .ne 10, 3) := by decide +kernel
theorem dX8_told_48 : decode cX8_told 48 = .ok (.aload_n 0, 1) := by decide +kernel
theorem dX8_told_49 : decode cX8_told 49 = .ok (.getfield 76, 3) := by decide +kernel
theorem dX8_told_52 : decode cX8_told 52 = .ok (.goto 19, 3) := by decide +kernel
theorem dX8_told_55 : decode cX8_told 55 = .ok (.iload_n 1, 1) := by decide +kernel
theorem dX8_told_56 : decode cX8_told 56 = .ok (.iconst 4, 1) := by decide +kernel
theorem dX8_told_57 : decode cX8_told 57 = .ok (.if_icmp .ne 10, 3) := by decide +kernel
theorem dX8_told_60 : decode cX8_told 60 = .ok (.aload_n 0, 1) := by decide +kernel
theorem dX8_told_61 : decode cX8_told 61 = .ok (.getfield 79, 3) := by decide +kernel
theorem dX8_told_64 : decode cX8_told 64 = .ok (.goto 7, 3) := by decide +kernel
theorem dX8_told_67 : decode cX8_told 67 = .ok (.aload_n 0, 1) := by decide +kernel
theorem dX8_told_68 : decode cX8_told 68 = .ok (.getfield 82, 3) := by decide +kernel
theorem dX8_told_71 : decode cX8_told 71 = .ok (.ireturn, 1) := by decide +kernel
theorem dX8_loop_0 : decode cX8_loop 0 = .ok (.aload_n 0, 1) := by decide +kernel
theorem dX8_loop_1 : decode cX8_loop 1 = .ok (.getfield 103, 3) := by decide +kernel
theorem dX8_loop_4 : decode cX8_loop 4 = .ok (.iconst 1, 1) := by decide +kernel
theorem dX8_loop_5 : decode cX8_loop 5 = .ok (.isub, 1) := by decide +kernel
theorem dX8_loop_6 : decode cX8_loop 6 = .ok (.istore_n 1, 1) := by decide +kernel
theorem dX8_loop_7 : decode cX8_loop 7 = .ok (.iload_n 1, 1) := by decide +kernel
theorem dX8_loop_8 : decode cX8_loop 8 = .ok (.ifCond .lt 18, 3) := by decide +kernel
theorem dX8_loop_11 : decode cX8_loop 11 = .ok (.aload_n 0, 1) := by decide +kernel
theorem dX8_loop_12 : decode cX8_loop 12 = .ok (.getfield 40, 3) := by decide +kernel
theorem dX8_loop_15 : decode cX8_loop 15 = .ok (.iload_n 1, 1) := by decide +kernel
theorem dX8_loop_16 : decode cX8_loop 16 = .ok (.iaload, 1) := by decide +kernel
theorem dX8_loop_17 : decode cX8_loop 17 = .ok (.ifCond .ne 9, 3) := by decide +kernel
theorem dX8_loop_20 : decode cX8_loop 20 = .ok (.iinc 1 (-1), 3) := by decide +kernel
theorem dX8_loop_23 : decode cX8_loop 23 = .ok (.goto (-16), 3) := by decide +kernel
theorem dX8_loop_26 : decode cX8_loop 26 = .ok (.iload_n 1, 1) := by decide +kernel
theorem dX8_loop_27 : decode cX8_loop 27 = .ok (.ifCond .lt 17, 3) := by decide +kernel
theorem dX8_loop_30 : decode cX8_loop 30 = .ok (.aload_n 0, 1) := by decide +kernel
theorem dX8_loop_31 : decode cX8_loop 31 = .ok (.getfield 40, 3) := by decide +kernel
theorem dX8_loop_34 : decode cX8_loop 34 = .ok (.iload_n 1, 1) := by decide +kernel
theorem dX8_loop_35 : decode cX8_loop 35 = .ok (.iaload, 1) := by decide +kernel
theorem dX8_loop_36 : decode cX8_loop 36 = .ok (.iconst 4, 1) := by decide +kernel
theorem dX8_loop_37 : decode cX8_loop 37 = .ok (.if_icmp .ge 7, 3) := by decide +kernel
theorem dX8_loop_40 : decode cX8_loop 40 = .ok (.iload_n 1, 1) := by decide +kernel
theorem dX8_loop_41 : decode cX8_loop 41 = .ok (.goto 4, 3) := by decide +kernel
theorem dX8_loop_44 : decode cX8_loop 44 = .ok (.iconst (-1), 1) := by decide +kernel
theorem dX8_loop_45 : decode cX8_loop 45 = .ok (.ireturn, 1) := by decide +kernel
theorem dX8_govern_0 : decode cX8_govern 0 = .ok (.aload_n 0, 1) := by decide +kernel
theorem dX8_govern_1 : decode cX8_govern 1 = .ok (.invokevirtual 203, 3) := by decide +kernel
theorem dX8_govern_4 : decode cX8_govern 4 = .ok (.istore_n 2, 1) := by decide +kernel
theorem dX8_govern_5 : decode cX8_govern 5 = .ok (.iload_n 1, 1) := by decide +kernel
theorem dX8_govern_6 : decode cX8_govern 6 = .ok (.tableswitch 113 22 26 #[34, 45, 54, 79, 103], 34) := by decide +kernel
theorem dX8_govern_40 : decode cX8_govern 40 = .ok (.aload_n 0, 1) := by decide +kernel
theorem dX8_govern_41 : decode cX8_govern 41 = .ok (.aload_n 0, 1) := by decide +kernel
theorem dX8_govern_42 : decode cX8_govern 42 = .ok (.invokevirtual 173, 3) := by decide +kernel
theorem dX8_govern_45 : decode cX8_govern 45 = .ok (.putfield 103, 3) := by decide +kernel
theorem dX8_govern_48 : decode cX8_govern 48 = .ok (.goto 121, 3) := by decide +kernel
theorem dX8_govern_51 : decode cX8_govern 51 = .ok (.aload_n 0, 1) := by decide +kernel
theorem dX8_govern_52 : decode cX8_govern 52 = .ok (.bipush 99, 2) := by decide +kernel
theorem dX8_govern_54 : decode cX8_govern 54 = .ok (.invokevirtual 119, 3) := by decide +kernel
theorem dX8_govern_57 : decode cX8_govern 57 = .ok (.goto 112, 3) := by decide +kernel
theorem dX8_govern_60 : decode cX8_govern 60 = .ok (.aload_n 0, 1) := by decide +kernel
theorem dX8_govern_61 : decode cX8_govern 61 = .ok (.dup, 1) := by decide +kernel
theorem dX8_govern_62 : decode cX8_govern 62 = .ok (.getfield 96, 3) := by decide +kernel
theorem dX8_govern_65 : decode cX8_govern 65 = .ok (.iconst 1, 1) := by decide +kernel
theorem dX8_govern_66 : decode cX8_govern 66 = .ok (.isub, 1) := by decide +kernel
theorem dX8_govern_67 : decode cX8_govern 67 = .ok (.putfield 96, 3) := by decide +kernel
theorem dX8_govern_70 : decode cX8_govern 70 = .ok (.aload_n 0, 1) := by decide +kernel
theorem dX8_govern_71 : decode cX8_govern 71 = .ok (.iconst 4, 1) := by decide +kernel
theorem dX8_govern_72 : decode cX8_govern 72 = .ok (.iconst 0, 1) := by decide +kernel
theorem dX8_govern_73 : decode cX8_govern 73 = .ok (.invokevirtual 113, 3) := by decide +kernel
theorem dX8_govern_76 : decode cX8_govern 76 = .ok (.aload_n 0, 1) := by decide +kernel
theorem dX8_govern_77 : decode cX8_govern 77 = .ok (.iconst 0, 1) := by decide +kernel
theorem dX8_govern_78 : decode cX8_govern 78 = .ok (.iload_n 2, 1) := by decide +kernel
theorem dX8_govern_79 : decode cX8_govern 79 = .ok (.invokevirtual 113, 3) := by decide +kernel
theorem dX8_govern_82 : decode cX8_govern 82 = .ok (.goto 87, 3) := by decide +kernel
theorem dX8_govern_85 : decode cX8_govern 85 = .ok (.aload_n 0, 1) := by decide +kernel
theorem dX8_govern_86 : decode cX8_govern 86 = .ok (.getfield 31, 3) := by decide +kernel
theorem dX8_govern_89 : decode cX8_govern 89 = .ok (.aload_n 0, 1) := by decide +kernel
theorem dX8_govern_90 : decode cX8_govern 90 = .ok (.iconst 1, 1) := by decide +kernel
theorem dX8_govern_91 : decode cX8_govern 91 = .ok (.invokevirtual 153, 3) := by decide +kernel
theorem dX8_govern_94 : decode cX8_govern 94 = .ok (.iload_n 2, 1) := by decide +kernel
theorem dX8_govern_95 : decode cX8_govern 95 = .ok (.iastore, 1) := by decide +kernel
theorem dX8_govern_96 : decode cX8_govern 96 = .ok (.aload_n 0, 1) := by decide +kernel
theorem dX8_govern_97 : decode cX8_govern 97 = .ok (.aload_n 0, 1) := by decide +kernel
theorem dX8_govern_98 : decode cX8_govern 98 = .ok (.getfield 96, 3) := by decide +kernel
theorem dX8_govern_101 : decode cX8_govern 101 = .ok (.iconst 2, 1) := by decide +kernel
theorem dX8_govern_102 : decode cX8_govern 102 = .ok (.isub, 1) := by decide +kernel
theorem dX8_govern_103 : decode cX8_govern 103 = .ok (.putfield 96, 3) := by decide +kernel
theorem dX8_govern_106 : decode cX8_govern 106 = .ok (.goto 63, 3) := by decide +kernel
theorem dX8_govern_109 : decode cX8_govern 109 = .ok (.aload_n 0, 1) := by decide +kernel
theorem dX8_govern_110 : decode cX8_govern 110 = .ok (.iload_n 2, 1) := by decide +kernel
theorem dX8_govern_111 : decode cX8_govern 111 = .ok (.bipush 26, 2) := by decide +kernel
theorem dX8_govern_113 : decode cX8_govern 113 = .ok (.invokevirtual 135, 3) := by decide +kernel
theorem dX8_govern_116 : decode cX8_govern 116 = .ok (.goto 53, 3) := by decide +kernel
theorem dX8_govern_119 : decode cX8_govern 119 = .ok (.aload_n 0, 1) := by decide +kernel
theorem dX8_govern_120 : decode cX8_govern 120 = .ok (.dup, 1) := by decide +kernel
theorem dX8_govern_121 : decode cX8_govern 121 = .ok (.getfield 96, 3) := by decide +kernel
theorem dX8_govern_124 : decode cX8_govern 124 = .ok (.iconst 1, 1) := by decide +kernel
theorem dX8_govern_125 : decode cX8_govern 125 = .ok (.isub, 1) := by decide +kernel
theorem dX8_govern_126 : decode cX8_govern 126 = .ok (.putfield 96, 3) := by decide +kernel
theorem dX8_govern_129 : decode cX8_govern 129 = .ok (.aload_n 0, 1) := by decide +kernel
theorem dX8_govern_130 : decode cX8_govern 130 = .ok (.iload_n 2, 1) := by decide +kernel
theorem dX8_govern_131 : decode cX8_govern 131 = .ok (.iconst 2, 1) := by decide +kernel
theorem dX8_govern_132 : decode cX8_govern 132 = .ok (.if_icmp .ne 7, 3) := by decide +kernel
theorem dX8_govern_135 : decode cX8_govern 135 = .ok (.iconst 1, 1) := by decide +kernel
theorem dX8_govern_136 : decode cX8_govern 136 = .ok (.goto 4, 3) := by decide +kernel
theorem dX8_govern_139 : decode cX8_govern 139 = .ok (.iconst 0, 1) := by decide +kernel
theorem dX8_govern_140 : decode cX8_govern 140 = .ok (.aload_n 0, 1) := by decide +kernel
theorem dX8_govern_141 : decode cX8_govern 141 = .ok (.iload_n 2, 1) := by decide +kernel
theorem dX8_govern_142 : decode cX8_govern 142 = .ok (.invokevirtual 206, 3) := by decide +kernel
theorem dX8_govern_145 : decode cX8_govern 145 = .ok (.invokevirtual 99, 3) := by decide +kernel
theorem dX8_govern_148 : decode cX8_govern 148 = .ok (.aload_n 0, 1) := by decide +kernel
theorem dX8_govern_149 : decode cX8_govern 149 = .ok (.aload_n 0, 1) := by decide +kernel
theorem dX8_govern_150 : decode cX8_govern 150 = .ok (.getfield 72, 3) := by decide +kernel
theorem dX8_govern_153 : decode cX8_govern 153 = .ok (.ifCond .eq 12, 3) := by decide +kernel
theorem dX8_govern_156 : decode cX8_govern 156 = .ok (.iload_n 2, 1) := by decide +kernel
theorem dX8_govern_157 : decode cX8_govern 157 = .ok (.iconst 2, 1) := by decide +kernel
theorem dX8_govern_158 : decode cX8_govern 158 = .ok (.if_icmp .eq 7, 3) := by decide +kernel
theorem dX8_govern_161 : decode cX8_govern 161 = .ok (.iconst 1, 1) := by decide +kernel
theorem dX8_govern_162 : decode cX8_govern 162 = .ok (.goto 4, 3) := by decide +kernel
theorem dX8_govern_165 : decode cX8_govern 165 = .ok (.iconst 0, 1) := by decide +kernel
theorem dX8_govern_166 : decode cX8_govern 166 = .ok (.putfield 72, 3) := by decide +kernel
theorem dX8_govern_169 : decode cX8_govern 169 = .ok (.return_, 1) := by decide +kernel
theorem dX8_work_0 : decode cX8_work 0 = .ok (.iload_n 1, 1) := by decide +kernel
theorem dX8_work_1 : decode cX8_work 1 = .ok (.iconst 4, 1) := by decide +kernel
theorem dX8_work_2 : decode cX8_work 2 = .ok (.if_icmp .lt 8, 3) := by decide +kernel
theorem dX8_work_5 : decode cX8_work 5 = .ok (.iload_n 1, 1) := by decide +kernel
theorem dX8_work_6 : decode cX8_work 6 = .ok (.iconst 5, 1) := by decide +kernel
theorem dX8_work_7 : decode cX8_work 7 = .ok (.if_icmp .ne 11, 3) := by decide +kernel
theorem dX8_work_10 : decode cX8_work 10 = .ok (.aload_n 0, 1) := by decide +kernel
theorem dX8_work_11 : decode cX8_work 11 = .ok (.iload_n 1, 1) := by decide +kernel
theorem dX8_work_12 : decode cX8_work 12 = .ok (.invokevirtual 185, 3) := by decide +kernel
theorem dX8_work_15 : decode cX8_work 15 = .ok (.goto 50, 3) := by decide +kernel
theorem dX8_work_18 : decode cX8_work 18 = .ok (.iload_n 1, 1) := by decide +kernel
theorem dX8_work_19 : decode cX8_work 19 = .ok (.bipush 14, 2) := by decide +kernel
theorem dX8_work_21 : decode cX8_work 21 = .ok (.if_icmp .ge 11, 3) := by decide +kernel
theorem dX8_work_24 : decode cX8_work 24 = .ok (.aload_n 0, 1) := by decide +kernel
theorem dX8_work_25 : decode cX8_work 25 = .ok (.iload_n 1, 1) := by decide +kernel
theorem dX8_work_26 : decode cX8_work 26 = .ok (.invokevirtual 188, 3) := by decide +kernel
theorem dX8_work_29 : decode cX8_work 29 = .ok (.goto 36, 3) := by decide +kernel
theorem dX8_work_32 : decode cX8_work 32 = .ok (.iload_n 1, 1) := by decide +kernel
theorem dX8_work_33 : decode cX8_work 33 = .ok (.bipush 19, 2) := by decide +kernel
theorem dX8_work_35 : decode cX8_work 35 = .ok (.if_icmp .ge 11, 3) := by decide +kernel
theorem dX8_work_38 : decode cX8_work 38 = .ok (.aload_n 0, 1) := by decide +kernel
theorem dX8_work_39 : decode cX8_work 39 = .ok (.iload_n 1, 1) := by decide +kernel
theorem dX8_work_40 : decode cX8_work 40 = .ok (.invokevirtual 191, 3) := by decide +kernel
theorem dX8_work_43 : decode cX8_work 43 = .ok (.goto 22, 3) := by decide +kernel
theorem dX8_work_46 : decode cX8_work 46 = .ok (.iload_n 1, 1) := by decide +kernel
theorem dX8_work_47 : decode cX8_work 47 = .ok (.bipush 22, 2) := by decide +kernel
theorem dX8_work_49 : decode cX8_work 49 = .ok (.if_icmp .ge 11, 3) := by decide +kernel
theorem dX8_work_52 : decode cX8_work 52 = .ok (.aload_n 0, 1) := by decide +kernel
theorem dX8_work_53 : decode cX8_work 53 = .ok (.iload_n 1, 1) := by decide +kernel
theorem dX8_work_54 : decode cX8_work 54 = .ok (.invokevirtual 194, 3) := by decide +kernel
theorem dX8_work_57 : decode cX8_work 57 = .ok (.goto 8, 3) := by decide +kernel
theorem dX8_work_60 : decode cX8_work 60 = .ok (.aload_n 0, 1) := by decide +kernel
theorem dX8_work_61 : decode cX8_work 61 = .ok (.iload_n 1, 1) := by decide +kernel
theorem dX8_work_62 : decode cX8_work 62 = .ok (.invokevirtual 197, 3) := by decide +kernel
theorem dX8_work_65 : decode cX8_work 65 = .ok (.return_, 1) := by decide +kernel
def fX8_perform_0_80 (S : St) : Option (Int32 × St) :=
    bnd (fX8_number_0 (0 : Int32) S) fun r1 S1 =>
    stp (si S1 0 6 ((S1.1 0 6) - (1 : Int32))) fun S2 =>
    if vq r1 40 then
    if vq r1 40 then
    bnd (fX8_lay_0 (S2.1 6 r1.toNatClampNeg) (S2.1 7 r1.toNatClampNeg) S2) fun _ S5 =>
    some (0, S5)
    else none
    else none
def fX8_perform_0_125 (q1 : Int32) (q2 : Int32) (S : St) : Option (Int32 × St) :=
    stp (si S 0 6 ((S.1 0 6) - (q1 - (15 : Int32)))) fun S1 =>
    if q2 < 0 then
      some (0, S1)
    else
      bnd (fX8_begin_0 q2 S1) fun _ S3 =>
      some (0, S3)
def fX8_perform_0_115 (q1 : Int32) (q2 : Int32) (S : St) : Option (Int32 × St) :=
    if q1 = (16 : Int32) then
      if q2 < 0 then
        some (0, S)
      else
        fX8_perform_0_125 q1 q2 S
    else
      fX8_perform_0_125 q1 q2 S
def fX8_perform_0 (p1 : Int32) (S : St) : Option (Int32 × St) :=
  bnd (fX8_procedureOf_0 p1 S) fun r1 S1 =>
  if p1 = (14 : Int32) then
    bnd (fX8_number_0 (1 : Int32) S1) fun r3 S3 =>
    bnd (fX8_kind_0 (0 : Int32) S3) fun r4 S4 =>
    if vq r3 40 then
    stp (si S4 6 r3.toNatClampNeg r4) fun S5 =>
    bnd (fX8_number_0 (1 : Int32) S5) fun r6 S6 =>
    bnd (fX8_number_0 (0 : Int32) S6) fun r7 S7 =>
    if vq r6 40 then
    stp (si S7 7 r6.toNatClampNeg r7) fun S8 =>
    stp (si S8 0 6 ((S8.1 0 6) - (2 : Int32))) fun S9 =>
    some (0, S9)
    else none
    else none
  else
    if p1 = (15 : Int32) then
      fX8_perform_0_80 S1
    else
      if p1 = (16 : Int32) then
        if 0 ≤ r1 then
          fX8_perform_0_115 p1 r1 S1
        else
          bnd (fX8_kind_0 (0 : Int32) S1) fun r13 S13 =>
          if r13 = (2 : Int32) then
            fX8_perform_0_80 S13
          else
            fX8_perform_0_115 p1 r1 S13
      else
        fX8_perform_0_115 p1 r1 S1
def fX8_loopOf_0_28 (q1 : Int32) (q2 : Int32) (z1 : Int32) (S : St) : Option (Int32 × St) :=
    bnd (fX8_come_0 z1 q2 S) fun _ S1 =>
    stv ((S1.1 0 19) - (1 : Int32)) fun y2 =>
    if q1 = (19 : Int32) then
      bnd (fX8_number_0 (1 : Int32) S1) fun r4 S4 =>
      if vq y2 30 then
      stp (sl S4 y2.toNatClampNeg r4.toInt64) fun S5 =>
      stp (si S5 0 6 ((S5.1 0 6) - (2 : Int32))) fun S6 =>
      some (0, S6)
      else none
    else
      if q1 = (20 : Int32) then
        bnd (fX8_number_0 (3 : Int32) S1) fun r8 S8 =>
        if vq y2 30 then
        stp (sl S8 y2.toNatClampNeg r8.toInt64) fun S9 =>
        bnd (fX8_number_0 (2 : Int32) S9) fun r10 S10 =>
        if vq y2 30 then
        stp (si S10 15 y2.toNatClampNeg r10) fun S11 =>
        bnd (fX8_number_0 (1 : Int32) S11) fun r12 S12 =>
        if vq y2 30 then
        stp (si S12 16 y2.toNatClampNeg r12) fun S13 =>
        stp (si S13 0 6 ((S13.1 0 6) - (4 : Int32))) fun S14 =>
        some (0, S14)
        else none
        else none
        else none
      else
        if vq y2 30 then
        stp (sl S1 y2.toNatClampNeg (0 : Int64)) fun S15 =>
        stp (si S15 0 6 ((S15.1 0 6) - (1 : Int32))) fun S16 =>
        some (0, S16)
        else none
def fX8_loopOf_0 (p1 : Int32) (S : St) : Option (Int32 × St) :=
  bnd (fX8_number_0 (0 : Int32) S) fun r1 S1 =>
  if p1 = (19 : Int32) then
    fX8_loopOf_0_28 p1 r1 (1 : Int32) S1
  else
    if p1 = (20 : Int32) then
      fX8_loopOf_0_28 p1 r1 (2 : Int32) S1
    else
      fX8_loopOf_0_28 p1 r1 (3 : Int32) S1
def fX8_number0_0 (S : St) : Option (Int32 × St) :=
  if (S.1 0 6) ≤ 0 then
    some ((0 : Int32), S)
  else
    bnd (fX8_number_0 (0 : Int32) S) fun r2 S2 =>
    some (r2, S2)
def fX8_told_0 (p1 : Int32) (S : St) : Option (Int32 × St) :=
  if p1 = 0 then
    some (S.1 0 10, S)
  else
    if p1 = (1 : Int32) then
      some (S.1 0 11, S)
    else
      if p1 = (2 : Int32) then
        if (S.1 0 12) = 0 then
          some ((0 : Int32), S)
        else
          some ((1 : Int32), S)
      else
        if p1 = (3 : Int32) then
          some (S.1 0 13, S)
        else
          if p1 = (4 : Int32) then
            some (S.1 0 16, S)
          else
            some (S.1 0 17, S)
def fX8_loop_0_44 (S : St) : Option (Int32 × St) :=
    some ((-1 : Int32), S)
def fX8_loop_0_26 (q1 : Int32) (S : St) : Option (Int32 × St) :=
    if q1 < 0 then
      fX8_loop_0_44 S
    else
      if vq q1 30 then
      if (4 : Int32) ≤ (S.1 11 q1.toNatClampNeg) then
        fX8_loop_0_44 S
      else
        some (q1, S)
      else none
def fX8_loop_0_7 : Nat → Int32 → St → Option (Int32 × St)
  | 0, _, _ => none
  | n + 1, q1, S =>
    if q1 < 0 then
      fX8_loop_0_26 q1 S
    else
      if vq q1 30 then
      if (S.1 11 q1.toNatClampNeg) = 0 then
        stv (q1 + (-1)) fun y4 =>
        fX8_loop_0_7 n y4 S
      else
        fX8_loop_0_26 q1 S
      else none
def fX8_loop_0 (S : St) : Option (Int32 × St) :=
  stv ((S.1 0 19) - (1 : Int32)) fun y1 =>
  fX8_loop_0_7 500 y1 S
def fX8_govern_0_166 (z1 : Int32) (S : St) : Option (Int32 × St) :=
    if z1 = 0 ∨ z1 = 1 then
    stp (si S 0 12 z1) fun S2 =>
    some (0, S2)
    else none
def fX8_govern_0_165 (S : St) : Option (Int32 × St) :=
    fX8_govern_0_166 (0 : Int32) S
def fX8_govern_0_140 (q2 : Int32) (z1 : Int32) (S : St) : Option (Int32 × St) :=
    bnd (fX8_told_0 q2 S) fun r1 S1 =>
    bnd (fX8_lay_0 z1 r1 S1) fun _ S2 =>
    if (S2.1 0 12) = 0 then
      fX8_govern_0_165 S2
    else
      if q2 = (2 : Int32) then
        fX8_govern_0_165 S2
      else
        fX8_govern_0_166 (1 : Int32) S2
def fX8_govern_0 (p1 : Int32) (S : St) : Option (Int32 × St) :=
  bnd (fX8_number0_0 S) fun r1 S1 =>
  if p1 = 22 then
    bnd (fX8_loop_0 S1) fun r3 S3 =>
    stp (si S3 0 19 r3) fun S4 =>
    some (0, S4)
  else
    if p1 = 23 then
      bnd (fX8_stop_0 (99 : Int32) S1) fun _ S6 =>
      some (0, S6)
    else
      if p1 = 24 then
        stp (si S1 0 6 ((S1.1 0 6) - (1 : Int32))) fun S8 =>
        bnd (fX8_come_0 (4 : Int32) (0 : Int32) S8) fun _ S9 =>
        bnd (fX8_come_0 (0 : Int32) r1 S9) fun _ S10 =>
        some (0, S10)
      else
        if p1 = 25 then
          bnd (fX8_number_0 (1 : Int32) S1) fun r12 S12 =>
          if vq r12 12 then
          stp (si S12 8 r12.toNatClampNeg r1) fun S13 =>
          stp (si S13 0 6 ((S13.1 0 6) - (2 : Int32))) fun S14 =>
          some (0, S14)
          else none
        else
          if p1 = 26 then
            bnd (fX8_arise_0 r1 (26 : Int32) S1) fun _ S16 =>
            some (0, S16)
          else
            stp (si S1 0 6 ((S1.1 0 6) - (1 : Int32))) fun S17 =>
            if r1 = (2 : Int32) then
              fX8_govern_0_140 r1 (1 : Int32) S17
            else
              fX8_govern_0_140 r1 (0 : Int32) S17
def fX8_work_0_10 (q1 : Int32) (S : St) : Option (Int32 × St) :=
    bnd (fX8_reckon_0 q1 S) fun _ S1 =>
    some (0, S1)
def fX8_work_0 (p1 : Int32) (S : St) : Option (Int32 × St) :=
  if p1 < (4 : Int32) then
    fX8_work_0_10 p1 S
  else
    if p1 = (5 : Int32) then
      fX8_work_0_10 p1 S
    else
      if (14 : Int32) ≤ p1 then
        if (19 : Int32) ≤ p1 then
          if (22 : Int32) ≤ p1 then
            bnd (fX8_govern_0 p1 S) fun _ S6 =>
            some (0, S6)
          else
            bnd (fX8_loopOf_0 p1 S) fun _ S7 =>
            some (0, S7)
        else
          bnd (fX8_perform_0 p1 S) fun _ S8 =>
          some (0, S8)
      else
        bnd (fX8_handle_0 p1 S) fun _ S9 =>
        some (0, S9)
set_option maxRecDepth 100000 in
set_option maxHeartbeats 4000000 in
theorem rX8_perform_0_80 {p : Program} {l : Launch} {e : Env} {s : State} {m : MethodId} {args : Array Value} {below : List Frame} {meth : Method} {c : Code} {D : va_G} {a : Nat → Nat} {cI cJ : ClassId} {tk : Nat} {tf : Nat → Int32} (C : Cx p s m args meth c RX8 cX8_perform 4 D cI cJ tk tf (AR a 17 s.heap.size)) (hr : meth.sig.returnType = none) : ∀ (S : St) (x : Int32 × St) (H : Heap) (locs : List Loc) (ls : Array Slot), fX8_perform_0_80 S = some x → Wd D (wM a cI cJ) (AR a 17 s.heap.size) s S H locs → lv_has ls 4 [(0, .ref (a 0))] → W p l e { frames := 2, cells := 0, slots := 0, locals := 44 } s m args below meth c H locs 0 0 (MQ below (Qv D (wM a cI cJ) (AR a 17 s.heap.size) x) args s 0 0 (AR a 17 s.heap.size)) (F0 m 80 ls []) := by
  intro S x H locs ls hf G hl
  unfold fX8_perform_0_80 at hf
  refine lv_aload_n C.1 C.2.1 dX8_perform_80 rfl (lv_at hl 0 rfl) ?_
  refine lv_iconst (v := 0) C.1 C.2.1 dX8_perform_81 (by decide) ?_
  obtain ⟨r1, S1, eS1, hf⟩ := bnd_e hf
  refine r_cali (As := [.int (0 : Int32)]) (na := 1) C adM G (mX8_number_0 l D a cI cJ tk tf (0 : Int32) S _ eS1) k_914 k_916 k_38 k_68 k_917 (q0 := 0) rfl (ci := 8) rfl (by decide +kernel) ⟨Nat.le_of_ble_eq_true rfl, Nat.le_of_ble_eq_true rfl⟩ rfl rfl ⟨Nat.zero_le _, Nat.zero_le _⟩ rfl hl.1 rfl (Nat.le_of_ble_eq_true rfl) dX8_perform_82 (fun H locs G => ?_)
  refine lv_istore_n (lv' := [(3, .int r1), (0, .ref (a 0))]) C.1 C.2.1 dX8_perform_85 rfl hl (by decide) rfl (fun ls hl => ?_)
  refine lv_aload_n C.1 C.2.1 dX8_perform_86 rfl (lv_at hl 1 rfl) ?_
  refine lv_dup C.1 C.2.1 dX8_perform_87 rfl ?_
  refine gM_0_6 C G k_764 dX8_perform_88 ?_
  refine lv_iconst (v := 1) C.1 C.2.1 dX8_perform_91 (by decide) ?_
  refine lv_isub C.1 C.2.1 dX8_perform_92 ?_
  refine pM_0_6 C G k_764 dX8_perform_93 (fun H locs G => ?_)
  obtain ⟨S2, eS2, hf⟩ := stp_e hf
  rw [← eS2] at G
  clear eS2
  refine lv_aload_n C.1 C.2.1 dX8_perform_96 rfl (lv_at hl 1 rfl) ?_
  refine lv_aload_n C.1 C.2.1 dX8_perform_97 rfl (lv_at hl 1 rfl) ?_
  refine gM_0_7 C G k_765 dX8_perform_98 ?_
  refine lv_iload_n C.1 C.2.1 dX8_perform_101 rfl (lv_at hl 0 rfl) ?_
  obtain ⟨hi3, hf⟩ := ifn hf
  refine aM_6 C G hi3 dX8_perform_102 ?_
  refine lv_aload_n C.1 C.2.1 dX8_perform_103 rfl (lv_at hl 1 rfl) ?_
  refine gM_0_8 C G k_766 dX8_perform_104 ?_
  refine lv_iload_n C.1 C.2.1 dX8_perform_107 rfl (lv_at hl 0 rfl) ?_
  obtain ⟨hi4, hf⟩ := ifn hf
  refine aM_7 C G hi4 dX8_perform_108 ?_
  obtain ⟨r5, S5, eS5, hf⟩ := bnd_e hf
  refine r_calv (As := [.int (S2.1 6 r1.toNatClampNeg), .int (S2.1 7 r1.toNatClampNeg)]) (na := 2) C adM G (mX8_lay_0 l D a cI cJ tk tf (S2.1 6 r1.toNatClampNeg) (S2.1 7 r1.toNatClampNeg) S2 _ eS5) k_871 k_873 k_31 k_68 k_874 (q0 := 0) rfl (ci := 8) rfl (by decide +kernel) ⟨Nat.le_of_ble_eq_true rfl, Nat.le_of_ble_eq_true rfl⟩ rfl rfl ⟨Nat.zero_le _, Nat.zero_le _⟩ rfl hl.1 rfl (Nat.le_of_ble_eq_true rfl) dX8_perform_109 (fun H locs G => ?_)
  refine lv_goto (tgt := 147) C.1 C.2.1 dX8_perform_112 (by decide) ?_
  exact r_vret C hr G hf dX8_perform_147
set_option maxRecDepth 100000 in
set_option maxHeartbeats 4000000 in
theorem rX8_perform_0_125 {p : Program} {l : Launch} {e : Env} {s : State} {m : MethodId} {args : Array Value} {below : List Frame} {meth : Method} {c : Code} {D : va_G} {a : Nat → Nat} {cI cJ : ClassId} {tk : Nat} {tf : Nat → Int32} (C : Cx p s m args meth c RX8 cX8_perform 4 D cI cJ tk tf (AR a 17 s.heap.size)) (hr : meth.sig.returnType = none) : ∀ (q1 : Int32) (q2 : Int32) (S : St) (x : Int32 × St) (H : Heap) (locs : List Loc) (ls : Array Slot), fX8_perform_0_125 q1 q2 S = some x → Wd D (wM a cI cJ) (AR a 17 s.heap.size) s S H locs → lv_has ls 4 [(0, .ref (a 0)), (1, .int q1), (2, .int q2)] → W p l e { frames := 2, cells := 0, slots := 0, locals := 44 } s m args below meth c H locs 0 0 (MQ below (Qv D (wM a cI cJ) (AR a 17 s.heap.size) x) args s 0 0 (AR a 17 s.heap.size)) (F0 m 125 ls []) := by
  intro q1 q2 S x H locs ls hf G hl
  unfold fX8_perform_0_125 at hf
  refine lv_aload_n C.1 C.2.1 dX8_perform_125 rfl (lv_at hl 0 rfl) ?_
  refine lv_aload_n C.1 C.2.1 dX8_perform_126 rfl (lv_at hl 0 rfl) ?_
  refine gM_0_6 C G k_764 dX8_perform_127 ?_
  refine lv_iload_n C.1 C.2.1 dX8_perform_130 rfl (lv_at hl 1 rfl) ?_
  refine lv_bipush (v := 15) C.1 C.2.1 dX8_perform_131 (by decide) ?_
  refine lv_isub C.1 C.2.1 dX8_perform_133 ?_
  refine lv_isub C.1 C.2.1 dX8_perform_134 ?_
  refine pM_0_6 C G k_764 dX8_perform_135 (fun H locs G => ?_)
  obtain ⟨S1, eS1, hf⟩ := stp_e hf
  rw [← eS1] at G
  clear eS1
  refine lv_iload_n C.1 C.2.1 dX8_perform_138 rfl (lv_at hl 2 rfl) ?_
  refine lv_if_lt (tgt := 147) C.1 C.2.1 dX8_perform_139 (by decide) (fun c2 => ?_) (fun c2 => ?_)
  · replace hf := ifp c2 hf
    exact r_vret C hr G hf dX8_perform_147
  · replace hf := ifq c2 hf
    refine lv_aload_n C.1 C.2.1 dX8_perform_142 rfl (lv_at hl 0 rfl) ?_
    refine lv_iload_n C.1 C.2.1 dX8_perform_143 rfl (lv_at hl 2 rfl) ?_
    obtain ⟨r3, S3, eS3, hf⟩ := bnd_e hf
    refine r_calv (As := [.int q2]) (na := 1) C adM G (mX8_begin_0 l D a cI cJ tk tf q2 S1 _ eS3) k_973 k_975 k_52 k_68 k_976 (q0 := 0) rfl (ci := 8) rfl (by decide +kernel) ⟨Nat.le_of_ble_eq_true rfl, Nat.le_of_ble_eq_true rfl⟩ rfl rfl ⟨Nat.zero_le _, Nat.zero_le _⟩ rfl hl.1 rfl (Nat.le_of_ble_eq_true rfl) dX8_perform_144 (fun H locs G => ?_)
    exact r_vret C hr G hf dX8_perform_147
set_option maxRecDepth 100000 in
set_option maxHeartbeats 4000000 in
theorem rX8_perform_0_115 {p : Program} {l : Launch} {e : Env} {s : State} {m : MethodId} {args : Array Value} {below : List Frame} {meth : Method} {c : Code} {D : va_G} {a : Nat → Nat} {cI cJ : ClassId} {tk : Nat} {tf : Nat → Int32} (C : Cx p s m args meth c RX8 cX8_perform 4 D cI cJ tk tf (AR a 17 s.heap.size)) (hr : meth.sig.returnType = none) : ∀ (q1 : Int32) (q2 : Int32) (S : St) (x : Int32 × St) (H : Heap) (locs : List Loc) (ls : Array Slot), fX8_perform_0_115 q1 q2 S = some x → Wd D (wM a cI cJ) (AR a 17 s.heap.size) s S H locs → lv_has ls 4 [(0, .ref (a 0)), (1, .int q1), (2, .int q2)] → W p l e { frames := 2, cells := 0, slots := 0, locals := 44 } s m args below meth c H locs 0 0 (MQ below (Qv D (wM a cI cJ) (AR a 17 s.heap.size) x) args s 0 0 (AR a 17 s.heap.size)) (F0 m 115 ls []) := by
  intro q1 q2 S x H locs ls hf G hl
  unfold fX8_perform_0_115 at hf
  refine lv_iload_n C.1 C.2.1 dX8_perform_115 rfl (lv_at hl 1 rfl) ?_
  refine lv_bipush (v := 16) C.1 C.2.1 dX8_perform_116 (by decide) ?_
  refine lv_icmp_ne (tgt := 125) C.1 C.2.1 dX8_perform_118 (by decide) (fun c1 => ?_) (fun c1 => ?_)
  · replace hf := ifq c1 hf
    exact rX8_perform_0_125 C hr q1 q2 S _ _ _ _ hf G (lv_sub hl [0, 1, 2] rfl)
  · replace hf := ifp c1 hf
    refine lv_iload_n C.1 C.2.1 dX8_perform_121 rfl (lv_at hl 2 rfl) ?_
    refine lv_if_lt (tgt := 147) C.1 C.2.1 dX8_perform_122 (by decide) (fun c2 => ?_) (fun c2 => ?_)
    · replace hf := ifp c2 hf
      exact r_vret C hr G hf dX8_perform_147
    · replace hf := ifq c2 hf
      exact rX8_perform_0_125 C hr q1 q2 S _ _ _ _ hf G (lv_sub hl [0, 1, 2] rfl)
set_option maxRecDepth 100000 in
set_option maxHeartbeats 4000000 in
theorem mX8_perform_0 (l : Launch) (D : va_G) (a : Nat → Nat) (cI cJ : ClassId) (tk : Nat) (tf : Nat → Int32) (p1 : Int32) (S : St) (x : Int32 × St) (hf : fX8_perform_0 p1 S = some x) : Mv l D (wM a cI cJ) a 17 cI cJ tk tf yX8_perform cX8_perform 4 { frames := 2, cells := 0, slots := 0, locals := 44 } [.ref (a 0), .int p1] S x := by
  refine opn_v (by decide +kernel) (Nat.le_of_ble_eq_true rfl) (fun p e s m below meth c C hr G ls hl => ?_)
  replace hl : lv_has ls 4 [(0, .ref (a 0)), (1, .int p1)] := hl
  unfold fX8_perform_0 at hf
  refine lv_aload_n C.1 C.2.1 dX8_perform_0 rfl (lv_at hl 0 rfl) ?_
  refine lv_iload_n C.1 C.2.1 dX8_perform_1 rfl (lv_at hl 1 rfl) ?_
  obtain ⟨r1, S1, eS1, hf⟩ := bnd_e hf
  refine r_cali (As := [.int p1]) (na := 1) C adM G (mX8_procedureOf_0 l D a cI cJ tk tf p1 S _ eS1) k_941 k_943 k_44 k_68 k_944 (q0 := 0) rfl (ci := 8) rfl (by decide +kernel) ⟨Nat.le_of_ble_eq_true rfl, Nat.le_of_ble_eq_true rfl⟩ rfl rfl ⟨Nat.zero_le _, Nat.zero_le _⟩ rfl hl.1 rfl (Nat.le_of_ble_eq_true rfl) dX8_perform_2 (fun H locs G => ?_)
  refine lv_istore_n (lv' := [(2, .int r1), (0, .ref (a 0)), (1, .int p1)]) C.1 C.2.1 dX8_perform_5 rfl hl (by decide) rfl (fun ls hl => ?_)
  refine lv_iload_n C.1 C.2.1 dX8_perform_6 rfl (lv_at hl 2 rfl) ?_
  refine lv_bipush (v := 14) C.1 C.2.1 dX8_perform_7 (by decide) ?_
  refine lv_icmp_ne (tgt := 55) C.1 C.2.1 dX8_perform_9 (by decide) (fun c2 => ?_) (fun c2 => ?_)
  · replace hf := ifq c2 hf
    refine lv_iload_n C.1 C.2.1 dX8_perform_55 rfl (lv_at hl 2 rfl) ?_
    refine lv_bipush (v := 15) C.1 C.2.1 dX8_perform_56 (by decide) ?_
    refine lv_icmp_eq (tgt := 80) C.1 C.2.1 dX8_perform_58 (by decide) (fun c10 => ?_) (fun c10 => ?_)
    · replace hf := ifp c10 hf
      exact rX8_perform_0_80 C hr S1 _ _ _ _ hf G (lv_sub hl [1] rfl)
    · replace hf := ifq c10 hf
      refine lv_iload_n C.1 C.2.1 dX8_perform_61 rfl (lv_at hl 2 rfl) ?_
      refine lv_bipush (v := 16) C.1 C.2.1 dX8_perform_62 (by decide) ?_
      refine lv_icmp_ne (tgt := 115) C.1 C.2.1 dX8_perform_64 (by decide) (fun c11 => ?_) (fun c11 => ?_)
      · replace hf := ifq c11 hf
        exact rX8_perform_0_115 C hr p1 r1 S1 _ _ _ _ hf G (lv_sub hl [1, 2, 0] rfl)
      · replace hf := ifp c11 hf
        refine lv_iload_n C.1 C.2.1 dX8_perform_67 rfl (lv_at hl 0 rfl) ?_
        refine lv_if_ge (tgt := 115) C.1 C.2.1 dX8_perform_68 (by decide) (fun c12 => ?_) (fun c12 => ?_)
        · replace hf := ifp c12 hf
          exact rX8_perform_0_115 C hr p1 r1 S1 _ _ _ _ hf G (lv_sub hl [1, 2, 0] rfl)
        · replace hf := ifq c12 hf
          refine lv_aload_n C.1 C.2.1 dX8_perform_71 rfl (lv_at hl 1 rfl) ?_
          refine lv_iconst (v := 0) C.1 C.2.1 dX8_perform_72 (by decide) ?_
          obtain ⟨r13, S13, eS13, hf⟩ := bnd_e hf
          refine r_cali (As := [.int (0 : Int32)]) (na := 1) C adM G (mX8_kind_0 l D a cI cJ tk tf (0 : Int32) S1 _ eS13) k_910 k_912 k_37 k_68 k_913 (q0 := 0) rfl (ci := 8) rfl (by decide +kernel) ⟨Nat.le_of_ble_eq_true rfl, Nat.le_of_ble_eq_true rfl⟩ rfl rfl ⟨Nat.zero_le _, Nat.zero_le _⟩ rfl hl.1 rfl (Nat.le_of_ble_eq_true rfl) dX8_perform_73 (fun H locs G => ?_)
          refine lv_iconst (v := 2) C.1 C.2.1 dX8_perform_76 (by decide) ?_
          refine lv_icmp_ne (tgt := 115) C.1 C.2.1 dX8_perform_77 (by decide) (fun c14 => ?_) (fun c14 => ?_)
          · replace hf := ifq c14 hf
            exact rX8_perform_0_115 C hr p1 r1 S13 _ _ _ _ hf G (lv_sub hl [1, 2, 0] rfl)
          · replace hf := ifp c14 hf
            exact rX8_perform_0_80 C hr S13 _ _ _ _ hf G (lv_sub hl [1] rfl)
  · replace hf := ifp c2 hf
    refine lv_aload_n C.1 C.2.1 dX8_perform_12 rfl (lv_at hl 1 rfl) ?_
    refine gM_0_7 C G k_765 dX8_perform_13 ?_
    refine lv_aload_n C.1 C.2.1 dX8_perform_16 rfl (lv_at hl 1 rfl) ?_
    refine lv_iconst (v := 1) C.1 C.2.1 dX8_perform_17 (by decide) ?_
    obtain ⟨r3, S3, eS3, hf⟩ := bnd_e hf
    refine r_cali (As := [.int (1 : Int32)]) (na := 1) C adM G (mX8_number_0 l D a cI cJ tk tf (1 : Int32) S1 _ eS3) k_914 k_916 k_38 k_68 k_917 (q0 := 0) rfl (ci := 8) rfl (by decide +kernel) ⟨Nat.le_of_ble_eq_true rfl, Nat.le_of_ble_eq_true rfl⟩ rfl rfl ⟨Nat.zero_le _, Nat.zero_le _⟩ rfl hl.1 rfl (Nat.le_of_ble_eq_true rfl) dX8_perform_18 (fun H locs G => ?_)
    refine lv_aload_n C.1 C.2.1 dX8_perform_21 rfl (lv_at hl 1 rfl) ?_
    refine lv_iconst (v := 0) C.1 C.2.1 dX8_perform_22 (by decide) ?_
    obtain ⟨r4, S4, eS4, hf⟩ := bnd_e hf
    refine r_cali (As := [.int (0 : Int32)]) (na := 1) C adM G (mX8_kind_0 l D a cI cJ tk tf (0 : Int32) S3 _ eS4) k_910 k_912 k_37 k_68 k_913 (q0 := 0) rfl (ci := 8) rfl (by decide +kernel) ⟨Nat.le_of_ble_eq_true rfl, Nat.le_of_ble_eq_true rfl⟩ rfl rfl ⟨Nat.zero_le _, Nat.zero_le _⟩ rfl hl.1 rfl (Nat.le_of_ble_eq_true rfl) dX8_perform_23 (fun H locs G => ?_)
    obtain ⟨hi5, hf⟩ := ifn hf
    refine sM_6 C G hi5 dX8_perform_26 (fun H locs G => ?_)
    obtain ⟨S5, eS5, hf⟩ := stp_e hf
    rw [← eS5] at G
    clear eS5
    refine lv_aload_n C.1 C.2.1 dX8_perform_27 rfl (lv_at hl 1 rfl) ?_
    refine gM_0_8 C G k_766 dX8_perform_28 ?_
    refine lv_aload_n C.1 C.2.1 dX8_perform_31 rfl (lv_at hl 1 rfl) ?_
    refine lv_iconst (v := 1) C.1 C.2.1 dX8_perform_32 (by decide) ?_
    obtain ⟨r6, S6, eS6, hf⟩ := bnd_e hf
    refine r_cali (As := [.int (1 : Int32)]) (na := 1) C adM G (mX8_number_0 l D a cI cJ tk tf (1 : Int32) S5 _ eS6) k_914 k_916 k_38 k_68 k_917 (q0 := 0) rfl (ci := 8) rfl (by decide +kernel) ⟨Nat.le_of_ble_eq_true rfl, Nat.le_of_ble_eq_true rfl⟩ rfl rfl ⟨Nat.zero_le _, Nat.zero_le _⟩ rfl hl.1 rfl (Nat.le_of_ble_eq_true rfl) dX8_perform_33 (fun H locs G => ?_)
    refine lv_aload_n C.1 C.2.1 dX8_perform_36 rfl (lv_at hl 1 rfl) ?_
    refine lv_iconst (v := 0) C.1 C.2.1 dX8_perform_37 (by decide) ?_
    obtain ⟨r7, S7, eS7, hf⟩ := bnd_e hf
    refine r_cali (As := [.int (0 : Int32)]) (na := 1) C adM G (mX8_number_0 l D a cI cJ tk tf (0 : Int32) S6 _ eS7) k_914 k_916 k_38 k_68 k_917 (q0 := 0) rfl (ci := 8) rfl (by decide +kernel) ⟨Nat.le_of_ble_eq_true rfl, Nat.le_of_ble_eq_true rfl⟩ rfl rfl ⟨Nat.zero_le _, Nat.zero_le _⟩ rfl hl.1 rfl (Nat.le_of_ble_eq_true rfl) dX8_perform_38 (fun H locs G => ?_)
    obtain ⟨hi8, hf⟩ := ifn hf
    refine sM_7 C G hi8 dX8_perform_41 (fun H locs G => ?_)
    obtain ⟨S8, eS8, hf⟩ := stp_e hf
    rw [← eS8] at G
    clear eS8
    refine lv_aload_n C.1 C.2.1 dX8_perform_42 rfl (lv_at hl 1 rfl) ?_
    refine lv_aload_n C.1 C.2.1 dX8_perform_43 rfl (lv_at hl 1 rfl) ?_
    refine gM_0_6 C G k_764 dX8_perform_44 ?_
    refine lv_iconst (v := 2) C.1 C.2.1 dX8_perform_47 (by decide) ?_
    refine lv_isub C.1 C.2.1 dX8_perform_48 ?_
    refine pM_0_6 C G k_764 dX8_perform_49 (fun H locs G => ?_)
    obtain ⟨S9, eS9, hf⟩ := stp_e hf
    rw [← eS9] at G
    clear eS9
    refine lv_goto (tgt := 147) C.1 C.2.1 dX8_perform_52 (by decide) ?_
    exact r_vret C hr G hf dX8_perform_147
set_option maxRecDepth 100000 in
set_option maxHeartbeats 4000000 in
theorem rX8_loopOf_0_28 {p : Program} {l : Launch} {e : Env} {s : State} {m : MethodId} {args : Array Value} {below : List Frame} {meth : Method} {c : Code} {D : va_G} {a : Nat → Nat} {cI cJ : ClassId} {tk : Nat} {tf : Nat → Int32} (C : Cx p s m args meth c RX8 cX8_loopOf 4 D cI cJ tk tf (AR a 17 s.heap.size)) (hr : meth.sig.returnType = none) : ∀ (q1 : Int32) (q2 : Int32) (z1 : Int32) (S : St) (x : Int32 × St) (H : Heap) (locs : List Loc) (ls : Array Slot), fX8_loopOf_0_28 q1 q2 z1 S = some x → Wd D (wM a cI cJ) (AR a 17 s.heap.size) s S H locs → lv_has ls 4 [(0, .ref (a 0)), (1, .int q1), (2, .int q2)] → W p l e { frames := 1, cells := 0, slots := 0, locals := 22 } s m args below meth c H locs 0 0 (MQ below (Qv D (wM a cI cJ) (AR a 17 s.heap.size) x) args s 0 0 (AR a 17 s.heap.size)) (F0 m 28 ls [.int z1, .ref (a 0)]) := by
  intro q1 q2 z1 S x H locs ls hf G hl
  unfold fX8_loopOf_0_28 at hf
  refine lv_iload_n C.1 C.2.1 dX8_loopOf_28 rfl (lv_at hl 2 rfl) ?_
  obtain ⟨r1, S1, eS1, hf⟩ := bnd_e hf
  refine r_calv (As := [.int z1, .int q2]) (na := 2) C adM G (mX8_come_0 l D a cI cJ tk tf z1 q2 S _ eS1) k_887 k_889 k_32 k_68 k_890 (q0 := 0) rfl (ci := 8) rfl (by decide +kernel) ⟨Nat.le_of_ble_eq_true rfl, Nat.le_of_ble_eq_true rfl⟩ rfl rfl ⟨Nat.zero_le _, Nat.zero_le _⟩ rfl hl.1 rfl (Nat.le_of_ble_eq_true rfl) dX8_loopOf_29 (fun H locs G => ?_)
  refine lv_aload_n C.1 C.2.1 dX8_loopOf_32 rfl (lv_at hl 0 rfl) ?_
  refine gM_0_19 C G k_777 dX8_loopOf_33 ?_
  refine lv_iconst (v := 1) C.1 C.2.1 dX8_loopOf_36 (by decide) ?_
  refine lv_isub C.1 C.2.1 dX8_loopOf_37 ?_
  obtain ⟨y2, ey2, hf⟩ := stv_e hf
  refine nm_i ey2 ?_
  refine lv_istore_n (lv' := [(3, .int y2), (0, .ref (a 0)), (1, .int q1), (2, .int q2)]) C.1 C.2.1 dX8_loopOf_38 rfl hl (by decide) rfl (fun ls hl => ?_)
  refine lv_iload_n C.1 C.2.1 dX8_loopOf_39 rfl (lv_at hl 2 rfl) ?_
  refine lv_bipush (v := 19) C.1 C.2.1 dX8_loopOf_40 (by decide) ?_
  refine lv_icmp_ne (tgt := 70) C.1 C.2.1 dX8_loopOf_42 (by decide) (fun c3 => ?_) (fun c3 => ?_)
  · replace hf := ifq c3 hf
    refine lv_iload_n C.1 C.2.1 dX8_loopOf_70 rfl (lv_at hl 2 rfl) ?_
    refine lv_bipush (v := 20) C.1 C.2.1 dX8_loopOf_71 (by decide) ?_
    refine lv_icmp_ne (tgt := 123) C.1 C.2.1 dX8_loopOf_73 (by decide) (fun c7 => ?_) (fun c7 => ?_)
    · replace hf := ifq c7 hf
      refine lv_aload_n C.1 C.2.1 dX8_loopOf_123 rfl (lv_at hl 1 rfl) ?_
      refine gM_0_23 C G k_781 dX8_loopOf_124 ?_
      refine lv_iload_n C.1 C.2.1 dX8_loopOf_127 rfl (lv_at hl 0 rfl) ?_
      refine lv_lconst (v := 0) C.1 C.2.1 dX8_loopOf_128 (by decide) ?_
      obtain ⟨hi15, hf⟩ := ifn hf
      refine sM_14 C G hi15 dX8_loopOf_129 (fun H locs G => ?_)
      obtain ⟨S15, eS15, hf⟩ := stp_e hf
      rw [← eS15] at G
      clear eS15
      refine lv_aload_n C.1 C.2.1 dX8_loopOf_130 rfl (lv_at hl 1 rfl) ?_
      refine lv_dup C.1 C.2.1 dX8_loopOf_131 rfl ?_
      refine gM_0_6 C G k_764 dX8_loopOf_132 ?_
      refine lv_iconst (v := 1) C.1 C.2.1 dX8_loopOf_135 (by decide) ?_
      refine lv_isub C.1 C.2.1 dX8_loopOf_136 ?_
      refine pM_0_6 C G k_764 dX8_loopOf_137 (fun H locs G => ?_)
      obtain ⟨S16, eS16, hf⟩ := stp_e hf
      rw [← eS16] at G
      clear eS16
      exact r_vret C hr G hf dX8_loopOf_140
    · replace hf := ifp c7 hf
      refine lv_aload_n C.1 C.2.1 dX8_loopOf_76 rfl (lv_at hl 1 rfl) ?_
      refine gM_0_23 C G k_781 dX8_loopOf_77 ?_
      refine lv_iload_n C.1 C.2.1 dX8_loopOf_80 rfl (lv_at hl 0 rfl) ?_
      refine lv_aload_n C.1 C.2.1 dX8_loopOf_81 rfl (lv_at hl 1 rfl) ?_
      refine lv_iconst (v := 3) C.1 C.2.1 dX8_loopOf_82 (by decide) ?_
      obtain ⟨r8, S8, eS8, hf⟩ := bnd_e hf
      refine r_cali (As := [.int (3 : Int32)]) (na := 1) C adM G (mX8_number_0 l D a cI cJ tk tf (3 : Int32) S1 _ eS8) k_914 k_916 k_38 k_68 k_917 (q0 := 0) rfl (ci := 8) rfl (by decide +kernel) ⟨Nat.le_of_ble_eq_true rfl, Nat.le_of_ble_eq_true rfl⟩ rfl rfl ⟨Nat.zero_le _, Nat.zero_le _⟩ rfl hl.1 rfl (Nat.le_of_ble_eq_true rfl) dX8_loopOf_83 (fun H locs G => ?_)
      refine lv_i2l C.1 C.2.1 dX8_loopOf_86 rfl ?_
      obtain ⟨hi9, hf⟩ := ifn hf
      refine sM_14 C G hi9 dX8_loopOf_87 (fun H locs G => ?_)
      obtain ⟨S9, eS9, hf⟩ := stp_e hf
      rw [← eS9] at G
      clear eS9
      refine lv_aload_n C.1 C.2.1 dX8_loopOf_88 rfl (lv_at hl 1 rfl) ?_
      refine gM_0_24 C G k_782 dX8_loopOf_89 ?_
      refine lv_iload_n C.1 C.2.1 dX8_loopOf_92 rfl (lv_at hl 0 rfl) ?_
      refine lv_aload_n C.1 C.2.1 dX8_loopOf_93 rfl (lv_at hl 1 rfl) ?_
      refine lv_iconst (v := 2) C.1 C.2.1 dX8_loopOf_94 (by decide) ?_
      obtain ⟨r10, S10, eS10, hf⟩ := bnd_e hf
      refine r_cali (As := [.int (2 : Int32)]) (na := 1) C adM G (mX8_number_0 l D a cI cJ tk tf (2 : Int32) S9 _ eS10) k_914 k_916 k_38 k_68 k_917 (q0 := 0) rfl (ci := 8) rfl (by decide +kernel) ⟨Nat.le_of_ble_eq_true rfl, Nat.le_of_ble_eq_true rfl⟩ rfl rfl ⟨Nat.zero_le _, Nat.zero_le _⟩ rfl hl.1 rfl (Nat.le_of_ble_eq_true rfl) dX8_loopOf_95 (fun H locs G => ?_)
      obtain ⟨hi11, hf⟩ := ifn hf
      refine sM_15 C G hi11 dX8_loopOf_98 (fun H locs G => ?_)
      obtain ⟨S11, eS11, hf⟩ := stp_e hf
      rw [← eS11] at G
      clear eS11
      refine lv_aload_n C.1 C.2.1 dX8_loopOf_99 rfl (lv_at hl 1 rfl) ?_
      refine gM_0_25 C G k_783 dX8_loopOf_100 ?_
      refine lv_iload_n C.1 C.2.1 dX8_loopOf_103 rfl (lv_at hl 0 rfl) ?_
      refine lv_aload_n C.1 C.2.1 dX8_loopOf_104 rfl (lv_at hl 1 rfl) ?_
      refine lv_iconst (v := 1) C.1 C.2.1 dX8_loopOf_105 (by decide) ?_
      obtain ⟨r12, S12, eS12, hf⟩ := bnd_e hf
      refine r_cali (As := [.int (1 : Int32)]) (na := 1) C adM G (mX8_number_0 l D a cI cJ tk tf (1 : Int32) S11 _ eS12) k_914 k_916 k_38 k_68 k_917 (q0 := 0) rfl (ci := 8) rfl (by decide +kernel) ⟨Nat.le_of_ble_eq_true rfl, Nat.le_of_ble_eq_true rfl⟩ rfl rfl ⟨Nat.zero_le _, Nat.zero_le _⟩ rfl hl.1 rfl (Nat.le_of_ble_eq_true rfl) dX8_loopOf_106 (fun H locs G => ?_)
      obtain ⟨hi13, hf⟩ := ifn hf
      refine sM_16 C G hi13 dX8_loopOf_109 (fun H locs G => ?_)
      obtain ⟨S13, eS13, hf⟩ := stp_e hf
      rw [← eS13] at G
      clear eS13
      refine lv_aload_n C.1 C.2.1 dX8_loopOf_110 rfl (lv_at hl 1 rfl) ?_
      refine lv_aload_n C.1 C.2.1 dX8_loopOf_111 rfl (lv_at hl 1 rfl) ?_
      refine gM_0_6 C G k_764 dX8_loopOf_112 ?_
      refine lv_iconst (v := 4) C.1 C.2.1 dX8_loopOf_115 (by decide) ?_
      refine lv_isub C.1 C.2.1 dX8_loopOf_116 ?_
      refine pM_0_6 C G k_764 dX8_loopOf_117 (fun H locs G => ?_)
      obtain ⟨S14, eS14, hf⟩ := stp_e hf
      rw [← eS14] at G
      clear eS14
      refine lv_goto (tgt := 140) C.1 C.2.1 dX8_loopOf_120 (by decide) ?_
      exact r_vret C hr G hf dX8_loopOf_140
  · replace hf := ifp c3 hf
    refine lv_aload_n C.1 C.2.1 dX8_loopOf_45 rfl (lv_at hl 1 rfl) ?_
    refine gM_0_23 C G k_781 dX8_loopOf_46 ?_
    refine lv_iload_n C.1 C.2.1 dX8_loopOf_49 rfl (lv_at hl 0 rfl) ?_
    refine lv_aload_n C.1 C.2.1 dX8_loopOf_50 rfl (lv_at hl 1 rfl) ?_
    refine lv_iconst (v := 1) C.1 C.2.1 dX8_loopOf_51 (by decide) ?_
    obtain ⟨r4, S4, eS4, hf⟩ := bnd_e hf
    refine r_cali (As := [.int (1 : Int32)]) (na := 1) C adM G (mX8_number_0 l D a cI cJ tk tf (1 : Int32) S1 _ eS4) k_914 k_916 k_38 k_68 k_917 (q0 := 0) rfl (ci := 8) rfl (by decide +kernel) ⟨Nat.le_of_ble_eq_true rfl, Nat.le_of_ble_eq_true rfl⟩ rfl rfl ⟨Nat.zero_le _, Nat.zero_le _⟩ rfl hl.1 rfl (Nat.le_of_ble_eq_true rfl) dX8_loopOf_52 (fun H locs G => ?_)
    refine lv_i2l C.1 C.2.1 dX8_loopOf_55 rfl ?_
    obtain ⟨hi5, hf⟩ := ifn hf
    refine sM_14 C G hi5 dX8_loopOf_56 (fun H locs G => ?_)
    obtain ⟨S5, eS5, hf⟩ := stp_e hf
    rw [← eS5] at G
    clear eS5
    refine lv_aload_n C.1 C.2.1 dX8_loopOf_57 rfl (lv_at hl 1 rfl) ?_
    refine lv_aload_n C.1 C.2.1 dX8_loopOf_58 rfl (lv_at hl 1 rfl) ?_
    refine gM_0_6 C G k_764 dX8_loopOf_59 ?_
    refine lv_iconst (v := 2) C.1 C.2.1 dX8_loopOf_62 (by decide) ?_
    refine lv_isub C.1 C.2.1 dX8_loopOf_63 ?_
    refine pM_0_6 C G k_764 dX8_loopOf_64 (fun H locs G => ?_)
    obtain ⟨S6, eS6, hf⟩ := stp_e hf
    rw [← eS6] at G
    clear eS6
    refine lv_goto (tgt := 140) C.1 C.2.1 dX8_loopOf_67 (by decide) ?_
    exact r_vret C hr G hf dX8_loopOf_140
set_option maxRecDepth 100000 in
set_option maxHeartbeats 4000000 in
theorem mX8_loopOf_0 (l : Launch) (D : va_G) (a : Nat → Nat) (cI cJ : ClassId) (tk : Nat) (tf : Nat → Int32) (p1 : Int32) (S : St) (x : Int32 × St) (hf : fX8_loopOf_0 p1 S = some x) : Mv l D (wM a cI cJ) a 17 cI cJ tk tf yX8_loopOf cX8_loopOf 4 { frames := 1, cells := 0, slots := 0, locals := 22 } [.ref (a 0), .int p1] S x := by
  refine opn_v (by decide +kernel) (Nat.le_of_ble_eq_true rfl) (fun p e s m below meth c C hr G ls hl => ?_)
  replace hl : lv_has ls 4 [(0, .ref (a 0)), (1, .int p1)] := hl
  unfold fX8_loopOf_0 at hf
  refine lv_aload_n C.1 C.2.1 dX8_loopOf_0 rfl (lv_at hl 0 rfl) ?_
  refine lv_iconst (v := 0) C.1 C.2.1 dX8_loopOf_1 (by decide) ?_
  obtain ⟨r1, S1, eS1, hf⟩ := bnd_e hf
  refine r_cali (As := [.int (0 : Int32)]) (na := 1) C adM G (mX8_number_0 l D a cI cJ tk tf (0 : Int32) S _ eS1) k_914 k_916 k_38 k_68 k_917 (q0 := 0) rfl (ci := 8) rfl (by decide +kernel) ⟨Nat.le_of_ble_eq_true rfl, Nat.le_of_ble_eq_true rfl⟩ rfl rfl ⟨Nat.zero_le _, Nat.zero_le _⟩ rfl hl.1 rfl (Nat.le_of_ble_eq_true rfl) dX8_loopOf_2 (fun H locs G => ?_)
  refine lv_istore_n (lv' := [(2, .int r1), (0, .ref (a 0)), (1, .int p1)]) C.1 C.2.1 dX8_loopOf_5 rfl hl (by decide) rfl (fun ls hl => ?_)
  refine lv_aload_n C.1 C.2.1 dX8_loopOf_6 rfl (lv_at hl 1 rfl) ?_
  refine lv_iload_n C.1 C.2.1 dX8_loopOf_7 rfl (lv_at hl 2 rfl) ?_
  refine lv_bipush (v := 19) C.1 C.2.1 dX8_loopOf_8 (by decide) ?_
  refine lv_icmp_ne (tgt := 17) C.1 C.2.1 dX8_loopOf_10 (by decide) (fun c2 => ?_) (fun c2 => ?_)
  · replace hf := ifq c2 hf
    refine lv_iload_n C.1 C.2.1 dX8_loopOf_17 rfl (lv_at hl 2 rfl) ?_
    refine lv_bipush (v := 20) C.1 C.2.1 dX8_loopOf_18 (by decide) ?_
    refine lv_icmp_ne (tgt := 27) C.1 C.2.1 dX8_loopOf_20 (by decide) (fun c3 => ?_) (fun c3 => ?_)
    · replace hf := ifq c3 hf
      refine lv_iconst (v := 3) C.1 C.2.1 dX8_loopOf_27 (by decide) ?_
      exact rX8_loopOf_0_28 C hr p1 r1 (3 : Int32) S1 _ _ _ _ hf G (lv_sub hl [1, 2, 0] rfl)
    · replace hf := ifp c3 hf
      refine lv_iconst (v := 2) C.1 C.2.1 dX8_loopOf_23 (by decide) ?_
      refine lv_goto (tgt := 28) C.1 C.2.1 dX8_loopOf_24 (by decide) ?_
      exact rX8_loopOf_0_28 C hr p1 r1 (2 : Int32) S1 _ _ _ _ hf G (lv_sub hl [1, 2, 0] rfl)
  · replace hf := ifp c2 hf
    refine lv_iconst (v := 1) C.1 C.2.1 dX8_loopOf_13 (by decide) ?_
    refine lv_goto (tgt := 28) C.1 C.2.1 dX8_loopOf_14 (by decide) ?_
    exact rX8_loopOf_0_28 C hr p1 r1 (1 : Int32) S1 _ _ _ _ hf G (lv_sub hl [1, 2, 0] rfl)
set_option maxRecDepth 100000 in
set_option maxHeartbeats 4000000 in
theorem mX8_number0_0 (l : Launch) (D : va_G) (a : Nat → Nat) (cI cJ : ClassId) (tk : Nat) (tf : Nat → Int32) (S : St) (x : Int32 × St) (hf : fX8_number0_0 S = some x) : Mi l D (wM a cI cJ) a 17 cI cJ tk tf yX8_number0 cX8_number0 1 (some .int) { frames := 1, cells := 0, slots := 0, locals := 21 } [.ref (a 0)] S x := by
  refine opn_i (by decide +kernel) (Nat.le_of_ble_eq_true rfl) (fun p e s m below meth c C hr G ls hl => ?_)
  replace hl : lv_has ls 1 [(0, .ref (a 0))] := hl
  unfold fX8_number0_0 at hf
  refine lv_aload_n C.1 C.2.1 dX8_number0_0 rfl (lv_at hl 0 rfl) ?_
  refine gM_0_6 C G k_764 dX8_number0_1 ?_
  refine lv_if_le (tgt := 15) C.1 C.2.1 dX8_number0_4 (by decide) (fun c1 => ?_) (fun c1 => ?_)
  · replace hf := ifp c1 hf
    refine lv_iconst (v := 0) C.1 C.2.1 dX8_number0_15 (by decide) ?_
    exact r_iret C hr G hf dX8_number0_16
  · replace hf := ifq c1 hf
    refine lv_aload_n C.1 C.2.1 dX8_number0_7 rfl (lv_at hl 0 rfl) ?_
    refine lv_iconst (v := 0) C.1 C.2.1 dX8_number0_8 (by decide) ?_
    obtain ⟨r2, S2, eS2, hf⟩ := bnd_e hf
    refine r_cali (As := [.int (0 : Int32)]) (na := 1) C adM G (mX8_number_0 l D a cI cJ tk tf (0 : Int32) S _ eS2) k_914 k_916 k_38 k_68 k_917 (q0 := 0) rfl (ci := 8) rfl (by decide +kernel) ⟨Nat.le_of_ble_eq_true rfl, Nat.le_of_ble_eq_true rfl⟩ rfl rfl ⟨Nat.zero_le _, Nat.zero_le _⟩ rfl hl.1 rfl (Nat.le_of_ble_eq_true rfl) dX8_number0_9 (fun H locs G => ?_)
    refine lv_goto (tgt := 16) C.1 C.2.1 dX8_number0_12 (by decide) ?_
    exact r_iret C hr G hf dX8_number0_16
set_option maxRecDepth 100000 in
set_option maxHeartbeats 4000000 in
theorem mX8_told_0 (l : Launch) (D : va_G) (a : Nat → Nat) (cI cJ : ClassId) (tk : Nat) (tf : Nat → Int32) (p1 : Int32) (S : St) (x : Int32 × St) (hf : fX8_told_0 p1 S = some x) : Mi l D (wM a cI cJ) a 17 cI cJ tk tf yX8_told cX8_told 2 (some .int) { frames := 0, cells := 0, slots := 0, locals := 0 } [.ref (a 0), .int p1] S x := by
  refine opn_i (by decide +kernel) (Nat.le_of_ble_eq_true rfl) (fun p e s m below meth c C hr G ls hl => ?_)
  replace hl : lv_has ls 2 [(0, .ref (a 0)), (1, .int p1)] := hl
  unfold fX8_told_0 at hf
  refine lv_iload_n C.1 C.2.1 dX8_told_0 rfl (lv_at hl 1 rfl) ?_
  refine lv_if_ne (tgt := 11) C.1 C.2.1 dX8_told_1 (by decide) (fun c1 => ?_) (fun c1 => ?_)
  · replace hf := ifq c1 hf
    refine lv_iload_n C.1 C.2.1 dX8_told_11 rfl (lv_at hl 1 rfl) ?_
    refine lv_iconst (v := 1) C.1 C.2.1 dX8_told_12 (by decide) ?_
    refine lv_icmp_ne (tgt := 23) C.1 C.2.1 dX8_told_13 (by decide) (fun c2 => ?_) (fun c2 => ?_)
    · replace hf := ifq c2 hf
      refine lv_iload_n C.1 C.2.1 dX8_told_23 rfl (lv_at hl 1 rfl) ?_
      refine lv_iconst (v := 2) C.1 C.2.1 dX8_told_24 (by decide) ?_
      refine lv_icmp_ne (tgt := 43) C.1 C.2.1 dX8_told_25 (by decide) (fun c3 => ?_) (fun c3 => ?_)
      · replace hf := ifq c3 hf
        refine lv_iload_n C.1 C.2.1 dX8_told_43 rfl (lv_at hl 1 rfl) ?_
        refine lv_iconst (v := 3) C.1 C.2.1 dX8_told_44 (by decide) ?_
        refine lv_icmp_ne (tgt := 55) C.1 C.2.1 dX8_told_45 (by decide) (fun c5 => ?_) (fun c5 => ?_)
        · replace hf := ifq c5 hf
          refine lv_iload_n C.1 C.2.1 dX8_told_55 rfl (lv_at hl 1 rfl) ?_
          refine lv_iconst (v := 4) C.1 C.2.1 dX8_told_56 (by decide) ?_
          refine lv_icmp_ne (tgt := 67) C.1 C.2.1 dX8_told_57 (by decide) (fun c6 => ?_) (fun c6 => ?_)
          · replace hf := ifq c6 hf
            refine lv_aload_n C.1 C.2.1 dX8_told_67 rfl (lv_at hl 0 rfl) ?_
            refine gM_0_17 C G k_775 dX8_told_68 ?_
            exact r_iret C hr G hf dX8_told_71
          · replace hf := ifp c6 hf
            refine lv_aload_n C.1 C.2.1 dX8_told_60 rfl (lv_at hl 0 rfl) ?_
            refine gM_0_16 C G k_774 dX8_told_61 ?_
            refine lv_goto (tgt := 71) C.1 C.2.1 dX8_told_64 (by decide) ?_
            exact r_iret C hr G hf dX8_told_71
        · replace hf := ifp c5 hf
          refine lv_aload_n C.1 C.2.1 dX8_told_48 rfl (lv_at hl 0 rfl) ?_
          refine gM_0_13 C G k_771 dX8_told_49 ?_
          refine lv_goto (tgt := 71) C.1 C.2.1 dX8_told_52 (by decide) ?_
          exact r_iret C hr G hf dX8_told_71
      · replace hf := ifp c3 hf
        refine lv_aload_n C.1 C.2.1 dX8_told_28 rfl (lv_at hl 0 rfl) ?_
        refine gM_0_12 C G k_770 dX8_told_29 ?_
        refine lv_if_eq (tgt := 39) C.1 C.2.1 dX8_told_32 (by decide) (fun c4 => ?_) (fun c4 => ?_)
        · replace hf := ifp c4 hf
          refine lv_iconst (v := 0) C.1 C.2.1 dX8_told_39 (by decide) ?_
          refine lv_goto (tgt := 71) C.1 C.2.1 dX8_told_40 (by decide) ?_
          exact r_iret C hr G hf dX8_told_71
        · replace hf := ifq c4 hf
          refine lv_iconst (v := 1) C.1 C.2.1 dX8_told_35 (by decide) ?_
          refine lv_goto (tgt := 71) C.1 C.2.1 dX8_told_36 (by decide) ?_
          exact r_iret C hr G hf dX8_told_71
    · replace hf := ifp c2 hf
      refine lv_aload_n C.1 C.2.1 dX8_told_16 rfl (lv_at hl 0 rfl) ?_
      refine gM_0_11 C G k_769 dX8_told_17 ?_
      refine lv_goto (tgt := 71) C.1 C.2.1 dX8_told_20 (by decide) ?_
      exact r_iret C hr G hf dX8_told_71
  · replace hf := ifp c1 hf
    refine lv_aload_n C.1 C.2.1 dX8_told_4 rfl (lv_at hl 0 rfl) ?_
    refine gM_0_10 C G k_768 dX8_told_5 ?_
    refine lv_goto (tgt := 71) C.1 C.2.1 dX8_told_8 (by decide) ?_
    exact r_iret C hr G hf dX8_told_71
set_option maxRecDepth 100000 in
set_option maxHeartbeats 4000000 in
theorem rX8_loop_0_44 {p : Program} {l : Launch} {e : Env} {s : State} {m : MethodId} {args : Array Value} {below : List Frame} {meth : Method} {c : Code} {D : va_G} {a : Nat → Nat} {cI cJ : ClassId} {tk : Nat} {tf : Nat → Int32} (C : Cx p s m args meth c RX8 cX8_loop 2 D cI cJ tk tf (AR a 17 s.heap.size)) (hr : meth.sig.returnType = (some .int)) : ∀ (S : St) (x : Int32 × St) (H : Heap) (locs : List Loc) (ls : Array Slot), fX8_loop_0_44 S = some x → Wd D (wM a cI cJ) (AR a 17 s.heap.size) s S H locs → lv_has ls 2 [] → W p l e { frames := 0, cells := 0, slots := 0, locals := 0 } s m args below meth c H locs 0 0 (MQ below (Qi D (wM a cI cJ) (AR a 17 s.heap.size) x) args s 0 0 (AR a 17 s.heap.size)) (F0 m 44 ls []) := by
  intro S x H locs ls hf G hl
  unfold fX8_loop_0_44 at hf
  refine lv_iconst (v := (-1)) C.1 C.2.1 dX8_loop_44 (by decide) ?_
  exact r_iret C hr G hf dX8_loop_45
set_option maxRecDepth 100000 in
set_option maxHeartbeats 4000000 in
theorem rX8_loop_0_26 {p : Program} {l : Launch} {e : Env} {s : State} {m : MethodId} {args : Array Value} {below : List Frame} {meth : Method} {c : Code} {D : va_G} {a : Nat → Nat} {cI cJ : ClassId} {tk : Nat} {tf : Nat → Int32} (C : Cx p s m args meth c RX8 cX8_loop 2 D cI cJ tk tf (AR a 17 s.heap.size)) (hr : meth.sig.returnType = (some .int)) : ∀ (q1 : Int32) (S : St) (x : Int32 × St) (H : Heap) (locs : List Loc) (ls : Array Slot), fX8_loop_0_26 q1 S = some x → Wd D (wM a cI cJ) (AR a 17 s.heap.size) s S H locs → lv_has ls 2 [(0, .ref (a 0)), (1, .int q1)] → W p l e { frames := 0, cells := 0, slots := 0, locals := 0 } s m args below meth c H locs 0 0 (MQ below (Qi D (wM a cI cJ) (AR a 17 s.heap.size) x) args s 0 0 (AR a 17 s.heap.size)) (F0 m 26 ls []) := by
  intro q1 S x H locs ls hf G hl
  unfold fX8_loop_0_26 at hf
  refine lv_iload_n C.1 C.2.1 dX8_loop_26 rfl (lv_at hl 1 rfl) ?_
  refine lv_if_lt (tgt := 44) C.1 C.2.1 dX8_loop_27 (by decide) (fun c1 => ?_) (fun c1 => ?_)
  · replace hf := ifp c1 hf
    exact rX8_loop_0_44 C hr S _ _ _ _ hf G (lv_sub hl [] rfl)
  · replace hf := ifq c1 hf
    refine lv_aload_n C.1 C.2.1 dX8_loop_30 rfl (lv_at hl 0 rfl) ?_
    refine gM_0_20 C G k_778 dX8_loop_31 ?_
    refine lv_iload_n C.1 C.2.1 dX8_loop_34 rfl (lv_at hl 1 rfl) ?_
    obtain ⟨hi2, hf⟩ := ifn hf
    refine aM_11 C G hi2 dX8_loop_35 ?_
    refine lv_iconst (v := 4) C.1 C.2.1 dX8_loop_36 (by decide) ?_
    refine lv_icmp_ge (tgt := 44) C.1 C.2.1 dX8_loop_37 (by decide) (fun c3 => ?_) (fun c3 => ?_)
    · replace hf := ifp c3 hf
      exact rX8_loop_0_44 C hr S _ _ _ _ hf G (lv_sub hl [] rfl)
    · replace hf := ifq c3 hf
      refine lv_iload_n C.1 C.2.1 dX8_loop_40 rfl (lv_at hl 1 rfl) ?_
      refine lv_goto (tgt := 45) C.1 C.2.1 dX8_loop_41 (by decide) ?_
      exact r_iret C hr G hf dX8_loop_45
set_option maxRecDepth 100000 in
set_option maxHeartbeats 4000000 in
theorem rX8_loop_0_7 {p : Program} {l : Launch} {e : Env} {s : State} {m : MethodId} {args : Array Value} {below : List Frame} {meth : Method} {c : Code} {D : va_G} {a : Nat → Nat} {cI cJ : ClassId} {tk : Nat} {tf : Nat → Int32} (C : Cx p s m args meth c RX8 cX8_loop 2 D cI cJ tk tf (AR a 17 s.heap.size)) (hr : meth.sig.returnType = (some .int)) : ∀ (n : Nat) (q1 : Int32) (S : St) (x : Int32 × St) (H : Heap) (locs : List Loc) (ls : Array Slot), fX8_loop_0_7 n q1 S = some x → Wd D (wM a cI cJ) (AR a 17 s.heap.size) s S H locs → lv_has ls 2 [(0, .ref (a 0)), (1, .int q1)] → W p l e { frames := 0, cells := 0, slots := 0, locals := 0 } s m args below meth c H locs 0 0 (MQ below (Qi D (wM a cI cJ) (AR a 17 s.heap.size) x) args s 0 0 (AR a 17 s.heap.size)) (F0 m 7 ls []) := by
  intro n
  induction n with
  | zero => intro q1 S x H locs ls hf G hl; cases hf
  | succ n ih =>
    intro q1 S x H locs ls hf G hl
    rw [fX8_loop_0_7.eq_2] at hf
    refine lv_iload_n C.1 C.2.1 dX8_loop_7 rfl (lv_at hl 1 rfl) ?_
    refine lv_if_lt (tgt := 26) C.1 C.2.1 dX8_loop_8 (by decide) (fun c1 => ?_) (fun c1 => ?_)
    · replace hf := ifp c1 hf
      exact rX8_loop_0_26 C hr q1 S _ _ _ _ hf G (lv_sub hl [0, 1] rfl)
    · replace hf := ifq c1 hf
      refine lv_aload_n C.1 C.2.1 dX8_loop_11 rfl (lv_at hl 0 rfl) ?_
      refine gM_0_20 C G k_778 dX8_loop_12 ?_
      refine lv_iload_n C.1 C.2.1 dX8_loop_15 rfl (lv_at hl 1 rfl) ?_
      obtain ⟨hi2, hf⟩ := ifn hf
      refine aM_11 C G hi2 dX8_loop_16 ?_
      refine lv_if_ne (tgt := 26) C.1 C.2.1 dX8_loop_17 (by decide) (fun c3 => ?_) (fun c3 => ?_)
      · replace hf := ifq c3 hf
        exact rX8_loop_0_26 C hr q1 S _ _ _ _ hf G (lv_sub hl [0, 1] rfl)
      · replace hf := ifp c3 hf
        obtain ⟨y4, ey4, hf⟩ := stv_e hf
        refine lv_iinc (v := y4) (lv' := [(1, .int y4), (0, .ref (a 0))]) C.1 C.2.1 dX8_loop_20 hl (k := 1) rfl (by rw [ey4]; rfl) (by decide) rfl (fun ls hl => ?_)
        refine lv_goto (tgt := 7) C.1 C.2.1 dX8_loop_23 (by decide) ?_
        exact ih y4 S _ _ _ _ hf G (lv_sub hl [1, 0] rfl)
set_option maxRecDepth 100000 in
set_option maxHeartbeats 4000000 in
theorem mX8_loop_0 (l : Launch) (D : va_G) (a : Nat → Nat) (cI cJ : ClassId) (tk : Nat) (tf : Nat → Int32) (S : St) (x : Int32 × St) (hf : fX8_loop_0 S = some x) : Mi l D (wM a cI cJ) a 17 cI cJ tk tf yX8_loop cX8_loop 2 (some .int) { frames := 0, cells := 0, slots := 0, locals := 0 } [.ref (a 0)] S x := by
  refine opn_i (by decide +kernel) (Nat.le_of_ble_eq_true rfl) (fun p e s m below meth c C hr G ls hl => ?_)
  replace hl : lv_has ls 2 [(0, .ref (a 0))] := hl
  unfold fX8_loop_0 at hf
  refine lv_aload_n C.1 C.2.1 dX8_loop_0 rfl (lv_at hl 0 rfl) ?_
  refine gM_0_19 C G k_777 dX8_loop_1 ?_
  refine lv_iconst (v := 1) C.1 C.2.1 dX8_loop_4 (by decide) ?_
  refine lv_isub C.1 C.2.1 dX8_loop_5 ?_
  obtain ⟨y1, ey1, hf⟩ := stv_e hf
  refine nm_i ey1 ?_
  refine lv_istore_n (lv' := [(1, .int y1), (0, .ref (a 0))]) C.1 C.2.1 dX8_loop_6 rfl hl (by decide) rfl (fun ls hl => ?_)
  exact rX8_loop_0_7 C hr 500 y1 S _ _ _ _ hf G (lv_sub hl [1, 0] rfl)
set_option maxRecDepth 100000 in
set_option maxHeartbeats 4000000 in
theorem rX8_govern_0_166 {p : Program} {l : Launch} {e : Env} {s : State} {m : MethodId} {args : Array Value} {below : List Frame} {meth : Method} {c : Code} {D : va_G} {a : Nat → Nat} {cI cJ : ClassId} {tk : Nat} {tf : Nat → Int32} (C : Cx p s m args meth c RX8 cX8_govern 3 D cI cJ tk tf (AR a 17 s.heap.size)) (hr : meth.sig.returnType = none) : ∀ (z1 : Int32) (S : St) (x : Int32 × St) (H : Heap) (locs : List Loc) (ls : Array Slot), fX8_govern_0_166 z1 S = some x → Wd D (wM a cI cJ) (AR a 17 s.heap.size) s S H locs → lv_has ls 3 [] → W p l e { frames := 3, cells := 0, slots := 0, locals := 66 } s m args below meth c H locs 0 0 (MQ below (Qv D (wM a cI cJ) (AR a 17 s.heap.size) x) args s 0 0 (AR a 17 s.heap.size)) (F0 m 166 ls [.int z1, .ref (a 0)]) := by
  intro z1 S x H locs ls hf G hl
  unfold fX8_govern_0_166 at hf
  obtain ⟨hb1, hf⟩ := ifn hf
  refine pM_0_12 C G hb1 k_770 dX8_govern_166 (fun H locs G => ?_)
  obtain ⟨S2, eS2, hf⟩ := stp_e hf
  rw [← eS2] at G
  clear eS2
  exact r_vret C hr G hf dX8_govern_169
set_option maxRecDepth 100000 in
set_option maxHeartbeats 4000000 in
theorem rX8_govern_0_165 {p : Program} {l : Launch} {e : Env} {s : State} {m : MethodId} {args : Array Value} {below : List Frame} {meth : Method} {c : Code} {D : va_G} {a : Nat → Nat} {cI cJ : ClassId} {tk : Nat} {tf : Nat → Int32} (C : Cx p s m args meth c RX8 cX8_govern 3 D cI cJ tk tf (AR a 17 s.heap.size)) (hr : meth.sig.returnType = none) : ∀ (S : St) (x : Int32 × St) (H : Heap) (locs : List Loc) (ls : Array Slot), fX8_govern_0_165 S = some x → Wd D (wM a cI cJ) (AR a 17 s.heap.size) s S H locs → lv_has ls 3 [] → W p l e { frames := 3, cells := 0, slots := 0, locals := 66 } s m args below meth c H locs 0 0 (MQ below (Qv D (wM a cI cJ) (AR a 17 s.heap.size) x) args s 0 0 (AR a 17 s.heap.size)) (F0 m 165 ls [.ref (a 0)]) := by
  intro S x H locs ls hf G hl
  unfold fX8_govern_0_165 at hf
  refine lv_iconst (v := 0) C.1 C.2.1 dX8_govern_165 (by decide) ?_
  exact rX8_govern_0_166 C hr (0 : Int32) S _ _ _ _ hf G (lv_sub hl [] rfl)
set_option maxRecDepth 100000 in
set_option maxHeartbeats 4000000 in
theorem rX8_govern_0_140 {p : Program} {l : Launch} {e : Env} {s : State} {m : MethodId} {args : Array Value} {below : List Frame} {meth : Method} {c : Code} {D : va_G} {a : Nat → Nat} {cI cJ : ClassId} {tk : Nat} {tf : Nat → Int32} (C : Cx p s m args meth c RX8 cX8_govern 3 D cI cJ tk tf (AR a 17 s.heap.size)) (hr : meth.sig.returnType = none) : ∀ (q2 : Int32) (z1 : Int32) (S : St) (x : Int32 × St) (H : Heap) (locs : List Loc) (ls : Array Slot), fX8_govern_0_140 q2 z1 S = some x → Wd D (wM a cI cJ) (AR a 17 s.heap.size) s S H locs → lv_has ls 3 [(0, .ref (a 0)), (2, .int q2)] → W p l e { frames := 3, cells := 0, slots := 0, locals := 66 } s m args below meth c H locs 0 0 (MQ below (Qv D (wM a cI cJ) (AR a 17 s.heap.size) x) args s 0 0 (AR a 17 s.heap.size)) (F0 m 140 ls [.int z1, .ref (a 0)]) := by
  intro q2 z1 S x H locs ls hf G hl
  unfold fX8_govern_0_140 at hf
  refine lv_aload_n C.1 C.2.1 dX8_govern_140 rfl (lv_at hl 0 rfl) ?_
  refine lv_iload_n C.1 C.2.1 dX8_govern_141 rfl (lv_at hl 1 rfl) ?_
  obtain ⟨r1, S1, eS1, hf⟩ := bnd_e hf
  refine r_cali (As := [.int q2]) (na := 1) C adM G (mX8_told_0 l D a cI cJ tk tf q2 S _ eS1) k_989 k_991 k_56 k_68 k_992 (q0 := 0) rfl (ci := 8) rfl (by decide +kernel) ⟨Nat.le_of_ble_eq_true rfl, Nat.le_of_ble_eq_true rfl⟩ rfl rfl ⟨Nat.zero_le _, Nat.zero_le _⟩ rfl hl.1 rfl (Nat.le_of_ble_eq_true rfl) dX8_govern_142 (fun H locs G => ?_)
  obtain ⟨r2, S2, eS2, hf⟩ := bnd_e hf
  refine r_calv (As := [.int z1, .int r1]) (na := 2) C adM G (mX8_lay_0 l D a cI cJ tk tf z1 r1 S1 _ eS2) k_871 k_873 k_31 k_68 k_874 (q0 := 0) rfl (ci := 8) rfl (by decide +kernel) ⟨Nat.le_of_ble_eq_true rfl, Nat.le_of_ble_eq_true rfl⟩ rfl rfl ⟨Nat.zero_le _, Nat.zero_le _⟩ rfl hl.1 rfl (Nat.le_of_ble_eq_true rfl) dX8_govern_145 (fun H locs G => ?_)
  refine lv_aload_n C.1 C.2.1 dX8_govern_148 rfl (lv_at hl 0 rfl) ?_
  refine lv_aload_n C.1 C.2.1 dX8_govern_149 rfl (lv_at hl 0 rfl) ?_
  refine gM_0_12 C G k_770 dX8_govern_150 ?_
  refine lv_if_eq (tgt := 165) C.1 C.2.1 dX8_govern_153 (by decide) (fun c3 => ?_) (fun c3 => ?_)
  · replace hf := ifp c3 hf
    exact rX8_govern_0_165 C hr S2 _ _ _ _ hf G (lv_sub hl [] rfl)
  · replace hf := ifq c3 hf
    refine lv_iload_n C.1 C.2.1 dX8_govern_156 rfl (lv_at hl 1 rfl) ?_
    refine lv_iconst (v := 2) C.1 C.2.1 dX8_govern_157 (by decide) ?_
    refine lv_icmp_eq (tgt := 165) C.1 C.2.1 dX8_govern_158 (by decide) (fun c4 => ?_) (fun c4 => ?_)
    · replace hf := ifp c4 hf
      exact rX8_govern_0_165 C hr S2 _ _ _ _ hf G (lv_sub hl [] rfl)
    · replace hf := ifq c4 hf
      refine lv_iconst (v := 1) C.1 C.2.1 dX8_govern_161 (by decide) ?_
      refine lv_goto (tgt := 166) C.1 C.2.1 dX8_govern_162 (by decide) ?_
      exact rX8_govern_0_166 C hr (1 : Int32) S2 _ _ _ _ hf G (lv_sub hl [] rfl)
set_option maxRecDepth 100000 in
set_option maxHeartbeats 4000000 in
theorem mX8_govern_0 (l : Launch) (D : va_G) (a : Nat → Nat) (cI cJ : ClassId) (tk : Nat) (tf : Nat → Int32) (p1 : Int32) (S : St) (x : Int32 × St) (hf : fX8_govern_0 p1 S = some x) : Mv l D (wM a cI cJ) a 17 cI cJ tk tf yX8_govern cX8_govern 3 { frames := 3, cells := 0, slots := 0, locals := 66 } [.ref (a 0), .int p1] S x := by
  refine opn_v (by decide +kernel) (Nat.le_of_ble_eq_true rfl) (fun p e s m below meth c C hr G ls hl => ?_)
  replace hl : lv_has ls 3 [(0, .ref (a 0)), (1, .int p1)] := hl
  unfold fX8_govern_0 at hf
  refine lv_aload_n C.1 C.2.1 dX8_govern_0 rfl (lv_at hl 0 rfl) ?_
  obtain ⟨r1, S1, eS1, hf⟩ := bnd_e hf
  refine r_cali (As := []) (na := 0) C adM G (mX8_number0_0 l D a cI cJ tk tf S _ eS1) k_985 k_987 k_55 k_68 k_988 (q0 := 0) rfl (ci := 8) rfl (by decide +kernel) ⟨Nat.le_of_ble_eq_true rfl, Nat.le_of_ble_eq_true rfl⟩ rfl rfl ⟨Nat.zero_le _, Nat.zero_le _⟩ rfl hl.1 rfl (Nat.le_of_ble_eq_true rfl) dX8_govern_1 (fun H locs G => ?_)
  refine lv_istore_n (lv' := [(2, .int r1), (0, .ref (a 0)), (1, .int p1)]) C.1 C.2.1 dX8_govern_4 rfl hl (by decide) rfl (fun ls hl => ?_)
  refine lv_iload_n C.1 C.2.1 dX8_govern_5 rfl (lv_at hl 2 rfl) ?_
  by_cases c2 : p1 = (22 : Int32)
  · replace hf := ifp c2 hf
    refine lv_tableIn (tgt := 40) C.1 C.2.1 dX8_govern_6 (by rw [c2]; decide) (by rw [c2]; decide) (by rw [c2]; rfl) (by decide) ?_
    refine lv_aload_n C.1 C.2.1 dX8_govern_40 rfl (lv_at hl 1 rfl) ?_
    refine lv_aload_n C.1 C.2.1 dX8_govern_41 rfl (lv_at hl 1 rfl) ?_
    obtain ⟨r3, S3, eS3, hf⟩ := bnd_e hf
    refine r_cali (As := []) (na := 0) C adM G (mX8_loop_0 l D a cI cJ tk tf S1 _ eS3) k_933 k_935 k_42 k_68 k_936 (q0 := 0) rfl (ci := 8) rfl (by decide +kernel) ⟨Nat.le_of_ble_eq_true rfl, Nat.le_of_ble_eq_true rfl⟩ rfl rfl ⟨Nat.zero_le _, Nat.zero_le _⟩ rfl hl.1 rfl (Nat.le_of_ble_eq_true rfl) dX8_govern_42 (fun H locs G => ?_)
    refine pM_0_19 C G k_777 dX8_govern_45 (fun H locs G => ?_)
    obtain ⟨S4, eS4, hf⟩ := stp_e hf
    rw [← eS4] at G
    clear eS4
    refine lv_goto (tgt := 169) C.1 C.2.1 dX8_govern_48 (by decide) ?_
    exact r_vret C hr G hf dX8_govern_169
  · replace hf := ifq c2 hf
    by_cases c5 : p1 = (23 : Int32)
    · replace hf := ifp c5 hf
      refine lv_tableIn (tgt := 51) C.1 C.2.1 dX8_govern_6 (by rw [c5]; decide) (by rw [c5]; decide) (by rw [c5]; rfl) (by decide) ?_
      refine lv_aload_n C.1 C.2.1 dX8_govern_51 rfl (lv_at hl 1 rfl) ?_
      refine lv_bipush (v := 99) C.1 C.2.1 dX8_govern_52 (by decide) ?_
      obtain ⟨r6, S6, eS6, hf⟩ := bnd_e hf
      refine r_calv (As := [.int (99 : Int32)]) (na := 1) C adM G (mX8_stop_0 l D a cI cJ tk tf (99 : Int32) S1 _ eS6) k_953 k_955 k_47 k_68 k_956 (q0 := 0) rfl (ci := 8) rfl (by decide +kernel) ⟨Nat.le_of_ble_eq_true rfl, Nat.le_of_ble_eq_true rfl⟩ rfl rfl ⟨Nat.zero_le _, Nat.zero_le _⟩ rfl hl.1 rfl (Nat.le_of_ble_eq_true rfl) dX8_govern_54 (fun H locs G => ?_)
      refine lv_goto (tgt := 169) C.1 C.2.1 dX8_govern_57 (by decide) ?_
      exact r_vret C hr G hf dX8_govern_169
    · replace hf := ifq c5 hf
      by_cases c7 : p1 = (24 : Int32)
      · replace hf := ifp c7 hf
        refine lv_tableIn (tgt := 60) C.1 C.2.1 dX8_govern_6 (by rw [c7]; decide) (by rw [c7]; decide) (by rw [c7]; rfl) (by decide) ?_
        refine lv_aload_n C.1 C.2.1 dX8_govern_60 rfl (lv_at hl 1 rfl) ?_
        refine lv_dup C.1 C.2.1 dX8_govern_61 rfl ?_
        refine gM_0_6 C G k_764 dX8_govern_62 ?_
        refine lv_iconst (v := 1) C.1 C.2.1 dX8_govern_65 (by decide) ?_
        refine lv_isub C.1 C.2.1 dX8_govern_66 ?_
        refine pM_0_6 C G k_764 dX8_govern_67 (fun H locs G => ?_)
        obtain ⟨S8, eS8, hf⟩ := stp_e hf
        rw [← eS8] at G
        clear eS8
        refine lv_aload_n C.1 C.2.1 dX8_govern_70 rfl (lv_at hl 1 rfl) ?_
        refine lv_iconst (v := 4) C.1 C.2.1 dX8_govern_71 (by decide) ?_
        refine lv_iconst (v := 0) C.1 C.2.1 dX8_govern_72 (by decide) ?_
        obtain ⟨r9, S9, eS9, hf⟩ := bnd_e hf
        refine r_calv (As := [.int (4 : Int32), .int (0 : Int32)]) (na := 2) C adM G (mX8_come_0 l D a cI cJ tk tf (4 : Int32) (0 : Int32) S8 _ eS9) k_887 k_889 k_32 k_68 k_890 (q0 := 0) rfl (ci := 8) rfl (by decide +kernel) ⟨Nat.le_of_ble_eq_true rfl, Nat.le_of_ble_eq_true rfl⟩ rfl rfl ⟨Nat.zero_le _, Nat.zero_le _⟩ rfl hl.1 rfl (Nat.le_of_ble_eq_true rfl) dX8_govern_73 (fun H locs G => ?_)
        refine lv_aload_n C.1 C.2.1 dX8_govern_76 rfl (lv_at hl 1 rfl) ?_
        refine lv_iconst (v := 0) C.1 C.2.1 dX8_govern_77 (by decide) ?_
        refine lv_iload_n C.1 C.2.1 dX8_govern_78 rfl (lv_at hl 0 rfl) ?_
        obtain ⟨r10, S10, eS10, hf⟩ := bnd_e hf
        refine r_calv (As := [.int (0 : Int32), .int r1]) (na := 2) C adM G (mX8_come_0 l D a cI cJ tk tf (0 : Int32) r1 S9 _ eS10) k_887 k_889 k_32 k_68 k_890 (q0 := 0) rfl (ci := 8) rfl (by decide +kernel) ⟨Nat.le_of_ble_eq_true rfl, Nat.le_of_ble_eq_true rfl⟩ rfl rfl ⟨Nat.zero_le _, Nat.zero_le _⟩ rfl hl.1 rfl (Nat.le_of_ble_eq_true rfl) dX8_govern_79 (fun H locs G => ?_)
        refine lv_goto (tgt := 169) C.1 C.2.1 dX8_govern_82 (by decide) ?_
        exact r_vret C hr G hf dX8_govern_169
      · replace hf := ifq c7 hf
        by_cases c11 : p1 = (25 : Int32)
        · replace hf := ifp c11 hf
          refine lv_tableIn (tgt := 85) C.1 C.2.1 dX8_govern_6 (by rw [c11]; decide) (by rw [c11]; decide) (by rw [c11]; rfl) (by decide) ?_
          refine lv_aload_n C.1 C.2.1 dX8_govern_85 rfl (lv_at hl 1 rfl) ?_
          refine gM_0_9 C G k_767 dX8_govern_86 ?_
          refine lv_aload_n C.1 C.2.1 dX8_govern_89 rfl (lv_at hl 1 rfl) ?_
          refine lv_iconst (v := 1) C.1 C.2.1 dX8_govern_90 (by decide) ?_
          obtain ⟨r12, S12, eS12, hf⟩ := bnd_e hf
          refine r_cali (As := [.int (1 : Int32)]) (na := 1) C adM G (mX8_number_0 l D a cI cJ tk tf (1 : Int32) S1 _ eS12) k_914 k_916 k_38 k_68 k_917 (q0 := 0) rfl (ci := 8) rfl (by decide +kernel) ⟨Nat.le_of_ble_eq_true rfl, Nat.le_of_ble_eq_true rfl⟩ rfl rfl ⟨Nat.zero_le _, Nat.zero_le _⟩ rfl hl.1 rfl (Nat.le_of_ble_eq_true rfl) dX8_govern_91 (fun H locs G => ?_)
          refine lv_iload_n C.1 C.2.1 dX8_govern_94 rfl (lv_at hl 0 rfl) ?_
          obtain ⟨hi13, hf⟩ := ifn hf
          refine sM_8 C G hi13 dX8_govern_95 (fun H locs G => ?_)
          obtain ⟨S13, eS13, hf⟩ := stp_e hf
          rw [← eS13] at G
          clear eS13
          refine lv_aload_n C.1 C.2.1 dX8_govern_96 rfl (lv_at hl 1 rfl) ?_
          refine lv_aload_n C.1 C.2.1 dX8_govern_97 rfl (lv_at hl 1 rfl) ?_
          refine gM_0_6 C G k_764 dX8_govern_98 ?_
          refine lv_iconst (v := 2) C.1 C.2.1 dX8_govern_101 (by decide) ?_
          refine lv_isub C.1 C.2.1 dX8_govern_102 ?_
          refine pM_0_6 C G k_764 dX8_govern_103 (fun H locs G => ?_)
          obtain ⟨S14, eS14, hf⟩ := stp_e hf
          rw [← eS14] at G
          clear eS14
          refine lv_goto (tgt := 169) C.1 C.2.1 dX8_govern_106 (by decide) ?_
          exact r_vret C hr G hf dX8_govern_169
        · replace hf := ifq c11 hf
          by_cases c15 : p1 = (26 : Int32)
          · replace hf := ifp c15 hf
            refine lv_tableIn (tgt := 109) C.1 C.2.1 dX8_govern_6 (by rw [c15]; decide) (by rw [c15]; decide) (by rw [c15]; rfl) (by decide) ?_
            refine lv_aload_n C.1 C.2.1 dX8_govern_109 rfl (lv_at hl 1 rfl) ?_
            refine lv_iload_n C.1 C.2.1 dX8_govern_110 rfl (lv_at hl 0 rfl) ?_
            refine lv_bipush (v := 26) C.1 C.2.1 dX8_govern_111 (by decide) ?_
            obtain ⟨r16, S16, eS16, hf⟩ := bnd_e hf
            refine r_calv (As := [.int r1, .int (26 : Int32)]) (na := 2) C adM G (mX8_arise_0 l D a cI cJ tk tf r1 (26 : Int32) S1 _ eS16) k_949 k_951 k_46 k_68 k_952 (q0 := 0) rfl (ci := 8) rfl (by decide +kernel) ⟨Nat.le_of_ble_eq_true rfl, Nat.le_of_ble_eq_true rfl⟩ rfl rfl ⟨Nat.zero_le _, Nat.zero_le _⟩ rfl hl.1 rfl (Nat.le_of_ble_eq_true rfl) dX8_govern_113 (fun H locs G => ?_)
            refine lv_goto (tgt := 169) C.1 C.2.1 dX8_govern_116 (by decide) ?_
            exact r_vret C hr G hf dX8_govern_169
          · replace hf := ifq c15 hf
            have nc2 : (p1).toInt ≠ 22 := nti c2
            have nc5 : (p1).toInt ≠ 23 := nti c5
            have nc7 : (p1).toInt ≠ 24 := nti c7
            have nc11 : (p1).toInt ≠ 25 := nti c11
            have nc15 : (p1).toInt ≠ 26 := nti c15
            refine lv_tableOut (tgt := 119) C.1 C.2.1 dX8_govern_6 (by omega) (by decide) ?_
            refine lv_aload_n C.1 C.2.1 dX8_govern_119 rfl (lv_at hl 1 rfl) ?_
            refine lv_dup C.1 C.2.1 dX8_govern_120 rfl ?_
            refine gM_0_6 C G k_764 dX8_govern_121 ?_
            refine lv_iconst (v := 1) C.1 C.2.1 dX8_govern_124 (by decide) ?_
            refine lv_isub C.1 C.2.1 dX8_govern_125 ?_
            refine pM_0_6 C G k_764 dX8_govern_126 (fun H locs G => ?_)
            obtain ⟨S17, eS17, hf⟩ := stp_e hf
            rw [← eS17] at G
            clear eS17
            refine lv_aload_n C.1 C.2.1 dX8_govern_129 rfl (lv_at hl 1 rfl) ?_
            refine lv_iload_n C.1 C.2.1 dX8_govern_130 rfl (lv_at hl 0 rfl) ?_
            refine lv_iconst (v := 2) C.1 C.2.1 dX8_govern_131 (by decide) ?_
            refine lv_icmp_ne (tgt := 139) C.1 C.2.1 dX8_govern_132 (by decide) (fun c18 => ?_) (fun c18 => ?_)
            · replace hf := ifq c18 hf
              refine lv_iconst (v := 0) C.1 C.2.1 dX8_govern_139 (by decide) ?_
              exact rX8_govern_0_140 C hr r1 (0 : Int32) S17 _ _ _ _ hf G (lv_sub hl [1, 0] rfl)
            · replace hf := ifp c18 hf
              refine lv_iconst (v := 1) C.1 C.2.1 dX8_govern_135 (by decide) ?_
              refine lv_goto (tgt := 140) C.1 C.2.1 dX8_govern_136 (by decide) ?_
              exact rX8_govern_0_140 C hr r1 (1 : Int32) S17 _ _ _ _ hf G (lv_sub hl [1, 0] rfl)
set_option maxRecDepth 100000 in
set_option maxHeartbeats 4000000 in
theorem rX8_work_0_10 {p : Program} {l : Launch} {e : Env} {s : State} {m : MethodId} {args : Array Value} {below : List Frame} {meth : Method} {c : Code} {D : va_G} {a : Nat → Nat} {cI cJ : ClassId} {tk : Nat} {tf : Nat → Int32} (C : Cx p s m args meth c RX8 cX8_work 2 D cI cJ tk tf (AR a 17 s.heap.size)) (hr : meth.sig.returnType = none) : ∀ (q1 : Int32) (S : St) (x : Int32 × St) (H : Heap) (locs : List Loc) (ls : Array Slot), fX8_work_0_10 q1 S = some x → Wd D (wM a cI cJ) (AR a 17 s.heap.size) s S H locs → lv_has ls 2 [(0, .ref (a 0)), (1, .int q1)] → W p l e { frames := 4, cells := 0, slots := 0, locals := 88 } s m args below meth c H locs 0 0 (MQ below (Qv D (wM a cI cJ) (AR a 17 s.heap.size) x) args s 0 0 (AR a 17 s.heap.size)) (F0 m 10 ls []) := by
  intro q1 S x H locs ls hf G hl
  unfold fX8_work_0_10 at hf
  refine lv_aload_n C.1 C.2.1 dX8_work_10 rfl (lv_at hl 0 rfl) ?_
  refine lv_iload_n C.1 C.2.1 dX8_work_11 rfl (lv_at hl 1 rfl) ?_
  obtain ⟨r1, S1, eS1, hf⟩ := bnd_e hf
  refine r_calv (As := [.int q1]) (na := 1) C adM G (mX8_reckon_0 l D a cI cJ tk tf q1 S _ eS1) k_961 k_963 k_49 k_68 k_964 (q0 := 0) rfl (ci := 8) rfl (by decide +kernel) ⟨Nat.le_of_ble_eq_true rfl, Nat.le_of_ble_eq_true rfl⟩ rfl rfl ⟨Nat.zero_le _, Nat.zero_le _⟩ rfl hl.1 rfl (Nat.le_of_ble_eq_true rfl) dX8_work_12 (fun H locs G => ?_)
  refine lv_goto (tgt := 65) C.1 C.2.1 dX8_work_15 (by decide) ?_
  exact r_vret C hr G hf dX8_work_65
set_option maxRecDepth 100000 in
set_option maxHeartbeats 4000000 in
theorem mX8_work_0 (l : Launch) (D : va_G) (a : Nat → Nat) (cI cJ : ClassId) (tk : Nat) (tf : Nat → Int32) (p1 : Int32) (S : St) (x : Int32 × St) (hf : fX8_work_0 p1 S = some x) : Mv l D (wM a cI cJ) a 17 cI cJ tk tf yX8_work cX8_work 2 { frames := 4, cells := 0, slots := 0, locals := 88 } [.ref (a 0), .int p1] S x := by
  refine opn_v (by decide +kernel) (Nat.le_of_ble_eq_true rfl) (fun p e s m below meth c C hr G ls hl => ?_)
  replace hl : lv_has ls 2 [(0, .ref (a 0)), (1, .int p1)] := hl
  unfold fX8_work_0 at hf
  refine lv_iload_n C.1 C.2.1 dX8_work_0 rfl (lv_at hl 1 rfl) ?_
  refine lv_iconst (v := 4) C.1 C.2.1 dX8_work_1 (by decide) ?_
  refine lv_icmp_lt (tgt := 10) C.1 C.2.1 dX8_work_2 (by decide) (fun c1 => ?_) (fun c1 => ?_)
  · replace hf := ifp c1 hf
    exact rX8_work_0_10 C hr p1 S _ _ _ _ hf G (lv_sub hl [0, 1] rfl)
  · replace hf := ifq c1 hf
    refine lv_iload_n C.1 C.2.1 dX8_work_5 rfl (lv_at hl 1 rfl) ?_
    refine lv_iconst (v := 5) C.1 C.2.1 dX8_work_6 (by decide) ?_
    refine lv_icmp_ne (tgt := 18) C.1 C.2.1 dX8_work_7 (by decide) (fun c2 => ?_) (fun c2 => ?_)
    · replace hf := ifq c2 hf
      refine lv_iload_n C.1 C.2.1 dX8_work_18 rfl (lv_at hl 1 rfl) ?_
      refine lv_bipush (v := 14) C.1 C.2.1 dX8_work_19 (by decide) ?_
      refine lv_icmp_ge (tgt := 32) C.1 C.2.1 dX8_work_21 (by decide) (fun c3 => ?_) (fun c3 => ?_)
      · replace hf := ifp c3 hf
        refine lv_iload_n C.1 C.2.1 dX8_work_32 rfl (lv_at hl 1 rfl) ?_
        refine lv_bipush (v := 19) C.1 C.2.1 dX8_work_33 (by decide) ?_
        refine lv_icmp_ge (tgt := 46) C.1 C.2.1 dX8_work_35 (by decide) (fun c4 => ?_) (fun c4 => ?_)
        · replace hf := ifp c4 hf
          refine lv_iload_n C.1 C.2.1 dX8_work_46 rfl (lv_at hl 1 rfl) ?_
          refine lv_bipush (v := 22) C.1 C.2.1 dX8_work_47 (by decide) ?_
          refine lv_icmp_ge (tgt := 60) C.1 C.2.1 dX8_work_49 (by decide) (fun c5 => ?_) (fun c5 => ?_)
          · replace hf := ifp c5 hf
            refine lv_aload_n C.1 C.2.1 dX8_work_60 rfl (lv_at hl 0 rfl) ?_
            refine lv_iload_n C.1 C.2.1 dX8_work_61 rfl (lv_at hl 1 rfl) ?_
            obtain ⟨r6, S6, eS6, hf⟩ := bnd_e hf
            refine r_calv (As := [.int p1]) (na := 1) C adM G (mX8_govern_0 l D a cI cJ tk tf p1 S _ eS6) k_981 k_983 k_54 k_68 k_984 (q0 := 0) rfl (ci := 8) rfl (by decide +kernel) ⟨Nat.le_of_ble_eq_true rfl, Nat.le_of_ble_eq_true rfl⟩ rfl rfl ⟨Nat.zero_le _, Nat.zero_le _⟩ rfl hl.1 rfl (Nat.le_of_ble_eq_true rfl) dX8_work_62 (fun H locs G => ?_)
            exact r_vret C hr G hf dX8_work_65
          · replace hf := ifq c5 hf
            refine lv_aload_n C.1 C.2.1 dX8_work_52 rfl (lv_at hl 0 rfl) ?_
            refine lv_iload_n C.1 C.2.1 dX8_work_53 rfl (lv_at hl 1 rfl) ?_
            obtain ⟨r7, S7, eS7, hf⟩ := bnd_e hf
            refine r_calv (As := [.int p1]) (na := 1) C adM G (mX8_loopOf_0 l D a cI cJ tk tf p1 S _ eS7) k_977 k_979 k_53 k_68 k_980 (q0 := 0) rfl (ci := 8) rfl (by decide +kernel) ⟨Nat.le_of_ble_eq_true rfl, Nat.le_of_ble_eq_true rfl⟩ rfl rfl ⟨Nat.zero_le _, Nat.zero_le _⟩ rfl hl.1 rfl (Nat.le_of_ble_eq_true rfl) dX8_work_54 (fun H locs G => ?_)
            refine lv_goto (tgt := 65) C.1 C.2.1 dX8_work_57 (by decide) ?_
            exact r_vret C hr G hf dX8_work_65
        · replace hf := ifq c4 hf
          refine lv_aload_n C.1 C.2.1 dX8_work_38 rfl (lv_at hl 0 rfl) ?_
          refine lv_iload_n C.1 C.2.1 dX8_work_39 rfl (lv_at hl 1 rfl) ?_
          obtain ⟨r8, S8, eS8, hf⟩ := bnd_e hf
          refine r_calv (As := [.int p1]) (na := 1) C adM G (mX8_perform_0 l D a cI cJ tk tf p1 S _ eS8) k_969 k_971 k_51 k_68 k_972 (q0 := 0) rfl (ci := 8) rfl (by decide +kernel) ⟨Nat.le_of_ble_eq_true rfl, Nat.le_of_ble_eq_true rfl⟩ rfl rfl ⟨Nat.zero_le _, Nat.zero_le _⟩ rfl hl.1 rfl (Nat.le_of_ble_eq_true rfl) dX8_work_40 (fun H locs G => ?_)
          refine lv_goto (tgt := 65) C.1 C.2.1 dX8_work_43 (by decide) ?_
          exact r_vret C hr G hf dX8_work_65
      · replace hf := ifq c3 hf
        refine lv_aload_n C.1 C.2.1 dX8_work_24 rfl (lv_at hl 0 rfl) ?_
        refine lv_iload_n C.1 C.2.1 dX8_work_25 rfl (lv_at hl 1 rfl) ?_
        obtain ⟨r9, S9, eS9, hf⟩ := bnd_e hf
        refine r_calv (As := [.int p1]) (na := 1) C adM G (mX8_handle_0 l D a cI cJ tk tf p1 S _ eS9) k_965 k_967 k_50 k_68 k_968 (q0 := 0) rfl (ci := 8) rfl (by decide +kernel) ⟨Nat.le_of_ble_eq_true rfl, Nat.le_of_ble_eq_true rfl⟩ rfl rfl ⟨Nat.zero_le _, Nat.zero_le _⟩ rfl hl.1 rfl (Nat.le_of_ble_eq_true rfl) dX8_work_26 (fun H locs G => ?_)
        refine lv_goto (tgt := 65) C.1 C.2.1 dX8_work_29 (by decide) ?_
        exact r_vret C hr G hf dX8_work_65
    · replace hf := ifp c2 hf
      exact rX8_work_0_10 C hr p1 S _ _ _ _ hf G (lv_sub hl [0, 1] rfl)
