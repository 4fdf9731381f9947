theorem dX6_init_0 : decode cX6_init 0 = .ok (.aload_n 0, 1) := by decide +kernel
theorem dX6_init_1 : decode cX6_init 1 = .ok (.invokespecial 3, 3) := by decide +kernel
theorem dX6_init_4 : decode cX6_init 4 = .ok (.aload_n 0, 1) := by decide +kernel
theorem dX6_init_5 : decode cX6_init 5 = .ok (.bipush 8, 2) := by decide +kernel
theorem dX6_init_7 : decode cX6_init 7 = .ok (.newarray .int, 2) := by decide +kernel
theorem dX6_init_9 : decode cX6_init 9 = .ok (.putfield 9, 3) := by decide +kernel
theorem dX6_init_12 : decode cX6_init 12 = .ok (.aload_n 0, 1) := by decide +kernel
theorem dX6_init_13 : decode cX6_init 13 = .ok (.bipush 10, 2) := by decide +kernel
theorem dX6_init_15 : decode cX6_init 15 = .ok (.newarray .int, 2) := by decide +kernel
theorem dX6_init_17 : decode cX6_init 17 = .ok (.putfield 13, 3) := by decide +kernel
theorem dX6_init_20 : decode cX6_init 20 = .ok (.aload_n 0, 1) := by decide +kernel
theorem dX6_init_21 : decode cX6_init 21 = .ok (.bipush 10, 2) := by decide +kernel
theorem dX6_init_23 : decode cX6_init 23 = .ok (.newarray .int, 2) := by decide +kernel
theorem dX6_init_25 : decode cX6_init 25 = .ok (.putfield 16, 3) := by decide +kernel
theorem dX6_init_28 : decode cX6_init 28 = .ok (.aload_n 0, 1) := by decide +kernel
theorem dX6_init_29 : decode cX6_init 29 = .ok (.bipush 10, 2) := by decide +kernel
theorem dX6_init_31 : decode cX6_init 31 = .ok (.newarray .int, 2) := by decide +kernel
theorem dX6_init_33 : decode cX6_init 33 = .ok (.putfield 19, 3) := by decide +kernel
theorem dX6_init_36 : decode cX6_init 36 = .ok (.aload_n 0, 1) := by decide +kernel
theorem dX6_init_37 : decode cX6_init 37 = .ok (.bipush 16, 2) := by decide +kernel
theorem dX6_init_39 : decode cX6_init 39 = .ok (.newarray .int, 2) := by decide +kernel
theorem dX6_init_41 : decode cX6_init 41 = .ok (.putfield 22, 3) := by decide +kernel
theorem dX6_init_44 : decode cX6_init 44 = .ok (.aload_n 0, 1) := by decide +kernel
theorem dX6_init_45 : decode cX6_init 45 = .ok (.bipush 16, 2) := by decide +kernel
theorem dX6_init_47 : decode cX6_init 47 = .ok (.newarray .int, 2) := by decide +kernel
theorem dX6_init_49 : decode cX6_init 49 = .ok (.putfield 25, 3) := by decide +kernel
theorem dX6_init_52 : decode cX6_init 52 = .ok (.aload_n 0, 1) := by decide +kernel
theorem dX6_init_53 : decode cX6_init 53 = .ok (.bipush 16, 2) := by decide +kernel
theorem dX6_init_55 : decode cX6_init 55 = .ok (.newarray .int, 2) := by decide +kernel
theorem dX6_init_57 : decode cX6_init 57 = .ok (.putfield 28, 3) := by decide +kernel
theorem dX6_init_60 : decode cX6_init 60 = .ok (.aload_n 0, 1) := by decide +kernel
theorem dX6_init_61 : decode cX6_init 61 = .ok (.bipush 16, 2) := by decide +kernel
theorem dX6_init_63 : decode cX6_init 63 = .ok (.newarray .int, 2) := by decide +kernel
theorem dX6_init_65 : decode cX6_init 65 = .ok (.putfield 31, 3) := by decide +kernel
theorem dX6_init_68 : decode cX6_init 68 = .ok (.aload_n 0, 1) := by decide +kernel
theorem dX6_init_69 : decode cX6_init 69 = .ok (.bipush 16, 2) := by decide +kernel
theorem dX6_init_71 : decode cX6_init 71 = .ok (.newarray .boolean, 2) := by decide +kernel
theorem dX6_init_73 : decode cX6_init 73 = .ok (.putfield 34, 3) := by decide +kernel
theorem dX6_init_76 : decode cX6_init 76 = .ok (.aload_n 0, 1) := by decide +kernel
theorem dX6_init_77 : decode cX6_init 77 = .ok (.bipush 8, 2) := by decide +kernel
theorem dX6_init_79 : decode cX6_init 79 = .ok (.newarray .int, 2) := by decide +kernel
theorem dX6_init_81 : decode cX6_init 81 = .ok (.putfield 38, 3) := by decide +kernel
theorem dX6_init_84 : decode cX6_init 84 = .ok (.aload_n 0, 1) := by decide +kernel
theorem dX6_init_85 : decode cX6_init 85 = .ok (.bipush 8, 2) := by decide +kernel
theorem dX6_init_87 : decode cX6_init 87 = .ok (.newarray .int, 2) := by decide +kernel
theorem dX6_init_89 : decode cX6_init 89 = .ok (.putfield 41, 3) := by decide +kernel
theorem dX6_init_92 : decode cX6_init 92 = .ok (.aload_n 0, 1) := by decide +kernel
theorem dX6_init_93 : decode cX6_init 93 = .ok (.bipush 8, 2) := by decide +kernel
theorem dX6_init_95 : decode cX6_init 95 = .ok (.newarray .long, 2) := by decide +kernel
theorem dX6_init_97 : decode cX6_init 97 = .ok (.putfield 44, 3) := by decide +kernel
theorem dX6_init_100 : decode cX6_init 100 = .ok (.aload_n 0, 1) := by decide +kernel
theorem dX6_init_101 : decode cX6_init 101 = .ok (.bipush 10, 2) := by decide +kernel
theorem dX6_init_103 : decode cX6_init 103 = .ok (.newarray .boolean, 2) := by decide +kernel
theorem dX6_init_105 : decode cX6_init 105 = .ok (.putfield 48, 3) := by decide +kernel
theorem dX6_init_108 : decode cX6_init 108 = .ok (.aload_n 0, 1) := by decide +kernel
theorem dX6_init_109 : decode cX6_init 109 = .ok (.bipush 16, 2) := by decide +kernel
theorem dX6_init_111 : decode cX6_init 111 = .ok (.newarray .int, 2) := by decide +kernel
theorem dX6_init_113 : decode cX6_init 113 = .ok (.putfield 51, 3) := by decide +kernel
theorem dX6_init_116 : decode cX6_init 116 = .ok (.aload_n 0, 1) := by decide +kernel
theorem dX6_init_117 : decode cX6_init 117 = .ok (.bipush 16, 2) := by decide +kernel
theorem dX6_init_119 : decode cX6_init 119 = .ok (.newarray .long, 2) := by decide +kernel
theorem dX6_init_121 : decode cX6_init 121 = .ok (.putfield 54, 3) := by decide +kernel
theorem dX6_init_124 : decode cX6_init 124 = .ok (.aload_n 0, 1) := by decide +kernel
theorem dX6_init_125 : decode cX6_init 125 = .ok (.bipush 16, 2) := by decide +kernel
theorem dX6_init_127 : decode cX6_init 127 = .ok (.newarray .long, 2) := by decide +kernel
theorem dX6_init_129 : decode cX6_init 129 = .ok (.putfield 57, 3) := by decide +kernel
theorem dX6_init_132 : decode cX6_init 132 = .ok (.aload_n 0, 1) := by decide +kernel
theorem dX6_init_133 : decode cX6_init 133 = .ok (.bipush 16, 2) := by decide +kernel
theorem dX6_init_135 : decode cX6_init 135 = .ok (.newarray .long, 2) := by decide +kernel
theorem dX6_init_137 : decode cX6_init 137 = .ok (.putfield 60, 3) := by decide +kernel
theorem dX6_init_140 : decode cX6_init 140 = .ok (.aload_n 0, 1) := by decide +kernel
theorem dX6_init_141 : decode cX6_init 141 = .ok (.bipush 30, 2) := by decide +kernel
theorem dX6_init_143 : decode cX6_init 143 = .ok (.newarray .long, 2) := by decide +kernel
theorem dX6_init_145 : decode cX6_init 145 = .ok (.putfield 63, 3) := by decide +kernel
theorem dX6_init_148 : decode cX6_init 148 = .ok (.aload_n 0, 1) := by decide +kernel
theorem dX6_init_149 : decode cX6_init 149 = .ok (.bipush 30, 2) := by decide +kernel
theorem dX6_init_151 : decode cX6_init 151 = .ok (.newarray .int, 2) := by decide +kernel
theorem dX6_init_153 : decode cX6_init 153 = .ok (.putfield 66, 3) := by decide +kernel
theorem dX6_init_156 : decode cX6_init 156 = .ok (.aload_n 0, 1) := by decide +kernel
theorem dX6_init_157 : decode cX6_init 157 = .ok (.sipush 820, 3) := by decide +kernel
theorem dX6_init_160 : decode cX6_init 160 = .ok (.newarray .long, 2) := by decide +kernel
theorem dX6_init_162 : decode cX6_init 162 = .ok (.putfield 69, 3) := by decide +kernel
theorem dX6_init_165 : decode cX6_init 165 = .ok (.return_, 1) := by decide +kernel
theorem dX6_thrown_0 : decode cX6_thrown 0 = .ok (.aload_n 0, 1) := by decide +kernel
theorem dX6_thrown_1 : decode cX6_thrown 1 = .ok (.getfield 72, 3) := by decide +kernel
theorem dX6_thrown_4 : decode cX6_thrown 4 = .ok (.ireturn, 1) := by decide +kernel
theorem dX6_fail_0 : decode cX6_fail 0 = .ok (.aload_n 0, 1) := by decide +kernel
theorem dX6_fail_1 : decode cX6_fail 1 = .ok (.iload_n 1, 1) := by decide +kernel
theorem dX6_fail_2 : decode cX6_fail 2 = .ok (.putfield 72, 3) := by decide +kernel
theorem dX6_fail_5 : decode cX6_fail 5 = .ok (.iconst 0, 1) := by decide +kernel
theorem dX6_fail_6 : decode cX6_fail 6 = .ok (.ireturn, 1) := by decide +kernel
theorem dX6_isTank_0 : decode cX6_isTank 0 = .ok (.iload_n 1, 1) := by decide +kernel
theorem dX6_isTank_1 : decode cX6_isTank 1 = .ok (.ifCond .lt 15, 3) := by decide +kernel
theorem dX6_isTank_4 : decode cX6_isTank 4 = .ok (.iload_n 1, 1) := by decide +kernel
theorem dX6_isTank_5 : decode cX6_isTank 5 = .ok (.aload_n 0, 1) := by decide +kernel
theorem dX6_isTank_6 : decode cX6_isTank 6 = .ok (.getfield 76, 3) := by decide +kernel
theorem dX6_isTank_9 : decode cX6_isTank 9 = .ok (.if_icmp .ge 7, 3) := by decide +kernel
theorem dX6_isTank_12 : decode cX6_isTank 12 = .ok (.iconst 1, 1) := by decide +kernel
theorem dX6_isTank_13 : decode cX6_isTank 13 = .ok (.goto 4, 3) := by decide +kernel
theorem dX6_isTank_16 : decode cX6_isTank 16 = .ok (.iconst 0, 1) := by decide +kernel
theorem dX6_isTank_17 : decode cX6_isTank 17 = .ok (.ireturn, 1) := by decide +kernel
theorem dX6_isSwitch_0 : decode cX6_isSwitch 0 = .ok (.iload_n 1, 1) := by decide +kernel
theorem dX6_isSwitch_1 : decode cX6_isSwitch 1 = .ok (.ifCond .lt 15, 3) := by decide +kernel
theorem dX6_isSwitch_4 : decode cX6_isSwitch 4 = .ok (.iload_n 1, 1) := by decide +kernel
theorem dX6_isSwitch_5 : decode cX6_isSwitch 5 = .ok (.aload_n 0, 1) := by decide +kernel
theorem dX6_isSwitch_6 : decode cX6_isSwitch 6 = .ok (.getfield 79, 3) := by decide +kernel
theorem dX6_isSwitch_9 : decode cX6_isSwitch 9 = .ok (.if_icmp .ge 7, 3) := by decide +kernel
theorem dX6_isSwitch_12 : decode cX6_isSwitch 12 = .ok (.iconst 1, 1) := by decide +kernel
theorem dX6_isSwitch_13 : decode cX6_isSwitch 13 = .ok (.goto 4, 3) := by decide +kernel
theorem dX6_isSwitch_16 : decode cX6_isSwitch 16 = .ok (.iconst 0, 1) := by decide +kernel
theorem dX6_isSwitch_17 : decode cX6_isSwitch 17 = .ok (.ireturn, 1) := by decide +kernel
theorem dX6_isPump_0 : decode cX6_isPump 0 = .ok (.iload_n 1, 1) := by decide +kernel
theorem dX6_isPump_1 : decode cX6_isPump 1 = .ok (.ifCond .lt 15, 3) := by decide +kernel
theorem dX6_isPump_4 : decode cX6_isPump 4 = .ok (.iload_n 1, 1) := by decide +kernel
theorem dX6_isPump_5 : decode cX6_isPump 5 = .ok (.aload_n 0, 1) := by decide +kernel
theorem dX6_isPump_6 : decode cX6_isPump 6 = .ok (.getfield 82, 3) := by decide +kernel
theorem dX6_isPump_9 : decode cX6_isPump 9 = .ok (.if_icmp .ge 7, 3) := by decide +kernel
theorem dX6_isPump_12 : decode cX6_isPump 12 = .ok (.iconst 1, 1) := by decide +kernel
theorem dX6_isPump_13 : decode cX6_isPump 13 = .ok (.goto 4, 3) := by decide +kernel
theorem dX6_isPump_16 : decode cX6_isPump 16 = .ok (.iconst 0, 1) := by decide +kernel
theorem dX6_isPump_17 : decode cX6_isPump 17 = .ok (.ireturn, 1) := by decide +kernel
theorem dX6_addTank_0 : decode cX6_addTank 0 = .ok (.aload_n 0, 1) := by decide +kernel
theorem dX6_addTank_1 : decode cX6_addTank 1 = .ok (.iconst 0, 1) := by decide +kernel
theorem dX6_addTank_2 : decode cX6_addTank 2 = .ok (.putfield 72, 3) := by decide +kernel
theorem dX6_addTank_5 : decode cX6_addTank 5 = .ok (.iload_n 1, 1) := by decide +kernel
theorem dX6_addTank_6 : decode cX6_addTank 6 = .ok (.iconst 1, 1) := by decide +kernel
theorem dX6_addTank_7 : decode cX6_addTank 7 = .ok (.if_icmp .lt 28, 3) := by decide +kernel
theorem dX6_addTank_10 : decode cX6_addTank 10 = .ok (.iload_n 1, 1) := by decide +kernel
theorem dX6_addTank_11 : decode cX6_addTank 11 = .ok (.ldc 85, 2) := by decide +kernel
theorem dX6_addTank_13 : decode cX6_addTank 13 = .ok (.if_icmp .gt 22, 3) := by decide +kernel
theorem dX6_addTank_16 : decode cX6_addTank 16 = .ok (.iload_n 2, 1) := by decide +kernel
theorem dX6_addTank_17 : decode cX6_addTank 17 = .ok (.ifCond .lt 18, 3) := by decide +kernel
theorem dX6_addTank_20 : decode cX6_addTank 20 = .ok (.iload_n 2, 1) := by decide +kernel
theorem dX6_addTank_21 : decode cX6_addTank 21 = .ok (.iload_n 1, 1) := by decide +kernel
theorem dX6_addTank_22 : decode cX6_addTank 22 = .ok (.if_icmp .gt 13, 3) := by decide +kernel
theorem dX6_addTank_25 : decode cX6_addTank 25 = .ok (.iload_n 3, 1) := by decide +kernel
theorem dX6_addTank_26 : decode cX6_addTank 26 = .ok (.ifCond .lt 9, 3) := by decide +kernel
theorem dX6_addTank_29 : decode cX6_addTank 29 = .ok (.iload_n 3, 1) := by decide +kernel
theorem dX6_addTank_30 : decode cX6_addTank 30 = .ok (.ldc 86, 2) := by decide +kernel
theorem dX6_addTank_32 : decode cX6_addTank 32 = .ok (.if_icmp .le 9, 3) := by decide +kernel
theorem dX6_addTank_35 : decode cX6_addTank 35 = .ok (.aload_n 0, 1) := by decide +kernel
theorem dX6_addTank_36 : decode cX6_addTank 36 = .ok (.iconst 1, 1) := by decide +kernel
theorem dX6_addTank_37 : decode cX6_addTank 37 = .ok (.invokevirtual 87, 3) := by decide +kernel
theorem dX6_addTank_40 : decode cX6_addTank 40 = .ok (.ireturn, 1) := by decide +kernel
theorem dX6_addTank_41 : decode cX6_addTank 41 = .ok (.aload_n 0, 1) := by decide +kernel
theorem dX6_addTank_42 : decode cX6_addTank 42 = .ok (.getfield 76, 3) := by decide +kernel
theorem dX6_addTank_45 : decode cX6_addTank 45 = .ok (.bipush 8, 2) := by decide +kernel
theorem dX6_addTank_47 : decode cX6_addTank 47 = .ok (.if_icmp .ne 9, 3) := by decide +kernel
theorem dX6_addTank_50 : decode cX6_addTank 50 = .ok (.aload_n 0, 1) := by decide +kernel
theorem dX6_addTank_51 : decode cX6_addTank 51 = .ok (.iconst 2, 1) := by decide +kernel
theorem dX6_addTank_52 : decode cX6_addTank 52 = .ok (.invokevirtual 87, 3) := by decide +kernel
theorem dX6_addTank_55 : decode cX6_addTank 55 = .ok (.ireturn, 1) := by decide +kernel
theorem dX6_addTank_56 : decode cX6_addTank 56 = .ok (.aload_n 0, 1) := by decide +kernel
theorem dX6_addTank_57 : decode cX6_addTank 57 = .ok (.getfield 9, 3) := by decide +kernel
theorem dX6_addTank_60 : decode cX6_addTank 60 = .ok (.aload_n 0, 1) := by decide +kernel
theorem dX6_addTank_61 : decode cX6_addTank 61 = .ok (.getfield 76, 3) := by decide +kernel
theorem dX6_addTank_64 : decode cX6_addTank 64 = .ok (.iload_n 1, 1) := by decide +kernel
theorem dX6_addTank_65 : decode cX6_addTank 65 = .ok (.iastore, 1) := by decide +kernel
theorem dX6_addTank_66 : decode cX6_addTank 66 = .ok (.aload_n 0, 1) := by decide +kernel
theorem dX6_addTank_67 : decode cX6_addTank 67 = .ok (.getfield 38, 3) := by decide +kernel
theorem dX6_addTank_70 : decode cX6_addTank 70 = .ok (.aload_n 0, 1) := by decide +kernel
theorem dX6_addTank_71 : decode cX6_addTank 71 = .ok (.getfield 76, 3) := by decide +kernel
theorem dX6_addTank_74 : decode cX6_addTank 74 = .ok (.iload_n 2, 1) := by decide +kernel
theorem dX6_addTank_75 : decode cX6_addTank 75 = .ok (.iastore, 1) := by decide +kernel
theorem dX6_addTank_76 : decode cX6_addTank 76 = .ok (.aload_n 0, 1) := by decide +kernel
theorem dX6_addTank_77 : decode cX6_addTank 77 = .ok (.getfield 41, 3) := by decide +kernel
theorem dX6_addTank_80 : decode cX6_addTank 80 = .ok (.aload_n 0, 1) := by decide +kernel
theorem dX6_addTank_81 : decode cX6_addTank 81 = .ok (.getfield 76, 3) := by decide +kernel
theorem dX6_addTank_84 : decode cX6_addTank 84 = .ok (.iload_n 3, 1) := by decide +kernel
theorem dX6_addTank_85 : decode cX6_addTank 85 = .ok (.iastore, 1) := by decide +kernel
theorem dX6_addTank_86 : decode cX6_addTank 86 = .ok (.aload_n 0, 1) := by decide +kernel
theorem dX6_addTank_87 : decode cX6_addTank 87 = .ok (.getfield 44, 3) := by decide +kernel
theorem dX6_addTank_90 : decode cX6_addTank 90 = .ok (.aload_n 0, 1) := by decide +kernel
theorem dX6_addTank_91 : decode cX6_addTank 91 = .ok (.getfield 76, 3) := by decide +kernel
theorem dX6_addTank_94 : decode cX6_addTank 94 = .ok (.lconst 0, 1) := by decide +kernel
theorem dX6_addTank_95 : decode cX6_addTank 95 = .ok (.lastore, 1) := by decide +kernel
theorem dX6_addTank_96 : decode cX6_addTank 96 = .ok (.aload_n 0, 1) := by decide +kernel
theorem dX6_addTank_97 : decode cX6_addTank 97 = .ok (.dup, 1) := by decide +kernel
theorem dX6_addTank_98 : decode cX6_addTank 98 = .ok (.getfield 76, 3) := by decide +kernel
theorem dX6_addTank_101 : decode cX6_addTank 101 = .ok (.iconst 1, 1) := by decide +kernel
theorem dX6_addTank_102 : decode cX6_addTank 102 = .ok (.iadd, 1) := by decide +kernel
theorem dX6_addTank_103 : decode cX6_addTank 103 = .ok (.putfield 76, 3) := by decide +kernel
theorem dX6_addTank_106 : decode cX6_addTank 106 = .ok (.aload_n 0, 1) := by decide +kernel
theorem dX6_addTank_107 : decode cX6_addTank 107 = .ok (.getfield 76, 3) := by decide +kernel
theorem dX6_addTank_110 : decode cX6_addTank 110 = .ok (.iconst 1, 1) := by decide +kernel
theorem dX6_addTank_111 : decode cX6_addTank 111 = .ok (.isub, 1) := by decide +kernel
theorem dX6_addTank_112 : decode cX6_addTank 112 = .ok (.ireturn, 1) := by decide +kernel
theorem dX6_addSwitch_0 : decode cX6_addSwitch 0 = .ok (.aload_n 0, 1) := by decide +kernel
theorem dX6_addSwitch_1 : decode cX6_addSwitch 1 = .ok (.iconst 0, 1) := by decide +kernel
theorem dX6_addSwitch_2 : decode cX6_addSwitch 2 = .ok (.putfield 72, 3) := by decide +kernel
theorem dX6_addSwitch_5 : decode cX6_addSwitch 5 = .ok (.aload_n 0, 1) := by decide +kernel
theorem dX6_addSwitch_6 : decode cX6_addSwitch 6 = .ok (.iload_n 1, 1) := by decide +kernel
theorem dX6_addSwitch_7 : decode cX6_addSwitch 7 = .ok (.invokevirtual 91, 3) := by decide +kernel
theorem dX6_addSwitch_10 : decode cX6_addSwitch 10 = .ok (.ifCond .ne 9, 3) := by decide +kernel
theorem dX6_addSwitch_13 : decode cX6_addSwitch 13 = .ok (.aload_n 0, 1) := by decide +kernel
theorem dX6_addSwitch_14 : decode cX6_addSwitch 14 = .ok (.iconst 1, 1) := by decide +kernel
theorem dX6_addSwitch_15 : decode cX6_addSwitch 15 = .ok (.invokevirtual 87, 3) := by decide +kernel
theorem dX6_addSwitch_18 : decode cX6_addSwitch 18 = .ok (.ireturn, 1) := by decide +kernel
theorem dX6_addSwitch_19 : decode cX6_addSwitch 19 = .ok (.iload_n 2, 1) := by decide +kernel
theorem dX6_addSwitch_20 : decode cX6_addSwitch 20 = .ok (.ifCond .lt 18, 3) := by decide +kernel
theorem dX6_addSwitch_23 : decode cX6_addSwitch 23 = .ok (.iload_n 2, 1) := by decide +kernel
theorem dX6_addSwitch_24 : decode cX6_addSwitch 24 = .ok (.iload_n 3, 1) := by decide +kernel
theorem dX6_addSwitch_25 : decode cX6_addSwitch 25 = .ok (.if_icmp .ge 13, 3) := by decide +kernel
theorem dX6_addSwitch_28 : decode cX6_addSwitch 28 = .ok (.iload_n 3, 1) := by decide +kernel
theorem dX6_addSwitch_29 : decode cX6_addSwitch 29 = .ok (.aload_n 0, 1) := by decide +kernel
theorem dX6_addSwitch_30 : decode cX6_addSwitch 30 = .ok (.getfield 9, 3) := by decide +kernel
theorem dX6_addSwitch_33 : decode cX6_addSwitch 33 = .ok (.iload_n 1, 1) := by decide +kernel
theorem dX6_addSwitch_34 : decode cX6_addSwitch 34 = .ok (.iaload, 1) := by decide +kernel
theorem dX6_addSwitch_35 : decode cX6_addSwitch 35 = .ok (.if_icmp .le 9, 3) := by decide +kernel
theorem dX6_addSwitch_38 : decode cX6_addSwitch 38 = .ok (.aload_n 0, 1) := by decide +kernel
theorem dX6_addSwitch_39 : decode cX6_addSwitch 39 = .ok (.iconst 2, 1) := by decide +kernel
theorem dX6_addSwitch_40 : decode cX6_addSwitch 40 = .ok (.invokevirtual 87, 3) := by decide +kernel
theorem dX6_addSwitch_43 : decode cX6_addSwitch 43 = .ok (.ireturn, 1) := by decide +kernel
theorem dX6_addSwitch_44 : decode cX6_addSwitch 44 = .ok (.aload_n 0, 1) := by decide +kernel
theorem dX6_addSwitch_45 : decode cX6_addSwitch 45 = .ok (.getfield 79, 3) := by decide +kernel
theorem dX6_addSwitch_48 : decode cX6_addSwitch 48 = .ok (.bipush 10, 2) := by decide +kernel
theorem dX6_addSwitch_50 : decode cX6_addSwitch 50 = .ok (.if_icmp .ne 9, 3) := by decide +kernel
theorem dX6_addSwitch_53 : decode cX6_addSwitch 53 = .ok (.aload_n 0, 1) := by decide +kernel
theorem dX6_addSwitch_54 : decode cX6_addSwitch 54 = .ok (.iconst 3, 1) := by decide +kernel
theorem dX6_addSwitch_55 : decode cX6_addSwitch 55 = .ok (.invokevirtual 87, 3) := by decide +kernel
theorem dX6_addSwitch_58 : decode cX6_addSwitch 58 = .ok (.ireturn, 1) := by decide +kernel
theorem dX6_addSwitch_59 : decode cX6_addSwitch 59 = .ok (.aload_n 0, 1) := by decide +kernel
theorem dX6_addSwitch_60 : decode cX6_addSwitch 60 = .ok (.getfield 13, 3) := by decide +kernel
theorem dX6_addSwitch_63 : decode cX6_addSwitch 63 = .ok (.aload_n 0, 1) := by decide +kernel
theorem dX6_addSwitch_64 : decode cX6_addSwitch 64 = .ok (.getfield 79, 3) := by decide +kernel
theorem dX6_addSwitch_67 : decode cX6_addSwitch 67 = .ok (.iload_n 1, 1) := by decide +kernel
theorem dX6_addSwitch_68 : decode cX6_addSwitch 68 = .ok (.iastore, 1) := by decide +kernel
theorem dX6_addSwitch_69 : decode cX6_addSwitch 69 = .ok (.aload_n 0, 1) := by decide +kernel
theorem dX6_addSwitch_70 : decode cX6_addSwitch 70 = .ok (.getfield 16, 3) := by decide +kernel
theorem dX6_addSwitch_73 : decode cX6_addSwitch 73 = .ok (.aload_n 0, 1) := by decide +kernel
theorem dX6_addSwitch_74 : decode cX6_addSwitch 74 = .ok (.getfield 79, 3) := by decide +kernel
theorem dX6_addSwitch_77 : decode cX6_addSwitch 77 = .ok (.iload_n 2, 1) := by decide +kernel
theorem dX6_addSwitch_78 : decode cX6_addSwitch 78 = .ok (.iastore, 1) := by decide +kernel
theorem dX6_addSwitch_79 : decode cX6_addSwitch 79 = .ok (.aload_n 0, 1) := by decide +kernel
theorem dX6_addSwitch_80 : decode cX6_addSwitch 80 = .ok (.getfield 19, 3) := by decide +kernel
theorem dX6_addSwitch_83 : decode cX6_addSwitch 83 = .ok (.aload_n 0, 1) := by decide +kernel
theorem dX6_addSwitch_84 : decode cX6_addSwitch 84 = .ok (.getfield 79, 3) := by decide +kernel
theorem dX6_addSwitch_87 : decode cX6_addSwitch 87 = .ok (.iload_n 3, 1) := by decide +kernel
theorem dX6_addSwitch_88 : decode cX6_addSwitch 88 = .ok (.iastore, 1) := by decide +kernel
theorem dX6_addSwitch_89 : decode cX6_addSwitch 89 = .ok (.aload_n 0, 1) := by decide +kernel
theorem dX6_addSwitch_90 : decode cX6_addSwitch 90 = .ok (.getfield 48, 3) := by decide +kernel
theorem dX6_addSwitch_93 : decode cX6_addSwitch 93 = .ok (.aload_n 0, 1) := by decide +kernel
theorem dX6_addSwitch_94 : decode cX6_addSwitch 94 = .ok (.getfield 79, 3) := by decide +kernel
theorem dX6_addSwitch_97 : decode cX6_addSwitch 97 = .ok (.iconst 0, 1) := by decide +kernel
theorem dX6_addSwitch_98 : decode cX6_addSwitch 98 = .ok (.bastore, 1) := by decide +kernel
theorem dX6_addSwitch_99 : decode cX6_addSwitch 99 = .ok (.aload_n 0, 1) := by decide +kernel
theorem dX6_addSwitch_100 : decode cX6_addSwitch 100 = .ok (.dup, 1) := by decide +kernel
theorem dX6_addSwitch_101 : decode cX6_addSwitch 101 = .ok (.getfield 79, 3) := by decide +kernel
theorem dX6_addSwitch_104 : decode cX6_addSwitch 104 = .ok (.iconst 1, 1) := by decide +kernel
theorem dX6_addSwitch_105 : decode cX6_addSwitch 105 = .ok (.iadd, 1) := by decide +kernel
theorem dX6_addSwitch_106 : decode cX6_addSwitch 106 = .ok (.putfield 79, 3) := by decide +kernel
theorem dX6_addSwitch_109 : decode cX6_addSwitch 109 = .ok (.aload_n 0, 1) := by decide +kernel
theorem dX6_addSwitch_110 : decode cX6_addSwitch 110 = .ok (.getfield 79, 3) := by decide +kernel
theorem dX6_addSwitch_113 : decode cX6_addSwitch 113 = .ok (.iconst 1, 1) := by decide +kernel
theorem dX6_addSwitch_114 : decode cX6_addSwitch 114 = .ok (.isub, 1) := by decide +kernel
theorem dX6_addSwitch_115 : decode cX6_addSwitch 115 = .ok (.ireturn, 1) := by decide +kernel
theorem dX6_addPump_0 : decode cX6_addPump 0 = .ok (.aload_n 0, 1) := by decide +kernel
theorem dX6_addPump_1 : decode cX6_addPump 1 = .ok (.iconst 0, 1) := by decide +kernel
theorem dX6_addPump_2 : decode cX6_addPump 2 = .ok (.putfield 72, 3) := by decide +kernel
theorem dX6_addPump_5 : decode cX6_addPump 5 = .ok (.iload_n 1, 1) := by decide +kernel
theorem dX6_addPump_6 : decode cX6_addPump 6 = .ok (.iconst (-1), 1) := by decide +kernel
theorem dX6_addPump_7 : decode cX6_addPump 7 = .ok (.if_icmp .eq 11, 3) := by decide +kernel
theorem dX6_addPump_10 : decode cX6_addPump 10 = .ok (.aload_n 0, 1) := by decide +kernel
theorem dX6_addPump_11 : decode cX6_addPump 11 = .ok (.iload_n 1, 1) := by decide +kernel
theorem dX6_addPump_12 : decode cX6_addPump 12 = .ok (.invokevirtual 91, 3) := by decide +kernel
theorem dX6_addPump_15 : decode cX6_addPump 15 = .ok (.ifCond .eq 31, 3) := by decide +kernel
theorem dX6_addPump_18 : decode cX6_addPump 18 = .ok (.iload_n 2, 1) := by decide +kernel
theorem dX6_addPump_19 : decode cX6_addPump 19 = .ok (.iconst (-1), 1) := by decide +kernel
theorem dX6_addPump_20 : decode cX6_addPump 20 = .ok (.if_icmp .eq 11, 3) := by decide +kernel
theorem dX6_addPump_23 : decode cX6_addPump 23 = .ok (.aload_n 0, 1) := by decide +kernel
theorem dX6_addPump_24 : decode cX6_addPump 24 = .ok (.iload_n 2, 1) := by decide +kernel
theorem dX6_addPump_25 : decode cX6_addPump 25 = .ok (.invokevirtual 91, 3) := by decide +kernel
theorem dX6_addPump_28 : decode cX6_addPump 28 = .ok (.ifCond .eq 18, 3) := by decide +kernel
theorem dX6_addPump_31 : decode cX6_addPump 31 = .ok (.iload 5, 2) := by decide +kernel
theorem dX6_addPump_33 : decode cX6_addPump 33 = .ok (.iconst (-1), 1) := by decide +kernel
theorem dX6_addPump_34 : decode cX6_addPump 34 = .ok (.if_icmp .eq 18, 3) := by decide +kernel
theorem dX6_addPump_37 : decode cX6_addPump 37 = .ok (.aload_n 0, 1) := by decide +kernel
theorem dX6_addPump_38 : decode cX6_addPump 38 = .ok (.iload 5, 2) := by decide +kernel
theorem dX6_addPump_40 : decode cX6_addPump 40 = .ok (.invokevirtual 95, 3) := by decide +kernel
theorem dX6_addPump_43 : decode cX6_addPump 43 = .ok (.ifCond .ne 9, 3) := by decide +kernel
theorem dX6_addPump_46 : decode cX6_addPump 46 = .ok (.aload_n 0, 1) := by decide +kernel
theorem dX6_addPump_47 : decode cX6_addPump 47 = .ok (.iconst 1, 1) := by decide +kernel
theorem dX6_addPump_48 : decode cX6_addPump 48 = .ok (.invokevirtual 87, 3) := by decide +kernel
theorem dX6_addPump_51 : decode cX6_addPump 51 = .ok (.ireturn, 1) := by decide +kernel
theorem dX6_addPump_52 : decode cX6_addPump 52 = .ok (.iload_n 1, 1) := by decide +kernel
theorem dX6_addPump_53 : decode cX6_addPump 53 = .ok (.iload_n 2, 1) := by decide +kernel
theorem dX6_addPump_54 : decode cX6_addPump 54 = .ok (.if_icmp .eq 26, 3) := by decide +kernel
theorem dX6_addPump_57 : decode cX6_addPump 57 = .ok (.iload_n 3, 1) := by decide +kernel
theorem dX6_addPump_58 : decode cX6_addPump 58 = .ok (.iconst 1, 1) := by decide +kernel
theorem dX6_addPump_59 : decode cX6_addPump 59 = .ok (.if_icmp .lt 21, 3) := by decide +kernel
theorem dX6_addPump_62 : decode cX6_addPump 62 = .ok (.iload_n 3, 1) := by decide +kernel
theorem dX6_addPump_63 : decode cX6_addPump 63 = .ok (.ldc 86, 2) := by decide +kernel
theorem dX6_addPump_65 : decode cX6_addPump 65 = .ok (.if_icmp .gt 15, 3) := by decide +kernel
theorem dX6_addPump_68 : decode cX6_addPump 68 = .ok (.iload 4, 2) := by decide +kernel
theorem dX6_addPump_70 : decode cX6_addPump 70 = .ok (.ifCond .lt 10, 3) := by decide +kernel
theorem dX6_addPump_73 : decode cX6_addPump 73 = .ok (.iload 4, 2) := by decide +kernel
theorem dX6_addPump_75 : decode cX6_addPump 75 = .ok (.bipush 100, 2) := by decide +kernel
theorem dX6_addPump_77 : decode cX6_addPump 77 = .ok (.if_icmp .le 9, 3) := by decide +kernel
theorem dX6_addPump_80 : decode cX6_addPump 80 = .ok (.aload_n 0, 1) := by decide +kernel
theorem dX6_addPump_81 : decode cX6_addPump 81 = .ok (.iconst 2, 1) := by decide +kernel
theorem dX6_addPump_82 : decode cX6_addPump 82 = .ok (.invokevirtual 87, 3) := by decide +kernel
theorem dX6_addPump_85 : decode cX6_addPump 85 = .ok (.ireturn, 1) := by decide +kernel
theorem dX6_addPump_86 : decode cX6_addPump 86 = .ok (.aload_n 0, 1) := by decide +kernel
theorem dX6_addPump_87 : decode cX6_addPump 87 = .ok (.getfield 82, 3) := by decide +kernel
theorem dX6_addPump_90 : decode cX6_addPump 90 = .ok (.bipush 16, 2) := by decide +kernel
theorem dX6_addPump_92 : decode cX6_addPump 92 = .ok (.if_icmp .ne 9, 3) := by decide +kernel
theorem dX6_addPump_95 : decode cX6_addPump 95 = .ok (.aload_n 0, 1) := by decide +kernel
theorem dX6_addPump_96 : decode cX6_addPump 96 = .ok (.iconst 3, 1) := by decide +kernel
theorem dX6_addPump_97 : decode cX6_addPump 97 = .ok (.invokevirtual 87, 3) := by decide +kernel
theorem dX6_addPump_100 : decode cX6_addPump 100 = .ok (.ireturn, 1) := by decide +kernel
theorem dX6_addPump_101 : decode cX6_addPump 101 = .ok (.aload_n 0, 1) := by decide +kernel
theorem dX6_addPump_102 : decode cX6_addPump 102 = .ok (.getfield 22, 3) := by decide +kernel
theorem dX6_addPump_105 : decode cX6_addPump 105 = .ok (.aload_n 0, 1) := by decide +kernel
theorem dX6_addPump_106 : decode cX6_addPump 106 = .ok (.getfield 82, 3) := by decide +kernel
theorem dX6_addPump_109 : decode cX6_addPump 109 = .ok (.iload_n 1, 1) := by decide +kernel
theorem dX6_addPump_110 : decode cX6_addPump 110 = .ok (.iastore, 1) := by decide +kernel
theorem dX6_addPump_111 : decode cX6_addPump 111 = .ok (.aload_n 0, 1) := by decide +kernel
theorem dX6_addPump_112 : decode cX6_addPump 112 = .ok (.getfield 25, 3) := by decide +kernel
theorem dX6_addPump_115 : decode cX6_addPump 115 = .ok (.aload_n 0, 1) := by decide +kernel
theorem dX6_addPump_116 : decode cX6_addPump 116 = .ok (.getfield 82, 3) := by decide +kernel
theorem dX6_addPump_119 : decode cX6_addPump 119 = .ok (.iload_n 2, 1) := by decide +kernel
theorem dX6_addPump_120 : decode cX6_addPump 120 = .ok (.iastore, 1) := by decide +kernel
theorem dX6_addPump_121 : decode cX6_addPump 121 = .ok (.aload_n 0, 1) := by decide +kernel
theorem dX6_addPump_122 : decode cX6_addPump 122 = .ok (.getfield 51, 3) := by decide +kernel
theorem dX6_addPump_125 : decode cX6_addPump 125 = .ok (.aload_n 0, 1) := by decide +kernel
theorem dX6_addPump_126 : decode cX6_addPump 126 = .ok (.getfield 82, 3) := by decide +kernel
theorem dX6_addPump_129 : decode cX6_addPump 129 = .ok (.iload_n 3, 1) := by decide +kernel
theorem dX6_addPump_130 : decode cX6_addPump 130 = .ok (.iastore, 1) := by decide +kernel
theorem dX6_addPump_131 : decode cX6_addPump 131 = .ok (.aload_n 0, 1) := by decide +kernel
theorem dX6_addPump_132 : decode cX6_addPump 132 = .ok (.getfield 28, 3) := by decide +kernel
theorem dX6_addPump_135 : decode cX6_addPump 135 = .ok (.aload_n 0, 1) := by decide +kernel
theorem dX6_addPump_136 : decode cX6_addPump 136 = .ok (.getfield 82, 3) := by decide +kernel
theorem dX6_addPump_139 : decode cX6_addPump 139 = .ok (.iload 4, 2) := by decide +kernel
theorem dX6_addPump_141 : decode cX6_addPump 141 = .ok (.iastore, 1) := by decide +kernel
theorem dX6_addPump_142 : decode cX6_addPump 142 = .ok (.aload_n 0, 1) := by decide +kernel
theorem dX6_addPump_143 : decode cX6_addPump 143 = .ok (.getfield 31, 3) := by decide +kernel
theorem dX6_addPump_146 : decode cX6_addPump 146 = .ok (.aload_n 0, 1) := by decide +kernel
theorem dX6_addPump_147 : decode cX6_addPump 147 = .ok (.getfield 82, 3) := by decide +kernel
theorem dX6_addPump_150 : decode cX6_addPump 150 = .ok (.iload 5, 2) := by decide +kernel
theorem dX6_addPump_152 : decode cX6_addPump 152 = .ok (.iastore, 1) := by decide +kernel
theorem dX6_addPump_153 : decode cX6_addPump 153 = .ok (.aload_n 0, 1) := by decide +kernel
theorem dX6_addPump_154 : decode cX6_addPump 154 = .ok (.getfield 34, 3) := by decide +kernel
theorem dX6_addPump_157 : decode cX6_addPump 157 = .ok (.aload_n 0, 1) := by decide +kernel
theorem dX6_addPump_158 : decode cX6_addPump 158 = .ok (.getfield 82, 3) := by decide +kernel
theorem dX6_addPump_161 : decode cX6_addPump 161 = .ok (.iload 6, 2) := by decide +kernel
theorem dX6_addPump_163 : decode cX6_addPump 163 = .ok (.bastore, 1) := by decide +kernel
theorem dX6_addPump_164 : decode cX6_addPump 164 = .ok (.aload_n 0, 1) := by decide +kernel
theorem dX6_addPump_165 : decode cX6_addPump 165 = .ok (.getfield 54, 3) := by decide +kernel
theorem dX6_addPump_168 : decode cX6_addPump 168 = .ok (.aload_n 0, 1) := by decide +kernel
theorem dX6_addPump_169 : decode cX6_addPump 169 = .ok (.getfield 82, 3) := by decide +kernel
theorem dX6_addPump_172 : decode cX6_addPump 172 = .ok (.lconst 0, 1) := by decide +kernel
theorem dX6_addPump_173 : decode cX6_addPump 173 = .ok (.lastore, 1) := by decide +kernel
theorem dX6_addPump_174 : decode cX6_addPump 174 = .ok (.aload_n 0, 1) := by decide +kernel
theorem dX6_addPump_175 : decode cX6_addPump 175 = .ok (.getfield 57, 3) := by decide +kernel
theorem dX6_addPump_178 : decode cX6_addPump 178 = .ok (.aload_n 0, 1) := by decide +kernel
theorem dX6_addPump_179 : decode cX6_addPump 179 = .ok (.getfield 82, 3) := by decide +kernel
theorem dX6_addPump_182 : decode cX6_addPump 182 = .ok (.lconst 0, 1) := by decide +kernel
theorem dX6_addPump_183 : decode cX6_addPump 183 = .ok (.lastore, 1) := by decide +kernel
theorem dX6_addPump_184 : decode cX6_addPump 184 = .ok (.aload_n 0, 1) := by decide +kernel
theorem dX6_addPump_185 : decode cX6_addPump 185 = .ok (.getfield 60, 3) := by decide +kernel
theorem dX6_addPump_188 : decode cX6_addPump 188 = .ok (.aload_n 0, 1) := by decide +kernel
theorem dX6_addPump_189 : decode cX6_addPump 189 = .ok (.getfield 82, 3) := by decide +kernel
theorem dX6_addPump_192 : decode cX6_addPump 192 = .ok (.lconst 0, 1) := by decide +kernel
theorem dX6_addPump_193 : decode cX6_addPump 193 = .ok (.lastore, 1) := by decide +kernel
theorem dX6_addPump_194 : decode cX6_addPump 194 = .ok (.aload_n 0, 1) := by decide +kernel
theorem dX6_addPump_195 : decode cX6_addPump 195 = .ok (.dup, 1) := by decide +kernel
theorem dX6_addPump_196 : decode cX6_addPump 196 = .ok (.getfield 82, 3) := by decide +kernel
theorem dX6_addPump_199 : decode cX6_addPump 199 = .ok (.iconst 1, 1) := by decide +kernel
theorem dX6_addPump_200 : decode cX6_addPump 200 = .ok (.iadd, 1) := by decide +kernel
theorem dX6_addPump_201 : decode cX6_addPump 201 = .ok (.putfield 82, 3) := by decide +kernel
theorem dX6_addPump_204 : decode cX6_addPump 204 = .ok (.aload_n 0, 1) := by decide +kernel
theorem dX6_addPump_205 : decode cX6_addPump 205 = .ok (.getfield 82, 3) := by decide +kernel
theorem dX6_addPump_208 : decode cX6_addPump 208 = .ok (.iconst 1, 1) := by decide +kernel
theorem dX6_addPump_209 : decode cX6_addPump 209 = .ok (.isub, 1) := by decide +kernel
theorem dX6_addPump_210 : decode cX6_addPump 210 = .ok (.ireturn, 1) := by decide +kernel
theorem dX6_setLevel_0 : decode cX6_setLevel 0 = .ok (.aload_n 0, 1) := by decide +kernel
theorem dX6_setLevel_1 : decode cX6_setLevel 1 = .ok (.iconst 0, 1) := by decide +kernel
theorem dX6_setLevel_2 : decode cX6_setLevel 2 = .ok (.putfield 72, 3) := by decide +kernel
theorem dX6_setLevel_5 : decode cX6_setLevel 5 = .ok (.aload_n 0, 1) := by decide +kernel
theorem dX6_setLevel_6 : decode cX6_setLevel 6 = .ok (.iload_n 1, 1) := by decide +kernel
theorem dX6_setLevel_7 : decode cX6_setLevel 7 = .ok (.invokevirtual 91, 3) := by decide +kernel
theorem dX6_setLevel_10 : decode cX6_setLevel 10 = .ok (.ifCond .ne 9, 3) := by decide +kernel
theorem dX6_setLevel_13 : decode cX6_setLevel 13 = .ok (.aload_n 0, 1) := by decide +kernel
theorem dX6_setLevel_14 : decode cX6_setLevel 14 = .ok (.iconst 1, 1) := by decide +kernel
theorem dX6_setLevel_15 : decode cX6_setLevel 15 = .ok (.invokevirtual 87, 3) := by decide +kernel
theorem dX6_setLevel_18 : decode cX6_setLevel 18 = .ok (.ireturn, 1) := by decide +kernel
theorem dX6_setLevel_19 : decode cX6_setLevel 19 = .ok (.iload_n 2, 1) := by decide +kernel
theorem dX6_setLevel_20 : decode cX6_setLevel 20 = .ok (.ifCond .lt 13, 3) := by decide +kernel
theorem dX6_setLevel_23 : decode cX6_setLevel 23 = .ok (.iload_n 2, 1) := by decide +kernel
theorem dX6_setLevel_24 : decode cX6_setLevel 24 = .ok (.aload_n 0, 1) := by decide +kernel
theorem dX6_setLevel_25 : decode cX6_setLevel 25 = .ok (.getfield 9, 3) := by decide +kernel
theorem dX6_setLevel_28 : decode cX6_setLevel 28 = .ok (.iload_n 1, 1) := by decide +kernel
theorem dX6_setLevel_29 : decode cX6_setLevel 29 = .ok (.iaload, 1) := by decide +kernel
theorem dX6_setLevel_30 : decode cX6_setLevel 30 = .ok (.if_icmp .le 9, 3) := by decide +kernel
theorem dX6_setLevel_33 : decode cX6_setLevel 33 = .ok (.aload_n 0, 1) := by decide +kernel
theorem dX6_setLevel_34 : decode cX6_setLevel 34 = .ok (.iconst 2, 1) := by decide +kernel
theorem dX6_setLevel_35 : decode cX6_setLevel 35 = .ok (.invokevirtual 87, 3) := by decide +kernel
theorem dX6_setLevel_38 : decode cX6_setLevel 38 = .ok (.ireturn, 1) := by decide +kernel
theorem dX6_setLevel_39 : decode cX6_setLevel 39 = .ok (.aload_n 0, 1) := by decide +kernel
theorem dX6_setLevel_40 : decode cX6_setLevel 40 = .ok (.getfield 38, 3) := by decide +kernel
theorem dX6_setLevel_43 : decode cX6_setLevel 43 = .ok (.iload_n 1, 1) := by decide +kernel
theorem dX6_setLevel_44 : decode cX6_setLevel 44 = .ok (.iaload, 1) := by decide +kernel
theorem dX6_setLevel_45 : decode cX6_setLevel 45 = .ok (.istore_n 3, 1) := by decide +kernel
theorem dX6_setLevel_46 : decode cX6_setLevel 46 = .ok (.aload_n 0, 1) := by decide +kernel
theorem dX6_setLevel_47 : decode cX6_setLevel 47 = .ok (.getfield 38, 3) := by decide +kernel
theorem dX6_setLevel_50 : decode cX6_setLevel 50 = .ok (.iload_n 1, 1) := by decide +kernel
theorem dX6_setLevel_51 : decode cX6_setLevel 51 = .ok (.iload_n 2, 1) := by decide +kernel
theorem dX6_setLevel_52 : decode cX6_setLevel 52 = .ok (.iastore, 1) := by decide +kernel
theorem dX6_setLevel_53 : decode cX6_setLevel 53 = .ok (.iload_n 3, 1) := by decide +kernel
theorem dX6_setLevel_54 : decode cX6_setLevel 54 = .ok (.ireturn, 1) := by decide +kernel
theorem dX6_setLeak_0 : decode cX6_setLeak 0 = .ok (.aload_n 0, 1) := by decide +kernel
theorem dX6_setLeak_1 : decode cX6_setLeak 1 = .ok (.iconst 0, 1) := by decide +kernel
theorem dX6_setLeak_2 : decode cX6_setLeak 2 = .ok (.putfield 72, 3) := by decide +kernel
theorem dX6_setLeak_5 : decode cX6_setLeak 5 = .ok (.aload_n 0, 1) := by decide +kernel
theorem dX6_setLeak_6 : decode cX6_setLeak 6 = .ok (.iload_n 1, 1) := by decide +kernel
theorem dX6_setLeak_7 : decode cX6_setLeak 7 = .ok (.invokevirtual 91, 3) := by decide +kernel
theorem dX6_setLeak_10 : decode cX6_setLeak 10 = .ok (.ifCond .ne 9, 3) := by decide +kernel
theorem dX6_setLeak_13 : decode cX6_setLeak 13 = .ok (.aload_n 0, 1) := by decide +kernel
theorem dX6_setLeak_14 : decode cX6_setLeak 14 = .ok (.iconst 1, 1) := by decide +kernel
theorem dX6_setLeak_15 : decode cX6_setLeak 15 = .ok (.invokevirtual 87, 3) := by decide +kernel
theorem dX6_setLeak_18 : decode cX6_setLeak 18 = .ok (.ireturn, 1) := by decide +kernel
theorem dX6_setLeak_19 : decode cX6_setLeak 19 = .ok (.iload_n 2, 1) := by decide +kernel
theorem dX6_setLeak_20 : decode cX6_setLeak 20 = .ok (.ifCond .lt 9, 3) := by decide +kernel
theorem dX6_setLeak_23 : decode cX6_setLeak 23 = .ok (.iload_n 2, 1) := by decide +kernel
theorem dX6_setLeak_24 : decode cX6_setLeak 24 = .ok (.ldc 86, 2) := by decide +kernel
theorem dX6_setLeak_26 : decode cX6_setLeak 26 = .ok (.if_icmp .le 9, 3) := by decide +kernel
theorem dX6_setLeak_29 : decode cX6_setLeak 29 = .ok (.aload_n 0, 1) := by decide +kernel
theorem dX6_setLeak_30 : decode cX6_setLeak 30 = .ok (.iconst 2, 1) := by decide +kernel
theorem dX6_setLeak_31 : decode cX6_setLeak 31 = .ok (.invokevirtual 87, 3) := by decide +kernel
theorem dX6_setLeak_34 : decode cX6_setLeak 34 = .ok (.ireturn, 1) := by decide +kernel
theorem dX6_setLeak_35 : decode cX6_setLeak 35 = .ok (.aload_n 0, 1) := by decide +kernel
theorem dX6_setLeak_36 : decode cX6_setLeak 36 = .ok (.getfield 41, 3) := by decide +kernel
theorem dX6_setLeak_39 : decode cX6_setLeak 39 = .ok (.iload_n 1, 1) := by decide +kernel
theorem dX6_setLeak_40 : decode cX6_setLeak 40 = .ok (.iaload, 1) := by decide +kernel
theorem dX6_setLeak_41 : decode cX6_setLeak 41 = .ok (.istore_n 3, 1) := by decide +kernel
theorem dX6_setLeak_42 : decode cX6_setLeak 42 = .ok (.aload_n 0, 1) := by decide +kernel
theorem dX6_setLeak_43 : decode cX6_setLeak 43 = .ok (.getfield 41, 3) := by decide +kernel
theorem dX6_setLeak_46 : decode cX6_setLeak 46 = .ok (.iload_n 1, 1) := by decide +kernel
theorem dX6_setLeak_47 : decode cX6_setLeak 47 = .ok (.iload_n 2, 1) := by decide +kernel
theorem dX6_setLeak_48 : decode cX6_setLeak 48 = .ok (.iastore, 1) := by decide +kernel
theorem dX6_setLeak_49 : decode cX6_setLeak 49 = .ok (.iload_n 3, 1) := by decide +kernel
theorem dX6_setLeak_50 : decode cX6_setLeak 50 = .ok (.ireturn, 1) := by decide +kernel
theorem dX6_setRate_0 : decode cX6_setRate 0 = .ok (.aload_n 0, 1) := by decide +kernel
theorem dX6_setRate_1 : decode cX6_setRate 1 = .ok (.iconst 0, 1) := by decide +kernel
theorem dX6_setRate_2 : decode cX6_setRate 2 = .ok (.putfield 72, 3) := by decide +kernel
theorem dX6_setRate_5 : decode cX6_setRate 5 = .ok (.aload_n 0, 1) := by decide +kernel
theorem dX6_setRate_6 : decode cX6_setRate 6 = .ok (.iload_n 1, 1) := by decide +kernel
theorem dX6_setRate_7 : decode cX6_setRate 7 = .ok (.invokevirtual 98, 3) := by decide +kernel
theorem dX6_setRate_10 : decode cX6_setRate 10 = .ok (.ifCond .ne 9, 3) := by decide +kernel
theorem dX6_setRate_13 : decode cX6_setRate 13 = .ok (.aload_n 0, 1) := by decide +kernel
theorem dX6_setRate_14 : decode cX6_setRate 14 = .ok (.iconst 1, 1) := by decide +kernel
theorem dX6_setRate_15 : decode cX6_setRate 15 = .ok (.invokevirtual 87, 3) := by decide +kernel
theorem dX6_setRate_18 : decode cX6_setRate 18 = .ok (.ireturn, 1) := by decide +kernel
theorem dX6_setRate_19 : decode cX6_setRate 19 = .ok (.iload_n 2, 1) := by decide +kernel
theorem dX6_setRate_20 : decode cX6_setRate 20 = .ok (.iconst 1, 1) := by decide +kernel
theorem dX6_setRate_21 : decode cX6_setRate 21 = .ok (.if_icmp .lt 9, 3) := by decide +kernel
theorem dX6_setRate_24 : decode cX6_setRate 24 = .ok (.iload_n 2, 1) := by decide +kernel
theorem dX6_setRate_25 : decode cX6_setRate 25 = .ok (.ldc 86, 2) := by decide +kernel
theorem dX6_setRate_27 : decode cX6_setRate 27 = .ok (.if_icmp .le 9, 3) := by decide +kernel
theorem dX6_setRate_30 : decode cX6_setRate 30 = .ok (.aload_n 0, 1) := by decide +kernel
theorem dX6_setRate_31 : decode cX6_setRate 31 = .ok (.iconst 2, 1) := by decide +kernel
theorem dX6_setRate_32 : decode cX6_setRate 32 = .ok (.invokevirtual 87, 3) := by decide +kernel
theorem dX6_setRate_35 : decode cX6_setRate 35 = .ok (.ireturn, 1) := by decide +kernel
theorem dX6_setRate_36 : decode cX6_setRate 36 = .ok (.aload_n 0, 1) := by decide +kernel
theorem dX6_setRate_37 : decode cX6_setRate 37 = .ok (.getfield 51, 3) := by decide +kernel
theorem dX6_setRate_40 : decode cX6_setRate 40 = .ok (.iload_n 1, 1) := by decide +kernel
theorem dX6_setRate_41 : decode cX6_setRate 41 = .ok (.iaload, 1) := by decide +kernel
theorem dX6_setRate_42 : decode cX6_setRate 42 = .ok (.istore_n 3, 1) := by decide +kernel
theorem dX6_setRate_43 : decode cX6_setRate 43 = .ok (.aload_n 0, 1) := by decide +kernel
theorem dX6_setRate_44 : decode cX6_setRate 44 = .ok (.getfield 51, 3) := by decide +kernel
theorem dX6_setRate_47 : decode cX6_setRate 47 = .ok (.iload_n 1, 1) := by decide +kernel
theorem dX6_setRate_48 : decode cX6_setRate 48 = .ok (.iload_n 2, 1) := by decide +kernel
theorem dX6_setRate_49 : decode cX6_setRate 49 = .ok (.iastore, 1) := by decide +kernel
theorem dX6_setRate_50 : decode cX6_setRate 50 = .ok (.iload_n 3, 1) := by decide +kernel
theorem dX6_setRate_51 : decode cX6_setRate 51 = .ok (.ireturn, 1) := by decide +kernel
theorem dX6_log_0 : decode cX6_log 0 = .ok (.aload_n 0, 1) := by decide +kernel
theorem dX6_log_1 : decode cX6_log 1 = .ok (.getfield 101, 3) := by decide +kernel
theorem dX6_log_4 : decode cX6_log 4 = .ok (.bipush 30, 2) := by decide +kernel
theorem dX6_log_6 : decode cX6_log 6 = .ok (.if_icmp .ne 57, 3) := by decide +kernel
theorem dX6_log_9 : decode cX6_log 9 = .ok (.aload_n 0, 1) := by decide +kernel
theorem dX6_log_10 : decode cX6_log 10 = .ok (.dup, 1) := by decide +kernel
theorem dX6_log_11 : decode cX6_log 11 = .ok (.getfield 101, 3) := by decide +kernel
theorem dX6_log_14 : decode cX6_log 14 = .ok (.iconst 1, 1) := by decide +kernel
theorem dX6_log_15 : decode cX6_log 15 = .ok (.isub, 1) := by decide +kernel
theorem dX6_log_16 : decode cX6_log 16 = .ok (.putfield 101, 3) := by decide +kernel
theorem dX6_log_19 : decode cX6_log 19 = .ok (.iconst 0, 1) := by decide +kernel
theorem dX6_log_20 : decode cX6_log 20 = .ok (.istore_n 2, 1) := by decide +kernel
theorem dX6_log_21 : decode cX6_log 21 = .ok (.iload_n 2, 1) := by decide +kernel
theorem dX6_log_22 : decode cX6_log 22 = .ok (.aload_n 0, 1) := by decide +kernel
theorem dX6_log_23 : decode cX6_log 23 = .ok (.getfield 101, 3) := by decide +kernel
theorem dX6_log_26 : decode cX6_log 26 = .ok (.if_icmp .ge 37, 3) := by decide +kernel
theorem dX6_log_29 : decode cX6_log 29 = .ok (.aload_n 0, 1) := by decide +kernel
theorem dX6_log_30 : decode cX6_log 30 = .ok (.getfield 63, 3) := by decide +kernel
theorem dX6_log_33 : decode cX6_log 33 = .ok (.iload_n 2, 1) := by decide +kernel
theorem dX6_log_34 : decode cX6_log 34 = .ok (.aload_n 0, 1) := by decide +kernel
theorem dX6_log_35 : decode cX6_log 35 = .ok (.getfield 63, 3) := by decide +kernel
theorem dX6_log_38 : decode cX6_log 38 = .ok (.iload_n 2, 1) := by decide +kernel
theorem dX6_log_39 : decode cX6_log 39 = .ok (.iconst 1, 1) := by decide +kernel
theorem dX6_log_40 : decode cX6_log 40 = .ok (.iadd, 1) := by decide +kernel
theorem dX6_log_41 : decode cX6_log 41 = .ok (.laload, 1) := by decide +kernel
theorem dX6_log_42 : decode cX6_log 42 = .ok (.lastore, 1) := by decide +kernel
theorem dX6_log_43 : decode cX6_log 43 = .ok (.aload_n 0, 1) := by decide +kernel
theorem dX6_log_44 : decode cX6_log 44 = .ok (.getfield 66, 3) := by decide +kernel
theorem dX6_log_47 : decode cX6_log 47 = .ok (.iload_n 2, 1) := by decide +kernel
theorem dX6_log_48 : decode cX6_log 48 = .ok (.aload_n 0, 1) := by decide +kernel
theorem dX6_log_49 : decode cX6_log 49 = .ok (.getfield 66, 3) := by decide +kernel
theorem dX6_log_52 : decode cX6_log 52 = .ok (.iload_n 2, 1) := by decide +kernel
theorem dX6_log_53 : decode cX6_log 53 = .ok (.iconst 1, 1) := by decide +kernel
theorem dX6_log_54 : decode cX6_log 54 = .ok (.iadd, 1) := by decide +kernel
theorem dX6_log_55 : decode cX6_log 55 = .ok (.iaload, 1) := by decide +kernel
theorem dX6_log_56 : decode cX6_log 56 = .ok (.iastore, 1) := by decide +kernel
theorem dX6_log_57 : decode cX6_log 57 = .ok (.iinc 2 1, 3) := by decide +kernel
theorem dX6_log_60 : decode cX6_log 60 = .ok (.goto (-39), 3) := by decide +kernel
theorem dX6_log_63 : decode cX6_log 63 = .ok (.aload_n 0, 1) := by decide +kernel
theorem dX6_log_64 : decode cX6_log 64 = .ok (.getfield 63, 3) := by decide +kernel
theorem dX6_log_67 : decode cX6_log 67 = .ok (.aload_n 0, 1) := by decide +kernel
theorem dX6_log_68 : decode cX6_log 68 = .ok (.getfield 101, 3) := by decide +kernel
theorem dX6_log_71 : decode cX6_log 71 = .ok (.aload_n 0, 1) := by decide +kernel
theorem dX6_log_72 : decode cX6_log 72 = .ok (.getfield 104, 3) := by decide +kernel
theorem dX6_log_75 : decode cX6_log 75 = .ok (.lastore, 1) := by decide +kernel
theorem dX6_log_76 : decode cX6_log 76 = .ok (.aload_n 0, 1) := by decide +kernel
theorem dX6_log_77 : decode cX6_log 77 = .ok (.getfield 66, 3) := by decide +kernel
theorem dX6_log_80 : decode cX6_log 80 = .ok (.aload_n 0, 1) := by decide +kernel
theorem dX6_log_81 : decode cX6_log 81 = .ok (.getfield 101, 3) := by decide +kernel
theorem dX6_log_84 : decode cX6_log 84 = .ok (.iload_n 1, 1) := by decide +kernel
theorem dX6_log_85 : decode cX6_log 85 = .ok (.iastore, 1) := by decide +kernel
theorem dX6_log_86 : decode cX6_log 86 = .ok (.aload_n 0, 1) := by decide +kernel
theorem dX6_log_87 : decode cX6_log 87 = .ok (.dup, 1) := by decide +kernel
theorem dX6_log_88 : decode cX6_log 88 = .ok (.getfield 101, 3) := by decide +kernel
theorem dX6_log_91 : decode cX6_log 91 = .ok (.iconst 1, 1) := by decide +kernel
theorem dX6_log_92 : decode cX6_log 92 = .ok (.iadd, 1) := by decide +kernel
theorem dX6_log_93 : decode cX6_log 93 = .ok (.putfield 101, 3) := by decide +kernel
theorem dX6_log_96 : decode cX6_log 96 = .ok (.aload_n 0, 1) := by decide +kernel
theorem dX6_log_97 : decode cX6_log 97 = .ok (.dup, 1) := by decide +kernel
theorem dX6_log_98 : decode cX6_log 98 = .ok (.getfield 108, 3) := by decide +kernel
theorem dX6_log_101 : decode cX6_log 101 = .ok (.lconst 1, 1) := by decide +kernel
theorem dX6_log_102 : decode cX6_log 102 = .ok (.ladd, 1) := by decide +kernel
theorem dX6_log_103 : decode cX6_log 103 = .ok (.putfield 108, 3) := by decide +kernel
theorem dX6_log_106 : decode cX6_log 106 = .ok (.return_, 1) := by decide +kernel
theorem dX6_turn_0 : decode cX6_turn 0 = .ok (.iconst 0, 1) := by decide +kernel
theorem dX6_turn_1 : decode cX6_turn 1 = .ok (.istore_n 1, 1) := by decide +kernel
theorem dX6_turn_2 : decode cX6_turn 2 = .ok (.iconst 0, 1) := by decide +kernel
theorem dX6_turn_3 : decode cX6_turn 3 = .ok (.istore_n 2, 1) := by decide +kernel
theorem dX6_turn_4 : decode cX6_turn 4 = .ok (.iload_n 2, 1) := by decide +kernel
theorem dX6_turn_5 : decode cX6_turn 5 = .ok (.aload_n 0, 1) := by decide +kernel
theorem dX6_turn_6 : decode cX6_turn 6 = .ok (.getfield 79, 3) := by decide +kernel
theorem dX6_turn_9 : decode cX6_turn 9 = .ok (.if_icmp .ge 87, 3) := by decide +kernel
theorem dX6_turn_12 : decode cX6_turn 12 = .ok (.aload_n 0, 1) := by decide +kernel
theorem dX6_turn_13 : decode cX6_turn 13 = .ok (.getfield 38, 3) := by decide +kernel
theorem dX6_turn_16 : decode cX6_turn 16 = .ok (.aload_n 0, 1) := by decide +kernel
theorem dX6_turn_17 : decode cX6_turn 17 = .ok (.getfield 13, 3) := by decide +kernel
theorem dX6_turn_20 : decode cX6_turn 20 = .ok (.iload_n 2, 1) := by decide +kernel
theorem dX6_turn_21 : decode cX6_turn 21 = .ok (.iaload, 1) := by decide +kernel
theorem dX6_turn_22 : decode cX6_turn 22 = .ok (.iaload, 1) := by decide +kernel
theorem dX6_turn_23 : decode cX6_turn 23 = .ok (.istore_n 3, 1) := by decide +kernel
theorem dX6_turn_24 : decode cX6_turn 24 = .ok (.iload_n 3, 1) := by decide +kernel
theorem dX6_turn_25 : decode cX6_turn 25 = .ok (.aload_n 0, 1) := by decide +kernel
theorem dX6_turn_26 : decode cX6_turn 26 = .ok (.getfield 16, 3) := by decide +kernel
theorem dX6_turn_29 : decode cX6_turn 29 = .ok (.iload_n 2, 1) := by decide +kernel
theorem dX6_turn_30 : decode cX6_turn 30 = .ok (.iaload, 1) := by decide +kernel
theorem dX6_turn_31 : decode cX6_turn 31 = .ok (.if_icmp .le 22, 3) := by decide +kernel
theorem dX6_turn_34 : decode cX6_turn 34 = .ok (.iload_n 3, 1) := by decide +kernel
theorem dX6_turn_35 : decode cX6_turn 35 = .ok (.aload_n 0, 1) := by decide +kernel
theorem dX6_turn_36 : decode cX6_turn 36 = .ok (.getfield 19, 3) := by decide +kernel
theorem dX6_turn_39 : decode cX6_turn 39 = .ok (.iload_n 2, 1) := by decide +kernel
theorem dX6_turn_40 : decode cX6_turn 40 = .ok (.iaload, 1) := by decide +kernel
theorem dX6_turn_41 : decode cX6_turn 41 = .ok (.if_icmp .ge 16, 3) := by decide +kernel
theorem dX6_turn_44 : decode cX6_turn 44 = .ok (.aload_n 0, 1) := by decide +kernel
theorem dX6_turn_45 : decode cX6_turn 45 = .ok (.getfield 48, 3) := by decide +kernel
theorem dX6_turn_48 : decode cX6_turn 48 = .ok (.iload_n 2, 1) := by decide +kernel
theorem dX6_turn_49 : decode cX6_turn 49 = .ok (.baload, 1) := by decide +kernel
theorem dX6_turn_50 : decode cX6_turn 50 = .ok (.ifCond .eq 7, 3) := by decide +kernel
theorem dX6_turn_53 : decode cX6_turn 53 = .ok (.iconst 1, 1) := by decide +kernel
theorem dX6_turn_54 : decode cX6_turn 54 = .ok (.goto 4, 3) := by decide +kernel
theorem dX6_turn_57 : decode cX6_turn 57 = .ok (.iconst 0, 1) := by decide +kernel
theorem dX6_turn_58 : decode cX6_turn 58 = .ok (.istore 4, 2) := by decide +kernel
theorem dX6_turn_60 : decode cX6_turn 60 = .ok (.iload 4, 2) := by decide +kernel
theorem dX6_turn_62 : decode cX6_turn 62 = .ok (.aload_n 0, 1) := by decide +kernel
theorem dX6_turn_63 : decode cX6_turn 63 = .ok (.getfield 48, 3) := by decide +kernel
theorem dX6_turn_66 : decode cX6_turn 66 = .ok (.iload_n 2, 1) := by decide +kernel
theorem dX6_turn_67 : decode cX6_turn 67 = .ok (.baload, 1) := by decide +kernel
theorem dX6_turn_68 : decode cX6_turn 68 = .ok (.if_icmp .ne 6, 3) := by decide +kernel
theorem dX6_turn_71 : decode cX6_turn 71 = .ok (.goto 19, 3) := by decide +kernel
theorem dX6_turn_74 : decode cX6_turn 74 = .ok (.aload_n 0, 1) := by decide +kernel
theorem dX6_turn_75 : decode cX6_turn 75 = .ok (.getfield 48, 3) := by decide +kernel
theorem dX6_turn_78 : decode cX6_turn 78 = .ok (.iload_n 2, 1) := by decide +kernel
theorem dX6_turn_79 : decode cX6_turn 79 = .ok (.iload 4, 2) := by decide +kernel
theorem dX6_turn_81 : decode cX6_turn 81 = .ok (.bastore, 1) := by decide +kernel
theorem dX6_turn_82 : decode cX6_turn 82 = .ok (.aload_n 0, 1) := by decide +kernel
theorem dX6_turn_83 : decode cX6_turn 83 = .ok (.iload_n 2, 1) := by decide +kernel
theorem dX6_turn_84 : decode cX6_turn 84 = .ok (.invokevirtual 111, 3) := by decide +kernel
theorem dX6_turn_87 : decode cX6_turn 87 = .ok (.iinc 1 1, 3) := by decide +kernel
theorem dX6_turn_90 : decode cX6_turn 90 = .ok (.iinc 2 1, 3) := by decide +kernel
theorem dX6_turn_93 : decode cX6_turn 93 = .ok (.goto (-89), 3) := by decide +kernel
theorem dX6_turn_96 : decode cX6_turn 96 = .ok (.iload_n 1, 1) := by decide +kernel
theorem dX6_turn_97 : decode cX6_turn 97 = .ok (.ireturn, 1) := by decide +kernel
theorem dX6_pump_0 : decode cX6_pump 0 = .ok (.aload_n 0, 1) := by decide +kernel
theorem dX6_pump_1 : decode cX6_pump 1 = .ok (.getfield 31, 3) := by decide +kernel
theorem dX6_pump_4 : decode cX6_pump 4 = .ok (.iload_n 1, 1) := by decide +kernel
theorem dX6_pump_5 : decode cX6_pump 5 = .ok (.iaload, 1) := by decide +kernel
theorem dX6_pump_6 : decode cX6_pump 6 = .ok (.iconst (-1), 1) := by decide +kernel
theorem dX6_pump_7 : decode cX6_pump 7 = .ok (.if_icmp .eq 24, 3) := by decide +kernel
theorem dX6_pump_10 : decode cX6_pump 10 = .ok (.aload_n 0, 1) := by decide +kernel
theorem dX6_pump_11 : decode cX6_pump 11 = .ok (.getfield 48, 3) := by decide +kernel
theorem dX6_pump_14 : decode cX6_pump 14 = .ok (.aload_n 0, 1) := by decide +kernel
theorem dX6_pump_15 : decode cX6_pump 15 = .ok (.getfield 31, 3) := by decide +kernel
theorem dX6_pump_18 : decode cX6_pump 18 = .ok (.iload_n 1, 1) := by decide +kernel
theorem dX6_pump_19 : decode cX6_pump 19 = .ok (.iaload, 1) := by decide +kernel
theorem dX6_pump_20 : decode cX6_pump 20 = .ok (.baload, 1) := by decide +kernel
theorem dX6_pump_21 : decode cX6_pump 21 = .ok (.aload_n 0, 1) := by decide +kernel
theorem dX6_pump_22 : decode cX6_pump 22 = .ok (.getfield 34, 3) := by decide +kernel
theorem dX6_pump_25 : decode cX6_pump 25 = .ok (.iload_n 1, 1) := by decide +kernel
theorem dX6_pump_26 : decode cX6_pump 26 = .ok (.baload, 1) := by decide +kernel
theorem dX6_pump_27 : decode cX6_pump 27 = .ok (.if_icmp .ne 4, 3) := by decide +kernel
theorem dX6_pump_30 : decode cX6_pump 30 = .ok (.return_, 1) := by decide +kernel
theorem dX6_pump_31 : decode cX6_pump 31 = .ok (.aload_n 0, 1) := by decide +kernel
theorem dX6_pump_32 : decode cX6_pump 32 = .ok (.getfield 51, 3) := by decide +kernel
theorem dX6_pump_35 : decode cX6_pump 35 = .ok (.iload_n 1, 1) := by decide +kernel
theorem dX6_pump_36 : decode cX6_pump 36 = .ok (.iaload, 1) := by decide +kernel
theorem dX6_pump_37 : decode cX6_pump 37 = .ok (.istore_n 2, 1) := by decide +kernel
theorem dX6_pump_38 : decode cX6_pump 38 = .ok (.aload_n 0, 1) := by decide +kernel
theorem dX6_pump_39 : decode cX6_pump 39 = .ok (.getfield 22, 3) := by decide +kernel
theorem dX6_pump_42 : decode cX6_pump 42 = .ok (.iload_n 1, 1) := by decide +kernel
theorem dX6_pump_43 : decode cX6_pump 43 = .ok (.iaload, 1) := by decide +kernel
theorem dX6_pump_44 : decode cX6_pump 44 = .ok (.iconst (-1), 1) := by decide +kernel
theorem dX6_pump_45 : decode cX6_pump 45 = .ok (.if_icmp .eq 19, 3) := by decide +kernel
theorem dX6_pump_48 : decode cX6_pump 48 = .ok (.iload_n 2, 1) := by decide +kernel
theorem dX6_pump_49 : decode cX6_pump 49 = .ok (.aload_n 0, 1) := by decide +kernel
theorem dX6_pump_50 : decode cX6_pump 50 = .ok (.getfield 38, 3) := by decide +kernel
theorem dX6_pump_53 : decode cX6_pump 53 = .ok (.aload_n 0, 1) := by decide +kernel
theorem dX6_pump_54 : decode cX6_pump 54 = .ok (.getfield 22, 3) := by decide +kernel
theorem dX6_pump_57 : decode cX6_pump 57 = .ok (.iload_n 1, 1) := by decide +kernel
theorem dX6_pump_58 : decode cX6_pump 58 = .ok (.iaload, 1) := by decide +kernel
theorem dX6_pump_59 : decode cX6_pump 59 = .ok (.iaload, 1) := by decide +kernel
theorem dX6_pump_60 : decode cX6_pump 60 = .ok (.invokestatic 115, 3) := by decide +kernel
theorem dX6_pump_63 : decode cX6_pump 63 = .ok (.istore_n 2, 1) := by decide +kernel
theorem dX6_pump_64 : decode cX6_pump 64 = .ok (.aload_n 0, 1) := by decide +kernel
theorem dX6_pump_65 : decode cX6_pump 65 = .ok (.getfield 25, 3) := by decide +kernel
theorem dX6_pump_68 : decode cX6_pump 68 = .ok (.iload_n 1, 1) := by decide +kernel
theorem dX6_pump_69 : decode cX6_pump 69 = .ok (.iaload, 1) := by decide +kernel
theorem dX6_pump_70 : decode cX6_pump 70 = .ok (.iconst (-1), 1) := by decide +kernel
theorem dX6_pump_71 : decode cX6_pump 71 = .ok (.if_icmp .eq 31, 3) := by decide +kernel
theorem dX6_pump_74 : decode cX6_pump 74 = .ok (.iload_n 2, 1) := by decide +kernel
theorem dX6_pump_75 : decode cX6_pump 75 = .ok (.aload_n 0, 1) := by decide +kernel
theorem dX6_pump_76 : decode cX6_pump 76 = .ok (.getfield 9, 3) := by decide +kernel
theorem dX6_pump_79 : decode cX6_pump 79 = .ok (.aload_n 0, 1) := by decide +kernel
theorem dX6_pump_80 : decode cX6_pump 80 = .ok (.getfield 25, 3) := by decide +kernel
theorem dX6_pump_83 : decode cX6_pump 83 = .ok (.iload_n 1, 1) := by decide +kernel
theorem dX6_pump_84 : decode cX6_pump 84 = .ok (.iaload, 1) := by decide +kernel
theorem dX6_pump_85 : decode cX6_pump 85 = .ok (.iaload, 1) := by decide +kernel
theorem dX6_pump_86 : decode cX6_pump 86 = .ok (.aload_n 0, 1) := by decide +kernel
theorem dX6_pump_87 : decode cX6_pump 87 = .ok (.getfield 38, 3) := by decide +kernel
theorem dX6_pump_90 : decode cX6_pump 90 = .ok (.aload_n 0, 1) := by decide +kernel
theorem dX6_pump_91 : decode cX6_pump 91 = .ok (.getfield 25, 3) := by decide +kernel
theorem dX6_pump_94 : decode cX6_pump 94 = .ok (.iload_n 1, 1) := by decide +kernel
theorem dX6_pump_95 : decode cX6_pump 95 = .ok (.iaload, 1) := by decide +kernel
theorem dX6_pump_96 : decode cX6_pump 96 = .ok (.iaload, 1) := by decide +kernel
theorem dX6_pump_97 : decode cX6_pump 97 = .ok (.isub, 1) := by decide +kernel
theorem dX6_pump_98 : decode cX6_pump 98 = .ok (.invokestatic 115, 3) := by decide +kernel
theorem dX6_pump_101 : decode cX6_pump 101 = .ok (.istore_n 2, 1) := by decide +kernel
theorem dX6_pump_102 : decode cX6_pump 102 = .ok (.aload_n 0, 1) := by decide +kernel
theorem dX6_pump_103 : decode cX6_pump 103 = .ok (.getfield 22, 3) := by decide +kernel
theorem dX6_pump_106 : decode cX6_pump 106 = .ok (.iload_n 1, 1) := by decide +kernel
theorem dX6_pump_107 : decode cX6_pump 107 = .ok (.iaload, 1) := by decide +kernel
theorem dX6_pump_108 : decode cX6_pump 108 = .ok (.iconst (-1), 1) := by decide +kernel
theorem dX6_pump_109 : decode cX6_pump 109 = .ok (.if_icmp .eq 18, 3) := by decide +kernel
theorem dX6_pump_112 : decode cX6_pump 112 = .ok (.aload_n 0, 1) := by decide +kernel
theorem dX6_pump_113 : decode cX6_pump 113 = .ok (.getfield 38, 3) := by decide +kernel
theorem dX6_pump_116 : decode cX6_pump 116 = .ok (.aload_n 0, 1) := by decide +kernel
theorem dX6_pump_117 : decode cX6_pump 117 = .ok (.getfield 22, 3) := by decide +kernel
theorem dX6_pump_120 : decode cX6_pump 120 = .ok (.iload_n 1, 1) := by decide +kernel
theorem dX6_pump_121 : decode cX6_pump 121 = .ok (.iaload, 1) := by decide +kernel
theorem dX6_pump_122 : decode cX6_pump 122 = .ok (.dup2, 1) := by decide +kernel
theorem dX6_pump_123 : decode cX6_pump 123 = .ok (.iaload, 1) := by decide +kernel
theorem dX6_pump_124 : decode cX6_pump 124 = .ok (.iload_n 2, 1) := by decide +kernel
theorem dX6_pump_125 : decode cX6_pump 125 = .ok (.isub, 1) := by decide +kernel
theorem dX6_pump_126 : decode cX6_pump 126 = .ok (.iastore, 1) := by decide +kernel
theorem dX6_pump_127 : decode cX6_pump 127 = .ok (.aload_n 0, 1) := by decide +kernel
theorem dX6_pump_128 : decode cX6_pump 128 = .ok (.getfield 25, 3) := by decide +kernel
theorem dX6_pump_131 : decode cX6_pump 131 = .ok (.iload_n 1, 1) := by decide +kernel
theorem dX6_pump_132 : decode cX6_pump 132 = .ok (.iaload, 1) := by decide +kernel
theorem dX6_pump_133 : decode cX6_pump 133 = .ok (.iconst (-1), 1) := by decide +kernel
theorem dX6_pump_134 : decode cX6_pump 134 = .ok (.if_icmp .eq 18, 3) := by decide +kernel
theorem dX6_pump_137 : decode cX6_pump 137 = .ok (.aload_n 0, 1) := by decide +kernel
theorem dX6_pump_138 : decode cX6_pump 138 = .ok (.getfield 38, 3) := by decide +kernel
theorem dX6_pump_141 : decode cX6_pump 141 = .ok (.aload_n 0, 1) := by decide +kernel
theorem dX6_pump_142 : decode cX6_pump 142 = .ok (.getfield 25, 3) := by decide +kernel
theorem dX6_pump_145 : decode cX6_pump 145 = .ok (.iload_n 1, 1) := by decide +kernel
theorem dX6_pump_146 : decode cX6_pump 146 = .ok (.iaload, 1) := by decide +kernel
theorem dX6_pump_147 : decode cX6_pump 147 = .ok (.dup2, 1) := by decide +kernel
theorem dX6_pump_148 : decode cX6_pump 148 = .ok (.iaload, 1) := by decide +kernel
theorem dX6_pump_149 : decode cX6_pump 149 = .ok (.iload_n 2, 1) := by decide +kernel
theorem dX6_pump_150 : decode cX6_pump 150 = .ok (.iadd, 1) := by decide +kernel
theorem dX6_pump_151 : decode cX6_pump 151 = .ok (.iastore, 1) := by decide +kernel
theorem dX6_pump_152 : decode cX6_pump 152 = .ok (.aload_n 0, 1) := by decide +kernel
theorem dX6_pump_153 : decode cX6_pump 153 = .ok (.getfield 54, 3) := by decide +kernel
theorem dX6_pump_156 : decode cX6_pump 156 = .ok (.iload_n 1, 1) := by decide +kernel
theorem dX6_pump_157 : decode cX6_pump 157 = .ok (.dup2, 1) := by decide +kernel
theorem dX6_pump_158 : decode cX6_pump 158 = .ok (.laload, 1) := by decide +kernel
theorem dX6_pump_159 : decode cX6_pump 159 = .ok (.iload_n 2, 1) := by decide +kernel
theorem dX6_pump_160 : decode cX6_pump 160 = .ok (.i2l, 1) := by decide +kernel
theorem dX6_pump_161 : decode cX6_pump 161 = .ok (.ladd, 1) := by decide +kernel
theorem dX6_pump_162 : decode cX6_pump 162 = .ok (.lastore, 1) := by decide +kernel
theorem dX6_pump_163 : decode cX6_pump 163 = .ok (.aload_n 0, 1) := by decide +kernel
theorem dX6_pump_164 : decode cX6_pump 164 = .ok (.getfield 57, 3) := by decide +kernel
theorem dX6_pump_167 : decode cX6_pump 167 = .ok (.iload_n 1, 1) := by decide +kernel
theorem dX6_pump_168 : decode cX6_pump 168 = .ok (.dup2, 1) := by decide +kernel
theorem dX6_pump_169 : decode cX6_pump 169 = .ok (.laload, 1) := by decide +kernel
theorem dX6_pump_170 : decode cX6_pump 170 = .ok (.iload_n 2, 1) := by decide +kernel
theorem dX6_pump_171 : decode cX6_pump 171 = .ok (.i2l, 1) := by decide +kernel
theorem dX6_pump_172 : decode cX6_pump 172 = .ok (.aload_n 0, 1) := by decide +kernel
theorem dX6_pump_173 : decode cX6_pump 173 = .ok (.getfield 28, 3) := by decide +kernel
theorem dX6_pump_176 : decode cX6_pump 176 = .ok (.iload_n 1, 1) := by decide +kernel
theorem dX6_pump_177 : decode cX6_pump 177 = .ok (.iaload, 1) := by decide +kernel
theorem dX6_pump_178 : decode cX6_pump 178 = .ok (.i2l, 1) := by decide +kernel
theorem dX6_pump_179 : decode cX6_pump 179 = .ok (.lmul, 1) := by decide +kernel
theorem dX6_pump_180 : decode cX6_pump 180 = .ok (.ladd, 1) := by decide +kernel
theorem dX6_pump_181 : decode cX6_pump 181 = .ok (.lastore, 1) := by decide +kernel
theorem dX6_pump_182 : decode cX6_pump 182 = .ok (.aload_n 0, 1) := by decide +kernel
theorem dX6_pump_183 : decode cX6_pump 183 = .ok (.getfield 60, 3) := by decide +kernel
theorem dX6_pump_186 : decode cX6_pump 186 = .ok (.iload_n 1, 1) := by decide +kernel
theorem dX6_pump_187 : decode cX6_pump 187 = .ok (.dup2, 1) := by decide +kernel
theorem dX6_pump_188 : decode cX6_pump 188 = .ok (.laload, 1) := by decide +kernel
theorem dX6_pump_189 : decode cX6_pump 189 = .ok (.iload_n 2, 1) := by decide +kernel
theorem dX6_pump_190 : decode cX6_pump 190 = .ok (.aload_n 0, 1) := by decide +kernel
theorem dX6_pump_191 : decode cX6_pump 191 = .ok (.getfield 51, 3) := by decide +kernel
theorem dX6_pump_194 : decode cX6_pump 194 = .ok (.iload_n 1, 1) := by decide +kernel
theorem dX6_pump_195 : decode cX6_pump 195 = .ok (.iaload, 1) := by decide +kernel
theorem dX6_pump_196 : decode cX6_pump 196 = .ok (.if_icmp .ge 7, 3) := by decide +kernel
theorem dX6_pump_199 : decode cX6_pump 199 = .ok (.lconst 1, 1) := by decide +kernel
theorem dX6_pump_200 : decode cX6_pump 200 = .ok (.goto 4, 3) := by decide +kernel
theorem dX6_pump_203 : decode cX6_pump 203 = .ok (.lconst 0, 1) := by decide +kernel
theorem dX6_pump_204 : decode cX6_pump 204 = .ok (.ladd, 1) := by decide +kernel
theorem dX6_pump_205 : decode cX6_pump 205 = .ok (.lastore, 1) := by decide +kernel
theorem dX6_pump_206 : decode cX6_pump 206 = .ok (.return_, 1) := by decide +kernel
theorem dX6_tick_0 : decode cX6_tick 0 = .ok (.aload_n 0, 1) := by decide +kernel
theorem dX6_tick_1 : decode cX6_tick 1 = .ok (.invokevirtual 121, 3) := by decide +kernel
theorem dX6_tick_4 : decode cX6_tick 4 = .ok (.istore_n 1, 1) := by decide +kernel
theorem dX6_tick_5 : decode cX6_tick 5 = .ok (.iconst 0, 1) := by decide +kernel
theorem dX6_tick_6 : decode cX6_tick 6 = .ok (.istore_n 2, 1) := by decide +kernel
theorem dX6_tick_7 : decode cX6_tick 7 = .ok (.iload_n 2, 1) := by decide +kernel
theorem dX6_tick_8 : decode cX6_tick 8 = .ok (.aload_n 0, 1) := by decide +kernel
theorem dX6_tick_9 : decode cX6_tick 9 = .ok (.getfield 82, 3) := by decide +kernel
theorem dX6_tick_12 : decode cX6_tick 12 = .ok (.if_icmp .ge 14, 3) := by decide +kernel
theorem dX6_tick_15 : decode cX6_tick 15 = .ok (.aload_n 0, 1) := by decide +kernel
theorem dX6_tick_16 : decode cX6_tick 16 = .ok (.iload_n 2, 1) := by decide +kernel
theorem dX6_tick_17 : decode cX6_tick 17 = .ok (.invokevirtual 125, 3) := by decide +kernel
theorem dX6_tick_20 : decode cX6_tick 20 = .ok (.iinc 2 1, 3) := by decide +kernel
theorem dX6_tick_23 : decode cX6_tick 23 = .ok (.goto (-16), 3) := by decide +kernel
theorem dX6_tick_26 : decode cX6_tick 26 = .ok (.iconst 0, 1) := by decide +kernel
theorem dX6_tick_27 : decode cX6_tick 27 = .ok (.istore_n 2, 1) := by decide +kernel
theorem dX6_tick_28 : decode cX6_tick 28 = .ok (.iload_n 2, 1) := by decide +kernel
theorem dX6_tick_29 : decode cX6_tick 29 = .ok (.aload_n 0, 1) := by decide +kernel
theorem dX6_tick_30 : decode cX6_tick 30 = .ok (.getfield 76, 3) := by decide +kernel
theorem dX6_tick_33 : decode cX6_tick 33 = .ok (.if_icmp .ge 33, 3) := by decide +kernel
theorem dX6_tick_36 : decode cX6_tick 36 = .ok (.aload_n 0, 1) := by decide +kernel
theorem dX6_tick_37 : decode cX6_tick 37 = .ok (.getfield 38, 3) := by decide +kernel
theorem dX6_tick_40 : decode cX6_tick 40 = .ok (.iload_n 2, 1) := by decide +kernel
theorem dX6_tick_41 : decode cX6_tick 41 = .ok (.dup2, 1) := by decide +kernel
theorem dX6_tick_42 : decode cX6_tick 42 = .ok (.iaload, 1) := by decide +kernel
theorem dX6_tick_43 : decode cX6_tick 43 = .ok (.aload_n 0, 1) := by decide +kernel
theorem dX6_tick_44 : decode cX6_tick 44 = .ok (.getfield 41, 3) := by decide +kernel
theorem dX6_tick_47 : decode cX6_tick 47 = .ok (.iload_n 2, 1) := by decide +kernel
theorem dX6_tick_48 : decode cX6_tick 48 = .ok (.iaload, 1) := by decide +kernel
theorem dX6_tick_49 : decode cX6_tick 49 = .ok (.aload_n 0, 1) := by decide +kernel
theorem dX6_tick_50 : decode cX6_tick 50 = .ok (.getfield 38, 3) := by decide +kernel
theorem dX6_tick_53 : decode cX6_tick 53 = .ok (.iload_n 2, 1) := by decide +kernel
theorem dX6_tick_54 : decode cX6_tick 54 = .ok (.iaload, 1) := by decide +kernel
theorem dX6_tick_55 : decode cX6_tick 55 = .ok (.invokestatic 115, 3) := by decide +kernel
theorem dX6_tick_58 : decode cX6_tick 58 = .ok (.isub, 1) := by decide +kernel
theorem dX6_tick_59 : decode cX6_tick 59 = .ok (.iastore, 1) := by decide +kernel
theorem dX6_tick_60 : decode cX6_tick 60 = .ok (.iinc 2 1, 3) := by decide +kernel
theorem dX6_tick_63 : decode cX6_tick 63 = .ok (.goto (-35), 3) := by decide +kernel
theorem dX6_tick_66 : decode cX6_tick 66 = .ok (.aload_n 0, 1) := by decide +kernel
theorem dX6_tick_67 : decode cX6_tick 67 = .ok (.dup, 1) := by decide +kernel
theorem dX6_tick_68 : decode cX6_tick 68 = .ok (.getfield 104, 3) := by decide +kernel
theorem dX6_tick_71 : decode cX6_tick 71 = .ok (.lconst 1, 1) := by decide +kernel
theorem dX6_tick_72 : decode cX6_tick 72 = .ok (.ladd, 1) := by decide +kernel
theorem dX6_tick_73 : decode cX6_tick 73 = .ok (.putfield 104, 3) := by decide +kernel
theorem dX6_tick_76 : decode cX6_tick 76 = .ok (.iconst 0, 1) := by decide +kernel
theorem dX6_tick_77 : decode cX6_tick 77 = .ok (.istore_n 2, 1) := by decide +kernel
theorem dX6_tick_78 : decode cX6_tick 78 = .ok (.iload_n 2, 1) := by decide +kernel
theorem dX6_tick_79 : decode cX6_tick 79 = .ok (.aload_n 0, 1) := by decide +kernel
theorem dX6_tick_80 : decode cX6_tick 80 = .ok (.getfield 76, 3) := by decide +kernel
theorem dX6_tick_83 : decode cX6_tick 83 = .ok (.if_icmp .ge 25, 3) := by decide +kernel
theorem dX6_tick_86 : decode cX6_tick 86 = .ok (.aload_n 0, 1) := by decide +kernel
theorem dX6_tick_87 : decode cX6_tick 87 = .ok (.getfield 44, 3) := by decide +kernel
theorem dX6_tick_90 : decode cX6_tick 90 = .ok (.iload_n 2, 1) := by decide +kernel
theorem dX6_tick_91 : decode cX6_tick 91 = .ok (.dup2, 1) := by decide +kernel
theorem dX6_tick_92 : decode cX6_tick 92 = .ok (.laload, 1) := by decide +kernel
theorem dX6_tick_93 : decode cX6_tick 93 = .ok (.aload_n 0, 1) := by decide +kernel
theorem dX6_tick_94 : decode cX6_tick 94 = .ok (.getfield 38, 3) := by decide +kernel
theorem dX6_tick_97 : decode cX6_tick 97 = .ok (.iload_n 2, 1) := by decide +kernel
theorem dX6_tick_98 : decode cX6_tick 98 = .ok (.iaload, 1) := by decide +kernel
theorem dX6_tick_99 : decode cX6_tick 99 = .ok (.i2l, 1) := by decide +kernel
theorem dX6_tick_100 : decode cX6_tick 100 = .ok (.ladd, 1) := by decide +kernel
theorem dX6_tick_101 : decode cX6_tick 101 = .ok (.lastore, 1) := by decide +kernel
theorem dX6_tick_102 : decode cX6_tick 102 = .ok (.iinc 2 1, 3) := by decide +kernel
theorem dX6_tick_105 : decode cX6_tick 105 = .ok (.goto (-27), 3) := by decide +kernel
theorem dX6_tick_108 : decode cX6_tick 108 = .ok (.iload_n 1, 1) := by decide +kernel
theorem dX6_tick_109 : decode cX6_tick 109 = .ok (.ireturn, 1) := by decide +kernel
theorem dX6_run_0 : decode cX6_run 0 = .ok (.aload_n 0, 1) := by decide +kernel
theorem dX6_run_1 : decode cX6_run 1 = .ok (.iconst 0, 1) := by decide +kernel
theorem dX6_run_2 : decode cX6_run 2 = .ok (.putfield 72, 3) := by decide +kernel
theorem dX6_run_5 : decode cX6_run 5 = .ok (.iload_n 1, 1) := by decide +kernel
theorem dX6_run_6 : decode cX6_run 6 = .ok (.ifCond .lt 10, 3) := by decide +kernel
theorem dX6_run_9 : decode cX6_run 9 = .ok (.iload_n 1, 1) := by decide +kernel
theorem dX6_run_10 : decode cX6_run 10 = .ok (.sipush 5000, 3) := by decide +kernel
theorem dX6_run_13 : decode cX6_run 13 = .ok (.if_icmp .le 9, 3) := by decide +kernel
theorem dX6_run_16 : decode cX6_run 16 = .ok (.aload_n 0, 1) := by decide +kernel
theorem dX6_run_17 : decode cX6_run 17 = .ok (.iconst 1, 1) := by decide +kernel
theorem dX6_run_18 : decode cX6_run 18 = .ok (.invokevirtual 87, 3) := by decide +kernel
theorem dX6_run_21 : decode cX6_run 21 = .ok (.ireturn, 1) := by decide +kernel
theorem dX6_run_22 : decode cX6_run 22 = .ok (.iconst 0, 1) := by decide +kernel
theorem dX6_run_23 : decode cX6_run 23 = .ok (.istore_n 2, 1) := by decide +kernel
theorem dX6_run_24 : decode cX6_run 24 = .ok (.iconst 0, 1) := by decide +kernel
theorem dX6_run_25 : decode cX6_run 25 = .ok (.istore_n 3, 1) := by decide +kernel
theorem dX6_run_26 : decode cX6_run 26 = .ok (.iload_n 3, 1) := by decide +kernel
theorem dX6_run_27 : decode cX6_run 27 = .ok (.iload_n 1, 1) := by decide +kernel
theorem dX6_run_28 : decode cX6_run 28 = .ok (.if_icmp .ge 16, 3) := by decide +kernel
theorem dX6_run_31 : decode cX6_run 31 = .ok (.iload_n 2, 1) := by decide +kernel
theorem dX6_run_32 : decode cX6_run 32 = .ok (.aload_n 0, 1) := by decide +kernel
theorem dX6_run_33 : decode cX6_run 33 = .ok (.invokevirtual 128, 3) := by decide +kernel
theorem dX6_run_36 : decode cX6_run 36 = .ok (.iadd, 1) := by decide +kernel
theorem dX6_run_37 : decode cX6_run 37 = .ok (.istore_n 2, 1) := by decide +kernel
theorem dX6_run_38 : decode cX6_run 38 = .ok (.iinc 3 1, 3) := by decide +kernel
theorem dX6_run_41 : decode cX6_run 41 = .ok (.goto (-15), 3) := by decide +kernel
theorem dX6_run_44 : decode cX6_run 44 = .ok (.iload_n 2, 1) := by decide +kernel
theorem dX6_run_45 : decode cX6_run 45 = .ok (.ireturn, 1) := by decide +kernel
theorem dX6_runUntil_0 : decode cX6_runUntil 0 = .ok (.aload_n 0, 1) := by decide +kernel
theorem dX6_runUntil_1 : decode cX6_runUntil 1 = .ok (.iconst 0, 1) := by decide +kernel
theorem dX6_runUntil_2 : decode cX6_runUntil 2 = .ok (.putfield 72, 3) := by decide +kernel
theorem dX6_runUntil_5 : decode cX6_runUntil 5 = .ok (.aload_n 0, 1) := by decide +kernel
theorem dX6_runUntil_6 : decode cX6_runUntil 6 = .ok (.iload_n 1, 1) := by decide +kernel
theorem dX6_runUntil_7 : decode cX6_runUntil 7 = .ok (.invokevirtual 91, 3) := by decide +kernel
theorem dX6_runUntil_10 : decode cX6_runUntil 10 = .ok (.ifCond .ne 9, 3) := by decide +kernel
theorem dX6_runUntil_13 : decode cX6_runUntil 13 = .ok (.aload_n 0, 1) := by decide +kernel
theorem dX6_runUntil_14 : decode cX6_runUntil 14 = .ok (.iconst 1, 1) := by decide +kernel
theorem dX6_runUntil_15 : decode cX6_runUntil 15 = .ok (.invokevirtual 87, 3) := by decide +kernel
theorem dX6_runUntil_18 : decode cX6_runUntil 18 = .ok (.ireturn, 1) := by decide +kernel
theorem dX6_runUntil_19 : decode cX6_runUntil 19 = .ok (.iload 4, 2) := by decide +kernel
theorem dX6_runUntil_21 : decode cX6_runUntil 21 = .ok (.ifCond .lt 11, 3) := by decide +kernel
theorem dX6_runUntil_24 : decode cX6_runUntil 24 = .ok (.iload 4, 2) := by decide +kernel
theorem dX6_runUntil_26 : decode cX6_runUntil 26 = .ok (.sipush 5000, 3) := by decide +kernel
theorem dX6_runUntil_29 : decode cX6_runUntil 29 = .ok (.if_icmp .le 9, 3) := by decide +kernel
theorem dX6_runUntil_32 : decode cX6_runUntil 32 = .ok (.aload_n 0, 1) := by decide +kernel
theorem dX6_runUntil_33 : decode cX6_runUntil 33 = .ok (.iconst 2, 1) := by decide +kernel
theorem dX6_runUntil_34 : decode cX6_runUntil 34 = .ok (.invokevirtual 87, 3) := by decide +kernel
theorem dX6_runUntil_37 : decode cX6_runUntil 37 = .ok (.ireturn, 1) := by decide +kernel
theorem dX6_runUntil_38 : decode cX6_runUntil 38 = .ok (.iconst 0, 1) := by decide +kernel
theorem dX6_runUntil_39 : decode cX6_runUntil 39 = .ok (.istore 5, 2) := by decide +kernel
theorem dX6_runUntil_41 : decode cX6_runUntil 41 = .ok (.iload_n 3, 1) := by decide +kernel
theorem dX6_runUntil_42 : decode cX6_runUntil 42 = .ok (.ifCond .eq 16, 3) := by decide +kernel
theorem dX6_runUntil_45 : decode cX6_runUntil 45 = .ok (.aload_n 0, 1) := by decide +kernel
theorem dX6_runUntil_46 : decode cX6_runUntil 46 = .ok (.getfield 38, 3) := by decide +kernel
theorem dX6_runUntil_49 : decode cX6_runUntil 49 = .ok (.iload_n 1, 1) := by decide +kernel
theorem dX6_runUntil_50 : decode cX6_runUntil 50 = .ok (.iaload, 1) := by decide +kernel
theorem dX6_runUntil_51 : decode cX6_runUntil 51 = .ok (.iload_n 2, 1) := by decide +kernel
theorem dX6_runUntil_52 : decode cX6_runUntil 52 = .ok (.if_icmp .gt 16, 3) := by decide +kernel
theorem dX6_runUntil_55 : decode cX6_runUntil 55 = .ok (.goto 33, 3) := by decide +kernel
theorem dX6_runUntil_58 : decode cX6_runUntil 58 = .ok (.aload_n 0, 1) := by decide +kernel
theorem dX6_runUntil_59 : decode cX6_runUntil 59 = .ok (.getfield 38, 3) := by decide +kernel
theorem dX6_runUntil_62 : decode cX6_runUntil 62 = .ok (.iload_n 1, 1) := by decide +kernel
theorem dX6_runUntil_63 : decode cX6_runUntil 63 = .ok (.iaload, 1) := by decide +kernel
theorem dX6_runUntil_64 : decode cX6_runUntil 64 = .ok (.iload_n 2, 1) := by decide +kernel
theorem dX6_runUntil_65 : decode cX6_runUntil 65 = .ok (.if_icmp .ge 23, 3) := by decide +kernel
theorem dX6_runUntil_68 : decode cX6_runUntil 68 = .ok (.iload 5, 2) := by decide +kernel
theorem dX6_runUntil_70 : decode cX6_runUntil 70 = .ok (.iload 4, 2) := by decide +kernel
theorem dX6_runUntil_72 : decode cX6_runUntil 72 = .ok (.if_icmp .ne 5, 3) := by decide +kernel
theorem dX6_runUntil_75 : decode cX6_runUntil 75 = .ok (.iconst (-1), 1) := by decide +kernel
theorem dX6_runUntil_76 : decode cX6_runUntil 76 = .ok (.ireturn, 1) := by decide +kernel
theorem dX6_runUntil_77 : decode cX6_runUntil 77 = .ok (.aload_n 0, 1) := by decide +kernel
theorem dX6_runUntil_78 : decode cX6_runUntil 78 = .ok (.invokevirtual 128, 3) := by decide +kernel
theorem dX6_runUntil_81 : decode cX6_runUntil 81 = .ok (.pop, 1) := by decide +kernel
theorem dX6_runUntil_82 : decode cX6_runUntil 82 = .ok (.iinc 5 1, 3) := by decide +kernel
theorem dX6_runUntil_85 : decode cX6_runUntil 85 = .ok (.goto (-44), 3) := by decide +kernel
theorem dX6_runUntil_88 : decode cX6_runUntil 88 = .ok (.iload 5, 2) := by decide +kernel
theorem dX6_runUntil_90 : decode cX6_runUntil 90 = .ok (.ireturn, 1) := by decide +kernel
theorem dX6_nextChange_0 : decode cX6_nextChange 0 = .ok (.aload_n 0, 1) := by decide +kernel
theorem dX6_nextChange_1 : decode cX6_nextChange 1 = .ok (.iconst 0, 1) := by decide +kernel
theorem dX6_nextChange_2 : decode cX6_nextChange 2 = .ok (.putfield 72, 3) := by decide +kernel
theorem dX6_nextChange_5 : decode cX6_nextChange 5 = .ok (.iload_n 1, 1) := by decide +kernel
theorem dX6_nextChange_6 : decode cX6_nextChange 6 = .ok (.iconst 1, 1) := by decide +kernel
theorem dX6_nextChange_7 : decode cX6_nextChange 7 = .ok (.if_icmp .lt 10, 3) := by decide +kernel
theorem dX6_nextChange_10 : decode cX6_nextChange 10 = .ok (.iload_n 1, 1) := by decide +kernel
theorem dX6_nextChange_11 : decode cX6_nextChange 11 = .ok (.sipush 5000, 3) := by decide +kernel
theorem dX6_nextChange_14 : decode cX6_nextChange 14 = .ok (.if_icmp .le 9, 3) := by decide +kernel
theorem dX6_nextChange_17 : decode cX6_nextChange 17 = .ok (.aload_n 0, 1) := by decide +kernel
theorem dX6_nextChange_18 : decode cX6_nextChange 18 = .ok (.iconst 1, 1) := by decide +kernel
theorem dX6_nextChange_19 : decode cX6_nextChange 19 = .ok (.invokevirtual 87, 3) := by decide +kernel
theorem dX6_nextChange_22 : decode cX6_nextChange 22 = .ok (.ireturn, 1) := by decide +kernel
theorem dX6_nextChange_23 : decode cX6_nextChange 23 = .ok (.aload_n 0, 1) := by decide +kernel
theorem dX6_nextChange_24 : decode cX6_nextChange 24 = .ok (.iconst 4, 1) := by decide +kernel
theorem dX6_nextChange_25 : decode cX6_nextChange 25 = .ok (.invokevirtual 131, 3) := by decide +kernel
theorem dX6_nextChange_28 : decode cX6_nextChange 28 = .ok (.iconst 0, 1) := by decide +kernel
theorem dX6_nextChange_29 : decode cX6_nextChange 29 = .ok (.istore_n 2, 1) := by decide +kernel
theorem dX6_nextChange_30 : decode cX6_nextChange 30 = .ok (.iconst 1, 1) := by decide +kernel
theorem dX6_nextChange_31 : decode cX6_nextChange 31 = .ok (.istore_n 3, 1) := by decide +kernel
theorem dX6_nextChange_32 : decode cX6_nextChange 32 = .ok (.iload_n 3, 1) := by decide +kernel
theorem dX6_nextChange_33 : decode cX6_nextChange 33 = .ok (.iload_n 1, 1) := by decide +kernel
theorem dX6_nextChange_34 : decode cX6_nextChange 34 = .ok (.if_icmp .gt 26, 3) := by decide +kernel
theorem dX6_nextChange_37 : decode cX6_nextChange 37 = .ok (.iload_n 2, 1) := by decide +kernel
theorem dX6_nextChange_38 : decode cX6_nextChange 38 = .ok (.ifCond .ne 22, 3) := by decide +kernel
theorem dX6_nextChange_41 : decode cX6_nextChange 41 = .ok (.aload_n 0, 1) := by decide +kernel
theorem dX6_nextChange_42 : decode cX6_nextChange 42 = .ok (.invokevirtual 128, 3) := by decide +kernel
theorem dX6_nextChange_45 : decode cX6_nextChange 45 = .ok (.ifCond .le 7, 3) := by decide +kernel
theorem dX6_nextChange_48 : decode cX6_nextChange 48 = .ok (.iload_n 3, 1) := by decide +kernel
theorem dX6_nextChange_49 : decode cX6_nextChange 49 = .ok (.goto 4, 3) := by decide +kernel
theorem dX6_nextChange_52 : decode cX6_nextChange 52 = .ok (.iconst 0, 1) := by decide +kernel
theorem dX6_nextChange_53 : decode cX6_nextChange 53 = .ok (.istore_n 2, 1) := by decide +kernel
theorem dX6_nextChange_54 : decode cX6_nextChange 54 = .ok (.iinc 3 1, 3) := by decide +kernel
theorem dX6_nextChange_57 : decode cX6_nextChange 57 = .ok (.goto (-25), 3) := by decide +kernel
theorem dX6_nextChange_60 : decode cX6_nextChange 60 = .ok (.aload_n 0, 1) := by decide +kernel
theorem dX6_nextChange_61 : decode cX6_nextChange 61 = .ok (.iconst 4, 1) := by decide +kernel
theorem dX6_nextChange_62 : decode cX6_nextChange 62 = .ok (.invokevirtual 134, 3) := by decide +kernel
theorem dX6_nextChange_65 : decode cX6_nextChange 65 = .ok (.iload_n 2, 1) := by decide +kernel
theorem dX6_nextChange_66 : decode cX6_nextChange 66 = .ok (.ifCond .ne 7, 3) := by decide +kernel
theorem dX6_nextChange_69 : decode cX6_nextChange 69 = .ok (.iconst (-1), 1) := by decide +kernel
theorem dX6_nextChange_70 : decode cX6_nextChange 70 = .ok (.goto 4, 3) := by decide +kernel
theorem dX6_nextChange_73 : decode cX6_nextChange 73 = .ok (.iload_n 2, 1) := by decide +kernel
theorem dX6_nextChange_74 : decode cX6_nextChange 74 = .ok (.ireturn, 1) := by decide +kernel
theorem dX6_time_0 : decode cX6_time 0 = .ok (.aload_n 0, 1) := by decide +kernel
theorem dX6_time_1 : decode cX6_time 1 = .ok (.iconst 0, 1) := by decide +kernel
theorem dX6_time_2 : decode cX6_time 2 = .ok (.putfield 72, 3) := by decide +kernel
theorem dX6_time_5 : decode cX6_time 5 = .ok (.aload_n 0, 1) := by decide +kernel
theorem dX6_time_6 : decode cX6_time 6 = .ok (.getfield 104, 3) := by decide +kernel
theorem dX6_time_9 : decode cX6_time 9 = .ok (.lreturn, 1) := by decide +kernel
theorem dX6_level_0 : decode cX6_level 0 = .ok (.aload_n 0, 1) := by decide +kernel
theorem dX6_level_1 : decode cX6_level 1 = .ok (.iconst 0, 1) := by decide +kernel
theorem dX6_level_2 : decode cX6_level 2 = .ok (.putfield 72, 3) := by decide +kernel
theorem dX6_level_5 : decode cX6_level 5 = .ok (.aload_n 0, 1) := by decide +kernel
theorem dX6_level_6 : decode cX6_level 6 = .ok (.iload_n 1, 1) := by decide +kernel
theorem dX6_level_7 : decode cX6_level 7 = .ok (.invokevirtual 91, 3) := by decide +kernel
theorem dX6_level_10 : decode cX6_level 10 = .ok (.ifCond .eq 12, 3) := by decide +kernel
theorem dX6_level_13 : decode cX6_level 13 = .ok (.aload_n 0, 1) := by decide +kernel
theorem dX6_level_14 : decode cX6_level 14 = .ok (.getfield 38, 3) := by decide +kernel
theorem dX6_level_17 : decode cX6_level 17 = .ok (.iload_n 1, 1) := by decide +kernel
theorem dX6_level_18 : decode cX6_level 18 = .ok (.iaload, 1) := by decide +kernel
theorem dX6_level_19 : decode cX6_level 19 = .ok (.goto 8, 3) := by decide +kernel
theorem dX6_level_22 : decode cX6_level 22 = .ok (.aload_n 0, 1) := by decide +kernel
theorem dX6_level_23 : decode cX6_level 23 = .ok (.iconst 1, 1) := by decide +kernel
theorem dX6_level_24 : decode cX6_level 24 = .ok (.invokevirtual 87, 3) := by decide +kernel
theorem dX6_level_27 : decode cX6_level 27 = .ok (.ireturn, 1) := by decide +kernel
theorem dX6_levelSum_0 : decode cX6_levelSum 0 = .ok (.aload_n 0, 1) := by decide +kernel
theorem dX6_levelSum_1 : decode cX6_levelSum 1 = .ok (.iconst 0, 1) := by decide +kernel
theorem dX6_levelSum_2 : decode cX6_levelSum 2 = .ok (.putfield 72, 3) := by decide +kernel
theorem dX6_levelSum_5 : decode cX6_levelSum 5 = .ok (.aload_n 0, 1) := by decide +kernel
theorem dX6_levelSum_6 : decode cX6_levelSum 6 = .ok (.iload_n 1, 1) := by decide +kernel
theorem dX6_levelSum_7 : decode cX6_levelSum 7 = .ok (.invokevirtual 91, 3) := by decide +kernel
theorem dX6_levelSum_10 : decode cX6_levelSum 10 = .ok (.ifCond .eq 12, 3) := by decide +kernel
theorem dX6_levelSum_13 : decode cX6_levelSum 13 = .ok (.aload_n 0, 1) := by decide +kernel
theorem dX6_levelSum_14 : decode cX6_levelSum 14 = .ok (.getfield 44, 3) := by decide +kernel
theorem dX6_levelSum_17 : decode cX6_levelSum 17 = .ok (.iload_n 1, 1) := by decide +kernel
theorem dX6_levelSum_18 : decode cX6_levelSum 18 = .ok (.laload, 1) := by decide +kernel
theorem dX6_levelSum_19 : decode cX6_levelSum 19 = .ok (.goto 9, 3) := by decide +kernel
theorem dX6_levelSum_22 : decode cX6_levelSum 22 = .ok (.aload_n 0, 1) := by decide +kernel
theorem dX6_levelSum_23 : decode cX6_levelSum 23 = .ok (.iconst 1, 1) := by decide +kernel
theorem dX6_levelSum_24 : decode cX6_levelSum 24 = .ok (.invokevirtual 87, 3) := by decide +kernel
theorem dX6_levelSum_27 : decode cX6_levelSum 27 = .ok (.i2l, 1) := by decide +kernel
theorem dX6_levelSum_28 : decode cX6_levelSum 28 = .ok (.lreturn, 1) := by decide +kernel
theorem dX6_meanLevel_0 : decode cX6_meanLevel 0 = .ok (.aload_n 0, 1) := by decide +kernel
theorem dX6_meanLevel_1 : decode cX6_meanLevel 1 = .ok (.iconst 0, 1) := by decide +kernel
theorem dX6_meanLevel_2 : decode cX6_meanLevel 2 = .ok (.putfield 72, 3) := by decide +kernel
theorem dX6_meanLevel_5 : decode cX6_meanLevel 5 = .ok (.aload_n 0, 1) := by decide +kernel
theorem dX6_meanLevel_6 : decode cX6_meanLevel 6 = .ok (.iload_n 1, 1) := by decide +kernel
theorem dX6_meanLevel_7 : decode cX6_meanLevel 7 = .ok (.invokevirtual 91, 3) := by decide +kernel
theorem dX6_meanLevel_10 : decode cX6_meanLevel 10 = .ok (.ifCond .ne 10, 3) := by decide +kernel
theorem dX6_meanLevel_13 : decode cX6_meanLevel 13 = .ok (.aload_n 0, 1) := by decide +kernel
theorem dX6_meanLevel_14 : decode cX6_meanLevel 14 = .ok (.iconst 1, 1) := by decide +kernel
theorem dX6_meanLevel_15 : decode cX6_meanLevel 15 = .ok (.invokevirtual 87, 3) := by decide +kernel
theorem dX6_meanLevel_18 : decode cX6_meanLevel 18 = .ok (.i2d, 1) := by decide +kernel
theorem dX6_meanLevel_19 : decode cX6_meanLevel 19 = .ok (.dreturn, 1) := by decide +kernel
theorem dX6_meanLevel_20 : decode cX6_meanLevel 20 = .ok (.aload_n 0, 1) := by decide +kernel
theorem dX6_meanLevel_21 : decode cX6_meanLevel 21 = .ok (.getfield 104, 3) := by decide +kernel
theorem dX6_meanLevel_24 : decode cX6_meanLevel 24 = .ok (.lconst 0, 1) := by decide +kernel
theorem dX6_meanLevel_25 : decode cX6_meanLevel 25 = .ok (.lcmp, 1) := by decide +kernel
theorem dX6_meanLevel_26 : decode cX6_meanLevel 26 = .ok (.ifCond .ne 13, 3) := by decide +kernel
theorem dX6_meanLevel_29 : decode cX6_meanLevel 29 = .ok (.aload_n 0, 1) := by decide +kernel
theorem dX6_meanLevel_30 : decode cX6_meanLevel 30 = .ok (.getfield 38, 3) := by decide +kernel
theorem dX6_meanLevel_33 : decode cX6_meanLevel 33 = .ok (.iload_n 1, 1) := by decide +kernel
theorem dX6_meanLevel_34 : decode cX6_meanLevel 34 = .ok (.iaload, 1) := by decide +kernel
theorem dX6_meanLevel_35 : decode cX6_meanLevel 35 = .ok (.i2d, 1) := by decide +kernel
theorem dX6_meanLevel_36 : decode cX6_meanLevel 36 = .ok (.goto 16, 3) := by decide +kernel
theorem dX6_meanLevel_39 : decode cX6_meanLevel 39 = .ok (.aload_n 0, 1) := by decide +kernel
theorem dX6_meanLevel_40 : decode cX6_meanLevel 40 = .ok (.getfield 44, 3) := by decide +kernel
theorem dX6_meanLevel_43 : decode cX6_meanLevel 43 = .ok (.iload_n 1, 1) := by decide +kernel
theorem dX6_meanLevel_44 : decode cX6_meanLevel 44 = .ok (.laload, 1) := by decide +kernel
theorem dX6_meanLevel_45 : decode cX6_meanLevel 45 = .ok (.l2d, 1) := by decide +kernel
theorem dX6_meanLevel_46 : decode cX6_meanLevel 46 = .ok (.aload_n 0, 1) := by decide +kernel
theorem dX6_meanLevel_47 : decode cX6_meanLevel 47 = .ok (.getfield 104, 3) := by decide +kernel
theorem dX6_meanLevel_50 : decode cX6_meanLevel 50 = .ok (.l2d, 1) := by decide +kernel
theorem dX6_meanLevel_51 : decode cX6_meanLevel 51 = .ok (.ddiv, 1) := by decide +kernel
theorem dX6_meanLevel_52 : decode cX6_meanLevel 52 = .ok (.dreturn, 1) := by decide +kernel
theorem dX6_isOn_0 : decode cX6_isOn 0 = .ok (.aload_n 0, 1) := by decide +kernel
theorem dX6_isOn_1 : decode cX6_isOn 1 = .ok (.aload_n 0, 1) := by decide +kernel
theorem dX6_isOn_2 : decode cX6_isOn 2 = .ok (.iload_n 1, 1) := by decide +kernel
theorem dX6_isOn_3 : decode cX6_isOn 3 = .ok (.invokevirtual 95, 3) := by decide +kernel
theorem dX6_isOn_6 : decode cX6_isOn 6 = .ok (.ifCond .eq 7, 3) := by decide +kernel
theorem dX6_isOn_9 : decode cX6_isOn 9 = .ok (.iconst 0, 1) := by decide +kernel
theorem dX6_isOn_10 : decode cX6_isOn 10 = .ok (.goto 4, 3) := by decide +kernel
theorem dX6_isOn_13 : decode cX6_isOn 13 = .ok (.iconst 1, 1) := by decide +kernel
theorem dX6_isOn_14 : decode cX6_isOn 14 = .ok (.putfield 72, 3) := by decide +kernel
theorem dX6_isOn_17 : decode cX6_isOn 17 = .ok (.aload_n 0, 1) := by decide +kernel
theorem dX6_isOn_18 : decode cX6_isOn 18 = .ok (.getfield 72, 3) := by decide +kernel
theorem dX6_isOn_21 : decode cX6_isOn 21 = .ok (.ifCond .ne 16, 3) := by decide +kernel
theorem dX6_isOn_24 : decode cX6_isOn 24 = .ok (.aload_n 0, 1) := by decide +kernel
theorem dX6_isOn_25 : decode cX6_isOn 25 = .ok (.getfield 48, 3) := by decide +kernel
theorem dX6_isOn_28 : decode cX6_isOn 28 = .ok (.iload_n 1, 1) := by decide +kernel
theorem dX6_isOn_29 : decode cX6_isOn 29 = .ok (.baload, 1) := by decide +kernel
theorem dX6_isOn_30 : decode cX6_isOn 30 = .ok (.ifCond .eq 7, 3) := by decide +kernel
theorem dX6_isOn_33 : decode cX6_isOn 33 = .ok (.iconst 1, 1) := by decide +kernel
theorem dX6_isOn_34 : decode cX6_isOn 34 = .ok (.goto 4, 3) := by decide +kernel
theorem dX6_isOn_37 : decode cX6_isOn 37 = .ok (.iconst 0, 1) := by decide +kernel
theorem dX6_isOn_38 : decode cX6_isOn 38 = .ok (.ireturn, 1) := by decide +kernel
theorem dX6_total_0 : decode cX6_total 0 = .ok (.aload_n 0, 1) := by decide +kernel
theorem dX6_total_1 : decode cX6_total 1 = .ok (.iconst 0, 1) := by decide +kernel
theorem dX6_total_2 : decode cX6_total 2 = .ok (.putfield 72, 3) := by decide +kernel
theorem dX6_total_5 : decode cX6_total 5 = .ok (.aload_n 0, 1) := by decide +kernel
theorem dX6_total_6 : decode cX6_total 6 = .ok (.iload_n 1, 1) := by decide +kernel
theorem dX6_total_7 : decode cX6_total 7 = .ok (.invokevirtual 98, 3) := by decide +kernel
theorem dX6_total_10 : decode cX6_total 10 = .ok (.ifCond .eq 12, 3) := by decide +kernel
theorem dX6_total_13 : decode cX6_total 13 = .ok (.aload_n 0, 1) := by decide +kernel
theorem dX6_total_14 : decode cX6_total 14 = .ok (.getfield 54, 3) := by decide +kernel
theorem dX6_total_17 : decode cX6_total 17 = .ok (.iload_n 1, 1) := by decide +kernel
theorem dX6_total_18 : decode cX6_total 18 = .ok (.laload, 1) := by decide +kernel
theorem dX6_total_19 : decode cX6_total 19 = .ok (.goto 9, 3) := by decide +kernel
theorem dX6_total_22 : decode cX6_total 22 = .ok (.aload_n 0, 1) := by decide +kernel
theorem dX6_total_23 : decode cX6_total 23 = .ok (.iconst 1, 1) := by decide +kernel
theorem dX6_total_24 : decode cX6_total 24 = .ok (.invokevirtual 87, 3) := by decide +kernel
theorem dX6_total_27 : decode cX6_total 27 = .ok (.i2l, 1) := by decide +kernel
theorem dX6_total_28 : decode cX6_total 28 = .ok (.lreturn, 1) := by decide +kernel
theorem dX6_energy_0 : decode cX6_energy 0 = .ok (.aload_n 0, 1) := by decide +kernel
theorem dX6_energy_1 : decode cX6_energy 1 = .ok (.iconst 0, 1) := by decide +kernel
theorem dX6_energy_2 : decode cX6_energy 2 = .ok (.putfield 72, 3) := by decide +kernel
theorem dX6_energy_5 : decode cX6_energy 5 = .ok (.aload_n 0, 1) := by decide +kernel
theorem dX6_energy_6 : decode cX6_energy 6 = .ok (.iload_n 1, 1) := by decide +kernel
theorem dX6_energy_7 : decode cX6_energy 7 = .ok (.invokevirtual 98, 3) := by decide +kernel
theorem dX6_energy_10 : decode cX6_energy 10 = .ok (.ifCond .eq 12, 3) := by decide +kernel
theorem dX6_energy_13 : decode cX6_energy 13 = .ok (.aload_n 0, 1) := by decide +kernel
theorem dX6_energy_14 : decode cX6_energy 14 = .ok (.getfield 57, 3) := by decide +kernel
theorem dX6_energy_17 : decode cX6_energy 17 = .ok (.iload_n 1, 1) := by decide +kernel
theorem dX6_energy_18 : decode cX6_energy 18 = .ok (.laload, 1) := by decide +kernel
theorem dX6_energy_19 : decode cX6_energy 19 = .ok (.goto 9, 3) := by decide +kernel
theorem dX6_energy_22 : decode cX6_energy 22 = .ok (.aload_n 0, 1) := by decide +kernel
theorem dX6_energy_23 : decode cX6_energy 23 = .ok (.iconst 1, 1) := by decide +kernel
theorem dX6_energy_24 : decode cX6_energy 24 = .ok (.invokevirtual 87, 3) := by decide +kernel
theorem dX6_energy_27 : decode cX6_energy 27 = .ok (.i2l, 1) := by decide +kernel
theorem dX6_energy_28 : decode cX6_energy 28 = .ok (.lreturn, 1) := by decide +kernel
theorem dX6_shortTicks_0 : decode cX6_shortTicks 0 = .ok (.aload_n 0, 1) := by decide +kernel
theorem dX6_shortTicks_1 : decode cX6_shortTicks 1 = .ok (.iconst 0, 1) := by decide +kernel
theorem dX6_shortTicks_2 : decode cX6_shortTicks 2 = .ok (.putfield 72, 3) := by decide +kernel
theorem dX6_shortTicks_5 : decode cX6_shortTicks 5 = .ok (.aload_n 0, 1) := by decide +kernel
theorem dX6_shortTicks_6 : decode cX6_shortTicks 6 = .ok (.iload_n 1, 1) := by decide +kernel
theorem dX6_shortTicks_7 : decode cX6_shortTicks 7 = .ok (.invokevirtual 98, 3) := by decide +kernel
theorem dX6_shortTicks_10 : decode cX6_shortTicks 10 = .ok (.ifCond .eq 12, 3) := by decide +kernel
theorem dX6_shortTicks_13 : decode cX6_shortTicks 13 = .ok (.aload_n 0, 1) := by decide +kernel
theorem dX6_shortTicks_14 : decode cX6_shortTicks 14 = .ok (.getfield 60, 3) := by decide +kernel
theorem dX6_shortTicks_17 : decode cX6_shortTicks 17 = .ok (.iload_n 1, 1) := by decide +kernel
theorem dX6_shortTicks_18 : decode cX6_shortTicks 18 = .ok (.laload, 1) := by decide +kernel
theorem dX6_shortTicks_19 : decode cX6_shortTicks 19 = .ok (.goto 9, 3) := by decide +kernel
theorem dX6_shortTicks_22 : decode cX6_shortTicks 22 = .ok (.aload_n 0, 1) := by decide +kernel
theorem dX6_shortTicks_23 : decode cX6_shortTicks 23 = .ok (.iconst 1, 1) := by decide +kernel
theorem dX6_shortTicks_24 : decode cX6_shortTicks 24 = .ok (.invokevirtual 87, 3) := by decide +kernel
theorem dX6_shortTicks_27 : decode cX6_shortTicks 27 = .ok (.i2l, 1) := by decide +kernel
theorem dX6_shortTicks_28 : decode cX6_shortTicks 28 = .ok (.lreturn, 1) := by decide +kernel
theorem dX6_balance_0 : decode cX6_balance 0 = .ok (.aload_n 0, 1) := by decide +kernel
theorem dX6_balance_1 : decode cX6_balance 1 = .ok (.iconst 0, 1) := by decide +kernel
theorem dX6_balance_2 : decode cX6_balance 2 = .ok (.putfield 72, 3) := by decide +kernel
theorem dX6_balance_5 : decode cX6_balance 5 = .ok (.lconst 0, 1) := by decide +kernel
theorem dX6_balance_6 : decode cX6_balance 6 = .ok (.lstore_n 1, 1) := by decide +kernel
theorem dX6_balance_7 : decode cX6_balance 7 = .ok (.iconst 0, 1) := by decide +kernel
theorem dX6_balance_8 : decode cX6_balance 8 = .ok (.istore_n 3, 1) := by decide +kernel
theorem dX6_balance_9 : decode cX6_balance 9 = .ok (.iload_n 3, 1) := by decide +kernel
theorem dX6_balance_10 : decode cX6_balance 10 = .ok (.aload_n 0, 1) := by decide +kernel
theorem dX6_balance_11 : decode cX6_balance 11 = .ok (.getfield 82, 3) := by decide +kernel
theorem dX6_balance_14 : decode cX6_balance 14 = .ok (.if_icmp .ge 52, 3) := by decide +kernel
theorem dX6_balance_17 : decode cX6_balance 17 = .ok (.lload_n 1, 1) := by decide +kernel
theorem dX6_balance_18 : decode cX6_balance 18 = .ok (.aload_n 0, 1) := by decide +kernel
theorem dX6_balance_19 : decode cX6_balance 19 = .ok (.getfield 22, 3) := by decide +kernel
theorem dX6_balance_22 : decode cX6_balance 22 = .ok (.iload_n 3, 1) := by decide +kernel
theorem dX6_balance_23 : decode cX6_balance 23 = .ok (.iaload, 1) := by decide +kernel
theorem dX6_balance_24 : decode cX6_balance 24 = .ok (.iconst (-1), 1) := by decide +kernel
theorem dX6_balance_25 : decode cX6_balance 25 = .ok (.if_icmp .ne 12, 3) := by decide +kernel
theorem dX6_balance_28 : decode cX6_balance 28 = .ok (.aload_n 0, 1) := by decide +kernel
theorem dX6_balance_29 : decode cX6_balance 29 = .ok (.getfield 54, 3) := by decide +kernel
theorem dX6_balance_32 : decode cX6_balance 32 = .ok (.iload_n 3, 1) := by decide +kernel
theorem dX6_balance_33 : decode cX6_balance 33 = .ok (.laload, 1) := by decide +kernel
theorem dX6_balance_34 : decode cX6_balance 34 = .ok (.goto 24, 3) := by decide +kernel
theorem dX6_balance_37 : decode cX6_balance 37 = .ok (.aload_n 0, 1) := by decide +kernel
theorem dX6_balance_38 : decode cX6_balance 38 = .ok (.getfield 25, 3) := by decide +kernel
theorem dX6_balance_41 : decode cX6_balance 41 = .ok (.iload_n 3, 1) := by decide +kernel
theorem dX6_balance_42 : decode cX6_balance 42 = .ok (.iaload, 1) := by decide +kernel
theorem dX6_balance_43 : decode cX6_balance 43 = .ok (.iconst (-1), 1) := by decide +kernel
theorem dX6_balance_44 : decode cX6_balance 44 = .ok (.if_icmp .ne 13, 3) := by decide +kernel
theorem dX6_balance_47 : decode cX6_balance 47 = .ok (.aload_n 0, 1) := by decide +kernel
theorem dX6_balance_48 : decode cX6_balance 48 = .ok (.getfield 54, 3) := by decide +kernel
theorem dX6_balance_51 : decode cX6_balance 51 = .ok (.iload_n 3, 1) := by decide +kernel
theorem dX6_balance_52 : decode cX6_balance 52 = .ok (.laload, 1) := by decide +kernel
theorem dX6_balance_53 : decode cX6_balance 53 = .ok (.lneg, 1) := by decide +kernel
theorem dX6_balance_54 : decode cX6_balance 54 = .ok (.goto 4, 3) := by decide +kernel
theorem dX6_balance_57 : decode cX6_balance 57 = .ok (.lconst 0, 1) := by decide +kernel
theorem dX6_balance_58 : decode cX6_balance 58 = .ok (.ladd, 1) := by decide +kernel
theorem dX6_balance_59 : decode cX6_balance 59 = .ok (.lstore_n 1, 1) := by decide +kernel
theorem dX6_balance_60 : decode cX6_balance 60 = .ok (.iinc 3 1, 3) := by decide +kernel
theorem dX6_balance_63 : decode cX6_balance 63 = .ok (.goto (-54), 3) := by decide +kernel
theorem dX6_balance_66 : decode cX6_balance 66 = .ok (.lload_n 1, 1) := by decide +kernel
theorem dX6_balance_67 : decode cX6_balance 67 = .ok (.lreturn, 1) := by decide +kernel
theorem dX6_changeCount_0 : decode cX6_changeCount 0 = .ok (.aload_n 0, 1) := by decide +kernel
theorem dX6_changeCount_1 : decode cX6_changeCount 1 = .ok (.iconst 0, 1) := by decide +kernel
theorem dX6_changeCount_2 : decode cX6_changeCount 2 = .ok (.putfield 72, 3) := by decide +kernel
theorem dX6_changeCount_5 : decode cX6_changeCount 5 = .ok (.aload_n 0, 1) := by decide +kernel
theorem dX6_changeCount_6 : decode cX6_changeCount 6 = .ok (.getfield 108, 3) := by decide +kernel
theorem dX6_changeCount_9 : decode cX6_changeCount 9 = .ok (.lreturn, 1) := by decide +kernel
theorem dX6_isLogged_0 : decode cX6_isLogged 0 = .ok (.iload_n 1, 1) := by decide +kernel
theorem dX6_isLogged_1 : decode cX6_isLogged 1 = .ok (.ifCond .lt 15, 3) := by decide +kernel
theorem dX6_isLogged_4 : decode cX6_isLogged 4 = .ok (.iload_n 1, 1) := by decide +kernel
theorem dX6_isLogged_5 : decode cX6_isLogged 5 = .ok (.aload_n 0, 1) := by decide +kernel
theorem dX6_isLogged_6 : decode cX6_isLogged 6 = .ok (.getfield 101, 3) := by decide +kernel
theorem dX6_isLogged_9 : decode cX6_isLogged 9 = .ok (.if_icmp .ge 7, 3) := by decide +kernel
theorem dX6_isLogged_12 : decode cX6_isLogged 12 = .ok (.iconst 1, 1) := by decide +kernel
theorem dX6_isLogged_13 : decode cX6_isLogged 13 = .ok (.goto 4, 3) := by decide +kernel
theorem dX6_isLogged_16 : decode cX6_isLogged 16 = .ok (.iconst 0, 1) := by decide +kernel
theorem dX6_isLogged_17 : decode cX6_isLogged 17 = .ok (.ireturn, 1) := by decide +kernel
theorem dX6_changeTime_0 : decode cX6_changeTime 0 = .ok (.aload_n 0, 1) := by decide +kernel
theorem dX6_changeTime_1 : decode cX6_changeTime 1 = .ok (.iconst 0, 1) := by decide +kernel
theorem dX6_changeTime_2 : decode cX6_changeTime 2 = .ok (.putfield 72, 3) := by decide +kernel
theorem dX6_changeTime_5 : decode cX6_changeTime 5 = .ok (.aload_n 0, 1) := by decide +kernel
theorem dX6_changeTime_6 : decode cX6_changeTime 6 = .ok (.iload_n 1, 1) := by decide +kernel
theorem dX6_changeTime_7 : decode cX6_changeTime 7 = .ok (.invokevirtual 137, 3) := by decide +kernel
theorem dX6_changeTime_10 : decode cX6_changeTime 10 = .ok (.ifCond .eq 12, 3) := by decide +kernel
theorem dX6_changeTime_13 : decode cX6_changeTime 13 = .ok (.aload_n 0, 1) := by decide +kernel
theorem dX6_changeTime_14 : decode cX6_changeTime 14 = .ok (.getfield 63, 3) := by decide +kernel
theorem dX6_changeTime_17 : decode cX6_changeTime 17 = .ok (.iload_n 1, 1) := by decide +kernel
theorem dX6_changeTime_18 : decode cX6_changeTime 18 = .ok (.laload, 1) := by decide +kernel
theorem dX6_changeTime_19 : decode cX6_changeTime 19 = .ok (.goto 9, 3) := by decide +kernel
theorem dX6_changeTime_22 : decode cX6_changeTime 22 = .ok (.aload_n 0, 1) := by decide +kernel
theorem dX6_changeTime_23 : decode cX6_changeTime 23 = .ok (.iconst 1, 1) := by decide +kernel
theorem dX6_changeTime_24 : decode cX6_changeTime 24 = .ok (.invokevirtual 87, 3) := by decide +kernel
theorem dX6_changeTime_27 : decode cX6_changeTime 27 = .ok (.i2l, 1) := by decide +kernel
theorem dX6_changeTime_28 : decode cX6_changeTime 28 = .ok (.lreturn, 1) := by decide +kernel
theorem dX6_changeSwitch_0 : decode cX6_changeSwitch 0 = .ok (.aload_n 0, 1) := by decide +kernel
theorem dX6_changeSwitch_1 : decode cX6_changeSwitch 1 = .ok (.iconst 0, 1) := by decide +kernel
theorem dX6_changeSwitch_2 : decode cX6_changeSwitch 2 = .ok (.putfield 72, 3) := by decide +kernel
theorem dX6_changeSwitch_5 : decode cX6_changeSwitch 5 = .ok (.aload_n 0, 1) := by decide +kernel
theorem dX6_changeSwitch_6 : decode cX6_changeSwitch 6 = .ok (.iload_n 1, 1) := by decide +kernel
theorem dX6_changeSwitch_7 : decode cX6_changeSwitch 7 = .ok (.invokevirtual 137, 3) := by decide +kernel
theorem dX6_changeSwitch_10 : decode cX6_changeSwitch 10 = .ok (.ifCond .eq 12, 3) := by decide +kernel
theorem dX6_changeSwitch_13 : decode cX6_changeSwitch 13 = .ok (.aload_n 0, 1) := by decide +kernel
theorem dX6_changeSwitch_14 : decode cX6_changeSwitch 14 = .ok (.getfield 66, 3) := by decide +kernel
theorem dX6_changeSwitch_17 : decode cX6_changeSwitch 17 = .ok (.iload_n 1, 1) := by decide +kernel
theorem dX6_changeSwitch_18 : decode cX6_changeSwitch 18 = .ok (.iaload, 1) := by decide +kernel
theorem dX6_changeSwitch_19 : decode cX6_changeSwitch 19 = .ok (.goto 8, 3) := by decide +kernel
theorem dX6_changeSwitch_22 : decode cX6_changeSwitch 22 = .ok (.aload_n 0, 1) := by decide +kernel
theorem dX6_changeSwitch_23 : decode cX6_changeSwitch 23 = .ok (.iconst 1, 1) := by decide +kernel
theorem dX6_changeSwitch_24 : decode cX6_changeSwitch 24 = .ok (.invokevirtual 87, 3) := by decide +kernel
theorem dX6_changeSwitch_27 : decode cX6_changeSwitch 27 = .ok (.ireturn, 1) := by decide +kernel
theorem dX6_put_0 : decode cX6_put 0 = .ok (.aload_n 0, 1) := by decide +kernel
theorem dX6_put_1 : decode cX6_put 1 = .ok (.getfield 69, 3) := by decide +kernel
theorem dX6_put_4 : decode cX6_put 4 = .ok (.aload_n 0, 1) := by decide +kernel
theorem dX6_put_5 : decode cX6_put 5 = .ok (.getfield 140, 3) := by decide +kernel
theorem dX6_put_8 : decode cX6_put 8 = .ok (.lload_n 1, 1) := by decide +kernel
theorem dX6_put_9 : decode cX6_put 9 = .ok (.lastore, 1) := by decide +kernel
theorem dX6_put_10 : decode cX6_put 10 = .ok (.aload_n 0, 1) := by decide +kernel
theorem dX6_put_11 : decode cX6_put 11 = .ok (.dup, 1) := by decide +kernel
theorem dX6_put_12 : decode cX6_put 12 = .ok (.getfield 140, 3) := by decide +kernel
theorem dX6_put_15 : decode cX6_put 15 = .ok (.iconst 1, 1) := by decide +kernel
theorem dX6_put_16 : decode cX6_put 16 = .ok (.iadd, 1) := by decide +kernel
theorem dX6_put_17 : decode cX6_put 17 = .ok (.putfield 140, 3) := by decide +kernel
theorem dX6_put_20 : decode cX6_put 20 = .ok (.return_, 1) := by decide +kernel
theorem dX6_take_0 : decode cX6_take 0 = .ok (.aload_n 0, 1) := by decide +kernel
theorem dX6_take_1 : decode cX6_take 1 = .ok (.dup, 1) := by decide +kernel
theorem dX6_take_2 : decode cX6_take 2 = .ok (.getfield 140, 3) := by decide +kernel
theorem dX6_take_5 : decode cX6_take 5 = .ok (.iconst 1, 1) := by decide +kernel
theorem dX6_take_6 : decode cX6_take 6 = .ok (.iadd, 1) := by decide +kernel
theorem dX6_take_7 : decode cX6_take 7 = .ok (.putfield 140, 3) := by decide +kernel
theorem dX6_take_10 : decode cX6_take 10 = .ok (.aload_n 0, 1) := by decide +kernel
theorem dX6_take_11 : decode cX6_take 11 = .ok (.getfield 69, 3) := by decide +kernel
theorem dX6_take_14 : decode cX6_take 14 = .ok (.aload_n 0, 1) := by decide +kernel
theorem dX6_take_15 : decode cX6_take 15 = .ok (.getfield 140, 3) := by decide +kernel
theorem dX6_take_18 : decode cX6_take 18 = .ok (.iconst 1, 1) := by decide +kernel
theorem dX6_take_19 : decode cX6_take 19 = .ok (.isub, 1) := by decide +kernel
theorem dX6_take_20 : decode cX6_take 20 = .ok (.laload, 1) := by decide +kernel
theorem dX6_take_21 : decode cX6_take 21 = .ok (.lreturn, 1) := by decide +kernel
theorem dX6_write_0 : decode cX6_write 0 = .ok (.aload_n 0, 1) := by decide +kernel
theorem dX6_write_1 : decode cX6_write 1 = .ok (.sipush 164, 3) := by decide +kernel
theorem dX6_write_4 : decode cX6_write 4 = .ok (.iload_n 1, 1) := by decide +kernel
theorem dX6_write_5 : decode cX6_write 5 = .ok (.imul, 1) := by decide +kernel
theorem dX6_write_6 : decode cX6_write 6 = .ok (.putfield 140, 3) := by decide +kernel
theorem dX6_write_9 : decode cX6_write 9 = .ok (.aload_n 0, 1) := by decide +kernel
theorem dX6_write_10 : decode cX6_write 10 = .ok (.aload_n 0, 1) := by decide +kernel
theorem dX6_write_11 : decode cX6_write 11 = .ok (.getfield 76, 3) := by decide +kernel
theorem dX6_write_14 : decode cX6_write 14 = .ok (.i2l, 1) := by decide +kernel
theorem dX6_write_15 : decode cX6_write 15 = .ok (.invokevirtual 143, 3) := by decide +kernel
theorem dX6_write_18 : decode cX6_write 18 = .ok (.aload_n 0, 1) := by decide +kernel
theorem dX6_write_19 : decode cX6_write 19 = .ok (.aload_n 0, 1) := by decide +kernel
theorem dX6_write_20 : decode cX6_write 20 = .ok (.getfield 79, 3) := by decide +kernel
theorem dX6_write_23 : decode cX6_write 23 = .ok (.i2l, 1) := by decide +kernel
theorem dX6_write_24 : decode cX6_write 24 = .ok (.invokevirtual 143, 3) := by decide +kernel
theorem dX6_write_27 : decode cX6_write 27 = .ok (.aload_n 0, 1) := by decide +kernel
theorem dX6_write_28 : decode cX6_write 28 = .ok (.aload_n 0, 1) := by decide +kernel
theorem dX6_write_29 : decode cX6_write 29 = .ok (.getfield 82, 3) := by decide +kernel
theorem dX6_write_32 : decode cX6_write 32 = .ok (.i2l, 1) := by decide +kernel
theorem dX6_write_33 : decode cX6_write 33 = .ok (.invokevirtual 143, 3) := by decide +kernel
theorem dX6_write_36 : decode cX6_write 36 = .ok (.aload_n 0, 1) := by decide +kernel
theorem dX6_write_37 : decode cX6_write 37 = .ok (.aload_n 0, 1) := by decide +kernel
theorem dX6_write_38 : decode cX6_write 38 = .ok (.getfield 104, 3) := by decide +kernel
theorem dX6_write_41 : decode cX6_write 41 = .ok (.invokevirtual 143, 3) := by decide +kernel
theorem dX6_write_44 : decode cX6_write 44 = .ok (.aload_n 0, 1) := by decide +kernel
theorem dX6_write_45 : decode cX6_write 45 = .ok (.aload_n 0, 1) := by decide +kernel
theorem dX6_write_46 : decode cX6_write 46 = .ok (.getfield 108, 3) := by decide +kernel
theorem dX6_write_49 : decode cX6_write 49 = .ok (.invokevirtual 143, 3) := by decide +kernel
theorem dX6_write_52 : decode cX6_write 52 = .ok (.aload_n 0, 1) := by decide +kernel
theorem dX6_write_53 : decode cX6_write 53 = .ok (.aload_n 0, 1) := by decide +kernel
theorem dX6_write_54 : decode cX6_write 54 = .ok (.getfield 101, 3) := by decide +kernel
theorem dX6_write_57 : decode cX6_write 57 = .ok (.i2l, 1) := by decide +kernel
theorem dX6_write_58 : decode cX6_write 58 = .ok (.invokevirtual 143, 3) := by decide +kernel
theorem dX6_write_61 : decode cX6_write 61 = .ok (.iconst 0, 1) := by decide +kernel
theorem dX6_write_62 : decode cX6_write 62 = .ok (.istore_n 2, 1) := by decide +kernel
theorem dX6_write_63 : decode cX6_write 63 = .ok (.iload_n 2, 1) := by decide +kernel
theorem dX6_write_64 : decode cX6_write 64 = .ok (.bipush 8, 2) := by decide +kernel
theorem dX6_write_66 : decode cX6_write 66 = .ok (.if_icmp .ge 41, 3) := by decide +kernel
theorem dX6_write_69 : decode cX6_write 69 = .ok (.aload_n 0, 1) := by decide +kernel
theorem dX6_write_70 : decode cX6_write 70 = .ok (.aload_n 0, 1) := by decide +kernel
theorem dX6_write_71 : decode cX6_write 71 = .ok (.getfield 38, 3) := by decide +kernel
theorem dX6_write_74 : decode cX6_write 74 = .ok (.iload_n 2, 1) := by decide +kernel
theorem dX6_write_75 : decode cX6_write 75 = .ok (.iaload, 1) := by decide +kernel
theorem dX6_write_76 : decode cX6_write 76 = .ok (.i2l, 1) := by decide +kernel
theorem dX6_write_77 : decode cX6_write 77 = .ok (.invokevirtual 143, 3) := by decide +kernel
theorem dX6_write_80 : decode cX6_write 80 = .ok (.aload_n 0, 1) := by decide +kernel
theorem dX6_write_81 : decode cX6_write 81 = .ok (.aload_n 0, 1) := by decide +kernel
theorem dX6_write_82 : decode cX6_write 82 = .ok (.getfield 41, 3) := by decide +kernel
theorem dX6_write_85 : decode cX6_write 85 = .ok (.iload_n 2, 1) := by decide +kernel
theorem dX6_write_86 : decode cX6_write 86 = .ok (.iaload, 1) := by decide +kernel
theorem dX6_write_87 : decode cX6_write 87 = .ok (.i2l, 1) := by decide +kernel
theorem dX6_write_88 : decode cX6_write 88 = .ok (.invokevirtual 143, 3) := by decide +kernel
theorem dX6_write_91 : decode cX6_write 91 = .ok (.aload_n 0, 1) := by decide +kernel
theorem dX6_write_92 : decode cX6_write 92 = .ok (.aload_n 0, 1) := by decide +kernel
theorem dX6_write_93 : decode cX6_write 93 = .ok (.getfield 44, 3) := by decide +kernel
theorem dX6_write_96 : decode cX6_write 96 = .ok (.iload_n 2, 1) := by decide +kernel
theorem dX6_write_97 : decode cX6_write 97 = .ok (.laload, 1) := by decide +kernel
theorem dX6_write_98 : decode cX6_write 98 = .ok (.invokevirtual 143, 3) := by decide +kernel
theorem dX6_write_101 : decode cX6_write 101 = .ok (.iinc 2 1, 3) := by decide +kernel
theorem dX6_write_104 : decode cX6_write 104 = .ok (.goto (-41), 3) := by decide +kernel
theorem dX6_write_107 : decode cX6_write 107 = .ok (.iconst 0, 1) := by decide +kernel
theorem dX6_write_108 : decode cX6_write 108 = .ok (.istore_n 2, 1) := by decide +kernel
theorem dX6_write_109 : decode cX6_write 109 = .ok (.iload_n 2, 1) := by decide +kernel
theorem dX6_write_110 : decode cX6_write 110 = .ok (.bipush 10, 2) := by decide +kernel
theorem dX6_write_112 : decode cX6_write 112 = .ok (.if_icmp .ge 27, 3) := by decide +kernel
theorem dX6_write_115 : decode cX6_write 115 = .ok (.aload_n 0, 1) := by decide +kernel
theorem dX6_write_116 : decode cX6_write 116 = .ok (.aload_n 0, 1) := by decide +kernel
theorem dX6_write_117 : decode cX6_write 117 = .ok (.getfield 48, 3) := by decide +kernel
theorem dX6_write_120 : decode cX6_write 120 = .ok (.iload_n 2, 1) := by decide +kernel
theorem dX6_write_121 : decode cX6_write 121 = .ok (.baload, 1) := by decide +kernel
theorem dX6_write_122 : decode cX6_write 122 = .ok (.ifCond .eq 7, 3) := by decide +kernel
theorem dX6_write_125 : decode cX6_write 125 = .ok (.lconst 1, 1) := by decide +kernel
theorem dX6_write_126 : decode cX6_write 126 = .ok (.goto 4, 3) := by decide +kernel
theorem dX6_write_129 : decode cX6_write 129 = .ok (.lconst 0, 1) := by decide +kernel
theorem dX6_write_130 : decode cX6_write 130 = .ok (.invokevirtual 143, 3) := by decide +kernel
theorem dX6_write_133 : decode cX6_write 133 = .ok (.iinc 2 1, 3) := by decide +kernel
theorem dX6_write_136 : decode cX6_write 136 = .ok (.goto (-27), 3) := by decide +kernel
theorem dX6_write_139 : decode cX6_write 139 = .ok (.iconst 0, 1) := by decide +kernel
theorem dX6_write_140 : decode cX6_write 140 = .ok (.istore_n 2, 1) := by decide +kernel
theorem dX6_write_141 : decode cX6_write 141 = .ok (.iload_n 2, 1) := by decide +kernel
theorem dX6_write_142 : decode cX6_write 142 = .ok (.bipush 16, 2) := by decide +kernel
theorem dX6_write_144 : decode cX6_write 144 = .ok (.if_icmp .ge 50, 3) := by decide +kernel
theorem dX6_write_147 : decode cX6_write 147 = .ok (.aload_n 0, 1) := by decide +kernel
theorem dX6_write_148 : decode cX6_write 148 = .ok (.aload_n 0, 1) := by decide +kernel
theorem dX6_write_149 : decode cX6_write 149 = .ok (.getfield 51, 3) := by decide +kernel
theorem dX6_write_152 : decode cX6_write 152 = .ok (.iload_n 2, 1) := by decide +kernel
theorem dX6_write_153 : decode cX6_write 153 = .ok (.iaload, 1) := by decide +kernel
theorem dX6_write_154 : decode cX6_write 154 = .ok (.i2l, 1) := by decide +kernel
theorem dX6_write_155 : decode cX6_write 155 = .ok (.invokevirtual 143, 3) := by decide +kernel
theorem dX6_write_158 : decode cX6_write 158 = .ok (.aload_n 0, 1) := by decide +kernel
theorem dX6_write_159 : decode cX6_write 159 = .ok (.aload_n 0, 1) := by decide +kernel
theorem dX6_write_160 : decode cX6_write 160 = .ok (.getfield 54, 3) := by decide +kernel
theorem dX6_write_163 : decode cX6_write 163 = .ok (.iload_n 2, 1) := by decide +kernel
theorem dX6_write_164 : decode cX6_write 164 = .ok (.laload, 1) := by decide +kernel
theorem dX6_write_165 : decode cX6_write 165 = .ok (.invokevirtual 143, 3) := by decide +kernel
theorem dX6_write_168 : decode cX6_write 168 = .ok (.aload_n 0, 1) := by decide +kernel
theorem dX6_write_169 : decode cX6_write 169 = .ok (.aload_n 0, 1) := by decide +kernel
theorem dX6_write_170 : decode cX6_write 170 = .ok (.getfield 57, 3) := by decide +kernel
theorem dX6_write_173 : decode cX6_write 173 = .ok (.iload_n 2, 1) := by decide +kernel
theorem dX6_write_174 : decode cX6_write 174 = .ok (.laload, 1) := by decide +kernel
theorem dX6_write_175 : decode cX6_write 175 = .ok (.invokevirtual 143, 3) := by decide +kernel
theorem dX6_write_178 : decode cX6_write 178 = .ok (.aload_n 0, 1) := by decide +kernel
theorem dX6_write_179 : decode cX6_write 179 = .ok (.aload_n 0, 1) := by decide +kernel
theorem dX6_write_180 : decode cX6_write 180 = .ok (.getfield 60, 3) := by decide +kernel
theorem dX6_write_183 : decode cX6_write 183 = .ok (.iload_n 2, 1) := by decide +kernel
theorem dX6_write_184 : decode cX6_write 184 = .ok (.laload, 1) := by decide +kernel
theorem dX6_write_185 : decode cX6_write 185 = .ok (.invokevirtual 143, 3) := by decide +kernel
theorem dX6_write_188 : decode cX6_write 188 = .ok (.iinc 2 1, 3) := by decide +kernel
theorem dX6_write_191 : decode cX6_write 191 = .ok (.goto (-50), 3) := by decide +kernel
theorem dX6_write_194 : decode cX6_write 194 = .ok (.iconst 0, 1) := by decide +kernel
theorem dX6_write_195 : decode cX6_write 195 = .ok (.istore_n 2, 1) := by decide +kernel
theorem dX6_write_196 : decode cX6_write 196 = .ok (.iload_n 2, 1) := by decide +kernel
theorem dX6_write_197 : decode cX6_write 197 = .ok (.bipush 30, 2) := by decide +kernel
theorem dX6_write_199 : decode cX6_write 199 = .ok (.if_icmp .ge 30, 3) := by decide +kernel
theorem dX6_write_202 : decode cX6_write 202 = .ok (.aload_n 0, 1) := by decide +kernel
theorem dX6_write_203 : decode cX6_write 203 = .ok (.aload_n 0, 1) := by decide +kernel
theorem dX6_write_204 : decode cX6_write 204 = .ok (.getfield 63, 3) := by decide +kernel
theorem dX6_write_207 : decode cX6_write 207 = .ok (.iload_n 2, 1) := by decide +kernel
theorem dX6_write_208 : decode cX6_write 208 = .ok (.laload, 1) := by decide +kernel
theorem dX6_write_209 : decode cX6_write 209 = .ok (.invokevirtual 143, 3) := by decide +kernel
theorem dX6_write_212 : decode cX6_write 212 = .ok (.aload_n 0, 1) := by decide +kernel
theorem dX6_write_213 : decode cX6_write 213 = .ok (.aload_n 0, 1) := by decide +kernel
theorem dX6_write_214 : decode cX6_write 214 = .ok (.getfield 66, 3) := by decide +kernel
theorem dX6_write_217 : decode cX6_write 217 = .ok (.iload_n 2, 1) := by decide +kernel
theorem dX6_write_218 : decode cX6_write 218 = .ok (.iaload, 1) := by decide +kernel
theorem dX6_write_219 : decode cX6_write 219 = .ok (.i2l, 1) := by decide +kernel
theorem dX6_write_220 : decode cX6_write 220 = .ok (.invokevirtual 143, 3) := by decide +kernel
theorem dX6_write_223 : decode cX6_write 223 = .ok (.iinc 2 1, 3) := by decide +kernel
theorem dX6_write_226 : decode cX6_write 226 = .ok (.goto (-30), 3) := by decide +kernel
theorem dX6_write_229 : decode cX6_write 229 = .ok (.return_, 1) := by decide +kernel
theorem dX6_read_0 : decode cX6_read 0 = .ok (.aload_n 0, 1) := by decide +kernel
theorem dX6_read_1 : decode cX6_read 1 = .ok (.sipush 164, 3) := by decide +kernel
theorem dX6_read_4 : decode cX6_read 4 = .ok (.iload_n 1, 1) := by decide +kernel
theorem dX6_read_5 : decode cX6_read 5 = .ok (.imul, 1) := by decide +kernel
theorem dX6_read_6 : decode cX6_read 6 = .ok (.putfield 140, 3) := by decide +kernel
theorem dX6_read_9 : decode cX6_read 9 = .ok (.aload_n 0, 1) := by decide +kernel
theorem dX6_read_10 : decode cX6_read 10 = .ok (.aload_n 0, 1) := by decide +kernel
theorem dX6_read_11 : decode cX6_read 11 = .ok (.invokevirtual 147, 3) := by decide +kernel
theorem dX6_read_14 : decode cX6_read 14 = .ok (.l2i, 1) := by decide +kernel
theorem dX6_read_15 : decode cX6_read 15 = .ok (.putfield 76, 3) := by decide +kernel
theorem dX6_read_18 : decode cX6_read 18 = .ok (.aload_n 0, 1) := by decide +kernel
theorem dX6_read_19 : decode cX6_read 19 = .ok (.aload_n 0, 1) := by decide +kernel
theorem dX6_read_20 : decode cX6_read 20 = .ok (.invokevirtual 147, 3) := by decide +kernel
theorem dX6_read_23 : decode cX6_read 23 = .ok (.l2i, 1) := by decide +kernel
theorem dX6_read_24 : decode cX6_read 24 = .ok (.putfield 79, 3) := by decide +kernel
theorem dX6_read_27 : decode cX6_read 27 = .ok (.aload_n 0, 1) := by decide +kernel
theorem dX6_read_28 : decode cX6_read 28 = .ok (.aload_n 0, 1) := by decide +kernel
theorem dX6_read_29 : decode cX6_read 29 = .ok (.invokevirtual 147, 3) := by decide +kernel
theorem dX6_read_32 : decode cX6_read 32 = .ok (.l2i, 1) := by decide +kernel
theorem dX6_read_33 : decode cX6_read 33 = .ok (.putfield 82, 3) := by decide +kernel
theorem dX6_read_36 : decode cX6_read 36 = .ok (.aload_n 0, 1) := by decide +kernel
theorem dX6_read_37 : decode cX6_read 37 = .ok (.aload_n 0, 1) := by decide +kernel
theorem dX6_read_38 : decode cX6_read 38 = .ok (.invokevirtual 147, 3) := by decide +kernel
theorem dX6_read_41 : decode cX6_read 41 = .ok (.putfield 104, 3) := by decide +kernel
theorem dX6_read_44 : decode cX6_read 44 = .ok (.aload_n 0, 1) := by decide +kernel
theorem dX6_read_45 : decode cX6_read 45 = .ok (.aload_n 0, 1) := by decide +kernel
theorem dX6_read_46 : decode cX6_read 46 = .ok (.invokevirtual 147, 3) := by decide +kernel
theorem dX6_read_49 : decode cX6_read 49 = .ok (.putfield 108, 3) := by decide +kernel
theorem dX6_read_52 : decode cX6_read 52 = .ok (.aload_n 0, 1) := by decide +kernel
theorem dX6_read_53 : decode cX6_read 53 = .ok (.aload_n 0, 1) := by decide +kernel
theorem dX6_read_54 : decode cX6_read 54 = .ok (.invokevirtual 147, 3) := by decide +kernel
theorem dX6_read_57 : decode cX6_read 57 = .ok (.l2i, 1) := by decide +kernel
theorem dX6_read_58 : decode cX6_read 58 = .ok (.putfield 101, 3) := by decide +kernel
theorem dX6_read_61 : decode cX6_read 61 = .ok (.iconst 0, 1) := by decide +kernel
theorem dX6_read_62 : decode cX6_read 62 = .ok (.istore_n 2, 1) := by decide +kernel
theorem dX6_read_63 : decode cX6_read 63 = .ok (.iload_n 2, 1) := by decide +kernel
theorem dX6_read_64 : decode cX6_read 64 = .ok (.bipush 8, 2) := by decide +kernel
theorem dX6_read_66 : decode cX6_read 66 = .ok (.if_icmp .ge 41, 3) := by decide +kernel
theorem dX6_read_69 : decode cX6_read 69 = .ok (.aload_n 0, 1) := by decide +kernel
theorem dX6_read_70 : decode cX6_read 70 = .ok (.getfield 38, 3) := by decide +kernel
theorem dX6_read_73 : decode cX6_read 73 = .ok (.iload_n 2, 1) := by decide +kernel
theorem dX6_read_74 : decode cX6_read 74 = .ok (.aload_n 0, 1) := by decide +kernel
theorem dX6_read_75 : decode cX6_read 75 = .ok (.invokevirtual 147, 3) := by decide +kernel
theorem dX6_read_78 : decode cX6_read 78 = .ok (.l2i, 1) := by decide +kernel
theorem dX6_read_79 : decode cX6_read 79 = .ok (.iastore, 1) := by decide +kernel
theorem dX6_read_80 : decode cX6_read 80 = .ok (.aload_n 0, 1) := by decide +kernel
theorem dX6_read_81 : decode cX6_read 81 = .ok (.getfield 41, 3) := by decide +kernel
theorem dX6_read_84 : decode cX6_read 84 = .ok (.iload_n 2, 1) := by decide +kernel
theorem dX6_read_85 : decode cX6_read 85 = .ok (.aload_n 0, 1) := by decide +kernel
theorem dX6_read_86 : decode cX6_read 86 = .ok (.invokevirtual 147, 3) := by decide +kernel
theorem dX6_read_89 : decode cX6_read 89 = .ok (.l2i, 1) := by decide +kernel
theorem dX6_read_90 : decode cX6_read 90 = .ok (.iastore, 1) := by decide +kernel
theorem dX6_read_91 : decode cX6_read 91 = .ok (.aload_n 0, 1) := by decide +kernel
theorem dX6_read_92 : decode cX6_read 92 = .ok (.getfield 44, 3) := by decide +kernel
theorem dX6_read_95 : decode cX6_read 95 = .ok (.iload_n 2, 1) := by decide +kernel
theorem dX6_read_96 : decode cX6_read 96 = .ok (.aload_n 0, 1) := by decide +kernel
theorem dX6_read_97 : decode cX6_read 97 = .ok (.invokevirtual 147, 3) := by decide +kernel
theorem dX6_read_100 : decode cX6_read 100 = .ok (.lastore, 1) := by decide +kernel
theorem dX6_read_101 : decode cX6_read 101 = .ok (.iinc 2 1, 3) := by decide +kernel
theorem dX6_read_104 : decode cX6_read 104 = .ok (.goto (-41), 3) := by decide +kernel
theorem dX6_read_107 : decode cX6_read 107 = .ok (.iconst 0, 1) := by decide +kernel
theorem dX6_read_108 : decode cX6_read 108 = .ok (.istore_n 2, 1) := by decide +kernel
theorem dX6_read_109 : decode cX6_read 109 = .ok (.iload_n 2, 1) := by decide +kernel
theorem dX6_read_110 : decode cX6_read 110 = .ok (.bipush 10, 2) := by decide +kernel
theorem dX6_read_112 : decode cX6_read 112 = .ok (.if_icmp .ge 29, 3) := by decide +kernel
theorem dX6_read_115 : decode cX6_read 115 = .ok (.aload_n 0, 1) := by decide +kernel
theorem dX6_read_116 : decode cX6_read 116 = .ok (.getfield 48, 3) := by decide +kernel
theorem dX6_read_119 : decode cX6_read 119 = .ok (.iload_n 2, 1) := by decide +kernel
theorem dX6_read_120 : decode cX6_read 120 = .ok (.aload_n 0, 1) := by decide +kernel
theorem dX6_read_121 : decode cX6_read 121 = .ok (.invokevirtual 147, 3) := by decide +kernel
theorem dX6_read_124 : decode cX6_read 124 = .ok (.lconst 1, 1) := by decide +kernel
theorem dX6_read_125 : decode cX6_read 125 = .ok (.lcmp, 1) := by decide +kernel
theorem dX6_read_126 : decode cX6_read 126 = .ok (.ifCond .ne 7, 3) := by decide +kernel
theorem dX6_read_129 : decode cX6_read 129 = .ok (.iconst 1, 1) := by decide +kernel
theorem dX6_read_130 : decode cX6_read 130 = .ok (.goto 4, 3) := by decide +kernel
theorem dX6_read_133 : decode cX6_read 133 = .ok (.iconst 0, 1) := by decide +kernel
theorem dX6_read_134 : decode cX6_read 134 = .ok (.bastore, 1) := by decide +kernel
theorem dX6_read_135 : decode cX6_read 135 = .ok (.iinc 2 1, 3) := by decide +kernel
theorem dX6_read_138 : decode cX6_read 138 = .ok (.goto (-29), 3) := by decide +kernel
theorem dX6_read_141 : decode cX6_read 141 = .ok (.iconst 0, 1) := by decide +kernel
theorem dX6_read_142 : decode cX6_read 142 = .ok (.istore_n 2, 1) := by decide +kernel
theorem dX6_read_143 : decode cX6_read 143 = .ok (.iload_n 2, 1) := by decide +kernel
theorem dX6_read_144 : decode cX6_read 144 = .ok (.bipush 16, 2) := by decide +kernel
theorem dX6_read_146 : decode cX6_read 146 = .ok (.if_icmp .ge 50, 3) := by decide +kernel
theorem dX6_read_149 : decode cX6_read 149 = .ok (.aload_n 0, 1) := by decide +kernel
theorem dX6_read_150 : decode cX6_read 150 = .ok (.getfield 51, 3) := by decide +kernel
theorem dX6_read_153 : decode cX6_read 153 = .ok (.iload_n 2, 1) := by decide +kernel
theorem dX6_read_154 : decode cX6_read 154 = .ok (.aload_n 0, 1) := by decide +kernel
theorem dX6_read_155 : decode cX6_read 155 = .ok (.invokevirtual 147, 3) := by decide +kernel
theorem dX6_read_158 : decode cX6_read 158 = .ok (.l2i, 1) := by decide +kernel
theorem dX6_read_159 : decode cX6_read 159 = .ok (.iastore, 1) := by decide +kernel
theorem dX6_read_160 : decode cX6_read 160 = .ok (.aload_n 0, 1) := by decide +kernel
theorem dX6_read_161 : decode cX6_read 161 = .ok (.getfield 54, 3) := by decide +kernel
theorem dX6_read_164 : decode cX6_read 164 = .ok (.iload_n 2, 1) := by decide +kernel
theorem dX6_read_165 : decode cX6_read 165 = .ok (.aload_n 0, 1) := by decide +kernel
theorem dX6_read_166 : decode cX6_read 166 = .ok (.invokevirtual 147, 3) := by decide +kernel
theorem dX6_read_169 : decode cX6_read 169 = .ok (.lastore, 1) := by decide +kernel
theorem dX6_read_170 : decode cX6_read 170 = .ok (.aload_n 0, 1) := by decide +kernel
theorem dX6_read_171 : decode cX6_read 171 = .ok (.getfield 57, 3) := by decide +kernel
theorem dX6_read_174 : decode cX6_read 174 = .ok (.iload_n 2, 1) := by decide +kernel
theorem dX6_read_175 : decode cX6_read 175 = .ok (.aload_n 0, 1) := by decide +kernel
theorem dX6_read_176 : decode cX6_read 176 = .ok (.invokevirtual 147, 3) := by decide +kernel
theorem dX6_read_179 : decode cX6_read 179 = .ok (.lastore, 1) := by decide +kernel
theorem dX6_read_180 : decode cX6_read 180 = .ok (.aload_n 0, 1) := by decide +kernel
theorem dX6_read_181 : decode cX6_read 181 = .ok (.getfield 60, 3) := by decide +kernel
theorem dX6_read_184 : decode cX6_read 184 = .ok (.iload_n 2, 1) := by decide +kernel
theorem dX6_read_185 : decode cX6_read 185 = .ok (.aload_n 0, 1) := by decide +kernel
theorem dX6_read_186 : decode cX6_read 186 = .ok (.invokevirtual 147, 3) := by decide +kernel
theorem dX6_read_189 : decode cX6_read 189 = .ok (.lastore, 1) := by decide +kernel
theorem dX6_read_190 : decode cX6_read 190 = .ok (.iinc 2 1, 3) := by decide +kernel
theorem dX6_read_193 : decode cX6_read 193 = .ok (.goto (-50), 3) := by decide +kernel
theorem dX6_read_196 : decode cX6_read 196 = .ok (.iconst 0, 1) := by decide +kernel
theorem dX6_read_197 : decode cX6_read 197 = .ok (.istore_n 2, 1) := by decide +kernel
theorem dX6_read_198 : decode cX6_read 198 = .ok (.iload_n 2, 1) := by decide +kernel
theorem dX6_read_199 : decode cX6_read 199 = .ok (.bipush 30, 2) := by decide +kernel
theorem dX6_read_201 : decode cX6_read 201 = .ok (.if_icmp .ge 30, 3) := by decide +kernel
theorem dX6_read_204 : decode cX6_read 204 = .ok (.aload_n 0, 1) := by decide +kernel
theorem dX6_read_205 : decode cX6_read 205 = .ok (.getfield 63, 3) := by decide +kernel
theorem dX6_read_208 : decode cX6_read 208 = .ok (.iload_n 2, 1) := by decide +kernel
theorem dX6_read_209 : decode cX6_read 209 = .ok (.aload_n 0, 1) := by decide +kernel
theorem dX6_read_210 : decode cX6_read 210 = .ok (.invokevirtual 147, 3) := by decide +kernel
theorem dX6_read_213 : decode cX6_read 213 = .ok (.lastore, 1) := by decide +kernel
theorem dX6_read_214 : decode cX6_read 214 = .ok (.aload_n 0, 1) := by decide +kernel
theorem dX6_read_215 : decode cX6_read 215 = .ok (.getfield 66, 3) := by decide +kernel
theorem dX6_read_218 : decode cX6_read 218 = .ok (.iload_n 2, 1) := by decide +kernel
theorem dX6_read_219 : decode cX6_read 219 = .ok (.aload_n 0, 1) := by decide +kernel
theorem dX6_read_220 : decode cX6_read 220 = .ok (.invokevirtual 147, 3) := by decide +kernel
theorem dX6_read_223 : decode cX6_read 223 = .ok (.l2i, 1) := by decide +kernel
theorem dX6_read_224 : decode cX6_read 224 = .ok (.iastore, 1) := by decide +kernel
theorem dX6_read_225 : decode cX6_read 225 = .ok (.iinc 2 1, 3) := by decide +kernel
theorem dX6_read_228 : decode cX6_read 228 = .ok (.goto (-30), 3) := by decide +kernel
theorem dX6_read_231 : decode cX6_read 231 = .ok (.return_, 1) := by decide +kernel
theorem dX6_save_0 : decode cX6_save 0 = .ok (.aload_n 0, 1) := by decide +kernel
theorem dX6_save_1 : decode cX6_save 1 = .ok (.iconst 0, 1) := by decide +kernel
theorem dX6_save_2 : decode cX6_save 2 = .ok (.putfield 72, 3) := by decide +kernel
theorem dX6_save_5 : decode cX6_save 5 = .ok (.aload_n 0, 1) := by decide +kernel
theorem dX6_save_6 : decode cX6_save 6 = .ok (.getfield 151, 3) := by decide +kernel
theorem dX6_save_9 : decode cX6_save 9 = .ok (.iconst 4, 1) := by decide +kernel
theorem dX6_save_10 : decode cX6_save 10 = .ok (.if_icmp .ne 9, 3) := by decide +kernel
theorem dX6_save_13 : decode cX6_save 13 = .ok (.aload_n 0, 1) := by decide +kernel
theorem dX6_save_14 : decode cX6_save 14 = .ok (.iconst 1, 1) := by decide +kernel
theorem dX6_save_15 : decode cX6_save 15 = .ok (.invokevirtual 87, 3) := by decide +kernel
theorem dX6_save_18 : decode cX6_save 18 = .ok (.ireturn, 1) := by decide +kernel
theorem dX6_save_19 : decode cX6_save 19 = .ok (.aload_n 0, 1) := by decide +kernel
theorem dX6_save_20 : decode cX6_save 20 = .ok (.aload_n 0, 1) := by decide +kernel
theorem dX6_save_21 : decode cX6_save 21 = .ok (.getfield 151, 3) := by decide +kernel
theorem dX6_save_24 : decode cX6_save 24 = .ok (.invokevirtual 131, 3) := by decide +kernel
theorem dX6_save_27 : decode cX6_save 27 = .ok (.aload_n 0, 1) := by decide +kernel
theorem dX6_save_28 : decode cX6_save 28 = .ok (.dup, 1) := by decide +kernel
theorem dX6_save_29 : decode cX6_save 29 = .ok (.getfield 151, 3) := by decide +kernel
theorem dX6_save_32 : decode cX6_save 32 = .ok (.iconst 1, 1) := by decide +kernel
theorem dX6_save_33 : decode cX6_save 33 = .ok (.iadd, 1) := by decide +kernel
theorem dX6_save_34 : decode cX6_save 34 = .ok (.putfield 151, 3) := by decide +kernel
theorem dX6_save_37 : decode cX6_save 37 = .ok (.aload_n 0, 1) := by decide +kernel
theorem dX6_save_38 : decode cX6_save 38 = .ok (.getfield 151, 3) := by decide +kernel
theorem dX6_save_41 : decode cX6_save 41 = .ok (.ireturn, 1) := by decide +kernel
theorem dX6_restore_0 : decode cX6_restore 0 = .ok (.aload_n 0, 1) := by decide +kernel
theorem dX6_restore_1 : decode cX6_restore 1 = .ok (.iconst 0, 1) := by decide +kernel
theorem dX6_restore_2 : decode cX6_restore 2 = .ok (.putfield 72, 3) := by decide +kernel
theorem dX6_restore_5 : decode cX6_restore 5 = .ok (.aload_n 0, 1) := by decide +kernel
theorem dX6_restore_6 : decode cX6_restore 6 = .ok (.getfield 151, 3) := by decide +kernel
theorem dX6_restore_9 : decode cX6_restore 9 = .ok (.ifCond .ne 9, 3) := by decide +kernel
theorem dX6_restore_12 : decode cX6_restore 12 = .ok (.aload_n 0, 1) := by decide +kernel
theorem dX6_restore_13 : decode cX6_restore 13 = .ok (.iconst 1, 1) := by decide +kernel
theorem dX6_restore_14 : decode cX6_restore 14 = .ok (.invokevirtual 87, 3) := by decide +kernel
theorem dX6_restore_17 : decode cX6_restore 17 = .ok (.ireturn, 1) := by decide +kernel
theorem dX6_restore_18 : decode cX6_restore 18 = .ok (.aload_n 0, 1) := by decide +kernel
theorem dX6_restore_19 : decode cX6_restore 19 = .ok (.dup, 1) := by decide +kernel
theorem dX6_restore_20 : decode cX6_restore 20 = .ok (.getfield 151, 3) := by decide +kernel
theorem dX6_restore_23 : decode cX6_restore 23 = .ok (.iconst 1, 1) := by decide +kernel
theorem dX6_restore_24 : decode cX6_restore 24 = .ok (.isub, 1) := by decide +kernel
theorem dX6_restore_25 : decode cX6_restore 25 = .ok (.putfield 151, 3) := by decide +kernel
theorem dX6_restore_28 : decode cX6_restore 28 = .ok (.aload_n 0, 1) := by decide +kernel
theorem dX6_restore_29 : decode cX6_restore 29 = .ok (.aload_n 0, 1) := by decide +kernel
theorem dX6_restore_30 : decode cX6_restore 30 = .ok (.getfield 151, 3) := by decide +kernel
theorem dX6_restore_33 : decode cX6_restore 33 = .ok (.invokevirtual 134, 3) := by decide +kernel
theorem dX6_restore_36 : decode cX6_restore 36 = .ok (.aload_n 0, 1) := by decide +kernel
theorem dX6_restore_37 : decode cX6_restore 37 = .ok (.getfield 151, 3) := by decide +kernel
theorem dX6_restore_40 : decode cX6_restore 40 = .ok (.ireturn, 1) := by decide +kernel
theorem dX6_digest_0 : decode cX6_digest 0 = .ok (.aload_n 0, 1) := by decide +kernel
theorem dX6_digest_1 : decode cX6_digest 1 = .ok (.iconst 0, 1) := by decide +kernel
theorem dX6_digest_2 : decode cX6_digest 2 = .ok (.putfield 72, 3) := by decide +kernel
theorem dX6_digest_5 : decode cX6_digest 5 = .ok (.ldc2_w 154, 3) := by decide +kernel
theorem dX6_digest_8 : decode cX6_digest 8 = .ok (.aload_n 0, 1) := by decide +kernel
theorem dX6_digest_9 : decode cX6_digest 9 = .ok (.getfield 104, 3) := by decide +kernel
theorem dX6_digest_12 : decode cX6_digest 12 = .ok (.ladd, 1) := by decide +kernel
theorem dX6_digest_13 : decode cX6_digest 13 = .ok (.ldc2_w 156, 3) := by decide +kernel
theorem dX6_digest_16 : decode cX6_digest 16 = .ok (.lmul, 1) := by decide +kernel
theorem dX6_digest_17 : decode cX6_digest 17 = .ok (.aload_n 0, 1) := by decide +kernel
theorem dX6_digest_18 : decode cX6_digest 18 = .ok (.getfield 76, 3) := by decide +kernel
theorem dX6_digest_21 : decode cX6_digest 21 = .ok (.i2l, 1) := by decide +kernel
theorem dX6_digest_22 : decode cX6_digest 22 = .ok (.ladd, 1) := by decide +kernel
theorem dX6_digest_23 : decode cX6_digest 23 = .ok (.ldc2_w 156, 3) := by decide +kernel
theorem dX6_digest_26 : decode cX6_digest 26 = .ok (.lmul, 1) := by decide +kernel
theorem dX6_digest_27 : decode cX6_digest 27 = .ok (.aload_n 0, 1) := by decide +kernel
theorem dX6_digest_28 : decode cX6_digest 28 = .ok (.getfield 79, 3) := by decide +kernel
theorem dX6_digest_31 : decode cX6_digest 31 = .ok (.i2l, 1) := by decide +kernel
theorem dX6_digest_32 : decode cX6_digest 32 = .ok (.ladd, 1) := by decide +kernel
theorem dX6_digest_33 : decode cX6_digest 33 = .ok (.ldc2_w 156, 3) := by decide +kernel
theorem dX6_digest_36 : decode cX6_digest 36 = .ok (.lmul, 1) := by decide +kernel
theorem dX6_digest_37 : decode cX6_digest 37 = .ok (.aload_n 0, 1) := by decide +kernel
theorem dX6_digest_38 : decode cX6_digest 38 = .ok (.getfield 82, 3) := by decide +kernel
theorem dX6_digest_41 : decode cX6_digest 41 = .ok (.i2l, 1) := by decide +kernel
theorem dX6_digest_42 : decode cX6_digest 42 = .ok (.ladd, 1) := by decide +kernel
theorem dX6_digest_43 : decode cX6_digest 43 = .ok (.ldc2_w 156, 3) := by decide +kernel
theorem dX6_digest_46 : decode cX6_digest 46 = .ok (.lmul, 1) := by decide +kernel
theorem dX6_digest_47 : decode cX6_digest 47 = .ok (.aload_n 0, 1) := by decide +kernel
theorem dX6_digest_48 : decode cX6_digest 48 = .ok (.getfield 151, 3) := by decide +kernel
theorem dX6_digest_51 : decode cX6_digest 51 = .ok (.i2l, 1) := by decide +kernel
theorem dX6_digest_52 : decode cX6_digest 52 = .ok (.ladd, 1) := by decide +kernel
theorem dX6_digest_53 : decode cX6_digest 53 = .ok (.lstore_n 1, 1) := by decide +kernel
theorem dX6_digest_54 : decode cX6_digest 54 = .ok (.iconst 0, 1) := by decide +kernel
theorem dX6_digest_55 : decode cX6_digest 55 = .ok (.istore_n 3, 1) := by decide +kernel
theorem dX6_digest_56 : decode cX6_digest 56 = .ok (.iload_n 3, 1) := by decide +kernel
theorem dX6_digest_57 : decode cX6_digest 57 = .ok (.aload_n 0, 1) := by decide +kernel
theorem dX6_digest_58 : decode cX6_digest 58 = .ok (.getfield 76, 3) := by decide +kernel
theorem dX6_digest_61 : decode cX6_digest 61 = .ok (.if_icmp .ge 35, 3) := by decide +kernel
theorem dX6_digest_64 : decode cX6_digest 64 = .ok (.lload_n 1, 1) := by decide +kernel
theorem dX6_digest_65 : decode cX6_digest 65 = .ok (.ldc2_w 156, 3) := by decide +kernel
theorem dX6_digest_68 : decode cX6_digest 68 = .ok (.lmul, 1) := by decide +kernel
theorem dX6_digest_69 : decode cX6_digest 69 = .ok (.aload_n 0, 1) := by decide +kernel
theorem dX6_digest_70 : decode cX6_digest 70 = .ok (.getfield 38, 3) := by decide +kernel
theorem dX6_digest_73 : decode cX6_digest 73 = .ok (.iload_n 3, 1) := by decide +kernel
theorem dX6_digest_74 : decode cX6_digest 74 = .ok (.iaload, 1) := by decide +kernel
theorem dX6_digest_75 : decode cX6_digest 75 = .ok (.i2l, 1) := by decide +kernel
theorem dX6_digest_76 : decode cX6_digest 76 = .ok (.ladd, 1) := by decide +kernel
theorem dX6_digest_77 : decode cX6_digest 77 = .ok (.ldc2_w 156, 3) := by decide +kernel
theorem dX6_digest_80 : decode cX6_digest 80 = .ok (.lmul, 1) := by decide +kernel
theorem dX6_digest_81 : decode cX6_digest 81 = .ok (.aload_n 0, 1) := by decide +kernel
theorem dX6_digest_82 : decode cX6_digest 82 = .ok (.getfield 41, 3) := by decide +kernel
theorem dX6_digest_85 : decode cX6_digest 85 = .ok (.iload_n 3, 1) := by decide +kernel
theorem dX6_digest_86 : decode cX6_digest 86 = .ok (.iaload, 1) := by decide +kernel
theorem dX6_digest_87 : decode cX6_digest 87 = .ok (.i2l, 1) := by decide +kernel
theorem dX6_digest_88 : decode cX6_digest 88 = .ok (.ladd, 1) := by decide +kernel
theorem dX6_digest_89 : decode cX6_digest 89 = .ok (.lstore_n 1, 1) := by decide +kernel
theorem dX6_digest_90 : decode cX6_digest 90 = .ok (.iinc 3 1, 3) := by decide +kernel
theorem dX6_digest_93 : decode cX6_digest 93 = .ok (.goto (-37), 3) := by decide +kernel
theorem dX6_digest_96 : decode cX6_digest 96 = .ok (.iconst 0, 1) := by decide +kernel
theorem dX6_digest_97 : decode cX6_digest 97 = .ok (.istore_n 3, 1) := by decide +kernel
theorem dX6_digest_98 : decode cX6_digest 98 = .ok (.iload_n 3, 1) := by decide +kernel
theorem dX6_digest_99 : decode cX6_digest 99 = .ok (.aload_n 0, 1) := by decide +kernel
theorem dX6_digest_100 : decode cX6_digest 100 = .ok (.getfield 79, 3) := by decide +kernel
theorem dX6_digest_103 : decode cX6_digest 103 = .ok (.if_icmp .ge 30, 3) := by decide +kernel
theorem dX6_digest_106 : decode cX6_digest 106 = .ok (.lload_n 1, 1) := by decide +kernel
theorem dX6_digest_107 : decode cX6_digest 107 = .ok (.ldc2_w 156, 3) := by decide +kernel
theorem dX6_digest_110 : decode cX6_digest 110 = .ok (.lmul, 1) := by decide +kernel
theorem dX6_digest_111 : decode cX6_digest 111 = .ok (.aload_n 0, 1) := by decide +kernel
theorem dX6_digest_112 : decode cX6_digest 112 = .ok (.getfield 48, 3) := by decide +kernel
theorem dX6_digest_115 : decode cX6_digest 115 = .ok (.iload_n 3, 1) := by decide +kernel
theorem dX6_digest_116 : decode cX6_digest 116 = .ok (.baload, 1) := by decide +kernel
theorem dX6_digest_117 : decode cX6_digest 117 = .ok (.ifCond .eq 7, 3) := by decide +kernel
theorem dX6_digest_120 : decode cX6_digest 120 = .ok (.lconst 1, 1) := by decide +kernel
theorem dX6_digest_121 : decode cX6_digest 121 = .ok (.goto 4, 3) := by decide +kernel
theorem dX6_digest_124 : decode cX6_digest 124 = .ok (.lconst 0, 1) := by decide +kernel
theorem dX6_digest_125 : decode cX6_digest 125 = .ok (.ladd, 1) := by decide +kernel
theorem dX6_digest_126 : decode cX6_digest 126 = .ok (.lstore_n 1, 1) := by decide +kernel
theorem dX6_digest_127 : decode cX6_digest 127 = .ok (.iinc 3 1, 3) := by decide +kernel
theorem dX6_digest_130 : decode cX6_digest 130 = .ok (.goto (-32), 3) := by decide +kernel
theorem dX6_digest_133 : decode cX6_digest 133 = .ok (.iconst 0, 1) := by decide +kernel
theorem dX6_digest_134 : decode cX6_digest 134 = .ok (.istore_n 3, 1) := by decide +kernel
theorem dX6_digest_135 : decode cX6_digest 135 = .ok (.iload_n 3, 1) := by decide +kernel
theorem dX6_digest_136 : decode cX6_digest 136 = .ok (.aload_n 0, 1) := by decide +kernel
theorem dX6_digest_137 : decode cX6_digest 137 = .ok (.getfield 82, 3) := by decide +kernel
theorem dX6_digest_140 : decode cX6_digest 140 = .ok (.if_icmp .ge 56, 3) := by decide +kernel
theorem dX6_digest_143 : decode cX6_digest 143 = .ok (.lload_n 1, 1) := by decide +kernel
theorem dX6_digest_144 : decode cX6_digest 144 = .ok (.ldc2_w 156, 3) := by decide +kernel
theorem dX6_digest_147 : decode cX6_digest 147 = .ok (.lmul, 1) := by decide +kernel
theorem dX6_digest_148 : decode cX6_digest 148 = .ok (.aload_n 0, 1) := by decide +kernel
theorem dX6_digest_149 : decode cX6_digest 149 = .ok (.getfield 51, 3) := by decide +kernel
theorem dX6_digest_152 : decode cX6_digest 152 = .ok (.iload_n 3, 1) := by decide +kernel
theorem dX6_digest_153 : decode cX6_digest 153 = .ok (.iaload, 1) := by decide +kernel
theorem dX6_digest_154 : decode cX6_digest 154 = .ok (.i2l, 1) := by decide +kernel
theorem dX6_digest_155 : decode cX6_digest 155 = .ok (.ladd, 1) := by decide +kernel
theorem dX6_digest_156 : decode cX6_digest 156 = .ok (.ldc2_w 156, 3) := by decide +kernel
theorem dX6_digest_159 : decode cX6_digest 159 = .ok (.lmul, 1) := by decide +kernel
theorem dX6_digest_160 : decode cX6_digest 160 = .ok (.aload_n 0, 1) := by decide +kernel
theorem dX6_digest_161 : decode cX6_digest 161 = .ok (.getfield 54, 3) := by decide +kernel
theorem dX6_digest_164 : decode cX6_digest 164 = .ok (.iload_n 3, 1) := by decide +kernel
theorem dX6_digest_165 : decode cX6_digest 165 = .ok (.laload, 1) := by decide +kernel
theorem dX6_digest_166 : decode cX6_digest 166 = .ok (.ladd, 1) := by decide +kernel
theorem dX6_digest_167 : decode cX6_digest 167 = .ok (.ldc2_w 156, 3) := by decide +kernel
theorem dX6_digest_170 : decode cX6_digest 170 = .ok (.lmul, 1) := by decide +kernel
theorem dX6_digest_171 : decode cX6_digest 171 = .ok (.aload_n 0, 1) := by decide +kernel
theorem dX6_digest_172 : decode cX6_digest 172 = .ok (.getfield 57, 3) := by decide +kernel
theorem dX6_digest_175 : decode cX6_digest 175 = .ok (.iload_n 3, 1) := by decide +kernel
theorem dX6_digest_176 : decode cX6_digest 176 = .ok (.laload, 1) := by decide +kernel
theorem dX6_digest_177 : decode cX6_digest 177 = .ok (.ladd, 1) := by decide +kernel
theorem dX6_digest_178 : decode cX6_digest 178 = .ok (.ldc2_w 156, 3) := by decide +kernel
theorem dX6_digest_181 : decode cX6_digest 181 = .ok (.lmul, 1) := by decide +kernel
theorem dX6_digest_182 : decode cX6_digest 182 = .ok (.aload_n 0, 1) := by decide +kernel
theorem dX6_digest_183 : decode cX6_digest 183 = .ok (.getfield 60, 3) := by decide +kernel
theorem dX6_digest_186 : decode cX6_digest 186 = .ok (.iload_n 3, 1) := by decide +kernel
theorem dX6_digest_187 : decode cX6_digest 187 = .ok (.laload, 1) := by decide +kernel
theorem dX6_digest_188 : decode cX6_digest 188 = .ok (.ladd, 1) := by decide +kernel
theorem dX6_digest_189 : decode cX6_digest 189 = .ok (.lstore_n 1, 1) := by decide +kernel
theorem dX6_digest_190 : decode cX6_digest 190 = .ok (.iinc 3 1, 3) := by decide +kernel
theorem dX6_digest_193 : decode cX6_digest 193 = .ok (.goto (-58), 3) := by decide +kernel
theorem dX6_digest_196 : decode cX6_digest 196 = .ok (.lload_n 1, 1) := by decide +kernel
theorem dX6_digest_197 : decode cX6_digest 197 = .ok (.ldc2_w 156, 3) := by decide +kernel
theorem dX6_digest_200 : decode cX6_digest 200 = .ok (.lmul, 1) := by decide +kernel
theorem dX6_digest_201 : decode cX6_digest 201 = .ok (.aload_n 0, 1) := by decide +kernel
theorem dX6_digest_202 : decode cX6_digest 202 = .ok (.getfield 108, 3) := by decide +kernel
theorem dX6_digest_205 : decode cX6_digest 205 = .ok (.ladd, 1) := by decide +kernel
theorem dX6_digest_206 : decode cX6_digest 206 = .ok (.lreturn, 1) := by decide +kernel
