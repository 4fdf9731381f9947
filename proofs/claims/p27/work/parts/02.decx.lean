theorem dX0_init_0 : decode cX0_init 0 = .ok (.aload_n 0, 1) := by decide +kernel
theorem dX0_init_1 : decode cX0_init 1 = .ok (.invokespecial 3, 3) := by decide +kernel
theorem dX0_init_4 : decode cX0_init 4 = .ok (.aload_n 0, 1) := by decide +kernel
theorem dX0_init_5 : decode cX0_init 5 = .ok (.bipush 30, 2) := by decide +kernel
theorem dX0_init_7 : decode cX0_init 7 = .ok (.newarray .long, 2) := by decide +kernel
theorem dX0_init_9 : decode cX0_init 9 = .ok (.putfield 9, 3) := by decide +kernel
theorem dX0_init_12 : decode cX0_init 12 = .ok (.aload_n 0, 1) := by decide +kernel
theorem dX0_init_13 : decode cX0_init 13 = .ok (.bipush 30, 2) := by decide +kernel
theorem dX0_init_15 : decode cX0_init 15 = .ok (.newarray .int, 2) := by decide +kernel
theorem dX0_init_17 : decode cX0_init 17 = .ok (.putfield 15, 3) := by decide +kernel
theorem dX0_init_20 : decode cX0_init 20 = .ok (.return_, 1) := by decide +kernel
theorem dX0_note_0 : decode cX0_note 0 = .ok (.aload_n 0, 1) := by decide +kernel
theorem dX0_note_1 : decode cX0_note 1 = .ok (.getfield 19, 3) := by decide +kernel
theorem dX0_note_4 : decode cX0_note 4 = .ok (.ldc2_w 23, 3) := by decide +kernel
theorem dX0_note_7 : decode cX0_note 7 = .ok (.lrem, 1) := by decide +kernel
theorem dX0_note_8 : decode cX0_note 8 = .ok (.l2i, 1) := by decide +kernel
theorem dX0_note_9 : decode cX0_note 9 = .ok (.istore 4, 2) := by decide +kernel
theorem dX0_note_11 : decode cX0_note 11 = .ok (.aload_n 0, 1) := by decide +kernel
theorem dX0_note_12 : decode cX0_note 12 = .ok (.getfield 9, 3) := by decide +kernel
theorem dX0_note_15 : decode cX0_note 15 = .ok (.iload 4, 2) := by decide +kernel
theorem dX0_note_17 : decode cX0_note 17 = .ok (.lload_n 1, 1) := by decide +kernel
theorem dX0_note_18 : decode cX0_note 18 = .ok (.lastore, 1) := by decide +kernel
theorem dX0_note_19 : decode cX0_note 19 = .ok (.aload_n 0, 1) := by decide +kernel
theorem dX0_note_20 : decode cX0_note 20 = .ok (.getfield 15, 3) := by decide +kernel
theorem dX0_note_23 : decode cX0_note 23 = .ok (.iload 4, 2) := by decide +kernel
theorem dX0_note_25 : decode cX0_note 25 = .ok (.iload_n 3, 1) := by decide +kernel
theorem dX0_note_26 : decode cX0_note 26 = .ok (.iastore, 1) := by decide +kernel
theorem dX0_note_27 : decode cX0_note 27 = .ok (.aload_n 0, 1) := by decide +kernel
theorem dX0_note_28 : decode cX0_note 28 = .ok (.dup, 1) := by decide +kernel
theorem dX0_note_29 : decode cX0_note 29 = .ok (.getfield 19, 3) := by decide +kernel
theorem dX0_note_32 : decode cX0_note 32 = .ok (.lconst 1, 1) := by decide +kernel
theorem dX0_note_33 : decode cX0_note 33 = .ok (.ladd, 1) := by decide +kernel
theorem dX0_note_34 : decode cX0_note 34 = .ok (.putfield 19, 3) := by decide +kernel
theorem dX0_note_37 : decode cX0_note 37 = .ok (.return_, 1) := by decide +kernel
theorem dX1_init_0 : decode cX1_init 0 = .ok (.aload_n 0, 1) := by decide +kernel
theorem dX1_init_1 : decode cX1_init 1 = .ok (.invokespecial 1, 3) := by decide +kernel
theorem dX1_init_4 : decode cX1_init 4 = .ok (.aload_n 0, 1) := by decide +kernel
theorem dX1_init_5 : decode cX1_init 5 = .ok (.new 7, 3) := by decide +kernel
theorem dX1_init_8 : decode cX1_init 8 = .ok (.dup, 1) := by decide +kernel
theorem dX1_init_9 : decode cX1_init 9 = .ok (.invokespecial 9, 3) := by decide +kernel
theorem dX1_init_12 : decode cX1_init 12 = .ok (.putfield 10, 3) := by decide +kernel
theorem dX1_init_15 : decode cX1_init 15 = .ok (.aload_n 0, 1) := by decide +kernel
theorem dX1_init_16 : decode cX1_init 16 = .ok (.new 16, 3) := by decide +kernel
theorem dX1_init_19 : decode cX1_init 19 = .ok (.dup, 1) := by decide +kernel
theorem dX1_init_20 : decode cX1_init 20 = .ok (.invokespecial 18, 3) := by decide +kernel
theorem dX1_init_23 : decode cX1_init 23 = .ok (.putfield 19, 3) := by decide +kernel
theorem dX1_init_26 : decode cX1_init 26 = .ok (.aload_n 0, 1) := by decide +kernel
theorem dX1_init_27 : decode cX1_init 27 = .ok (.new 23, 3) := by decide +kernel
theorem dX1_init_30 : decode cX1_init 30 = .ok (.dup, 1) := by decide +kernel
theorem dX1_init_31 : decode cX1_init 31 = .ok (.invokespecial 25, 3) := by decide +kernel
theorem dX1_init_34 : decode cX1_init 34 = .ok (.putfield 26, 3) := by decide +kernel
theorem dX1_init_37 : decode cX1_init 37 = .ok (.aload_n 0, 1) := by decide +kernel
theorem dX1_init_38 : decode cX1_init 38 = .ok (.new 30, 3) := by decide +kernel
theorem dX1_init_41 : decode cX1_init 41 = .ok (.dup, 1) := by decide +kernel
theorem dX1_init_42 : decode cX1_init 42 = .ok (.invokespecial 32, 3) := by decide +kernel
theorem dX1_init_45 : decode cX1_init 45 = .ok (.putfield 33, 3) := by decide +kernel
theorem dX1_init_48 : decode cX1_init 48 = .ok (.return_, 1) := by decide +kernel
theorem dX1_advance_0 : decode cX1_advance 0 = .ok (.iconst 0, 1) := by decide +kernel
theorem dX1_advance_1 : decode cX1_advance 1 = .ok (.istore_n 2, 1) := by decide +kernel
theorem dX1_advance_2 : decode cX1_advance 2 = .ok (.iconst 0, 1) := by decide +kernel
theorem dX1_advance_3 : decode cX1_advance 3 = .ok (.istore_n 3, 1) := by decide +kernel
theorem dX1_advance_4 : decode cX1_advance 4 = .ok (.iload_n 3, 1) := by decide +kernel
theorem dX1_advance_5 : decode cX1_advance 5 = .ok (.iload_n 1, 1) := by decide +kernel
theorem dX1_advance_6 : decode cX1_advance 6 = .ok (.if_icmp .ge 28, 3) := by decide +kernel
theorem dX1_advance_9 : decode cX1_advance 9 = .ok (.iload_n 2, 1) := by decide +kernel
theorem dX1_advance_10 : decode cX1_advance 10 = .ok (.aload_n 0, 1) := by decide +kernel
theorem dX1_advance_11 : decode cX1_advance 11 = .ok (.invokevirtual 54, 3) := by decide +kernel
theorem dX1_advance_14 : decode cX1_advance 14 = .ok (.iadd, 1) := by decide +kernel
theorem dX1_advance_15 : decode cX1_advance 15 = .ok (.istore_n 2, 1) := by decide +kernel
theorem dX1_advance_16 : decode cX1_advance 16 = .ok (.iload_n 3, 1) := by decide +kernel
theorem dX1_advance_17 : decode cX1_advance 17 = .ok (.aload_n 0, 1) := by decide +kernel
theorem dX1_advance_18 : decode cX1_advance 18 = .ok (.iload_n 1, 1) := by decide +kernel
theorem dX1_advance_19 : decode cX1_advance 19 = .ok (.iload_n 3, 1) := by decide +kernel
theorem dX1_advance_20 : decode cX1_advance 20 = .ok (.isub, 1) := by decide +kernel
theorem dX1_advance_21 : decode cX1_advance 21 = .ok (.iconst 1, 1) := by decide +kernel
theorem dX1_advance_22 : decode cX1_advance 22 = .ok (.isub, 1) := by decide +kernel
theorem dX1_advance_23 : decode cX1_advance 23 = .ok (.invokevirtual 58, 3) := by decide +kernel
theorem dX1_advance_26 : decode cX1_advance 26 = .ok (.iadd, 1) := by decide +kernel
theorem dX1_advance_27 : decode cX1_advance 27 = .ok (.istore_n 3, 1) := by decide +kernel
theorem dX1_advance_28 : decode cX1_advance 28 = .ok (.iinc 3 1, 3) := by decide +kernel
theorem dX1_advance_31 : decode cX1_advance 31 = .ok (.goto (-27), 3) := by decide +kernel
theorem dX1_advance_34 : decode cX1_advance 34 = .ok (.iload_n 2, 1) := by decide +kernel
theorem dX1_advance_35 : decode cX1_advance 35 = .ok (.ireturn, 1) := by decide +kernel
theorem dX1_tick_0 : decode cX1_tick 0 = .ok (.aload_n 0, 1) := by decide +kernel
theorem dX1_tick_1 : decode cX1_tick 1 = .ok (.getfield 10, 3) := by decide +kernel
theorem dX1_tick_4 : decode cX1_tick 4 = .ok (.invokevirtual 70, 3) := by decide +kernel
theorem dX1_tick_7 : decode cX1_tick 7 = .ok (.aload_n 0, 1) := by decide +kernel
theorem dX1_tick_8 : decode cX1_tick 8 = .ok (.getfield 19, 3) := by decide +kernel
theorem dX1_tick_11 : decode cX1_tick 11 = .ok (.aload_n 0, 1) := by decide +kernel
theorem dX1_tick_12 : decode cX1_tick 12 = .ok (.getfield 10, 3) := by decide +kernel
theorem dX1_tick_15 : decode cX1_tick 15 = .ok (.aload_n 0, 1) := by decide +kernel
theorem dX1_tick_16 : decode cX1_tick 16 = .ok (.getfield 33, 3) := by decide +kernel
theorem dX1_tick_19 : decode cX1_tick 19 = .ok (.aload_n 0, 1) := by decide +kernel
theorem dX1_tick_20 : decode cX1_tick 20 = .ok (.getfield 50, 3) := by decide +kernel
theorem dX1_tick_23 : decode cX1_tick 23 = .ok (.invokevirtual 73, 3) := by decide +kernel
theorem dX1_tick_26 : decode cX1_tick 26 = .ok (.istore_n 1, 1) := by decide +kernel
theorem dX1_tick_27 : decode cX1_tick 27 = .ok (.aload_n 0, 1) := by decide +kernel
theorem dX1_tick_28 : decode cX1_tick 28 = .ok (.getfield 26, 3) := by decide +kernel
theorem dX1_tick_31 : decode cX1_tick 31 = .ok (.aload_n 0, 1) := by decide +kernel
theorem dX1_tick_32 : decode cX1_tick 32 = .ok (.getfield 10, 3) := by decide +kernel
theorem dX1_tick_35 : decode cX1_tick 35 = .ok (.aload_n 0, 1) := by decide +kernel
theorem dX1_tick_36 : decode cX1_tick 36 = .ok (.getfield 19, 3) := by decide +kernel
theorem dX1_tick_39 : decode cX1_tick 39 = .ok (.invokevirtual 77, 3) := by decide +kernel
theorem dX1_tick_42 : decode cX1_tick 42 = .ok (.aload_n 0, 1) := by decide +kernel
theorem dX1_tick_43 : decode cX1_tick 43 = .ok (.getfield 10, 3) := by decide +kernel
theorem dX1_tick_46 : decode cX1_tick 46 = .ok (.invokevirtual 81, 3) := by decide +kernel
theorem dX1_tick_49 : decode cX1_tick 49 = .ok (.aload_n 0, 1) := by decide +kernel
theorem dX1_tick_50 : decode cX1_tick 50 = .ok (.dup, 1) := by decide +kernel
theorem dX1_tick_51 : decode cX1_tick 51 = .ok (.getfield 50, 3) := by decide +kernel
theorem dX1_tick_54 : decode cX1_tick 54 = .ok (.lconst 1, 1) := by decide +kernel
theorem dX1_tick_55 : decode cX1_tick 55 = .ok (.ladd, 1) := by decide +kernel
theorem dX1_tick_56 : decode cX1_tick 56 = .ok (.putfield 50, 3) := by decide +kernel
theorem dX1_tick_59 : decode cX1_tick 59 = .ok (.iload_n 1, 1) := by decide +kernel
theorem dX1_tick_60 : decode cX1_tick 60 = .ok (.ireturn, 1) := by decide +kernel
theorem dX1_repeatLast_0 : decode cX1_repeatLast 0 = .ok (.aload_n 0, 1) := by decide +kernel
theorem dX1_repeatLast_1 : decode cX1_repeatLast 1 = .ok (.getfield 19, 3) := by decide +kernel
theorem dX1_repeatLast_4 : decode cX1_repeatLast 4 = .ok (.aload_n 0, 1) := by decide +kernel
theorem dX1_repeatLast_5 : decode cX1_repeatLast 5 = .ok (.getfield 10, 3) := by decide +kernel
theorem dX1_repeatLast_8 : decode cX1_repeatLast 8 = .ok (.iload_n 1, 1) := by decide +kernel
theorem dX1_repeatLast_9 : decode cX1_repeatLast 9 = .ok (.invokevirtual 84, 3) := by decide +kernel
theorem dX1_repeatLast_12 : decode cX1_repeatLast 12 = .ok (.istore_n 2, 1) := by decide +kernel
theorem dX1_repeatLast_13 : decode cX1_repeatLast 13 = .ok (.aload_n 0, 1) := by decide +kernel
theorem dX1_repeatLast_14 : decode cX1_repeatLast 14 = .ok (.getfield 26, 3) := by decide +kernel
theorem dX1_repeatLast_17 : decode cX1_repeatLast 17 = .ok (.aload_n 0, 1) := by decide +kernel
theorem dX1_repeatLast_18 : decode cX1_repeatLast 18 = .ok (.getfield 10, 3) := by decide +kernel
theorem dX1_repeatLast_21 : decode cX1_repeatLast 21 = .ok (.aload_n 0, 1) := by decide +kernel
theorem dX1_repeatLast_22 : decode cX1_repeatLast 22 = .ok (.getfield 19, 3) := by decide +kernel
theorem dX1_repeatLast_25 : decode cX1_repeatLast 25 = .ok (.iload_n 2, 1) := by decide +kernel
theorem dX1_repeatLast_26 : decode cX1_repeatLast 26 = .ok (.invokevirtual 88, 3) := by decide +kernel
theorem dX1_repeatLast_29 : decode cX1_repeatLast 29 = .ok (.istore_n 2, 1) := by decide +kernel
theorem dX1_repeatLast_30 : decode cX1_repeatLast 30 = .ok (.aload_n 0, 1) := by decide +kernel
theorem dX1_repeatLast_31 : decode cX1_repeatLast 31 = .ok (.getfield 10, 3) := by decide +kernel
theorem dX1_repeatLast_34 : decode cX1_repeatLast 34 = .ok (.iload_n 2, 1) := by decide +kernel
theorem dX1_repeatLast_35 : decode cX1_repeatLast 35 = .ok (.invokevirtual 91, 3) := by decide +kernel
theorem dX1_repeatLast_38 : decode cX1_repeatLast 38 = .ok (.istore_n 2, 1) := by decide +kernel
theorem dX1_repeatLast_39 : decode cX1_repeatLast 39 = .ok (.iload_n 2, 1) := by decide +kernel
theorem dX1_repeatLast_40 : decode cX1_repeatLast 40 = .ok (.ifCond .gt 5, 3) := by decide +kernel
theorem dX1_repeatLast_43 : decode cX1_repeatLast 43 = .ok (.iconst 0, 1) := by decide +kernel
theorem dX1_repeatLast_44 : decode cX1_repeatLast 44 = .ok (.ireturn, 1) := by decide +kernel
theorem dX1_repeatLast_45 : decode cX1_repeatLast 45 = .ok (.aload_n 0, 1) := by decide +kernel
theorem dX1_repeatLast_46 : decode cX1_repeatLast 46 = .ok (.getfield 26, 3) := by decide +kernel
theorem dX1_repeatLast_49 : decode cX1_repeatLast 49 = .ok (.aload_n 0, 1) := by decide +kernel
theorem dX1_repeatLast_50 : decode cX1_repeatLast 50 = .ok (.getfield 19, 3) := by decide +kernel
theorem dX1_repeatLast_53 : decode cX1_repeatLast 53 = .ok (.iload_n 2, 1) := by decide +kernel
theorem dX1_repeatLast_54 : decode cX1_repeatLast 54 = .ok (.invokevirtual 93, 3) := by decide +kernel
theorem dX1_repeatLast_57 : decode cX1_repeatLast 57 = .ok (.aload_n 0, 1) := by decide +kernel
theorem dX1_repeatLast_58 : decode cX1_repeatLast 58 = .ok (.getfield 10, 3) := by decide +kernel
theorem dX1_repeatLast_61 : decode cX1_repeatLast 61 = .ok (.iload_n 2, 1) := by decide +kernel
theorem dX1_repeatLast_62 : decode cX1_repeatLast 62 = .ok (.invokevirtual 97, 3) := by decide +kernel
theorem dX1_repeatLast_65 : decode cX1_repeatLast 65 = .ok (.aload_n 0, 1) := by decide +kernel
theorem dX1_repeatLast_66 : decode cX1_repeatLast 66 = .ok (.dup, 1) := by decide +kernel
theorem dX1_repeatLast_67 : decode cX1_repeatLast 67 = .ok (.getfield 50, 3) := by decide +kernel
theorem dX1_repeatLast_70 : decode cX1_repeatLast 70 = .ok (.iload_n 2, 1) := by decide +kernel
theorem dX1_repeatLast_71 : decode cX1_repeatLast 71 = .ok (.i2l, 1) := by decide +kernel
theorem dX1_repeatLast_72 : decode cX1_repeatLast 72 = .ok (.ladd, 1) := by decide +kernel
theorem dX1_repeatLast_73 : decode cX1_repeatLast 73 = .ok (.putfield 50, 3) := by decide +kernel
theorem dX1_repeatLast_76 : decode cX1_repeatLast 76 = .ok (.iload_n 2, 1) := by decide +kernel
theorem dX1_repeatLast_77 : decode cX1_repeatLast 77 = .ok (.ireturn, 1) := by decide +kernel
theorem dX2_init_0 : decode cX2_init 0 = .ok (.aload_n 0, 1) := by decide +kernel
theorem dX2_init_1 : decode cX2_init 1 = .ok (.invokespecial 3, 3) := by decide +kernel
theorem dX2_init_4 : decode cX2_init 4 = .ok (.aload_n 0, 1) := by decide +kernel
theorem dX2_init_5 : decode cX2_init 5 = .ok (.bipush 16, 2) := by decide +kernel
theorem dX2_init_7 : decode cX2_init 7 = .ok (.newarray .int, 2) := by decide +kernel
theorem dX2_init_9 : decode cX2_init 9 = .ok (.putfield 9, 3) := by decide +kernel
theorem dX2_init_12 : decode cX2_init 12 = .ok (.aload_n 0, 1) := by decide +kernel
theorem dX2_init_13 : decode cX2_init 13 = .ok (.bipush 16, 2) := by decide +kernel
theorem dX2_init_15 : decode cX2_init 15 = .ok (.newarray .int, 2) := by decide +kernel
theorem dX2_init_17 : decode cX2_init 17 = .ok (.putfield 15, 3) := by decide +kernel
theorem dX2_init_20 : decode cX2_init 20 = .ok (.aload_n 0, 1) := by decide +kernel
theorem dX2_init_21 : decode cX2_init 21 = .ok (.bipush 16, 2) := by decide +kernel
theorem dX2_init_23 : decode cX2_init 23 = .ok (.newarray .int, 2) := by decide +kernel
theorem dX2_init_25 : decode cX2_init 25 = .ok (.putfield 18, 3) := by decide +kernel
theorem dX2_init_28 : decode cX2_init 28 = .ok (.aload_n 0, 1) := by decide +kernel
theorem dX2_init_29 : decode cX2_init 29 = .ok (.bipush 16, 2) := by decide +kernel
theorem dX2_init_31 : decode cX2_init 31 = .ok (.newarray .int, 2) := by decide +kernel
theorem dX2_init_33 : decode cX2_init 33 = .ok (.putfield 21, 3) := by decide +kernel
theorem dX2_init_36 : decode cX2_init 36 = .ok (.aload_n 0, 1) := by decide +kernel
theorem dX2_init_37 : decode cX2_init 37 = .ok (.bipush 16, 2) := by decide +kernel
theorem dX2_init_39 : decode cX2_init 39 = .ok (.newarray .int, 2) := by decide +kernel
theorem dX2_init_41 : decode cX2_init 41 = .ok (.putfield 24, 3) := by decide +kernel
theorem dX2_init_44 : decode cX2_init 44 = .ok (.aload_n 0, 1) := by decide +kernel
theorem dX2_init_45 : decode cX2_init 45 = .ok (.bipush 16, 2) := by decide +kernel
theorem dX2_init_47 : decode cX2_init 47 = .ok (.newarray .boolean, 2) := by decide +kernel
theorem dX2_init_49 : decode cX2_init 49 = .ok (.putfield 27, 3) := by decide +kernel
theorem dX2_init_52 : decode cX2_init 52 = .ok (.aload_n 0, 1) := by decide +kernel
theorem dX2_init_53 : decode cX2_init 53 = .ok (.bipush 16, 2) := by decide +kernel
theorem dX2_init_55 : decode cX2_init 55 = .ok (.newarray .long, 2) := by decide +kernel
theorem dX2_init_57 : decode cX2_init 57 = .ok (.putfield 31, 3) := by decide +kernel
theorem dX2_init_60 : decode cX2_init 60 = .ok (.aload_n 0, 1) := by decide +kernel
theorem dX2_init_61 : decode cX2_init 61 = .ok (.bipush 16, 2) := by decide +kernel
theorem dX2_init_63 : decode cX2_init 63 = .ok (.newarray .long, 2) := by decide +kernel
theorem dX2_init_65 : decode cX2_init 65 = .ok (.putfield 35, 3) := by decide +kernel
theorem dX2_init_68 : decode cX2_init 68 = .ok (.aload_n 0, 1) := by decide +kernel
theorem dX2_init_69 : decode cX2_init 69 = .ok (.bipush 16, 2) := by decide +kernel
theorem dX2_init_71 : decode cX2_init 71 = .ok (.newarray .long, 2) := by decide +kernel
theorem dX2_init_73 : decode cX2_init 73 = .ok (.putfield 38, 3) := by decide +kernel
theorem dX2_init_76 : decode cX2_init 76 = .ok (.aload_n 0, 1) := by decide +kernel
theorem dX2_init_77 : decode cX2_init 77 = .ok (.bipush 16, 2) := by decide +kernel
theorem dX2_init_79 : decode cX2_init 79 = .ok (.newarray .int, 2) := by decide +kernel
theorem dX2_init_81 : decode cX2_init 81 = .ok (.putfield 41, 3) := by decide +kernel
theorem dX2_init_84 : decode cX2_init 84 = .ok (.aload_n 0, 1) := by decide +kernel
theorem dX2_init_85 : decode cX2_init 85 = .ok (.bipush 16, 2) := by decide +kernel
theorem dX2_init_87 : decode cX2_init 87 = .ok (.newarray .int, 2) := by decide +kernel
theorem dX2_init_89 : decode cX2_init 89 = .ok (.putfield 44, 3) := by decide +kernel
theorem dX2_init_92 : decode cX2_init 92 = .ok (.aload_n 0, 1) := by decide +kernel
theorem dX2_init_93 : decode cX2_init 93 = .ok (.bipush 16, 2) := by decide +kernel
theorem dX2_init_95 : decode cX2_init 95 = .ok (.newarray .int, 2) := by decide +kernel
theorem dX2_init_97 : decode cX2_init 97 = .ok (.putfield 47, 3) := by decide +kernel
theorem dX2_init_100 : decode cX2_init 100 = .ok (.return_, 1) := by decide +kernel
theorem dX2_append_0 : decode cX2_append 0 = .ok (.aload_n 0, 1) := by decide +kernel
theorem dX2_append_1 : decode cX2_append 1 = .ok (.getfield 50, 3) := by decide +kernel
theorem dX2_append_4 : decode cX2_append 4 = .ok (.istore 7, 2) := by decide +kernel
theorem dX2_append_6 : decode cX2_append 6 = .ok (.aload_n 0, 1) := by decide +kernel
theorem dX2_append_7 : decode cX2_append 7 = .ok (.getfield 9, 3) := by decide +kernel
theorem dX2_append_10 : decode cX2_append 10 = .ok (.iload 7, 2) := by decide +kernel
theorem dX2_append_12 : decode cX2_append 12 = .ok (.iload_n 1, 1) := by decide +kernel
theorem dX2_append_13 : decode cX2_append 13 = .ok (.iastore, 1) := by decide +kernel
theorem dX2_append_14 : decode cX2_append 14 = .ok (.aload_n 0, 1) := by decide +kernel
theorem dX2_append_15 : decode cX2_append 15 = .ok (.getfield 15, 3) := by decide +kernel
theorem dX2_append_18 : decode cX2_append 18 = .ok (.iload 7, 2) := by decide +kernel
theorem dX2_append_20 : decode cX2_append 20 = .ok (.iload_n 2, 1) := by decide +kernel
theorem dX2_append_21 : decode cX2_append 21 = .ok (.iastore, 1) := by decide +kernel
theorem dX2_append_22 : decode cX2_append 22 = .ok (.aload_n 0, 1) := by decide +kernel
theorem dX2_append_23 : decode cX2_append 23 = .ok (.getfield 18, 3) := by decide +kernel
theorem dX2_append_26 : decode cX2_append 26 = .ok (.iload 7, 2) := by decide +kernel
theorem dX2_append_28 : decode cX2_append 28 = .ok (.iload_n 3, 1) := by decide +kernel
theorem dX2_append_29 : decode cX2_append 29 = .ok (.iastore, 1) := by decide +kernel
theorem dX2_append_30 : decode cX2_append 30 = .ok (.aload_n 0, 1) := by decide +kernel
theorem dX2_append_31 : decode cX2_append 31 = .ok (.getfield 21, 3) := by decide +kernel
theorem dX2_append_34 : decode cX2_append 34 = .ok (.iload 7, 2) := by decide +kernel
theorem dX2_append_36 : decode cX2_append 36 = .ok (.iload 4, 2) := by decide +kernel
theorem dX2_append_38 : decode cX2_append 38 = .ok (.iastore, 1) := by decide +kernel
theorem dX2_append_39 : decode cX2_append 39 = .ok (.aload_n 0, 1) := by decide +kernel
theorem dX2_append_40 : decode cX2_append 40 = .ok (.getfield 24, 3) := by decide +kernel
theorem dX2_append_43 : decode cX2_append 43 = .ok (.iload 7, 2) := by decide +kernel
theorem dX2_append_45 : decode cX2_append 45 = .ok (.iload 5, 2) := by decide +kernel
theorem dX2_append_47 : decode cX2_append 47 = .ok (.iastore, 1) := by decide +kernel
theorem dX2_append_48 : decode cX2_append 48 = .ok (.aload_n 0, 1) := by decide +kernel
theorem dX2_append_49 : decode cX2_append 49 = .ok (.getfield 27, 3) := by decide +kernel
theorem dX2_append_52 : decode cX2_append 52 = .ok (.iload 7, 2) := by decide +kernel
theorem dX2_append_54 : decode cX2_append 54 = .ok (.iload 6, 2) := by decide +kernel
theorem dX2_append_56 : decode cX2_append 56 = .ok (.bastore, 1) := by decide +kernel
theorem dX2_append_57 : decode cX2_append 57 = .ok (.aload_n 0, 1) := by decide +kernel
theorem dX2_append_58 : decode cX2_append 58 = .ok (.getfield 31, 3) := by decide +kernel
theorem dX2_append_61 : decode cX2_append 61 = .ok (.iload 7, 2) := by decide +kernel
theorem dX2_append_63 : decode cX2_append 63 = .ok (.lconst 0, 1) := by decide +kernel
theorem dX2_append_64 : decode cX2_append 64 = .ok (.lastore, 1) := by decide +kernel
theorem dX2_append_65 : decode cX2_append 65 = .ok (.aload_n 0, 1) := by decide +kernel
theorem dX2_append_66 : decode cX2_append 66 = .ok (.getfield 35, 3) := by decide +kernel
theorem dX2_append_69 : decode cX2_append 69 = .ok (.iload 7, 2) := by decide +kernel
theorem dX2_append_71 : decode cX2_append 71 = .ok (.lconst 0, 1) := by decide +kernel
theorem dX2_append_72 : decode cX2_append 72 = .ok (.lastore, 1) := by decide +kernel
theorem dX2_append_73 : decode cX2_append 73 = .ok (.aload_n 0, 1) := by decide +kernel
theorem dX2_append_74 : decode cX2_append 74 = .ok (.getfield 38, 3) := by decide +kernel
theorem dX2_append_77 : decode cX2_append 77 = .ok (.iload 7, 2) := by decide +kernel
theorem dX2_append_79 : decode cX2_append 79 = .ok (.lconst 0, 1) := by decide +kernel
theorem dX2_append_80 : decode cX2_append 80 = .ok (.lastore, 1) := by decide +kernel
theorem dX2_append_81 : decode cX2_append 81 = .ok (.aload_n 0, 1) := by decide +kernel
theorem dX2_append_82 : decode cX2_append 82 = .ok (.dup, 1) := by decide +kernel
theorem dX2_append_83 : decode cX2_append 83 = .ok (.getfield 50, 3) := by decide +kernel
theorem dX2_append_86 : decode cX2_append 86 = .ok (.iconst 1, 1) := by decide +kernel
theorem dX2_append_87 : decode cX2_append 87 = .ok (.iadd, 1) := by decide +kernel
theorem dX2_append_88 : decode cX2_append 88 = .ok (.putfield 50, 3) := by decide +kernel
theorem dX2_append_91 : decode cX2_append 91 = .ok (.iload 7, 2) := by decide +kernel
theorem dX2_append_93 : decode cX2_append 93 = .ok (.ireturn, 1) := by decide +kernel
theorem dX2_isActive_0 : decode cX2_isActive 0 = .ok (.aload_n 0, 1) := by decide +kernel
theorem dX2_isActive_1 : decode cX2_isActive 1 = .ok (.getfield 24, 3) := by decide +kernel
theorem dX2_isActive_4 : decode cX2_isActive 4 = .ok (.iload_n 1, 1) := by decide +kernel
theorem dX2_isActive_5 : decode cX2_isActive 5 = .ok (.iaload, 1) := by decide +kernel
theorem dX2_isActive_6 : decode cX2_isActive 6 = .ok (.istore_n 3, 1) := by decide +kernel
theorem dX2_isActive_7 : decode cX2_isActive 7 = .ok (.iload_n 3, 1) := by decide +kernel
theorem dX2_isActive_8 : decode cX2_isActive 8 = .ok (.iconst (-1), 1) := by decide +kernel
theorem dX2_isActive_9 : decode cX2_isActive 9 = .ok (.if_icmp .eq 18, 3) := by decide +kernel
theorem dX2_isActive_12 : decode cX2_isActive 12 = .ok (.aload_n 2, 1) := by decide +kernel
theorem dX2_isActive_13 : decode cX2_isActive 13 = .ok (.getfield 60, 3) := by decide +kernel
theorem dX2_isActive_16 : decode cX2_isActive 16 = .ok (.iload_n 3, 1) := by decide +kernel
theorem dX2_isActive_17 : decode cX2_isActive 17 = .ok (.baload, 1) := by decide +kernel
theorem dX2_isActive_18 : decode cX2_isActive 18 = .ok (.aload_n 0, 1) := by decide +kernel
theorem dX2_isActive_19 : decode cX2_isActive 19 = .ok (.getfield 27, 3) := by decide +kernel
theorem dX2_isActive_22 : decode cX2_isActive 22 = .ok (.iload_n 1, 1) := by decide +kernel
theorem dX2_isActive_23 : decode cX2_isActive 23 = .ok (.baload, 1) := by decide +kernel
theorem dX2_isActive_24 : decode cX2_isActive 24 = .ok (.if_icmp .eq 7, 3) := by decide +kernel
theorem dX2_isActive_27 : decode cX2_isActive 27 = .ok (.iconst 1, 1) := by decide +kernel
theorem dX2_isActive_28 : decode cX2_isActive 28 = .ok (.goto 4, 3) := by decide +kernel
theorem dX2_isActive_31 : decode cX2_isActive 31 = .ok (.iconst 0, 1) := by decide +kernel
theorem dX2_isActive_32 : decode cX2_isActive 32 = .ok (.ireturn, 1) := by decide +kernel
theorem dX2_moveAll_0 : decode cX2_moveAll 0 = .ok (.iconst 0, 1) := by decide +kernel
theorem dX2_moveAll_1 : decode cX2_moveAll 1 = .ok (.istore_n 3, 1) := by decide +kernel
theorem dX2_moveAll_2 : decode cX2_moveAll 2 = .ok (.iload_n 3, 1) := by decide +kernel
theorem dX2_moveAll_3 : decode cX2_moveAll 3 = .ok (.aload_n 0, 1) := by decide +kernel
theorem dX2_moveAll_4 : decode cX2_moveAll 4 = .ok (.getfield 50, 3) := by decide +kernel
theorem dX2_moveAll_7 : decode cX2_moveAll 7 = .ok (.if_icmp .ge 30, 3) := by decide +kernel
theorem dX2_moveAll_10 : decode cX2_moveAll 10 = .ok (.aload_n 0, 1) := by decide +kernel
theorem dX2_moveAll_11 : decode cX2_moveAll 11 = .ok (.iload_n 3, 1) := by decide +kernel
theorem dX2_moveAll_12 : decode cX2_moveAll 12 = .ok (.aload_n 2, 1) := by decide +kernel
theorem dX2_moveAll_13 : decode cX2_moveAll 13 = .ok (.invokevirtual 65, 3) := by decide +kernel
theorem dX2_moveAll_16 : decode cX2_moveAll 16 = .ok (.ifCond .eq 15, 3) := by decide +kernel
theorem dX2_moveAll_19 : decode cX2_moveAll 19 = .ok (.aload_n 0, 1) := by decide +kernel
theorem dX2_moveAll_20 : decode cX2_moveAll 20 = .ok (.iload_n 3, 1) := by decide +kernel
theorem dX2_moveAll_21 : decode cX2_moveAll 21 = .ok (.aload_n 1, 1) := by decide +kernel
theorem dX2_moveAll_22 : decode cX2_moveAll 22 = .ok (.invokevirtual 69, 3) := by decide +kernel
theorem dX2_moveAll_25 : decode cX2_moveAll 25 = .ok (.aload_n 0, 1) := by decide +kernel
theorem dX2_moveAll_26 : decode cX2_moveAll 26 = .ok (.iload_n 3, 1) := by decide +kernel
theorem dX2_moveAll_27 : decode cX2_moveAll 27 = .ok (.iconst 1, 1) := by decide +kernel
theorem dX2_moveAll_28 : decode cX2_moveAll 28 = .ok (.invokevirtual 73, 3) := by decide +kernel
theorem dX2_moveAll_31 : decode cX2_moveAll 31 = .ok (.iinc 3 1, 3) := by decide +kernel
theorem dX2_moveAll_34 : decode cX2_moveAll 34 = .ok (.goto (-32), 3) := by decide +kernel
theorem dX2_moveAll_37 : decode cX2_moveAll 37 = .ok (.return_, 1) := by decide +kernel
theorem dX2_move_0 : decode cX2_move 0 = .ok (.aload_n 0, 1) := by decide +kernel
theorem dX2_move_1 : decode cX2_move 1 = .ok (.getfield 9, 3) := by decide +kernel
theorem dX2_move_4 : decode cX2_move 4 = .ok (.iload_n 1, 1) := by decide +kernel
theorem dX2_move_5 : decode cX2_move 5 = .ok (.iaload, 1) := by decide +kernel
theorem dX2_move_6 : decode cX2_move 6 = .ok (.istore_n 3, 1) := by decide +kernel
theorem dX2_move_7 : decode cX2_move 7 = .ok (.aload_n 0, 1) := by decide +kernel
theorem dX2_move_8 : decode cX2_move 8 = .ok (.getfield 15, 3) := by decide +kernel
theorem dX2_move_11 : decode cX2_move 11 = .ok (.iload_n 1, 1) := by decide +kernel
theorem dX2_move_12 : decode cX2_move 12 = .ok (.iaload, 1) := by decide +kernel
theorem dX2_move_13 : decode cX2_move 13 = .ok (.istore 4, 2) := by decide +kernel
theorem dX2_move_15 : decode cX2_move 15 = .ok (.aload_n 0, 1) := by decide +kernel
theorem dX2_move_16 : decode cX2_move 16 = .ok (.getfield 18, 3) := by decide +kernel
theorem dX2_move_19 : decode cX2_move 19 = .ok (.iload_n 1, 1) := by decide +kernel
theorem dX2_move_20 : decode cX2_move 20 = .ok (.iaload, 1) := by decide +kernel
theorem dX2_move_21 : decode cX2_move 21 = .ok (.istore 5, 2) := by decide +kernel
theorem dX2_move_23 : decode cX2_move 23 = .ok (.iload_n 3, 1) := by decide +kernel
theorem dX2_move_24 : decode cX2_move 24 = .ok (.iconst (-1), 1) := by decide +kernel
theorem dX2_move_25 : decode cX2_move 25 = .ok (.if_icmp .eq 16, 3) := by decide +kernel
theorem dX2_move_28 : decode cX2_move 28 = .ok (.iload 5, 2) := by decide +kernel
theorem dX2_move_30 : decode cX2_move 30 = .ok (.aload_n 2, 1) := by decide +kernel
theorem dX2_move_31 : decode cX2_move 31 = .ok (.getfield 77, 3) := by decide +kernel
theorem dX2_move_34 : decode cX2_move 34 = .ok (.iload_n 3, 1) := by decide +kernel
theorem dX2_move_35 : decode cX2_move 35 = .ok (.iaload, 1) := by decide +kernel
theorem dX2_move_36 : decode cX2_move 36 = .ok (.invokestatic 82, 3) := by decide +kernel
theorem dX2_move_39 : decode cX2_move 39 = .ok (.istore 5, 2) := by decide +kernel
theorem dX2_move_41 : decode cX2_move 41 = .ok (.iload 4, 2) := by decide +kernel
theorem dX2_move_43 : decode cX2_move 43 = .ok (.iconst (-1), 1) := by decide +kernel
theorem dX2_move_44 : decode cX2_move 44 = .ok (.if_icmp .eq 25, 3) := by decide +kernel
theorem dX2_move_47 : decode cX2_move 47 = .ok (.iload 5, 2) := by decide +kernel
theorem dX2_move_49 : decode cX2_move 49 = .ok (.aload_n 2, 1) := by decide +kernel
theorem dX2_move_50 : decode cX2_move 50 = .ok (.getfield 88, 3) := by decide +kernel
theorem dX2_move_53 : decode cX2_move 53 = .ok (.iload 4, 2) := by decide +kernel
theorem dX2_move_55 : decode cX2_move 55 = .ok (.iaload, 1) := by decide +kernel
theorem dX2_move_56 : decode cX2_move 56 = .ok (.aload_n 2, 1) := by decide +kernel
theorem dX2_move_57 : decode cX2_move 57 = .ok (.getfield 77, 3) := by decide +kernel
theorem dX2_move_60 : decode cX2_move 60 = .ok (.iload 4, 2) := by decide +kernel
theorem dX2_move_62 : decode cX2_move 62 = .ok (.iaload, 1) := by decide +kernel
theorem dX2_move_63 : decode cX2_move 63 = .ok (.isub, 1) := by decide +kernel
theorem dX2_move_64 : decode cX2_move 64 = .ok (.invokestatic 82, 3) := by decide +kernel
theorem dX2_move_67 : decode cX2_move 67 = .ok (.istore 5, 2) := by decide +kernel
theorem dX2_move_69 : decode cX2_move 69 = .ok (.iload_n 3, 1) := by decide +kernel
theorem dX2_move_70 : decode cX2_move 70 = .ok (.iconst (-1), 1) := by decide +kernel
theorem dX2_move_71 : decode cX2_move 71 = .ok (.if_icmp .eq 26, 3) := by decide +kernel
theorem dX2_move_74 : decode cX2_move 74 = .ok (.aload_n 2, 1) := by decide +kernel
theorem dX2_move_75 : decode cX2_move 75 = .ok (.getfield 77, 3) := by decide +kernel
theorem dX2_move_78 : decode cX2_move 78 = .ok (.iload_n 3, 1) := by decide +kernel
theorem dX2_move_79 : decode cX2_move 79 = .ok (.dup2, 1) := by decide +kernel
theorem dX2_move_80 : decode cX2_move 80 = .ok (.iaload, 1) := by decide +kernel
theorem dX2_move_81 : decode cX2_move 81 = .ok (.iload 5, 2) := by decide +kernel
theorem dX2_move_83 : decode cX2_move 83 = .ok (.isub, 1) := by decide +kernel
theorem dX2_move_84 : decode cX2_move 84 = .ok (.iastore, 1) := by decide +kernel
theorem dX2_move_85 : decode cX2_move 85 = .ok (.aload_n 0, 1) := by decide +kernel
theorem dX2_move_86 : decode cX2_move 86 = .ok (.getfield 44, 3) := by decide +kernel
theorem dX2_move_89 : decode cX2_move 89 = .ok (.iload_n 1, 1) := by decide +kernel
theorem dX2_move_90 : decode cX2_move 90 = .ok (.aload_n 2, 1) := by decide +kernel
theorem dX2_move_91 : decode cX2_move 91 = .ok (.getfield 77, 3) := by decide +kernel
theorem dX2_move_94 : decode cX2_move 94 = .ok (.iload_n 3, 1) := by decide +kernel
theorem dX2_move_95 : decode cX2_move 95 = .ok (.iaload, 1) := by decide +kernel
theorem dX2_move_96 : decode cX2_move 96 = .ok (.iastore, 1) := by decide +kernel
theorem dX2_move_97 : decode cX2_move 97 = .ok (.iload 4, 2) := by decide +kernel
theorem dX2_move_99 : decode cX2_move 99 = .ok (.iconst (-1), 1) := by decide +kernel
theorem dX2_move_100 : decode cX2_move 100 = .ok (.if_icmp .eq 36, 3) := by decide +kernel
theorem dX2_move_103 : decode cX2_move 103 = .ok (.aload_n 2, 1) := by decide +kernel
theorem dX2_move_104 : decode cX2_move 104 = .ok (.getfield 77, 3) := by decide +kernel
theorem dX2_move_107 : decode cX2_move 107 = .ok (.iload 4, 2) := by decide +kernel
theorem dX2_move_109 : decode cX2_move 109 = .ok (.dup2, 1) := by decide +kernel
theorem dX2_move_110 : decode cX2_move 110 = .ok (.iaload, 1) := by decide +kernel
theorem dX2_move_111 : decode cX2_move 111 = .ok (.iload 5, 2) := by decide +kernel
theorem dX2_move_113 : decode cX2_move 113 = .ok (.iadd, 1) := by decide +kernel
theorem dX2_move_114 : decode cX2_move 114 = .ok (.iastore, 1) := by decide +kernel
theorem dX2_move_115 : decode cX2_move 115 = .ok (.aload_n 0, 1) := by decide +kernel
theorem dX2_move_116 : decode cX2_move 116 = .ok (.getfield 47, 3) := by decide +kernel
theorem dX2_move_119 : decode cX2_move 119 = .ok (.iload_n 1, 1) := by decide +kernel
theorem dX2_move_120 : decode cX2_move 120 = .ok (.aload_n 2, 1) := by decide +kernel
theorem dX2_move_121 : decode cX2_move 121 = .ok (.getfield 88, 3) := by decide +kernel
theorem dX2_move_124 : decode cX2_move 124 = .ok (.iload 4, 2) := by decide +kernel
theorem dX2_move_126 : decode cX2_move 126 = .ok (.iaload, 1) := by decide +kernel
theorem dX2_move_127 : decode cX2_move 127 = .ok (.aload_n 2, 1) := by decide +kernel
theorem dX2_move_128 : decode cX2_move 128 = .ok (.getfield 77, 3) := by decide +kernel
theorem dX2_move_131 : decode cX2_move 131 = .ok (.iload 4, 2) := by decide +kernel
theorem dX2_move_133 : decode cX2_move 133 = .ok (.iaload, 1) := by decide +kernel
theorem dX2_move_134 : decode cX2_move 134 = .ok (.isub, 1) := by decide +kernel
theorem dX2_move_135 : decode cX2_move 135 = .ok (.iastore, 1) := by decide +kernel
theorem dX2_move_136 : decode cX2_move 136 = .ok (.aload_n 0, 1) := by decide +kernel
theorem dX2_move_137 : decode cX2_move 137 = .ok (.getfield 41, 3) := by decide +kernel
theorem dX2_move_140 : decode cX2_move 140 = .ok (.iload_n 1, 1) := by decide +kernel
theorem dX2_move_141 : decode cX2_move 141 = .ok (.iload 5, 2) := by decide +kernel
theorem dX2_move_143 : decode cX2_move 143 = .ok (.iastore, 1) := by decide +kernel
theorem dX2_move_144 : decode cX2_move 144 = .ok (.return_, 1) := by decide +kernel
theorem dX2_enter_0 : decode cX2_enter 0 = .ok (.aload_n 0, 1) := by decide +kernel
theorem dX2_enter_1 : decode cX2_enter 1 = .ok (.getfield 41, 3) := by decide +kernel
theorem dX2_enter_4 : decode cX2_enter 4 = .ok (.iload_n 1, 1) := by decide +kernel
theorem dX2_enter_5 : decode cX2_enter 5 = .ok (.iaload, 1) := by decide +kernel
theorem dX2_enter_6 : decode cX2_enter 6 = .ok (.i2l, 1) := by decide +kernel
theorem dX2_enter_7 : decode cX2_enter 7 = .ok (.iload_n 2, 1) := by decide +kernel
theorem dX2_enter_8 : decode cX2_enter 8 = .ok (.i2l, 1) := by decide +kernel
theorem dX2_enter_9 : decode cX2_enter 9 = .ok (.lmul, 1) := by decide +kernel
theorem dX2_enter_10 : decode cX2_enter 10 = .ok (.lstore_n 3, 1) := by decide +kernel
theorem dX2_enter_11 : decode cX2_enter 11 = .ok (.aload_n 0, 1) := by decide +kernel
theorem dX2_enter_12 : decode cX2_enter 12 = .ok (.getfield 31, 3) := by decide +kernel
theorem dX2_enter_15 : decode cX2_enter 15 = .ok (.iload_n 1, 1) := by decide +kernel
theorem dX2_enter_16 : decode cX2_enter 16 = .ok (.dup2, 1) := by decide +kernel
theorem dX2_enter_17 : decode cX2_enter 17 = .ok (.laload, 1) := by decide +kernel
theorem dX2_enter_18 : decode cX2_enter 18 = .ok (.lload_n 3, 1) := by decide +kernel
theorem dX2_enter_19 : decode cX2_enter 19 = .ok (.ladd, 1) := by decide +kernel
theorem dX2_enter_20 : decode cX2_enter 20 = .ok (.lastore, 1) := by decide +kernel
theorem dX2_enter_21 : decode cX2_enter 21 = .ok (.aload_n 0, 1) := by decide +kernel
theorem dX2_enter_22 : decode cX2_enter 22 = .ok (.getfield 35, 3) := by decide +kernel
theorem dX2_enter_25 : decode cX2_enter 25 = .ok (.iload_n 1, 1) := by decide +kernel
theorem dX2_enter_26 : decode cX2_enter 26 = .ok (.dup2, 1) := by decide +kernel
theorem dX2_enter_27 : decode cX2_enter 27 = .ok (.laload, 1) := by decide +kernel
theorem dX2_enter_28 : decode cX2_enter 28 = .ok (.lload_n 3, 1) := by decide +kernel
theorem dX2_enter_29 : decode cX2_enter 29 = .ok (.aload_n 0, 1) := by decide +kernel
theorem dX2_enter_30 : decode cX2_enter 30 = .ok (.getfield 21, 3) := by decide +kernel
theorem dX2_enter_33 : decode cX2_enter 33 = .ok (.iload_n 1, 1) := by decide +kernel
theorem dX2_enter_34 : decode cX2_enter 34 = .ok (.iaload, 1) := by decide +kernel
theorem dX2_enter_35 : decode cX2_enter 35 = .ok (.i2l, 1) := by decide +kernel
theorem dX2_enter_36 : decode cX2_enter 36 = .ok (.lmul, 1) := by decide +kernel
theorem dX2_enter_37 : decode cX2_enter 37 = .ok (.ladd, 1) := by decide +kernel
theorem dX2_enter_38 : decode cX2_enter 38 = .ok (.lastore, 1) := by decide +kernel
theorem dX2_enter_39 : decode cX2_enter 39 = .ok (.aload_n 0, 1) := by decide +kernel
theorem dX2_enter_40 : decode cX2_enter 40 = .ok (.getfield 41, 3) := by decide +kernel
theorem dX2_enter_43 : decode cX2_enter 43 = .ok (.iload_n 1, 1) := by decide +kernel
theorem dX2_enter_44 : decode cX2_enter 44 = .ok (.iaload, 1) := by decide +kernel
theorem dX2_enter_45 : decode cX2_enter 45 = .ok (.aload_n 0, 1) := by decide +kernel
theorem dX2_enter_46 : decode cX2_enter 46 = .ok (.getfield 18, 3) := by decide +kernel
theorem dX2_enter_49 : decode cX2_enter 49 = .ok (.iload_n 1, 1) := by decide +kernel
theorem dX2_enter_50 : decode cX2_enter 50 = .ok (.iaload, 1) := by decide +kernel
theorem dX2_enter_51 : decode cX2_enter 51 = .ok (.if_icmp .ge 14, 3) := by decide +kernel
theorem dX2_enter_54 : decode cX2_enter 54 = .ok (.aload_n 0, 1) := by decide +kernel
theorem dX2_enter_55 : decode cX2_enter 55 = .ok (.getfield 38, 3) := by decide +kernel
theorem dX2_enter_58 : decode cX2_enter 58 = .ok (.iload_n 1, 1) := by decide +kernel
theorem dX2_enter_59 : decode cX2_enter 59 = .ok (.dup2, 1) := by decide +kernel
theorem dX2_enter_60 : decode cX2_enter 60 = .ok (.laload, 1) := by decide +kernel
theorem dX2_enter_61 : decode cX2_enter 61 = .ok (.iload_n 2, 1) := by decide +kernel
theorem dX2_enter_62 : decode cX2_enter 62 = .ok (.i2l, 1) := by decide +kernel
theorem dX2_enter_63 : decode cX2_enter 63 = .ok (.ladd, 1) := by decide +kernel
theorem dX2_enter_64 : decode cX2_enter 64 = .ok (.lastore, 1) := by decide +kernel
theorem dX2_enter_65 : decode cX2_enter 65 = .ok (.return_, 1) := by decide +kernel
theorem dX2_steadyTicks_0 : decode cX2_steadyTicks 0 = .ok (.iload_n 3, 1) := by decide +kernel
theorem dX2_steadyTicks_1 : decode cX2_steadyTicks 1 = .ok (.istore 4, 2) := by decide +kernel
theorem dX2_steadyTicks_3 : decode cX2_steadyTicks 3 = .ok (.iconst 0, 1) := by decide +kernel
theorem dX2_steadyTicks_4 : decode cX2_steadyTicks 4 = .ok (.istore 5, 2) := by decide +kernel
theorem dX2_steadyTicks_6 : decode cX2_steadyTicks 6 = .ok (.iload 5, 2) := by decide +kernel
theorem dX2_steadyTicks_8 : decode cX2_steadyTicks 8 = .ok (.aload_n 0, 1) := by decide +kernel
theorem dX2_steadyTicks_9 : decode cX2_steadyTicks 9 = .ok (.getfield 50, 3) := by decide +kernel
theorem dX2_steadyTicks_12 : decode cX2_steadyTicks 12 = .ok (.if_icmp .ge 35, 3) := by decide +kernel
theorem dX2_steadyTicks_15 : decode cX2_steadyTicks 15 = .ok (.iload 4, 2) := by decide +kernel
theorem dX2_steadyTicks_17 : decode cX2_steadyTicks 17 = .ok (.ifCond .le 30, 3) := by decide +kernel
theorem dX2_steadyTicks_20 : decode cX2_steadyTicks 20 = .ok (.aload_n 0, 1) := by decide +kernel
theorem dX2_steadyTicks_21 : decode cX2_steadyTicks 21 = .ok (.iload 5, 2) := by decide +kernel
theorem dX2_steadyTicks_23 : decode cX2_steadyTicks 23 = .ok (.aload_n 2, 1) := by decide +kernel
theorem dX2_steadyTicks_24 : decode cX2_steadyTicks 24 = .ok (.invokevirtual 65, 3) := by decide +kernel
theorem dX2_steadyTicks_27 : decode cX2_steadyTicks 27 = .ok (.ifCond .eq 14, 3) := by decide +kernel
theorem dX2_steadyTicks_30 : decode cX2_steadyTicks 30 = .ok (.aload_n 0, 1) := by decide +kernel
theorem dX2_steadyTicks_31 : decode cX2_steadyTicks 31 = .ok (.iload 5, 2) := by decide +kernel
theorem dX2_steadyTicks_33 : decode cX2_steadyTicks 33 = .ok (.aload_n 1, 1) := by decide +kernel
theorem dX2_steadyTicks_34 : decode cX2_steadyTicks 34 = .ok (.iload 4, 2) := by decide +kernel
theorem dX2_steadyTicks_36 : decode cX2_steadyTicks 36 = .ok (.invokevirtual 91, 3) := by decide +kernel
theorem dX2_steadyTicks_39 : decode cX2_steadyTicks 39 = .ok (.istore 4, 2) := by decide +kernel
theorem dX2_steadyTicks_41 : decode cX2_steadyTicks 41 = .ok (.iinc 5 1, 3) := by decide +kernel
theorem dX2_steadyTicks_44 : decode cX2_steadyTicks 44 = .ok (.goto (-38), 3) := by decide +kernel
theorem dX2_steadyTicks_47 : decode cX2_steadyTicks 47 = .ok (.iload 4, 2) := by decide +kernel
theorem dX2_steadyTicks_49 : decode cX2_steadyTicks 49 = .ok (.ireturn, 1) := by decide +kernel
theorem dX2_steadyTicksOf_0 : decode cX2_steadyTicksOf 0 = .ok (.iload_n 3, 1) := by decide +kernel
theorem dX2_steadyTicksOf_1 : decode cX2_steadyTicksOf 1 = .ok (.istore 4, 2) := by decide +kernel
theorem dX2_steadyTicksOf_3 : decode cX2_steadyTicksOf 3 = .ok (.aload_n 0, 1) := by decide +kernel
theorem dX2_steadyTicksOf_4 : decode cX2_steadyTicksOf 4 = .ok (.getfield 41, 3) := by decide +kernel
theorem dX2_steadyTicksOf_7 : decode cX2_steadyTicksOf 7 = .ok (.iload_n 1, 1) := by decide +kernel
theorem dX2_steadyTicksOf_8 : decode cX2_steadyTicksOf 8 = .ok (.iaload, 1) := by decide +kernel
theorem dX2_steadyTicksOf_9 : decode cX2_steadyTicksOf 9 = .ok (.aload_n 0, 1) := by decide +kernel
theorem dX2_steadyTicksOf_10 : decode cX2_steadyTicksOf 10 = .ok (.getfield 18, 3) := by decide +kernel
theorem dX2_steadyTicksOf_13 : decode cX2_steadyTicksOf 13 = .ok (.iload_n 1, 1) := by decide +kernel
theorem dX2_steadyTicksOf_14 : decode cX2_steadyTicksOf 14 = .ok (.iaload, 1) := by decide +kernel
theorem dX2_steadyTicksOf_15 : decode cX2_steadyTicksOf 15 = .ok (.if_icmp .ne 7, 3) := by decide +kernel
theorem dX2_steadyTicksOf_18 : decode cX2_steadyTicksOf 18 = .ok (.iconst 1, 1) := by decide +kernel
theorem dX2_steadyTicksOf_19 : decode cX2_steadyTicksOf 19 = .ok (.goto 4, 3) := by decide +kernel
theorem dX2_steadyTicksOf_22 : decode cX2_steadyTicksOf 22 = .ok (.iconst 0, 1) := by decide +kernel
theorem dX2_steadyTicksOf_23 : decode cX2_steadyTicksOf 23 = .ok (.istore 5, 2) := by decide +kernel
theorem dX2_steadyTicksOf_25 : decode cX2_steadyTicksOf 25 = .ok (.aload_n 0, 1) := by decide +kernel
theorem dX2_steadyTicksOf_26 : decode cX2_steadyTicksOf 26 = .ok (.getfield 9, 3) := by decide +kernel
theorem dX2_steadyTicksOf_29 : decode cX2_steadyTicksOf 29 = .ok (.iload_n 1, 1) := by decide +kernel
theorem dX2_steadyTicksOf_30 : decode cX2_steadyTicksOf 30 = .ok (.iaload, 1) := by decide +kernel
theorem dX2_steadyTicksOf_31 : decode cX2_steadyTicksOf 31 = .ok (.iconst (-1), 1) := by decide +kernel
theorem dX2_steadyTicksOf_32 : decode cX2_steadyTicksOf 32 = .ok (.if_icmp .eq 58, 3) := by decide +kernel
theorem dX2_steadyTicksOf_35 : decode cX2_steadyTicksOf 35 = .ok (.aload_n 2, 1) := by decide +kernel
theorem dX2_steadyTicksOf_36 : decode cX2_steadyTicksOf 36 = .ok (.aload_n 0, 1) := by decide +kernel
theorem dX2_steadyTicksOf_37 : decode cX2_steadyTicksOf 37 = .ok (.getfield 9, 3) := by decide +kernel
theorem dX2_steadyTicksOf_40 : decode cX2_steadyTicksOf 40 = .ok (.iload_n 1, 1) := by decide +kernel
theorem dX2_steadyTicksOf_41 : decode cX2_steadyTicksOf 41 = .ok (.iaload, 1) := by decide +kernel
theorem dX2_steadyTicksOf_42 : decode cX2_steadyTicksOf 42 = .ok (.invokevirtual 95, 3) := by decide +kernel
theorem dX2_steadyTicksOf_45 : decode cX2_steadyTicksOf 45 = .ok (.istore 6, 2) := by decide +kernel
theorem dX2_steadyTicksOf_47 : decode cX2_steadyTicksOf 47 = .ok (.aload_n 0, 1) := by decide +kernel
theorem dX2_steadyTicksOf_48 : decode cX2_steadyTicksOf 48 = .ok (.getfield 44, 3) := by decide +kernel
theorem dX2_steadyTicksOf_51 : decode cX2_steadyTicksOf 51 = .ok (.iload_n 1, 1) := by decide +kernel
theorem dX2_steadyTicksOf_52 : decode cX2_steadyTicksOf 52 = .ok (.iaload, 1) := by decide +kernel
theorem dX2_steadyTicksOf_53 : decode cX2_steadyTicksOf 53 = .ok (.i2l, 1) := by decide +kernel
theorem dX2_steadyTicksOf_54 : decode cX2_steadyTicksOf 54 = .ok (.iload 6, 2) := by decide +kernel
theorem dX2_steadyTicksOf_56 : decode cX2_steadyTicksOf 56 = .ok (.i2l, 1) := by decide +kernel
theorem dX2_steadyTicksOf_57 : decode cX2_steadyTicksOf 57 = .ok (.iload 4, 2) := by decide +kernel
theorem dX2_steadyTicksOf_59 : decode cX2_steadyTicksOf 59 = .ok (.invokestatic 99, 3) := by decide +kernel
theorem dX2_steadyTicksOf_62 : decode cX2_steadyTicksOf 62 = .ok (.istore 4, 2) := by decide +kernel
theorem dX2_steadyTicksOf_64 : decode cX2_steadyTicksOf 64 = .ok (.iload 5, 2) := by decide +kernel
theorem dX2_steadyTicksOf_66 : decode cX2_steadyTicksOf 66 = .ok (.ifCond .ne 17, 3) := by decide +kernel
theorem dX2_steadyTicksOf_69 : decode cX2_steadyTicksOf 69 = .ok (.aload_n 0, 1) := by decide +kernel
theorem dX2_steadyTicksOf_70 : decode cX2_steadyTicksOf 70 = .ok (.getfield 44, 3) := by decide +kernel
theorem dX2_steadyTicksOf_73 : decode cX2_steadyTicksOf 73 = .ok (.iload_n 1, 1) := by decide +kernel
theorem dX2_steadyTicksOf_74 : decode cX2_steadyTicksOf 74 = .ok (.iaload, 1) := by decide +kernel
theorem dX2_steadyTicksOf_75 : decode cX2_steadyTicksOf 75 = .ok (.ifCond .ne 12, 3) := by decide +kernel
theorem dX2_steadyTicksOf_78 : decode cX2_steadyTicksOf 78 = .ok (.iload 6, 2) := by decide +kernel
theorem dX2_steadyTicksOf_80 : decode cX2_steadyTicksOf 80 = .ok (.ifCond .ne 7, 3) := by decide +kernel
theorem dX2_steadyTicksOf_83 : decode cX2_steadyTicksOf 83 = .ok (.iconst 1, 1) := by decide +kernel
theorem dX2_steadyTicksOf_84 : decode cX2_steadyTicksOf 84 = .ok (.goto 4, 3) := by decide +kernel
theorem dX2_steadyTicksOf_87 : decode cX2_steadyTicksOf 87 = .ok (.iconst 0, 1) := by decide +kernel
theorem dX2_steadyTicksOf_88 : decode cX2_steadyTicksOf 88 = .ok (.istore 5, 2) := by decide +kernel
theorem dX2_steadyTicksOf_90 : decode cX2_steadyTicksOf 90 = .ok (.aload_n 0, 1) := by decide +kernel
theorem dX2_steadyTicksOf_91 : decode cX2_steadyTicksOf 91 = .ok (.getfield 15, 3) := by decide +kernel
theorem dX2_steadyTicksOf_94 : decode cX2_steadyTicksOf 94 = .ok (.iload_n 1, 1) := by decide +kernel
theorem dX2_steadyTicksOf_95 : decode cX2_steadyTicksOf 95 = .ok (.iaload, 1) := by decide +kernel
theorem dX2_steadyTicksOf_96 : decode cX2_steadyTicksOf 96 = .ok (.iconst (-1), 1) := by decide +kernel
theorem dX2_steadyTicksOf_97 : decode cX2_steadyTicksOf 97 = .ok (.if_icmp .eq 59, 3) := by decide +kernel
theorem dX2_steadyTicksOf_100 : decode cX2_steadyTicksOf 100 = .ok (.aload_n 2, 1) := by decide +kernel
theorem dX2_steadyTicksOf_101 : decode cX2_steadyTicksOf 101 = .ok (.aload_n 0, 1) := by decide +kernel
theorem dX2_steadyTicksOf_102 : decode cX2_steadyTicksOf 102 = .ok (.getfield 15, 3) := by decide +kernel
theorem dX2_steadyTicksOf_105 : decode cX2_steadyTicksOf 105 = .ok (.iload_n 1, 1) := by decide +kernel
theorem dX2_steadyTicksOf_106 : decode cX2_steadyTicksOf 106 = .ok (.iaload, 1) := by decide +kernel
theorem dX2_steadyTicksOf_107 : decode cX2_steadyTicksOf 107 = .ok (.invokevirtual 95, 3) := by decide +kernel
theorem dX2_steadyTicksOf_110 : decode cX2_steadyTicksOf 110 = .ok (.istore 6, 2) := by decide +kernel
theorem dX2_steadyTicksOf_112 : decode cX2_steadyTicksOf 112 = .ok (.aload_n 0, 1) := by decide +kernel
theorem dX2_steadyTicksOf_113 : decode cX2_steadyTicksOf 113 = .ok (.getfield 47, 3) := by decide +kernel
theorem dX2_steadyTicksOf_116 : decode cX2_steadyTicksOf 116 = .ok (.iload_n 1, 1) := by decide +kernel
theorem dX2_steadyTicksOf_117 : decode cX2_steadyTicksOf 117 = .ok (.iaload, 1) := by decide +kernel
theorem dX2_steadyTicksOf_118 : decode cX2_steadyTicksOf 118 = .ok (.i2l, 1) := by decide +kernel
theorem dX2_steadyTicksOf_119 : decode cX2_steadyTicksOf 119 = .ok (.iload 6, 2) := by decide +kernel
theorem dX2_steadyTicksOf_121 : decode cX2_steadyTicksOf 121 = .ok (.ineg, 1) := by decide +kernel
theorem dX2_steadyTicksOf_122 : decode cX2_steadyTicksOf 122 = .ok (.i2l, 1) := by decide +kernel
theorem dX2_steadyTicksOf_123 : decode cX2_steadyTicksOf 123 = .ok (.iload 4, 2) := by decide +kernel
theorem dX2_steadyTicksOf_125 : decode cX2_steadyTicksOf 125 = .ok (.invokestatic 99, 3) := by decide +kernel
theorem dX2_steadyTicksOf_128 : decode cX2_steadyTicksOf 128 = .ok (.istore 4, 2) := by decide +kernel
theorem dX2_steadyTicksOf_130 : decode cX2_steadyTicksOf 130 = .ok (.iload 5, 2) := by decide +kernel
theorem dX2_steadyTicksOf_132 : decode cX2_steadyTicksOf 132 = .ok (.ifCond .ne 17, 3) := by decide +kernel
theorem dX2_steadyTicksOf_135 : decode cX2_steadyTicksOf 135 = .ok (.aload_n 0, 1) := by decide +kernel
theorem dX2_steadyTicksOf_136 : decode cX2_steadyTicksOf 136 = .ok (.getfield 47, 3) := by decide +kernel
theorem dX2_steadyTicksOf_139 : decode cX2_steadyTicksOf 139 = .ok (.iload_n 1, 1) := by decide +kernel
theorem dX2_steadyTicksOf_140 : decode cX2_steadyTicksOf 140 = .ok (.iaload, 1) := by decide +kernel
theorem dX2_steadyTicksOf_141 : decode cX2_steadyTicksOf 141 = .ok (.ifCond .ne 12, 3) := by decide +kernel
theorem dX2_steadyTicksOf_144 : decode cX2_steadyTicksOf 144 = .ok (.iload 6, 2) := by decide +kernel
theorem dX2_steadyTicksOf_146 : decode cX2_steadyTicksOf 146 = .ok (.ifCond .ne 7, 3) := by decide +kernel
theorem dX2_steadyTicksOf_149 : decode cX2_steadyTicksOf 149 = .ok (.iconst 1, 1) := by decide +kernel
theorem dX2_steadyTicksOf_150 : decode cX2_steadyTicksOf 150 = .ok (.goto 4, 3) := by decide +kernel
theorem dX2_steadyTicksOf_153 : decode cX2_steadyTicksOf 153 = .ok (.iconst 0, 1) := by decide +kernel
theorem dX2_steadyTicksOf_154 : decode cX2_steadyTicksOf 154 = .ok (.istore 5, 2) := by decide +kernel
theorem dX2_steadyTicksOf_156 : decode cX2_steadyTicksOf 156 = .ok (.iload 5, 2) := by decide +kernel
theorem dX2_steadyTicksOf_158 : decode cX2_steadyTicksOf 158 = .ok (.ifCond .eq 8, 3) := by decide +kernel
theorem dX2_steadyTicksOf_161 : decode cX2_steadyTicksOf 161 = .ok (.iload 4, 2) := by decide +kernel
theorem dX2_steadyTicksOf_163 : decode cX2_steadyTicksOf 163 = .ok (.goto 4, 3) := by decide +kernel
theorem dX2_steadyTicksOf_166 : decode cX2_steadyTicksOf 166 = .ok (.iconst 0, 1) := by decide +kernel
theorem dX2_steadyTicksOf_167 : decode cX2_steadyTicksOf 167 = .ok (.ireturn, 1) := by decide +kernel
theorem dX2_repeat_0 : decode cX2_repeat 0 = .ok (.iconst 0, 1) := by decide +kernel
theorem dX2_repeat_1 : decode cX2_repeat 1 = .ok (.istore_n 3, 1) := by decide +kernel
theorem dX2_repeat_2 : decode cX2_repeat 2 = .ok (.iload_n 3, 1) := by decide +kernel
theorem dX2_repeat_3 : decode cX2_repeat 3 = .ok (.aload_n 0, 1) := by decide +kernel
theorem dX2_repeat_4 : decode cX2_repeat 4 = .ok (.getfield 50, 3) := by decide +kernel
theorem dX2_repeat_7 : decode cX2_repeat 7 = .ok (.if_icmp .ge 24, 3) := by decide +kernel
theorem dX2_repeat_10 : decode cX2_repeat 10 = .ok (.aload_n 0, 1) := by decide +kernel
theorem dX2_repeat_11 : decode cX2_repeat 11 = .ok (.iload_n 3, 1) := by decide +kernel
theorem dX2_repeat_12 : decode cX2_repeat 12 = .ok (.aload_n 1, 1) := by decide +kernel
theorem dX2_repeat_13 : decode cX2_repeat 13 = .ok (.invokevirtual 65, 3) := by decide +kernel
theorem dX2_repeat_16 : decode cX2_repeat 16 = .ok (.ifCond .eq 9, 3) := by decide +kernel
theorem dX2_repeat_19 : decode cX2_repeat 19 = .ok (.aload_n 0, 1) := by decide +kernel
theorem dX2_repeat_20 : decode cX2_repeat 20 = .ok (.iload_n 3, 1) := by decide +kernel
theorem dX2_repeat_21 : decode cX2_repeat 21 = .ok (.iload_n 2, 1) := by decide +kernel
theorem dX2_repeat_22 : decode cX2_repeat 22 = .ok (.invokevirtual 73, 3) := by decide +kernel
theorem dX2_repeat_25 : decode cX2_repeat 25 = .ok (.iinc 3 1, 3) := by decide +kernel
theorem dX2_repeat_28 : decode cX2_repeat 28 = .ok (.goto (-26), 3) := by decide +kernel
theorem dX2_repeat_31 : decode cX2_repeat 31 = .ok (.return_, 1) := by decide +kernel
theorem dX3_init_0 : decode cX3_init 0 = .ok (.aload_n 0, 1) := by decide +kernel
theorem dX3_init_1 : decode cX3_init 1 = .ok (.invokespecial 3, 3) := by decide +kernel
theorem dX3_init_4 : decode cX3_init 4 = .ok (.aload_n 0, 1) := by decide +kernel
theorem dX3_init_5 : decode cX3_init 5 = .ok (.bipush 10, 2) := by decide +kernel
theorem dX3_init_7 : decode cX3_init 7 = .ok (.newarray .int, 2) := by decide +kernel
theorem dX3_init_9 : decode cX3_init 9 = .ok (.putfield 9, 3) := by decide +kernel
theorem dX3_init_12 : decode cX3_init 12 = .ok (.aload_n 0, 1) := by decide +kernel
theorem dX3_init_13 : decode cX3_init 13 = .ok (.bipush 10, 2) := by decide +kernel
theorem dX3_init_15 : decode cX3_init 15 = .ok (.newarray .int, 2) := by decide +kernel
theorem dX3_init_17 : decode cX3_init 17 = .ok (.putfield 15, 3) := by decide +kernel
theorem dX3_init_20 : decode cX3_init 20 = .ok (.aload_n 0, 1) := by decide +kernel
theorem dX3_init_21 : decode cX3_init 21 = .ok (.bipush 10, 2) := by decide +kernel
theorem dX3_init_23 : decode cX3_init 23 = .ok (.newarray .int, 2) := by decide +kernel
theorem dX3_init_25 : decode cX3_init 25 = .ok (.putfield 18, 3) := by decide +kernel
theorem dX3_init_28 : decode cX3_init 28 = .ok (.aload_n 0, 1) := by decide +kernel
theorem dX3_init_29 : decode cX3_init 29 = .ok (.bipush 10, 2) := by decide +kernel
theorem dX3_init_31 : decode cX3_init 31 = .ok (.newarray .boolean, 2) := by decide +kernel
theorem dX3_init_33 : decode cX3_init 33 = .ok (.putfield 21, 3) := by decide +kernel
theorem dX3_init_36 : decode cX3_init 36 = .ok (.return_, 1) := by decide +kernel
theorem dX3_append_0 : decode cX3_append 0 = .ok (.aload_n 0, 1) := by decide +kernel
theorem dX3_append_1 : decode cX3_append 1 = .ok (.getfield 25, 3) := by decide +kernel
theorem dX3_append_4 : decode cX3_append 4 = .ok (.istore 4, 2) := by decide +kernel
theorem dX3_append_6 : decode cX3_append 6 = .ok (.aload_n 0, 1) := by decide +kernel
theorem dX3_append_7 : decode cX3_append 7 = .ok (.getfield 9, 3) := by decide +kernel
theorem dX3_append_10 : decode cX3_append 10 = .ok (.iload 4, 2) := by decide +kernel
theorem dX3_append_12 : decode cX3_append 12 = .ok (.iload_n 1, 1) := by decide +kernel
theorem dX3_append_13 : decode cX3_append 13 = .ok (.iastore, 1) := by decide +kernel
theorem dX3_append_14 : decode cX3_append 14 = .ok (.aload_n 0, 1) := by decide +kernel
theorem dX3_append_15 : decode cX3_append 15 = .ok (.getfield 15, 3) := by decide +kernel
theorem dX3_append_18 : decode cX3_append 18 = .ok (.iload 4, 2) := by decide +kernel
theorem dX3_append_20 : decode cX3_append 20 = .ok (.iload_n 2, 1) := by decide +kernel
theorem dX3_append_21 : decode cX3_append 21 = .ok (.iastore, 1) := by decide +kernel
theorem dX3_append_22 : decode cX3_append 22 = .ok (.aload_n 0, 1) := by decide +kernel
theorem dX3_append_23 : decode cX3_append 23 = .ok (.getfield 18, 3) := by decide +kernel
theorem dX3_append_26 : decode cX3_append 26 = .ok (.iload 4, 2) := by decide +kernel
theorem dX3_append_28 : decode cX3_append 28 = .ok (.iload_n 3, 1) := by decide +kernel
theorem dX3_append_29 : decode cX3_append 29 = .ok (.iastore, 1) := by decide +kernel
theorem dX3_append_30 : decode cX3_append 30 = .ok (.aload_n 0, 1) := by decide +kernel
theorem dX3_append_31 : decode cX3_append 31 = .ok (.getfield 21, 3) := by decide +kernel
theorem dX3_append_34 : decode cX3_append 34 = .ok (.iload 4, 2) := by decide +kernel
theorem dX3_append_36 : decode cX3_append 36 = .ok (.iconst 0, 1) := by decide +kernel
theorem dX3_append_37 : decode cX3_append 37 = .ok (.bastore, 1) := by decide +kernel
theorem dX3_append_38 : decode cX3_append 38 = .ok (.aload_n 0, 1) := by decide +kernel
theorem dX3_append_39 : decode cX3_append 39 = .ok (.dup, 1) := by decide +kernel
theorem dX3_append_40 : decode cX3_append 40 = .ok (.getfield 25, 3) := by decide +kernel
theorem dX3_append_43 : decode cX3_append 43 = .ok (.iconst 1, 1) := by decide +kernel
theorem dX3_append_44 : decode cX3_append 44 = .ok (.iadd, 1) := by decide +kernel
theorem dX3_append_45 : decode cX3_append 45 = .ok (.putfield 25, 3) := by decide +kernel
theorem dX3_append_48 : decode cX3_append 48 = .ok (.iload 4, 2) := by decide +kernel
theorem dX3_append_50 : decode cX3_append 50 = .ok (.ireturn, 1) := by decide +kernel
theorem dX3_follow_0 : decode cX3_follow 0 = .ok (.iconst 0, 1) := by decide +kernel
theorem dX3_follow_1 : decode cX3_follow 1 = .ok (.istore 5, 2) := by decide +kernel
theorem dX3_follow_3 : decode cX3_follow 3 = .ok (.iconst 0, 1) := by decide +kernel
theorem dX3_follow_4 : decode cX3_follow 4 = .ok (.istore 6, 2) := by decide +kernel
theorem dX3_follow_6 : decode cX3_follow 6 = .ok (.iload 6, 2) := by decide +kernel
theorem dX3_follow_8 : decode cX3_follow 8 = .ok (.aload_n 0, 1) := by decide +kernel
theorem dX3_follow_9 : decode cX3_follow 9 = .ok (.getfield 25, 3) := by decide +kernel
theorem dX3_follow_12 : decode cX3_follow 12 = .ok (.if_icmp .ge 103, 3) := by decide +kernel
theorem dX3_follow_15 : decode cX3_follow 15 = .ok (.aload_n 1, 1) := by decide +kernel
theorem dX3_follow_16 : decode cX3_follow 16 = .ok (.getfield 35, 3) := by decide +kernel
theorem dX3_follow_19 : decode cX3_follow 19 = .ok (.aload_n 0, 1) := by decide +kernel
theorem dX3_follow_20 : decode cX3_follow 20 = .ok (.getfield 9, 3) := by decide +kernel
theorem dX3_follow_23 : decode cX3_follow 23 = .ok (.iload 6, 2) := by decide +kernel
theorem dX3_follow_25 : decode cX3_follow 25 = .ok (.iaload, 1) := by decide +kernel
theorem dX3_follow_26 : decode cX3_follow 26 = .ok (.iaload, 1) := by decide +kernel
theorem dX3_follow_27 : decode cX3_follow 27 = .ok (.istore 7, 2) := by decide +kernel
theorem dX3_follow_29 : decode cX3_follow 29 = .ok (.aload_n 0, 1) := by decide +kernel
theorem dX3_follow_30 : decode cX3_follow 30 = .ok (.getfield 21, 3) := by decide +kernel
theorem dX3_follow_33 : decode cX3_follow 33 = .ok (.iload 6, 2) := by decide +kernel
theorem dX3_follow_35 : decode cX3_follow 35 = .ok (.baload, 1) := by decide +kernel
theorem dX3_follow_36 : decode cX3_follow 36 = .ok (.ifCond .eq 23, 3) := by decide +kernel
theorem dX3_follow_39 : decode cX3_follow 39 = .ok (.iload 7, 2) := by decide +kernel
theorem dX3_follow_41 : decode cX3_follow 41 = .ok (.aload_n 0, 1) := by decide +kernel
theorem dX3_follow_42 : decode cX3_follow 42 = .ok (.getfield 18, 3) := by decide +kernel
theorem dX3_follow_45 : decode cX3_follow 45 = .ok (.iload 6, 2) := by decide +kernel
theorem dX3_follow_47 : decode cX3_follow 47 = .ok (.iaload, 1) := by decide +kernel
theorem dX3_follow_48 : decode cX3_follow 48 = .ok (.if_icmp .ge 7, 3) := by decide +kernel
theorem dX3_follow_51 : decode cX3_follow 51 = .ok (.iconst 1, 1) := by decide +kernel
theorem dX3_follow_52 : decode cX3_follow 52 = .ok (.goto 24, 3) := by decide +kernel
theorem dX3_follow_55 : decode cX3_follow 55 = .ok (.iconst 0, 1) := by decide +kernel
theorem dX3_follow_56 : decode cX3_follow 56 = .ok (.goto 20, 3) := by decide +kernel
theorem dX3_follow_59 : decode cX3_follow 59 = .ok (.iload 7, 2) := by decide +kernel
theorem dX3_follow_61 : decode cX3_follow 61 = .ok (.aload_n 0, 1) := by decide +kernel
theorem dX3_follow_62 : decode cX3_follow 62 = .ok (.getfield 15, 3) := by decide +kernel
theorem dX3_follow_65 : decode cX3_follow 65 = .ok (.iload 6, 2) := by decide +kernel
theorem dX3_follow_67 : decode cX3_follow 67 = .ok (.iaload, 1) := by decide +kernel
theorem dX3_follow_68 : decode cX3_follow 68 = .ok (.if_icmp .gt 7, 3) := by decide +kernel
theorem dX3_follow_71 : decode cX3_follow 71 = .ok (.iconst 1, 1) := by decide +kernel
theorem dX3_follow_72 : decode cX3_follow 72 = .ok (.goto 4, 3) := by decide +kernel
theorem dX3_follow_75 : decode cX3_follow 75 = .ok (.iconst 0, 1) := by decide +kernel
theorem dX3_follow_76 : decode cX3_follow 76 = .ok (.istore 8, 2) := by decide +kernel
theorem dX3_follow_78 : decode cX3_follow 78 = .ok (.iload 8, 2) := by decide +kernel
theorem dX3_follow_80 : decode cX3_follow 80 = .ok (.aload_n 0, 1) := by decide +kernel
theorem dX3_follow_81 : decode cX3_follow 81 = .ok (.getfield 21, 3) := by decide +kernel
theorem dX3_follow_84 : decode cX3_follow 84 = .ok (.iload 6, 2) := by decide +kernel
theorem dX3_follow_86 : decode cX3_follow 86 = .ok (.baload, 1) := by decide +kernel
theorem dX3_follow_87 : decode cX3_follow 87 = .ok (.if_icmp .eq 22, 3) := by decide +kernel
theorem dX3_follow_90 : decode cX3_follow 90 = .ok (.aload_n 0, 1) := by decide +kernel
theorem dX3_follow_91 : decode cX3_follow 91 = .ok (.getfield 21, 3) := by decide +kernel
theorem dX3_follow_94 : decode cX3_follow 94 = .ok (.iload 6, 2) := by decide +kernel
theorem dX3_follow_96 : decode cX3_follow 96 = .ok (.iload 8, 2) := by decide +kernel
theorem dX3_follow_98 : decode cX3_follow 98 = .ok (.bastore, 1) := by decide +kernel
theorem dX3_follow_99 : decode cX3_follow 99 = .ok (.aload_n 2, 1) := by decide +kernel
theorem dX3_follow_100 : decode cX3_follow 100 = .ok (.lload_n 3, 1) := by decide +kernel
theorem dX3_follow_101 : decode cX3_follow 101 = .ok (.iload 6, 2) := by decide +kernel
theorem dX3_follow_103 : decode cX3_follow 103 = .ok (.invokevirtual 40, 3) := by decide +kernel
theorem dX3_follow_106 : decode cX3_follow 106 = .ok (.iinc 5 1, 3) := by decide +kernel
theorem dX3_follow_109 : decode cX3_follow 109 = .ok (.iinc 6 1, 3) := by decide +kernel
theorem dX3_follow_112 : decode cX3_follow 112 = .ok (.goto (-106), 3) := by decide +kernel
theorem dX3_follow_115 : decode cX3_follow 115 = .ok (.iload 5, 2) := by decide +kernel
theorem dX3_follow_117 : decode cX3_follow 117 = .ok (.ireturn, 1) := by decide +kernel
theorem dX3_steadyTicks_0 : decode cX3_steadyTicks 0 = .ok (.iload_n 2, 1) := by decide +kernel
theorem dX3_steadyTicks_1 : decode cX3_steadyTicks 1 = .ok (.istore_n 3, 1) := by decide +kernel
theorem dX3_steadyTicks_2 : decode cX3_steadyTicks 2 = .ok (.iconst 0, 1) := by decide +kernel
theorem dX3_steadyTicks_3 : decode cX3_steadyTicks 3 = .ok (.istore 4, 2) := by decide +kernel
theorem dX3_steadyTicks_5 : decode cX3_steadyTicks 5 = .ok (.iload 4, 2) := by decide +kernel
theorem dX3_steadyTicks_7 : decode cX3_steadyTicks 7 = .ok (.aload_n 0, 1) := by decide +kernel
theorem dX3_steadyTicks_8 : decode cX3_steadyTicks 8 = .ok (.getfield 25, 3) := by decide +kernel
theorem dX3_steadyTicks_11 : decode cX3_steadyTicks 11 = .ok (.if_icmp .ge 95, 3) := by decide +kernel
theorem dX3_steadyTicks_14 : decode cX3_steadyTicks 14 = .ok (.iload_n 3, 1) := by decide +kernel
theorem dX3_steadyTicks_15 : decode cX3_steadyTicks 15 = .ok (.ifCond .le 91, 3) := by decide +kernel
theorem dX3_steadyTicks_18 : decode cX3_steadyTicks 18 = .ok (.aload_n 1, 1) := by decide +kernel
theorem dX3_steadyTicks_19 : decode cX3_steadyTicks 19 = .ok (.getfield 46, 3) := by decide +kernel
theorem dX3_steadyTicks_22 : decode cX3_steadyTicks 22 = .ok (.aload_n 0, 1) := by decide +kernel
theorem dX3_steadyTicks_23 : decode cX3_steadyTicks 23 = .ok (.getfield 9, 3) := by decide +kernel
theorem dX3_steadyTicks_26 : decode cX3_steadyTicks 26 = .ok (.iload 4, 2) := by decide +kernel
theorem dX3_steadyTicks_28 : decode cX3_steadyTicks 28 = .ok (.iaload, 1) := by decide +kernel
theorem dX3_steadyTicks_29 : decode cX3_steadyTicks 29 = .ok (.iaload, 1) := by decide +kernel
theorem dX3_steadyTicks_30 : decode cX3_steadyTicks 30 = .ok (.istore 5, 2) := by decide +kernel
theorem dX3_steadyTicks_32 : decode cX3_steadyTicks 32 = .ok (.aload_n 1, 1) := by decide +kernel
theorem dX3_steadyTicks_33 : decode cX3_steadyTicks 33 = .ok (.aload_n 0, 1) := by decide +kernel
theorem dX3_steadyTicks_34 : decode cX3_steadyTicks 34 = .ok (.getfield 9, 3) := by decide +kernel
theorem dX3_steadyTicks_37 : decode cX3_steadyTicks 37 = .ok (.iload 4, 2) := by decide +kernel
theorem dX3_steadyTicks_39 : decode cX3_steadyTicks 39 = .ok (.iaload, 1) := by decide +kernel
theorem dX3_steadyTicks_40 : decode cX3_steadyTicks 40 = .ok (.invokevirtual 49, 3) := by decide +kernel
theorem dX3_steadyTicks_43 : decode cX3_steadyTicks 43 = .ok (.istore 6, 2) := by decide +kernel
theorem dX3_steadyTicks_45 : decode cX3_steadyTicks 45 = .ok (.aload_n 0, 1) := by decide +kernel
theorem dX3_steadyTicks_46 : decode cX3_steadyTicks 46 = .ok (.getfield 21, 3) := by decide +kernel
theorem dX3_steadyTicks_49 : decode cX3_steadyTicks 49 = .ok (.iload 4, 2) := by decide +kernel
theorem dX3_steadyTicks_51 : decode cX3_steadyTicks 51 = .ok (.baload, 1) := by decide +kernel
theorem dX3_steadyTicks_52 : decode cX3_steadyTicks 52 = .ok (.ifCond .eq 27, 3) := by decide +kernel
theorem dX3_steadyTicks_55 : decode cX3_steadyTicks 55 = .ok (.aload_n 0, 1) := by decide +kernel
theorem dX3_steadyTicks_56 : decode cX3_steadyTicks 56 = .ok (.getfield 18, 3) := by decide +kernel
theorem dX3_steadyTicks_59 : decode cX3_steadyTicks 59 = .ok (.iload 4, 2) := by decide +kernel
theorem dX3_steadyTicks_61 : decode cX3_steadyTicks 61 = .ok (.iaload, 1) := by decide +kernel
theorem dX3_steadyTicks_62 : decode cX3_steadyTicks 62 = .ok (.iconst 1, 1) := by decide +kernel
theorem dX3_steadyTicks_63 : decode cX3_steadyTicks 63 = .ok (.isub, 1) := by decide +kernel
theorem dX3_steadyTicks_64 : decode cX3_steadyTicks 64 = .ok (.iload 5, 2) := by decide +kernel
theorem dX3_steadyTicks_66 : decode cX3_steadyTicks 66 = .ok (.isub, 1) := by decide +kernel
theorem dX3_steadyTicks_67 : decode cX3_steadyTicks 67 = .ok (.i2l, 1) := by decide +kernel
theorem dX3_steadyTicks_68 : decode cX3_steadyTicks 68 = .ok (.iload 6, 2) := by decide +kernel
theorem dX3_steadyTicks_70 : decode cX3_steadyTicks 70 = .ok (.ineg, 1) := by decide +kernel
theorem dX3_steadyTicks_71 : decode cX3_steadyTicks 71 = .ok (.i2l, 1) := by decide +kernel
theorem dX3_steadyTicks_72 : decode cX3_steadyTicks 72 = .ok (.iload_n 3, 1) := by decide +kernel
theorem dX3_steadyTicks_73 : decode cX3_steadyTicks 73 = .ok (.invokestatic 53, 3) := by decide +kernel
theorem dX3_steadyTicks_76 : decode cX3_steadyTicks 76 = .ok (.goto 23, 3) := by decide +kernel
theorem dX3_steadyTicks_79 : decode cX3_steadyTicks 79 = .ok (.iload 5, 2) := by decide +kernel
theorem dX3_steadyTicks_81 : decode cX3_steadyTicks 81 = .ok (.aload_n 0, 1) := by decide +kernel
theorem dX3_steadyTicks_82 : decode cX3_steadyTicks 82 = .ok (.getfield 15, 3) := by decide +kernel
theorem dX3_steadyTicks_85 : decode cX3_steadyTicks 85 = .ok (.iload 4, 2) := by decide +kernel
theorem dX3_steadyTicks_87 : decode cX3_steadyTicks 87 = .ok (.iaload, 1) := by decide +kernel
theorem dX3_steadyTicks_88 : decode cX3_steadyTicks 88 = .ok (.isub, 1) := by decide +kernel
theorem dX3_steadyTicks_89 : decode cX3_steadyTicks 89 = .ok (.iconst 1, 1) := by decide +kernel
theorem dX3_steadyTicks_90 : decode cX3_steadyTicks 90 = .ok (.isub, 1) := by decide +kernel
theorem dX3_steadyTicks_91 : decode cX3_steadyTicks 91 = .ok (.i2l, 1) := by decide +kernel
theorem dX3_steadyTicks_92 : decode cX3_steadyTicks 92 = .ok (.iload 6, 2) := by decide +kernel
theorem dX3_steadyTicks_94 : decode cX3_steadyTicks 94 = .ok (.i2l, 1) := by decide +kernel
theorem dX3_steadyTicks_95 : decode cX3_steadyTicks 95 = .ok (.iload_n 3, 1) := by decide +kernel
theorem dX3_steadyTicks_96 : decode cX3_steadyTicks 96 = .ok (.invokestatic 53, 3) := by decide +kernel
theorem dX3_steadyTicks_99 : decode cX3_steadyTicks 99 = .ok (.istore_n 3, 1) := by decide +kernel
theorem dX3_steadyTicks_100 : decode cX3_steadyTicks 100 = .ok (.iinc 4 1, 3) := by decide +kernel
theorem dX3_steadyTicks_103 : decode cX3_steadyTicks 103 = .ok (.goto (-98), 3) := by decide +kernel
theorem dX3_steadyTicks_106 : decode cX3_steadyTicks 106 = .ok (.iload_n 3, 1) := by decide +kernel
theorem dX3_steadyTicks_107 : decode cX3_steadyTicks 107 = .ok (.ireturn, 1) := by decide +kernel
theorem dX4_init_0 : decode cX4_init 0 = .ok (.aload_n 0, 1) := by decide +kernel
theorem dX4_init_1 : decode cX4_init 1 = .ok (.invokespecial 3, 3) := by decide +kernel
theorem dX4_init_4 : decode cX4_init 4 = .ok (.aload_n 0, 1) := by decide +kernel
theorem dX4_init_5 : decode cX4_init 5 = .ok (.bipush 8, 2) := by decide +kernel
theorem dX4_init_7 : decode cX4_init 7 = .ok (.newarray .int, 2) := by decide +kernel
theorem dX4_init_9 : decode cX4_init 9 = .ok (.putfield 9, 3) := by decide +kernel
theorem dX4_init_12 : decode cX4_init 12 = .ok (.aload_n 0, 1) := by decide +kernel
theorem dX4_init_13 : decode cX4_init 13 = .ok (.bipush 8, 2) := by decide +kernel
theorem dX4_init_15 : decode cX4_init 15 = .ok (.newarray .int, 2) := by decide +kernel
theorem dX4_init_17 : decode cX4_init 17 = .ok (.putfield 15, 3) := by decide +kernel
theorem dX4_init_20 : decode cX4_init 20 = .ok (.aload_n 0, 1) := by decide +kernel
theorem dX4_init_21 : decode cX4_init 21 = .ok (.bipush 8, 2) := by decide +kernel
theorem dX4_init_23 : decode cX4_init 23 = .ok (.newarray .int, 2) := by decide +kernel
theorem dX4_init_25 : decode cX4_init 25 = .ok (.putfield 18, 3) := by decide +kernel
theorem dX4_init_28 : decode cX4_init 28 = .ok (.aload_n 0, 1) := by decide +kernel
theorem dX4_init_29 : decode cX4_init 29 = .ok (.bipush 8, 2) := by decide +kernel
theorem dX4_init_31 : decode cX4_init 31 = .ok (.newarray .long, 2) := by decide +kernel
theorem dX4_init_33 : decode cX4_init 33 = .ok (.putfield 21, 3) := by decide +kernel
theorem dX4_init_36 : decode cX4_init 36 = .ok (.aload_n 0, 1) := by decide +kernel
theorem dX4_init_37 : decode cX4_init 37 = .ok (.bipush 8, 2) := by decide +kernel
theorem dX4_init_39 : decode cX4_init 39 = .ok (.newarray .int, 2) := by decide +kernel
theorem dX4_init_41 : decode cX4_init 41 = .ok (.putfield 25, 3) := by decide +kernel
theorem dX4_init_44 : decode cX4_init 44 = .ok (.return_, 1) := by decide +kernel
theorem dX4_append_0 : decode cX4_append 0 = .ok (.aload_n 0, 1) := by decide +kernel
theorem dX4_append_1 : decode cX4_append 1 = .ok (.getfield 28, 3) := by decide +kernel
theorem dX4_append_4 : decode cX4_append 4 = .ok (.istore 4, 2) := by decide +kernel
theorem dX4_append_6 : decode cX4_append 6 = .ok (.aload_n 0, 1) := by decide +kernel
theorem dX4_append_7 : decode cX4_append 7 = .ok (.getfield 9, 3) := by decide +kernel
theorem dX4_append_10 : decode cX4_append 10 = .ok (.iload 4, 2) := by decide +kernel
theorem dX4_append_12 : decode cX4_append 12 = .ok (.iload_n 1, 1) := by decide +kernel
theorem dX4_append_13 : decode cX4_append 13 = .ok (.iastore, 1) := by decide +kernel
theorem dX4_append_14 : decode cX4_append 14 = .ok (.aload_n 0, 1) := by decide +kernel
theorem dX4_append_15 : decode cX4_append 15 = .ok (.getfield 15, 3) := by decide +kernel
theorem dX4_append_18 : decode cX4_append 18 = .ok (.iload 4, 2) := by decide +kernel
theorem dX4_append_20 : decode cX4_append 20 = .ok (.iload_n 2, 1) := by decide +kernel
theorem dX4_append_21 : decode cX4_append 21 = .ok (.iastore, 1) := by decide +kernel
theorem dX4_append_22 : decode cX4_append 22 = .ok (.aload_n 0, 1) := by decide +kernel
theorem dX4_append_23 : decode cX4_append 23 = .ok (.getfield 18, 3) := by decide +kernel
theorem dX4_append_26 : decode cX4_append 26 = .ok (.iload 4, 2) := by decide +kernel
theorem dX4_append_28 : decode cX4_append 28 = .ok (.iload_n 3, 1) := by decide +kernel
theorem dX4_append_29 : decode cX4_append 29 = .ok (.iastore, 1) := by decide +kernel
theorem dX4_append_30 : decode cX4_append 30 = .ok (.aload_n 0, 1) := by decide +kernel
theorem dX4_append_31 : decode cX4_append 31 = .ok (.getfield 21, 3) := by decide +kernel
theorem dX4_append_34 : decode cX4_append 34 = .ok (.iload 4, 2) := by decide +kernel
theorem dX4_append_36 : decode cX4_append 36 = .ok (.lconst 0, 1) := by decide +kernel
theorem dX4_append_37 : decode cX4_append 37 = .ok (.lastore, 1) := by decide +kernel
theorem dX4_append_38 : decode cX4_append 38 = .ok (.aload_n 0, 1) := by decide +kernel
theorem dX4_append_39 : decode cX4_append 39 = .ok (.dup, 1) := by decide +kernel
theorem dX4_append_40 : decode cX4_append 40 = .ok (.getfield 28, 3) := by decide +kernel
theorem dX4_append_43 : decode cX4_append 43 = .ok (.iconst 1, 1) := by decide +kernel
theorem dX4_append_44 : decode cX4_append 44 = .ok (.iadd, 1) := by decide +kernel
theorem dX4_append_45 : decode cX4_append 45 = .ok (.putfield 28, 3) := by decide +kernel
theorem dX4_append_48 : decode cX4_append 48 = .ok (.iload 4, 2) := by decide +kernel
theorem dX4_append_50 : decode cX4_append 50 = .ok (.ireturn, 1) := by decide +kernel
theorem dX4_noteLevels_0 : decode cX4_noteLevels 0 = .ok (.aload_n 0, 1) := by decide +kernel
theorem dX4_noteLevels_1 : decode cX4_noteLevels 1 = .ok (.getfield 15, 3) := by decide +kernel
theorem dX4_noteLevels_4 : decode cX4_noteLevels 4 = .ok (.iconst 0, 1) := by decide +kernel
theorem dX4_noteLevels_5 : decode cX4_noteLevels 5 = .ok (.aload_n 0, 1) := by decide +kernel
theorem dX4_noteLevels_6 : decode cX4_noteLevels 6 = .ok (.getfield 25, 3) := by decide +kernel
theorem dX4_noteLevels_9 : decode cX4_noteLevels 9 = .ok (.iconst 0, 1) := by decide +kernel
theorem dX4_noteLevels_10 : decode cX4_noteLevels 10 = .ok (.bipush 8, 2) := by decide +kernel
theorem dX4_noteLevels_12 : decode cX4_noteLevels 12 = .ok (.invokestatic 32, 3) := by decide +kernel
theorem dX4_noteLevels_15 : decode cX4_noteLevels 15 = .ok (.return_, 1) := by decide +kernel
theorem dX4_leakAndSum_0 : decode cX4_leakAndSum 0 = .ok (.iconst 0, 1) := by decide +kernel
theorem dX4_leakAndSum_1 : decode cX4_leakAndSum 1 = .ok (.istore_n 1, 1) := by decide +kernel
theorem dX4_leakAndSum_2 : decode cX4_leakAndSum 2 = .ok (.iload_n 1, 1) := by decide +kernel
theorem dX4_leakAndSum_3 : decode cX4_leakAndSum 3 = .ok (.aload_n 0, 1) := by decide +kernel
theorem dX4_leakAndSum_4 : decode cX4_leakAndSum 4 = .ok (.getfield 28, 3) := by decide +kernel
theorem dX4_leakAndSum_7 : decode cX4_leakAndSum 7 = .ok (.if_icmp .ge 49, 3) := by decide +kernel
theorem dX4_leakAndSum_10 : decode cX4_leakAndSum 10 = .ok (.aload_n 0, 1) := by decide +kernel
theorem dX4_leakAndSum_11 : decode cX4_leakAndSum 11 = .ok (.getfield 15, 3) := by decide +kernel
theorem dX4_leakAndSum_14 : decode cX4_leakAndSum 14 = .ok (.iload_n 1, 1) := by decide +kernel
theorem dX4_leakAndSum_15 : decode cX4_leakAndSum 15 = .ok (.dup2, 1) := by decide +kernel
theorem dX4_leakAndSum_16 : decode cX4_leakAndSum 16 = .ok (.iaload, 1) := by decide +kernel
theorem dX4_leakAndSum_17 : decode cX4_leakAndSum 17 = .ok (.aload_n 0, 1) := by decide +kernel
theorem dX4_leakAndSum_18 : decode cX4_leakAndSum 18 = .ok (.getfield 18, 3) := by decide +kernel
theorem dX4_leakAndSum_21 : decode cX4_leakAndSum 21 = .ok (.iload_n 1, 1) := by decide +kernel
theorem dX4_leakAndSum_22 : decode cX4_leakAndSum 22 = .ok (.iaload, 1) := by decide +kernel
theorem dX4_leakAndSum_23 : decode cX4_leakAndSum 23 = .ok (.aload_n 0, 1) := by decide +kernel
theorem dX4_leakAndSum_24 : decode cX4_leakAndSum 24 = .ok (.getfield 15, 3) := by decide +kernel
theorem dX4_leakAndSum_27 : decode cX4_leakAndSum 27 = .ok (.iload_n 1, 1) := by decide +kernel
theorem dX4_leakAndSum_28 : decode cX4_leakAndSum 28 = .ok (.iaload, 1) := by decide +kernel
theorem dX4_leakAndSum_29 : decode cX4_leakAndSum 29 = .ok (.invokestatic 38, 3) := by decide +kernel
theorem dX4_leakAndSum_32 : decode cX4_leakAndSum 32 = .ok (.isub, 1) := by decide +kernel
theorem dX4_leakAndSum_33 : decode cX4_leakAndSum 33 = .ok (.iastore, 1) := by decide +kernel
theorem dX4_leakAndSum_34 : decode cX4_leakAndSum 34 = .ok (.aload_n 0, 1) := by decide +kernel
theorem dX4_leakAndSum_35 : decode cX4_leakAndSum 35 = .ok (.getfield 21, 3) := by decide +kernel
theorem dX4_leakAndSum_38 : decode cX4_leakAndSum 38 = .ok (.iload_n 1, 1) := by decide +kernel
theorem dX4_leakAndSum_39 : decode cX4_leakAndSum 39 = .ok (.dup2, 1) := by decide +kernel
theorem dX4_leakAndSum_40 : decode cX4_leakAndSum 40 = .ok (.laload, 1) := by decide +kernel
theorem dX4_leakAndSum_41 : decode cX4_leakAndSum 41 = .ok (.aload_n 0, 1) := by decide +kernel
theorem dX4_leakAndSum_42 : decode cX4_leakAndSum 42 = .ok (.getfield 15, 3) := by decide +kernel
theorem dX4_leakAndSum_45 : decode cX4_leakAndSum 45 = .ok (.iload_n 1, 1) := by decide +kernel
theorem dX4_leakAndSum_46 : decode cX4_leakAndSum 46 = .ok (.iaload, 1) := by decide +kernel
theorem dX4_leakAndSum_47 : decode cX4_leakAndSum 47 = .ok (.i2l, 1) := by decide +kernel
theorem dX4_leakAndSum_48 : decode cX4_leakAndSum 48 = .ok (.ladd, 1) := by decide +kernel
theorem dX4_leakAndSum_49 : decode cX4_leakAndSum 49 = .ok (.lastore, 1) := by decide +kernel
theorem dX4_leakAndSum_50 : decode cX4_leakAndSum 50 = .ok (.iinc 1 1, 3) := by decide +kernel
theorem dX4_leakAndSum_53 : decode cX4_leakAndSum 53 = .ok (.goto (-51), 3) := by decide +kernel
theorem dX4_leakAndSum_56 : decode cX4_leakAndSum 56 = .ok (.return_, 1) := by decide +kernel
theorem dX4_drift_0 : decode cX4_drift 0 = .ok (.aload_n 0, 1) := by decide +kernel
theorem dX4_drift_1 : decode cX4_drift 1 = .ok (.getfield 15, 3) := by decide +kernel
theorem dX4_drift_4 : decode cX4_drift 4 = .ok (.iload_n 1, 1) := by decide +kernel
theorem dX4_drift_5 : decode cX4_drift 5 = .ok (.iaload, 1) := by decide +kernel
theorem dX4_drift_6 : decode cX4_drift 6 = .ok (.aload_n 0, 1) := by decide +kernel
theorem dX4_drift_7 : decode cX4_drift 7 = .ok (.getfield 25, 3) := by decide +kernel
theorem dX4_drift_10 : decode cX4_drift 10 = .ok (.iload_n 1, 1) := by decide +kernel
theorem dX4_drift_11 : decode cX4_drift 11 = .ok (.iaload, 1) := by decide +kernel
theorem dX4_drift_12 : decode cX4_drift 12 = .ok (.isub, 1) := by decide +kernel
theorem dX4_drift_13 : decode cX4_drift 13 = .ok (.ireturn, 1) := by decide +kernel
theorem dX4_steadyTicks_0 : decode cX4_steadyTicks 0 = .ok (.iload_n 1, 1) := by decide +kernel
theorem dX4_steadyTicks_1 : decode cX4_steadyTicks 1 = .ok (.istore_n 2, 1) := by decide +kernel
theorem dX4_steadyTicks_2 : decode cX4_steadyTicks 2 = .ok (.iconst 0, 1) := by decide +kernel
theorem dX4_steadyTicks_3 : decode cX4_steadyTicks 3 = .ok (.istore_n 3, 1) := by decide +kernel
theorem dX4_steadyTicks_4 : decode cX4_steadyTicks 4 = .ok (.iload_n 3, 1) := by decide +kernel
theorem dX4_steadyTicks_5 : decode cX4_steadyTicks 5 = .ok (.aload_n 0, 1) := by decide +kernel
theorem dX4_steadyTicks_6 : decode cX4_steadyTicks 6 = .ok (.getfield 28, 3) := by decide +kernel
theorem dX4_steadyTicks_9 : decode cX4_steadyTicks 9 = .ok (.if_icmp .ge 31, 3) := by decide +kernel
theorem dX4_steadyTicks_12 : decode cX4_steadyTicks 12 = .ok (.iload_n 2, 1) := by decide +kernel
theorem dX4_steadyTicks_13 : decode cX4_steadyTicks 13 = .ok (.ifCond .le 27, 3) := by decide +kernel
theorem dX4_steadyTicks_16 : decode cX4_steadyTicks 16 = .ok (.aload_n 0, 1) := by decide +kernel
theorem dX4_steadyTicks_17 : decode cX4_steadyTicks 17 = .ok (.getfield 15, 3) := by decide +kernel
theorem dX4_steadyTicks_20 : decode cX4_steadyTicks 20 = .ok (.iload_n 3, 1) := by decide +kernel
theorem dX4_steadyTicks_21 : decode cX4_steadyTicks 21 = .ok (.iaload, 1) := by decide +kernel
theorem dX4_steadyTicks_22 : decode cX4_steadyTicks 22 = .ok (.i2l, 1) := by decide +kernel
theorem dX4_steadyTicks_23 : decode cX4_steadyTicks 23 = .ok (.aload_n 0, 1) := by decide +kernel
theorem dX4_steadyTicks_24 : decode cX4_steadyTicks 24 = .ok (.iload_n 3, 1) := by decide +kernel
theorem dX4_steadyTicks_25 : decode cX4_steadyTicks 25 = .ok (.invokevirtual 44, 3) := by decide +kernel
theorem dX4_steadyTicks_28 : decode cX4_steadyTicks 28 = .ok (.i2l, 1) := by decide +kernel
theorem dX4_steadyTicks_29 : decode cX4_steadyTicks 29 = .ok (.iload_n 2, 1) := by decide +kernel
theorem dX4_steadyTicks_30 : decode cX4_steadyTicks 30 = .ok (.invokestatic 48, 3) := by decide +kernel
theorem dX4_steadyTicks_33 : decode cX4_steadyTicks 33 = .ok (.istore_n 2, 1) := by decide +kernel
theorem dX4_steadyTicks_34 : decode cX4_steadyTicks 34 = .ok (.iinc 3 1, 3) := by decide +kernel
theorem dX4_steadyTicks_37 : decode cX4_steadyTicks 37 = .ok (.goto (-33), 3) := by decide +kernel
theorem dX4_steadyTicks_40 : decode cX4_steadyTicks 40 = .ok (.iload_n 2, 1) := by decide +kernel
theorem dX4_steadyTicks_41 : decode cX4_steadyTicks 41 = .ok (.ireturn, 1) := by decide +kernel
theorem dX4_repeat_0 : decode cX4_repeat 0 = .ok (.iload_n 1, 1) := by decide +kernel
theorem dX4_repeat_1 : decode cX4_repeat 1 = .ok (.i2l, 1) := by decide +kernel
theorem dX4_repeat_2 : decode cX4_repeat 2 = .ok (.iload_n 1, 1) := by decide +kernel
theorem dX4_repeat_3 : decode cX4_repeat 3 = .ok (.iconst 1, 1) := by decide +kernel
theorem dX4_repeat_4 : decode cX4_repeat 4 = .ok (.iadd, 1) := by decide +kernel
theorem dX4_repeat_5 : decode cX4_repeat 5 = .ok (.i2l, 1) := by decide +kernel
theorem dX4_repeat_6 : decode cX4_repeat 6 = .ok (.lmul, 1) := by decide +kernel
theorem dX4_repeat_7 : decode cX4_repeat 7 = .ok (.ldc2_w 52, 3) := by decide +kernel
theorem dX4_repeat_10 : decode cX4_repeat 10 = .ok (.ldiv, 1) := by decide +kernel
theorem dX4_repeat_11 : decode cX4_repeat 11 = .ok (.lstore_n 2, 1) := by decide +kernel
theorem dX4_repeat_12 : decode cX4_repeat 12 = .ok (.iconst 0, 1) := by decide +kernel
theorem dX4_repeat_13 : decode cX4_repeat 13 = .ok (.istore 4, 2) := by decide +kernel
theorem dX4_repeat_15 : decode cX4_repeat 15 = .ok (.iload 4, 2) := by decide +kernel
theorem dX4_repeat_17 : decode cX4_repeat 17 = .ok (.aload_n 0, 1) := by decide +kernel
theorem dX4_repeat_18 : decode cX4_repeat 18 = .ok (.getfield 28, 3) := by decide +kernel
theorem dX4_repeat_21 : decode cX4_repeat 21 = .ok (.if_icmp .ge 58, 3) := by decide +kernel
theorem dX4_repeat_24 : decode cX4_repeat 24 = .ok (.aload_n 0, 1) := by decide +kernel
theorem dX4_repeat_25 : decode cX4_repeat 25 = .ok (.iload 4, 2) := by decide +kernel
theorem dX4_repeat_27 : decode cX4_repeat 27 = .ok (.invokevirtual 44, 3) := by decide +kernel
theorem dX4_repeat_30 : decode cX4_repeat 30 = .ok (.istore 5, 2) := by decide +kernel
theorem dX4_repeat_32 : decode cX4_repeat 32 = .ok (.aload_n 0, 1) := by decide +kernel
theorem dX4_repeat_33 : decode cX4_repeat 33 = .ok (.getfield 21, 3) := by decide +kernel
theorem dX4_repeat_36 : decode cX4_repeat 36 = .ok (.iload 4, 2) := by decide +kernel
theorem dX4_repeat_38 : decode cX4_repeat 38 = .ok (.dup2, 1) := by decide +kernel
theorem dX4_repeat_39 : decode cX4_repeat 39 = .ok (.laload, 1) := by decide +kernel
theorem dX4_repeat_40 : decode cX4_repeat 40 = .ok (.aload_n 0, 1) := by decide +kernel
theorem dX4_repeat_41 : decode cX4_repeat 41 = .ok (.getfield 15, 3) := by decide +kernel
theorem dX4_repeat_44 : decode cX4_repeat 44 = .ok (.iload 4, 2) := by decide +kernel
theorem dX4_repeat_46 : decode cX4_repeat 46 = .ok (.iaload, 1) := by decide +kernel
theorem dX4_repeat_47 : decode cX4_repeat 47 = .ok (.i2l, 1) := by decide +kernel
theorem dX4_repeat_48 : decode cX4_repeat 48 = .ok (.iload_n 1, 1) := by decide +kernel
theorem dX4_repeat_49 : decode cX4_repeat 49 = .ok (.i2l, 1) := by decide +kernel
theorem dX4_repeat_50 : decode cX4_repeat 50 = .ok (.lmul, 1) := by decide +kernel
theorem dX4_repeat_51 : decode cX4_repeat 51 = .ok (.iload 5, 2) := by decide +kernel
theorem dX4_repeat_53 : decode cX4_repeat 53 = .ok (.i2l, 1) := by decide +kernel
theorem dX4_repeat_54 : decode cX4_repeat 54 = .ok (.lload_n 2, 1) := by decide +kernel
theorem dX4_repeat_55 : decode cX4_repeat 55 = .ok (.lmul, 1) := by decide +kernel
theorem dX4_repeat_56 : decode cX4_repeat 56 = .ok (.ladd, 1) := by decide +kernel
theorem dX4_repeat_57 : decode cX4_repeat 57 = .ok (.ladd, 1) := by decide +kernel
theorem dX4_repeat_58 : decode cX4_repeat 58 = .ok (.lastore, 1) := by decide +kernel
theorem dX4_repeat_59 : decode cX4_repeat 59 = .ok (.aload_n 0, 1) := by decide +kernel
theorem dX4_repeat_60 : decode cX4_repeat 60 = .ok (.getfield 15, 3) := by decide +kernel
theorem dX4_repeat_63 : decode cX4_repeat 63 = .ok (.iload 4, 2) := by decide +kernel
theorem dX4_repeat_65 : decode cX4_repeat 65 = .ok (.dup2, 1) := by decide +kernel
theorem dX4_repeat_66 : decode cX4_repeat 66 = .ok (.iaload, 1) := by decide +kernel
theorem dX4_repeat_67 : decode cX4_repeat 67 = .ok (.iload 5, 2) := by decide +kernel
theorem dX4_repeat_69 : decode cX4_repeat 69 = .ok (.iload_n 1, 1) := by decide +kernel
theorem dX4_repeat_70 : decode cX4_repeat 70 = .ok (.imul, 1) := by decide +kernel
theorem dX4_repeat_71 : decode cX4_repeat 71 = .ok (.iadd, 1) := by decide +kernel
theorem dX4_repeat_72 : decode cX4_repeat 72 = .ok (.iastore, 1) := by decide +kernel
theorem dX4_repeat_73 : decode cX4_repeat 73 = .ok (.iinc 4 1, 3) := by decide +kernel
theorem dX4_repeat_76 : decode cX4_repeat 76 = .ok (.goto (-61), 3) := by decide +kernel
theorem dX4_repeat_79 : decode cX4_repeat 79 = .ok (.return_, 1) := by decide +kernel
theorem dX5_init_0 : decode cX5_init 0 = .ok (.aload_n 0, 1) := by decide +kernel
theorem dX5_init_1 : decode cX5_init 1 = .ok (.invokespecial 1, 3) := by decide +kernel
theorem dX5_init_4 : decode cX5_init 4 = .ok (.aload_n 0, 1) := by decide +kernel
theorem dX5_init_5 : decode cX5_init 5 = .ok (.new 7, 3) := by decide +kernel
theorem dX5_init_8 : decode cX5_init 8 = .ok (.dup, 1) := by decide +kernel
theorem dX5_init_9 : decode cX5_init 9 = .ok (.invokespecial 9, 3) := by decide +kernel
theorem dX5_init_12 : decode cX5_init 12 = .ok (.putfield 10, 3) := by decide +kernel
theorem dX5_init_15 : decode cX5_init 15 = .ok (.aload_n 0, 1) := by decide +kernel
theorem dX5_init_16 : decode cX5_init 16 = .ok (.new 7, 3) := by decide +kernel
theorem dX5_init_19 : decode cX5_init 19 = .ok (.dup, 1) := by decide +kernel
theorem dX5_init_20 : decode cX5_init 20 = .ok (.invokespecial 9, 3) := by decide +kernel
theorem dX5_init_23 : decode cX5_init 23 = .ok (.putfield 16, 3) := by decide +kernel
theorem dX5_init_26 : decode cX5_init 26 = .ok (.aload_n 0, 1) := by decide +kernel
theorem dX5_init_27 : decode cX5_init 27 = .ok (.iconst 4, 1) := by decide +kernel
theorem dX5_init_28 : decode cX5_init 28 = .ok (.anewarray 7, 3) := by decide +kernel
theorem dX5_init_31 : decode cX5_init 31 = .ok (.putfield 19, 3) := by decide +kernel
theorem dX5_init_34 : decode cX5_init 34 = .ok (.aload_n 0, 1) := by decide +kernel
theorem dX5_init_35 : decode cX5_init 35 = .ok (.iconst 0, 1) := by decide +kernel
theorem dX5_init_36 : decode cX5_init 36 = .ok (.putfield 23, 3) := by decide +kernel
theorem dX5_init_39 : decode cX5_init 39 = .ok (.return_, 1) := by decide +kernel
theorem dX5_addTank_0 : decode cX5_addTank 0 = .ok (.iload_n 1, 1) := by decide +kernel
theorem dX5_addTank_1 : decode cX5_addTank 1 = .ok (.iconst 1, 1) := by decide +kernel
theorem dX5_addTank_2 : decode cX5_addTank 2 = .ok (.ldc 27, 2) := by decide +kernel
theorem dX5_addTank_4 : decode cX5_addTank 4 = .ok (.invokestatic 28, 3) := by decide +kernel
theorem dX5_addTank_7 : decode cX5_addTank 7 = .ok (.ifCond .ne 13, 3) := by decide +kernel
theorem dX5_addTank_10 : decode cX5_addTank 10 = .ok (.new 32, 3) := by decide +kernel
theorem dX5_addTank_13 : decode cX5_addTank 13 = .ok (.dup, 1) := by decide +kernel
theorem dX5_addTank_14 : decode cX5_addTank 14 = .ok (.ldc 34, 2) := by decide +kernel
theorem dX5_addTank_16 : decode cX5_addTank 16 = .ok (.invokespecial 36, 3) := by decide +kernel
theorem dX5_addTank_19 : decode cX5_addTank 19 = .ok (.athrow, 1) := by decide +kernel
theorem dX5_addTank_20 : decode cX5_addTank 20 = .ok (.iload_n 2, 1) := by decide +kernel
theorem dX5_addTank_21 : decode cX5_addTank 21 = .ok (.iload_n 1, 1) := by decide +kernel
theorem dX5_addTank_22 : decode cX5_addTank 22 = .ok (.invokestatic 39, 3) := by decide +kernel
theorem dX5_addTank_25 : decode cX5_addTank 25 = .ok (.iload_n 3, 1) := by decide +kernel
theorem dX5_addTank_26 : decode cX5_addTank 26 = .ok (.invokestatic 43, 3) := by decide +kernel
theorem dX5_addTank_29 : decode cX5_addTank 29 = .ok (.aload_n 0, 1) := by decide +kernel
theorem dX5_addTank_30 : decode cX5_addTank 30 = .ok (.getfield 10, 3) := by decide +kernel
theorem dX5_addTank_33 : decode cX5_addTank 33 = .ok (.getfield 47, 3) := by decide +kernel
theorem dX5_addTank_36 : decode cX5_addTank 36 = .ok (.getfield 51, 3) := by decide +kernel
theorem dX5_addTank_39 : decode cX5_addTank 39 = .ok (.bipush 8, 2) := by decide +kernel
theorem dX5_addTank_41 : decode cX5_addTank 41 = .ok (.if_icmp .lt 13, 3) := by decide +kernel
theorem dX5_addTank_44 : decode cX5_addTank 44 = .ok (.new 56, 3) := by decide +kernel
theorem dX5_addTank_47 : decode cX5_addTank 47 = .ok (.dup, 1) := by decide +kernel
theorem dX5_addTank_48 : decode cX5_addTank 48 = .ok (.ldc 58, 2) := by decide +kernel
theorem dX5_addTank_50 : decode cX5_addTank 50 = .ok (.invokespecial 60, 3) := by decide +kernel
theorem dX5_addTank_53 : decode cX5_addTank 53 = .ok (.athrow, 1) := by decide +kernel
theorem dX5_addTank_54 : decode cX5_addTank 54 = .ok (.aload_n 0, 1) := by decide +kernel
theorem dX5_addTank_55 : decode cX5_addTank 55 = .ok (.getfield 10, 3) := by decide +kernel
theorem dX5_addTank_58 : decode cX5_addTank 58 = .ok (.getfield 47, 3) := by decide +kernel
theorem dX5_addTank_61 : decode cX5_addTank 61 = .ok (.iload_n 1, 1) := by decide +kernel
theorem dX5_addTank_62 : decode cX5_addTank 62 = .ok (.iload_n 2, 1) := by decide +kernel
theorem dX5_addTank_63 : decode cX5_addTank 63 = .ok (.iload_n 3, 1) := by decide +kernel
theorem dX5_addTank_64 : decode cX5_addTank 64 = .ok (.invokevirtual 61, 3) := by decide +kernel
theorem dX5_addTank_67 : decode cX5_addTank 67 = .ok (.ireturn, 1) := by decide +kernel
theorem dX5_addSwitch_0 : decode cX5_addSwitch 0 = .ok (.aload_n 0, 1) := by decide +kernel
theorem dX5_addSwitch_1 : decode cX5_addSwitch 1 = .ok (.iload_n 1, 1) := by decide +kernel
theorem dX5_addSwitch_2 : decode cX5_addSwitch 2 = .ok (.invokevirtual 65, 3) := by decide +kernel
theorem dX5_addSwitch_5 : decode cX5_addSwitch 5 = .ok (.iload_n 2, 1) := by decide +kernel
theorem dX5_addSwitch_6 : decode cX5_addSwitch 6 = .ok (.ifCond .lt 24, 3) := by decide +kernel
theorem dX5_addSwitch_9 : decode cX5_addSwitch 9 = .ok (.iload_n 2, 1) := by decide +kernel
theorem dX5_addSwitch_10 : decode cX5_addSwitch 10 = .ok (.iload_n 3, 1) := by decide +kernel
theorem dX5_addSwitch_11 : decode cX5_addSwitch 11 = .ok (.if_icmp .ge 19, 3) := by decide +kernel
theorem dX5_addSwitch_14 : decode cX5_addSwitch 14 = .ok (.iload_n 3, 1) := by decide +kernel
theorem dX5_addSwitch_15 : decode cX5_addSwitch 15 = .ok (.aload_n 0, 1) := by decide +kernel
theorem dX5_addSwitch_16 : decode cX5_addSwitch 16 = .ok (.getfield 10, 3) := by decide +kernel
theorem dX5_addSwitch_19 : decode cX5_addSwitch 19 = .ok (.getfield 47, 3) := by decide +kernel
theorem dX5_addSwitch_22 : decode cX5_addSwitch 22 = .ok (.getfield 68, 3) := by decide +kernel
theorem dX5_addSwitch_25 : decode cX5_addSwitch 25 = .ok (.iload_n 1, 1) := by decide +kernel
theorem dX5_addSwitch_26 : decode cX5_addSwitch 26 = .ok (.iaload, 1) := by decide +kernel
theorem dX5_addSwitch_27 : decode cX5_addSwitch 27 = .ok (.if_icmp .le 13, 3) := by decide +kernel
theorem dX5_addSwitch_30 : decode cX5_addSwitch 30 = .ok (.new 32, 3) := by decide +kernel
theorem dX5_addSwitch_33 : decode cX5_addSwitch 33 = .ok (.dup, 1) := by decide +kernel
theorem dX5_addSwitch_34 : decode cX5_addSwitch 34 = .ok (.ldc 72, 2) := by decide +kernel
theorem dX5_addSwitch_36 : decode cX5_addSwitch 36 = .ok (.invokespecial 36, 3) := by decide +kernel
theorem dX5_addSwitch_39 : decode cX5_addSwitch 39 = .ok (.athrow, 1) := by decide +kernel
theorem dX5_addSwitch_40 : decode cX5_addSwitch 40 = .ok (.aload_n 0, 1) := by decide +kernel
theorem dX5_addSwitch_41 : decode cX5_addSwitch 41 = .ok (.getfield 10, 3) := by decide +kernel
theorem dX5_addSwitch_44 : decode cX5_addSwitch 44 = .ok (.getfield 74, 3) := by decide +kernel
theorem dX5_addSwitch_47 : decode cX5_addSwitch 47 = .ok (.getfield 78, 3) := by decide +kernel
theorem dX5_addSwitch_50 : decode cX5_addSwitch 50 = .ok (.bipush 10, 2) := by decide +kernel
theorem dX5_addSwitch_52 : decode cX5_addSwitch 52 = .ok (.if_icmp .lt 13, 3) := by decide +kernel
theorem dX5_addSwitch_55 : decode cX5_addSwitch 55 = .ok (.new 56, 3) := by decide +kernel
theorem dX5_addSwitch_58 : decode cX5_addSwitch 58 = .ok (.dup, 1) := by decide +kernel
theorem dX5_addSwitch_59 : decode cX5_addSwitch 59 = .ok (.ldc 81, 2) := by decide +kernel
theorem dX5_addSwitch_61 : decode cX5_addSwitch 61 = .ok (.invokespecial 60, 3) := by decide +kernel
theorem dX5_addSwitch_64 : decode cX5_addSwitch 64 = .ok (.athrow, 1) := by decide +kernel
theorem dX5_addSwitch_65 : decode cX5_addSwitch 65 = .ok (.aload_n 0, 1) := by decide +kernel
theorem dX5_addSwitch_66 : decode cX5_addSwitch 66 = .ok (.getfield 10, 3) := by decide +kernel
theorem dX5_addSwitch_69 : decode cX5_addSwitch 69 = .ok (.getfield 74, 3) := by decide +kernel
theorem dX5_addSwitch_72 : decode cX5_addSwitch 72 = .ok (.iload_n 1, 1) := by decide +kernel
theorem dX5_addSwitch_73 : decode cX5_addSwitch 73 = .ok (.iload_n 2, 1) := by decide +kernel
theorem dX5_addSwitch_74 : decode cX5_addSwitch 74 = .ok (.iload_n 3, 1) := by decide +kernel
theorem dX5_addSwitch_75 : decode cX5_addSwitch 75 = .ok (.invokevirtual 83, 3) := by decide +kernel
theorem dX5_addSwitch_78 : decode cX5_addSwitch 78 = .ok (.ireturn, 1) := by decide +kernel
theorem dX5_addPump_0 : decode cX5_addPump 0 = .ok (.aload_n 0, 1) := by decide +kernel
theorem dX5_addPump_1 : decode cX5_addPump 1 = .ok (.iload_n 1, 1) := by decide +kernel
theorem dX5_addPump_2 : decode cX5_addPump 2 = .ok (.invokevirtual 84, 3) := by decide +kernel
theorem dX5_addPump_5 : decode cX5_addPump 5 = .ok (.aload_n 0, 1) := by decide +kernel
theorem dX5_addPump_6 : decode cX5_addPump 6 = .ok (.iload_n 2, 1) := by decide +kernel
theorem dX5_addPump_7 : decode cX5_addPump 7 = .ok (.invokevirtual 84, 3) := by decide +kernel
theorem dX5_addPump_10 : decode cX5_addPump 10 = .ok (.iload 5, 2) := by decide +kernel
theorem dX5_addPump_12 : decode cX5_addPump 12 = .ok (.iconst (-1), 1) := by decide +kernel
theorem dX5_addPump_13 : decode cX5_addPump 13 = .ok (.if_icmp .eq 9, 3) := by decide +kernel
theorem dX5_addPump_16 : decode cX5_addPump 16 = .ok (.aload_n 0, 1) := by decide +kernel
theorem dX5_addPump_17 : decode cX5_addPump 17 = .ok (.iload 5, 2) := by decide +kernel
theorem dX5_addPump_19 : decode cX5_addPump 19 = .ok (.invokevirtual 87, 3) := by decide +kernel
theorem dX5_addPump_22 : decode cX5_addPump 22 = .ok (.iload_n 1, 1) := by decide +kernel
theorem dX5_addPump_23 : decode cX5_addPump 23 = .ok (.iload_n 2, 1) := by decide +kernel
theorem dX5_addPump_24 : decode cX5_addPump 24 = .ok (.if_icmp .ne 13, 3) := by decide +kernel
theorem dX5_addPump_27 : decode cX5_addPump 27 = .ok (.new 32, 3) := by decide +kernel
theorem dX5_addPump_30 : decode cX5_addPump 30 = .ok (.dup, 1) := by decide +kernel
theorem dX5_addPump_31 : decode cX5_addPump 31 = .ok (.ldc 90, 2) := by decide +kernel
theorem dX5_addPump_33 : decode cX5_addPump 33 = .ok (.invokespecial 36, 3) := by decide +kernel
theorem dX5_addPump_36 : decode cX5_addPump 36 = .ok (.athrow, 1) := by decide +kernel
theorem dX5_addPump_37 : decode cX5_addPump 37 = .ok (.iload_n 3, 1) := by decide +kernel
theorem dX5_addPump_38 : decode cX5_addPump 38 = .ok (.invokestatic 92, 3) := by decide +kernel
theorem dX5_addPump_41 : decode cX5_addPump 41 = .ok (.iload 4, 2) := by decide +kernel
theorem dX5_addPump_43 : decode cX5_addPump 43 = .ok (.iconst 0, 1) := by decide +kernel
theorem dX5_addPump_44 : decode cX5_addPump 44 = .ok (.bipush 100, 2) := by decide +kernel
theorem dX5_addPump_46 : decode cX5_addPump 46 = .ok (.invokestatic 28, 3) := by decide +kernel
theorem dX5_addPump_49 : decode cX5_addPump 49 = .ok (.ifCond .ne 13, 3) := by decide +kernel
theorem dX5_addPump_52 : decode cX5_addPump 52 = .ok (.new 32, 3) := by decide +kernel
theorem dX5_addPump_55 : decode cX5_addPump 55 = .ok (.dup, 1) := by decide +kernel
theorem dX5_addPump_56 : decode cX5_addPump 56 = .ok (.ldc 95, 2) := by decide +kernel
theorem dX5_addPump_58 : decode cX5_addPump 58 = .ok (.invokespecial 36, 3) := by decide +kernel
theorem dX5_addPump_61 : decode cX5_addPump 61 = .ok (.athrow, 1) := by decide +kernel
theorem dX5_addPump_62 : decode cX5_addPump 62 = .ok (.aload_n 0, 1) := by decide +kernel
theorem dX5_addPump_63 : decode cX5_addPump 63 = .ok (.getfield 10, 3) := by decide +kernel
theorem dX5_addPump_66 : decode cX5_addPump 66 = .ok (.getfield 97, 3) := by decide +kernel
theorem dX5_addPump_69 : decode cX5_addPump 69 = .ok (.getfield 101, 3) := by decide +kernel
theorem dX5_addPump_72 : decode cX5_addPump 72 = .ok (.bipush 16, 2) := by decide +kernel
theorem dX5_addPump_74 : decode cX5_addPump 74 = .ok (.if_icmp .lt 13, 3) := by decide +kernel
theorem dX5_addPump_77 : decode cX5_addPump 77 = .ok (.new 56, 3) := by decide +kernel
theorem dX5_addPump_80 : decode cX5_addPump 80 = .ok (.dup, 1) := by decide +kernel
theorem dX5_addPump_81 : decode cX5_addPump 81 = .ok (.ldc 104, 2) := by decide +kernel
theorem dX5_addPump_83 : decode cX5_addPump 83 = .ok (.invokespecial 60, 3) := by decide +kernel
theorem dX5_addPump_86 : decode cX5_addPump 86 = .ok (.athrow, 1) := by decide +kernel
theorem dX5_addPump_87 : decode cX5_addPump 87 = .ok (.aload_n 0, 1) := by decide +kernel
theorem dX5_addPump_88 : decode cX5_addPump 88 = .ok (.getfield 10, 3) := by decide +kernel
theorem dX5_addPump_91 : decode cX5_addPump 91 = .ok (.getfield 97, 3) := by decide +kernel
theorem dX5_addPump_94 : decode cX5_addPump 94 = .ok (.iload_n 1, 1) := by decide +kernel
theorem dX5_addPump_95 : decode cX5_addPump 95 = .ok (.iload_n 2, 1) := by decide +kernel
theorem dX5_addPump_96 : decode cX5_addPump 96 = .ok (.iload_n 3, 1) := by decide +kernel
theorem dX5_addPump_97 : decode cX5_addPump 97 = .ok (.iload 4, 2) := by decide +kernel
theorem dX5_addPump_99 : decode cX5_addPump 99 = .ok (.iload 5, 2) := by decide +kernel
theorem dX5_addPump_101 : decode cX5_addPump 101 = .ok (.iload 6, 2) := by decide +kernel
theorem dX5_addPump_103 : decode cX5_addPump 103 = .ok (.invokevirtual 106, 3) := by decide +kernel
theorem dX5_addPump_106 : decode cX5_addPump 106 = .ok (.ireturn, 1) := by decide +kernel
theorem dX5_run_0 : decode cX5_run 0 = .ok (.iload_n 1, 1) := by decide +kernel
theorem dX5_run_1 : decode cX5_run 1 = .ok (.iconst 0, 1) := by decide +kernel
theorem dX5_run_2 : decode cX5_run 2 = .ok (.invokestatic 121, 3) := by decide +kernel
theorem dX5_run_5 : decode cX5_run 5 = .ok (.aload_n 0, 1) := by decide +kernel
theorem dX5_run_6 : decode cX5_run 6 = .ok (.getfield 10, 3) := by decide +kernel
theorem dX5_run_9 : decode cX5_run 9 = .ok (.iload_n 1, 1) := by decide +kernel
theorem dX5_run_10 : decode cX5_run 10 = .ok (.invokevirtual 124, 3) := by decide +kernel
theorem dX5_run_13 : decode cX5_run 13 = .ok (.ireturn, 1) := by decide +kernel
theorem dX5_time_0 : decode cX5_time 0 = .ok (.aload_n 0, 1) := by decide +kernel
theorem dX5_time_1 : decode cX5_time 1 = .ok (.getfield 10, 3) := by decide +kernel
theorem dX5_time_4 : decode cX5_time 4 = .ok (.getfield 139, 3) := by decide +kernel
theorem dX5_time_7 : decode cX5_time 7 = .ok (.lreturn, 1) := by decide +kernel
theorem dX5_level_0 : decode cX5_level 0 = .ok (.aload_n 0, 1) := by decide +kernel
theorem dX5_level_1 : decode cX5_level 1 = .ok (.iload_n 1, 1) := by decide +kernel
theorem dX5_level_2 : decode cX5_level 2 = .ok (.invokevirtual 65, 3) := by decide +kernel
theorem dX5_level_5 : decode cX5_level 5 = .ok (.aload_n 0, 1) := by decide +kernel
theorem dX5_level_6 : decode cX5_level 6 = .ok (.getfield 10, 3) := by decide +kernel
theorem dX5_level_9 : decode cX5_level 9 = .ok (.getfield 47, 3) := by decide +kernel
theorem dX5_level_12 : decode cX5_level 12 = .ok (.getfield 109, 3) := by decide +kernel
theorem dX5_level_15 : decode cX5_level 15 = .ok (.iload_n 1, 1) := by decide +kernel
theorem dX5_level_16 : decode cX5_level 16 = .ok (.iaload, 1) := by decide +kernel
theorem dX5_level_17 : decode cX5_level 17 = .ok (.ireturn, 1) := by decide +kernel
theorem dX5_levelSum_0 : decode cX5_levelSum 0 = .ok (.aload_n 0, 1) := by decide +kernel
theorem dX5_levelSum_1 : decode cX5_levelSum 1 = .ok (.iload_n 1, 1) := by decide +kernel
theorem dX5_levelSum_2 : decode cX5_levelSum 2 = .ok (.invokevirtual 65, 3) := by decide +kernel
theorem dX5_levelSum_5 : decode cX5_levelSum 5 = .ok (.aload_n 0, 1) := by decide +kernel
theorem dX5_levelSum_6 : decode cX5_levelSum 6 = .ok (.getfield 10, 3) := by decide +kernel
theorem dX5_levelSum_9 : decode cX5_levelSum 9 = .ok (.getfield 47, 3) := by decide +kernel
theorem dX5_levelSum_12 : decode cX5_levelSum 12 = .ok (.getfield 143, 3) := by decide +kernel
theorem dX5_levelSum_15 : decode cX5_levelSum 15 = .ok (.iload_n 1, 1) := by decide +kernel
theorem dX5_levelSum_16 : decode cX5_levelSum 16 = .ok (.laload, 1) := by decide +kernel
theorem dX5_levelSum_17 : decode cX5_levelSum 17 = .ok (.lreturn, 1) := by decide +kernel
theorem dX5_isOn_0 : decode cX5_isOn 0 = .ok (.aload_n 0, 1) := by decide +kernel
theorem dX5_isOn_1 : decode cX5_isOn 1 = .ok (.iload_n 1, 1) := by decide +kernel
theorem dX5_isOn_2 : decode cX5_isOn 2 = .ok (.invokevirtual 87, 3) := by decide +kernel
theorem dX5_isOn_5 : decode cX5_isOn 5 = .ok (.aload_n 0, 1) := by decide +kernel
theorem dX5_isOn_6 : decode cX5_isOn 6 = .ok (.getfield 10, 3) := by decide +kernel
theorem dX5_isOn_9 : decode cX5_isOn 9 = .ok (.getfield 74, 3) := by decide +kernel
theorem dX5_isOn_12 : decode cX5_isOn 12 = .ok (.getfield 147, 3) := by decide +kernel
theorem dX5_isOn_15 : decode cX5_isOn 15 = .ok (.iload_n 1, 1) := by decide +kernel
theorem dX5_isOn_16 : decode cX5_isOn 16 = .ok (.baload, 1) := by decide +kernel
theorem dX5_isOn_17 : decode cX5_isOn 17 = .ok (.ireturn, 1) := by decide +kernel
theorem dX5_total_0 : decode cX5_total 0 = .ok (.aload_n 0, 1) := by decide +kernel
theorem dX5_total_1 : decode cX5_total 1 = .ok (.iload_n 1, 1) := by decide +kernel
theorem dX5_total_2 : decode cX5_total 2 = .ok (.invokevirtual 115, 3) := by decide +kernel
theorem dX5_total_5 : decode cX5_total 5 = .ok (.aload_n 0, 1) := by decide +kernel
theorem dX5_total_6 : decode cX5_total 6 = .ok (.getfield 10, 3) := by decide +kernel
theorem dX5_total_9 : decode cX5_total 9 = .ok (.getfield 97, 3) := by decide +kernel
theorem dX5_total_12 : decode cX5_total 12 = .ok (.getfield 151, 3) := by decide +kernel
theorem dX5_total_15 : decode cX5_total 15 = .ok (.iload_n 1, 1) := by decide +kernel
theorem dX5_total_16 : decode cX5_total 16 = .ok (.laload, 1) := by decide +kernel
theorem dX5_total_17 : decode cX5_total 17 = .ok (.lreturn, 1) := by decide +kernel
theorem dX5_energy_0 : decode cX5_energy 0 = .ok (.aload_n 0, 1) := by decide +kernel
theorem dX5_energy_1 : decode cX5_energy 1 = .ok (.iload_n 1, 1) := by decide +kernel
theorem dX5_energy_2 : decode cX5_energy 2 = .ok (.invokevirtual 115, 3) := by decide +kernel
theorem dX5_energy_5 : decode cX5_energy 5 = .ok (.aload_n 0, 1) := by decide +kernel
theorem dX5_energy_6 : decode cX5_energy 6 = .ok (.getfield 10, 3) := by decide +kernel
theorem dX5_energy_9 : decode cX5_energy 9 = .ok (.getfield 97, 3) := by decide +kernel
theorem dX5_energy_12 : decode cX5_energy 12 = .ok (.getfield 154, 3) := by decide +kernel
theorem dX5_energy_15 : decode cX5_energy 15 = .ok (.iload_n 1, 1) := by decide +kernel
theorem dX5_energy_16 : decode cX5_energy 16 = .ok (.laload, 1) := by decide +kernel
theorem dX5_energy_17 : decode cX5_energy 17 = .ok (.lreturn, 1) := by decide +kernel
theorem dX5_shortTicks_0 : decode cX5_shortTicks 0 = .ok (.aload_n 0, 1) := by decide +kernel
theorem dX5_shortTicks_1 : decode cX5_shortTicks 1 = .ok (.iload_n 1, 1) := by decide +kernel
theorem dX5_shortTicks_2 : decode cX5_shortTicks 2 = .ok (.invokevirtual 115, 3) := by decide +kernel
theorem dX5_shortTicks_5 : decode cX5_shortTicks 5 = .ok (.aload_n 0, 1) := by decide +kernel
theorem dX5_shortTicks_6 : decode cX5_shortTicks 6 = .ok (.getfield 10, 3) := by decide +kernel
theorem dX5_shortTicks_9 : decode cX5_shortTicks 9 = .ok (.getfield 97, 3) := by decide +kernel
theorem dX5_shortTicks_12 : decode cX5_shortTicks 12 = .ok (.getfield 157, 3) := by decide +kernel
theorem dX5_shortTicks_15 : decode cX5_shortTicks 15 = .ok (.iload_n 1, 1) := by decide +kernel
theorem dX5_shortTicks_16 : decode cX5_shortTicks 16 = .ok (.laload, 1) := by decide +kernel
theorem dX5_shortTicks_17 : decode cX5_shortTicks 17 = .ok (.lreturn, 1) := by decide +kernel
theorem dX5_changeCount_0 : decode cX5_changeCount 0 = .ok (.aload_n 0, 1) := by decide +kernel
theorem dX5_changeCount_1 : decode cX5_changeCount 1 = .ok (.getfield 10, 3) := by decide +kernel
theorem dX5_changeCount_4 : decode cX5_changeCount 4 = .ok (.getfield 167, 3) := by decide +kernel
theorem dX5_changeCount_7 : decode cX5_changeCount 7 = .ok (.getfield 171, 3) := by decide +kernel
theorem dX5_changeCount_10 : decode cX5_changeCount 10 = .ok (.lreturn, 1) := by decide +kernel
theorem dX5_needTank_0 : decode cX5_needTank 0 = .ok (.iload_n 1, 1) := by decide +kernel
theorem dX5_needTank_1 : decode cX5_needTank 1 = .ok (.iconst 0, 1) := by decide +kernel
theorem dX5_needTank_2 : decode cX5_needTank 2 = .ok (.aload_n 0, 1) := by decide +kernel
theorem dX5_needTank_3 : decode cX5_needTank 3 = .ok (.getfield 10, 3) := by decide +kernel
theorem dX5_needTank_6 : decode cX5_needTank 6 = .ok (.getfield 47, 3) := by decide +kernel
theorem dX5_needTank_9 : decode cX5_needTank 9 = .ok (.getfield 51, 3) := by decide +kernel
theorem dX5_needTank_12 : decode cX5_needTank 12 = .ok (.iconst 1, 1) := by decide +kernel
theorem dX5_needTank_13 : decode cX5_needTank 13 = .ok (.isub, 1) := by decide +kernel
theorem dX5_needTank_14 : decode cX5_needTank 14 = .ok (.invokestatic 28, 3) := by decide +kernel
theorem dX5_needTank_17 : decode cX5_needTank 17 = .ok (.ifCond .ne 13, 3) := by decide +kernel
theorem dX5_needTank_20 : decode cX5_needTank 20 = .ok (.new 203, 3) := by decide +kernel
theorem dX5_needTank_23 : decode cX5_needTank 23 = .ok (.dup, 1) := by decide +kernel
theorem dX5_needTank_24 : decode cX5_needTank 24 = .ok (.ldc 205, 2) := by decide +kernel
theorem dX5_needTank_26 : decode cX5_needTank 26 = .ok (.invokespecial 207, 3) := by decide +kernel
theorem dX5_needTank_29 : decode cX5_needTank 29 = .ok (.athrow, 1) := by decide +kernel
theorem dX5_needTank_30 : decode cX5_needTank 30 = .ok (.return_, 1) := by decide +kernel
theorem dX5_needTankOrOutside_0 : decode cX5_needTankOrOutside 0 = .ok (.iload_n 1, 1) := by decide +kernel
theorem dX5_needTankOrOutside_1 : decode cX5_needTankOrOutside 1 = .ok (.iconst (-1), 1) := by decide +kernel
theorem dX5_needTankOrOutside_2 : decode cX5_needTankOrOutside 2 = .ok (.if_icmp .eq 8, 3) := by decide +kernel
theorem dX5_needTankOrOutside_5 : decode cX5_needTankOrOutside 5 = .ok (.aload_n 0, 1) := by decide +kernel
theorem dX5_needTankOrOutside_6 : decode cX5_needTankOrOutside 6 = .ok (.iload_n 1, 1) := by decide +kernel
theorem dX5_needTankOrOutside_7 : decode cX5_needTankOrOutside 7 = .ok (.invokevirtual 65, 3) := by decide +kernel
theorem dX5_needTankOrOutside_10 : decode cX5_needTankOrOutside 10 = .ok (.return_, 1) := by decide +kernel
theorem dX5_needSwitch_0 : decode cX5_needSwitch 0 = .ok (.iload_n 1, 1) := by decide +kernel
theorem dX5_needSwitch_1 : decode cX5_needSwitch 1 = .ok (.iconst 0, 1) := by decide +kernel
theorem dX5_needSwitch_2 : decode cX5_needSwitch 2 = .ok (.aload_n 0, 1) := by decide +kernel
theorem dX5_needSwitch_3 : decode cX5_needSwitch 3 = .ok (.getfield 10, 3) := by decide +kernel
theorem dX5_needSwitch_6 : decode cX5_needSwitch 6 = .ok (.getfield 74, 3) := by decide +kernel
theorem dX5_needSwitch_9 : decode cX5_needSwitch 9 = .ok (.getfield 78, 3) := by decide +kernel
theorem dX5_needSwitch_12 : decode cX5_needSwitch 12 = .ok (.iconst 1, 1) := by decide +kernel
theorem dX5_needSwitch_13 : decode cX5_needSwitch 13 = .ok (.isub, 1) := by decide +kernel
theorem dX5_needSwitch_14 : decode cX5_needSwitch 14 = .ok (.invokestatic 28, 3) := by decide +kernel
theorem dX5_needSwitch_17 : decode cX5_needSwitch 17 = .ok (.ifCond .ne 13, 3) := by decide +kernel
theorem dX5_needSwitch_20 : decode cX5_needSwitch 20 = .ok (.new 203, 3) := by decide +kernel
theorem dX5_needSwitch_23 : decode cX5_needSwitch 23 = .ok (.dup, 1) := by decide +kernel
theorem dX5_needSwitch_24 : decode cX5_needSwitch 24 = .ok (.ldc 208, 2) := by decide +kernel
theorem dX5_needSwitch_26 : decode cX5_needSwitch 26 = .ok (.invokespecial 207, 3) := by decide +kernel
theorem dX5_needSwitch_29 : decode cX5_needSwitch 29 = .ok (.athrow, 1) := by decide +kernel
theorem dX5_needSwitch_30 : decode cX5_needSwitch 30 = .ok (.return_, 1) := by decide +kernel
theorem dX5_needPump_0 : decode cX5_needPump 0 = .ok (.iload_n 1, 1) := by decide +kernel
theorem dX5_needPump_1 : decode cX5_needPump 1 = .ok (.iconst 0, 1) := by decide +kernel
theorem dX5_needPump_2 : decode cX5_needPump 2 = .ok (.aload_n 0, 1) := by decide +kernel
theorem dX5_needPump_3 : decode cX5_needPump 3 = .ok (.getfield 10, 3) := by decide +kernel
theorem dX5_needPump_6 : decode cX5_needPump 6 = .ok (.getfield 97, 3) := by decide +kernel
theorem dX5_needPump_9 : decode cX5_needPump 9 = .ok (.getfield 101, 3) := by decide +kernel
theorem dX5_needPump_12 : decode cX5_needPump 12 = .ok (.iconst 1, 1) := by decide +kernel
theorem dX5_needPump_13 : decode cX5_needPump 13 = .ok (.isub, 1) := by decide +kernel
theorem dX5_needPump_14 : decode cX5_needPump 14 = .ok (.invokestatic 28, 3) := by decide +kernel
theorem dX5_needPump_17 : decode cX5_needPump 17 = .ok (.ifCond .ne 13, 3) := by decide +kernel
theorem dX5_needPump_20 : decode cX5_needPump 20 = .ok (.new 203, 3) := by decide +kernel
theorem dX5_needPump_23 : decode cX5_needPump 23 = .ok (.dup, 1) := by decide +kernel
theorem dX5_needPump_24 : decode cX5_needPump 24 = .ok (.ldc 210, 2) := by decide +kernel
theorem dX5_needPump_26 : decode cX5_needPump 26 = .ok (.invokespecial 207, 3) := by decide +kernel
theorem dX5_needPump_29 : decode cX5_needPump 29 = .ok (.athrow, 1) := by decide +kernel
theorem dX5_needPump_30 : decode cX5_needPump 30 = .ok (.return_, 1) := by decide +kernel
theorem dX5_needAmount_0 : decode cX5_needAmount 0 = .ok (.iload_n 0, 1) := by decide +kernel
theorem dX5_needAmount_1 : decode cX5_needAmount 1 = .ok (.iconst 0, 1) := by decide +kernel
theorem dX5_needAmount_2 : decode cX5_needAmount 2 = .ok (.iload_n 1, 1) := by decide +kernel
theorem dX5_needAmount_3 : decode cX5_needAmount 3 = .ok (.invokestatic 28, 3) := by decide +kernel
theorem dX5_needAmount_6 : decode cX5_needAmount 6 = .ok (.ifCond .ne 13, 3) := by decide +kernel
theorem dX5_needAmount_9 : decode cX5_needAmount 9 = .ok (.new 32, 3) := by decide +kernel
theorem dX5_needAmount_12 : decode cX5_needAmount 12 = .ok (.dup, 1) := by decide +kernel
theorem dX5_needAmount_13 : decode cX5_needAmount 13 = .ok (.ldc 218, 2) := by decide +kernel
theorem dX5_needAmount_15 : decode cX5_needAmount 15 = .ok (.invokespecial 36, 3) := by decide +kernel
theorem dX5_needAmount_18 : decode cX5_needAmount 18 = .ok (.athrow, 1) := by decide +kernel
theorem dX5_needAmount_19 : decode cX5_needAmount 19 = .ok (.return_, 1) := by decide +kernel
theorem dX5_needLeak_0 : decode cX5_needLeak 0 = .ok (.iload_n 0, 1) := by decide +kernel
theorem dX5_needLeak_1 : decode cX5_needLeak 1 = .ok (.iconst 0, 1) := by decide +kernel
theorem dX5_needLeak_2 : decode cX5_needLeak 2 = .ok (.ldc 220, 2) := by decide +kernel
theorem dX5_needLeak_4 : decode cX5_needLeak 4 = .ok (.invokestatic 28, 3) := by decide +kernel
theorem dX5_needLeak_7 : decode cX5_needLeak 7 = .ok (.ifCond .ne 13, 3) := by decide +kernel
theorem dX5_needLeak_10 : decode cX5_needLeak 10 = .ok (.new 32, 3) := by decide +kernel
theorem dX5_needLeak_13 : decode cX5_needLeak 13 = .ok (.dup, 1) := by decide +kernel
theorem dX5_needLeak_14 : decode cX5_needLeak 14 = .ok (.ldc 221, 2) := by decide +kernel
theorem dX5_needLeak_16 : decode cX5_needLeak 16 = .ok (.invokespecial 36, 3) := by decide +kernel
theorem dX5_needLeak_19 : decode cX5_needLeak 19 = .ok (.athrow, 1) := by decide +kernel
theorem dX5_needLeak_20 : decode cX5_needLeak 20 = .ok (.return_, 1) := by decide +kernel
theorem dX5_needRate_0 : decode cX5_needRate 0 = .ok (.iload_n 0, 1) := by decide +kernel
theorem dX5_needRate_1 : decode cX5_needRate 1 = .ok (.iconst 1, 1) := by decide +kernel
theorem dX5_needRate_2 : decode cX5_needRate 2 = .ok (.ldc 220, 2) := by decide +kernel
theorem dX5_needRate_4 : decode cX5_needRate 4 = .ok (.invokestatic 28, 3) := by decide +kernel
theorem dX5_needRate_7 : decode cX5_needRate 7 = .ok (.ifCond .ne 13, 3) := by decide +kernel
theorem dX5_needRate_10 : decode cX5_needRate 10 = .ok (.new 32, 3) := by decide +kernel
theorem dX5_needRate_13 : decode cX5_needRate 13 = .ok (.dup, 1) := by decide +kernel
theorem dX5_needRate_14 : decode cX5_needRate 14 = .ok (.ldc 223, 2) := by decide +kernel
theorem dX5_needRate_16 : decode cX5_needRate 16 = .ok (.invokespecial 36, 3) := by decide +kernel
theorem dX5_needRate_19 : decode cX5_needRate 19 = .ok (.athrow, 1) := by decide +kernel
theorem dX5_needRate_20 : decode cX5_needRate 20 = .ok (.return_, 1) := by decide +kernel
theorem dX5_needTicks_0 : decode cX5_needTicks 0 = .ok (.iload_n 0, 1) := by decide +kernel
theorem dX5_needTicks_1 : decode cX5_needTicks 1 = .ok (.iload_n 1, 1) := by decide +kernel
theorem dX5_needTicks_2 : decode cX5_needTicks 2 = .ok (.sipush 5000, 3) := by decide +kernel
theorem dX5_needTicks_5 : decode cX5_needTicks 5 = .ok (.invokestatic 28, 3) := by decide +kernel
theorem dX5_needTicks_8 : decode cX5_needTicks 8 = .ok (.ifCond .ne 13, 3) := by decide +kernel
theorem dX5_needTicks_11 : decode cX5_needTicks 11 = .ok (.new 32, 3) := by decide +kernel
theorem dX5_needTicks_14 : decode cX5_needTicks 14 = .ok (.dup, 1) := by decide +kernel
theorem dX5_needTicks_15 : decode cX5_needTicks 15 = .ok (.ldc 225, 2) := by decide +kernel
theorem dX5_needTicks_17 : decode cX5_needTicks 17 = .ok (.invokespecial 36, 3) := by decide +kernel
theorem dX5_needTicks_20 : decode cX5_needTicks 20 = .ok (.athrow, 1) := by decide +kernel
theorem dX5_needTicks_21 : decode cX5_needTicks 21 = .ok (.return_, 1) := by decide +kernel
theorem dX5_isWithin_0 : decode cX5_isWithin 0 = .ok (.iload_n 0, 1) := by decide +kernel
theorem dX5_isWithin_1 : decode cX5_isWithin 1 = .ok (.iload_n 1, 1) := by decide +kernel
theorem dX5_isWithin_2 : decode cX5_isWithin 2 = .ok (.if_icmp .lt 12, 3) := by decide +kernel
theorem dX5_isWithin_5 : decode cX5_isWithin 5 = .ok (.iload_n 0, 1) := by decide +kernel
theorem dX5_isWithin_6 : decode cX5_isWithin 6 = .ok (.iload_n 2, 1) := by decide +kernel
theorem dX5_isWithin_7 : decode cX5_isWithin 7 = .ok (.if_icmp .gt 7, 3) := by decide +kernel
theorem dX5_isWithin_10 : decode cX5_isWithin 10 = .ok (.iconst 1, 1) := by decide +kernel
theorem dX5_isWithin_11 : decode cX5_isWithin 11 = .ok (.goto 4, 3) := by decide +kernel
theorem dX5_isWithin_14 : decode cX5_isWithin 14 = .ok (.iconst 0, 1) := by decide +kernel
theorem dX5_isWithin_15 : decode cX5_isWithin 15 = .ok (.ireturn, 1) := by decide +kernel
theorem dX5_ticksWhile_0 : decode cX5_ticksWhile 0 = .ok (.lload_n 0, 1) := by decide +kernel
theorem dX5_ticksWhile_1 : decode cX5_ticksWhile 1 = .ok (.lconst 0, 1) := by decide +kernel
theorem dX5_ticksWhile_2 : decode cX5_ticksWhile 2 = .ok (.lcmp, 1) := by decide +kernel
theorem dX5_ticksWhile_3 : decode cX5_ticksWhile 3 = .ok (.ifCond .ge 5, 3) := by decide +kernel
theorem dX5_ticksWhile_6 : decode cX5_ticksWhile 6 = .ok (.iconst 0, 1) := by decide +kernel
theorem dX5_ticksWhile_7 : decode cX5_ticksWhile 7 = .ok (.ireturn, 1) := by decide +kernel
theorem dX5_ticksWhile_8 : decode cX5_ticksWhile 8 = .ok (.lload_n 2, 1) := by decide +kernel
theorem dX5_ticksWhile_9 : decode cX5_ticksWhile 9 = .ok (.lconst 0, 1) := by decide +kernel
theorem dX5_ticksWhile_10 : decode cX5_ticksWhile 10 = .ok (.lcmp, 1) := by decide +kernel
theorem dX5_ticksWhile_11 : decode cX5_ticksWhile 11 = .ok (.ifCond .lt 6, 3) := by decide +kernel
theorem dX5_ticksWhile_14 : decode cX5_ticksWhile 14 = .ok (.iload 4, 2) := by decide +kernel
theorem dX5_ticksWhile_16 : decode cX5_ticksWhile 16 = .ok (.ireturn, 1) := by decide +kernel
theorem dX5_ticksWhile_17 : decode cX5_ticksWhile 17 = .ok (.iload 4, 2) := by decide +kernel
theorem dX5_ticksWhile_19 : decode cX5_ticksWhile 19 = .ok (.i2l, 1) := by decide +kernel
theorem dX5_ticksWhile_20 : decode cX5_ticksWhile 20 = .ok (.lload_n 0, 1) := by decide +kernel
theorem dX5_ticksWhile_21 : decode cX5_ticksWhile 21 = .ok (.lload_n 2, 1) := by decide +kernel
theorem dX5_ticksWhile_22 : decode cX5_ticksWhile 22 = .ok (.lneg, 1) := by decide +kernel
theorem dX5_ticksWhile_23 : decode cX5_ticksWhile 23 = .ok (.ldiv, 1) := by decide +kernel
theorem dX5_ticksWhile_24 : decode cX5_ticksWhile 24 = .ok (.invokestatic 229, 3) := by decide +kernel
theorem dX5_ticksWhile_27 : decode cX5_ticksWhile 27 = .ok (.l2i, 1) := by decide +kernel
theorem dX5_ticksWhile_28 : decode cX5_ticksWhile 28 = .ok (.ireturn, 1) := by decide +kernel
