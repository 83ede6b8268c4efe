theorem dX0_init_0 : decode cX0_init 0 = .ok (.aload_n 0, 1) := by decide +kernel
theorem dX0_init_1 : decode cX0_init 1 = .ok (.invokespecial 3, 3) := by decide +kernel
theorem dX0_init_4 : decode cX0_init 4 = .ok (.aload_n 0, 1) := by decide +kernel
theorem dX0_init_5 : decode cX0_init 5 = .ok (.iconst 0, 1) := by decide +kernel
theorem dX0_init_6 : decode cX0_init 6 = .ok (.putfield 9, 3) := by decide +kernel
theorem dX0_init_9 : decode cX0_init 9 = .ok (.aload_n 0, 1) := by decide +kernel
theorem dX0_init_10 : decode cX0_init 10 = .ok (.iconst 0, 1) := by decide +kernel
theorem dX0_init_11 : decode cX0_init 11 = .ok (.putfield 15, 3) := by decide +kernel
theorem dX0_init_14 : decode cX0_init 14 = .ok (.aload_n 0, 1) := by decide +kernel
theorem dX0_init_15 : decode cX0_init 15 = .ok (.bipush 40, 2) := by decide +kernel
theorem dX0_init_17 : decode cX0_init 17 = .ok (.newarray .long, 2) := by decide +kernel
theorem dX0_init_19 : decode cX0_init 19 = .ok (.putfield 18, 3) := by decide +kernel
theorem dX0_init_22 : decode cX0_init 22 = .ok (.return_, 1) := by decide +kernel
theorem dX0_isMissing_0 : decode cX0_isMissing 0 = .ok (.aload_n 0, 1) := by decide +kernel
theorem dX0_isMissing_1 : decode cX0_isMissing 1 = .ok (.getfield 9, 3) := by decide +kernel
theorem dX0_isMissing_4 : decode cX0_isMissing 4 = .ok (.ifCond .ne 7, 3) := by decide +kernel
theorem dX0_isMissing_7 : decode cX0_isMissing 7 = .ok (.iconst 1, 1) := by decide +kernel
theorem dX0_isMissing_8 : decode cX0_isMissing 8 = .ok (.goto 4, 3) := by decide +kernel
theorem dX0_isMissing_11 : decode cX0_isMissing 11 = .ok (.iconst 0, 1) := by decide +kernel
theorem dX0_isMissing_12 : decode cX0_isMissing 12 = .ok (.ireturn, 1) := by decide +kernel
theorem dX0_begin_0 : decode cX0_begin 0 = .ok (.aload_n 0, 1) := by decide +kernel
theorem dX0_begin_1 : decode cX0_begin 1 = .ok (.iload_n 1, 1) := by decide +kernel
theorem dX0_begin_2 : decode cX0_begin 2 = .ok (.putfield 9, 3) := by decide +kernel
theorem dX0_begin_5 : decode cX0_begin 5 = .ok (.aload_n 0, 1) := by decide +kernel
theorem dX0_begin_6 : decode cX0_begin 6 = .ok (.iload_n 1, 1) := by decide +kernel
theorem dX0_begin_7 : decode cX0_begin 7 = .ok (.ifCond .ne 7, 3) := by decide +kernel
theorem dX0_begin_10 : decode cX0_begin 10 = .ok (.iconst 0, 1) := by decide +kernel
theorem dX0_begin_11 : decode cX0_begin 11 = .ok (.goto 4, 3) := by decide +kernel
theorem dX0_begin_14 : decode cX0_begin 14 = .ok (.iload_n 2, 1) := by decide +kernel
theorem dX0_begin_15 : decode cX0_begin 15 = .ok (.putfield 15, 3) := by decide +kernel
theorem dX0_begin_18 : decode cX0_begin 18 = .ok (.aload_n 0, 1) := by decide +kernel
theorem dX0_begin_19 : decode cX0_begin 19 = .ok (.getfield 18, 3) := by decide +kernel
theorem dX0_begin_22 : decode cX0_begin 22 = .ok (.lconst 0, 1) := by decide +kernel
theorem dX0_begin_23 : decode cX0_begin 23 = .ok (.invokestatic 22, 3) := by decide +kernel
theorem dX0_begin_26 : decode cX0_begin 26 = .ok (.return_, 1) := by decide +kernel
theorem dX0_has_0 : decode cX0_has 0 = .ok (.iload_n 1, 1) := by decide +kernel
theorem dX0_has_1 : decode cX0_has 1 = .ok (.ifCond .lt 29, 3) := by decide +kernel
theorem dX0_has_4 : decode cX0_has 4 = .ok (.iload_n 2, 1) := by decide +kernel
theorem dX0_has_5 : decode cX0_has 5 = .ok (.ifCond .lt 25, 3) := by decide +kernel
theorem dX0_has_8 : decode cX0_has 8 = .ok (.iload_n 1, 1) := by decide +kernel
theorem dX0_has_9 : decode cX0_has 9 = .ok (.aload_n 0, 1) := by decide +kernel
theorem dX0_has_10 : decode cX0_has 10 = .ok (.getfield 15, 3) := by decide +kernel
theorem dX0_has_13 : decode cX0_has 13 = .ok (.if_icmp .gt 17, 3) := by decide +kernel
theorem dX0_has_16 : decode cX0_has 16 = .ok (.iload_n 2, 1) := by decide +kernel
theorem dX0_has_17 : decode cX0_has 17 = .ok (.aload_n 0, 1) := by decide +kernel
theorem dX0_has_18 : decode cX0_has 18 = .ok (.getfield 15, 3) := by decide +kernel
theorem dX0_has_21 : decode cX0_has 21 = .ok (.iload_n 1, 1) := by decide +kernel
theorem dX0_has_22 : decode cX0_has 22 = .ok (.isub, 1) := by decide +kernel
theorem dX0_has_23 : decode cX0_has 23 = .ok (.if_icmp .gt 7, 3) := by decide +kernel
theorem dX0_has_26 : decode cX0_has 26 = .ok (.iconst 1, 1) := by decide +kernel
theorem dX0_has_27 : decode cX0_has 27 = .ok (.goto 4, 3) := by decide +kernel
theorem dX0_has_30 : decode cX0_has 30 = .ok (.iconst 0, 1) := by decide +kernel
theorem dX0_has_31 : decode cX0_has 31 = .ok (.ireturn, 1) := by decide +kernel
theorem dX0_put_0 : decode cX0_put 0 = .ok (.aload_n 0, 1) := by decide +kernel
theorem dX0_put_1 : decode cX0_put 1 = .ok (.getfield 18, 3) := by decide +kernel
theorem dX0_put_4 : decode cX0_put 4 = .ok (.iload_n 1, 1) := by decide +kernel
theorem dX0_put_5 : decode cX0_put 5 = .ok (.aload_n 0, 1) := by decide +kernel
theorem dX0_put_6 : decode cX0_put 6 = .ok (.getfield 9, 3) := by decide +kernel
theorem dX0_put_9 : decode cX0_put 9 = .ok (.bipush 8, 2) := by decide +kernel
theorem dX0_put_11 : decode cX0_put 11 = .ok (.if_icmp .ne 10, 3) := by decide +kernel
theorem dX0_put_14 : decode cX0_put 14 = .ok (.lload_n 2, 1) := by decide +kernel
theorem dX0_put_15 : decode cX0_put 15 = .ok (.l2i, 1) := by decide +kernel
theorem dX0_put_16 : decode cX0_put 16 = .ok (.i2b, 1) := by decide +kernel
theorem dX0_put_17 : decode cX0_put 17 = .ok (.i2l, 1) := by decide +kernel
theorem dX0_put_18 : decode cX0_put 18 = .ok (.goto 20, 3) := by decide +kernel
theorem dX0_put_21 : decode cX0_put 21 = .ok (.aload_n 0, 1) := by decide +kernel
theorem dX0_put_22 : decode cX0_put 22 = .ok (.getfield 9, 3) := by decide +kernel
theorem dX0_put_25 : decode cX0_put 25 = .ok (.bipush 16, 2) := by decide +kernel
theorem dX0_put_27 : decode cX0_put 27 = .ok (.if_icmp .ne 10, 3) := by decide +kernel
theorem dX0_put_30 : decode cX0_put 30 = .ok (.lload_n 2, 1) := by decide +kernel
theorem dX0_put_31 : decode cX0_put 31 = .ok (.l2i, 1) := by decide +kernel
theorem dX0_put_32 : decode cX0_put 32 = .ok (.i2s, 1) := by decide +kernel
theorem dX0_put_33 : decode cX0_put 33 = .ok (.i2l, 1) := by decide +kernel
theorem dX0_put_34 : decode cX0_put 34 = .ok (.goto 4, 3) := by decide +kernel
theorem dX0_put_37 : decode cX0_put 37 = .ok (.lload_n 2, 1) := by decide +kernel
theorem dX0_put_38 : decode cX0_put 38 = .ok (.lastore, 1) := by decide +kernel
theorem dX0_put_39 : decode cX0_put 39 = .ok (.return_, 1) := by decide +kernel
theorem dX1_init_0 : decode cX1_init 0 = .ok (.aload_n 0, 1) := by decide +kernel
theorem dX1_init_1 : decode cX1_init 1 = .ok (.invokespecial 3, 3) := by decide +kernel
theorem dX1_init_4 : decode cX1_init 4 = .ok (.aload_n 0, 1) := by decide +kernel
theorem dX1_init_5 : decode cX1_init 5 = .ok (.iconst 0, 1) := by decide +kernel
theorem dX1_init_6 : decode cX1_init 6 = .ok (.putfield 9, 3) := by decide +kernel
theorem dX1_init_9 : decode cX1_init 9 = .ok (.aload_n 0, 1) := by decide +kernel
theorem dX1_init_10 : decode cX1_init 10 = .ok (.iconst 0, 1) := by decide +kernel
theorem dX1_init_11 : decode cX1_init 11 = .ok (.putfield 15, 3) := by decide +kernel
theorem dX1_init_14 : decode cX1_init 14 = .ok (.aload_n 0, 1) := by decide +kernel
theorem dX1_init_15 : decode cX1_init 15 = .ok (.bipush 10, 2) := by decide +kernel
theorem dX1_init_17 : decode cX1_init 17 = .ok (.newarray .int, 2) := by decide +kernel
theorem dX1_init_19 : decode cX1_init 19 = .ok (.putfield 18, 3) := by decide +kernel
theorem dX1_init_22 : decode cX1_init 22 = .ok (.aload_n 0, 1) := by decide +kernel
theorem dX1_init_23 : decode cX1_init 23 = .ok (.bipush 10, 2) := by decide +kernel
theorem dX1_init_25 : decode cX1_init 25 = .ok (.newarray .int, 2) := by decide +kernel
theorem dX1_init_27 : decode cX1_init 27 = .ok (.putfield 22, 3) := by decide +kernel
theorem dX1_init_30 : decode cX1_init 30 = .ok (.aload_n 0, 1) := by decide +kernel
theorem dX1_init_31 : decode cX1_init 31 = .ok (.bipush 8, 2) := by decide +kernel
theorem dX1_init_33 : decode cX1_init 33 = .ok (.newarray .int, 2) := by decide +kernel
theorem dX1_init_35 : decode cX1_init 35 = .ok (.putfield 25, 3) := by decide +kernel
theorem dX1_init_38 : decode cX1_init 38 = .ok (.aload_n 0, 1) := by decide +kernel
theorem dX1_init_39 : decode cX1_init 39 = .ok (.bipush 8, 2) := by decide +kernel
theorem dX1_init_41 : decode cX1_init 41 = .ok (.newarray .int, 2) := by decide +kernel
theorem dX1_init_43 : decode cX1_init 43 = .ok (.putfield 28, 3) := by decide +kernel
theorem dX1_init_46 : decode cX1_init 46 = .ok (.aload_n 0, 1) := by decide +kernel
theorem dX1_init_47 : decode cX1_init 47 = .ok (.bipush 8, 2) := by decide +kernel
theorem dX1_init_49 : decode cX1_init 49 = .ok (.newarray .int, 2) := by decide +kernel
theorem dX1_init_51 : decode cX1_init 51 = .ok (.putfield 31, 3) := by decide +kernel
theorem dX1_init_54 : decode cX1_init 54 = .ok (.aload_n 0, 1) := by decide +kernel
theorem dX1_init_55 : decode cX1_init 55 = .ok (.bipush 8, 2) := by decide +kernel
theorem dX1_init_57 : decode cX1_init 57 = .ok (.newarray .int, 2) := by decide +kernel
theorem dX1_init_59 : decode cX1_init 59 = .ok (.putfield 34, 3) := by decide +kernel
theorem dX1_init_62 : decode cX1_init 62 = .ok (.aload_n 0, 1) := by decide +kernel
theorem dX1_init_63 : decode cX1_init 63 = .ok (.bipush 8, 2) := by decide +kernel
theorem dX1_init_65 : decode cX1_init 65 = .ok (.newarray .int, 2) := by decide +kernel
theorem dX1_init_67 : decode cX1_init 67 = .ok (.putfield 37, 3) := by decide +kernel
theorem dX1_init_70 : decode cX1_init 70 = .ok (.aload_n 0, 1) := by decide +kernel
theorem dX1_init_71 : decode cX1_init 71 = .ok (.bipush 8, 2) := by decide +kernel
theorem dX1_init_73 : decode cX1_init 73 = .ok (.newarray .int, 2) := by decide +kernel
theorem dX1_init_75 : decode cX1_init 75 = .ok (.putfield 40, 3) := by decide +kernel
theorem dX1_init_78 : decode cX1_init 78 = .ok (.aload_n 0, 1) := by decide +kernel
theorem dX1_init_79 : decode cX1_init 79 = .ok (.bipush 8, 2) := by decide +kernel
theorem dX1_init_81 : decode cX1_init 81 = .ok (.newarray .int, 2) := by decide +kernel
theorem dX1_init_83 : decode cX1_init 83 = .ok (.putfield 43, 3) := by decide +kernel
theorem dX1_init_86 : decode cX1_init 86 = .ok (.iconst 0, 1) := by decide +kernel
theorem dX1_init_87 : decode cX1_init 87 = .ok (.istore_n 1, 1) := by decide +kernel
theorem dX1_init_88 : decode cX1_init 88 = .ok (.iload_n 1, 1) := by decide +kernel
theorem dX1_init_89 : decode cX1_init 89 = .ok (.bipush 10, 2) := by decide +kernel
theorem dX1_init_91 : decode cX1_init 91 = .ok (.if_icmp .ge 21, 3) := by decide +kernel
theorem dX1_init_94 : decode cX1_init 94 = .ok (.aload_n 0, 1) := by decide +kernel
theorem dX1_init_95 : decode cX1_init 95 = .ok (.getfield 18, 3) := by decide +kernel
theorem dX1_init_98 : decode cX1_init 98 = .ok (.iload_n 1, 1) := by decide +kernel
theorem dX1_init_99 : decode cX1_init 99 = .ok (.iconst 3, 1) := by decide +kernel
theorem dX1_init_100 : decode cX1_init 100 = .ok (.iload_n 1, 1) := by decide +kernel
theorem dX1_init_101 : decode cX1_init 101 = .ok (.imul, 1) := by decide +kernel
theorem dX1_init_102 : decode cX1_init 102 = .ok (.bipush 10, 2) := by decide +kernel
theorem dX1_init_104 : decode cX1_init 104 = .ok (.irem, 1) := by decide +kernel
theorem dX1_init_105 : decode cX1_init 105 = .ok (.iastore, 1) := by decide +kernel
theorem dX1_init_106 : decode cX1_init 106 = .ok (.iinc 1 1, 3) := by decide +kernel
theorem dX1_init_109 : decode cX1_init 109 = .ok (.goto (-21), 3) := by decide +kernel
theorem dX1_init_112 : decode cX1_init 112 = .ok (.aload_n 0, 1) := by decide +kernel
theorem dX1_init_113 : decode cX1_init 113 = .ok (.getfield 22, 3) := by decide +kernel
theorem dX1_init_116 : decode cX1_init 116 = .ok (.iconst (-1), 1) := by decide +kernel
theorem dX1_init_117 : decode cX1_init 117 = .ok (.invokestatic 46, 3) := by decide +kernel
theorem dX1_init_120 : decode cX1_init 120 = .ok (.aload_n 0, 1) := by decide +kernel
theorem dX1_init_121 : decode cX1_init 121 = .ok (.getfield 28, 3) := by decide +kernel
theorem dX1_init_124 : decode cX1_init 124 = .ok (.iconst (-1), 1) := by decide +kernel
theorem dX1_init_125 : decode cX1_init 125 = .ok (.invokestatic 46, 3) := by decide +kernel
theorem dX1_init_128 : decode cX1_init 128 = .ok (.return_, 1) := by decide +kernel
theorem dX1_become_0 : decode cX1_become 0 = .ok (.aload_n 0, 1) := by decide +kernel
theorem dX1_become_1 : decode cX1_become 1 = .ok (.aload_n 1, 1) := by decide +kernel
theorem dX1_become_2 : decode cX1_become 2 = .ok (.getfield 9, 3) := by decide +kernel
theorem dX1_become_5 : decode cX1_become 5 = .ok (.putfield 9, 3) := by decide +kernel
theorem dX1_become_8 : decode cX1_become 8 = .ok (.aload_n 0, 1) := by decide +kernel
theorem dX1_become_9 : decode cX1_become 9 = .ok (.aload_n 1, 1) := by decide +kernel
theorem dX1_become_10 : decode cX1_become 10 = .ok (.getfield 15, 3) := by decide +kernel
theorem dX1_become_13 : decode cX1_become 13 = .ok (.putfield 15, 3) := by decide +kernel
theorem dX1_become_16 : decode cX1_become 16 = .ok (.aload_n 1, 1) := by decide +kernel
theorem dX1_become_17 : decode cX1_become 17 = .ok (.getfield 18, 3) := by decide +kernel
theorem dX1_become_20 : decode cX1_become 20 = .ok (.iconst 0, 1) := by decide +kernel
theorem dX1_become_21 : decode cX1_become 21 = .ok (.aload_n 0, 1) := by decide +kernel
theorem dX1_become_22 : decode cX1_become 22 = .ok (.getfield 18, 3) := by decide +kernel
theorem dX1_become_25 : decode cX1_become 25 = .ok (.iconst 0, 1) := by decide +kernel
theorem dX1_become_26 : decode cX1_become 26 = .ok (.bipush 10, 2) := by decide +kernel
theorem dX1_become_28 : decode cX1_become 28 = .ok (.invokestatic 52, 3) := by decide +kernel
theorem dX1_become_31 : decode cX1_become 31 = .ok (.aload_n 1, 1) := by decide +kernel
theorem dX1_become_32 : decode cX1_become 32 = .ok (.getfield 22, 3) := by decide +kernel
theorem dX1_become_35 : decode cX1_become 35 = .ok (.iconst 0, 1) := by decide +kernel
theorem dX1_become_36 : decode cX1_become 36 = .ok (.aload_n 0, 1) := by decide +kernel
theorem dX1_become_37 : decode cX1_become 37 = .ok (.getfield 22, 3) := by decide +kernel
theorem dX1_become_40 : decode cX1_become 40 = .ok (.iconst 0, 1) := by decide +kernel
theorem dX1_become_41 : decode cX1_become 41 = .ok (.bipush 10, 2) := by decide +kernel
theorem dX1_become_43 : decode cX1_become 43 = .ok (.invokestatic 52, 3) := by decide +kernel
theorem dX1_become_46 : decode cX1_become 46 = .ok (.aload_n 1, 1) := by decide +kernel
theorem dX1_become_47 : decode cX1_become 47 = .ok (.getfield 25, 3) := by decide +kernel
theorem dX1_become_50 : decode cX1_become 50 = .ok (.iconst 0, 1) := by decide +kernel
theorem dX1_become_51 : decode cX1_become 51 = .ok (.aload_n 0, 1) := by decide +kernel
theorem dX1_become_52 : decode cX1_become 52 = .ok (.getfield 25, 3) := by decide +kernel
theorem dX1_become_55 : decode cX1_become 55 = .ok (.iconst 0, 1) := by decide +kernel
theorem dX1_become_56 : decode cX1_become 56 = .ok (.bipush 8, 2) := by decide +kernel
theorem dX1_become_58 : decode cX1_become 58 = .ok (.invokestatic 52, 3) := by decide +kernel
theorem dX1_become_61 : decode cX1_become 61 = .ok (.aload_n 1, 1) := by decide +kernel
theorem dX1_become_62 : decode cX1_become 62 = .ok (.getfield 28, 3) := by decide +kernel
theorem dX1_become_65 : decode cX1_become 65 = .ok (.iconst 0, 1) := by decide +kernel
theorem dX1_become_66 : decode cX1_become 66 = .ok (.aload_n 0, 1) := by decide +kernel
theorem dX1_become_67 : decode cX1_become 67 = .ok (.getfield 28, 3) := by decide +kernel
theorem dX1_become_70 : decode cX1_become 70 = .ok (.iconst 0, 1) := by decide +kernel
theorem dX1_become_71 : decode cX1_become 71 = .ok (.bipush 8, 2) := by decide +kernel
theorem dX1_become_73 : decode cX1_become 73 = .ok (.invokestatic 52, 3) := by decide +kernel
theorem dX1_become_76 : decode cX1_become 76 = .ok (.aload_n 1, 1) := by decide +kernel
theorem dX1_become_77 : decode cX1_become 77 = .ok (.getfield 31, 3) := by decide +kernel
theorem dX1_become_80 : decode cX1_become 80 = .ok (.iconst 0, 1) := by decide +kernel
theorem dX1_become_81 : decode cX1_become 81 = .ok (.aload_n 0, 1) := by decide +kernel
theorem dX1_become_82 : decode cX1_become 82 = .ok (.getfield 31, 3) := by decide +kernel
theorem dX1_become_85 : decode cX1_become 85 = .ok (.iconst 0, 1) := by decide +kernel
theorem dX1_become_86 : decode cX1_become 86 = .ok (.bipush 8, 2) := by decide +kernel
theorem dX1_become_88 : decode cX1_become 88 = .ok (.invokestatic 52, 3) := by decide +kernel
theorem dX1_become_91 : decode cX1_become 91 = .ok (.aload_n 1, 1) := by decide +kernel
theorem dX1_become_92 : decode cX1_become 92 = .ok (.getfield 34, 3) := by decide +kernel
theorem dX1_become_95 : decode cX1_become 95 = .ok (.iconst 0, 1) := by decide +kernel
theorem dX1_become_96 : decode cX1_become 96 = .ok (.aload_n 0, 1) := by decide +kernel
theorem dX1_become_97 : decode cX1_become 97 = .ok (.getfield 34, 3) := by decide +kernel
theorem dX1_become_100 : decode cX1_become 100 = .ok (.iconst 0, 1) := by decide +kernel
theorem dX1_become_101 : decode cX1_become 101 = .ok (.bipush 8, 2) := by decide +kernel
theorem dX1_become_103 : decode cX1_become 103 = .ok (.invokestatic 52, 3) := by decide +kernel
theorem dX1_become_106 : decode cX1_become 106 = .ok (.aload_n 1, 1) := by decide +kernel
theorem dX1_become_107 : decode cX1_become 107 = .ok (.getfield 37, 3) := by decide +kernel
theorem dX1_become_110 : decode cX1_become 110 = .ok (.iconst 0, 1) := by decide +kernel
theorem dX1_become_111 : decode cX1_become 111 = .ok (.aload_n 0, 1) := by decide +kernel
theorem dX1_become_112 : decode cX1_become 112 = .ok (.getfield 37, 3) := by decide +kernel
theorem dX1_become_115 : decode cX1_become 115 = .ok (.iconst 0, 1) := by decide +kernel
theorem dX1_become_116 : decode cX1_become 116 = .ok (.bipush 8, 2) := by decide +kernel
theorem dX1_become_118 : decode cX1_become 118 = .ok (.invokestatic 52, 3) := by decide +kernel
theorem dX1_become_121 : decode cX1_become 121 = .ok (.return_, 1) := by decide +kernel
theorem dX1_place_0 : decode cX1_place 0 = .ok (.aload_n 0, 1) := by decide +kernel
theorem dX1_place_1 : decode cX1_place 1 = .ok (.getfield 9, 3) := by decide +kernel
theorem dX1_place_4 : decode cX1_place 4 = .ok (.bipush 10, 2) := by decide +kernel
theorem dX1_place_6 : decode cX1_place 6 = .ok (.irem, 1) := by decide +kernel
theorem dX1_place_7 : decode cX1_place 7 = .ok (.ireturn, 1) := by decide +kernel
theorem dX1_sunNow_0 : decode cX1_sunNow 0 = .ok (.aload_n 0, 1) := by decide +kernel
theorem dX1_sunNow_1 : decode cX1_sunNow 1 = .ok (.getfield 18, 3) := by decide +kernel
theorem dX1_sunNow_4 : decode cX1_sunNow 4 = .ok (.aload_n 0, 1) := by decide +kernel
theorem dX1_sunNow_5 : decode cX1_sunNow 5 = .ok (.invokevirtual 58, 3) := by decide +kernel
theorem dX1_sunNow_8 : decode cX1_sunNow 8 = .ok (.iaload, 1) := by decide +kernel
theorem dX1_sunNow_9 : decode cX1_sunNow 9 = .ok (.ireturn, 1) := by decide +kernel
theorem dX1_sunOfAll_0 : decode cX1_sunOfAll 0 = .ok (.iconst 0, 1) := by decide +kernel
theorem dX1_sunOfAll_1 : decode cX1_sunOfAll 1 = .ok (.istore_n 1, 1) := by decide +kernel
theorem dX1_sunOfAll_2 : decode cX1_sunOfAll 2 = .ok (.iconst 0, 1) := by decide +kernel
theorem dX1_sunOfAll_3 : decode cX1_sunOfAll 3 = .ok (.istore_n 2, 1) := by decide +kernel
theorem dX1_sunOfAll_4 : decode cX1_sunOfAll 4 = .ok (.iload_n 2, 1) := by decide +kernel
theorem dX1_sunOfAll_5 : decode cX1_sunOfAll 5 = .ok (.bipush 10, 2) := by decide +kernel
theorem dX1_sunOfAll_7 : decode cX1_sunOfAll 7 = .ok (.if_icmp .ge 18, 3) := by decide +kernel
theorem dX1_sunOfAll_10 : decode cX1_sunOfAll 10 = .ok (.iload_n 1, 1) := by decide +kernel
theorem dX1_sunOfAll_11 : decode cX1_sunOfAll 11 = .ok (.aload_n 0, 1) := by decide +kernel
theorem dX1_sunOfAll_12 : decode cX1_sunOfAll 12 = .ok (.getfield 18, 3) := by decide +kernel
theorem dX1_sunOfAll_15 : decode cX1_sunOfAll 15 = .ok (.iload_n 2, 1) := by decide +kernel
theorem dX1_sunOfAll_16 : decode cX1_sunOfAll 16 = .ok (.iaload, 1) := by decide +kernel
theorem dX1_sunOfAll_17 : decode cX1_sunOfAll 17 = .ok (.iadd, 1) := by decide +kernel
theorem dX1_sunOfAll_18 : decode cX1_sunOfAll 18 = .ok (.istore_n 1, 1) := by decide +kernel
theorem dX1_sunOfAll_19 : decode cX1_sunOfAll 19 = .ok (.iinc 2 1, 3) := by decide +kernel
theorem dX1_sunOfAll_22 : decode cX1_sunOfAll 22 = .ok (.goto (-18), 3) := by decide +kernel
theorem dX1_sunOfAll_25 : decode cX1_sunOfAll 25 = .ok (.iload_n 1, 1) := by decide +kernel
theorem dX1_sunOfAll_26 : decode cX1_sunOfAll 26 = .ok (.ireturn, 1) := by decide +kernel
theorem dX1_add_0 : decode cX1_add 0 = .ok (.aload_n 0, 1) := by decide +kernel
theorem dX1_add_1 : decode cX1_add 1 = .ok (.getfield 15, 3) := by decide +kernel
theorem dX1_add_4 : decode cX1_add 4 = .ok (.istore_n 3, 1) := by decide +kernel
theorem dX1_add_5 : decode cX1_add 5 = .ok (.aload_n 0, 1) := by decide +kernel
theorem dX1_add_6 : decode cX1_add 6 = .ok (.getfield 25, 3) := by decide +kernel
theorem dX1_add_9 : decode cX1_add 9 = .ok (.iload_n 3, 1) := by decide +kernel
theorem dX1_add_10 : decode cX1_add 10 = .ok (.iload_n 1, 1) := by decide +kernel
theorem dX1_add_11 : decode cX1_add 11 = .ok (.iastore, 1) := by decide +kernel
theorem dX1_add_12 : decode cX1_add 12 = .ok (.aload_n 0, 1) := by decide +kernel
theorem dX1_add_13 : decode cX1_add 13 = .ok (.getfield 28, 3) := by decide +kernel
theorem dX1_add_16 : decode cX1_add 16 = .ok (.iload_n 3, 1) := by decide +kernel
theorem dX1_add_17 : decode cX1_add 17 = .ok (.iconst (-1), 1) := by decide +kernel
theorem dX1_add_18 : decode cX1_add 18 = .ok (.iastore, 1) := by decide +kernel
theorem dX1_add_19 : decode cX1_add 19 = .ok (.aload_n 0, 1) := by decide +kernel
theorem dX1_add_20 : decode cX1_add 20 = .ok (.getfield 31, 3) := by decide +kernel
theorem dX1_add_23 : decode cX1_add 23 = .ok (.iload_n 3, 1) := by decide +kernel
theorem dX1_add_24 : decode cX1_add 24 = .ok (.iload_n 2, 1) := by decide +kernel
theorem dX1_add_25 : decode cX1_add 25 = .ok (.iastore, 1) := by decide +kernel
theorem dX1_add_26 : decode cX1_add 26 = .ok (.aload_n 0, 1) := by decide +kernel
theorem dX1_add_27 : decode cX1_add 27 = .ok (.getfield 34, 3) := by decide +kernel
theorem dX1_add_30 : decode cX1_add 30 = .ok (.iload_n 3, 1) := by decide +kernel
theorem dX1_add_31 : decode cX1_add 31 = .ok (.iload_n 2, 1) := by decide +kernel
theorem dX1_add_32 : decode cX1_add 32 = .ok (.iastore, 1) := by decide +kernel
theorem dX1_add_33 : decode cX1_add 33 = .ok (.aload_n 0, 1) := by decide +kernel
theorem dX1_add_34 : decode cX1_add 34 = .ok (.getfield 37, 3) := by decide +kernel
theorem dX1_add_37 : decode cX1_add 37 = .ok (.iload_n 3, 1) := by decide +kernel
theorem dX1_add_38 : decode cX1_add 38 = .ok (.iconst 0, 1) := by decide +kernel
theorem dX1_add_39 : decode cX1_add 39 = .ok (.iastore, 1) := by decide +kernel
theorem dX1_add_40 : decode cX1_add 40 = .ok (.aload_n 0, 1) := by decide +kernel
theorem dX1_add_41 : decode cX1_add 41 = .ok (.iload_n 3, 1) := by decide +kernel
theorem dX1_add_42 : decode cX1_add 42 = .ok (.iconst 1, 1) := by decide +kernel
theorem dX1_add_43 : decode cX1_add 43 = .ok (.iadd, 1) := by decide +kernel
theorem dX1_add_44 : decode cX1_add 44 = .ok (.putfield 15, 3) := by decide +kernel
theorem dX1_add_47 : decode cX1_add 47 = .ok (.iload_n 3, 1) := by decide +kernel
theorem dX1_add_48 : decode cX1_add 48 = .ok (.ireturn, 1) := by decide +kernel
theorem dX1_sits_0 : decode cX1_sits 0 = .ok (.aload_n 0, 1) := by decide +kernel
theorem dX1_sits_1 : decode cX1_sits 1 = .ok (.getfield 28, 3) := by decide +kernel
theorem dX1_sits_4 : decode cX1_sits 4 = .ok (.iload_n 1, 1) := by decide +kernel
theorem dX1_sits_5 : decode cX1_sits 5 = .ok (.iaload, 1) := by decide +kernel
theorem dX1_sits_6 : decode cX1_sits 6 = .ok (.ifCond .lt 7, 3) := by decide +kernel
theorem dX1_sits_9 : decode cX1_sits 9 = .ok (.iconst 1, 1) := by decide +kernel
theorem dX1_sits_10 : decode cX1_sits 10 = .ok (.goto 4, 3) := by decide +kernel
theorem dX1_sits_13 : decode cX1_sits 13 = .ok (.iconst 0, 1) := by decide +kernel
theorem dX1_sits_14 : decode cX1_sits 14 = .ok (.ireturn, 1) := by decide +kernel
theorem dX1_isFreeFor_0 : decode cX1_isFreeFor 0 = .ok (.aload_n 0, 1) := by decide +kernel
theorem dX1_isFreeFor_1 : decode cX1_isFreeFor 1 = .ok (.getfield 22, 3) := by decide +kernel
theorem dX1_isFreeFor_4 : decode cX1_isFreeFor 4 = .ok (.iload_n 2, 1) := by decide +kernel
theorem dX1_isFreeFor_5 : decode cX1_isFreeFor 5 = .ok (.iaload, 1) := by decide +kernel
theorem dX1_isFreeFor_6 : decode cX1_isFreeFor 6 = .ok (.ifCond .lt 13, 3) := by decide +kernel
theorem dX1_isFreeFor_9 : decode cX1_isFreeFor 9 = .ok (.aload_n 0, 1) := by decide +kernel
theorem dX1_isFreeFor_10 : decode cX1_isFreeFor 10 = .ok (.getfield 22, 3) := by decide +kernel
theorem dX1_isFreeFor_13 : decode cX1_isFreeFor 13 = .ok (.iload_n 2, 1) := by decide +kernel
theorem dX1_isFreeFor_14 : decode cX1_isFreeFor 14 = .ok (.iaload, 1) := by decide +kernel
theorem dX1_isFreeFor_15 : decode cX1_isFreeFor 15 = .ok (.iload_n 1, 1) := by decide +kernel
theorem dX1_isFreeFor_16 : decode cX1_isFreeFor 16 = .ok (.if_icmp .ne 7, 3) := by decide +kernel
theorem dX1_isFreeFor_19 : decode cX1_isFreeFor 19 = .ok (.iconst 1, 1) := by decide +kernel
theorem dX1_isFreeFor_20 : decode cX1_isFreeFor 20 = .ok (.goto 4, 3) := by decide +kernel
theorem dX1_isFreeFor_23 : decode cX1_isFreeFor 23 = .ok (.iconst 0, 1) := by decide +kernel
theorem dX1_isFreeFor_24 : decode cX1_isFreeFor 24 = .ok (.ireturn, 1) := by decide +kernel
theorem dX1_seat_0 : decode cX1_seat 0 = .ok (.aload_n 0, 1) := by decide +kernel
theorem dX1_seat_1 : decode cX1_seat 1 = .ok (.getfield 28, 3) := by decide +kernel
theorem dX1_seat_4 : decode cX1_seat 4 = .ok (.iload_n 1, 1) := by decide +kernel
theorem dX1_seat_5 : decode cX1_seat 5 = .ok (.iaload, 1) := by decide +kernel
theorem dX1_seat_6 : decode cX1_seat 6 = .ok (.ifCond .lt 15, 3) := by decide +kernel
theorem dX1_seat_9 : decode cX1_seat 9 = .ok (.aload_n 0, 1) := by decide +kernel
theorem dX1_seat_10 : decode cX1_seat 10 = .ok (.getfield 22, 3) := by decide +kernel
theorem dX1_seat_13 : decode cX1_seat 13 = .ok (.aload_n 0, 1) := by decide +kernel
theorem dX1_seat_14 : decode cX1_seat 14 = .ok (.getfield 28, 3) := by decide +kernel
theorem dX1_seat_17 : decode cX1_seat 17 = .ok (.iload_n 1, 1) := by decide +kernel
theorem dX1_seat_18 : decode cX1_seat 18 = .ok (.iaload, 1) := by decide +kernel
theorem dX1_seat_19 : decode cX1_seat 19 = .ok (.iconst (-1), 1) := by decide +kernel
theorem dX1_seat_20 : decode cX1_seat 20 = .ok (.iastore, 1) := by decide +kernel
theorem dX1_seat_21 : decode cX1_seat 21 = .ok (.aload_n 0, 1) := by decide +kernel
theorem dX1_seat_22 : decode cX1_seat 22 = .ok (.getfield 28, 3) := by decide +kernel
theorem dX1_seat_25 : decode cX1_seat 25 = .ok (.iload_n 1, 1) := by decide +kernel
theorem dX1_seat_26 : decode cX1_seat 26 = .ok (.iload_n 2, 1) := by decide +kernel
theorem dX1_seat_27 : decode cX1_seat 27 = .ok (.iastore, 1) := by decide +kernel
theorem dX1_seat_28 : decode cX1_seat 28 = .ok (.iload_n 2, 1) := by decide +kernel
theorem dX1_seat_29 : decode cX1_seat 29 = .ok (.ifCond .lt 10, 3) := by decide +kernel
theorem dX1_seat_32 : decode cX1_seat 32 = .ok (.aload_n 0, 1) := by decide +kernel
theorem dX1_seat_33 : decode cX1_seat 33 = .ok (.getfield 22, 3) := by decide +kernel
theorem dX1_seat_36 : decode cX1_seat 36 = .ok (.iload_n 2, 1) := by decide +kernel
theorem dX1_seat_37 : decode cX1_seat 37 = .ok (.iload_n 1, 1) := by decide +kernel
theorem dX1_seat_38 : decode cX1_seat 38 = .ok (.iastore, 1) := by decide +kernel
theorem dX1_seat_39 : decode cX1_seat 39 = .ok (.return_, 1) := by decide +kernel
theorem dX1_swap_0 : decode cX1_swap 0 = .ok (.aload_n 0, 1) := by decide +kernel
theorem dX1_swap_1 : decode cX1_swap 1 = .ok (.getfield 28, 3) := by decide +kernel
theorem dX1_swap_4 : decode cX1_swap 4 = .ok (.iload_n 1, 1) := by decide +kernel
theorem dX1_swap_5 : decode cX1_swap 5 = .ok (.iaload, 1) := by decide +kernel
theorem dX1_swap_6 : decode cX1_swap 6 = .ok (.istore_n 3, 1) := by decide +kernel
theorem dX1_swap_7 : decode cX1_swap 7 = .ok (.aload_n 0, 1) := by decide +kernel
theorem dX1_swap_8 : decode cX1_swap 8 = .ok (.getfield 28, 3) := by decide +kernel
theorem dX1_swap_11 : decode cX1_swap 11 = .ok (.iload_n 2, 1) := by decide +kernel
theorem dX1_swap_12 : decode cX1_swap 12 = .ok (.iaload, 1) := by decide +kernel
theorem dX1_swap_13 : decode cX1_swap 13 = .ok (.istore 4, 2) := by decide +kernel
theorem dX1_swap_15 : decode cX1_swap 15 = .ok (.aload_n 0, 1) := by decide +kernel
theorem dX1_swap_16 : decode cX1_swap 16 = .ok (.iload_n 1, 1) := by decide +kernel
theorem dX1_swap_17 : decode cX1_swap 17 = .ok (.iconst (-1), 1) := by decide +kernel
theorem dX1_swap_18 : decode cX1_swap 18 = .ok (.invokevirtual 62, 3) := by decide +kernel
theorem dX1_swap_21 : decode cX1_swap 21 = .ok (.aload_n 0, 1) := by decide +kernel
theorem dX1_swap_22 : decode cX1_swap 22 = .ok (.iload_n 2, 1) := by decide +kernel
theorem dX1_swap_23 : decode cX1_swap 23 = .ok (.iload_n 3, 1) := by decide +kernel
theorem dX1_swap_24 : decode cX1_swap 24 = .ok (.invokevirtual 62, 3) := by decide +kernel
theorem dX1_swap_27 : decode cX1_swap 27 = .ok (.aload_n 0, 1) := by decide +kernel
theorem dX1_swap_28 : decode cX1_swap 28 = .ok (.iload_n 1, 1) := by decide +kernel
theorem dX1_swap_29 : decode cX1_swap 29 = .ok (.iload 4, 2) := by decide +kernel
theorem dX1_swap_31 : decode cX1_swap 31 = .ok (.invokevirtual 62, 3) := by decide +kernel
theorem dX1_swap_34 : decode cX1_swap 34 = .ok (.return_, 1) := by decide +kernel
theorem dX1_neighbour_0 : decode cX1_neighbour 0 = .ok (.aload_n 0, 1) := by decide +kernel
theorem dX1_neighbour_1 : decode cX1_neighbour 1 = .ok (.getfield 28, 3) := by decide +kernel
theorem dX1_neighbour_4 : decode cX1_neighbour 4 = .ok (.iload_n 1, 1) := by decide +kernel
theorem dX1_neighbour_5 : decode cX1_neighbour 5 = .ok (.iaload, 1) := by decide +kernel
theorem dX1_neighbour_6 : decode cX1_neighbour 6 = .ok (.iload_n 2, 1) := by decide +kernel
theorem dX1_neighbour_7 : decode cX1_neighbour 7 = .ok (.iadd, 1) := by decide +kernel
theorem dX1_neighbour_8 : decode cX1_neighbour 8 = .ok (.istore_n 3, 1) := by decide +kernel
theorem dX1_neighbour_9 : decode cX1_neighbour 9 = .ok (.aload_n 0, 1) := by decide +kernel
theorem dX1_neighbour_10 : decode cX1_neighbour 10 = .ok (.iload_n 1, 1) := by decide +kernel
theorem dX1_neighbour_11 : decode cX1_neighbour 11 = .ok (.invokevirtual 66, 3) := by decide +kernel
theorem dX1_neighbour_14 : decode cX1_neighbour 14 = .ok (.ifCond .eq 22, 3) := by decide +kernel
theorem dX1_neighbour_17 : decode cX1_neighbour 17 = .ok (.iload_n 3, 1) := by decide +kernel
theorem dX1_neighbour_18 : decode cX1_neighbour 18 = .ok (.iconst 0, 1) := by decide +kernel
theorem dX1_neighbour_19 : decode cX1_neighbour 19 = .ok (.bipush 9, 2) := by decide +kernel
theorem dX1_neighbour_21 : decode cX1_neighbour 21 = .ok (.invokestatic 70, 3) := by decide +kernel
theorem dX1_neighbour_24 : decode cX1_neighbour 24 = .ok (.ifCond .eq 12, 3) := by decide +kernel
theorem dX1_neighbour_27 : decode cX1_neighbour 27 = .ok (.aload_n 0, 1) := by decide +kernel
theorem dX1_neighbour_28 : decode cX1_neighbour 28 = .ok (.getfield 22, 3) := by decide +kernel
theorem dX1_neighbour_31 : decode cX1_neighbour 31 = .ok (.iload_n 3, 1) := by decide +kernel
theorem dX1_neighbour_32 : decode cX1_neighbour 32 = .ok (.iaload, 1) := by decide +kernel
theorem dX1_neighbour_33 : decode cX1_neighbour 33 = .ok (.goto 4, 3) := by decide +kernel
theorem dX1_neighbour_36 : decode cX1_neighbour 36 = .ok (.iconst (-1), 1) := by decide +kernel
theorem dX1_neighbour_37 : decode cX1_neighbour 37 = .ok (.ireturn, 1) := by decide +kernel
theorem dX1_setOfSitters_0 : decode cX1_setOfSitters 0 = .ok (.iconst 0, 1) := by decide +kernel
theorem dX1_setOfSitters_1 : decode cX1_setOfSitters 1 = .ok (.istore_n 1, 1) := by decide +kernel
theorem dX1_setOfSitters_2 : decode cX1_setOfSitters 2 = .ok (.iconst 0, 1) := by decide +kernel
theorem dX1_setOfSitters_3 : decode cX1_setOfSitters 3 = .ok (.istore_n 2, 1) := by decide +kernel
theorem dX1_setOfSitters_4 : decode cX1_setOfSitters 4 = .ok (.iload_n 2, 1) := by decide +kernel
theorem dX1_setOfSitters_5 : decode cX1_setOfSitters 5 = .ok (.aload_n 0, 1) := by decide +kernel
theorem dX1_setOfSitters_6 : decode cX1_setOfSitters 6 = .ok (.getfield 15, 3) := by decide +kernel
theorem dX1_setOfSitters_9 : decode cX1_setOfSitters 9 = .ok (.if_icmp .ge 23, 3) := by decide +kernel
theorem dX1_setOfSitters_12 : decode cX1_setOfSitters 12 = .ok (.aload_n 0, 1) := by decide +kernel
theorem dX1_setOfSitters_13 : decode cX1_setOfSitters 13 = .ok (.iload_n 2, 1) := by decide +kernel
theorem dX1_setOfSitters_14 : decode cX1_setOfSitters 14 = .ok (.invokevirtual 66, 3) := by decide +kernel
theorem dX1_setOfSitters_17 : decode cX1_setOfSitters 17 = .ok (.ifCond .eq 9, 3) := by decide +kernel
theorem dX1_setOfSitters_20 : decode cX1_setOfSitters 20 = .ok (.iload_n 1, 1) := by decide +kernel
theorem dX1_setOfSitters_21 : decode cX1_setOfSitters 21 = .ok (.iconst 1, 1) := by decide +kernel
theorem dX1_setOfSitters_22 : decode cX1_setOfSitters 22 = .ok (.iload_n 2, 1) := by decide +kernel
theorem dX1_setOfSitters_23 : decode cX1_setOfSitters 23 = .ok (.ishl, 1) := by decide +kernel
theorem dX1_setOfSitters_24 : decode cX1_setOfSitters 24 = .ok (.ior, 1) := by decide +kernel
theorem dX1_setOfSitters_25 : decode cX1_setOfSitters 25 = .ok (.istore_n 1, 1) := by decide +kernel
theorem dX1_setOfSitters_26 : decode cX1_setOfSitters 26 = .ok (.iinc 2 1, 3) := by decide +kernel
theorem dX1_setOfSitters_29 : decode cX1_setOfSitters 29 = .ok (.goto (-25), 3) := by decide +kernel
theorem dX1_setOfSitters_32 : decode cX1_setOfSitters 32 = .ok (.iload_n 1, 1) := by decide +kernel
theorem dX1_setOfSitters_33 : decode cX1_setOfSitters 33 = .ok (.ireturn, 1) := by decide +kernel
theorem dX1_setOfEven_0 : decode cX1_setOfEven 0 = .ok (.iconst 0, 1) := by decide +kernel
theorem dX1_setOfEven_1 : decode cX1_setOfEven 1 = .ok (.istore_n 1, 1) := by decide +kernel
theorem dX1_setOfEven_2 : decode cX1_setOfEven 2 = .ok (.iconst 0, 1) := by decide +kernel
theorem dX1_setOfEven_3 : decode cX1_setOfEven 3 = .ok (.istore_n 2, 1) := by decide +kernel
theorem dX1_setOfEven_4 : decode cX1_setOfEven 4 = .ok (.iload_n 2, 1) := by decide +kernel
theorem dX1_setOfEven_5 : decode cX1_setOfEven 5 = .ok (.aload_n 0, 1) := by decide +kernel
theorem dX1_setOfEven_6 : decode cX1_setOfEven 6 = .ok (.getfield 15, 3) := by decide +kernel
theorem dX1_setOfEven_9 : decode cX1_setOfEven 9 = .ok (.if_icmp .ge 23, 3) := by decide +kernel
theorem dX1_setOfEven_12 : decode cX1_setOfEven 12 = .ok (.aload_n 0, 1) := by decide +kernel
theorem dX1_setOfEven_13 : decode cX1_setOfEven 13 = .ok (.iload_n 2, 1) := by decide +kernel
theorem dX1_setOfEven_14 : decode cX1_setOfEven 14 = .ok (.invokevirtual 74, 3) := by decide +kernel
theorem dX1_setOfEven_17 : decode cX1_setOfEven 17 = .ok (.ifCond .eq 9, 3) := by decide +kernel
theorem dX1_setOfEven_20 : decode cX1_setOfEven 20 = .ok (.iload_n 1, 1) := by decide +kernel
theorem dX1_setOfEven_21 : decode cX1_setOfEven 21 = .ok (.iconst 1, 1) := by decide +kernel
theorem dX1_setOfEven_22 : decode cX1_setOfEven 22 = .ok (.iload_n 2, 1) := by decide +kernel
theorem dX1_setOfEven_23 : decode cX1_setOfEven 23 = .ok (.ishl, 1) := by decide +kernel
theorem dX1_setOfEven_24 : decode cX1_setOfEven 24 = .ok (.ior, 1) := by decide +kernel
theorem dX1_setOfEven_25 : decode cX1_setOfEven 25 = .ok (.istore_n 1, 1) := by decide +kernel
theorem dX1_setOfEven_26 : decode cX1_setOfEven 26 = .ok (.iinc 2 1, 3) := by decide +kernel
theorem dX1_setOfEven_29 : decode cX1_setOfEven 29 = .ok (.goto (-25), 3) := by decide +kernel
theorem dX1_setOfEven_32 : decode cX1_setOfEven 32 = .ok (.iload_n 1, 1) := by decide +kernel
theorem dX1_setOfEven_33 : decode cX1_setOfEven 33 = .ok (.ireturn, 1) := by decide +kernel
theorem dX1_isEven_0 : decode cX1_isEven 0 = .ok (.aload_n 0, 1) := by decide +kernel
theorem dX1_isEven_1 : decode cX1_isEven 1 = .ok (.getfield 31, 3) := by decide +kernel
theorem dX1_isEven_4 : decode cX1_isEven 4 = .ok (.iload_n 1, 1) := by decide +kernel
theorem dX1_isEven_5 : decode cX1_isEven 5 = .ok (.iaload, 1) := by decide +kernel
theorem dX1_isEven_6 : decode cX1_isEven 6 = .ok (.aload_n 0, 1) := by decide +kernel
theorem dX1_isEven_7 : decode cX1_isEven 7 = .ok (.getfield 34, 3) := by decide +kernel
theorem dX1_isEven_10 : decode cX1_isEven 10 = .ok (.iload_n 1, 1) := by decide +kernel
theorem dX1_isEven_11 : decode cX1_isEven 11 = .ok (.iaload, 1) := by decide +kernel
theorem dX1_isEven_12 : decode cX1_isEven 12 = .ok (.isub, 1) := by decide +kernel
theorem dX1_isEven_13 : decode cX1_isEven 13 = .ok (.invokestatic 77, 3) := by decide +kernel
theorem dX1_isEven_16 : decode cX1_isEven 16 = .ok (.iconst 5, 1) := by decide +kernel
theorem dX1_isEven_17 : decode cX1_isEven 17 = .ok (.if_icmp .gt 7, 3) := by decide +kernel
theorem dX1_isEven_20 : decode cX1_isEven 20 = .ok (.iconst 1, 1) := by decide +kernel
theorem dX1_isEven_21 : decode cX1_isEven 21 = .ok (.goto 4, 3) := by decide +kernel
theorem dX1_isEven_24 : decode cX1_isEven 24 = .ok (.iconst 0, 1) := by decide +kernel
theorem dX1_isEven_25 : decode cX1_isEven 25 = .ok (.ireturn, 1) := by decide +kernel
theorem dX1_brownOf_0 : decode cX1_brownOf 0 = .ok (.aload_n 0, 1) := by decide +kernel
theorem dX1_brownOf_1 : decode cX1_brownOf 1 = .ok (.getfield 31, 3) := by decide +kernel
theorem dX1_brownOf_4 : decode cX1_brownOf 4 = .ok (.iload_n 1, 1) := by decide +kernel
theorem dX1_brownOf_5 : decode cX1_brownOf 5 = .ok (.iaload, 1) := by decide +kernel
theorem dX1_brownOf_6 : decode cX1_brownOf 6 = .ok (.aload_n 0, 1) := by decide +kernel
theorem dX1_brownOf_7 : decode cX1_brownOf 7 = .ok (.getfield 34, 3) := by decide +kernel
theorem dX1_brownOf_10 : decode cX1_brownOf 10 = .ok (.iload_n 1, 1) := by decide +kernel
theorem dX1_brownOf_11 : decode cX1_brownOf 11 = .ok (.iaload, 1) := by decide +kernel
theorem dX1_brownOf_12 : decode cX1_brownOf 12 = .ok (.iadd, 1) := by decide +kernel
theorem dX1_brownOf_13 : decode cX1_brownOf 13 = .ok (.ireturn, 1) := by decide +kernel
theorem dX1_brownOfAll_0 : decode cX1_brownOfAll 0 = .ok (.iconst 0, 1) := by decide +kernel
theorem dX1_brownOfAll_1 : decode cX1_brownOfAll 1 = .ok (.istore_n 1, 1) := by decide +kernel
theorem dX1_brownOfAll_2 : decode cX1_brownOfAll 2 = .ok (.iconst 0, 1) := by decide +kernel
theorem dX1_brownOfAll_3 : decode cX1_brownOfAll 3 = .ok (.istore_n 2, 1) := by decide +kernel
theorem dX1_brownOfAll_4 : decode cX1_brownOfAll 4 = .ok (.iload_n 2, 1) := by decide +kernel
theorem dX1_brownOfAll_5 : decode cX1_brownOfAll 5 = .ok (.aload_n 0, 1) := by decide +kernel
theorem dX1_brownOfAll_6 : decode cX1_brownOfAll 6 = .ok (.getfield 15, 3) := by decide +kernel
theorem dX1_brownOfAll_9 : decode cX1_brownOfAll 9 = .ok (.if_icmp .ge 17, 3) := by decide +kernel
theorem dX1_brownOfAll_12 : decode cX1_brownOfAll 12 = .ok (.iload_n 1, 1) := by decide +kernel
theorem dX1_brownOfAll_13 : decode cX1_brownOfAll 13 = .ok (.aload_n 0, 1) := by decide +kernel
theorem dX1_brownOfAll_14 : decode cX1_brownOfAll 14 = .ok (.iload_n 2, 1) := by decide +kernel
theorem dX1_brownOfAll_15 : decode cX1_brownOfAll 15 = .ok (.invokevirtual 83, 3) := by decide +kernel
theorem dX1_brownOfAll_18 : decode cX1_brownOfAll 18 = .ok (.iadd, 1) := by decide +kernel
theorem dX1_brownOfAll_19 : decode cX1_brownOfAll 19 = .ok (.istore_n 1, 1) := by decide +kernel
theorem dX1_brownOfAll_20 : decode cX1_brownOfAll 20 = .ok (.iinc 2 1, 3) := by decide +kernel
theorem dX1_brownOfAll_23 : decode cX1_brownOfAll 23 = .ok (.goto (-19), 3) := by decide +kernel
theorem dX1_brownOfAll_26 : decode cX1_brownOfAll 26 = .ok (.iload_n 1, 1) := by decide +kernel
theorem dX1_brownOfAll_27 : decode cX1_brownOfAll 27 = .ok (.ireturn, 1) := by decide +kernel
theorem dX1_burntOfAll_0 : decode cX1_burntOfAll 0 = .ok (.iconst 0, 1) := by decide +kernel
theorem dX1_burntOfAll_1 : decode cX1_burntOfAll 1 = .ok (.istore_n 1, 1) := by decide +kernel
theorem dX1_burntOfAll_2 : decode cX1_burntOfAll 2 = .ok (.iconst 0, 1) := by decide +kernel
theorem dX1_burntOfAll_3 : decode cX1_burntOfAll 3 = .ok (.istore_n 2, 1) := by decide +kernel
theorem dX1_burntOfAll_4 : decode cX1_burntOfAll 4 = .ok (.iload_n 2, 1) := by decide +kernel
theorem dX1_burntOfAll_5 : decode cX1_burntOfAll 5 = .ok (.aload_n 0, 1) := by decide +kernel
theorem dX1_burntOfAll_6 : decode cX1_burntOfAll 6 = .ok (.getfield 15, 3) := by decide +kernel
theorem dX1_burntOfAll_9 : decode cX1_burntOfAll 9 = .ok (.if_icmp .ge 18, 3) := by decide +kernel
theorem dX1_burntOfAll_12 : decode cX1_burntOfAll 12 = .ok (.iload_n 1, 1) := by decide +kernel
theorem dX1_burntOfAll_13 : decode cX1_burntOfAll 13 = .ok (.aload_n 0, 1) := by decide +kernel
theorem dX1_burntOfAll_14 : decode cX1_burntOfAll 14 = .ok (.getfield 37, 3) := by decide +kernel
theorem dX1_burntOfAll_17 : decode cX1_burntOfAll 17 = .ok (.iload_n 2, 1) := by decide +kernel
theorem dX1_burntOfAll_18 : decode cX1_burntOfAll 18 = .ok (.iaload, 1) := by decide +kernel
theorem dX1_burntOfAll_19 : decode cX1_burntOfAll 19 = .ok (.iadd, 1) := by decide +kernel
theorem dX1_burntOfAll_20 : decode cX1_burntOfAll 20 = .ok (.istore_n 1, 1) := by decide +kernel
theorem dX1_burntOfAll_21 : decode cX1_burntOfAll 21 = .ok (.iinc 2 1, 3) := by decide +kernel
theorem dX1_burntOfAll_24 : decode cX1_burntOfAll 24 = .ok (.goto (-20), 3) := by decide +kernel
theorem dX1_burntOfAll_27 : decode cX1_burntOfAll 27 = .ok (.iload_n 1, 1) := by decide +kernel
theorem dX1_burntOfAll_28 : decode cX1_burntOfAll 28 = .ok (.ireturn, 1) := by decide +kernel
theorem dX1_fadesOf_0 : decode cX1_fadesOf 0 = .ok (.aload_n 0, 1) := by decide +kernel
theorem dX1_fadesOf_1 : decode cX1_fadesOf 1 = .ok (.iload_n 1, 1) := by decide +kernel
theorem dX1_fadesOf_2 : decode cX1_fadesOf 2 = .ok (.iconst (-1), 1) := by decide +kernel
theorem dX1_fadesOf_3 : decode cX1_fadesOf 3 = .ok (.invokevirtual 86, 3) := by decide +kernel
theorem dX1_fadesOf_6 : decode cX1_fadesOf 6 = .ok (.ifCond .lt 16, 3) := by decide +kernel
theorem dX1_fadesOf_9 : decode cX1_fadesOf 9 = .ok (.aload_n 0, 1) := by decide +kernel
theorem dX1_fadesOf_10 : decode cX1_fadesOf 10 = .ok (.iload_n 1, 1) := by decide +kernel
theorem dX1_fadesOf_11 : decode cX1_fadesOf 11 = .ok (.iconst 1, 1) := by decide +kernel
theorem dX1_fadesOf_12 : decode cX1_fadesOf 12 = .ok (.invokevirtual 86, 3) := by decide +kernel
theorem dX1_fadesOf_15 : decode cX1_fadesOf 15 = .ok (.ifCond .lt 7, 3) := by decide +kernel
theorem dX1_fadesOf_18 : decode cX1_fadesOf 18 = .ok (.iconst 1, 1) := by decide +kernel
theorem dX1_fadesOf_19 : decode cX1_fadesOf 19 = .ok (.goto 4, 3) := by decide +kernel
theorem dX1_fadesOf_22 : decode cX1_fadesOf 22 = .ok (.iconst 0, 1) := by decide +kernel
theorem dX1_fadesOf_23 : decode cX1_fadesOf 23 = .ok (.istore_n 2, 1) := by decide +kernel
theorem dX1_fadesOf_24 : decode cX1_fadesOf 24 = .ok (.aload_n 0, 1) := by decide +kernel
theorem dX1_fadesOf_25 : decode cX1_fadesOf 25 = .ok (.getfield 25, 3) := by decide +kernel
theorem dX1_fadesOf_28 : decode cX1_fadesOf 28 = .ok (.iload_n 1, 1) := by decide +kernel
theorem dX1_fadesOf_29 : decode cX1_fadesOf 29 = .ok (.iaload, 1) := by decide +kernel
theorem dX1_fadesOf_30 : decode cX1_fadesOf 30 = .ok (.aload_n 0, 1) := by decide +kernel
theorem dX1_fadesOf_31 : decode cX1_fadesOf 31 = .ok (.invokevirtual 90, 3) := by decide +kernel
theorem dX1_fadesOf_34 : decode cX1_fadesOf 34 = .ok (.iload_n 2, 1) := by decide +kernel
theorem dX1_fadesOf_35 : decode cX1_fadesOf 35 = .ok (.invokestatic 93, 3) := by decide +kernel
theorem dX1_fadesOf_38 : decode cX1_fadesOf 38 = .ok (.ireturn, 1) := by decide +kernel
theorem dX1_givenLeft_0 : decode cX1_givenLeft 0 = .ok (.aload_n 0, 1) := by decide +kernel
theorem dX1_givenLeft_1 : decode cX1_givenLeft 1 = .ok (.iload_n 1, 1) := by decide +kernel
theorem dX1_givenLeft_2 : decode cX1_givenLeft 2 = .ok (.iconst (-1), 1) := by decide +kernel
theorem dX1_givenLeft_3 : decode cX1_givenLeft 3 = .ok (.invokevirtual 86, 3) := by decide +kernel
theorem dX1_givenLeft_6 : decode cX1_givenLeft 6 = .ok (.istore_n 2, 1) := by decide +kernel
theorem dX1_givenLeft_7 : decode cX1_givenLeft 7 = .ok (.iload_n 2, 1) := by decide +kernel
theorem dX1_givenLeft_8 : decode cX1_givenLeft 8 = .ok (.ifCond .ge 7, 3) := by decide +kernel
theorem dX1_givenLeft_11 : decode cX1_givenLeft 11 = .ok (.iconst 0, 1) := by decide +kernel
theorem dX1_givenLeft_12 : decode cX1_givenLeft 12 = .ok (.goto 28, 3) := by decide +kernel
theorem dX1_givenLeft_15 : decode cX1_givenLeft 15 = .ok (.aload_n 0, 1) := by decide +kernel
theorem dX1_givenLeft_16 : decode cX1_givenLeft 16 = .ok (.getfield 25, 3) := by decide +kernel
theorem dX1_givenLeft_19 : decode cX1_givenLeft 19 = .ok (.iload_n 2, 1) := by decide +kernel
theorem dX1_givenLeft_20 : decode cX1_givenLeft 20 = .ok (.iaload, 1) := by decide +kernel
theorem dX1_givenLeft_21 : decode cX1_givenLeft 21 = .ok (.aload_n 0, 1) := by decide +kernel
theorem dX1_givenLeft_22 : decode cX1_givenLeft 22 = .ok (.getfield 34, 3) := by decide +kernel
theorem dX1_givenLeft_25 : decode cX1_givenLeft 25 = .ok (.iload_n 2, 1) := by decide +kernel
theorem dX1_givenLeft_26 : decode cX1_givenLeft 26 = .ok (.iaload, 1) := by decide +kernel
theorem dX1_givenLeft_27 : decode cX1_givenLeft 27 = .ok (.aload_n 0, 1) := by decide +kernel
theorem dX1_givenLeft_28 : decode cX1_givenLeft 28 = .ok (.invokevirtual 90, 3) := by decide +kernel
theorem dX1_givenLeft_31 : decode cX1_givenLeft 31 = .ok (.aload_n 0, 1) := by decide +kernel
theorem dX1_givenLeft_32 : decode cX1_givenLeft 32 = .ok (.getfield 25, 3) := by decide +kernel
theorem dX1_givenLeft_35 : decode cX1_givenLeft 35 = .ok (.iload_n 1, 1) := by decide +kernel
theorem dX1_givenLeft_36 : decode cX1_givenLeft 36 = .ok (.iaload, 1) := by decide +kernel
theorem dX1_givenLeft_37 : decode cX1_givenLeft 37 = .ok (.invokestatic 99, 3) := by decide +kernel
theorem dX1_givenLeft_40 : decode cX1_givenLeft 40 = .ok (.ireturn, 1) := by decide +kernel
theorem dX1_givenRight_0 : decode cX1_givenRight 0 = .ok (.aload_n 0, 1) := by decide +kernel
theorem dX1_givenRight_1 : decode cX1_givenRight 1 = .ok (.iload_n 1, 1) := by decide +kernel
theorem dX1_givenRight_2 : decode cX1_givenRight 2 = .ok (.iconst 1, 1) := by decide +kernel
theorem dX1_givenRight_3 : decode cX1_givenRight 3 = .ok (.invokevirtual 86, 3) := by decide +kernel
theorem dX1_givenRight_6 : decode cX1_givenRight 6 = .ok (.istore_n 2, 1) := by decide +kernel
theorem dX1_givenRight_7 : decode cX1_givenRight 7 = .ok (.iload_n 2, 1) := by decide +kernel
theorem dX1_givenRight_8 : decode cX1_givenRight 8 = .ok (.ifCond .ge 7, 3) := by decide +kernel
theorem dX1_givenRight_11 : decode cX1_givenRight 11 = .ok (.iconst 0, 1) := by decide +kernel
theorem dX1_givenRight_12 : decode cX1_givenRight 12 = .ok (.goto 28, 3) := by decide +kernel
theorem dX1_givenRight_15 : decode cX1_givenRight 15 = .ok (.aload_n 0, 1) := by decide +kernel
theorem dX1_givenRight_16 : decode cX1_givenRight 16 = .ok (.getfield 25, 3) := by decide +kernel
theorem dX1_givenRight_19 : decode cX1_givenRight 19 = .ok (.iload_n 2, 1) := by decide +kernel
theorem dX1_givenRight_20 : decode cX1_givenRight 20 = .ok (.iaload, 1) := by decide +kernel
theorem dX1_givenRight_21 : decode cX1_givenRight 21 = .ok (.aload_n 0, 1) := by decide +kernel
theorem dX1_givenRight_22 : decode cX1_givenRight 22 = .ok (.getfield 31, 3) := by decide +kernel
theorem dX1_givenRight_25 : decode cX1_givenRight 25 = .ok (.iload_n 2, 1) := by decide +kernel
theorem dX1_givenRight_26 : decode cX1_givenRight 26 = .ok (.iaload, 1) := by decide +kernel
theorem dX1_givenRight_27 : decode cX1_givenRight 27 = .ok (.aload_n 0, 1) := by decide +kernel
theorem dX1_givenRight_28 : decode cX1_givenRight 28 = .ok (.invokevirtual 90, 3) := by decide +kernel
theorem dX1_givenRight_31 : decode cX1_givenRight 31 = .ok (.aload_n 0, 1) := by decide +kernel
theorem dX1_givenRight_32 : decode cX1_givenRight 32 = .ok (.getfield 25, 3) := by decide +kernel
theorem dX1_givenRight_35 : decode cX1_givenRight 35 = .ok (.iload_n 1, 1) := by decide +kernel
theorem dX1_givenRight_36 : decode cX1_givenRight 36 = .ok (.iaload, 1) := by decide +kernel
theorem dX1_givenRight_37 : decode cX1_givenRight 37 = .ok (.invokestatic 99, 3) := by decide +kernel
theorem dX1_givenRight_40 : decode cX1_givenRight 40 = .ok (.ireturn, 1) := by decide +kernel
theorem dX1_goOn_0 : decode cX1_goOn 0 = .ok (.iconst 0, 1) := by decide +kernel
theorem dX1_goOn_1 : decode cX1_goOn 1 = .ok (.istore_n 2, 1) := by decide +kernel
theorem dX1_goOn_2 : decode cX1_goOn 2 = .ok (.iload_n 2, 1) := by decide +kernel
theorem dX1_goOn_3 : decode cX1_goOn 3 = .ok (.iload_n 1, 1) := by decide +kernel
theorem dX1_goOn_4 : decode cX1_goOn 4 = .ok (.if_icmp .ge 13, 3) := by decide +kernel
theorem dX1_goOn_7 : decode cX1_goOn 7 = .ok (.aload_n 0, 1) := by decide +kernel
theorem dX1_goOn_8 : decode cX1_goOn 8 = .ok (.invokevirtual 103, 3) := by decide +kernel
theorem dX1_goOn_11 : decode cX1_goOn 11 = .ok (.iinc 2 1, 3) := by decide +kernel
theorem dX1_goOn_14 : decode cX1_goOn 14 = .ok (.goto (-12), 3) := by decide +kernel
theorem dX1_goOn_17 : decode cX1_goOn 17 = .ok (.return_, 1) := by decide +kernel
theorem dX1_passHour_0 : decode cX1_passHour 0 = .ok (.iconst 0, 1) := by decide +kernel
theorem dX1_passHour_1 : decode cX1_passHour 1 = .ok (.istore_n 1, 1) := by decide +kernel
theorem dX1_passHour_2 : decode cX1_passHour 2 = .ok (.iload_n 1, 1) := by decide +kernel
theorem dX1_passHour_3 : decode cX1_passHour 3 = .ok (.aload_n 0, 1) := by decide +kernel
theorem dX1_passHour_4 : decode cX1_passHour 4 = .ok (.getfield 15, 3) := by decide +kernel
theorem dX1_passHour_7 : decode cX1_passHour 7 = .ok (.if_icmp .ge 31, 3) := by decide +kernel
theorem dX1_passHour_10 : decode cX1_passHour 10 = .ok (.aload_n 0, 1) := by decide +kernel
theorem dX1_passHour_11 : decode cX1_passHour 11 = .ok (.getfield 40, 3) := by decide +kernel
theorem dX1_passHour_14 : decode cX1_passHour 14 = .ok (.iload_n 1, 1) := by decide +kernel
theorem dX1_passHour_15 : decode cX1_passHour 15 = .ok (.aload_n 0, 1) := by decide +kernel
theorem dX1_passHour_16 : decode cX1_passHour 16 = .ok (.iload_n 1, 1) := by decide +kernel
theorem dX1_passHour_17 : decode cX1_passHour 17 = .ok (.invokevirtual 106, 3) := by decide +kernel
theorem dX1_passHour_20 : decode cX1_passHour 20 = .ok (.iastore, 1) := by decide +kernel
theorem dX1_passHour_21 : decode cX1_passHour 21 = .ok (.aload_n 0, 1) := by decide +kernel
theorem dX1_passHour_22 : decode cX1_passHour 22 = .ok (.getfield 43, 3) := by decide +kernel
theorem dX1_passHour_25 : decode cX1_passHour 25 = .ok (.iload_n 1, 1) := by decide +kernel
theorem dX1_passHour_26 : decode cX1_passHour 26 = .ok (.aload_n 0, 1) := by decide +kernel
theorem dX1_passHour_27 : decode cX1_passHour 27 = .ok (.iload_n 1, 1) := by decide +kernel
theorem dX1_passHour_28 : decode cX1_passHour 28 = .ok (.invokevirtual 109, 3) := by decide +kernel
theorem dX1_passHour_31 : decode cX1_passHour 31 = .ok (.iastore, 1) := by decide +kernel
theorem dX1_passHour_32 : decode cX1_passHour 32 = .ok (.iinc 1 1, 3) := by decide +kernel
theorem dX1_passHour_35 : decode cX1_passHour 35 = .ok (.goto (-33), 3) := by decide +kernel
theorem dX1_passHour_38 : decode cX1_passHour 38 = .ok (.iconst 0, 1) := by decide +kernel
theorem dX1_passHour_39 : decode cX1_passHour 39 = .ok (.istore_n 1, 1) := by decide +kernel
theorem dX1_passHour_40 : decode cX1_passHour 40 = .ok (.iload_n 1, 1) := by decide +kernel
theorem dX1_passHour_41 : decode cX1_passHour 41 = .ok (.aload_n 0, 1) := by decide +kernel
theorem dX1_passHour_42 : decode cX1_passHour 42 = .ok (.getfield 15, 3) := by decide +kernel
theorem dX1_passHour_45 : decode cX1_passHour 45 = .ok (.if_icmp .ge 93, 3) := by decide +kernel
theorem dX1_passHour_48 : decode cX1_passHour 48 = .ok (.aload_n 0, 1) := by decide +kernel
theorem dX1_passHour_49 : decode cX1_passHour 49 = .ok (.iload_n 1, 1) := by decide +kernel
theorem dX1_passHour_50 : decode cX1_passHour 50 = .ok (.invokevirtual 66, 3) := by decide +kernel
theorem dX1_passHour_53 : decode cX1_passHour 53 = .ok (.ifCond .eq 79, 3) := by decide +kernel
theorem dX1_passHour_56 : decode cX1_passHour 56 = .ok (.aload_n 0, 1) := by decide +kernel
theorem dX1_passHour_57 : decode cX1_passHour 57 = .ok (.iload_n 1, 1) := by decide +kernel
theorem dX1_passHour_58 : decode cX1_passHour 58 = .ok (.invokevirtual 112, 3) := by decide +kernel
theorem dX1_passHour_61 : decode cX1_passHour 61 = .ok (.istore_n 2, 1) := by decide +kernel
theorem dX1_passHour_62 : decode cX1_passHour 62 = .ok (.aload_n 0, 1) := by decide +kernel
theorem dX1_passHour_63 : decode cX1_passHour 63 = .ok (.getfield 31, 3) := by decide +kernel
theorem dX1_passHour_66 : decode cX1_passHour 66 = .ok (.iload_n 1, 1) := by decide +kernel
theorem dX1_passHour_67 : decode cX1_passHour 67 = .ok (.aload_n 0, 1) := by decide +kernel
theorem dX1_passHour_68 : decode cX1_passHour 68 = .ok (.iload_n 1, 1) := by decide +kernel
theorem dX1_passHour_69 : decode cX1_passHour 69 = .ok (.aload_n 0, 1) := by decide +kernel
theorem dX1_passHour_70 : decode cX1_passHour 70 = .ok (.getfield 31, 3) := by decide +kernel
theorem dX1_passHour_73 : decode cX1_passHour 73 = .ok (.iload_n 1, 1) := by decide +kernel
theorem dX1_passHour_74 : decode cX1_passHour 74 = .ok (.iaload, 1) := by decide +kernel
theorem dX1_passHour_75 : decode cX1_passHour 75 = .ok (.aload_n 0, 1) := by decide +kernel
theorem dX1_passHour_76 : decode cX1_passHour 76 = .ok (.getfield 40, 3) := by decide +kernel
theorem dX1_passHour_79 : decode cX1_passHour 79 = .ok (.iload_n 1, 1) := by decide +kernel
theorem dX1_passHour_80 : decode cX1_passHour 80 = .ok (.iaload, 1) := by decide +kernel
theorem dX1_passHour_81 : decode cX1_passHour 81 = .ok (.iload_n 2, 1) := by decide +kernel
theorem dX1_passHour_82 : decode cX1_passHour 82 = .ok (.invokevirtual 115, 3) := by decide +kernel
theorem dX1_passHour_85 : decode cX1_passHour 85 = .ok (.iastore, 1) := by decide +kernel
theorem dX1_passHour_86 : decode cX1_passHour 86 = .ok (.aload_n 0, 1) := by decide +kernel
theorem dX1_passHour_87 : decode cX1_passHour 87 = .ok (.getfield 34, 3) := by decide +kernel
theorem dX1_passHour_90 : decode cX1_passHour 90 = .ok (.iload_n 1, 1) := by decide +kernel
theorem dX1_passHour_91 : decode cX1_passHour 91 = .ok (.aload_n 0, 1) := by decide +kernel
theorem dX1_passHour_92 : decode cX1_passHour 92 = .ok (.iload_n 1, 1) := by decide +kernel
theorem dX1_passHour_93 : decode cX1_passHour 93 = .ok (.aload_n 0, 1) := by decide +kernel
theorem dX1_passHour_94 : decode cX1_passHour 94 = .ok (.getfield 34, 3) := by decide +kernel
theorem dX1_passHour_97 : decode cX1_passHour 97 = .ok (.iload_n 1, 1) := by decide +kernel
theorem dX1_passHour_98 : decode cX1_passHour 98 = .ok (.iaload, 1) := by decide +kernel
theorem dX1_passHour_99 : decode cX1_passHour 99 = .ok (.aload_n 0, 1) := by decide +kernel
theorem dX1_passHour_100 : decode cX1_passHour 100 = .ok (.getfield 43, 3) := by decide +kernel
theorem dX1_passHour_103 : decode cX1_passHour 103 = .ok (.iload_n 1, 1) := by decide +kernel
theorem dX1_passHour_104 : decode cX1_passHour 104 = .ok (.iaload, 1) := by decide +kernel
theorem dX1_passHour_105 : decode cX1_passHour 105 = .ok (.iload_n 2, 1) := by decide +kernel
theorem dX1_passHour_106 : decode cX1_passHour 106 = .ok (.invokevirtual 115, 3) := by decide +kernel
theorem dX1_passHour_109 : decode cX1_passHour 109 = .ok (.iastore, 1) := by decide +kernel
theorem dX1_passHour_110 : decode cX1_passHour 110 = .ok (.aload_n 0, 1) := by decide +kernel
theorem dX1_passHour_111 : decode cX1_passHour 111 = .ok (.iload_n 1, 1) := by decide +kernel
theorem dX1_passHour_112 : decode cX1_passHour 112 = .ok (.aload_n 0, 1) := by decide +kernel
theorem dX1_passHour_113 : decode cX1_passHour 113 = .ok (.getfield 40, 3) := by decide +kernel
theorem dX1_passHour_116 : decode cX1_passHour 116 = .ok (.iload_n 1, 1) := by decide +kernel
theorem dX1_passHour_117 : decode cX1_passHour 117 = .ok (.iaload, 1) := by decide +kernel
theorem dX1_passHour_118 : decode cX1_passHour 118 = .ok (.invokevirtual 118, 3) := by decide +kernel
theorem dX1_passHour_121 : decode cX1_passHour 121 = .ok (.aload_n 0, 1) := by decide +kernel
theorem dX1_passHour_122 : decode cX1_passHour 122 = .ok (.iload_n 1, 1) := by decide +kernel
theorem dX1_passHour_123 : decode cX1_passHour 123 = .ok (.aload_n 0, 1) := by decide +kernel
theorem dX1_passHour_124 : decode cX1_passHour 124 = .ok (.getfield 43, 3) := by decide +kernel
theorem dX1_passHour_127 : decode cX1_passHour 127 = .ok (.iload_n 1, 1) := by decide +kernel
theorem dX1_passHour_128 : decode cX1_passHour 128 = .ok (.iaload, 1) := by decide +kernel
theorem dX1_passHour_129 : decode cX1_passHour 129 = .ok (.invokevirtual 118, 3) := by decide +kernel
theorem dX1_passHour_132 : decode cX1_passHour 132 = .ok (.iinc 1 1, 3) := by decide +kernel
theorem dX1_passHour_135 : decode cX1_passHour 135 = .ok (.goto (-95), 3) := by decide +kernel
theorem dX1_passHour_138 : decode cX1_passHour 138 = .ok (.aload_n 0, 1) := by decide +kernel
theorem dX1_passHour_139 : decode cX1_passHour 139 = .ok (.dup, 1) := by decide +kernel
theorem dX1_passHour_140 : decode cX1_passHour 140 = .ok (.getfield 9, 3) := by decide +kernel
theorem dX1_passHour_143 : decode cX1_passHour 143 = .ok (.iconst 1, 1) := by decide +kernel
theorem dX1_passHour_144 : decode cX1_passHour 144 = .ok (.iadd, 1) := by decide +kernel
theorem dX1_passHour_145 : decode cX1_passHour 145 = .ok (.putfield 9, 3) := by decide +kernel
theorem dX1_passHour_148 : decode cX1_passHour 148 = .ok (.return_, 1) := by decide +kernel
theorem dX1_browned_0 : decode cX1_browned 0 = .ok (.iload_n 2, 1) := by decide +kernel
theorem dX1_browned_1 : decode cX1_browned 1 = .ok (.aload_n 0, 1) := by decide +kernel
theorem dX1_browned_2 : decode cX1_browned 2 = .ok (.getfield 25, 3) := by decide +kernel
theorem dX1_browned_5 : decode cX1_browned 5 = .ok (.iload_n 1, 1) := by decide +kernel
theorem dX1_browned_6 : decode cX1_browned 6 = .ok (.iaload, 1) := by decide +kernel
theorem dX1_browned_7 : decode cX1_browned 7 = .ok (.iload_n 3, 1) := by decide +kernel
theorem dX1_browned_8 : decode cX1_browned 8 = .ok (.invokestatic 121, 3) := by decide +kernel
theorem dX1_browned_11 : decode cX1_browned 11 = .ok (.iadd, 1) := by decide +kernel
theorem dX1_browned_12 : decode cX1_browned 12 = .ok (.iload 4, 2) := by decide +kernel
theorem dX1_browned_14 : decode cX1_browned 14 = .ok (.isub, 1) := by decide +kernel
theorem dX1_browned_15 : decode cX1_browned 15 = .ok (.istore 5, 2) := by decide +kernel
theorem dX1_browned_17 : decode cX1_browned 17 = .ok (.iconst 0, 1) := by decide +kernel
theorem dX1_browned_18 : decode cX1_browned 18 = .ok (.sipush 200, 3) := by decide +kernel
theorem dX1_browned_21 : decode cX1_browned 21 = .ok (.iload 5, 2) := by decide +kernel
theorem dX1_browned_23 : decode cX1_browned 23 = .ok (.invokestatic 124, 3) := by decide +kernel
theorem dX1_browned_26 : decode cX1_browned 26 = .ok (.invokestatic 127, 3) := by decide +kernel
theorem dX1_browned_29 : decode cX1_browned 29 = .ok (.ireturn, 1) := by decide +kernel
theorem dX1_burn_0 : decode cX1_burn 0 = .ok (.iload_n 2, 1) := by decide +kernel
theorem dX1_burn_1 : decode cX1_burn 1 = .ok (.aload_n 0, 1) := by decide +kernel
theorem dX1_burn_2 : decode cX1_burn 2 = .ok (.getfield 25, 3) := by decide +kernel
theorem dX1_burn_5 : decode cX1_burn 5 = .ok (.iload_n 1, 1) := by decide +kernel
theorem dX1_burn_6 : decode cX1_burn 6 = .ok (.iaload, 1) := by decide +kernel
theorem dX1_burn_7 : decode cX1_burn 7 = .ok (.invokestatic 130, 3) := by decide +kernel
theorem dX1_burn_10 : decode cX1_burn 10 = .ok (.if_icmp .lt 25, 3) := by decide +kernel
theorem dX1_burn_13 : decode cX1_burn 13 = .ok (.aload_n 0, 1) := by decide +kernel
theorem dX1_burn_14 : decode cX1_burn 14 = .ok (.getfield 37, 3) := by decide +kernel
theorem dX1_burn_17 : decode cX1_burn 17 = .ok (.iload_n 1, 1) := by decide +kernel
theorem dX1_burn_18 : decode cX1_burn 18 = .ok (.iaload, 1) := by decide +kernel
theorem dX1_burn_19 : decode cX1_burn 19 = .ok (.sipush 9999, 3) := by decide +kernel
theorem dX1_burn_22 : decode cX1_burn 22 = .ok (.if_icmp .ge 13, 3) := by decide +kernel
theorem dX1_burn_25 : decode cX1_burn 25 = .ok (.aload_n 0, 1) := by decide +kernel
theorem dX1_burn_26 : decode cX1_burn 26 = .ok (.getfield 37, 3) := by decide +kernel
theorem dX1_burn_29 : decode cX1_burn 29 = .ok (.iload_n 1, 1) := by decide +kernel
theorem dX1_burn_30 : decode cX1_burn 30 = .ok (.dup2, 1) := by decide +kernel
theorem dX1_burn_31 : decode cX1_burn 31 = .ok (.iaload, 1) := by decide +kernel
theorem dX1_burn_32 : decode cX1_burn 32 = .ok (.iconst 1, 1) := by decide +kernel
theorem dX1_burn_33 : decode cX1_burn 33 = .ok (.iadd, 1) := by decide +kernel
theorem dX1_burn_34 : decode cX1_burn 34 = .ok (.iastore, 1) := by decide +kernel
theorem dX1_burn_35 : decode cX1_burn 35 = .ok (.return_, 1) := by decide +kernel
theorem dX2_init_0 : decode cX2_init 0 = .ok (.aload_n 0, 1) := by decide +kernel
theorem dX2_init_1 : decode cX2_init 1 = .ok (.invokespecial 3, 3) := by decide +kernel
theorem dX2_init_4 : decode cX2_init 4 = .ok (.aload_n 0, 1) := by decide +kernel
theorem dX2_init_5 : decode cX2_init 5 = .ok (.iconst 0, 1) := by decide +kernel
theorem dX2_init_6 : decode cX2_init 6 = .ok (.putfield 9, 3) := by decide +kernel
theorem dX2_init_9 : decode cX2_init 9 = .ok (.aload_n 0, 1) := by decide +kernel
theorem dX2_init_10 : decode cX2_init 10 = .ok (.bipush 120, 2) := by decide +kernel
theorem dX2_init_12 : decode cX2_init 12 = .ok (.newarray .int, 2) := by decide +kernel
theorem dX2_init_14 : decode cX2_init 14 = .ok (.putfield 15, 3) := by decide +kernel
theorem dX2_init_17 : decode cX2_init 17 = .ok (.aload_n 0, 1) := by decide +kernel
theorem dX2_init_18 : decode cX2_init 18 = .ok (.iconst 0, 1) := by decide +kernel
theorem dX2_init_19 : decode cX2_init 19 = .ok (.putfield 19, 3) := by decide +kernel
theorem dX2_init_22 : decode cX2_init 22 = .ok (.aload_n 0, 1) := by decide +kernel
theorem dX2_init_23 : decode cX2_init 23 = .ok (.iconst 0, 1) := by decide +kernel
theorem dX2_init_24 : decode cX2_init 24 = .ok (.putfield 22, 3) := by decide +kernel
theorem dX2_init_27 : decode cX2_init 27 = .ok (.aload_n 0, 1) := by decide +kernel
theorem dX2_init_28 : decode cX2_init 28 = .ok (.iconst 0, 1) := by decide +kernel
theorem dX2_init_29 : decode cX2_init 29 = .ok (.putfield 25, 3) := by decide +kernel
theorem dX2_init_32 : decode cX2_init 32 = .ok (.aload_n 0, 1) := by decide +kernel
theorem dX2_init_33 : decode cX2_init 33 = .ok (.iconst 0, 1) := by decide +kernel
theorem dX2_init_34 : decode cX2_init 34 = .ok (.putfield 28, 3) := by decide +kernel
theorem dX2_init_37 : decode cX2_init 37 = .ok (.return_, 1) := by decide +kernel
theorem dX2_append_0 : decode cX2_append 0 = .ok (.aload_n 0, 1) := by decide +kernel
theorem dX2_append_1 : decode cX2_append 1 = .ok (.getfield 9, 3) := by decide +kernel
theorem dX2_append_4 : decode cX2_append 4 = .ok (.bipush 120, 2) := by decide +kernel
theorem dX2_append_6 : decode cX2_append 6 = .ok (.if_icmp .ge 23, 3) := by decide +kernel
theorem dX2_append_9 : decode cX2_append 9 = .ok (.aload_n 0, 1) := by decide +kernel
theorem dX2_append_10 : decode cX2_append 10 = .ok (.getfield 15, 3) := by decide +kernel
theorem dX2_append_13 : decode cX2_append 13 = .ok (.aload_n 0, 1) := by decide +kernel
theorem dX2_append_14 : decode cX2_append 14 = .ok (.getfield 9, 3) := by decide +kernel
theorem dX2_append_17 : decode cX2_append 17 = .ok (.iload_n 1, 1) := by decide +kernel
theorem dX2_append_18 : decode cX2_append 18 = .ok (.iastore, 1) := by decide +kernel
theorem dX2_append_19 : decode cX2_append 19 = .ok (.aload_n 0, 1) := by decide +kernel
theorem dX2_append_20 : decode cX2_append 20 = .ok (.dup, 1) := by decide +kernel
theorem dX2_append_21 : decode cX2_append 21 = .ok (.getfield 9, 3) := by decide +kernel
theorem dX2_append_24 : decode cX2_append 24 = .ok (.iconst 1, 1) := by decide +kernel
theorem dX2_append_25 : decode cX2_append 25 = .ok (.iadd, 1) := by decide +kernel
theorem dX2_append_26 : decode cX2_append 26 = .ok (.putfield 9, 3) := by decide +kernel
theorem dX2_append_29 : decode cX2_append 29 = .ok (.return_, 1) := by decide +kernel
theorem dX2_readAll_0 : decode cX2_readAll 0 = .ok (.aload_n 0, 1) := by decide +kernel
theorem dX2_readAll_1 : decode cX2_readAll 1 = .ok (.iconst 0, 1) := by decide +kernel
theorem dX2_readAll_2 : decode cX2_readAll 2 = .ok (.putfield 25, 3) := by decide +kernel
theorem dX2_readAll_5 : decode cX2_readAll 5 = .ok (.aload_n 0, 1) := by decide +kernel
theorem dX2_readAll_6 : decode cX2_readAll 6 = .ok (.invokevirtual 31, 3) := by decide +kernel
theorem dX2_readAll_9 : decode cX2_readAll 9 = .ok (.iconst 1, 1) := by decide +kernel
theorem dX2_readAll_10 : decode cX2_readAll 10 = .ok (.istore_n 2, 1) := by decide +kernel
theorem dX2_readAll_11 : decode cX2_readAll 11 = .ok (.iload_n 2, 1) := by decide +kernel
theorem dX2_readAll_12 : decode cX2_readAll 12 = .ok (.bipush 120, 2) := by decide +kernel
theorem dX2_readAll_14 : decode cX2_readAll 14 = .ok (.if_icmp .gt 52, 3) := by decide +kernel
theorem dX2_readAll_17 : decode cX2_readAll 17 = .ok (.aload_n 0, 1) := by decide +kernel
theorem dX2_readAll_18 : decode cX2_readAll 18 = .ok (.aload_n 1, 1) := by decide +kernel
theorem dX2_readAll_19 : decode cX2_readAll 19 = .ok (.invokevirtual 34, 3) := by decide +kernel
theorem dX2_readAll_22 : decode cX2_readAll 22 = .ok (.ifCond .ne 10, 3) := by decide +kernel
theorem dX2_readAll_25 : decode cX2_readAll 25 = .ok (.iconst (-1), 1) := by decide +kernel
theorem dX2_readAll_26 : decode cX2_readAll 26 = .ok (.aload_n 0, 1) := by decide +kernel
theorem dX2_readAll_27 : decode cX2_readAll 27 = .ok (.getfield 22, 3) := by decide +kernel
theorem dX2_readAll_30 : decode cX2_readAll 30 = .ok (.isub, 1) := by decide +kernel
theorem dX2_readAll_31 : decode cX2_readAll 31 = .ok (.ireturn, 1) := by decide +kernel
theorem dX2_readAll_32 : decode cX2_readAll 32 = .ok (.aload_n 0, 1) := by decide +kernel
theorem dX2_readAll_33 : decode cX2_readAll 33 = .ok (.getfield 19, 3) := by decide +kernel
theorem dX2_readAll_36 : decode cX2_readAll 36 = .ok (.ifCond .ne 5, 3) := by decide +kernel
theorem dX2_readAll_39 : decode cX2_readAll 39 = .ok (.iload_n 2, 1) := by decide +kernel
theorem dX2_readAll_40 : decode cX2_readAll 40 = .ok (.ireturn, 1) := by decide +kernel
theorem dX2_readAll_41 : decode cX2_readAll 41 = .ok (.aload_n 0, 1) := by decide +kernel
theorem dX2_readAll_42 : decode cX2_readAll 42 = .ok (.getfield 19, 3) := by decide +kernel
theorem dX2_readAll_45 : decode cX2_readAll 45 = .ok (.iconst 3, 1) := by decide +kernel
theorem dX2_readAll_46 : decode cX2_readAll 46 = .ok (.if_icmp .eq 10, 3) := by decide +kernel
theorem dX2_readAll_49 : decode cX2_readAll 49 = .ok (.iconst (-1), 1) := by decide +kernel
theorem dX2_readAll_50 : decode cX2_readAll 50 = .ok (.aload_n 0, 1) := by decide +kernel
theorem dX2_readAll_51 : decode cX2_readAll 51 = .ok (.getfield 22, 3) := by decide +kernel
theorem dX2_readAll_54 : decode cX2_readAll 54 = .ok (.isub, 1) := by decide +kernel
theorem dX2_readAll_55 : decode cX2_readAll 55 = .ok (.ireturn, 1) := by decide +kernel
theorem dX2_readAll_56 : decode cX2_readAll 56 = .ok (.aload_n 0, 1) := by decide +kernel
theorem dX2_readAll_57 : decode cX2_readAll 57 = .ok (.invokevirtual 31, 3) := by decide +kernel
theorem dX2_readAll_60 : decode cX2_readAll 60 = .ok (.iinc 2 1, 3) := by decide +kernel
theorem dX2_readAll_63 : decode cX2_readAll 63 = .ok (.goto (-52), 3) := by decide +kernel
theorem dX2_readAll_66 : decode cX2_readAll 66 = .ok (.iconst (-1), 1) := by decide +kernel
theorem dX2_readAll_67 : decode cX2_readAll 67 = .ok (.aload_n 0, 1) := by decide +kernel
theorem dX2_readAll_68 : decode cX2_readAll 68 = .ok (.getfield 22, 3) := by decide +kernel
theorem dX2_readAll_71 : decode cX2_readAll 71 = .ok (.isub, 1) := by decide +kernel
theorem dX2_readAll_72 : decode cX2_readAll 72 = .ok (.ireturn, 1) := by decide +kernel
theorem dX2_readItem_0 : decode cX2_readItem 0 = .ok (.aload_n 0, 1) := by decide +kernel
theorem dX2_readItem_1 : decode cX2_readItem 1 = .ok (.ldc 38, 2) := by decide +kernel
theorem dX2_readItem_3 : decode cX2_readItem 3 = .ok (.invokevirtual 40, 3) := by decide +kernel
theorem dX2_readItem_6 : decode cX2_readItem 6 = .ok (.ifCond .eq 9, 3) := by decide +kernel
theorem dX2_readItem_9 : decode cX2_readItem 9 = .ok (.aload_n 0, 1) := by decide +kernel
theorem dX2_readItem_10 : decode cX2_readItem 10 = .ok (.aload_n 1, 1) := by decide +kernel
theorem dX2_readItem_11 : decode cX2_readItem 11 = .ok (.invokevirtual 44, 3) := by decide +kernel
theorem dX2_readItem_14 : decode cX2_readItem 14 = .ok (.ireturn, 1) := by decide +kernel
theorem dX2_readItem_15 : decode cX2_readItem 15 = .ok (.aload_n 0, 1) := by decide +kernel
theorem dX2_readItem_16 : decode cX2_readItem 16 = .ok (.ldc 47, 2) := by decide +kernel
theorem dX2_readItem_18 : decode cX2_readItem 18 = .ok (.invokevirtual 40, 3) := by decide +kernel
theorem dX2_readItem_21 : decode cX2_readItem 21 = .ok (.ifCond .eq 9, 3) := by decide +kernel
theorem dX2_readItem_24 : decode cX2_readItem 24 = .ok (.aload_n 0, 1) := by decide +kernel
theorem dX2_readItem_25 : decode cX2_readItem 25 = .ok (.aload_n 1, 1) := by decide +kernel
theorem dX2_readItem_26 : decode cX2_readItem 26 = .ok (.invokevirtual 49, 3) := by decide +kernel
theorem dX2_readItem_29 : decode cX2_readItem 29 = .ok (.ireturn, 1) := by decide +kernel
theorem dX2_readItem_30 : decode cX2_readItem 30 = .ok (.aload_n 0, 1) := by decide +kernel
theorem dX2_readItem_31 : decode cX2_readItem 31 = .ok (.invokevirtual 52, 3) := by decide +kernel
theorem dX2_readItem_34 : decode cX2_readItem 34 = .ok (.istore_n 2, 1) := by decide +kernel
theorem dX2_readItem_35 : decode cX2_readItem 35 = .ok (.iload_n 2, 1) := by decide +kernel
theorem dX2_readItem_36 : decode cX2_readItem 36 = .ok (.ifCond .lt 12, 3) := by decide +kernel
theorem dX2_readItem_39 : decode cX2_readItem 39 = .ok (.aload_n 1, 1) := by decide +kernel
theorem dX2_readItem_40 : decode cX2_readItem 40 = .ok (.getfield 56, 3) := by decide +kernel
theorem dX2_readItem_43 : decode cX2_readItem 43 = .ok (.bipush 8, 2) := by decide +kernel
theorem dX2_readItem_45 : decode cX2_readItem 45 = .ok (.if_icmp .lt 5, 3) := by decide +kernel
theorem dX2_readItem_48 : decode cX2_readItem 48 = .ok (.iconst 0, 1) := by decide +kernel
theorem dX2_readItem_49 : decode cX2_readItem 49 = .ok (.ireturn, 1) := by decide +kernel
theorem dX2_readItem_50 : decode cX2_readItem 50 = .ok (.aload_n 0, 1) := by decide +kernel
theorem dX2_readItem_51 : decode cX2_readItem 51 = .ok (.invokevirtual 31, 3) := by decide +kernel
theorem dX2_readItem_54 : decode cX2_readItem 54 = .ok (.aload_n 0, 1) := by decide +kernel
theorem dX2_readItem_55 : decode cX2_readItem 55 = .ok (.aload_n 1, 1) := by decide +kernel
theorem dX2_readItem_56 : decode cX2_readItem 56 = .ok (.iload_n 2, 1) := by decide +kernel
theorem dX2_readItem_57 : decode cX2_readItem 57 = .ok (.invokevirtual 61, 3) := by decide +kernel
theorem dX2_readItem_60 : decode cX2_readItem 60 = .ok (.ireturn, 1) := by decide +kernel
theorem dX2_readPerson_0 : decode cX2_readPerson 0 = .ok (.bipush 20, 2) := by decide +kernel
theorem dX2_readPerson_2 : decode cX2_readPerson 2 = .ok (.istore_n 3, 1) := by decide +kernel
theorem dX2_readPerson_3 : decode cX2_readPerson 3 = .ok (.aload_n 0, 1) := by decide +kernel
theorem dX2_readPerson_4 : decode cX2_readPerson 4 = .ok (.ldc 65, 2) := by decide +kernel
theorem dX2_readPerson_6 : decode cX2_readPerson 6 = .ok (.invokevirtual 40, 3) := by decide +kernel
theorem dX2_readPerson_9 : decode cX2_readPerson 9 = .ok (.ifCond .eq 28, 3) := by decide +kernel
theorem dX2_readPerson_12 : decode cX2_readPerson 12 = .ok (.aload_n 0, 1) := by decide +kernel
theorem dX2_readPerson_13 : decode cX2_readPerson 13 = .ok (.invokevirtual 31, 3) := by decide +kernel
theorem dX2_readPerson_16 : decode cX2_readPerson 16 = .ok (.aload_n 0, 1) := by decide +kernel
theorem dX2_readPerson_17 : decode cX2_readPerson 17 = .ok (.sipush 200, 3) := by decide +kernel
theorem dX2_readPerson_20 : decode cX2_readPerson 20 = .ok (.invokevirtual 67, 3) := by decide +kernel
theorem dX2_readPerson_23 : decode cX2_readPerson 23 = .ok (.ifCond .ne 5, 3) := by decide +kernel
theorem dX2_readPerson_26 : decode cX2_readPerson 26 = .ok (.iconst 0, 1) := by decide +kernel
theorem dX2_readPerson_27 : decode cX2_readPerson 27 = .ok (.ireturn, 1) := by decide +kernel
theorem dX2_readPerson_28 : decode cX2_readPerson 28 = .ok (.aload_n 0, 1) := by decide +kernel
theorem dX2_readPerson_29 : decode cX2_readPerson 29 = .ok (.getfield 28, 3) := by decide +kernel
theorem dX2_readPerson_32 : decode cX2_readPerson 32 = .ok (.istore_n 3, 1) := by decide +kernel
theorem dX2_readPerson_33 : decode cX2_readPerson 33 = .ok (.aload_n 0, 1) := by decide +kernel
theorem dX2_readPerson_34 : decode cX2_readPerson 34 = .ok (.invokevirtual 31, 3) := by decide +kernel
theorem dX2_readPerson_37 : decode cX2_readPerson 37 = .ok (.aload_n 1, 1) := by decide +kernel
theorem dX2_readPerson_38 : decode cX2_readPerson 38 = .ok (.iload_n 2, 1) := by decide +kernel
theorem dX2_readPerson_39 : decode cX2_readPerson 39 = .ok (.iload_n 3, 1) := by decide +kernel
theorem dX2_readPerson_40 : decode cX2_readPerson 40 = .ok (.invokevirtual 71, 3) := by decide +kernel
theorem dX2_readPerson_43 : decode cX2_readPerson 43 = .ok (.istore 4, 2) := by decide +kernel
theorem dX2_readPerson_45 : decode cX2_readPerson 45 = .ok (.aload_n 0, 1) := by decide +kernel
theorem dX2_readPerson_46 : decode cX2_readPerson 46 = .ok (.ldc 75, 2) := by decide +kernel
theorem dX2_readPerson_48 : decode cX2_readPerson 48 = .ok (.invokevirtual 40, 3) := by decide +kernel
theorem dX2_readPerson_51 : decode cX2_readPerson 51 = .ok (.ifCond .eq 45, 3) := by decide +kernel
theorem dX2_readPerson_54 : decode cX2_readPerson 54 = .ok (.aload_n 0, 1) := by decide +kernel
theorem dX2_readPerson_55 : decode cX2_readPerson 55 = .ok (.invokevirtual 31, 3) := by decide +kernel
theorem dX2_readPerson_58 : decode cX2_readPerson 58 = .ok (.aload_n 0, 1) := by decide +kernel
theorem dX2_readPerson_59 : decode cX2_readPerson 59 = .ok (.bipush 9, 2) := by decide +kernel
theorem dX2_readPerson_61 : decode cX2_readPerson 61 = .ok (.invokevirtual 67, 3) := by decide +kernel
theorem dX2_readPerson_64 : decode cX2_readPerson 64 = .ok (.ifCond .eq 16, 3) := by decide +kernel
theorem dX2_readPerson_67 : decode cX2_readPerson 67 = .ok (.aload_n 1, 1) := by decide +kernel
theorem dX2_readPerson_68 : decode cX2_readPerson 68 = .ok (.iload 4, 2) := by decide +kernel
theorem dX2_readPerson_70 : decode cX2_readPerson 70 = .ok (.aload_n 0, 1) := by decide +kernel
theorem dX2_readPerson_71 : decode cX2_readPerson 71 = .ok (.getfield 28, 3) := by decide +kernel
theorem dX2_readPerson_74 : decode cX2_readPerson 74 = .ok (.invokevirtual 77, 3) := by decide +kernel
theorem dX2_readPerson_77 : decode cX2_readPerson 77 = .ok (.ifCond .ne 5, 3) := by decide +kernel
theorem dX2_readPerson_80 : decode cX2_readPerson 80 = .ok (.iconst 0, 1) := by decide +kernel
theorem dX2_readPerson_81 : decode cX2_readPerson 81 = .ok (.ireturn, 1) := by decide +kernel
theorem dX2_readPerson_82 : decode cX2_readPerson 82 = .ok (.aload_n 1, 1) := by decide +kernel
theorem dX2_readPerson_83 : decode cX2_readPerson 83 = .ok (.iload 4, 2) := by decide +kernel
theorem dX2_readPerson_85 : decode cX2_readPerson 85 = .ok (.aload_n 0, 1) := by decide +kernel
theorem dX2_readPerson_86 : decode cX2_readPerson 86 = .ok (.getfield 28, 3) := by decide +kernel
theorem dX2_readPerson_89 : decode cX2_readPerson 89 = .ok (.invokevirtual 81, 3) := by decide +kernel
theorem dX2_readPerson_92 : decode cX2_readPerson 92 = .ok (.aload_n 0, 1) := by decide +kernel
theorem dX2_readPerson_93 : decode cX2_readPerson 93 = .ok (.invokevirtual 31, 3) := by decide +kernel
theorem dX2_readPerson_96 : decode cX2_readPerson 96 = .ok (.iconst 1, 1) := by decide +kernel
theorem dX2_readPerson_97 : decode cX2_readPerson 97 = .ok (.ireturn, 1) := by decide +kernel
theorem dX2_readSun_0 : decode cX2_readSun 0 = .ok (.aload_n 0, 1) := by decide +kernel
theorem dX2_readSun_1 : decode cX2_readSun 1 = .ok (.invokevirtual 31, 3) := by decide +kernel
theorem dX2_readSun_4 : decode cX2_readSun 4 = .ok (.aload_n 0, 1) := by decide +kernel
theorem dX2_readSun_5 : decode cX2_readSun 5 = .ok (.bipush 9, 2) := by decide +kernel
theorem dX2_readSun_7 : decode cX2_readSun 7 = .ok (.invokevirtual 67, 3) := by decide +kernel
theorem dX2_readSun_10 : decode cX2_readSun 10 = .ok (.ifCond .ne 5, 3) := by decide +kernel
theorem dX2_readSun_13 : decode cX2_readSun 13 = .ok (.iconst 0, 1) := by decide +kernel
theorem dX2_readSun_14 : decode cX2_readSun 14 = .ok (.ireturn, 1) := by decide +kernel
theorem dX2_readSun_15 : decode cX2_readSun 15 = .ok (.aload_n 0, 1) := by decide +kernel
theorem dX2_readSun_16 : decode cX2_readSun 16 = .ok (.getfield 28, 3) := by decide +kernel
theorem dX2_readSun_19 : decode cX2_readSun 19 = .ok (.istore_n 2, 1) := by decide +kernel
theorem dX2_readSun_20 : decode cX2_readSun 20 = .ok (.aload_n 0, 1) := by decide +kernel
theorem dX2_readSun_21 : decode cX2_readSun 21 = .ok (.invokevirtual 31, 3) := by decide +kernel
theorem dX2_readSun_24 : decode cX2_readSun 24 = .ok (.aload_n 0, 1) := by decide +kernel
theorem dX2_readSun_25 : decode cX2_readSun 25 = .ok (.bipush 9, 2) := by decide +kernel
theorem dX2_readSun_27 : decode cX2_readSun 27 = .ok (.invokevirtual 67, 3) := by decide +kernel
theorem dX2_readSun_30 : decode cX2_readSun 30 = .ok (.ifCond .ne 5, 3) := by decide +kernel
theorem dX2_readSun_33 : decode cX2_readSun 33 = .ok (.iconst 0, 1) := by decide +kernel
theorem dX2_readSun_34 : decode cX2_readSun 34 = .ok (.ireturn, 1) := by decide +kernel
theorem dX2_readSun_35 : decode cX2_readSun 35 = .ok (.aload_n 1, 1) := by decide +kernel
theorem dX2_readSun_36 : decode cX2_readSun 36 = .ok (.getfield 85, 3) := by decide +kernel
theorem dX2_readSun_39 : decode cX2_readSun 39 = .ok (.iload_n 2, 1) := by decide +kernel
theorem dX2_readSun_40 : decode cX2_readSun 40 = .ok (.aload_n 0, 1) := by decide +kernel
theorem dX2_readSun_41 : decode cX2_readSun 41 = .ok (.getfield 28, 3) := by decide +kernel
theorem dX2_readSun_44 : decode cX2_readSun 44 = .ok (.iastore, 1) := by decide +kernel
theorem dX2_readSun_45 : decode cX2_readSun 45 = .ok (.aload_n 0, 1) := by decide +kernel
theorem dX2_readSun_46 : decode cX2_readSun 46 = .ok (.invokevirtual 31, 3) := by decide +kernel
theorem dX2_readSun_49 : decode cX2_readSun 49 = .ok (.iconst 1, 1) := by decide +kernel
theorem dX2_readSun_50 : decode cX2_readSun 50 = .ok (.ireturn, 1) := by decide +kernel
theorem dX2_readGoes_0 : decode cX2_readGoes 0 = .ok (.aload_n 0, 1) := by decide +kernel
theorem dX2_readGoes_1 : decode cX2_readGoes 1 = .ok (.invokevirtual 31, 3) := by decide +kernel
theorem dX2_readGoes_4 : decode cX2_readGoes 4 = .ok (.aload_n 0, 1) := by decide +kernel
theorem dX2_readGoes_5 : decode cX2_readGoes 5 = .ok (.aload_n 1, 1) := by decide +kernel
theorem dX2_readGoes_6 : decode cX2_readGoes 6 = .ok (.getfield 56, 3) := by decide +kernel
theorem dX2_readGoes_9 : decode cX2_readGoes 9 = .ok (.iconst 1, 1) := by decide +kernel
theorem dX2_readGoes_10 : decode cX2_readGoes 10 = .ok (.isub, 1) := by decide +kernel
theorem dX2_readGoes_11 : decode cX2_readGoes 11 = .ok (.invokevirtual 67, 3) := by decide +kernel
theorem dX2_readGoes_14 : decode cX2_readGoes 14 = .ok (.ifCond .ne 5, 3) := by decide +kernel
theorem dX2_readGoes_17 : decode cX2_readGoes 17 = .ok (.iconst 0, 1) := by decide +kernel
theorem dX2_readGoes_18 : decode cX2_readGoes 18 = .ok (.ireturn, 1) := by decide +kernel
theorem dX2_readGoes_19 : decode cX2_readGoes 19 = .ok (.aload_n 1, 1) := by decide +kernel
theorem dX2_readGoes_20 : decode cX2_readGoes 20 = .ok (.aload_n 0, 1) := by decide +kernel
theorem dX2_readGoes_21 : decode cX2_readGoes 21 = .ok (.getfield 28, 3) := by decide +kernel
theorem dX2_readGoes_24 : decode cX2_readGoes 24 = .ok (.iconst (-1), 1) := by decide +kernel
theorem dX2_readGoes_25 : decode cX2_readGoes 25 = .ok (.invokevirtual 81, 3) := by decide +kernel
theorem dX2_readGoes_28 : decode cX2_readGoes 28 = .ok (.aload_n 0, 1) := by decide +kernel
theorem dX2_readGoes_29 : decode cX2_readGoes 29 = .ok (.invokevirtual 31, 3) := by decide +kernel
theorem dX2_readGoes_32 : decode cX2_readGoes 32 = .ok (.iconst 1, 1) := by decide +kernel
theorem dX2_readGoes_33 : decode cX2_readGoes 33 = .ok (.ireturn, 1) := by decide +kernel
theorem dX2_isNumberTo_0 : decode cX2_isNumberTo 0 = .ok (.aload_n 0, 1) := by decide +kernel
theorem dX2_isNumberTo_1 : decode cX2_isNumberTo 1 = .ok (.getfield 19, 3) := by decide +kernel
theorem dX2_isNumberTo_4 : decode cX2_isNumberTo 4 = .ok (.iconst 2, 1) := by decide +kernel
theorem dX2_isNumberTo_5 : decode cX2_isNumberTo 5 = .ok (.if_icmp .ne 15, 3) := by decide +kernel
theorem dX2_isNumberTo_8 : decode cX2_isNumberTo 8 = .ok (.aload_n 0, 1) := by decide +kernel
theorem dX2_isNumberTo_9 : decode cX2_isNumberTo 9 = .ok (.getfield 28, 3) := by decide +kernel
theorem dX2_isNumberTo_12 : decode cX2_isNumberTo 12 = .ok (.iload_n 1, 1) := by decide +kernel
theorem dX2_isNumberTo_13 : decode cX2_isNumberTo 13 = .ok (.if_icmp .gt 7, 3) := by decide +kernel
theorem dX2_isNumberTo_16 : decode cX2_isNumberTo 16 = .ok (.iconst 1, 1) := by decide +kernel
theorem dX2_isNumberTo_17 : decode cX2_isNumberTo 17 = .ok (.goto 4, 3) := by decide +kernel
theorem dX2_isNumberTo_20 : decode cX2_isNumberTo 20 = .ok (.iconst 0, 1) := by decide +kernel
theorem dX2_isNumberTo_21 : decode cX2_isNumberTo 21 = .ok (.ireturn, 1) := by decide +kernel
theorem dX2_isWord_0 : decode cX2_isWord 0 = .ok (.aload_n 0, 1) := by decide +kernel
theorem dX2_isWord_1 : decode cX2_isWord 1 = .ok (.getfield 19, 3) := by decide +kernel
theorem dX2_isWord_4 : decode cX2_isWord 4 = .ok (.iconst 1, 1) := by decide +kernel
theorem dX2_isWord_5 : decode cX2_isWord 5 = .ok (.if_icmp .ne 19, 3) := by decide +kernel
theorem dX2_isWord_8 : decode cX2_isWord 8 = .ok (.aload_n 0, 1) := by decide +kernel
theorem dX2_isWord_9 : decode cX2_isWord 9 = .ok (.getfield 25, 3) := by decide +kernel
theorem dX2_isWord_12 : decode cX2_isWord 12 = .ok (.aload_n 0, 1) := by decide +kernel
theorem dX2_isWord_13 : decode cX2_isWord 13 = .ok (.getfield 22, 3) := by decide +kernel
theorem dX2_isWord_16 : decode cX2_isWord 16 = .ok (.isub, 1) := by decide +kernel
theorem dX2_isWord_17 : decode cX2_isWord 17 = .ok (.aload_n 1, 1) := by decide +kernel
theorem dX2_isWord_18 : decode cX2_isWord 18 = .ok (.invokevirtual 88, 3) := by decide +kernel
theorem dX2_isWord_21 : decode cX2_isWord 21 = .ok (.if_icmp .eq 5, 3) := by decide +kernel
theorem dX2_isWord_24 : decode cX2_isWord 24 = .ok (.iconst 0, 1) := by decide +kernel
theorem dX2_isWord_25 : decode cX2_isWord 25 = .ok (.ireturn, 1) := by decide +kernel
theorem dX2_isWord_26 : decode cX2_isWord 26 = .ok (.iconst 0, 1) := by decide +kernel
theorem dX2_isWord_27 : decode cX2_isWord 27 = .ok (.istore_n 2, 1) := by decide +kernel
theorem dX2_isWord_28 : decode cX2_isWord 28 = .ok (.iload_n 2, 1) := by decide +kernel
theorem dX2_isWord_29 : decode cX2_isWord 29 = .ok (.aload_n 1, 1) := by decide +kernel
theorem dX2_isWord_30 : decode cX2_isWord 30 = .ok (.invokevirtual 88, 3) := by decide +kernel
theorem dX2_isWord_33 : decode cX2_isWord 33 = .ok (.if_icmp .ge 30, 3) := by decide +kernel
theorem dX2_isWord_36 : decode cX2_isWord 36 = .ok (.aload_n 0, 1) := by decide +kernel
theorem dX2_isWord_37 : decode cX2_isWord 37 = .ok (.getfield 15, 3) := by decide +kernel
theorem dX2_isWord_40 : decode cX2_isWord 40 = .ok (.aload_n 0, 1) := by decide +kernel
theorem dX2_isWord_41 : decode cX2_isWord 41 = .ok (.getfield 22, 3) := by decide +kernel
theorem dX2_isWord_44 : decode cX2_isWord 44 = .ok (.iload_n 2, 1) := by decide +kernel
theorem dX2_isWord_45 : decode cX2_isWord 45 = .ok (.iadd, 1) := by decide +kernel
theorem dX2_isWord_46 : decode cX2_isWord 46 = .ok (.iaload, 1) := by decide +kernel
theorem dX2_isWord_47 : decode cX2_isWord 47 = .ok (.aload_n 1, 1) := by decide +kernel
theorem dX2_isWord_48 : decode cX2_isWord 48 = .ok (.iload_n 2, 1) := by decide +kernel
theorem dX2_isWord_49 : decode cX2_isWord 49 = .ok (.invokevirtual 93, 3) := by decide +kernel
theorem dX2_isWord_52 : decode cX2_isWord 52 = .ok (.if_icmp .eq 5, 3) := by decide +kernel
theorem dX2_isWord_55 : decode cX2_isWord 55 = .ok (.iconst 0, 1) := by decide +kernel
theorem dX2_isWord_56 : decode cX2_isWord 56 = .ok (.ireturn, 1) := by decide +kernel
theorem dX2_isWord_57 : decode cX2_isWord 57 = .ok (.iinc 2 1, 3) := by decide +kernel
theorem dX2_isWord_60 : decode cX2_isWord 60 = .ok (.goto (-32), 3) := by decide +kernel
theorem dX2_isWord_63 : decode cX2_isWord 63 = .ok (.iconst 1, 1) := by decide +kernel
theorem dX2_isWord_64 : decode cX2_isWord 64 = .ok (.ireturn, 1) := by decide +kernel
theorem dX2_kindNamed_0 : decode cX2_kindNamed 0 = .ok (.iconst 0, 1) := by decide +kernel
theorem dX2_kindNamed_1 : decode cX2_kindNamed 1 = .ok (.istore_n 1, 1) := by decide +kernel
theorem dX2_kindNamed_2 : decode cX2_kindNamed 2 = .ok (.iload_n 1, 1) := by decide +kernel
theorem dX2_kindNamed_3 : decode cX2_kindNamed 3 = .ok (.bipush 6, 2) := by decide +kernel
theorem dX2_kindNamed_5 : decode cX2_kindNamed 5 = .ok (.if_icmp .ge 22, 3) := by decide +kernel
theorem dX2_kindNamed_8 : decode cX2_kindNamed 8 = .ok (.aload_n 0, 1) := by decide +kernel
theorem dX2_kindNamed_9 : decode cX2_kindNamed 9 = .ok (.iload_n 1, 1) := by decide +kernel
theorem dX2_kindNamed_10 : decode cX2_kindNamed 10 = .ok (.invokestatic 97, 3) := by decide +kernel
theorem dX2_kindNamed_13 : decode cX2_kindNamed 13 = .ok (.invokevirtual 40, 3) := by decide +kernel
theorem dX2_kindNamed_16 : decode cX2_kindNamed 16 = .ok (.ifCond .eq 5, 3) := by decide +kernel
theorem dX2_kindNamed_19 : decode cX2_kindNamed 19 = .ok (.iload_n 1, 1) := by decide +kernel
theorem dX2_kindNamed_20 : decode cX2_kindNamed 20 = .ok (.ireturn, 1) := by decide +kernel
theorem dX2_kindNamed_21 : decode cX2_kindNamed 21 = .ok (.iinc 1 1, 3) := by decide +kernel
theorem dX2_kindNamed_24 : decode cX2_kindNamed 24 = .ok (.goto (-22), 3) := by decide +kernel
theorem dX2_kindNamed_27 : decode cX2_kindNamed 27 = .ok (.iconst (-1), 1) := by decide +kernel
theorem dX2_kindNamed_28 : decode cX2_kindNamed 28 = .ok (.ireturn, 1) := by decide +kernel
theorem dX2_nameOf_0 : decode cX2_nameOf 0 = .ok (.iload_n 0, 1) := by decide +kernel
theorem dX2_nameOf_1 : decode cX2_nameOf 1 = .ok (.tableswitch 50 1 5 #[35, 38, 41, 44, 47], 35) := by decide +kernel
theorem dX2_nameOf_36 : decode cX2_nameOf 36 = .ok (.ldc 101, 2) := by decide +kernel
theorem dX2_nameOf_38 : decode cX2_nameOf 38 = .ok (.areturn, 1) := by decide +kernel
theorem dX2_nameOf_39 : decode cX2_nameOf 39 = .ok (.ldc 103, 2) := by decide +kernel
theorem dX2_nameOf_41 : decode cX2_nameOf 41 = .ok (.areturn, 1) := by decide +kernel
theorem dX2_nameOf_42 : decode cX2_nameOf 42 = .ok (.ldc 105, 2) := by decide +kernel
theorem dX2_nameOf_44 : decode cX2_nameOf 44 = .ok (.areturn, 1) := by decide +kernel
theorem dX2_nameOf_45 : decode cX2_nameOf 45 = .ok (.ldc 107, 2) := by decide +kernel
theorem dX2_nameOf_47 : decode cX2_nameOf 47 = .ok (.areturn, 1) := by decide +kernel
theorem dX2_nameOf_48 : decode cX2_nameOf 48 = .ok (.ldc 109, 2) := by decide +kernel
theorem dX2_nameOf_50 : decode cX2_nameOf 50 = .ok (.areturn, 1) := by decide +kernel
theorem dX2_nameOf_51 : decode cX2_nameOf 51 = .ok (.ldc 111, 2) := by decide +kernel
theorem dX2_nameOf_53 : decode cX2_nameOf 53 = .ok (.areturn, 1) := by decide +kernel
theorem dX2_advance_0 : decode cX2_advance 0 = .ok (.aload_n 0, 1) := by decide +kernel
theorem dX2_advance_1 : decode cX2_advance 1 = .ok (.aload_n 0, 1) := by decide +kernel
theorem dX2_advance_2 : decode cX2_advance 2 = .ok (.getfield 25, 3) := by decide +kernel
theorem dX2_advance_5 : decode cX2_advance 5 = .ok (.putfield 22, 3) := by decide +kernel
theorem dX2_advance_8 : decode cX2_advance 8 = .ok (.aload_n 0, 1) := by decide +kernel
theorem dX2_advance_9 : decode cX2_advance 9 = .ok (.getfield 22, 3) := by decide +kernel
theorem dX2_advance_12 : decode cX2_advance 12 = .ok (.aload_n 0, 1) := by decide +kernel
theorem dX2_advance_13 : decode cX2_advance 13 = .ok (.getfield 9, 3) := by decide +kernel
theorem dX2_advance_16 : decode cX2_advance 16 = .ok (.if_icmp .ge 30, 3) := by decide +kernel
theorem dX2_advance_19 : decode cX2_advance 19 = .ok (.aload_n 0, 1) := by decide +kernel
theorem dX2_advance_20 : decode cX2_advance 20 = .ok (.getfield 15, 3) := by decide +kernel
theorem dX2_advance_23 : decode cX2_advance 23 = .ok (.aload_n 0, 1) := by decide +kernel
theorem dX2_advance_24 : decode cX2_advance 24 = .ok (.getfield 22, 3) := by decide +kernel
theorem dX2_advance_27 : decode cX2_advance 27 = .ok (.iaload, 1) := by decide +kernel
theorem dX2_advance_28 : decode cX2_advance 28 = .ok (.bipush 32, 2) := by decide +kernel
theorem dX2_advance_30 : decode cX2_advance 30 = .ok (.if_icmp .ne 16, 3) := by decide +kernel
theorem dX2_advance_33 : decode cX2_advance 33 = .ok (.aload_n 0, 1) := by decide +kernel
theorem dX2_advance_34 : decode cX2_advance 34 = .ok (.dup, 1) := by decide +kernel
theorem dX2_advance_35 : decode cX2_advance 35 = .ok (.getfield 22, 3) := by decide +kernel
theorem dX2_advance_38 : decode cX2_advance 38 = .ok (.iconst 1, 1) := by decide +kernel
theorem dX2_advance_39 : decode cX2_advance 39 = .ok (.iadd, 1) := by decide +kernel
theorem dX2_advance_40 : decode cX2_advance 40 = .ok (.putfield 22, 3) := by decide +kernel
theorem dX2_advance_43 : decode cX2_advance 43 = .ok (.goto (-35), 3) := by decide +kernel
theorem dX2_advance_46 : decode cX2_advance 46 = .ok (.aload_n 0, 1) := by decide +kernel
theorem dX2_advance_47 : decode cX2_advance 47 = .ok (.aload_n 0, 1) := by decide +kernel
theorem dX2_advance_48 : decode cX2_advance 48 = .ok (.getfield 22, 3) := by decide +kernel
theorem dX2_advance_51 : decode cX2_advance 51 = .ok (.putfield 25, 3) := by decide +kernel
theorem dX2_advance_54 : decode cX2_advance 54 = .ok (.aload_n 0, 1) := by decide +kernel
theorem dX2_advance_55 : decode cX2_advance 55 = .ok (.getfield 22, 3) := by decide +kernel
theorem dX2_advance_58 : decode cX2_advance 58 = .ok (.aload_n 0, 1) := by decide +kernel
theorem dX2_advance_59 : decode cX2_advance 59 = .ok (.getfield 9, 3) := by decide +kernel
theorem dX2_advance_62 : decode cX2_advance 62 = .ok (.if_icmp .lt 11, 3) := by decide +kernel
theorem dX2_advance_65 : decode cX2_advance 65 = .ok (.aload_n 0, 1) := by decide +kernel
theorem dX2_advance_66 : decode cX2_advance 66 = .ok (.iconst 0, 1) := by decide +kernel
theorem dX2_advance_67 : decode cX2_advance 67 = .ok (.putfield 19, 3) := by decide +kernel
theorem dX2_advance_70 : decode cX2_advance 70 = .ok (.goto 90, 3) := by decide +kernel
theorem dX2_advance_73 : decode cX2_advance 73 = .ok (.aload_n 0, 1) := by decide +kernel
theorem dX2_advance_74 : decode cX2_advance 74 = .ok (.getfield 15, 3) := by decide +kernel
theorem dX2_advance_77 : decode cX2_advance 77 = .ok (.aload_n 0, 1) := by decide +kernel
theorem dX2_advance_78 : decode cX2_advance 78 = .ok (.getfield 22, 3) := by decide +kernel
theorem dX2_advance_81 : decode cX2_advance 81 = .ok (.iaload, 1) := by decide +kernel
theorem dX2_advance_82 : decode cX2_advance 82 = .ok (.invokestatic 113, 3) := by decide +kernel
theorem dX2_advance_85 : decode cX2_advance 85 = .ok (.ifCond .eq 15, 3) := by decide +kernel
theorem dX2_advance_88 : decode cX2_advance 88 = .ok (.aload_n 0, 1) := by decide +kernel
theorem dX2_advance_89 : decode cX2_advance 89 = .ok (.iconst 1, 1) := by decide +kernel
theorem dX2_advance_90 : decode cX2_advance 90 = .ok (.putfield 19, 3) := by decide +kernel
theorem dX2_advance_93 : decode cX2_advance 93 = .ok (.aload_n 0, 1) := by decide +kernel
theorem dX2_advance_94 : decode cX2_advance 94 = .ok (.invokevirtual 116, 3) := by decide +kernel
theorem dX2_advance_97 : decode cX2_advance 97 = .ok (.goto 63, 3) := by decide +kernel
theorem dX2_advance_100 : decode cX2_advance 100 = .ok (.aload_n 0, 1) := by decide +kernel
theorem dX2_advance_101 : decode cX2_advance 101 = .ok (.getfield 15, 3) := by decide +kernel
theorem dX2_advance_104 : decode cX2_advance 104 = .ok (.aload_n 0, 1) := by decide +kernel
theorem dX2_advance_105 : decode cX2_advance 105 = .ok (.getfield 22, 3) := by decide +kernel
theorem dX2_advance_108 : decode cX2_advance 108 = .ok (.iaload, 1) := by decide +kernel
theorem dX2_advance_109 : decode cX2_advance 109 = .ok (.invokestatic 119, 3) := by decide +kernel
theorem dX2_advance_112 : decode cX2_advance 112 = .ok (.ifCond .eq 15, 3) := by decide +kernel
theorem dX2_advance_115 : decode cX2_advance 115 = .ok (.aload_n 0, 1) := by decide +kernel
theorem dX2_advance_116 : decode cX2_advance 116 = .ok (.iconst 2, 1) := by decide +kernel
theorem dX2_advance_117 : decode cX2_advance 117 = .ok (.putfield 19, 3) := by decide +kernel
theorem dX2_advance_120 : decode cX2_advance 120 = .ok (.aload_n 0, 1) := by decide +kernel
theorem dX2_advance_121 : decode cX2_advance 121 = .ok (.invokevirtual 122, 3) := by decide +kernel
theorem dX2_advance_124 : decode cX2_advance 124 = .ok (.goto 36, 3) := by decide +kernel
theorem dX2_advance_127 : decode cX2_advance 127 = .ok (.aload_n 0, 1) := by decide +kernel
theorem dX2_advance_128 : decode cX2_advance 128 = .ok (.aload_n 0, 1) := by decide +kernel
theorem dX2_advance_129 : decode cX2_advance 129 = .ok (.getfield 15, 3) := by decide +kernel
theorem dX2_advance_132 : decode cX2_advance 132 = .ok (.aload_n 0, 1) := by decide +kernel
theorem dX2_advance_133 : decode cX2_advance 133 = .ok (.getfield 22, 3) := by decide +kernel
theorem dX2_advance_136 : decode cX2_advance 136 = .ok (.iaload, 1) := by decide +kernel
theorem dX2_advance_137 : decode cX2_advance 137 = .ok (.bipush 59, 2) := by decide +kernel
theorem dX2_advance_139 : decode cX2_advance 139 = .ok (.if_icmp .ne 7, 3) := by decide +kernel
theorem dX2_advance_142 : decode cX2_advance 142 = .ok (.iconst 3, 1) := by decide +kernel
theorem dX2_advance_143 : decode cX2_advance 143 = .ok (.goto 4, 3) := by decide +kernel
theorem dX2_advance_146 : decode cX2_advance 146 = .ok (.iconst 4, 1) := by decide +kernel
theorem dX2_advance_147 : decode cX2_advance 147 = .ok (.putfield 19, 3) := by decide +kernel
theorem dX2_advance_150 : decode cX2_advance 150 = .ok (.aload_n 0, 1) := by decide +kernel
theorem dX2_advance_151 : decode cX2_advance 151 = .ok (.aload_n 0, 1) := by decide +kernel
theorem dX2_advance_152 : decode cX2_advance 152 = .ok (.getfield 22, 3) := by decide +kernel
theorem dX2_advance_155 : decode cX2_advance 155 = .ok (.iconst 1, 1) := by decide +kernel
theorem dX2_advance_156 : decode cX2_advance 156 = .ok (.iadd, 1) := by decide +kernel
theorem dX2_advance_157 : decode cX2_advance 157 = .ok (.putfield 25, 3) := by decide +kernel
theorem dX2_advance_160 : decode cX2_advance 160 = .ok (.return_, 1) := by decide +kernel
theorem dX2_passWord_0 : decode cX2_passWord 0 = .ok (.aload_n 0, 1) := by decide +kernel
theorem dX2_passWord_1 : decode cX2_passWord 1 = .ok (.getfield 25, 3) := by decide +kernel
theorem dX2_passWord_4 : decode cX2_passWord 4 = .ok (.aload_n 0, 1) := by decide +kernel
theorem dX2_passWord_5 : decode cX2_passWord 5 = .ok (.getfield 9, 3) := by decide +kernel
theorem dX2_passWord_8 : decode cX2_passWord 8 = .ok (.if_icmp .ge 31, 3) := by decide +kernel
theorem dX2_passWord_11 : decode cX2_passWord 11 = .ok (.aload_n 0, 1) := by decide +kernel
theorem dX2_passWord_12 : decode cX2_passWord 12 = .ok (.getfield 15, 3) := by decide +kernel
theorem dX2_passWord_15 : decode cX2_passWord 15 = .ok (.aload_n 0, 1) := by decide +kernel
theorem dX2_passWord_16 : decode cX2_passWord 16 = .ok (.getfield 25, 3) := by decide +kernel
theorem dX2_passWord_19 : decode cX2_passWord 19 = .ok (.iaload, 1) := by decide +kernel
theorem dX2_passWord_20 : decode cX2_passWord 20 = .ok (.invokestatic 113, 3) := by decide +kernel
theorem dX2_passWord_23 : decode cX2_passWord 23 = .ok (.ifCond .eq 16, 3) := by decide +kernel
theorem dX2_passWord_26 : decode cX2_passWord 26 = .ok (.aload_n 0, 1) := by decide +kernel
theorem dX2_passWord_27 : decode cX2_passWord 27 = .ok (.dup, 1) := by decide +kernel
theorem dX2_passWord_28 : decode cX2_passWord 28 = .ok (.getfield 25, 3) := by decide +kernel
theorem dX2_passWord_31 : decode cX2_passWord 31 = .ok (.iconst 1, 1) := by decide +kernel
theorem dX2_passWord_32 : decode cX2_passWord 32 = .ok (.iadd, 1) := by decide +kernel
theorem dX2_passWord_33 : decode cX2_passWord 33 = .ok (.putfield 25, 3) := by decide +kernel
theorem dX2_passWord_36 : decode cX2_passWord 36 = .ok (.goto (-36), 3) := by decide +kernel
theorem dX2_passWord_39 : decode cX2_passWord 39 = .ok (.return_, 1) := by decide +kernel
theorem dX2_passNumber_0 : decode cX2_passNumber 0 = .ok (.aload_n 0, 1) := by decide +kernel
theorem dX2_passNumber_1 : decode cX2_passNumber 1 = .ok (.iconst 0, 1) := by decide +kernel
theorem dX2_passNumber_2 : decode cX2_passNumber 2 = .ok (.putfield 28, 3) := by decide +kernel
theorem dX2_passNumber_5 : decode cX2_passNumber 5 = .ok (.aload_n 0, 1) := by decide +kernel
theorem dX2_passNumber_6 : decode cX2_passNumber 6 = .ok (.getfield 25, 3) := by decide +kernel
theorem dX2_passNumber_9 : decode cX2_passNumber 9 = .ok (.aload_n 0, 1) := by decide +kernel
theorem dX2_passNumber_10 : decode cX2_passNumber 10 = .ok (.getfield 9, 3) := by decide +kernel
theorem dX2_passNumber_13 : decode cX2_passNumber 13 = .ok (.if_icmp .ge 61, 3) := by decide +kernel
theorem dX2_passNumber_16 : decode cX2_passNumber 16 = .ok (.aload_n 0, 1) := by decide +kernel
theorem dX2_passNumber_17 : decode cX2_passNumber 17 = .ok (.getfield 15, 3) := by decide +kernel
theorem dX2_passNumber_20 : decode cX2_passNumber 20 = .ok (.aload_n 0, 1) := by decide +kernel
theorem dX2_passNumber_21 : decode cX2_passNumber 21 = .ok (.getfield 25, 3) := by decide +kernel
theorem dX2_passNumber_24 : decode cX2_passNumber 24 = .ok (.iaload, 1) := by decide +kernel
theorem dX2_passNumber_25 : decode cX2_passNumber 25 = .ok (.invokestatic 119, 3) := by decide +kernel
theorem dX2_passNumber_28 : decode cX2_passNumber 28 = .ok (.ifCond .eq 46, 3) := by decide +kernel
theorem dX2_passNumber_31 : decode cX2_passNumber 31 = .ok (.aload_n 0, 1) := by decide +kernel
theorem dX2_passNumber_32 : decode cX2_passNumber 32 = .ok (.sipush 1000, 3) := by decide +kernel
theorem dX2_passNumber_35 : decode cX2_passNumber 35 = .ok (.aload_n 0, 1) := by decide +kernel
theorem dX2_passNumber_36 : decode cX2_passNumber 36 = .ok (.getfield 28, 3) := by decide +kernel
theorem dX2_passNumber_39 : decode cX2_passNumber 39 = .ok (.bipush 10, 2) := by decide +kernel
theorem dX2_passNumber_41 : decode cX2_passNumber 41 = .ok (.imul, 1) := by decide +kernel
theorem dX2_passNumber_42 : decode cX2_passNumber 42 = .ok (.aload_n 0, 1) := by decide +kernel
theorem dX2_passNumber_43 : decode cX2_passNumber 43 = .ok (.getfield 15, 3) := by decide +kernel
theorem dX2_passNumber_46 : decode cX2_passNumber 46 = .ok (.aload_n 0, 1) := by decide +kernel
theorem dX2_passNumber_47 : decode cX2_passNumber 47 = .ok (.getfield 25, 3) := by decide +kernel
theorem dX2_passNumber_50 : decode cX2_passNumber 50 = .ok (.iaload, 1) := by decide +kernel
theorem dX2_passNumber_51 : decode cX2_passNumber 51 = .ok (.iadd, 1) := by decide +kernel
theorem dX2_passNumber_52 : decode cX2_passNumber 52 = .ok (.bipush 48, 2) := by decide +kernel
theorem dX2_passNumber_54 : decode cX2_passNumber 54 = .ok (.isub, 1) := by decide +kernel
theorem dX2_passNumber_55 : decode cX2_passNumber 55 = .ok (.invokestatic 125, 3) := by decide +kernel
theorem dX2_passNumber_58 : decode cX2_passNumber 58 = .ok (.putfield 28, 3) := by decide +kernel
theorem dX2_passNumber_61 : decode cX2_passNumber 61 = .ok (.aload_n 0, 1) := by decide +kernel
theorem dX2_passNumber_62 : decode cX2_passNumber 62 = .ok (.dup, 1) := by decide +kernel
theorem dX2_passNumber_63 : decode cX2_passNumber 63 = .ok (.getfield 25, 3) := by decide +kernel
theorem dX2_passNumber_66 : decode cX2_passNumber 66 = .ok (.iconst 1, 1) := by decide +kernel
theorem dX2_passNumber_67 : decode cX2_passNumber 67 = .ok (.iadd, 1) := by decide +kernel
theorem dX2_passNumber_68 : decode cX2_passNumber 68 = .ok (.putfield 25, 3) := by decide +kernel
theorem dX2_passNumber_71 : decode cX2_passNumber 71 = .ok (.goto (-66), 3) := by decide +kernel
theorem dX2_passNumber_74 : decode cX2_passNumber 74 = .ok (.return_, 1) := by decide +kernel
theorem dX2_isLetter_0 : decode cX2_isLetter 0 = .ok (.iload_n 0, 1) := by decide +kernel
theorem dX2_isLetter_1 : decode cX2_isLetter 1 = .ok (.bipush 97, 2) := by decide +kernel
theorem dX2_isLetter_3 : decode cX2_isLetter 3 = .ok (.if_icmp .lt 13, 3) := by decide +kernel
theorem dX2_isLetter_6 : decode cX2_isLetter 6 = .ok (.iload_n 0, 1) := by decide +kernel
theorem dX2_isLetter_7 : decode cX2_isLetter 7 = .ok (.bipush 122, 2) := by decide +kernel
theorem dX2_isLetter_9 : decode cX2_isLetter 9 = .ok (.if_icmp .gt 7, 3) := by decide +kernel
theorem dX2_isLetter_12 : decode cX2_isLetter 12 = .ok (.iconst 1, 1) := by decide +kernel
theorem dX2_isLetter_13 : decode cX2_isLetter 13 = .ok (.goto 4, 3) := by decide +kernel
theorem dX2_isLetter_16 : decode cX2_isLetter 16 = .ok (.iconst 0, 1) := by decide +kernel
theorem dX2_isLetter_17 : decode cX2_isLetter 17 = .ok (.ireturn, 1) := by decide +kernel
theorem dX2_isDigit_0 : decode cX2_isDigit 0 = .ok (.iload_n 0, 1) := by decide +kernel
theorem dX2_isDigit_1 : decode cX2_isDigit 1 = .ok (.bipush 48, 2) := by decide +kernel
theorem dX2_isDigit_3 : decode cX2_isDigit 3 = .ok (.if_icmp .lt 13, 3) := by decide +kernel
theorem dX2_isDigit_6 : decode cX2_isDigit 6 = .ok (.iload_n 0, 1) := by decide +kernel
theorem dX2_isDigit_7 : decode cX2_isDigit 7 = .ok (.bipush 57, 2) := by decide +kernel
theorem dX2_isDigit_9 : decode cX2_isDigit 9 = .ok (.if_icmp .gt 7, 3) := by decide +kernel
theorem dX2_isDigit_12 : decode cX2_isDigit 12 = .ok (.iconst 1, 1) := by decide +kernel
theorem dX2_isDigit_13 : decode cX2_isDigit 13 = .ok (.goto 4, 3) := by decide +kernel
theorem dX2_isDigit_16 : decode cX2_isDigit 16 = .ok (.iconst 0, 1) := by decide +kernel
theorem dX2_isDigit_17 : decode cX2_isDigit 17 = .ok (.ireturn, 1) := by decide +kernel
theorem dX3_isOrIsUnder_0 : decode cX3_isOrIsUnder 0 = .ok (.iload_n 0, 1) := by decide +kernel
theorem dX3_isOrIsUnder_1 : decode cX3_isOrIsUnder 1 = .ok (.istore_n 2, 1) := by decide +kernel
theorem dX3_isOrIsUnder_2 : decode cX3_isOrIsUnder 2 = .ok (.iconst 0, 1) := by decide +kernel
theorem dX3_isOrIsUnder_3 : decode cX3_isOrIsUnder 3 = .ok (.istore_n 3, 1) := by decide +kernel
theorem dX3_isOrIsUnder_4 : decode cX3_isOrIsUnder 4 = .ok (.iload_n 3, 1) := by decide +kernel
theorem dX3_isOrIsUnder_5 : decode cX3_isOrIsUnder 5 = .ok (.bipush 6, 2) := by decide +kernel
theorem dX3_isOrIsUnder_7 : decode cX3_isOrIsUnder 7 = .ok (.if_icmp .ge 29, 3) := by decide +kernel
theorem dX3_isOrIsUnder_10 : decode cX3_isOrIsUnder 10 = .ok (.iload_n 2, 1) := by decide +kernel
theorem dX3_isOrIsUnder_11 : decode cX3_isOrIsUnder 11 = .ok (.invokestatic 9, 3) := by decide +kernel
theorem dX3_isOrIsUnder_14 : decode cX3_isOrIsUnder 14 = .ok (.ifCond .eq 22, 3) := by decide +kernel
theorem dX3_isOrIsUnder_17 : decode cX3_isOrIsUnder 17 = .ok (.iload_n 2, 1) := by decide +kernel
theorem dX3_isOrIsUnder_18 : decode cX3_isOrIsUnder 18 = .ok (.iload_n 1, 1) := by decide +kernel
theorem dX3_isOrIsUnder_19 : decode cX3_isOrIsUnder 19 = .ok (.if_icmp .ne 5, 3) := by decide +kernel
theorem dX3_isOrIsUnder_22 : decode cX3_isOrIsUnder 22 = .ok (.iconst 1, 1) := by decide +kernel
theorem dX3_isOrIsUnder_23 : decode cX3_isOrIsUnder 23 = .ok (.ireturn, 1) := by decide +kernel
theorem dX3_isOrIsUnder_24 : decode cX3_isOrIsUnder 24 = .ok (.getstatic 13, 3) := by decide +kernel
theorem dX3_isOrIsUnder_27 : decode cX3_isOrIsUnder 27 = .ok (.iload_n 2, 1) := by decide +kernel
theorem dX3_isOrIsUnder_28 : decode cX3_isOrIsUnder 28 = .ok (.iaload, 1) := by decide +kernel
theorem dX3_isOrIsUnder_29 : decode cX3_isOrIsUnder 29 = .ok (.istore_n 2, 1) := by decide +kernel
theorem dX3_isOrIsUnder_30 : decode cX3_isOrIsUnder 30 = .ok (.iinc 3 1, 3) := by decide +kernel
theorem dX3_isOrIsUnder_33 : decode cX3_isOrIsUnder 33 = .ok (.goto (-29), 3) := by decide +kernel
theorem dX3_isOrIsUnder_36 : decode cX3_isOrIsUnder 36 = .ok (.iconst 0, 1) := by decide +kernel
theorem dX3_isOrIsUnder_37 : decode cX3_isOrIsUnder 37 = .ok (.ireturn, 1) := by decide +kernel
theorem dX3_glows_0 : decode cX3_glows 0 = .ok (.iload_n 2, 1) := by decide +kernel
theorem dX3_glows_1 : decode cX3_glows 1 = .ok (.ifCond .ne 5, 3) := by decide +kernel
theorem dX3_glows_4 : decode cX3_glows 4 = .ok (.iconst 0, 1) := by decide +kernel
theorem dX3_glows_5 : decode cX3_glows 5 = .ok (.ireturn, 1) := by decide +kernel
theorem dX3_glows_6 : decode cX3_glows 6 = .ok (.iload_n 1, 1) := by decide +kernel
theorem dX3_glows_7 : decode cX3_glows 7 = .ok (.bipush 20, 2) := by decide +kernel
theorem dX3_glows_9 : decode cX3_glows 9 = .ok (.idiv, 1) := by decide +kernel
theorem dX3_glows_10 : decode cX3_glows 10 = .ok (.iload_n 2, 1) := by decide +kernel
theorem dX3_glows_11 : decode cX3_glows 11 = .ok (.imul, 1) := by decide +kernel
theorem dX3_glows_12 : decode cX3_glows 12 = .ok (.bipush 9, 2) := by decide +kernel
theorem dX3_glows_14 : decode cX3_glows 14 = .ok (.idiv, 1) := by decide +kernel
theorem dX3_glows_15 : decode cX3_glows 15 = .ok (.istore 4, 2) := by decide +kernel
theorem dX3_glows_17 : decode cX3_glows 17 = .ok (.iload_n 0, 1) := by decide +kernel
theorem dX3_glows_18 : decode cX3_glows 18 = .ok (.tableswitch 74 1 5 #[34, 39, 44, 47, 63], 34) := by decide +kernel
theorem dX3_glows_52 : decode cX3_glows 52 = .ok (.iload 4, 2) := by decide +kernel
theorem dX3_glows_54 : decode cX3_glows 54 = .ok (.iconst 3, 1) := by decide +kernel
theorem dX3_glows_55 : decode cX3_glows 55 = .ok (.iadd, 1) := by decide +kernel
theorem dX3_glows_56 : decode cX3_glows 56 = .ok (.ireturn, 1) := by decide +kernel
theorem dX3_glows_57 : decode cX3_glows 57 = .ok (.iload 4, 2) := by decide +kernel
theorem dX3_glows_59 : decode cX3_glows 59 = .ok (.iconst 2, 1) := by decide +kernel
theorem dX3_glows_60 : decode cX3_glows 60 = .ok (.idiv, 1) := by decide +kernel
theorem dX3_glows_61 : decode cX3_glows 61 = .ok (.ireturn, 1) := by decide +kernel
theorem dX3_glows_62 : decode cX3_glows 62 = .ok (.bipush 9, 2) := by decide +kernel
theorem dX3_glows_64 : decode cX3_glows 64 = .ok (.ireturn, 1) := by decide +kernel
theorem dX3_glows_65 : decode cX3_glows 65 = .ok (.iload 4, 2) := by decide +kernel
theorem dX3_glows_67 : decode cX3_glows 67 = .ok (.iconst 2, 1) := by decide +kernel
theorem dX3_glows_68 : decode cX3_glows 68 = .ok (.idiv, 1) := by decide +kernel
theorem dX3_glows_69 : decode cX3_glows 69 = .ok (.iload_n 3, 1) := by decide +kernel
theorem dX3_glows_70 : decode cX3_glows 70 = .ok (.iconst 4, 1) := by decide +kernel
theorem dX3_glows_71 : decode cX3_glows 71 = .ok (.if_icmp .ne 7, 3) := by decide +kernel
theorem dX3_glows_74 : decode cX3_glows 74 = .ok (.iconst 2, 1) := by decide +kernel
theorem dX3_glows_75 : decode cX3_glows 75 = .ok (.goto 4, 3) := by decide +kernel
theorem dX3_glows_78 : decode cX3_glows 78 = .ok (.iconst 1, 1) := by decide +kernel
theorem dX3_glows_79 : decode cX3_glows 79 = .ok (.imul, 1) := by decide +kernel
theorem dX3_glows_80 : decode cX3_glows 80 = .ok (.ireturn, 1) := by decide +kernel
theorem dX3_glows_81 : decode cX3_glows 81 = .ok (.iconst 0, 1) := by decide +kernel
theorem dX3_glows_82 : decode cX3_glows 82 = .ok (.iload 4, 2) := by decide +kernel
theorem dX3_glows_84 : decode cX3_glows 84 = .ok (.iconst 3, 1) := by decide +kernel
theorem dX3_glows_85 : decode cX3_glows 85 = .ok (.iadd, 1) := by decide +kernel
theorem dX3_glows_86 : decode cX3_glows 86 = .ok (.iconst 4, 1) := by decide +kernel
theorem dX3_glows_87 : decode cX3_glows 87 = .ok (.isub, 1) := by decide +kernel
theorem dX3_glows_88 : decode cX3_glows 88 = .ok (.invokestatic 19, 3) := by decide +kernel
theorem dX3_glows_91 : decode cX3_glows 91 = .ok (.ireturn, 1) := by decide +kernel
theorem dX3_glows_92 : decode cX3_glows 92 = .ok (.iload 4, 2) := by decide +kernel
theorem dX3_glows_94 : decode cX3_glows 94 = .ok (.ireturn, 1) := by decide +kernel
theorem dX3_takes_0 : decode cX3_takes 0 = .ok (.iload_n 1, 1) := by decide +kernel
theorem dX3_takes_1 : decode cX3_takes 1 = .ok (.ifCond .ne 5, 3) := by decide +kernel
theorem dX3_takes_4 : decode cX3_takes 4 = .ok (.iconst 0, 1) := by decide +kernel
theorem dX3_takes_5 : decode cX3_takes 5 = .ok (.ireturn, 1) := by decide +kernel
theorem dX3_takes_6 : decode cX3_takes 6 = .ok (.iload_n 0, 1) := by decide +kernel
theorem dX3_takes_7 : decode cX3_takes 7 = .ok (.tableswitch 53 1 5 #[33, 37, 41, 43, 47], 33) := by decide +kernel
theorem dX3_takes_40 : decode cX3_takes 40 = .ok (.iload_n 1, 1) := by decide +kernel
theorem dX3_takes_41 : decode cX3_takes 41 = .ok (.iconst 2, 1) := by decide +kernel
theorem dX3_takes_42 : decode cX3_takes 42 = .ok (.idiv, 1) := by decide +kernel
theorem dX3_takes_43 : decode cX3_takes 43 = .ok (.ireturn, 1) := by decide +kernel
theorem dX3_takes_44 : decode cX3_takes 44 = .ok (.iload_n 1, 1) := by decide +kernel
theorem dX3_takes_45 : decode cX3_takes 45 = .ok (.iconst 1, 1) := by decide +kernel
theorem dX3_takes_46 : decode cX3_takes 46 = .ok (.iadd, 1) := by decide +kernel
theorem dX3_takes_47 : decode cX3_takes 47 = .ok (.ireturn, 1) := by decide +kernel
theorem dX3_takes_48 : decode cX3_takes 48 = .ok (.iconst 0, 1) := by decide +kernel
theorem dX3_takes_49 : decode cX3_takes 49 = .ok (.ireturn, 1) := by decide +kernel
theorem dX3_takes_50 : decode cX3_takes 50 = .ok (.iload_n 1, 1) := by decide +kernel
theorem dX3_takes_51 : decode cX3_takes 51 = .ok (.iconst 1, 1) := by decide +kernel
theorem dX3_takes_52 : decode cX3_takes 52 = .ok (.iadd, 1) := by decide +kernel
theorem dX3_takes_53 : decode cX3_takes 53 = .ok (.ireturn, 1) := by decide +kernel
theorem dX3_takes_54 : decode cX3_takes 54 = .ok (.iload_n 1, 1) := by decide +kernel
theorem dX3_takes_55 : decode cX3_takes 55 = .ok (.iconst 2, 1) := by decide +kernel
theorem dX3_takes_56 : decode cX3_takes 56 = .ok (.idiv, 1) := by decide +kernel
theorem dX3_takes_57 : decode cX3_takes 57 = .ok (.iconst 2, 1) := by decide +kernel
theorem dX3_takes_58 : decode cX3_takes 58 = .ok (.iadd, 1) := by decide +kernel
theorem dX3_takes_59 : decode cX3_takes 59 = .ok (.ireturn, 1) := by decide +kernel
theorem dX3_takes_60 : decode cX3_takes 60 = .ok (.iload_n 1, 1) := by decide +kernel
theorem dX3_takes_61 : decode cX3_takes 61 = .ok (.ireturn, 1) := by decide +kernel
theorem dX3_fades_0 : decode cX3_fades 0 = .ok (.iload_n 0, 1) := by decide +kernel
theorem dX3_fades_1 : decode cX3_fades 1 = .ok (.tableswitch 51 1 5 #[35, 37, 51, 39, 49], 35) := by decide +kernel
theorem dX3_fades_36 : decode cX3_fades 36 = .ok (.iconst 0, 1) := by decide +kernel
theorem dX3_fades_37 : decode cX3_fades 37 = .ok (.ireturn, 1) := by decide +kernel
theorem dX3_fades_38 : decode cX3_fades 38 = .ok (.iconst 1, 1) := by decide +kernel
theorem dX3_fades_39 : decode cX3_fades 39 = .ok (.ireturn, 1) := by decide +kernel
theorem dX3_fades_40 : decode cX3_fades 40 = .ok (.iload_n 2, 1) := by decide +kernel
theorem dX3_fades_41 : decode cX3_fades 41 = .ok (.ifCond .eq 7, 3) := by decide +kernel
theorem dX3_fades_44 : decode cX3_fades 44 = .ok (.iconst 0, 1) := by decide +kernel
theorem dX3_fades_45 : decode cX3_fades 45 = .ok (.goto 4, 3) := by decide +kernel
theorem dX3_fades_48 : decode cX3_fades 48 = .ok (.iconst 1, 1) := by decide +kernel
theorem dX3_fades_49 : decode cX3_fades 49 = .ok (.ireturn, 1) := by decide +kernel
theorem dX3_fades_50 : decode cX3_fades 50 = .ok (.iconst 2, 1) := by decide +kernel
theorem dX3_fades_51 : decode cX3_fades 51 = .ok (.ireturn, 1) := by decide +kernel
theorem dX3_fades_52 : decode cX3_fades 52 = .ok (.iload_n 1, 1) := by decide +kernel
theorem dX3_fades_53 : decode cX3_fades 53 = .ok (.ifCond .ne 7, 3) := by decide +kernel
theorem dX3_fades_56 : decode cX3_fades 56 = .ok (.iconst 1, 1) := by decide +kernel
theorem dX3_fades_57 : decode cX3_fades 57 = .ok (.goto 4, 3) := by decide +kernel
theorem dX3_fades_60 : decode cX3_fades 60 = .ok (.iconst 0, 1) := by decide +kernel
theorem dX3_fades_61 : decode cX3_fades 61 = .ok (.ireturn, 1) := by decide +kernel
theorem dX3_burnsFrom_0 : decode cX3_burnsFrom 0 = .ok (.iload_n 0, 1) := by decide +kernel
theorem dX3_burnsFrom_1 : decode cX3_burnsFrom 1 = .ok (.tableswitch 47 1 5 #[35, 38, 47, 41, 44], 35) := by decide +kernel
theorem dX3_burnsFrom_36 : decode cX3_burnsFrom 36 = .ok (.bipush 40, 2) := by decide +kernel
theorem dX3_burnsFrom_38 : decode cX3_burnsFrom 38 = .ok (.ireturn, 1) := by decide +kernel
theorem dX3_burnsFrom_39 : decode cX3_burnsFrom 39 = .ok (.bipush 8, 2) := by decide +kernel
theorem dX3_burnsFrom_41 : decode cX3_burnsFrom 41 = .ok (.ireturn, 1) := by decide +kernel
theorem dX3_burnsFrom_42 : decode cX3_burnsFrom 42 = .ok (.bipush 8, 2) := by decide +kernel
theorem dX3_burnsFrom_44 : decode cX3_burnsFrom 44 = .ok (.ireturn, 1) := by decide +kernel
theorem dX3_burnsFrom_45 : decode cX3_burnsFrom 45 = .ok (.bipush 20, 2) := by decide +kernel
theorem dX3_burnsFrom_47 : decode cX3_burnsFrom 47 = .ok (.ireturn, 1) := by decide +kernel
theorem dX3_burnsFrom_48 : decode cX3_burnsFrom 48 = .ok (.bipush 12, 2) := by decide +kernel
theorem dX3_burnsFrom_50 : decode cX3_burnsFrom 50 = .ok (.ireturn, 1) := by decide +kernel
theorem dX4_init_0 : decode cX4_init 0 = .ok (.aload_n 0, 1) := by decide +kernel
theorem dX4_init_1 : decode cX4_init 1 = .ok (.invokespecial 1, 3) := by decide +kernel
theorem dX4_init_4 : decode cX4_init 4 = .ok (.aload_n 0, 1) := by decide +kernel
theorem dX4_init_5 : decode cX4_init 5 = .ok (.new 7, 3) := by decide +kernel
theorem dX4_init_8 : decode cX4_init 8 = .ok (.dup, 1) := by decide +kernel
theorem dX4_init_9 : decode cX4_init 9 = .ok (.invokespecial 9, 3) := by decide +kernel
theorem dX4_init_12 : decode cX4_init 12 = .ok (.putfield 10, 3) := by decide +kernel
theorem dX4_init_15 : decode cX4_init 15 = .ok (.aload_n 0, 1) := by decide +kernel
theorem dX4_init_16 : decode cX4_init 16 = .ok (.new 7, 3) := by decide +kernel
theorem dX4_init_19 : decode cX4_init 19 = .ok (.dup, 1) := by decide +kernel
theorem dX4_init_20 : decode cX4_init 20 = .ok (.invokespecial 9, 3) := by decide +kernel
theorem dX4_init_23 : decode cX4_init 23 = .ok (.putfield 16, 3) := by decide +kernel
theorem dX4_init_26 : decode cX4_init 26 = .ok (.aload_n 0, 1) := by decide +kernel
theorem dX4_init_27 : decode cX4_init 27 = .ok (.new 7, 3) := by decide +kernel
theorem dX4_init_30 : decode cX4_init 30 = .ok (.dup, 1) := by decide +kernel
theorem dX4_init_31 : decode cX4_init 31 = .ok (.invokespecial 9, 3) := by decide +kernel
theorem dX4_init_34 : decode cX4_init 34 = .ok (.putfield 19, 3) := by decide +kernel
theorem dX4_init_37 : decode cX4_init 37 = .ok (.aload_n 0, 1) := by decide +kernel
theorem dX4_init_38 : decode cX4_init 38 = .ok (.new 22, 3) := by decide +kernel
theorem dX4_init_41 : decode cX4_init 41 = .ok (.dup, 1) := by decide +kernel
theorem dX4_init_42 : decode cX4_init 42 = .ok (.invokespecial 24, 3) := by decide +kernel
theorem dX4_init_45 : decode cX4_init 45 = .ok (.putfield 25, 3) := by decide +kernel
theorem dX4_init_48 : decode cX4_init 48 = .ok (.aload_n 0, 1) := by decide +kernel
theorem dX4_init_49 : decode cX4_init 49 = .ok (.iconst 4, 1) := by decide +kernel
theorem dX4_init_50 : decode cX4_init 50 = .ok (.anewarray 29, 3) := by decide +kernel
theorem dX4_init_53 : decode cX4_init 53 = .ok (.putfield 31, 3) := by decide +kernel
theorem dX4_init_56 : decode cX4_init 56 = .ok (.aload_n 0, 1) := by decide +kernel
theorem dX4_init_57 : decode cX4_init 57 = .ok (.bipush 7, 2) := by decide +kernel
theorem dX4_init_59 : decode cX4_init 59 = .ok (.newarray .int, 2) := by decide +kernel
theorem dX4_init_61 : decode cX4_init 61 = .ok (.putfield 35, 3) := by decide +kernel
theorem dX4_init_64 : decode cX4_init 64 = .ok (.aload_n 0, 1) := by decide +kernel
theorem dX4_init_65 : decode cX4_init 65 = .ok (.iconst 0, 1) := by decide +kernel
theorem dX4_init_66 : decode cX4_init 66 = .ok (.putfield 39, 3) := by decide +kernel
theorem dX4_init_69 : decode cX4_init 69 = .ok (.iconst 0, 1) := by decide +kernel
theorem dX4_init_70 : decode cX4_init 70 = .ok (.istore_n 1, 1) := by decide +kernel
theorem dX4_init_71 : decode cX4_init 71 = .ok (.iload_n 1, 1) := by decide +kernel
theorem dX4_init_72 : decode cX4_init 72 = .ok (.iconst 4, 1) := by decide +kernel
theorem dX4_init_73 : decode cX4_init 73 = .ok (.if_icmp .ge 22, 3) := by decide +kernel
theorem dX4_init_76 : decode cX4_init 76 = .ok (.aload_n 0, 1) := by decide +kernel
theorem dX4_init_77 : decode cX4_init 77 = .ok (.getfield 31, 3) := by decide +kernel
theorem dX4_init_80 : decode cX4_init 80 = .ok (.iload_n 1, 1) := by decide +kernel
theorem dX4_init_81 : decode cX4_init 81 = .ok (.new 29, 3) := by decide +kernel
theorem dX4_init_84 : decode cX4_init 84 = .ok (.dup, 1) := by decide +kernel
theorem dX4_init_85 : decode cX4_init 85 = .ok (.invokespecial 43, 3) := by decide +kernel
theorem dX4_init_88 : decode cX4_init 88 = .ok (.aastore, 1) := by decide +kernel
theorem dX4_init_89 : decode cX4_init 89 = .ok (.iinc 1 1, 3) := by decide +kernel
theorem dX4_init_92 : decode cX4_init 92 = .ok (.goto (-21), 3) := by decide +kernel
theorem dX4_init_95 : decode cX4_init 95 = .ok (.return_, 1) := by decide +kernel
theorem dX4_sun_0 : decode cX4_sun 0 = .ok (.iload_n 1, 1) := by decide +kernel
theorem dX4_sun_1 : decode cX4_sun 1 = .ok (.iconst 0, 1) := by decide +kernel
theorem dX4_sun_2 : decode cX4_sun 2 = .ok (.bipush 9, 2) := by decide +kernel
theorem dX4_sun_4 : decode cX4_sun 4 = .ok (.invokestatic 44, 3) := by decide +kernel
theorem dX4_sun_7 : decode cX4_sun 7 = .ok (.ifCond .eq 13, 3) := by decide +kernel
theorem dX4_sun_10 : decode cX4_sun 10 = .ok (.iload_n 2, 1) := by decide +kernel
theorem dX4_sun_11 : decode cX4_sun 11 = .ok (.iconst 0, 1) := by decide +kernel
theorem dX4_sun_12 : decode cX4_sun 12 = .ok (.bipush 9, 2) := by decide +kernel
theorem dX4_sun_14 : decode cX4_sun 14 = .ok (.invokestatic 44, 3) := by decide +kernel
theorem dX4_sun_17 : decode cX4_sun 17 = .ok (.ifCond .ne 10, 3) := by decide +kernel
theorem dX4_sun_20 : decode cX4_sun 20 = .ok (.aload_n 0, 1) := by decide +kernel
theorem dX4_sun_21 : decode cX4_sun 21 = .ok (.ldc 48, 2) := by decide +kernel
theorem dX4_sun_23 : decode cX4_sun 23 = .ok (.invokevirtual 49, 3) := by decide +kernel
theorem dX4_sun_26 : decode cX4_sun 26 = .ok (.ireturn, 1) := by decide +kernel
theorem dX4_sun_27 : decode cX4_sun 27 = .ok (.aload_n 0, 1) := by decide +kernel
theorem dX4_sun_28 : decode cX4_sun 28 = .ok (.getfield 10, 3) := by decide +kernel
theorem dX4_sun_31 : decode cX4_sun 31 = .ok (.getfield 53, 3) := by decide +kernel
theorem dX4_sun_34 : decode cX4_sun 34 = .ok (.iload_n 1, 1) := by decide +kernel
theorem dX4_sun_35 : decode cX4_sun 35 = .ok (.iaload, 1) := by decide +kernel
theorem dX4_sun_36 : decode cX4_sun 36 = .ok (.istore_n 3, 1) := by decide +kernel
theorem dX4_sun_37 : decode cX4_sun 37 = .ok (.aload_n 0, 1) := by decide +kernel
theorem dX4_sun_38 : decode cX4_sun 38 = .ok (.getfield 10, 3) := by decide +kernel
theorem dX4_sun_41 : decode cX4_sun 41 = .ok (.getfield 53, 3) := by decide +kernel
theorem dX4_sun_44 : decode cX4_sun 44 = .ok (.iload_n 1, 1) := by decide +kernel
theorem dX4_sun_45 : decode cX4_sun 45 = .ok (.iload_n 2, 1) := by decide +kernel
theorem dX4_sun_46 : decode cX4_sun 46 = .ok (.iastore, 1) := by decide +kernel
theorem dX4_sun_47 : decode cX4_sun 47 = .ok (.iload_n 3, 1) := by decide +kernel
theorem dX4_sun_48 : decode cX4_sun 48 = .ok (.ireturn, 1) := by decide +kernel
theorem dX4_chair_0 : decode cX4_chair 0 = .ok (.iload_n 1, 1) := by decide +kernel
theorem dX4_chair_1 : decode cX4_chair 1 = .ok (.iconst 0, 1) := by decide +kernel
theorem dX4_chair_2 : decode cX4_chair 2 = .ok (.bipush 9, 2) := by decide +kernel
theorem dX4_chair_4 : decode cX4_chair 4 = .ok (.invokestatic 44, 3) := by decide +kernel
theorem dX4_chair_7 : decode cX4_chair 7 = .ok (.ifCond .eq 15, 3) := by decide +kernel
theorem dX4_chair_10 : decode cX4_chair 10 = .ok (.aload_n 0, 1) := by decide +kernel
theorem dX4_chair_11 : decode cX4_chair 11 = .ok (.getfield 10, 3) := by decide +kernel
theorem dX4_chair_14 : decode cX4_chair 14 = .ok (.getfield 56, 3) := by decide +kernel
theorem dX4_chair_17 : decode cX4_chair 17 = .ok (.iload_n 1, 1) := by decide +kernel
theorem dX4_chair_18 : decode cX4_chair 18 = .ok (.iaload, 1) := by decide +kernel
theorem dX4_chair_19 : decode cX4_chair 19 = .ok (.goto 9, 3) := by decide +kernel
theorem dX4_chair_22 : decode cX4_chair 22 = .ok (.aload_n 0, 1) := by decide +kernel
theorem dX4_chair_23 : decode cX4_chair 23 = .ok (.ldc 48, 2) := by decide +kernel
theorem dX4_chair_25 : decode cX4_chair 25 = .ok (.invokevirtual 49, 3) := by decide +kernel
theorem dX4_chair_28 : decode cX4_chair 28 = .ok (.ireturn, 1) := by decide +kernel
theorem dX4_now_0 : decode cX4_now 0 = .ok (.iload_n 1, 1) := by decide +kernel
theorem dX4_now_1 : decode cX4_now 1 = .ok (.tableswitch 99 0 6 #[43, 51, 59, 67, 75, 83, 91], 43) := by decide +kernel
theorem dX4_now_44 : decode cX4_now 44 = .ok (.aload_n 0, 1) := by decide +kernel
theorem dX4_now_45 : decode cX4_now 45 = .ok (.getfield 10, 3) := by decide +kernel
theorem dX4_now_48 : decode cX4_now 48 = .ok (.getfield 59, 3) := by decide +kernel
theorem dX4_now_51 : decode cX4_now 51 = .ok (.ireturn, 1) := by decide +kernel
theorem dX4_now_52 : decode cX4_now 52 = .ok (.aload_n 0, 1) := by decide +kernel
theorem dX4_now_53 : decode cX4_now 53 = .ok (.getfield 10, 3) := by decide +kernel
theorem dX4_now_56 : decode cX4_now 56 = .ok (.invokevirtual 63, 3) := by decide +kernel
theorem dX4_now_59 : decode cX4_now 59 = .ok (.ireturn, 1) := by decide +kernel
theorem dX4_now_60 : decode cX4_now 60 = .ok (.aload_n 0, 1) := by decide +kernel
theorem dX4_now_61 : decode cX4_now 61 = .ok (.getfield 10, 3) := by decide +kernel
theorem dX4_now_64 : decode cX4_now 64 = .ok (.invokevirtual 67, 3) := by decide +kernel
theorem dX4_now_67 : decode cX4_now 67 = .ok (.ireturn, 1) := by decide +kernel
theorem dX4_now_68 : decode cX4_now 68 = .ok (.aload_n 0, 1) := by decide +kernel
theorem dX4_now_69 : decode cX4_now 69 = .ok (.getfield 10, 3) := by decide +kernel
theorem dX4_now_72 : decode cX4_now 72 = .ok (.invokevirtual 70, 3) := by decide +kernel
theorem dX4_now_75 : decode cX4_now 75 = .ok (.ireturn, 1) := by decide +kernel
theorem dX4_now_76 : decode cX4_now 76 = .ok (.aload_n 0, 1) := by decide +kernel
theorem dX4_now_77 : decode cX4_now 77 = .ok (.getfield 10, 3) := by decide +kernel
theorem dX4_now_80 : decode cX4_now 80 = .ok (.invokevirtual 73, 3) := by decide +kernel
theorem dX4_now_83 : decode cX4_now 83 = .ok (.ireturn, 1) := by decide +kernel
theorem dX4_now_84 : decode cX4_now 84 = .ok (.aload_n 0, 1) := by decide +kernel
theorem dX4_now_85 : decode cX4_now 85 = .ok (.getfield 10, 3) := by decide +kernel
theorem dX4_now_88 : decode cX4_now 88 = .ok (.invokevirtual 76, 3) := by decide +kernel
theorem dX4_now_91 : decode cX4_now 91 = .ok (.ireturn, 1) := by decide +kernel
theorem dX4_now_92 : decode cX4_now 92 = .ok (.aload_n 0, 1) := by decide +kernel
theorem dX4_now_93 : decode cX4_now 93 = .ok (.getfield 10, 3) := by decide +kernel
theorem dX4_now_96 : decode cX4_now 96 = .ok (.invokevirtual 79, 3) := by decide +kernel
theorem dX4_now_99 : decode cX4_now 99 = .ok (.ireturn, 1) := by decide +kernel
theorem dX4_now_100 : decode cX4_now 100 = .ok (.aload_n 0, 1) := by decide +kernel
theorem dX4_now_101 : decode cX4_now 101 = .ok (.ldc 48, 2) := by decide +kernel
theorem dX4_now_103 : decode cX4_now 103 = .ok (.invokevirtual 49, 3) := by decide +kernel
theorem dX4_now_106 : decode cX4_now 106 = .ok (.ireturn, 1) := by decide +kernel
theorem dX4_person_0 : decode cX4_person 0 = .ok (.iload_n 1, 1) := by decide +kernel
theorem dX4_person_1 : decode cX4_person 1 = .ok (.invokestatic 82, 3) := by decide +kernel
theorem dX4_person_4 : decode cX4_person 4 = .ok (.ifCond .ne 10, 3) := by decide +kernel
theorem dX4_person_7 : decode cX4_person 7 = .ok (.aload_n 0, 1) := by decide +kernel
theorem dX4_person_8 : decode cX4_person 8 = .ok (.ldc 48, 2) := by decide +kernel
theorem dX4_person_10 : decode cX4_person 10 = .ok (.invokevirtual 49, 3) := by decide +kernel
theorem dX4_person_13 : decode cX4_person 13 = .ok (.ireturn, 1) := by decide +kernel
theorem dX4_person_14 : decode cX4_person 14 = .ok (.aload_n 0, 1) := by decide +kernel
theorem dX4_person_15 : decode cX4_person 15 = .ok (.getfield 10, 3) := by decide +kernel
theorem dX4_person_18 : decode cX4_person 18 = .ok (.getfield 86, 3) := by decide +kernel
theorem dX4_person_21 : decode cX4_person 21 = .ok (.bipush 8, 2) := by decide +kernel
theorem dX4_person_23 : decode cX4_person 23 = .ok (.if_icmp .lt 10, 3) := by decide +kernel
theorem dX4_person_26 : decode cX4_person 26 = .ok (.aload_n 0, 1) := by decide +kernel
theorem dX4_person_27 : decode cX4_person 27 = .ok (.ldc 89, 2) := by decide +kernel
theorem dX4_person_29 : decode cX4_person 29 = .ok (.invokevirtual 49, 3) := by decide +kernel
theorem dX4_person_32 : decode cX4_person 32 = .ok (.ireturn, 1) := by decide +kernel
theorem dX4_person_33 : decode cX4_person 33 = .ok (.aload_n 0, 1) := by decide +kernel
theorem dX4_person_34 : decode cX4_person 34 = .ok (.getfield 10, 3) := by decide +kernel
theorem dX4_person_37 : decode cX4_person 37 = .ok (.iload_n 1, 1) := by decide +kernel
theorem dX4_person_38 : decode cX4_person 38 = .ok (.bipush 20, 2) := by decide +kernel
theorem dX4_person_40 : decode cX4_person 40 = .ok (.invokevirtual 90, 3) := by decide +kernel
theorem dX4_person_43 : decode cX4_person 43 = .ok (.ireturn, 1) := by decide +kernel
theorem dX4_of_0 : decode cX4_of 0 = .ok (.aload_n 0, 1) := by decide +kernel
theorem dX4_of_1 : decode cX4_of 1 = .ok (.iload_n 1, 1) := by decide +kernel
theorem dX4_of_2 : decode cX4_of 2 = .ok (.invokevirtual 94, 3) := by decide +kernel
theorem dX4_of_5 : decode cX4_of 5 = .ok (.ifCond .ne 10, 3) := by decide +kernel
theorem dX4_of_8 : decode cX4_of 8 = .ok (.aload_n 0, 1) := by decide +kernel
theorem dX4_of_9 : decode cX4_of 9 = .ok (.ldc 48, 2) := by decide +kernel
theorem dX4_of_11 : decode cX4_of 11 = .ok (.invokevirtual 49, 3) := by decide +kernel
theorem dX4_of_14 : decode cX4_of 14 = .ok (.ireturn, 1) := by decide +kernel
theorem dX4_of_15 : decode cX4_of 15 = .ok (.iload_n 2, 1) := by decide +kernel
theorem dX4_of_16 : decode cX4_of 16 = .ok (.tableswitch 144 0 8 #[52, 62, 72, 82, 92, 102, 111, 124, 134], 52) := by decide +kernel
theorem dX4_of_68 : decode cX4_of 68 = .ok (.aload_n 0, 1) := by decide +kernel
theorem dX4_of_69 : decode cX4_of 69 = .ok (.getfield 10, 3) := by decide +kernel
theorem dX4_of_72 : decode cX4_of 72 = .ok (.getfield 97, 3) := by decide +kernel
theorem dX4_of_75 : decode cX4_of 75 = .ok (.iload_n 1, 1) := by decide +kernel
theorem dX4_of_76 : decode cX4_of 76 = .ok (.iaload, 1) := by decide +kernel
theorem dX4_of_77 : decode cX4_of 77 = .ok (.ireturn, 1) := by decide +kernel
theorem dX4_of_78 : decode cX4_of 78 = .ok (.aload_n 0, 1) := by decide +kernel
theorem dX4_of_79 : decode cX4_of 79 = .ok (.getfield 10, 3) := by decide +kernel
theorem dX4_of_82 : decode cX4_of 82 = .ok (.getfield 100, 3) := by decide +kernel
theorem dX4_of_85 : decode cX4_of 85 = .ok (.iload_n 1, 1) := by decide +kernel
theorem dX4_of_86 : decode cX4_of 86 = .ok (.iaload, 1) := by decide +kernel
theorem dX4_of_87 : decode cX4_of 87 = .ok (.ireturn, 1) := by decide +kernel
theorem dX4_of_88 : decode cX4_of 88 = .ok (.aload_n 0, 1) := by decide +kernel
theorem dX4_of_89 : decode cX4_of 89 = .ok (.getfield 10, 3) := by decide +kernel
theorem dX4_of_92 : decode cX4_of 92 = .ok (.getfield 103, 3) := by decide +kernel
theorem dX4_of_95 : decode cX4_of 95 = .ok (.iload_n 1, 1) := by decide +kernel
theorem dX4_of_96 : decode cX4_of 96 = .ok (.iaload, 1) := by decide +kernel
theorem dX4_of_97 : decode cX4_of 97 = .ok (.ireturn, 1) := by decide +kernel
theorem dX4_of_98 : decode cX4_of 98 = .ok (.aload_n 0, 1) := by decide +kernel
theorem dX4_of_99 : decode cX4_of 99 = .ok (.getfield 10, 3) := by decide +kernel
theorem dX4_of_102 : decode cX4_of 102 = .ok (.getfield 106, 3) := by decide +kernel
theorem dX4_of_105 : decode cX4_of 105 = .ok (.iload_n 1, 1) := by decide +kernel
theorem dX4_of_106 : decode cX4_of 106 = .ok (.iaload, 1) := by decide +kernel
theorem dX4_of_107 : decode cX4_of 107 = .ok (.ireturn, 1) := by decide +kernel
theorem dX4_of_108 : decode cX4_of 108 = .ok (.aload_n 0, 1) := by decide +kernel
theorem dX4_of_109 : decode cX4_of 109 = .ok (.getfield 10, 3) := by decide +kernel
theorem dX4_of_112 : decode cX4_of 112 = .ok (.getfield 109, 3) := by decide +kernel
theorem dX4_of_115 : decode cX4_of 115 = .ok (.iload_n 1, 1) := by decide +kernel
theorem dX4_of_116 : decode cX4_of 116 = .ok (.iaload, 1) := by decide +kernel
theorem dX4_of_117 : decode cX4_of 117 = .ok (.ireturn, 1) := by decide +kernel
theorem dX4_of_118 : decode cX4_of 118 = .ok (.aload_n 0, 1) := by decide +kernel
theorem dX4_of_119 : decode cX4_of 119 = .ok (.getfield 10, 3) := by decide +kernel
theorem dX4_of_122 : decode cX4_of 122 = .ok (.iload_n 1, 1) := by decide +kernel
theorem dX4_of_123 : decode cX4_of 123 = .ok (.invokevirtual 112, 3) := by decide +kernel
theorem dX4_of_126 : decode cX4_of 126 = .ok (.ireturn, 1) := by decide +kernel
theorem dX4_of_127 : decode cX4_of 127 = .ok (.aload_n 0, 1) := by decide +kernel
theorem dX4_of_128 : decode cX4_of 128 = .ok (.getfield 10, 3) := by decide +kernel
theorem dX4_of_131 : decode cX4_of 131 = .ok (.getfield 97, 3) := by decide +kernel
theorem dX4_of_134 : decode cX4_of 134 = .ok (.iload_n 1, 1) := by decide +kernel
theorem dX4_of_135 : decode cX4_of 135 = .ok (.iaload, 1) := by decide +kernel
theorem dX4_of_136 : decode cX4_of 136 = .ok (.invokestatic 115, 3) := by decide +kernel
theorem dX4_of_139 : decode cX4_of 139 = .ok (.ireturn, 1) := by decide +kernel
theorem dX4_of_140 : decode cX4_of 140 = .ok (.aload_n 0, 1) := by decide +kernel
theorem dX4_of_141 : decode cX4_of 141 = .ok (.getfield 10, 3) := by decide +kernel
theorem dX4_of_144 : decode cX4_of 144 = .ok (.iload_n 1, 1) := by decide +kernel
theorem dX4_of_145 : decode cX4_of 145 = .ok (.iconst (-1), 1) := by decide +kernel
theorem dX4_of_146 : decode cX4_of 146 = .ok (.invokevirtual 120, 3) := by decide +kernel
theorem dX4_of_149 : decode cX4_of 149 = .ok (.ireturn, 1) := by decide +kernel
theorem dX4_of_150 : decode cX4_of 150 = .ok (.aload_n 0, 1) := by decide +kernel
theorem dX4_of_151 : decode cX4_of 151 = .ok (.getfield 10, 3) := by decide +kernel
theorem dX4_of_154 : decode cX4_of 154 = .ok (.iload_n 1, 1) := by decide +kernel
theorem dX4_of_155 : decode cX4_of 155 = .ok (.iconst 1, 1) := by decide +kernel
theorem dX4_of_156 : decode cX4_of 156 = .ok (.invokevirtual 120, 3) := by decide +kernel
theorem dX4_of_159 : decode cX4_of 159 = .ok (.ireturn, 1) := by decide +kernel
theorem dX4_of_160 : decode cX4_of 160 = .ok (.aload_n 0, 1) := by decide +kernel
theorem dX4_of_161 : decode cX4_of 161 = .ok (.ldc 48, 2) := by decide +kernel
theorem dX4_of_163 : decode cX4_of 163 = .ok (.invokevirtual 49, 3) := by decide +kernel
theorem dX4_of_166 : decode cX4_of 166 = .ok (.ireturn, 1) := by decide +kernel
theorem dX4_set_0 : decode cX4_set 0 = .ok (.aload_n 0, 1) := by decide +kernel
theorem dX4_set_1 : decode cX4_set 1 = .ok (.iload_n 1, 1) := by decide +kernel
theorem dX4_set_2 : decode cX4_set 2 = .ok (.invokevirtual 94, 3) := by decide +kernel
theorem dX4_set_5 : decode cX4_set 5 = .ok (.ifCond .eq 12, 3) := by decide +kernel
theorem dX4_set_8 : decode cX4_set 8 = .ok (.iload_n 2, 1) := by decide +kernel
theorem dX4_set_9 : decode cX4_set 9 = .ok (.iconst 2, 1) := by decide +kernel
theorem dX4_set_10 : decode cX4_set 10 = .ok (.iconst 4, 1) := by decide +kernel
theorem dX4_set_11 : decode cX4_set 11 = .ok (.invokestatic 44, 3) := by decide +kernel
theorem dX4_set_14 : decode cX4_set 14 = .ok (.ifCond .ne 10, 3) := by decide +kernel
theorem dX4_set_17 : decode cX4_set 17 = .ok (.aload_n 0, 1) := by decide +kernel
theorem dX4_set_18 : decode cX4_set 18 = .ok (.ldc 48, 2) := by decide +kernel
theorem dX4_set_20 : decode cX4_set 20 = .ok (.invokevirtual 49, 3) := by decide +kernel
theorem dX4_set_23 : decode cX4_set 23 = .ok (.ireturn, 1) := by decide +kernel
theorem dX4_set_24 : decode cX4_set 24 = .ok (.iload_n 3, 1) := by decide +kernel
theorem dX4_set_25 : decode cX4_set 25 = .ok (.iconst 0, 1) := by decide +kernel
theorem dX4_set_26 : decode cX4_set 26 = .ok (.iload_n 2, 1) := by decide +kernel
theorem dX4_set_27 : decode cX4_set 27 = .ok (.iconst 4, 1) := by decide +kernel
theorem dX4_set_28 : decode cX4_set 28 = .ok (.if_icmp .ne 9, 3) := by decide +kernel
theorem dX4_set_31 : decode cX4_set 31 = .ok (.sipush 9999, 3) := by decide +kernel
theorem dX4_set_34 : decode cX4_set 34 = .ok (.goto 6, 3) := by decide +kernel
theorem dX4_set_37 : decode cX4_set 37 = .ok (.sipush 200, 3) := by decide +kernel
theorem dX4_set_40 : decode cX4_set 40 = .ok (.invokestatic 44, 3) := by decide +kernel
theorem dX4_set_43 : decode cX4_set 43 = .ok (.ifCond .ne 10, 3) := by decide +kernel
theorem dX4_set_46 : decode cX4_set 46 = .ok (.aload_n 0, 1) := by decide +kernel
theorem dX4_set_47 : decode cX4_set 47 = .ok (.ldc 48, 2) := by decide +kernel
theorem dX4_set_49 : decode cX4_set 49 = .ok (.invokevirtual 49, 3) := by decide +kernel
theorem dX4_set_52 : decode cX4_set 52 = .ok (.ireturn, 1) := by decide +kernel
theorem dX4_set_53 : decode cX4_set 53 = .ok (.iload_n 2, 1) := by decide +kernel
theorem dX4_set_54 : decode cX4_set 54 = .ok (.iconst 2, 1) := by decide +kernel
theorem dX4_set_55 : decode cX4_set 55 = .ok (.if_icmp .ne 13, 3) := by decide +kernel
theorem dX4_set_58 : decode cX4_set 58 = .ok (.aload_n 0, 1) := by decide +kernel
theorem dX4_set_59 : decode cX4_set 59 = .ok (.getfield 10, 3) := by decide +kernel
theorem dX4_set_62 : decode cX4_set 62 = .ok (.getfield 103, 3) := by decide +kernel
theorem dX4_set_65 : decode cX4_set 65 = .ok (.goto 25, 3) := by decide +kernel
theorem dX4_set_68 : decode cX4_set 68 = .ok (.iload_n 2, 1) := by decide +kernel
theorem dX4_set_69 : decode cX4_set 69 = .ok (.iconst 3, 1) := by decide +kernel
theorem dX4_set_70 : decode cX4_set 70 = .ok (.if_icmp .ne 13, 3) := by decide +kernel
theorem dX4_set_73 : decode cX4_set 73 = .ok (.aload_n 0, 1) := by decide +kernel
theorem dX4_set_74 : decode cX4_set 74 = .ok (.getfield 10, 3) := by decide +kernel
theorem dX4_set_77 : decode cX4_set 77 = .ok (.getfield 106, 3) := by decide +kernel
theorem dX4_set_80 : decode cX4_set 80 = .ok (.goto 10, 3) := by decide +kernel
theorem dX4_set_83 : decode cX4_set 83 = .ok (.aload_n 0, 1) := by decide +kernel
theorem dX4_set_84 : decode cX4_set 84 = .ok (.getfield 10, 3) := by decide +kernel
theorem dX4_set_87 : decode cX4_set 87 = .ok (.getfield 109, 3) := by decide +kernel
theorem dX4_set_90 : decode cX4_set 90 = .ok (.astore 4, 2) := by decide +kernel
theorem dX4_set_92 : decode cX4_set 92 = .ok (.aload 4, 2) := by decide +kernel
theorem dX4_set_94 : decode cX4_set 94 = .ok (.iload_n 1, 1) := by decide +kernel
theorem dX4_set_95 : decode cX4_set 95 = .ok (.iaload, 1) := by decide +kernel
theorem dX4_set_96 : decode cX4_set 96 = .ok (.istore 5, 2) := by decide +kernel
theorem dX4_set_98 : decode cX4_set 98 = .ok (.aload 4, 2) := by decide +kernel
theorem dX4_set_100 : decode cX4_set 100 = .ok (.iload_n 1, 1) := by decide +kernel
theorem dX4_set_101 : decode cX4_set 101 = .ok (.iload_n 3, 1) := by decide +kernel
theorem dX4_set_102 : decode cX4_set 102 = .ok (.iastore, 1) := by decide +kernel
theorem dX4_set_103 : decode cX4_set 103 = .ok (.iload 5, 2) := by decide +kernel
theorem dX4_set_105 : decode cX4_set 105 = .ok (.ireturn, 1) := by decide +kernel
theorem dX4_turn_0 : decode cX4_turn 0 = .ok (.aload_n 0, 1) := by decide +kernel
theorem dX4_turn_1 : decode cX4_turn 1 = .ok (.iload_n 1, 1) := by decide +kernel
theorem dX4_turn_2 : decode cX4_turn 2 = .ok (.invokevirtual 94, 3) := by decide +kernel
theorem dX4_turn_5 : decode cX4_turn 5 = .ok (.ifCond .eq 10, 3) := by decide +kernel
theorem dX4_turn_8 : decode cX4_turn 8 = .ok (.iload_n 2, 1) := by decide +kernel
theorem dX4_turn_9 : decode cX4_turn 9 = .ok (.invokestatic 82, 3) := by decide +kernel
theorem dX4_turn_12 : decode cX4_turn 12 = .ok (.ifCond .ne 10, 3) := by decide +kernel
theorem dX4_turn_15 : decode cX4_turn 15 = .ok (.aload_n 0, 1) := by decide +kernel
theorem dX4_turn_16 : decode cX4_turn 16 = .ok (.ldc 48, 2) := by decide +kernel
theorem dX4_turn_18 : decode cX4_turn 18 = .ok (.invokevirtual 49, 3) := by decide +kernel
theorem dX4_turn_21 : decode cX4_turn 21 = .ok (.ireturn, 1) := by decide +kernel
theorem dX4_turn_22 : decode cX4_turn 22 = .ok (.aload_n 0, 1) := by decide +kernel
theorem dX4_turn_23 : decode cX4_turn 23 = .ok (.getfield 10, 3) := by decide +kernel
theorem dX4_turn_26 : decode cX4_turn 26 = .ok (.getfield 97, 3) := by decide +kernel
theorem dX4_turn_29 : decode cX4_turn 29 = .ok (.iload_n 1, 1) := by decide +kernel
theorem dX4_turn_30 : decode cX4_turn 30 = .ok (.iaload, 1) := by decide +kernel
theorem dX4_turn_31 : decode cX4_turn 31 = .ok (.istore_n 3, 1) := by decide +kernel
theorem dX4_turn_32 : decode cX4_turn 32 = .ok (.aload_n 0, 1) := by decide +kernel
theorem dX4_turn_33 : decode cX4_turn 33 = .ok (.getfield 10, 3) := by decide +kernel
theorem dX4_turn_36 : decode cX4_turn 36 = .ok (.getfield 97, 3) := by decide +kernel
theorem dX4_turn_39 : decode cX4_turn 39 = .ok (.iload_n 1, 1) := by decide +kernel
theorem dX4_turn_40 : decode cX4_turn 40 = .ok (.iload_n 2, 1) := by decide +kernel
theorem dX4_turn_41 : decode cX4_turn 41 = .ok (.iastore, 1) := by decide +kernel
theorem dX4_turn_42 : decode cX4_turn 42 = .ok (.iload_n 3, 1) := by decide +kernel
theorem dX4_turn_43 : decode cX4_turn 43 = .ok (.ireturn, 1) := by decide +kernel
theorem dX4_as_0 : decode cX4_as 0 = .ok (.aload_n 0, 1) := by decide +kernel
theorem dX4_as_1 : decode cX4_as 1 = .ok (.iload_n 1, 1) := by decide +kernel
theorem dX4_as_2 : decode cX4_as 2 = .ok (.invokevirtual 94, 3) := by decide +kernel
theorem dX4_as_5 : decode cX4_as 5 = .ok (.ifCond .eq 10, 3) := by decide +kernel
theorem dX4_as_8 : decode cX4_as 8 = .ok (.iload_n 2, 1) := by decide +kernel
theorem dX4_as_9 : decode cX4_as 9 = .ok (.invokestatic 82, 3) := by decide +kernel
theorem dX4_as_12 : decode cX4_as 12 = .ok (.ifCond .ne 10, 3) := by decide +kernel
theorem dX4_as_15 : decode cX4_as 15 = .ok (.aload_n 0, 1) := by decide +kernel
theorem dX4_as_16 : decode cX4_as 16 = .ok (.ldc 48, 2) := by decide +kernel
theorem dX4_as_18 : decode cX4_as 18 = .ok (.invokevirtual 49, 3) := by decide +kernel
theorem dX4_as_21 : decode cX4_as 21 = .ok (.ireturn, 1) := by decide +kernel
theorem dX4_as_22 : decode cX4_as 22 = .ok (.aload_n 0, 1) := by decide +kernel
theorem dX4_as_23 : decode cX4_as 23 = .ok (.getfield 10, 3) := by decide +kernel
theorem dX4_as_26 : decode cX4_as 26 = .ok (.getfield 97, 3) := by decide +kernel
theorem dX4_as_29 : decode cX4_as 29 = .ok (.iload_n 1, 1) := by decide +kernel
theorem dX4_as_30 : decode cX4_as 30 = .ok (.iaload, 1) := by decide +kernel
theorem dX4_as_31 : decode cX4_as 31 = .ok (.iload_n 2, 1) := by decide +kernel
theorem dX4_as_32 : decode cX4_as 32 = .ok (.invokestatic 123, 3) := by decide +kernel
theorem dX4_as_35 : decode cX4_as 35 = .ok (.ifCond .ne 10, 3) := by decide +kernel
theorem dX4_as_38 : decode cX4_as 38 = .ok (.aload_n 0, 1) := by decide +kernel
theorem dX4_as_39 : decode cX4_as 39 = .ok (.ldc 127, 2) := by decide +kernel
theorem dX4_as_41 : decode cX4_as 41 = .ok (.invokevirtual 49, 3) := by decide +kernel
theorem dX4_as_44 : decode cX4_as 44 = .ok (.ireturn, 1) := by decide +kernel
theorem dX4_as_45 : decode cX4_as 45 = .ok (.aload_n 0, 1) := by decide +kernel
theorem dX4_as_46 : decode cX4_as 46 = .ok (.getfield 10, 3) := by decide +kernel
theorem dX4_as_49 : decode cX4_as 49 = .ok (.iload_n 1, 1) := by decide +kernel
theorem dX4_as_50 : decode cX4_as 50 = .ok (.invokevirtual 128, 3) := by decide +kernel
theorem dX4_as_53 : decode cX4_as 53 = .ok (.ireturn, 1) := by decide +kernel
theorem dX4_sit_0 : decode cX4_sit 0 = .ok (.aload_n 0, 1) := by decide +kernel
theorem dX4_sit_1 : decode cX4_sit 1 = .ok (.iload_n 1, 1) := by decide +kernel
theorem dX4_sit_2 : decode cX4_sit 2 = .ok (.invokevirtual 94, 3) := by decide +kernel
theorem dX4_sit_5 : decode cX4_sit 5 = .ok (.ifCond .eq 13, 3) := by decide +kernel
theorem dX4_sit_8 : decode cX4_sit 8 = .ok (.iload_n 2, 1) := by decide +kernel
theorem dX4_sit_9 : decode cX4_sit 9 = .ok (.iconst (-1), 1) := by decide +kernel
theorem dX4_sit_10 : decode cX4_sit 10 = .ok (.bipush 9, 2) := by decide +kernel
theorem dX4_sit_12 : decode cX4_sit 12 = .ok (.invokestatic 44, 3) := by decide +kernel
theorem dX4_sit_15 : decode cX4_sit 15 = .ok (.ifCond .ne 10, 3) := by decide +kernel
theorem dX4_sit_18 : decode cX4_sit 18 = .ok (.aload_n 0, 1) := by decide +kernel
theorem dX4_sit_19 : decode cX4_sit 19 = .ok (.ldc 48, 2) := by decide +kernel
theorem dX4_sit_21 : decode cX4_sit 21 = .ok (.invokevirtual 49, 3) := by decide +kernel
theorem dX4_sit_24 : decode cX4_sit 24 = .ok (.ireturn, 1) := by decide +kernel
theorem dX4_sit_25 : decode cX4_sit 25 = .ok (.iload_n 2, 1) := by decide +kernel
theorem dX4_sit_26 : decode cX4_sit 26 = .ok (.ifCond .lt 22, 3) := by decide +kernel
theorem dX4_sit_29 : decode cX4_sit 29 = .ok (.aload_n 0, 1) := by decide +kernel
theorem dX4_sit_30 : decode cX4_sit 30 = .ok (.getfield 10, 3) := by decide +kernel
theorem dX4_sit_33 : decode cX4_sit 33 = .ok (.iload_n 1, 1) := by decide +kernel
theorem dX4_sit_34 : decode cX4_sit 34 = .ok (.iload_n 2, 1) := by decide +kernel
theorem dX4_sit_35 : decode cX4_sit 35 = .ok (.invokevirtual 131, 3) := by decide +kernel
theorem dX4_sit_38 : decode cX4_sit 38 = .ok (.ifCond .ne 10, 3) := by decide +kernel
theorem dX4_sit_41 : decode cX4_sit 41 = .ok (.aload_n 0, 1) := by decide +kernel
theorem dX4_sit_42 : decode cX4_sit 42 = .ok (.ldc 134, 2) := by decide +kernel
theorem dX4_sit_44 : decode cX4_sit 44 = .ok (.invokevirtual 49, 3) := by decide +kernel
theorem dX4_sit_47 : decode cX4_sit 47 = .ok (.ireturn, 1) := by decide +kernel
theorem dX4_sit_48 : decode cX4_sit 48 = .ok (.aload_n 0, 1) := by decide +kernel
theorem dX4_sit_49 : decode cX4_sit 49 = .ok (.getfield 10, 3) := by decide +kernel
theorem dX4_sit_52 : decode cX4_sit 52 = .ok (.getfield 100, 3) := by decide +kernel
theorem dX4_sit_55 : decode cX4_sit 55 = .ok (.iload_n 1, 1) := by decide +kernel
theorem dX4_sit_56 : decode cX4_sit 56 = .ok (.iaload, 1) := by decide +kernel
theorem dX4_sit_57 : decode cX4_sit 57 = .ok (.istore_n 3, 1) := by decide +kernel
theorem dX4_sit_58 : decode cX4_sit 58 = .ok (.aload_n 0, 1) := by decide +kernel
theorem dX4_sit_59 : decode cX4_sit 59 = .ok (.getfield 10, 3) := by decide +kernel
theorem dX4_sit_62 : decode cX4_sit 62 = .ok (.iload_n 1, 1) := by decide +kernel
theorem dX4_sit_63 : decode cX4_sit 63 = .ok (.iload_n 2, 1) := by decide +kernel
theorem dX4_sit_64 : decode cX4_sit 64 = .ok (.invokevirtual 135, 3) := by decide +kernel
theorem dX4_sit_67 : decode cX4_sit 67 = .ok (.iload_n 3, 1) := by decide +kernel
theorem dX4_sit_68 : decode cX4_sit 68 = .ok (.ireturn, 1) := by decide +kernel
theorem dX4_given_0 : decode cX4_given 0 = .ok (.aload_n 0, 1) := by decide +kernel
theorem dX4_given_1 : decode cX4_given 1 = .ok (.iload_n 1, 1) := by decide +kernel
theorem dX4_given_2 : decode cX4_given 2 = .ok (.invokevirtual 94, 3) := by decide +kernel
theorem dX4_given_5 : decode cX4_given 5 = .ok (.ifCond .eq 12, 3) := by decide +kernel
theorem dX4_given_8 : decode cX4_given 8 = .ok (.iload_n 2, 1) := by decide +kernel
theorem dX4_given_9 : decode cX4_given 9 = .ok (.iconst 0, 1) := by decide +kernel
theorem dX4_given_10 : decode cX4_given 10 = .ok (.iconst 1, 1) := by decide +kernel
theorem dX4_given_11 : decode cX4_given 11 = .ok (.invokestatic 44, 3) := by decide +kernel
theorem dX4_given_14 : decode cX4_given 14 = .ok (.ifCond .ne 10, 3) := by decide +kernel
theorem dX4_given_17 : decode cX4_given 17 = .ok (.aload_n 0, 1) := by decide +kernel
theorem dX4_given_18 : decode cX4_given 18 = .ok (.ldc 48, 2) := by decide +kernel
theorem dX4_given_20 : decode cX4_given 20 = .ok (.invokevirtual 49, 3) := by decide +kernel
theorem dX4_given_23 : decode cX4_given 23 = .ok (.ireturn, 1) := by decide +kernel
theorem dX4_given_24 : decode cX4_given 24 = .ok (.iload_n 2, 1) := by decide +kernel
theorem dX4_given_25 : decode cX4_given 25 = .ok (.ifCond .ne 14, 3) := by decide +kernel
theorem dX4_given_28 : decode cX4_given 28 = .ok (.aload_n 0, 1) := by decide +kernel
theorem dX4_given_29 : decode cX4_given 29 = .ok (.getfield 10, 3) := by decide +kernel
theorem dX4_given_32 : decode cX4_given 32 = .ok (.iload_n 1, 1) := by decide +kernel
theorem dX4_given_33 : decode cX4_given 33 = .ok (.invokevirtual 139, 3) := by decide +kernel
theorem dX4_given_36 : decode cX4_given 36 = .ok (.goto 11, 3) := by decide +kernel
theorem dX4_given_39 : decode cX4_given 39 = .ok (.aload_n 0, 1) := by decide +kernel
theorem dX4_given_40 : decode cX4_given 40 = .ok (.getfield 10, 3) := by decide +kernel
theorem dX4_given_43 : decode cX4_given 43 = .ok (.iload_n 1, 1) := by decide +kernel
theorem dX4_given_44 : decode cX4_given 44 = .ok (.invokevirtual 142, 3) := by decide +kernel
theorem dX4_given_47 : decode cX4_given 47 = .ok (.ireturn, 1) := by decide +kernel
theorem dX4_hours_0 : decode cX4_hours 0 = .ok (.iload_n 1, 1) := by decide +kernel
theorem dX4_hours_1 : decode cX4_hours 1 = .ok (.iconst 1, 1) := by decide +kernel
theorem dX4_hours_2 : decode cX4_hours 2 = .ok (.bipush 100, 2) := by decide +kernel
theorem dX4_hours_4 : decode cX4_hours 4 = .ok (.invokestatic 44, 3) := by decide +kernel
theorem dX4_hours_7 : decode cX4_hours 7 = .ok (.ifCond .ne 10, 3) := by decide +kernel
theorem dX4_hours_10 : decode cX4_hours 10 = .ok (.aload_n 0, 1) := by decide +kernel
theorem dX4_hours_11 : decode cX4_hours 11 = .ok (.ldc 48, 2) := by decide +kernel
theorem dX4_hours_13 : decode cX4_hours 13 = .ok (.invokevirtual 49, 3) := by decide +kernel
theorem dX4_hours_16 : decode cX4_hours 16 = .ok (.ireturn, 1) := by decide +kernel
theorem dX4_hours_17 : decode cX4_hours 17 = .ok (.aload_n 0, 1) := by decide +kernel
theorem dX4_hours_18 : decode cX4_hours 18 = .ok (.getfield 10, 3) := by decide +kernel
theorem dX4_hours_21 : decode cX4_hours 21 = .ok (.getfield 59, 3) := by decide +kernel
theorem dX4_hours_24 : decode cX4_hours 24 = .ok (.iload_n 1, 1) := by decide +kernel
theorem dX4_hours_25 : decode cX4_hours 25 = .ok (.iadd, 1) := by decide +kernel
theorem dX4_hours_26 : decode cX4_hours 26 = .ok (.ldc 145, 2) := by decide +kernel
theorem dX4_hours_28 : decode cX4_hours 28 = .ok (.if_icmp .le 10, 3) := by decide +kernel
theorem dX4_hours_31 : decode cX4_hours 31 = .ok (.aload_n 0, 1) := by decide +kernel
theorem dX4_hours_32 : decode cX4_hours 32 = .ok (.ldc 134, 2) := by decide +kernel
theorem dX4_hours_34 : decode cX4_hours 34 = .ok (.invokevirtual 49, 3) := by decide +kernel
theorem dX4_hours_37 : decode cX4_hours 37 = .ok (.ireturn, 1) := by decide +kernel
theorem dX4_hours_38 : decode cX4_hours 38 = .ok (.aload_n 0, 1) := by decide +kernel
theorem dX4_hours_39 : decode cX4_hours 39 = .ok (.getfield 10, 3) := by decide +kernel
theorem dX4_hours_42 : decode cX4_hours 42 = .ok (.iload_n 1, 1) := by decide +kernel
theorem dX4_hours_43 : decode cX4_hours 43 = .ok (.invokevirtual 146, 3) := by decide +kernel
theorem dX4_hours_46 : decode cX4_hours 46 = .ok (.aload_n 0, 1) := by decide +kernel
theorem dX4_hours_47 : decode cX4_hours 47 = .ok (.getfield 10, 3) := by decide +kernel
theorem dX4_hours_50 : decode cX4_hours 50 = .ok (.invokevirtual 76, 3) := by decide +kernel
theorem dX4_hours_53 : decode cX4_hours 53 = .ok (.ireturn, 1) := by decide +kernel
theorem dX4_on_0 : decode cX4_on 0 = .ok (.aload_n 0, 1) := by decide +kernel
theorem dX4_on_1 : decode cX4_on 1 = .ok (.iload_n 1, 1) := by decide +kernel
theorem dX4_on_2 : decode cX4_on 2 = .ok (.invokevirtual 94, 3) := by decide +kernel
theorem dX4_on_5 : decode cX4_on 5 = .ok (.ifCond .eq 23, 3) := by decide +kernel
theorem dX4_on_8 : decode cX4_on 8 = .ok (.iload_n 2, 1) := by decide +kernel
theorem dX4_on_9 : decode cX4_on 9 = .ok (.iconst 0, 1) := by decide +kernel
theorem dX4_on_10 : decode cX4_on 10 = .ok (.sipush 200, 3) := by decide +kernel
theorem dX4_on_13 : decode cX4_on 13 = .ok (.invokestatic 44, 3) := by decide +kernel
theorem dX4_on_16 : decode cX4_on 16 = .ok (.ifCond .eq 12, 3) := by decide +kernel
theorem dX4_on_19 : decode cX4_on 19 = .ok (.iload_n 3, 1) := by decide +kernel
theorem dX4_on_20 : decode cX4_on 20 = .ok (.iconst 0, 1) := by decide +kernel
theorem dX4_on_21 : decode cX4_on 21 = .ok (.iconst 2, 1) := by decide +kernel
theorem dX4_on_22 : decode cX4_on 22 = .ok (.invokestatic 44, 3) := by decide +kernel
theorem dX4_on_25 : decode cX4_on 25 = .ok (.ifCond .ne 10, 3) := by decide +kernel
theorem dX4_on_28 : decode cX4_on 28 = .ok (.aload_n 0, 1) := by decide +kernel
theorem dX4_on_29 : decode cX4_on 29 = .ok (.ldc 48, 2) := by decide +kernel
theorem dX4_on_31 : decode cX4_on 31 = .ok (.invokevirtual 49, 3) := by decide +kernel
theorem dX4_on_34 : decode cX4_on 34 = .ok (.ireturn, 1) := by decide +kernel
theorem dX4_on_35 : decode cX4_on 35 = .ok (.aload_n 0, 1) := by decide +kernel
theorem dX4_on_36 : decode cX4_on 36 = .ok (.invokevirtual 150, 3) := by decide +kernel
theorem dX4_on_39 : decode cX4_on 39 = .ok (.aload_n 0, 1) := by decide +kernel
theorem dX4_on_40 : decode cX4_on 40 = .ok (.getfield 16, 3) := by decide +kernel
theorem dX4_on_43 : decode cX4_on 43 = .ok (.iload_n 2, 1) := by decide +kernel
theorem dX4_on_44 : decode cX4_on 44 = .ok (.invokevirtual 146, 3) := by decide +kernel
theorem dX4_on_47 : decode cX4_on 47 = .ok (.iload_n 3, 1) := by decide +kernel
theorem dX4_on_48 : decode cX4_on 48 = .ok (.ifCond .ne 13, 3) := by decide +kernel
theorem dX4_on_51 : decode cX4_on 51 = .ok (.aload_n 0, 1) := by decide +kernel
theorem dX4_on_52 : decode cX4_on 52 = .ok (.getfield 16, 3) := by decide +kernel
theorem dX4_on_55 : decode cX4_on 55 = .ok (.getfield 103, 3) := by decide +kernel
theorem dX4_on_58 : decode cX4_on 58 = .ok (.goto 25, 3) := by decide +kernel
theorem dX4_on_61 : decode cX4_on 61 = .ok (.iload_n 3, 1) := by decide +kernel
theorem dX4_on_62 : decode cX4_on 62 = .ok (.iconst 1, 1) := by decide +kernel
theorem dX4_on_63 : decode cX4_on 63 = .ok (.if_icmp .ne 13, 3) := by decide +kernel
theorem dX4_on_66 : decode cX4_on 66 = .ok (.aload_n 0, 1) := by decide +kernel
theorem dX4_on_67 : decode cX4_on 67 = .ok (.getfield 16, 3) := by decide +kernel
theorem dX4_on_70 : decode cX4_on 70 = .ok (.getfield 106, 3) := by decide +kernel
theorem dX4_on_73 : decode cX4_on 73 = .ok (.goto 10, 3) := by decide +kernel
theorem dX4_on_76 : decode cX4_on 76 = .ok (.aload_n 0, 1) := by decide +kernel
theorem dX4_on_77 : decode cX4_on 77 = .ok (.getfield 16, 3) := by decide +kernel
theorem dX4_on_80 : decode cX4_on 80 = .ok (.getfield 109, 3) := by decide +kernel
theorem dX4_on_83 : decode cX4_on 83 = .ok (.astore 4, 2) := by decide +kernel
theorem dX4_on_85 : decode cX4_on 85 = .ok (.aload 4, 2) := by decide +kernel
theorem dX4_on_87 : decode cX4_on 87 = .ok (.iload_n 1, 1) := by decide +kernel
theorem dX4_on_88 : decode cX4_on 88 = .ok (.iaload, 1) := by decide +kernel
theorem dX4_on_89 : decode cX4_on 89 = .ok (.ireturn, 1) := by decide +kernel
theorem dX4_brown_0 : decode cX4_brown 0 = .ok (.aload_n 0, 1) := by decide +kernel
theorem dX4_brown_1 : decode cX4_brown 1 = .ok (.iload_n 1, 1) := by decide +kernel
theorem dX4_brown_2 : decode cX4_brown 2 = .ok (.invokevirtual 94, 3) := by decide +kernel
theorem dX4_brown_5 : decode cX4_brown 5 = .ok (.ifCond .eq 14, 3) := by decide +kernel
theorem dX4_brown_8 : decode cX4_brown 8 = .ok (.iload_n 2, 1) := by decide +kernel
theorem dX4_brown_9 : decode cX4_brown 9 = .ok (.iconst 0, 1) := by decide +kernel
theorem dX4_brown_10 : decode cX4_brown 10 = .ok (.sipush 400, 3) := by decide +kernel
theorem dX4_brown_13 : decode cX4_brown 13 = .ok (.invokestatic 44, 3) := by decide +kernel
theorem dX4_brown_16 : decode cX4_brown 16 = .ok (.ifCond .ne 10, 3) := by decide +kernel
theorem dX4_brown_19 : decode cX4_brown 19 = .ok (.aload_n 0, 1) := by decide +kernel
theorem dX4_brown_20 : decode cX4_brown 20 = .ok (.ldc 48, 2) := by decide +kernel
theorem dX4_brown_22 : decode cX4_brown 22 = .ok (.invokevirtual 49, 3) := by decide +kernel
theorem dX4_brown_25 : decode cX4_brown 25 = .ok (.ireturn, 1) := by decide +kernel
theorem dX4_brown_26 : decode cX4_brown 26 = .ok (.aload_n 0, 1) := by decide +kernel
theorem dX4_brown_27 : decode cX4_brown 27 = .ok (.invokevirtual 150, 3) := by decide +kernel
theorem dX4_brown_30 : decode cX4_brown 30 = .ok (.iconst 0, 1) := by decide +kernel
theorem dX4_brown_31 : decode cX4_brown 31 = .ok (.istore_n 3, 1) := by decide +kernel
theorem dX4_brown_32 : decode cX4_brown 32 = .ok (.iload_n 3, 1) := by decide +kernel
theorem dX4_brown_33 : decode cX4_brown 33 = .ok (.sipush 200, 3) := by decide +kernel
theorem dX4_brown_36 : decode cX4_brown 36 = .ok (.if_icmp .gt 30, 3) := by decide +kernel
theorem dX4_brown_39 : decode cX4_brown 39 = .ok (.aload_n 0, 1) := by decide +kernel
theorem dX4_brown_40 : decode cX4_brown 40 = .ok (.getfield 16, 3) := by decide +kernel
theorem dX4_brown_43 : decode cX4_brown 43 = .ok (.iload_n 1, 1) := by decide +kernel
theorem dX4_brown_44 : decode cX4_brown 44 = .ok (.invokevirtual 128, 3) := by decide +kernel
theorem dX4_brown_47 : decode cX4_brown 47 = .ok (.iload_n 2, 1) := by decide +kernel
theorem dX4_brown_48 : decode cX4_brown 48 = .ok (.if_icmp .lt 5, 3) := by decide +kernel
theorem dX4_brown_51 : decode cX4_brown 51 = .ok (.iload_n 3, 1) := by decide +kernel
theorem dX4_brown_52 : decode cX4_brown 52 = .ok (.ireturn, 1) := by decide +kernel
theorem dX4_brown_53 : decode cX4_brown 53 = .ok (.aload_n 0, 1) := by decide +kernel
theorem dX4_brown_54 : decode cX4_brown 54 = .ok (.getfield 16, 3) := by decide +kernel
theorem dX4_brown_57 : decode cX4_brown 57 = .ok (.invokevirtual 153, 3) := by decide +kernel
theorem dX4_brown_60 : decode cX4_brown 60 = .ok (.iinc 3 1, 3) := by decide +kernel
theorem dX4_brown_63 : decode cX4_brown 63 = .ok (.goto (-31), 3) := by decide +kernel
theorem dX4_brown_66 : decode cX4_brown 66 = .ok (.aload_n 0, 1) := by decide +kernel
theorem dX4_brown_67 : decode cX4_brown 67 = .ok (.ldc 156, 2) := by decide +kernel
theorem dX4_brown_69 : decode cX4_brown 69 = .ok (.invokevirtual 49, 3) := by decide +kernel
theorem dX4_brown_72 : decode cX4_brown 72 = .ok (.ireturn, 1) := by decide +kernel
theorem dX4_burns_0 : decode cX4_burns 0 = .ok (.aload_n 0, 1) := by decide +kernel
theorem dX4_burns_1 : decode cX4_burns 1 = .ok (.iload_n 1, 1) := by decide +kernel
theorem dX4_burns_2 : decode cX4_burns 2 = .ok (.invokevirtual 94, 3) := by decide +kernel
theorem dX4_burns_5 : decode cX4_burns 5 = .ok (.ifCond .ne 10, 3) := by decide +kernel
theorem dX4_burns_8 : decode cX4_burns 8 = .ok (.aload_n 0, 1) := by decide +kernel
theorem dX4_burns_9 : decode cX4_burns 9 = .ok (.ldc 48, 2) := by decide +kernel
theorem dX4_burns_11 : decode cX4_burns 11 = .ok (.invokevirtual 49, 3) := by decide +kernel
theorem dX4_burns_14 : decode cX4_burns 14 = .ok (.ireturn, 1) := by decide +kernel
theorem dX4_burns_15 : decode cX4_burns 15 = .ok (.aload_n 0, 1) := by decide +kernel
theorem dX4_burns_16 : decode cX4_burns 16 = .ok (.invokevirtual 150, 3) := by decide +kernel
theorem dX4_burns_19 : decode cX4_burns 19 = .ok (.iconst 1, 1) := by decide +kernel
theorem dX4_burns_20 : decode cX4_burns 20 = .ok (.istore_n 2, 1) := by decide +kernel
theorem dX4_burns_21 : decode cX4_burns 21 = .ok (.iload_n 2, 1) := by decide +kernel
theorem dX4_burns_22 : decode cX4_burns 22 = .ok (.sipush 200, 3) := by decide +kernel
theorem dX4_burns_25 : decode cX4_burns 25 = .ok (.if_icmp .gt 39, 3) := by decide +kernel
theorem dX4_burns_28 : decode cX4_burns 28 = .ok (.aload_n 0, 1) := by decide +kernel
theorem dX4_burns_29 : decode cX4_burns 29 = .ok (.getfield 16, 3) := by decide +kernel
theorem dX4_burns_32 : decode cX4_burns 32 = .ok (.invokevirtual 153, 3) := by decide +kernel
theorem dX4_burns_35 : decode cX4_burns 35 = .ok (.aload_n 0, 1) := by decide +kernel
theorem dX4_burns_36 : decode cX4_burns 36 = .ok (.getfield 16, 3) := by decide +kernel
theorem dX4_burns_39 : decode cX4_burns 39 = .ok (.getfield 109, 3) := by decide +kernel
theorem dX4_burns_42 : decode cX4_burns 42 = .ok (.iload_n 1, 1) := by decide +kernel
theorem dX4_burns_43 : decode cX4_burns 43 = .ok (.iaload, 1) := by decide +kernel
theorem dX4_burns_44 : decode cX4_burns 44 = .ok (.aload_n 0, 1) := by decide +kernel
theorem dX4_burns_45 : decode cX4_burns 45 = .ok (.getfield 10, 3) := by decide +kernel
theorem dX4_burns_48 : decode cX4_burns 48 = .ok (.getfield 109, 3) := by decide +kernel
theorem dX4_burns_51 : decode cX4_burns 51 = .ok (.iload_n 1, 1) := by decide +kernel
theorem dX4_burns_52 : decode cX4_burns 52 = .ok (.iaload, 1) := by decide +kernel
theorem dX4_burns_53 : decode cX4_burns 53 = .ok (.if_icmp .le 5, 3) := by decide +kernel
theorem dX4_burns_56 : decode cX4_burns 56 = .ok (.iload_n 2, 1) := by decide +kernel
theorem dX4_burns_57 : decode cX4_burns 57 = .ok (.ireturn, 1) := by decide +kernel
theorem dX4_burns_58 : decode cX4_burns 58 = .ok (.iinc 2 1, 3) := by decide +kernel
theorem dX4_burns_61 : decode cX4_burns 61 = .ok (.goto (-40), 3) := by decide +kernel
theorem dX4_burns_64 : decode cX4_burns 64 = .ok (.aload_n 0, 1) := by decide +kernel
theorem dX4_burns_65 : decode cX4_burns 65 = .ok (.ldc 156, 2) := by decide +kernel
theorem dX4_burns_67 : decode cX4_burns 67 = .ok (.invokevirtual 49, 3) := by decide +kernel
theorem dX4_burns_70 : decode cX4_burns 70 = .ok (.ireturn, 1) := by decide +kernel
theorem dX4_even_0 : decode cX4_even 0 = .ok (.aload_n 0, 1) := by decide +kernel
theorem dX4_even_1 : decode cX4_even 1 = .ok (.iload_n 1, 1) := by decide +kernel
theorem dX4_even_2 : decode cX4_even 2 = .ok (.invokevirtual 94, 3) := by decide +kernel
theorem dX4_even_5 : decode cX4_even 5 = .ok (.ifCond .ne 10, 3) := by decide +kernel
theorem dX4_even_8 : decode cX4_even 8 = .ok (.aload_n 0, 1) := by decide +kernel
theorem dX4_even_9 : decode cX4_even 9 = .ok (.ldc 48, 2) := by decide +kernel
theorem dX4_even_11 : decode cX4_even 11 = .ok (.invokevirtual 49, 3) := by decide +kernel
theorem dX4_even_14 : decode cX4_even 14 = .ok (.ireturn, 1) := by decide +kernel
theorem dX4_even_15 : decode cX4_even 15 = .ok (.aload_n 0, 1) := by decide +kernel
theorem dX4_even_16 : decode cX4_even 16 = .ok (.invokevirtual 150, 3) := by decide +kernel
theorem dX4_even_19 : decode cX4_even 19 = .ok (.iconst 0, 1) := by decide +kernel
theorem dX4_even_20 : decode cX4_even 20 = .ok (.istore_n 2, 1) := by decide +kernel
theorem dX4_even_21 : decode cX4_even 21 = .ok (.iload_n 2, 1) := by decide +kernel
theorem dX4_even_22 : decode cX4_even 22 = .ok (.sipush 200, 3) := by decide +kernel
theorem dX4_even_25 : decode cX4_even 25 = .ok (.if_icmp .gt 29, 3) := by decide +kernel
theorem dX4_even_28 : decode cX4_even 28 = .ok (.aload_n 0, 1) := by decide +kernel
theorem dX4_even_29 : decode cX4_even 29 = .ok (.getfield 16, 3) := by decide +kernel
theorem dX4_even_32 : decode cX4_even 32 = .ok (.iload_n 1, 1) := by decide +kernel
theorem dX4_even_33 : decode cX4_even 33 = .ok (.invokevirtual 157, 3) := by decide +kernel
theorem dX4_even_36 : decode cX4_even 36 = .ok (.ifCond .eq 5, 3) := by decide +kernel
theorem dX4_even_39 : decode cX4_even 39 = .ok (.iload_n 2, 1) := by decide +kernel
theorem dX4_even_40 : decode cX4_even 40 = .ok (.ireturn, 1) := by decide +kernel
theorem dX4_even_41 : decode cX4_even 41 = .ok (.aload_n 0, 1) := by decide +kernel
theorem dX4_even_42 : decode cX4_even 42 = .ok (.getfield 16, 3) := by decide +kernel
theorem dX4_even_45 : decode cX4_even 45 = .ok (.invokevirtual 153, 3) := by decide +kernel
theorem dX4_even_48 : decode cX4_even 48 = .ok (.iinc 2 1, 3) := by decide +kernel
theorem dX4_even_51 : decode cX4_even 51 = .ok (.goto (-30), 3) := by decide +kernel
theorem dX4_even_54 : decode cX4_even 54 = .ok (.aload_n 0, 1) := by decide +kernel
theorem dX4_even_55 : decode cX4_even 55 = .ok (.ldc 156, 2) := by decide +kernel
theorem dX4_even_57 : decode cX4_even 57 = .ok (.invokevirtual 49, 3) := by decide +kernel
theorem dX4_even_60 : decode cX4_even 60 = .ok (.ireturn, 1) := by decide +kernel
theorem dX4_where_0 : decode cX4_where 0 = .ok (.aload_n 0, 1) := by decide +kernel
theorem dX4_where_1 : decode cX4_where 1 = .ok (.iload_n 1, 1) := by decide +kernel
theorem dX4_where_2 : decode cX4_where 2 = .ok (.invokevirtual 94, 3) := by decide +kernel
theorem dX4_where_5 : decode cX4_where 5 = .ok (.ifCond .eq 13, 3) := by decide +kernel
theorem dX4_where_8 : decode cX4_where 8 = .ok (.iload_n 2, 1) := by decide +kernel
theorem dX4_where_9 : decode cX4_where 9 = .ok (.iconst 1, 1) := by decide +kernel
theorem dX4_where_10 : decode cX4_where 10 = .ok (.bipush 60, 2) := by decide +kernel
theorem dX4_where_12 : decode cX4_where 12 = .ok (.invokestatic 44, 3) := by decide +kernel
theorem dX4_where_15 : decode cX4_where 15 = .ok (.ifCond .ne 10, 3) := by decide +kernel
theorem dX4_where_18 : decode cX4_where 18 = .ok (.aload_n 0, 1) := by decide +kernel
theorem dX4_where_19 : decode cX4_where 19 = .ok (.ldc 48, 2) := by decide +kernel
theorem dX4_where_21 : decode cX4_where 21 = .ok (.invokevirtual 49, 3) := by decide +kernel
theorem dX4_where_24 : decode cX4_where 24 = .ok (.ireturn, 1) := by decide +kernel
theorem dX4_where_25 : decode cX4_where 25 = .ok (.iconst (-1), 1) := by decide +kernel
theorem dX4_where_26 : decode cX4_where 26 = .ok (.istore_n 3, 1) := by decide +kernel
theorem dX4_where_27 : decode cX4_where 27 = .ok (.iconst (-1), 1) := by decide +kernel
theorem dX4_where_28 : decode cX4_where 28 = .ok (.istore 4, 2) := by decide +kernel
theorem dX4_where_30 : decode cX4_where 30 = .ok (.iconst 0, 1) := by decide +kernel
theorem dX4_where_31 : decode cX4_where 31 = .ok (.istore 5, 2) := by decide +kernel
theorem dX4_where_33 : decode cX4_where 33 = .ok (.iload 5, 2) := by decide +kernel
theorem dX4_where_35 : decode cX4_where 35 = .ok (.bipush 10, 2) := by decide +kernel
theorem dX4_where_37 : decode cX4_where 37 = .ok (.if_icmp .ge 70, 3) := by decide +kernel
theorem dX4_where_40 : decode cX4_where 40 = .ok (.aload_n 0, 1) := by decide +kernel
theorem dX4_where_41 : decode cX4_where 41 = .ok (.getfield 10, 3) := by decide +kernel
theorem dX4_where_44 : decode cX4_where 44 = .ok (.iload_n 1, 1) := by decide +kernel
theorem dX4_where_45 : decode cX4_where 45 = .ok (.iload 5, 2) := by decide +kernel
theorem dX4_where_47 : decode cX4_where 47 = .ok (.invokevirtual 131, 3) := by decide +kernel
theorem dX4_where_50 : decode cX4_where 50 = .ok (.ifCond .eq 51, 3) := by decide +kernel
theorem dX4_where_53 : decode cX4_where 53 = .ok (.aload_n 0, 1) := by decide +kernel
theorem dX4_where_54 : decode cX4_where 54 = .ok (.invokevirtual 150, 3) := by decide +kernel
theorem dX4_where_57 : decode cX4_where 57 = .ok (.aload_n 0, 1) := by decide +kernel
theorem dX4_where_58 : decode cX4_where 58 = .ok (.getfield 16, 3) := by decide +kernel
theorem dX4_where_61 : decode cX4_where 61 = .ok (.iload_n 1, 1) := by decide +kernel
theorem dX4_where_62 : decode cX4_where 62 = .ok (.iload 5, 2) := by decide +kernel
theorem dX4_where_64 : decode cX4_where 64 = .ok (.invokevirtual 135, 3) := by decide +kernel
theorem dX4_where_67 : decode cX4_where 67 = .ok (.aload_n 0, 1) := by decide +kernel
theorem dX4_where_68 : decode cX4_where 68 = .ok (.getfield 16, 3) := by decide +kernel
theorem dX4_where_71 : decode cX4_where 71 = .ok (.iload_n 2, 1) := by decide +kernel
theorem dX4_where_72 : decode cX4_where 72 = .ok (.invokevirtual 146, 3) := by decide +kernel
theorem dX4_where_75 : decode cX4_where 75 = .ok (.aload_n 0, 1) := by decide +kernel
theorem dX4_where_76 : decode cX4_where 76 = .ok (.getfield 16, 3) := by decide +kernel
theorem dX4_where_79 : decode cX4_where 79 = .ok (.iload_n 1, 1) := by decide +kernel
theorem dX4_where_80 : decode cX4_where 80 = .ok (.invokevirtual 128, 3) := by decide +kernel
theorem dX4_where_83 : decode cX4_where 83 = .ok (.iload 4, 2) := by decide +kernel
theorem dX4_where_85 : decode cX4_where 85 = .ok (.if_icmp .le 16, 3) := by decide +kernel
theorem dX4_where_88 : decode cX4_where 88 = .ok (.aload_n 0, 1) := by decide +kernel
theorem dX4_where_89 : decode cX4_where 89 = .ok (.getfield 16, 3) := by decide +kernel
theorem dX4_where_92 : decode cX4_where 92 = .ok (.iload_n 1, 1) := by decide +kernel
theorem dX4_where_93 : decode cX4_where 93 = .ok (.invokevirtual 128, 3) := by decide +kernel
theorem dX4_where_96 : decode cX4_where 96 = .ok (.istore 4, 2) := by decide +kernel
theorem dX4_where_98 : decode cX4_where 98 = .ok (.iload 5, 2) := by decide +kernel
theorem dX4_where_100 : decode cX4_where 100 = .ok (.istore_n 3, 1) := by decide +kernel
theorem dX4_where_101 : decode cX4_where 101 = .ok (.iinc 5 1, 3) := by decide +kernel
theorem dX4_where_104 : decode cX4_where 104 = .ok (.goto (-71), 3) := by decide +kernel
theorem dX4_where_107 : decode cX4_where 107 = .ok (.iload_n 3, 1) := by decide +kernel
theorem dX4_where_108 : decode cX4_where 108 = .ok (.ireturn, 1) := by decide +kernel
theorem dX4_change_0 : decode cX4_change 0 = .ok (.aload_n 0, 1) := by decide +kernel
theorem dX4_change_1 : decode cX4_change 1 = .ok (.iload_n 1, 1) := by decide +kernel
theorem dX4_change_2 : decode cX4_change 2 = .ok (.invokevirtual 94, 3) := by decide +kernel
theorem dX4_change_5 : decode cX4_change 5 = .ok (.ifCond .eq 13, 3) := by decide +kernel
theorem dX4_change_8 : decode cX4_change 8 = .ok (.iload_n 2, 1) := by decide +kernel
theorem dX4_change_9 : decode cX4_change 9 = .ok (.iconst 1, 1) := by decide +kernel
theorem dX4_change_10 : decode cX4_change 10 = .ok (.bipush 60, 2) := by decide +kernel
theorem dX4_change_12 : decode cX4_change 12 = .ok (.invokestatic 44, 3) := by decide +kernel
theorem dX4_change_15 : decode cX4_change 15 = .ok (.ifCond .ne 10, 3) := by decide +kernel
theorem dX4_change_18 : decode cX4_change 18 = .ok (.aload_n 0, 1) := by decide +kernel
theorem dX4_change_19 : decode cX4_change 19 = .ok (.ldc 48, 2) := by decide +kernel
theorem dX4_change_21 : decode cX4_change 21 = .ok (.invokevirtual 49, 3) := by decide +kernel
theorem dX4_change_24 : decode cX4_change 24 = .ok (.ireturn, 1) := by decide +kernel
theorem dX4_change_25 : decode cX4_change 25 = .ok (.aload_n 0, 1) := by decide +kernel
theorem dX4_change_26 : decode cX4_change 26 = .ok (.getfield 10, 3) := by decide +kernel
theorem dX4_change_29 : decode cX4_change 29 = .ok (.iload_n 1, 1) := by decide +kernel
theorem dX4_change_30 : decode cX4_change 30 = .ok (.invokevirtual 160, 3) := by decide +kernel
theorem dX4_change_33 : decode cX4_change 33 = .ok (.ifCond .ne 10, 3) := by decide +kernel
theorem dX4_change_36 : decode cX4_change 36 = .ok (.aload_n 0, 1) := by decide +kernel
theorem dX4_change_37 : decode cX4_change 37 = .ok (.ldc 134, 2) := by decide +kernel
theorem dX4_change_39 : decode cX4_change 39 = .ok (.invokevirtual 49, 3) := by decide +kernel
theorem dX4_change_42 : decode cX4_change 42 = .ok (.ireturn, 1) := by decide +kernel
theorem dX4_change_43 : decode cX4_change 43 = .ok (.iconst (-1), 1) := by decide +kernel
theorem dX4_change_44 : decode cX4_change 44 = .ok (.istore_n 3, 1) := by decide +kernel
theorem dX4_change_45 : decode cX4_change 45 = .ok (.iconst (-1), 1) := by decide +kernel
theorem dX4_change_46 : decode cX4_change 46 = .ok (.istore 4, 2) := by decide +kernel
theorem dX4_change_48 : decode cX4_change 48 = .ok (.iconst 0, 1) := by decide +kernel
theorem dX4_change_49 : decode cX4_change 49 = .ok (.istore 5, 2) := by decide +kernel
theorem dX4_change_51 : decode cX4_change 51 = .ok (.iload 5, 2) := by decide +kernel
theorem dX4_change_53 : decode cX4_change 53 = .ok (.aload_n 0, 1) := by decide +kernel
theorem dX4_change_54 : decode cX4_change 54 = .ok (.getfield 10, 3) := by decide +kernel
theorem dX4_change_57 : decode cX4_change 57 = .ok (.getfield 86, 3) := by decide +kernel
theorem dX4_change_60 : decode cX4_change 60 = .ok (.if_icmp .ge 83, 3) := by decide +kernel
theorem dX4_change_63 : decode cX4_change 63 = .ok (.iload 5, 2) := by decide +kernel
theorem dX4_change_65 : decode cX4_change 65 = .ok (.iload_n 1, 1) := by decide +kernel
theorem dX4_change_66 : decode cX4_change 66 = .ok (.if_icmp .eq 71, 3) := by decide +kernel
theorem dX4_change_69 : decode cX4_change 69 = .ok (.aload_n 0, 1) := by decide +kernel
theorem dX4_change_70 : decode cX4_change 70 = .ok (.getfield 10, 3) := by decide +kernel
theorem dX4_change_73 : decode cX4_change 73 = .ok (.iload 5, 2) := by decide +kernel
theorem dX4_change_75 : decode cX4_change 75 = .ok (.invokevirtual 160, 3) := by decide +kernel
theorem dX4_change_78 : decode cX4_change 78 = .ok (.ifCond .eq 59, 3) := by decide +kernel
theorem dX4_change_81 : decode cX4_change 81 = .ok (.aload_n 0, 1) := by decide +kernel
theorem dX4_change_82 : decode cX4_change 82 = .ok (.invokevirtual 150, 3) := by decide +kernel
theorem dX4_change_85 : decode cX4_change 85 = .ok (.aload_n 0, 1) := by decide +kernel
theorem dX4_change_86 : decode cX4_change 86 = .ok (.getfield 16, 3) := by decide +kernel
theorem dX4_change_89 : decode cX4_change 89 = .ok (.iload_n 1, 1) := by decide +kernel
theorem dX4_change_90 : decode cX4_change 90 = .ok (.iload 5, 2) := by decide +kernel
theorem dX4_change_92 : decode cX4_change 92 = .ok (.invokevirtual 163, 3) := by decide +kernel
theorem dX4_change_95 : decode cX4_change 95 = .ok (.aload_n 0, 1) := by decide +kernel
theorem dX4_change_96 : decode cX4_change 96 = .ok (.getfield 16, 3) := by decide +kernel
theorem dX4_change_99 : decode cX4_change 99 = .ok (.iload_n 2, 1) := by decide +kernel
theorem dX4_change_100 : decode cX4_change 100 = .ok (.invokevirtual 146, 3) := by decide +kernel
theorem dX4_change_103 : decode cX4_change 103 = .ok (.aload_n 0, 1) := by decide +kernel
theorem dX4_change_104 : decode cX4_change 104 = .ok (.getfield 16, 3) := by decide +kernel
theorem dX4_change_107 : decode cX4_change 107 = .ok (.iload_n 1, 1) := by decide +kernel
theorem dX4_change_108 : decode cX4_change 108 = .ok (.invokevirtual 128, 3) := by decide +kernel
theorem dX4_change_111 : decode cX4_change 111 = .ok (.aload_n 0, 1) := by decide +kernel
theorem dX4_change_112 : decode cX4_change 112 = .ok (.getfield 16, 3) := by decide +kernel
theorem dX4_change_115 : decode cX4_change 115 = .ok (.iload 5, 2) := by decide +kernel
theorem dX4_change_117 : decode cX4_change 117 = .ok (.invokevirtual 128, 3) := by decide +kernel
theorem dX4_change_120 : decode cX4_change 120 = .ok (.iadd, 1) := by decide +kernel
theorem dX4_change_121 : decode cX4_change 121 = .ok (.istore 6, 2) := by decide +kernel
theorem dX4_change_123 : decode cX4_change 123 = .ok (.iload 6, 2) := by decide +kernel
theorem dX4_change_125 : decode cX4_change 125 = .ok (.iload 4, 2) := by decide +kernel
theorem dX4_change_127 : decode cX4_change 127 = .ok (.if_icmp .le 10, 3) := by decide +kernel
theorem dX4_change_130 : decode cX4_change 130 = .ok (.iload 6, 2) := by decide +kernel
theorem dX4_change_132 : decode cX4_change 132 = .ok (.istore 4, 2) := by decide +kernel
theorem dX4_change_134 : decode cX4_change 134 = .ok (.iload 5, 2) := by decide +kernel
theorem dX4_change_136 : decode cX4_change 136 = .ok (.istore_n 3, 1) := by decide +kernel
theorem dX4_change_137 : decode cX4_change 137 = .ok (.iinc 5 1, 3) := by decide +kernel
theorem dX4_change_140 : decode cX4_change 140 = .ok (.goto (-89), 3) := by decide +kernel
theorem dX4_change_143 : decode cX4_change 143 = .ok (.iload_n 3, 1) := by decide +kernel
theorem dX4_change_144 : decode cX4_change 144 = .ok (.ifCond .lt 7, 3) := by decide +kernel
theorem dX4_change_147 : decode cX4_change 147 = .ok (.iload_n 3, 1) := by decide +kernel
theorem dX4_change_148 : decode cX4_change 148 = .ok (.goto 9, 3) := by decide +kernel
theorem dX4_change_151 : decode cX4_change 151 = .ok (.aload_n 0, 1) := by decide +kernel
theorem dX4_change_152 : decode cX4_change 152 = .ok (.ldc 156, 2) := by decide +kernel
theorem dX4_change_154 : decode cX4_change 154 = .ok (.invokevirtual 49, 3) := by decide +kernel
theorem dX4_change_157 : decode cX4_change 157 = .ok (.ireturn, 1) := by decide +kernel
theorem dX4_kind_0 : decode cX4_kind 0 = .ok (.aload_n 0, 1) := by decide +kernel
theorem dX4_kind_1 : decode cX4_kind 1 = .ok (.iload_n 1, 1) := by decide +kernel
theorem dX4_kind_2 : decode cX4_kind 2 = .ok (.invokevirtual 94, 3) := by decide +kernel
theorem dX4_kind_5 : decode cX4_kind 5 = .ok (.ifCond .eq 13, 3) := by decide +kernel
theorem dX4_kind_8 : decode cX4_kind 8 = .ok (.iload_n 2, 1) := by decide +kernel
theorem dX4_kind_9 : decode cX4_kind 9 = .ok (.iconst 1, 1) := by decide +kernel
theorem dX4_kind_10 : decode cX4_kind 10 = .ok (.bipush 60, 2) := by decide +kernel
theorem dX4_kind_12 : decode cX4_kind 12 = .ok (.invokestatic 44, 3) := by decide +kernel
theorem dX4_kind_15 : decode cX4_kind 15 = .ok (.ifCond .ne 10, 3) := by decide +kernel
theorem dX4_kind_18 : decode cX4_kind 18 = .ok (.aload_n 0, 1) := by decide +kernel
theorem dX4_kind_19 : decode cX4_kind 19 = .ok (.ldc 48, 2) := by decide +kernel
theorem dX4_kind_21 : decode cX4_kind 21 = .ok (.invokevirtual 49, 3) := by decide +kernel
theorem dX4_kind_24 : decode cX4_kind 24 = .ok (.ireturn, 1) := by decide +kernel
theorem dX4_kind_25 : decode cX4_kind 25 = .ok (.iconst (-1), 1) := by decide +kernel
theorem dX4_kind_26 : decode cX4_kind 26 = .ok (.istore_n 3, 1) := by decide +kernel
theorem dX4_kind_27 : decode cX4_kind 27 = .ok (.iconst (-1), 1) := by decide +kernel
theorem dX4_kind_28 : decode cX4_kind 28 = .ok (.istore 4, 2) := by decide +kernel
theorem dX4_kind_30 : decode cX4_kind 30 = .ok (.iconst 0, 1) := by decide +kernel
theorem dX4_kind_31 : decode cX4_kind 31 = .ok (.istore 5, 2) := by decide +kernel
theorem dX4_kind_33 : decode cX4_kind 33 = .ok (.iload 5, 2) := by decide +kernel
theorem dX4_kind_35 : decode cX4_kind 35 = .ok (.bipush 6, 2) := by decide +kernel
theorem dX4_kind_37 : decode cX4_kind 37 = .ok (.if_icmp .ge 58, 3) := by decide +kernel
theorem dX4_kind_40 : decode cX4_kind 40 = .ok (.aload_n 0, 1) := by decide +kernel
theorem dX4_kind_41 : decode cX4_kind 41 = .ok (.invokevirtual 150, 3) := by decide +kernel
theorem dX4_kind_44 : decode cX4_kind 44 = .ok (.aload_n 0, 1) := by decide +kernel
theorem dX4_kind_45 : decode cX4_kind 45 = .ok (.getfield 16, 3) := by decide +kernel
theorem dX4_kind_48 : decode cX4_kind 48 = .ok (.getfield 97, 3) := by decide +kernel
theorem dX4_kind_51 : decode cX4_kind 51 = .ok (.iload_n 1, 1) := by decide +kernel
theorem dX4_kind_52 : decode cX4_kind 52 = .ok (.iload 5, 2) := by decide +kernel
theorem dX4_kind_54 : decode cX4_kind 54 = .ok (.iastore, 1) := by decide +kernel
theorem dX4_kind_55 : decode cX4_kind 55 = .ok (.aload_n 0, 1) := by decide +kernel
theorem dX4_kind_56 : decode cX4_kind 56 = .ok (.getfield 16, 3) := by decide +kernel
theorem dX4_kind_59 : decode cX4_kind 59 = .ok (.iload_n 2, 1) := by decide +kernel
theorem dX4_kind_60 : decode cX4_kind 60 = .ok (.invokevirtual 146, 3) := by decide +kernel
theorem dX4_kind_63 : decode cX4_kind 63 = .ok (.aload_n 0, 1) := by decide +kernel
theorem dX4_kind_64 : decode cX4_kind 64 = .ok (.getfield 16, 3) := by decide +kernel
theorem dX4_kind_67 : decode cX4_kind 67 = .ok (.iload_n 1, 1) := by decide +kernel
theorem dX4_kind_68 : decode cX4_kind 68 = .ok (.invokevirtual 128, 3) := by decide +kernel
theorem dX4_kind_71 : decode cX4_kind 71 = .ok (.iload 4, 2) := by decide +kernel
theorem dX4_kind_73 : decode cX4_kind 73 = .ok (.if_icmp .le 16, 3) := by decide +kernel
theorem dX4_kind_76 : decode cX4_kind 76 = .ok (.aload_n 0, 1) := by decide +kernel
theorem dX4_kind_77 : decode cX4_kind 77 = .ok (.getfield 16, 3) := by decide +kernel
theorem dX4_kind_80 : decode cX4_kind 80 = .ok (.iload_n 1, 1) := by decide +kernel
theorem dX4_kind_81 : decode cX4_kind 81 = .ok (.invokevirtual 128, 3) := by decide +kernel
theorem dX4_kind_84 : decode cX4_kind 84 = .ok (.istore 4, 2) := by decide +kernel
theorem dX4_kind_86 : decode cX4_kind 86 = .ok (.iload 5, 2) := by decide +kernel
theorem dX4_kind_88 : decode cX4_kind 88 = .ok (.istore_n 3, 1) := by decide +kernel
theorem dX4_kind_89 : decode cX4_kind 89 = .ok (.iinc 5 1, 3) := by decide +kernel
theorem dX4_kind_92 : decode cX4_kind 92 = .ok (.goto (-59), 3) := by decide +kernel
theorem dX4_kind_95 : decode cX4_kind 95 = .ok (.iload_n 3, 1) := by decide +kernel
theorem dX4_kind_96 : decode cX4_kind 96 = .ok (.ireturn, 1) := by decide +kernel
theorem dX4_send_0 : decode cX4_send 0 = .ok (.iload_n 1, 1) := by decide +kernel
theorem dX4_send_1 : decode cX4_send 1 = .ok (.iconst 1, 1) := by decide +kernel
theorem dX4_send_2 : decode cX4_send 2 = .ok (.bipush 60, 2) := by decide +kernel
theorem dX4_send_4 : decode cX4_send 4 = .ok (.invokestatic 44, 3) := by decide +kernel
theorem dX4_send_7 : decode cX4_send 7 = .ok (.ifCond .ne 10, 3) := by decide +kernel
theorem dX4_send_10 : decode cX4_send 10 = .ok (.aload_n 0, 1) := by decide +kernel
theorem dX4_send_11 : decode cX4_send 11 = .ok (.ldc 48, 2) := by decide +kernel
theorem dX4_send_13 : decode cX4_send 13 = .ok (.invokevirtual 49, 3) := by decide +kernel
theorem dX4_send_16 : decode cX4_send 16 = .ok (.ireturn, 1) := by decide +kernel
theorem dX4_send_17 : decode cX4_send 17 = .ok (.iconst (-1), 1) := by decide +kernel
theorem dX4_send_18 : decode cX4_send 18 = .ok (.istore_n 2, 1) := by decide +kernel
theorem dX4_send_19 : decode cX4_send 19 = .ok (.iconst 0, 1) := by decide +kernel
theorem dX4_send_20 : decode cX4_send 20 = .ok (.istore_n 3, 1) := by decide +kernel
theorem dX4_send_21 : decode cX4_send 21 = .ok (.iconst 0, 1) := by decide +kernel
theorem dX4_send_22 : decode cX4_send 22 = .ok (.istore 4, 2) := by decide +kernel
theorem dX4_send_24 : decode cX4_send 24 = .ok (.iload 4, 2) := by decide +kernel
theorem dX4_send_26 : decode cX4_send 26 = .ok (.aload_n 0, 1) := by decide +kernel
theorem dX4_send_27 : decode cX4_send 27 = .ok (.getfield 10, 3) := by decide +kernel
theorem dX4_send_30 : decode cX4_send 30 = .ok (.getfield 86, 3) := by decide +kernel
theorem dX4_send_33 : decode cX4_send 33 = .ok (.if_icmp .ge 68, 3) := by decide +kernel
theorem dX4_send_36 : decode cX4_send 36 = .ok (.aload_n 0, 1) := by decide +kernel
theorem dX4_send_37 : decode cX4_send 37 = .ok (.getfield 10, 3) := by decide +kernel
theorem dX4_send_40 : decode cX4_send 40 = .ok (.iload 4, 2) := by decide +kernel
theorem dX4_send_42 : decode cX4_send 42 = .ok (.invokevirtual 160, 3) := by decide +kernel
theorem dX4_send_45 : decode cX4_send 45 = .ok (.ifCond .eq 50, 3) := by decide +kernel
theorem dX4_send_48 : decode cX4_send 48 = .ok (.aload_n 0, 1) := by decide +kernel
theorem dX4_send_49 : decode cX4_send 49 = .ok (.invokevirtual 150, 3) := by decide +kernel
theorem dX4_send_52 : decode cX4_send 52 = .ok (.aload_n 0, 1) := by decide +kernel
theorem dX4_send_53 : decode cX4_send 53 = .ok (.getfield 16, 3) := by decide +kernel
theorem dX4_send_56 : decode cX4_send 56 = .ok (.iload 4, 2) := by decide +kernel
theorem dX4_send_58 : decode cX4_send 58 = .ok (.iconst (-1), 1) := by decide +kernel
theorem dX4_send_59 : decode cX4_send 59 = .ok (.invokevirtual 135, 3) := by decide +kernel
theorem dX4_send_62 : decode cX4_send 62 = .ok (.aload_n 0, 1) := by decide +kernel
theorem dX4_send_63 : decode cX4_send 63 = .ok (.getfield 16, 3) := by decide +kernel
theorem dX4_send_66 : decode cX4_send 66 = .ok (.iload_n 1, 1) := by decide +kernel
theorem dX4_send_67 : decode cX4_send 67 = .ok (.invokevirtual 146, 3) := by decide +kernel
theorem dX4_send_70 : decode cX4_send 70 = .ok (.aload_n 0, 1) := by decide +kernel
theorem dX4_send_71 : decode cX4_send 71 = .ok (.getfield 16, 3) := by decide +kernel
theorem dX4_send_74 : decode cX4_send 74 = .ok (.invokevirtual 79, 3) := by decide +kernel
theorem dX4_send_77 : decode cX4_send 77 = .ok (.istore 5, 2) := by decide +kernel
theorem dX4_send_79 : decode cX4_send 79 = .ok (.iload_n 2, 1) := by decide +kernel
theorem dX4_send_80 : decode cX4_send 80 = .ok (.ifCond .lt 9, 3) := by decide +kernel
theorem dX4_send_83 : decode cX4_send 83 = .ok (.iload 5, 2) := by decide +kernel
theorem dX4_send_85 : decode cX4_send 85 = .ok (.iload_n 3, 1) := by decide +kernel
theorem dX4_send_86 : decode cX4_send 86 = .ok (.if_icmp .ge 9, 3) := by decide +kernel
theorem dX4_send_89 : decode cX4_send 89 = .ok (.iload 5, 2) := by decide +kernel
theorem dX4_send_91 : decode cX4_send 91 = .ok (.istore_n 3, 1) := by decide +kernel
theorem dX4_send_92 : decode cX4_send 92 = .ok (.iload 4, 2) := by decide +kernel
theorem dX4_send_94 : decode cX4_send 94 = .ok (.istore_n 2, 1) := by decide +kernel
theorem dX4_send_95 : decode cX4_send 95 = .ok (.iinc 4 1, 3) := by decide +kernel
theorem dX4_send_98 : decode cX4_send 98 = .ok (.goto (-74), 3) := by decide +kernel
theorem dX4_send_101 : decode cX4_send 101 = .ok (.iload_n 2, 1) := by decide +kernel
theorem dX4_send_102 : decode cX4_send 102 = .ok (.ifCond .lt 7, 3) := by decide +kernel
theorem dX4_send_105 : decode cX4_send 105 = .ok (.iload_n 2, 1) := by decide +kernel
theorem dX4_send_106 : decode cX4_send 106 = .ok (.goto 9, 3) := by decide +kernel
theorem dX4_send_109 : decode cX4_send 109 = .ok (.aload_n 0, 1) := by decide +kernel
theorem dX4_send_110 : decode cX4_send 110 = .ok (.ldc 156, 2) := by decide +kernel
theorem dX4_send_112 : decode cX4_send 112 = .ok (.invokevirtual 49, 3) := by decide +kernel
theorem dX4_send_115 : decode cX4_send 115 = .ok (.ireturn, 1) := by decide +kernel
theorem dX4_cloud_0 : decode cX4_cloud 0 = .ok (.iload_n 1, 1) := by decide +kernel
theorem dX4_cloud_1 : decode cX4_cloud 1 = .ok (.iconst 1, 1) := by decide +kernel
theorem dX4_cloud_2 : decode cX4_cloud 2 = .ok (.bipush 60, 2) := by decide +kernel
theorem dX4_cloud_4 : decode cX4_cloud 4 = .ok (.invokestatic 44, 3) := by decide +kernel
theorem dX4_cloud_7 : decode cX4_cloud 7 = .ok (.ifCond .ne 10, 3) := by decide +kernel
theorem dX4_cloud_10 : decode cX4_cloud 10 = .ok (.aload_n 0, 1) := by decide +kernel
theorem dX4_cloud_11 : decode cX4_cloud 11 = .ok (.ldc 48, 2) := by decide +kernel
theorem dX4_cloud_13 : decode cX4_cloud 13 = .ok (.invokevirtual 49, 3) := by decide +kernel
theorem dX4_cloud_16 : decode cX4_cloud 16 = .ok (.ireturn, 1) := by decide +kernel
theorem dX4_cloud_17 : decode cX4_cloud 17 = .ok (.iconst (-1), 1) := by decide +kernel
theorem dX4_cloud_18 : decode cX4_cloud 18 = .ok (.istore_n 2, 1) := by decide +kernel
theorem dX4_cloud_19 : decode cX4_cloud 19 = .ok (.iconst 0, 1) := by decide +kernel
theorem dX4_cloud_20 : decode cX4_cloud 20 = .ok (.istore_n 3, 1) := by decide +kernel
theorem dX4_cloud_21 : decode cX4_cloud 21 = .ok (.iconst 0, 1) := by decide +kernel
theorem dX4_cloud_22 : decode cX4_cloud 22 = .ok (.istore 4, 2) := by decide +kernel
theorem dX4_cloud_24 : decode cX4_cloud 24 = .ok (.iload 4, 2) := by decide +kernel
theorem dX4_cloud_26 : decode cX4_cloud 26 = .ok (.bipush 10, 2) := by decide +kernel
theorem dX4_cloud_28 : decode cX4_cloud 28 = .ok (.if_icmp .ge 57, 3) := by decide +kernel
theorem dX4_cloud_31 : decode cX4_cloud 31 = .ok (.aload_n 0, 1) := by decide +kernel
theorem dX4_cloud_32 : decode cX4_cloud 32 = .ok (.invokevirtual 150, 3) := by decide +kernel
theorem dX4_cloud_35 : decode cX4_cloud 35 = .ok (.aload_n 0, 1) := by decide +kernel
theorem dX4_cloud_36 : decode cX4_cloud 36 = .ok (.getfield 16, 3) := by decide +kernel
theorem dX4_cloud_39 : decode cX4_cloud 39 = .ok (.getfield 53, 3) := by decide +kernel
theorem dX4_cloud_42 : decode cX4_cloud 42 = .ok (.iload 4, 2) := by decide +kernel
theorem dX4_cloud_44 : decode cX4_cloud 44 = .ok (.iconst 0, 1) := by decide +kernel
theorem dX4_cloud_45 : decode cX4_cloud 45 = .ok (.iastore, 1) := by decide +kernel
theorem dX4_cloud_46 : decode cX4_cloud 46 = .ok (.aload_n 0, 1) := by decide +kernel
theorem dX4_cloud_47 : decode cX4_cloud 47 = .ok (.getfield 16, 3) := by decide +kernel
theorem dX4_cloud_50 : decode cX4_cloud 50 = .ok (.iload_n 1, 1) := by decide +kernel
theorem dX4_cloud_51 : decode cX4_cloud 51 = .ok (.invokevirtual 146, 3) := by decide +kernel
theorem dX4_cloud_54 : decode cX4_cloud 54 = .ok (.aload_n 0, 1) := by decide +kernel
theorem dX4_cloud_55 : decode cX4_cloud 55 = .ok (.getfield 16, 3) := by decide +kernel
theorem dX4_cloud_58 : decode cX4_cloud 58 = .ok (.invokevirtual 76, 3) := by decide +kernel
theorem dX4_cloud_61 : decode cX4_cloud 61 = .ok (.istore 5, 2) := by decide +kernel
theorem dX4_cloud_63 : decode cX4_cloud 63 = .ok (.iload_n 2, 1) := by decide +kernel
theorem dX4_cloud_64 : decode cX4_cloud 64 = .ok (.ifCond .lt 9, 3) := by decide +kernel
theorem dX4_cloud_67 : decode cX4_cloud 67 = .ok (.iload 5, 2) := by decide +kernel
theorem dX4_cloud_69 : decode cX4_cloud 69 = .ok (.iload_n 3, 1) := by decide +kernel
theorem dX4_cloud_70 : decode cX4_cloud 70 = .ok (.if_icmp .ge 9, 3) := by decide +kernel
theorem dX4_cloud_73 : decode cX4_cloud 73 = .ok (.iload 5, 2) := by decide +kernel
theorem dX4_cloud_75 : decode cX4_cloud 75 = .ok (.istore_n 3, 1) := by decide +kernel
theorem dX4_cloud_76 : decode cX4_cloud 76 = .ok (.iload 4, 2) := by decide +kernel
theorem dX4_cloud_78 : decode cX4_cloud 78 = .ok (.istore_n 2, 1) := by decide +kernel
theorem dX4_cloud_79 : decode cX4_cloud 79 = .ok (.iinc 4 1, 3) := by decide +kernel
theorem dX4_cloud_82 : decode cX4_cloud 82 = .ok (.goto (-58), 3) := by decide +kernel
theorem dX4_cloud_85 : decode cX4_cloud 85 = .ok (.iload_n 2, 1) := by decide +kernel
theorem dX4_cloud_86 : decode cX4_cloud 86 = .ok (.ireturn, 1) := by decide +kernel
theorem dX4_enough_0 : decode cX4_enough 0 = .ok (.aload_n 0, 1) := by decide +kernel
theorem dX4_enough_1 : decode cX4_enough 1 = .ok (.iload_n 1, 1) := by decide +kernel
theorem dX4_enough_2 : decode cX4_enough 2 = .ok (.invokevirtual 94, 3) := by decide +kernel
theorem dX4_enough_5 : decode cX4_enough 5 = .ok (.ifCond .eq 16, 3) := by decide +kernel
theorem dX4_enough_8 : decode cX4_enough 8 = .ok (.aload_n 0, 1) := by decide +kernel
theorem dX4_enough_9 : decode cX4_enough 9 = .ok (.iload_n 2, 1) := by decide +kernel
theorem dX4_enough_10 : decode cX4_enough 10 = .ok (.invokevirtual 94, 3) := by decide +kernel
theorem dX4_enough_13 : decode cX4_enough 13 = .ok (.ifCond .eq 8, 3) := by decide +kernel
theorem dX4_enough_16 : decode cX4_enough 16 = .ok (.iload_n 1, 1) := by decide +kernel
theorem dX4_enough_17 : decode cX4_enough 17 = .ok (.iload_n 2, 1) := by decide +kernel
theorem dX4_enough_18 : decode cX4_enough 18 = .ok (.if_icmp .ne 10, 3) := by decide +kernel
theorem dX4_enough_21 : decode cX4_enough 21 = .ok (.aload_n 0, 1) := by decide +kernel
theorem dX4_enough_22 : decode cX4_enough 22 = .ok (.ldc 48, 2) := by decide +kernel
theorem dX4_enough_24 : decode cX4_enough 24 = .ok (.invokevirtual 49, 3) := by decide +kernel
theorem dX4_enough_27 : decode cX4_enough 27 = .ok (.ireturn, 1) := by decide +kernel
theorem dX4_enough_28 : decode cX4_enough 28 = .ok (.iload_n 3, 1) := by decide +kernel
theorem dX4_enough_29 : decode cX4_enough 29 = .ok (.iconst 1, 1) := by decide +kernel
theorem dX4_enough_30 : decode cX4_enough 30 = .ok (.bipush 60, 2) := by decide +kernel
theorem dX4_enough_32 : decode cX4_enough 32 = .ok (.invokestatic 44, 3) := by decide +kernel
theorem dX4_enough_35 : decode cX4_enough 35 = .ok (.ifCond .eq 15, 3) := by decide +kernel
theorem dX4_enough_38 : decode cX4_enough 38 = .ok (.iload 4, 2) := by decide +kernel
theorem dX4_enough_40 : decode cX4_enough 40 = .ok (.iconst 0, 1) := by decide +kernel
theorem dX4_enough_41 : decode cX4_enough 41 = .ok (.sipush 400, 3) := by decide +kernel
theorem dX4_enough_44 : decode cX4_enough 44 = .ok (.invokestatic 44, 3) := by decide +kernel
theorem dX4_enough_47 : decode cX4_enough 47 = .ok (.ifCond .ne 10, 3) := by decide +kernel
theorem dX4_enough_50 : decode cX4_enough 50 = .ok (.aload_n 0, 1) := by decide +kernel
theorem dX4_enough_51 : decode cX4_enough 51 = .ok (.ldc 48, 2) := by decide +kernel
theorem dX4_enough_53 : decode cX4_enough 53 = .ok (.invokevirtual 49, 3) := by decide +kernel
theorem dX4_enough_56 : decode cX4_enough 56 = .ok (.ireturn, 1) := by decide +kernel
theorem dX4_enough_57 : decode cX4_enough 57 = .ok (.aload_n 0, 1) := by decide +kernel
theorem dX4_enough_58 : decode cX4_enough 58 = .ok (.iload_n 1, 1) := by decide +kernel
theorem dX4_enough_59 : decode cX4_enough 59 = .ok (.sipush 200, 3) := by decide +kernel
theorem dX4_enough_62 : decode cX4_enough 62 = .ok (.iload_n 2, 1) := by decide +kernel
theorem dX4_enough_63 : decode cX4_enough 63 = .ok (.iload_n 3, 1) := by decide +kernel
theorem dX4_enough_64 : decode cX4_enough 64 = .ok (.invokevirtual 166, 3) := by decide +kernel
theorem dX4_enough_67 : decode cX4_enough 67 = .ok (.iload 4, 2) := by decide +kernel
theorem dX4_enough_69 : decode cX4_enough 69 = .ok (.if_icmp .ge 10, 3) := by decide +kernel
theorem dX4_enough_72 : decode cX4_enough 72 = .ok (.aload_n 0, 1) := by decide +kernel
theorem dX4_enough_73 : decode cX4_enough 73 = .ok (.ldc 156, 2) := by decide +kernel
theorem dX4_enough_75 : decode cX4_enough 75 = .ok (.invokevirtual 49, 3) := by decide +kernel
theorem dX4_enough_78 : decode cX4_enough 78 = .ok (.ireturn, 1) := by decide +kernel
theorem dX4_enough_79 : decode cX4_enough 79 = .ok (.iconst 0, 1) := by decide +kernel
theorem dX4_enough_80 : decode cX4_enough 80 = .ok (.istore 5, 2) := by decide +kernel
theorem dX4_enough_82 : decode cX4_enough 82 = .ok (.sipush 200, 3) := by decide +kernel
theorem dX4_enough_85 : decode cX4_enough 85 = .ok (.istore 6, 2) := by decide +kernel
theorem dX4_enough_87 : decode cX4_enough 87 = .ok (.iconst 0, 1) := by decide +kernel
theorem dX4_enough_88 : decode cX4_enough 88 = .ok (.istore 7, 2) := by decide +kernel
theorem dX4_enough_90 : decode cX4_enough 90 = .ok (.iload 7, 2) := by decide +kernel
theorem dX4_enough_92 : decode cX4_enough 92 = .ok (.sipush 200, 3) := by decide +kernel
theorem dX4_enough_95 : decode cX4_enough 95 = .ok (.if_icmp .ge 52, 3) := by decide +kernel
theorem dX4_enough_98 : decode cX4_enough 98 = .ok (.iload 5, 2) := by decide +kernel
theorem dX4_enough_100 : decode cX4_enough 100 = .ok (.iload 6, 2) := by decide +kernel
theorem dX4_enough_102 : decode cX4_enough 102 = .ok (.if_icmp .ge 45, 3) := by decide +kernel
theorem dX4_enough_105 : decode cX4_enough 105 = .ok (.iload 5, 2) := by decide +kernel
theorem dX4_enough_107 : decode cX4_enough 107 = .ok (.iload 6, 2) := by decide +kernel
theorem dX4_enough_109 : decode cX4_enough 109 = .ok (.iadd, 1) := by decide +kernel
theorem dX4_enough_110 : decode cX4_enough 110 = .ok (.iconst 2, 1) := by decide +kernel
theorem dX4_enough_111 : decode cX4_enough 111 = .ok (.idiv, 1) := by decide +kernel
theorem dX4_enough_112 : decode cX4_enough 112 = .ok (.istore 8, 2) := by decide +kernel
theorem dX4_enough_114 : decode cX4_enough 114 = .ok (.aload_n 0, 1) := by decide +kernel
theorem dX4_enough_115 : decode cX4_enough 115 = .ok (.iload_n 1, 1) := by decide +kernel
theorem dX4_enough_116 : decode cX4_enough 116 = .ok (.iload 8, 2) := by decide +kernel
theorem dX4_enough_118 : decode cX4_enough 118 = .ok (.iload_n 2, 1) := by decide +kernel
theorem dX4_enough_119 : decode cX4_enough 119 = .ok (.iload_n 3, 1) := by decide +kernel
theorem dX4_enough_120 : decode cX4_enough 120 = .ok (.invokevirtual 166, 3) := by decide +kernel
theorem dX4_enough_123 : decode cX4_enough 123 = .ok (.iload 4, 2) := by decide +kernel
theorem dX4_enough_125 : decode cX4_enough 125 = .ok (.if_icmp .lt 10, 3) := by decide +kernel
theorem dX4_enough_128 : decode cX4_enough 128 = .ok (.iload 8, 2) := by decide +kernel
theorem dX4_enough_130 : decode cX4_enough 130 = .ok (.istore 6, 2) := by decide +kernel
theorem dX4_enough_132 : decode cX4_enough 132 = .ok (.goto 9, 3) := by decide +kernel
theorem dX4_enough_135 : decode cX4_enough 135 = .ok (.iload 8, 2) := by decide +kernel
theorem dX4_enough_137 : decode cX4_enough 137 = .ok (.iconst 1, 1) := by decide +kernel
theorem dX4_enough_138 : decode cX4_enough 138 = .ok (.iadd, 1) := by decide +kernel
theorem dX4_enough_139 : decode cX4_enough 139 = .ok (.istore 5, 2) := by decide +kernel
theorem dX4_enough_141 : decode cX4_enough 141 = .ok (.iinc 7 1, 3) := by decide +kernel
theorem dX4_enough_144 : decode cX4_enough 144 = .ok (.goto (-54), 3) := by decide +kernel
theorem dX4_enough_147 : decode cX4_enough 147 = .ok (.iload 6, 2) := by decide +kernel
theorem dX4_enough_149 : decode cX4_enough 149 = .ok (.ireturn, 1) := by decide +kernel
theorem dX4_brownest_0 : decode cX4_brownest 0 = .ok (.iload_n 1, 1) := by decide +kernel
theorem dX4_brownest_1 : decode cX4_brownest 1 = .ok (.iconst 0, 1) := by decide +kernel
theorem dX4_brownest_2 : decode cX4_brownest 2 = .ok (.sipush 200, 3) := by decide +kernel
theorem dX4_brownest_5 : decode cX4_brownest 5 = .ok (.invokestatic 44, 3) := by decide +kernel
theorem dX4_brownest_8 : decode cX4_brownest 8 = .ok (.ifCond .ne 10, 3) := by decide +kernel
theorem dX4_brownest_11 : decode cX4_brownest 11 = .ok (.aload_n 0, 1) := by decide +kernel
theorem dX4_brownest_12 : decode cX4_brownest 12 = .ok (.ldc 48, 2) := by decide +kernel
theorem dX4_brownest_14 : decode cX4_brownest 14 = .ok (.invokevirtual 49, 3) := by decide +kernel
theorem dX4_brownest_17 : decode cX4_brownest 17 = .ok (.ireturn, 1) := by decide +kernel
theorem dX4_brownest_18 : decode cX4_brownest 18 = .ok (.aload_n 0, 1) := by decide +kernel
theorem dX4_brownest_19 : decode cX4_brownest 19 = .ok (.invokevirtual 150, 3) := by decide +kernel
theorem dX4_brownest_22 : decode cX4_brownest 22 = .ok (.aload_n 0, 1) := by decide +kernel
theorem dX4_brownest_23 : decode cX4_brownest 23 = .ok (.getfield 16, 3) := by decide +kernel
theorem dX4_brownest_26 : decode cX4_brownest 26 = .ok (.iload_n 1, 1) := by decide +kernel
theorem dX4_brownest_27 : decode cX4_brownest 27 = .ok (.invokevirtual 146, 3) := by decide +kernel
theorem dX4_brownest_30 : decode cX4_brownest 30 = .ok (.iconst (-1), 1) := by decide +kernel
theorem dX4_brownest_31 : decode cX4_brownest 31 = .ok (.istore_n 2, 1) := by decide +kernel
theorem dX4_brownest_32 : decode cX4_brownest 32 = .ok (.iconst (-1), 1) := by decide +kernel
theorem dX4_brownest_33 : decode cX4_brownest 33 = .ok (.istore_n 3, 1) := by decide +kernel
theorem dX4_brownest_34 : decode cX4_brownest 34 = .ok (.iconst 0, 1) := by decide +kernel
theorem dX4_brownest_35 : decode cX4_brownest 35 = .ok (.istore 4, 2) := by decide +kernel
theorem dX4_brownest_37 : decode cX4_brownest 37 = .ok (.iload 4, 2) := by decide +kernel
theorem dX4_brownest_39 : decode cX4_brownest 39 = .ok (.aload_n 0, 1) := by decide +kernel
theorem dX4_brownest_40 : decode cX4_brownest 40 = .ok (.getfield 16, 3) := by decide +kernel
theorem dX4_brownest_43 : decode cX4_brownest 43 = .ok (.getfield 86, 3) := by decide +kernel
theorem dX4_brownest_46 : decode cX4_brownest 46 = .ok (.if_icmp .ge 35, 3) := by decide +kernel
theorem dX4_brownest_49 : decode cX4_brownest 49 = .ok (.aload_n 0, 1) := by decide +kernel
theorem dX4_brownest_50 : decode cX4_brownest 50 = .ok (.getfield 16, 3) := by decide +kernel
theorem dX4_brownest_53 : decode cX4_brownest 53 = .ok (.iload 4, 2) := by decide +kernel
theorem dX4_brownest_55 : decode cX4_brownest 55 = .ok (.invokevirtual 128, 3) := by decide +kernel
theorem dX4_brownest_58 : decode cX4_brownest 58 = .ok (.iload_n 3, 1) := by decide +kernel
theorem dX4_brownest_59 : decode cX4_brownest 59 = .ok (.if_icmp .le 16, 3) := by decide +kernel
theorem dX4_brownest_62 : decode cX4_brownest 62 = .ok (.aload_n 0, 1) := by decide +kernel
theorem dX4_brownest_63 : decode cX4_brownest 63 = .ok (.getfield 16, 3) := by decide +kernel
theorem dX4_brownest_66 : decode cX4_brownest 66 = .ok (.iload 4, 2) := by decide +kernel
theorem dX4_brownest_68 : decode cX4_brownest 68 = .ok (.invokevirtual 128, 3) := by decide +kernel
theorem dX4_brownest_71 : decode cX4_brownest 71 = .ok (.istore_n 3, 1) := by decide +kernel
theorem dX4_brownest_72 : decode cX4_brownest 72 = .ok (.iload 4, 2) := by decide +kernel
theorem dX4_brownest_74 : decode cX4_brownest 74 = .ok (.istore_n 2, 1) := by decide +kernel
theorem dX4_brownest_75 : decode cX4_brownest 75 = .ok (.iinc 4 1, 3) := by decide +kernel
theorem dX4_brownest_78 : decode cX4_brownest 78 = .ok (.goto (-41), 3) := by decide +kernel
theorem dX4_brownest_81 : decode cX4_brownest 81 = .ok (.iload_n 2, 1) := by decide +kernel
theorem dX4_brownest_82 : decode cX4_brownest 82 = .ok (.ifCond .lt 7, 3) := by decide +kernel
theorem dX4_brownest_85 : decode cX4_brownest 85 = .ok (.iload_n 2, 1) := by decide +kernel
theorem dX4_brownest_86 : decode cX4_brownest 86 = .ok (.goto 9, 3) := by decide +kernel
theorem dX4_brownest_89 : decode cX4_brownest 89 = .ok (.aload_n 0, 1) := by decide +kernel
theorem dX4_brownest_90 : decode cX4_brownest 90 = .ok (.ldc 156, 2) := by decide +kernel
theorem dX4_brownest_92 : decode cX4_brownest 92 = .ok (.invokevirtual 49, 3) := by decide +kernel
theorem dX4_brownest_95 : decode cX4_brownest 95 = .ok (.ireturn, 1) := by decide +kernel
theorem dX4_feed_0 : decode cX4_feed 0 = .ok (.iload_n 2, 1) := by decide +kernel
theorem dX4_feed_1 : decode cX4_feed 1 = .ok (.iconst 1, 1) := by decide +kernel
theorem dX4_feed_2 : decode cX4_feed 2 = .ok (.iconst 4, 1) := by decide +kernel
theorem dX4_feed_3 : decode cX4_feed 3 = .ok (.invokestatic 44, 3) := by decide +kernel
theorem dX4_feed_6 : decode cX4_feed 6 = .ok (.ifCond .ne 10, 3) := by decide +kernel
theorem dX4_feed_9 : decode cX4_feed 9 = .ok (.aload_n 0, 1) := by decide +kernel
theorem dX4_feed_10 : decode cX4_feed 10 = .ok (.ldc 48, 2) := by decide +kernel
theorem dX4_feed_12 : decode cX4_feed 12 = .ok (.invokevirtual 49, 3) := by decide +kernel
theorem dX4_feed_15 : decode cX4_feed 15 = .ok (.ireturn, 1) := by decide +kernel
theorem dX4_feed_16 : decode cX4_feed 16 = .ok (.aload_n 0, 1) := by decide +kernel
theorem dX4_feed_17 : decode cX4_feed 17 = .ok (.getfield 25, 3) := by decide +kernel
theorem dX4_feed_20 : decode cX4_feed 20 = .ok (.getfield 170, 3) := by decide +kernel
theorem dX4_feed_23 : decode cX4_feed 23 = .ok (.iload_n 2, 1) := by decide +kernel
theorem dX4_feed_24 : decode cX4_feed 24 = .ok (.iadd, 1) := by decide +kernel
theorem dX4_feed_25 : decode cX4_feed 25 = .ok (.bipush 120, 2) := by decide +kernel
theorem dX4_feed_27 : decode cX4_feed 27 = .ok (.if_icmp .le 10, 3) := by decide +kernel
theorem dX4_feed_30 : decode cX4_feed 30 = .ok (.aload_n 0, 1) := by decide +kernel
theorem dX4_feed_31 : decode cX4_feed 31 = .ok (.ldc 89, 2) := by decide +kernel
theorem dX4_feed_33 : decode cX4_feed 33 = .ok (.invokevirtual 49, 3) := by decide +kernel
theorem dX4_feed_36 : decode cX4_feed 36 = .ok (.ireturn, 1) := by decide +kernel
theorem dX4_feed_37 : decode cX4_feed 37 = .ok (.iload_n 2, 1) := by decide +kernel
theorem dX4_feed_38 : decode cX4_feed 38 = .ok (.iconst 1, 1) := by decide +kernel
theorem dX4_feed_39 : decode cX4_feed 39 = .ok (.isub, 1) := by decide +kernel
theorem dX4_feed_40 : decode cX4_feed 40 = .ok (.istore_n 3, 1) := by decide +kernel
theorem dX4_feed_41 : decode cX4_feed 41 = .ok (.iload_n 3, 1) := by decide +kernel
theorem dX4_feed_42 : decode cX4_feed 42 = .ok (.ifCond .lt 26, 3) := by decide +kernel
theorem dX4_feed_45 : decode cX4_feed 45 = .ok (.aload_n 0, 1) := by decide +kernel
theorem dX4_feed_46 : decode cX4_feed 46 = .ok (.getfield 25, 3) := by decide +kernel
theorem dX4_feed_49 : decode cX4_feed 49 = .ok (.iload_n 1, 1) := by decide +kernel
theorem dX4_feed_50 : decode cX4_feed 50 = .ok (.bipush 8, 2) := by decide +kernel
theorem dX4_feed_52 : decode cX4_feed 52 = .ok (.iload_n 3, 1) := by decide +kernel
theorem dX4_feed_53 : decode cX4_feed 53 = .ok (.imul, 1) := by decide +kernel
theorem dX4_feed_54 : decode cX4_feed 54 = .ok (.iushr, 1) := by decide +kernel
theorem dX4_feed_55 : decode cX4_feed 55 = .ok (.sipush 255, 3) := by decide +kernel
theorem dX4_feed_58 : decode cX4_feed 58 = .ok (.iand, 1) := by decide +kernel
theorem dX4_feed_59 : decode cX4_feed 59 = .ok (.invokevirtual 173, 3) := by decide +kernel
theorem dX4_feed_62 : decode cX4_feed 62 = .ok (.iinc 3 (-1), 3) := by decide +kernel
theorem dX4_feed_65 : decode cX4_feed 65 = .ok (.goto (-24), 3) := by decide +kernel
theorem dX4_feed_68 : decode cX4_feed 68 = .ok (.aload_n 0, 1) := by decide +kernel
theorem dX4_feed_69 : decode cX4_feed 69 = .ok (.getfield 25, 3) := by decide +kernel
theorem dX4_feed_72 : decode cX4_feed 72 = .ok (.getfield 170, 3) := by decide +kernel
theorem dX4_feed_75 : decode cX4_feed 75 = .ok (.ireturn, 1) := by decide +kernel
theorem dX4_wipe_0 : decode cX4_wipe 0 = .ok (.aload_n 0, 1) := by decide +kernel
theorem dX4_wipe_1 : decode cX4_wipe 1 = .ok (.getfield 25, 3) := by decide +kernel
theorem dX4_wipe_4 : decode cX4_wipe 4 = .ok (.getfield 170, 3) := by decide +kernel
theorem dX4_wipe_7 : decode cX4_wipe 7 = .ok (.istore_n 1, 1) := by decide +kernel
theorem dX4_wipe_8 : decode cX4_wipe 8 = .ok (.aload_n 0, 1) := by decide +kernel
theorem dX4_wipe_9 : decode cX4_wipe 9 = .ok (.getfield 25, 3) := by decide +kernel
theorem dX4_wipe_12 : decode cX4_wipe 12 = .ok (.iconst 0, 1) := by decide +kernel
theorem dX4_wipe_13 : decode cX4_wipe 13 = .ok (.putfield 170, 3) := by decide +kernel
theorem dX4_wipe_16 : decode cX4_wipe 16 = .ok (.iload_n 1, 1) := by decide +kernel
theorem dX4_wipe_17 : decode cX4_wipe 17 = .ok (.ireturn, 1) := by decide +kernel
theorem dX4_esplanade_0 : decode cX4_esplanade 0 = .ok (.aload_n 0, 1) := by decide +kernel
theorem dX4_esplanade_1 : decode cX4_esplanade 1 = .ok (.invokevirtual 150, 3) := by decide +kernel
theorem dX4_esplanade_4 : decode cX4_esplanade 4 = .ok (.aload_n 0, 1) := by decide +kernel
theorem dX4_esplanade_5 : decode cX4_esplanade 5 = .ok (.getfield 25, 3) := by decide +kernel
theorem dX4_esplanade_8 : decode cX4_esplanade 8 = .ok (.aload_n 0, 1) := by decide +kernel
theorem dX4_esplanade_9 : decode cX4_esplanade 9 = .ok (.getfield 16, 3) := by decide +kernel
theorem dX4_esplanade_12 : decode cX4_esplanade 12 = .ok (.invokevirtual 176, 3) := by decide +kernel
theorem dX4_esplanade_15 : decode cX4_esplanade 15 = .ok (.istore_n 1, 1) := by decide +kernel
theorem dX4_esplanade_16 : decode cX4_esplanade 16 = .ok (.aload_n 0, 1) := by decide +kernel
theorem dX4_esplanade_17 : decode cX4_esplanade 17 = .ok (.getfield 25, 3) := by decide +kernel
theorem dX4_esplanade_20 : decode cX4_esplanade 20 = .ok (.iconst 0, 1) := by decide +kernel
theorem dX4_esplanade_21 : decode cX4_esplanade 21 = .ok (.putfield 170, 3) := by decide +kernel
theorem dX4_esplanade_24 : decode cX4_esplanade 24 = .ok (.iload_n 1, 1) := by decide +kernel
theorem dX4_esplanade_25 : decode cX4_esplanade 25 = .ok (.ifCond .lt 14, 3) := by decide +kernel
theorem dX4_esplanade_28 : decode cX4_esplanade 28 = .ok (.aload_n 0, 1) := by decide +kernel
theorem dX4_esplanade_29 : decode cX4_esplanade 29 = .ok (.getfield 10, 3) := by decide +kernel
theorem dX4_esplanade_32 : decode cX4_esplanade 32 = .ok (.aload_n 0, 1) := by decide +kernel
theorem dX4_esplanade_33 : decode cX4_esplanade 33 = .ok (.getfield 16, 3) := by decide +kernel
theorem dX4_esplanade_36 : decode cX4_esplanade 36 = .ok (.invokevirtual 180, 3) := by decide +kernel
theorem dX4_esplanade_39 : decode cX4_esplanade 39 = .ok (.iload_n 1, 1) := by decide +kernel
theorem dX4_esplanade_40 : decode cX4_esplanade 40 = .ok (.ireturn, 1) := by decide +kernel
theorem dX4_sheet_0 : decode cX4_sheet 0 = .ok (.aload_n 0, 1) := by decide +kernel
theorem dX4_sheet_1 : decode cX4_sheet 1 = .ok (.iload_n 1, 1) := by decide +kernel
theorem dX4_sheet_2 : decode cX4_sheet 2 = .ok (.invokevirtual 184, 3) := by decide +kernel
theorem dX4_sheet_5 : decode cX4_sheet 5 = .ok (.astore 4, 2) := by decide +kernel
theorem dX4_sheet_7 : decode cX4_sheet 7 = .ok (.aload 4, 2) := by decide +kernel
theorem dX4_sheet_9 : decode cX4_sheet 9 = .ok (.ifnull 25, 3) := by decide +kernel
theorem dX4_sheet_12 : decode cX4_sheet 12 = .ok (.iload_n 2, 1) := by decide +kernel
theorem dX4_sheet_13 : decode cX4_sheet 13 = .ok (.ifCond .eq 28, 3) := by decide +kernel
theorem dX4_sheet_16 : decode cX4_sheet 16 = .ok (.iload_n 2, 1) := by decide +kernel
theorem dX4_sheet_17 : decode cX4_sheet 17 = .ok (.bipush 8, 2) := by decide +kernel
theorem dX4_sheet_19 : decode cX4_sheet 19 = .ok (.if_icmp .eq 22, 3) := by decide +kernel
theorem dX4_sheet_22 : decode cX4_sheet 22 = .ok (.iload_n 2, 1) := by decide +kernel
theorem dX4_sheet_23 : decode cX4_sheet 23 = .ok (.bipush 16, 2) := by decide +kernel
theorem dX4_sheet_25 : decode cX4_sheet 25 = .ok (.if_icmp .eq 16, 3) := by decide +kernel
theorem dX4_sheet_28 : decode cX4_sheet 28 = .ok (.iload_n 2, 1) := by decide +kernel
theorem dX4_sheet_29 : decode cX4_sheet 29 = .ok (.bipush 64, 2) := by decide +kernel
theorem dX4_sheet_31 : decode cX4_sheet 31 = .ok (.if_icmp .eq 10, 3) := by decide +kernel
theorem dX4_sheet_34 : decode cX4_sheet 34 = .ok (.aload_n 0, 1) := by decide +kernel
theorem dX4_sheet_35 : decode cX4_sheet 35 = .ok (.ldc 48, 2) := by decide +kernel
theorem dX4_sheet_37 : decode cX4_sheet 37 = .ok (.invokevirtual 49, 3) := by decide +kernel
theorem dX4_sheet_40 : decode cX4_sheet 40 = .ok (.ireturn, 1) := by decide +kernel
theorem dX4_sheet_41 : decode cX4_sheet 41 = .ok (.iload_n 3, 1) := by decide +kernel
theorem dX4_sheet_42 : decode cX4_sheet 42 = .ok (.ifCond .ge 10, 3) := by decide +kernel
theorem dX4_sheet_45 : decode cX4_sheet 45 = .ok (.aload_n 0, 1) := by decide +kernel
theorem dX4_sheet_46 : decode cX4_sheet 46 = .ok (.ldc 188, 2) := by decide +kernel
theorem dX4_sheet_48 : decode cX4_sheet 48 = .ok (.invokevirtual 49, 3) := by decide +kernel
theorem dX4_sheet_51 : decode cX4_sheet 51 = .ok (.ireturn, 1) := by decide +kernel
theorem dX4_sheet_52 : decode cX4_sheet 52 = .ok (.iload_n 3, 1) := by decide +kernel
theorem dX4_sheet_53 : decode cX4_sheet 53 = .ok (.bipush 40, 2) := by decide +kernel
theorem dX4_sheet_55 : decode cX4_sheet 55 = .ok (.if_icmp .le 10, 3) := by decide +kernel
theorem dX4_sheet_58 : decode cX4_sheet 58 = .ok (.aload_n 0, 1) := by decide +kernel
theorem dX4_sheet_59 : decode cX4_sheet 59 = .ok (.ldc 48, 2) := by decide +kernel
theorem dX4_sheet_61 : decode cX4_sheet 61 = .ok (.invokevirtual 49, 3) := by decide +kernel
theorem dX4_sheet_64 : decode cX4_sheet 64 = .ok (.ireturn, 1) := by decide +kernel
theorem dX4_sheet_65 : decode cX4_sheet 65 = .ok (.aload 4, 2) := by decide +kernel
theorem dX4_sheet_67 : decode cX4_sheet 67 = .ok (.iload_n 2, 1) := by decide +kernel
theorem dX4_sheet_68 : decode cX4_sheet 68 = .ok (.iload_n 3, 1) := by decide +kernel
theorem dX4_sheet_69 : decode cX4_sheet 69 = .ok (.invokevirtual 189, 3) := by decide +kernel
theorem dX4_sheet_72 : decode cX4_sheet 72 = .ok (.aload 4, 2) := by decide +kernel
theorem dX4_sheet_74 : decode cX4_sheet 74 = .ok (.getfield 192, 3) := by decide +kernel
theorem dX4_sheet_77 : decode cX4_sheet 77 = .ok (.ireturn, 1) := by decide +kernel
theorem dX4_write_0 : decode cX4_write 0 = .ok (.aload_n 0, 1) := by decide +kernel
theorem dX4_write_1 : decode cX4_write 1 = .ok (.iload_n 1, 1) := by decide +kernel
theorem dX4_write_2 : decode cX4_write 2 = .ok (.invokevirtual 184, 3) := by decide +kernel
theorem dX4_write_5 : decode cX4_write 5 = .ok (.astore 5, 2) := by decide +kernel
theorem dX4_write_7 : decode cX4_write 7 = .ok (.aload 5, 2) := by decide +kernel
theorem dX4_write_9 : decode cX4_write 9 = .ok (.ifnonnull 11, 3) := by decide +kernel
theorem dX4_write_12 : decode cX4_write 12 = .ok (.aload_n 0, 1) := by decide +kernel
theorem dX4_write_13 : decode cX4_write 13 = .ok (.ldc 48, 2) := by decide +kernel
theorem dX4_write_15 : decode cX4_write 15 = .ok (.invokevirtual 49, 3) := by decide +kernel
theorem dX4_write_18 : decode cX4_write 18 = .ok (.i2l, 1) := by decide +kernel
theorem dX4_write_19 : decode cX4_write 19 = .ok (.lreturn, 1) := by decide +kernel
theorem dX4_write_20 : decode cX4_write 20 = .ok (.aload 5, 2) := by decide +kernel
theorem dX4_write_22 : decode cX4_write 22 = .ok (.invokevirtual 193, 3) := by decide +kernel
theorem dX4_write_25 : decode cX4_write 25 = .ok (.ifCond .eq 11, 3) := by decide +kernel
theorem dX4_write_28 : decode cX4_write 28 = .ok (.aload_n 0, 1) := by decide +kernel
theorem dX4_write_29 : decode cX4_write 29 = .ok (.ldc 197, 2) := by decide +kernel
theorem dX4_write_31 : decode cX4_write 31 = .ok (.invokevirtual 49, 3) := by decide +kernel
theorem dX4_write_34 : decode cX4_write 34 = .ok (.i2l, 1) := by decide +kernel
theorem dX4_write_35 : decode cX4_write 35 = .ok (.lreturn, 1) := by decide +kernel
theorem dX4_write_36 : decode cX4_write 36 = .ok (.iload_n 2, 1) := by decide +kernel
theorem dX4_write_37 : decode cX4_write 37 = .ok (.iconst 0, 1) := by decide +kernel
theorem dX4_write_38 : decode cX4_write 38 = .ok (.aload 5, 2) := by decide +kernel
theorem dX4_write_40 : decode cX4_write 40 = .ok (.getfield 192, 3) := by decide +kernel
theorem dX4_write_43 : decode cX4_write 43 = .ok (.iconst 1, 1) := by decide +kernel
theorem dX4_write_44 : decode cX4_write 44 = .ok (.isub, 1) := by decide +kernel
theorem dX4_write_45 : decode cX4_write 45 = .ok (.invokestatic 44, 3) := by decide +kernel
theorem dX4_write_48 : decode cX4_write 48 = .ok (.ifCond .ne 11, 3) := by decide +kernel
theorem dX4_write_51 : decode cX4_write 51 = .ok (.aload_n 0, 1) := by decide +kernel
theorem dX4_write_52 : decode cX4_write 52 = .ok (.ldc 48, 2) := by decide +kernel
theorem dX4_write_54 : decode cX4_write 54 = .ok (.invokevirtual 49, 3) := by decide +kernel
theorem dX4_write_57 : decode cX4_write 57 = .ok (.i2l, 1) := by decide +kernel
theorem dX4_write_58 : decode cX4_write 58 = .ok (.lreturn, 1) := by decide +kernel
theorem dX4_write_59 : decode cX4_write 59 = .ok (.aload 5, 2) := by decide +kernel
theorem dX4_write_61 : decode cX4_write 61 = .ok (.getfield 198, 3) := by decide +kernel
theorem dX4_write_64 : decode cX4_write 64 = .ok (.iload_n 2, 1) := by decide +kernel
theorem dX4_write_65 : decode cX4_write 65 = .ok (.laload, 1) := by decide +kernel
theorem dX4_write_66 : decode cX4_write 66 = .ok (.lstore 6, 2) := by decide +kernel
theorem dX4_write_68 : decode cX4_write 68 = .ok (.aload 5, 2) := by decide +kernel
theorem dX4_write_70 : decode cX4_write 70 = .ok (.iload_n 2, 1) := by decide +kernel
theorem dX4_write_71 : decode cX4_write 71 = .ok (.lload_n 3, 1) := by decide +kernel
theorem dX4_write_72 : decode cX4_write 72 = .ok (.invokevirtual 202, 3) := by decide +kernel
theorem dX4_write_75 : decode cX4_write 75 = .ok (.lload 6, 2) := by decide +kernel
theorem dX4_write_77 : decode cX4_write 77 = .ok (.lreturn, 1) := by decide +kernel
theorem dX4_copy_0 : decode cX4_copy 0 = .ok (.aload_n 0, 1) := by decide +kernel
theorem dX4_copy_1 : decode cX4_copy 1 = .ok (.iload_n 1, 1) := by decide +kernel
theorem dX4_copy_2 : decode cX4_copy 2 = .ok (.invokevirtual 184, 3) := by decide +kernel
theorem dX4_copy_5 : decode cX4_copy 5 = .ok (.astore 6, 2) := by decide +kernel
theorem dX4_copy_7 : decode cX4_copy 7 = .ok (.aload_n 0, 1) := by decide +kernel
theorem dX4_copy_8 : decode cX4_copy 8 = .ok (.iload_n 3, 1) := by decide +kernel
theorem dX4_copy_9 : decode cX4_copy 9 = .ok (.invokevirtual 184, 3) := by decide +kernel
theorem dX4_copy_12 : decode cX4_copy 12 = .ok (.astore 7, 2) := by decide +kernel
theorem dX4_copy_14 : decode cX4_copy 14 = .ok (.aload 6, 2) := by decide +kernel
theorem dX4_copy_16 : decode cX4_copy 16 = .ok (.ifnull 8, 3) := by decide +kernel
theorem dX4_copy_19 : decode cX4_copy 19 = .ok (.aload 7, 2) := by decide +kernel
theorem dX4_copy_21 : decode cX4_copy 21 = .ok (.ifnonnull 10, 3) := by decide +kernel
theorem dX4_copy_24 : decode cX4_copy 24 = .ok (.aload_n 0, 1) := by decide +kernel
theorem dX4_copy_25 : decode cX4_copy 25 = .ok (.ldc 48, 2) := by decide +kernel
theorem dX4_copy_27 : decode cX4_copy 27 = .ok (.invokevirtual 49, 3) := by decide +kernel
theorem dX4_copy_30 : decode cX4_copy 30 = .ok (.ireturn, 1) := by decide +kernel
theorem dX4_copy_31 : decode cX4_copy 31 = .ok (.aload 6, 2) := by decide +kernel
theorem dX4_copy_33 : decode cX4_copy 33 = .ok (.invokevirtual 193, 3) := by decide +kernel
theorem dX4_copy_36 : decode cX4_copy 36 = .ok (.ifCond .ne 11, 3) := by decide +kernel
theorem dX4_copy_39 : decode cX4_copy 39 = .ok (.aload 7, 2) := by decide +kernel
theorem dX4_copy_41 : decode cX4_copy 41 = .ok (.invokevirtual 193, 3) := by decide +kernel
theorem dX4_copy_44 : decode cX4_copy 44 = .ok (.ifCond .eq 10, 3) := by decide +kernel
theorem dX4_copy_47 : decode cX4_copy 47 = .ok (.aload_n 0, 1) := by decide +kernel
theorem dX4_copy_48 : decode cX4_copy 48 = .ok (.ldc 197, 2) := by decide +kernel
theorem dX4_copy_50 : decode cX4_copy 50 = .ok (.invokevirtual 49, 3) := by decide +kernel
theorem dX4_copy_53 : decode cX4_copy 53 = .ok (.ireturn, 1) := by decide +kernel
theorem dX4_copy_54 : decode cX4_copy 54 = .ok (.aload 6, 2) := by decide +kernel
theorem dX4_copy_56 : decode cX4_copy 56 = .ok (.getfield 206, 3) := by decide +kernel
theorem dX4_copy_59 : decode cX4_copy 59 = .ok (.aload 7, 2) := by decide +kernel
theorem dX4_copy_61 : decode cX4_copy 61 = .ok (.getfield 206, 3) := by decide +kernel
theorem dX4_copy_64 : decode cX4_copy 64 = .ok (.if_icmp .eq 10, 3) := by decide +kernel
theorem dX4_copy_67 : decode cX4_copy 67 = .ok (.aload_n 0, 1) := by decide +kernel
theorem dX4_copy_68 : decode cX4_copy 68 = .ok (.ldc 127, 2) := by decide +kernel
theorem dX4_copy_70 : decode cX4_copy 70 = .ok (.invokevirtual 49, 3) := by decide +kernel
theorem dX4_copy_73 : decode cX4_copy 73 = .ok (.ireturn, 1) := by decide +kernel
theorem dX4_copy_74 : decode cX4_copy 74 = .ok (.aload 6, 2) := by decide +kernel
theorem dX4_copy_76 : decode cX4_copy 76 = .ok (.iload_n 2, 1) := by decide +kernel
theorem dX4_copy_77 : decode cX4_copy 77 = .ok (.iload 5, 2) := by decide +kernel
theorem dX4_copy_79 : decode cX4_copy 79 = .ok (.invokevirtual 209, 3) := by decide +kernel
theorem dX4_copy_82 : decode cX4_copy 82 = .ok (.ifCond .eq 15, 3) := by decide +kernel
theorem dX4_copy_85 : decode cX4_copy 85 = .ok (.aload 7, 2) := by decide +kernel
theorem dX4_copy_87 : decode cX4_copy 87 = .ok (.iload 4, 2) := by decide +kernel
theorem dX4_copy_89 : decode cX4_copy 89 = .ok (.iload 5, 2) := by decide +kernel
theorem dX4_copy_91 : decode cX4_copy 91 = .ok (.invokevirtual 209, 3) := by decide +kernel
theorem dX4_copy_94 : decode cX4_copy 94 = .ok (.ifCond .ne 10, 3) := by decide +kernel
theorem dX4_copy_97 : decode cX4_copy 97 = .ok (.aload_n 0, 1) := by decide +kernel
theorem dX4_copy_98 : decode cX4_copy 98 = .ok (.ldc 48, 2) := by decide +kernel
theorem dX4_copy_100 : decode cX4_copy 100 = .ok (.invokevirtual 49, 3) := by decide +kernel
theorem dX4_copy_103 : decode cX4_copy 103 = .ok (.ireturn, 1) := by decide +kernel
theorem dX4_copy_104 : decode cX4_copy 104 = .ok (.aload 6, 2) := by decide +kernel
theorem dX4_copy_106 : decode cX4_copy 106 = .ok (.getfield 198, 3) := by decide +kernel
theorem dX4_copy_109 : decode cX4_copy 109 = .ok (.iload_n 2, 1) := by decide +kernel
theorem dX4_copy_110 : decode cX4_copy 110 = .ok (.aload 7, 2) := by decide +kernel
theorem dX4_copy_112 : decode cX4_copy 112 = .ok (.getfield 198, 3) := by decide +kernel
theorem dX4_copy_115 : decode cX4_copy 115 = .ok (.iload 4, 2) := by decide +kernel
theorem dX4_copy_117 : decode cX4_copy 117 = .ok (.iload 5, 2) := by decide +kernel
theorem dX4_copy_119 : decode cX4_copy 119 = .ok (.invokestatic 212, 3) := by decide +kernel
theorem dX4_copy_122 : decode cX4_copy 122 = .ok (.iload 5, 2) := by decide +kernel
theorem dX4_copy_124 : decode cX4_copy 124 = .ok (.ireturn, 1) := by decide +kernel
theorem dX4_lays_0 : decode cX4_lays 0 = .ok (.aload_n 0, 1) := by decide +kernel
theorem dX4_lays_1 : decode cX4_lays 1 = .ok (.iload_n 1, 1) := by decide +kernel
theorem dX4_lays_2 : decode cX4_lays 2 = .ok (.invokevirtual 184, 3) := by decide +kernel
theorem dX4_lays_5 : decode cX4_lays 5 = .ok (.astore_n 2, 1) := by decide +kernel
theorem dX4_lays_6 : decode cX4_lays 6 = .ok (.aload_n 2, 1) := by decide +kernel
theorem dX4_lays_7 : decode cX4_lays 7 = .ok (.ifnonnull 10, 3) := by decide +kernel
theorem dX4_lays_10 : decode cX4_lays 10 = .ok (.aload_n 0, 1) := by decide +kernel
theorem dX4_lays_11 : decode cX4_lays 11 = .ok (.ldc 48, 2) := by decide +kernel
theorem dX4_lays_13 : decode cX4_lays 13 = .ok (.invokevirtual 49, 3) := by decide +kernel
theorem dX4_lays_16 : decode cX4_lays 16 = .ok (.ireturn, 1) := by decide +kernel
theorem dX4_lays_17 : decode cX4_lays 17 = .ok (.aload_n 2, 1) := by decide +kernel
theorem dX4_lays_18 : decode cX4_lays 18 = .ok (.invokevirtual 193, 3) := by decide +kernel
theorem dX4_lays_21 : decode cX4_lays 21 = .ok (.ifCond .eq 10, 3) := by decide +kernel
theorem dX4_lays_24 : decode cX4_lays 24 = .ok (.aload_n 0, 1) := by decide +kernel
theorem dX4_lays_25 : decode cX4_lays 25 = .ok (.ldc 197, 2) := by decide +kernel
theorem dX4_lays_27 : decode cX4_lays 27 = .ok (.invokevirtual 49, 3) := by decide +kernel
theorem dX4_lays_30 : decode cX4_lays 30 = .ok (.ireturn, 1) := by decide +kernel
theorem dX4_lays_31 : decode cX4_lays 31 = .ok (.iconst 0, 1) := by decide +kernel
theorem dX4_lays_32 : decode cX4_lays 32 = .ok (.istore_n 3, 1) := by decide +kernel
theorem dX4_lays_33 : decode cX4_lays 33 = .ok (.iconst 0, 1) := by decide +kernel
theorem dX4_lays_34 : decode cX4_lays 34 = .ok (.istore 4, 2) := by decide +kernel
theorem dX4_lays_36 : decode cX4_lays 36 = .ok (.iload 4, 2) := by decide +kernel
theorem dX4_lays_38 : decode cX4_lays 38 = .ok (.aload_n 2, 1) := by decide +kernel
theorem dX4_lays_39 : decode cX4_lays 39 = .ok (.getfield 192, 3) := by decide +kernel
theorem dX4_lays_42 : decode cX4_lays 42 = .ok (.if_icmp .ge 57, 3) := by decide +kernel
theorem dX4_lays_45 : decode cX4_lays 45 = .ok (.iload 4, 2) := by decide +kernel
theorem dX4_lays_47 : decode cX4_lays 47 = .ok (.bipush 10, 2) := by decide +kernel
theorem dX4_lays_49 : decode cX4_lays 49 = .ok (.if_icmp .ge 50, 3) := by decide +kernel
theorem dX4_lays_52 : decode cX4_lays 52 = .ok (.aload_n 2, 1) := by decide +kernel
theorem dX4_lays_53 : decode cX4_lays 53 = .ok (.getfield 198, 3) := by decide +kernel
theorem dX4_lays_56 : decode cX4_lays 56 = .ok (.iload 4, 2) := by decide +kernel
theorem dX4_lays_58 : decode cX4_lays 58 = .ok (.laload, 1) := by decide +kernel
theorem dX4_lays_59 : decode cX4_lays 59 = .ok (.lstore 5, 2) := by decide +kernel
theorem dX4_lays_61 : decode cX4_lays 61 = .ok (.lload 5, 2) := by decide +kernel
theorem dX4_lays_63 : decode cX4_lays 63 = .ok (.lconst 0, 1) := by decide +kernel
theorem dX4_lays_64 : decode cX4_lays 64 = .ok (.lcmp, 1) := by decide +kernel
theorem dX4_lays_65 : decode cX4_lays 65 = .ok (.ifCond .lt 28, 3) := by decide +kernel
theorem dX4_lays_68 : decode cX4_lays 68 = .ok (.lload 5, 2) := by decide +kernel
theorem dX4_lays_70 : decode cX4_lays 70 = .ok (.ldc2_w 218, 3) := by decide +kernel
theorem dX4_lays_73 : decode cX4_lays 73 = .ok (.lcmp, 1) := by decide +kernel
theorem dX4_lays_74 : decode cX4_lays 74 = .ok (.ifCond .gt 19, 3) := by decide +kernel
theorem dX4_lays_77 : decode cX4_lays 77 = .ok (.aload_n 0, 1) := by decide +kernel
theorem dX4_lays_78 : decode cX4_lays 78 = .ok (.getfield 10, 3) := by decide +kernel
theorem dX4_lays_81 : decode cX4_lays 81 = .ok (.getfield 53, 3) := by decide +kernel
theorem dX4_lays_84 : decode cX4_lays 84 = .ok (.iload 4, 2) := by decide +kernel
theorem dX4_lays_86 : decode cX4_lays 86 = .ok (.lload 5, 2) := by decide +kernel
theorem dX4_lays_88 : decode cX4_lays 88 = .ok (.l2i, 1) := by decide +kernel
theorem dX4_lays_89 : decode cX4_lays 89 = .ok (.iastore, 1) := by decide +kernel
theorem dX4_lays_90 : decode cX4_lays 90 = .ok (.iinc 3 1, 3) := by decide +kernel
theorem dX4_lays_93 : decode cX4_lays 93 = .ok (.iinc 4 1, 3) := by decide +kernel
theorem dX4_lays_96 : decode cX4_lays 96 = .ok (.goto (-60), 3) := by decide +kernel
theorem dX4_lays_99 : decode cX4_lays 99 = .ok (.iload_n 3, 1) := by decide +kernel
theorem dX4_lays_100 : decode cX4_lays 100 = .ok (.ireturn, 1) := by decide +kernel
theorem dX4_book_0 : decode cX4_book 0 = .ok (.aload_n 0, 1) := by decide +kernel
theorem dX4_book_1 : decode cX4_book 1 = .ok (.iload_n 1, 1) := by decide +kernel
theorem dX4_book_2 : decode cX4_book 2 = .ok (.invokevirtual 184, 3) := by decide +kernel
theorem dX4_book_5 : decode cX4_book 5 = .ok (.astore_n 3, 1) := by decide +kernel
theorem dX4_book_6 : decode cX4_book 6 = .ok (.aload_n 3, 1) := by decide +kernel
theorem dX4_book_7 : decode cX4_book 7 = .ok (.ifnonnull 10, 3) := by decide +kernel
theorem dX4_book_10 : decode cX4_book 10 = .ok (.aload_n 0, 1) := by decide +kernel
theorem dX4_book_11 : decode cX4_book 11 = .ok (.ldc 48, 2) := by decide +kernel
theorem dX4_book_13 : decode cX4_book 13 = .ok (.invokevirtual 49, 3) := by decide +kernel
theorem dX4_book_16 : decode cX4_book 16 = .ok (.ireturn, 1) := by decide +kernel
theorem dX4_book_17 : decode cX4_book 17 = .ok (.aload_n 3, 1) := by decide +kernel
theorem dX4_book_18 : decode cX4_book 18 = .ok (.invokevirtual 193, 3) := by decide +kernel
theorem dX4_book_21 : decode cX4_book 21 = .ok (.ifCond .eq 10, 3) := by decide +kernel
theorem dX4_book_24 : decode cX4_book 24 = .ok (.aload_n 0, 1) := by decide +kernel
theorem dX4_book_25 : decode cX4_book 25 = .ok (.ldc 197, 2) := by decide +kernel
theorem dX4_book_27 : decode cX4_book 27 = .ok (.invokevirtual 49, 3) := by decide +kernel
theorem dX4_book_30 : decode cX4_book 30 = .ok (.ireturn, 1) := by decide +kernel
theorem dX4_book_31 : decode cX4_book 31 = .ok (.aload_n 0, 1) := by decide +kernel
theorem dX4_book_32 : decode cX4_book 32 = .ok (.iload_n 2, 1) := by decide +kernel
theorem dX4_book_33 : decode cX4_book 33 = .ok (.invokevirtual 94, 3) := by decide +kernel
theorem dX4_book_36 : decode cX4_book 36 = .ok (.ifCond .ne 10, 3) := by decide +kernel
theorem dX4_book_39 : decode cX4_book 39 = .ok (.aload_n 0, 1) := by decide +kernel
theorem dX4_book_40 : decode cX4_book 40 = .ok (.ldc 48, 2) := by decide +kernel
theorem dX4_book_42 : decode cX4_book 42 = .ok (.invokevirtual 49, 3) := by decide +kernel
theorem dX4_book_45 : decode cX4_book 45 = .ok (.ireturn, 1) := by decide +kernel
theorem dX4_book_46 : decode cX4_book 46 = .ok (.aload_n 0, 1) := by decide +kernel
theorem dX4_book_47 : decode cX4_book 47 = .ok (.invokevirtual 150, 3) := by decide +kernel
theorem dX4_book_50 : decode cX4_book 50 = .ok (.iconst 0, 1) := by decide +kernel
theorem dX4_book_51 : decode cX4_book 51 = .ok (.istore 4, 2) := by decide +kernel
theorem dX4_book_53 : decode cX4_book 53 = .ok (.iload 4, 2) := by decide +kernel
theorem dX4_book_55 : decode cX4_book 55 = .ok (.aload_n 3, 1) := by decide +kernel
theorem dX4_book_56 : decode cX4_book 56 = .ok (.getfield 192, 3) := by decide +kernel
theorem dX4_book_59 : decode cX4_book 59 = .ok (.if_icmp .ge 31, 3) := by decide +kernel
theorem dX4_book_62 : decode cX4_book 62 = .ok (.aload_n 3, 1) := by decide +kernel
theorem dX4_book_63 : decode cX4_book 63 = .ok (.iload 4, 2) := by decide +kernel
theorem dX4_book_65 : decode cX4_book 65 = .ok (.aload_n 0, 1) := by decide +kernel
theorem dX4_book_66 : decode cX4_book 66 = .ok (.getfield 16, 3) := by decide +kernel
theorem dX4_book_69 : decode cX4_book 69 = .ok (.iload_n 2, 1) := by decide +kernel
theorem dX4_book_70 : decode cX4_book 70 = .ok (.invokevirtual 128, 3) := by decide +kernel
theorem dX4_book_73 : decode cX4_book 73 = .ok (.i2l, 1) := by decide +kernel
theorem dX4_book_74 : decode cX4_book 74 = .ok (.invokevirtual 202, 3) := by decide +kernel
theorem dX4_book_77 : decode cX4_book 77 = .ok (.aload_n 0, 1) := by decide +kernel
theorem dX4_book_78 : decode cX4_book 78 = .ok (.getfield 16, 3) := by decide +kernel
theorem dX4_book_81 : decode cX4_book 81 = .ok (.invokevirtual 153, 3) := by decide +kernel
theorem dX4_book_84 : decode cX4_book 84 = .ok (.iinc 4 1, 3) := by decide +kernel
theorem dX4_book_87 : decode cX4_book 87 = .ok (.goto (-34), 3) := by decide +kernel
theorem dX4_book_90 : decode cX4_book 90 = .ok (.aload_n 3, 1) := by decide +kernel
theorem dX4_book_91 : decode cX4_book 91 = .ok (.getfield 192, 3) := by decide +kernel
theorem dX4_book_94 : decode cX4_book 94 = .ok (.ireturn, 1) := by decide +kernel
theorem dX4_read_0 : decode cX4_read 0 = .ok (.aload_n 0, 1) := by decide +kernel
theorem dX4_read_1 : decode cX4_read 1 = .ok (.iload_n 1, 1) := by decide +kernel
theorem dX4_read_2 : decode cX4_read 2 = .ok (.invokevirtual 184, 3) := by decide +kernel
theorem dX4_read_5 : decode cX4_read 5 = .ok (.astore 4, 2) := by decide +kernel
theorem dX4_read_7 : decode cX4_read 7 = .ok (.aload 4, 2) := by decide +kernel
theorem dX4_read_9 : decode cX4_read 9 = .ok (.ifnonnull 10, 3) := by decide +kernel
theorem dX4_read_12 : decode cX4_read 12 = .ok (.aload_n 0, 1) := by decide +kernel
theorem dX4_read_13 : decode cX4_read 13 = .ok (.ldc 48, 2) := by decide +kernel
theorem dX4_read_15 : decode cX4_read 15 = .ok (.invokevirtual 49, 3) := by decide +kernel
theorem dX4_read_18 : decode cX4_read 18 = .ok (.ireturn, 1) := by decide +kernel
theorem dX4_read_19 : decode cX4_read 19 = .ok (.aload 4, 2) := by decide +kernel
theorem dX4_read_21 : decode cX4_read 21 = .ok (.invokevirtual 193, 3) := by decide +kernel
theorem dX4_read_24 : decode cX4_read 24 = .ok (.ifCond .eq 10, 3) := by decide +kernel
theorem dX4_read_27 : decode cX4_read 27 = .ok (.aload_n 0, 1) := by decide +kernel
theorem dX4_read_28 : decode cX4_read 28 = .ok (.ldc 197, 2) := by decide +kernel
theorem dX4_read_30 : decode cX4_read 30 = .ok (.invokevirtual 49, 3) := by decide +kernel
theorem dX4_read_33 : decode cX4_read 33 = .ok (.ireturn, 1) := by decide +kernel
theorem dX4_read_34 : decode cX4_read 34 = .ok (.aload_n 0, 1) := by decide +kernel
theorem dX4_read_35 : decode cX4_read 35 = .ok (.iload_n 2, 1) := by decide +kernel
theorem dX4_read_36 : decode cX4_read 36 = .ok (.invokevirtual 94, 3) := by decide +kernel
theorem dX4_read_39 : decode cX4_read 39 = .ok (.ifCond .eq 16, 3) := by decide +kernel
theorem dX4_read_42 : decode cX4_read 42 = .ok (.aload_n 0, 1) := by decide +kernel
theorem dX4_read_43 : decode cX4_read 43 = .ok (.iload_n 3, 1) := by decide +kernel
theorem dX4_read_44 : decode cX4_read 44 = .ok (.invokevirtual 94, 3) := by decide +kernel
theorem dX4_read_47 : decode cX4_read 47 = .ok (.ifCond .eq 8, 3) := by decide +kernel
theorem dX4_read_50 : decode cX4_read 50 = .ok (.iload_n 2, 1) := by decide +kernel
theorem dX4_read_51 : decode cX4_read 51 = .ok (.iload_n 3, 1) := by decide +kernel
theorem dX4_read_52 : decode cX4_read 52 = .ok (.if_icmp .ne 10, 3) := by decide +kernel
theorem dX4_read_55 : decode cX4_read 55 = .ok (.aload_n 0, 1) := by decide +kernel
theorem dX4_read_56 : decode cX4_read 56 = .ok (.ldc 48, 2) := by decide +kernel
theorem dX4_read_58 : decode cX4_read 58 = .ok (.invokevirtual 49, 3) := by decide +kernel
theorem dX4_read_61 : decode cX4_read 61 = .ok (.ireturn, 1) := by decide +kernel
theorem dX4_read_62 : decode cX4_read 62 = .ok (.iconst 0, 1) := by decide +kernel
theorem dX4_read_63 : decode cX4_read 63 = .ok (.istore 5, 2) := by decide +kernel
theorem dX4_read_65 : decode cX4_read 65 = .ok (.iconst 0, 1) := by decide +kernel
theorem dX4_read_66 : decode cX4_read 66 = .ok (.istore 6, 2) := by decide +kernel
theorem dX4_read_68 : decode cX4_read 68 = .ok (.iload 6, 2) := by decide +kernel
theorem dX4_read_70 : decode cX4_read 70 = .ok (.bipush 6, 2) := by decide +kernel
theorem dX4_read_72 : decode cX4_read 72 = .ok (.if_icmp .ge 64, 3) := by decide +kernel
theorem dX4_read_75 : decode cX4_read 75 = .ok (.iconst 0, 1) := by decide +kernel
theorem dX4_read_76 : decode cX4_read 76 = .ok (.istore 7, 2) := by decide +kernel
theorem dX4_read_78 : decode cX4_read 78 = .ok (.iload 7, 2) := by decide +kernel
theorem dX4_read_80 : decode cX4_read 80 = .ok (.bipush 6, 2) := by decide +kernel
theorem dX4_read_82 : decode cX4_read 82 = .ok (.if_icmp .ge 48, 3) := by decide +kernel
theorem dX4_read_85 : decode cX4_read 85 = .ok (.aload_n 0, 1) := by decide +kernel
theorem dX4_read_86 : decode cX4_read 86 = .ok (.invokevirtual 150, 3) := by decide +kernel
theorem dX4_read_89 : decode cX4_read 89 = .ok (.aload_n 0, 1) := by decide +kernel
theorem dX4_read_90 : decode cX4_read 90 = .ok (.getfield 16, 3) := by decide +kernel
theorem dX4_read_93 : decode cX4_read 93 = .ok (.getfield 97, 3) := by decide +kernel
theorem dX4_read_96 : decode cX4_read 96 = .ok (.iload_n 2, 1) := by decide +kernel
theorem dX4_read_97 : decode cX4_read 97 = .ok (.iload 6, 2) := by decide +kernel
theorem dX4_read_99 : decode cX4_read 99 = .ok (.iastore, 1) := by decide +kernel
theorem dX4_read_100 : decode cX4_read 100 = .ok (.aload_n 0, 1) := by decide +kernel
theorem dX4_read_101 : decode cX4_read 101 = .ok (.getfield 16, 3) := by decide +kernel
theorem dX4_read_104 : decode cX4_read 104 = .ok (.getfield 97, 3) := by decide +kernel
theorem dX4_read_107 : decode cX4_read 107 = .ok (.iload_n 3, 1) := by decide +kernel
theorem dX4_read_108 : decode cX4_read 108 = .ok (.iload 7, 2) := by decide +kernel
theorem dX4_read_110 : decode cX4_read 110 = .ok (.iastore, 1) := by decide +kernel
theorem dX4_read_111 : decode cX4_read 111 = .ok (.aload_n 0, 1) := by decide +kernel
theorem dX4_read_112 : decode cX4_read 112 = .ok (.aload 4, 2) := by decide +kernel
theorem dX4_read_114 : decode cX4_read 114 = .ok (.iload_n 2, 1) := by decide +kernel
theorem dX4_read_115 : decode cX4_read 115 = .ok (.invokevirtual 220, 3) := by decide +kernel
theorem dX4_read_118 : decode cX4_read 118 = .ok (.ifCond .eq 6, 3) := by decide +kernel
theorem dX4_read_121 : decode cX4_read 121 = .ok (.iinc 5 1, 3) := by decide +kernel
theorem dX4_read_124 : decode cX4_read 124 = .ok (.iinc 7 1, 3) := by decide +kernel
theorem dX4_read_127 : decode cX4_read 127 = .ok (.goto (-49), 3) := by decide +kernel
theorem dX4_read_130 : decode cX4_read 130 = .ok (.iinc 6 1, 3) := by decide +kernel
theorem dX4_read_133 : decode cX4_read 133 = .ok (.goto (-65), 3) := by decide +kernel
theorem dX4_read_136 : decode cX4_read 136 = .ok (.iload 5, 2) := by decide +kernel
theorem dX4_read_138 : decode cX4_read 138 = .ok (.ireturn, 1) := by decide +kernel
theorem dX4_image_0 : decode cX4_image 0 = .ok (.aload_n 0, 1) := by decide +kernel
theorem dX4_image_1 : decode cX4_image 1 = .ok (.getfield 19, 3) := by decide +kernel
theorem dX4_image_4 : decode cX4_image 4 = .ok (.aload_n 0, 1) := by decide +kernel
theorem dX4_image_5 : decode cX4_image 5 = .ok (.getfield 10, 3) := by decide +kernel
theorem dX4_image_8 : decode cX4_image 8 = .ok (.invokevirtual 180, 3) := by decide +kernel
theorem dX4_image_11 : decode cX4_image 11 = .ok (.aload_n 0, 1) := by decide +kernel
theorem dX4_image_12 : decode cX4_image 12 = .ok (.iconst 1, 1) := by decide +kernel
theorem dX4_image_13 : decode cX4_image 13 = .ok (.putfield 39, 3) := by decide +kernel
theorem dX4_image_16 : decode cX4_image 16 = .ok (.iconst 1, 1) := by decide +kernel
theorem dX4_image_17 : decode cX4_image 17 = .ok (.ireturn, 1) := by decide +kernel
theorem dX4_undo_0 : decode cX4_undo 0 = .ok (.aload_n 0, 1) := by decide +kernel
theorem dX4_undo_1 : decode cX4_undo 1 = .ok (.getfield 39, 3) := by decide +kernel
theorem dX4_undo_4 : decode cX4_undo 4 = .ok (.ifCond .ne 10, 3) := by decide +kernel
theorem dX4_undo_7 : decode cX4_undo 7 = .ok (.aload_n 0, 1) := by decide +kernel
theorem dX4_undo_8 : decode cX4_undo 8 = .ok (.ldc 156, 2) := by decide +kernel
theorem dX4_undo_10 : decode cX4_undo 10 = .ok (.invokevirtual 49, 3) := by decide +kernel
theorem dX4_undo_13 : decode cX4_undo 13 = .ok (.ireturn, 1) := by decide +kernel
theorem dX4_undo_14 : decode cX4_undo 14 = .ok (.aload_n 0, 1) := by decide +kernel
theorem dX4_undo_15 : decode cX4_undo 15 = .ok (.getfield 10, 3) := by decide +kernel
theorem dX4_undo_18 : decode cX4_undo 18 = .ok (.aload_n 0, 1) := by decide +kernel
theorem dX4_undo_19 : decode cX4_undo 19 = .ok (.getfield 19, 3) := by decide +kernel
theorem dX4_undo_22 : decode cX4_undo 22 = .ok (.invokevirtual 180, 3) := by decide +kernel
theorem dX4_undo_25 : decode cX4_undo 25 = .ok (.aload_n 0, 1) := by decide +kernel
theorem dX4_undo_26 : decode cX4_undo 26 = .ok (.getfield 10, 3) := by decide +kernel
theorem dX4_undo_29 : decode cX4_undo 29 = .ok (.getfield 86, 3) := by decide +kernel
theorem dX4_undo_32 : decode cX4_undo 32 = .ok (.ireturn, 1) := by decide +kernel
theorem dX4_tear_0 : decode cX4_tear 0 = .ok (.aload_n 0, 1) := by decide +kernel
theorem dX4_tear_1 : decode cX4_tear 1 = .ok (.getfield 39, 3) := by decide +kernel
theorem dX4_tear_4 : decode cX4_tear 4 = .ok (.ifCond .eq 7, 3) := by decide +kernel
theorem dX4_tear_7 : decode cX4_tear 7 = .ok (.iconst 1, 1) := by decide +kernel
theorem dX4_tear_8 : decode cX4_tear 8 = .ok (.goto 4, 3) := by decide +kernel
theorem dX4_tear_11 : decode cX4_tear 11 = .ok (.iconst 0, 1) := by decide +kernel
theorem dX4_tear_12 : decode cX4_tear 12 = .ok (.istore_n 1, 1) := by decide +kernel
theorem dX4_tear_13 : decode cX4_tear 13 = .ok (.aload_n 0, 1) := by decide +kernel
theorem dX4_tear_14 : decode cX4_tear 14 = .ok (.iconst 0, 1) := by decide +kernel
theorem dX4_tear_15 : decode cX4_tear 15 = .ok (.putfield 39, 3) := by decide +kernel
theorem dX4_tear_18 : decode cX4_tear 18 = .ok (.iload_n 1, 1) := by decide +kernel
theorem dX4_tear_19 : decode cX4_tear 19 = .ok (.ireturn, 1) := by decide +kernel
theorem dX4_count_0 : decode cX4_count 0 = .ok (.iload_n 1, 1) := by decide +kernel
theorem dX4_count_1 : decode cX4_count 1 = .ok (.tableswitch 66 0 3 #[31, 39, 47, 58], 31) := by decide +kernel
theorem dX4_count_32 : decode cX4_count 32 = .ok (.aload_n 0, 1) := by decide +kernel
theorem dX4_count_33 : decode cX4_count 33 = .ok (.getfield 10, 3) := by decide +kernel
theorem dX4_count_36 : decode cX4_count 36 = .ok (.getfield 86, 3) := by decide +kernel
theorem dX4_count_39 : decode cX4_count 39 = .ok (.ireturn, 1) := by decide +kernel
theorem dX4_count_40 : decode cX4_count 40 = .ok (.aload_n 0, 1) := by decide +kernel
theorem dX4_count_41 : decode cX4_count 41 = .ok (.getfield 25, 3) := by decide +kernel
theorem dX4_count_44 : decode cX4_count 44 = .ok (.getfield 170, 3) := by decide +kernel
theorem dX4_count_47 : decode cX4_count 47 = .ok (.ireturn, 1) := by decide +kernel
theorem dX4_count_48 : decode cX4_count 48 = .ok (.aload_n 0, 1) := by decide +kernel
theorem dX4_count_49 : decode cX4_count 49 = .ok (.getfield 10, 3) := by decide +kernel
theorem dX4_count_52 : decode cX4_count 52 = .ok (.invokevirtual 70, 3) := by decide +kernel
theorem dX4_count_55 : decode cX4_count 55 = .ok (.invokestatic 224, 3) := by decide +kernel
theorem dX4_count_58 : decode cX4_count 58 = .ok (.ireturn, 1) := by decide +kernel
theorem dX4_count_59 : decode cX4_count 59 = .ok (.aload_n 0, 1) := by decide +kernel
theorem dX4_count_60 : decode cX4_count 60 = .ok (.getfield 10, 3) := by decide +kernel
theorem dX4_count_63 : decode cX4_count 63 = .ok (.invokevirtual 229, 3) := by decide +kernel
theorem dX4_count_66 : decode cX4_count 66 = .ok (.ireturn, 1) := by decide +kernel
theorem dX4_count_67 : decode cX4_count 67 = .ok (.aload_n 0, 1) := by decide +kernel
theorem dX4_count_68 : decode cX4_count 68 = .ok (.ldc 48, 2) := by decide +kernel
theorem dX4_count_70 : decode cX4_count 70 = .ok (.invokevirtual 49, 3) := by decide +kernel
theorem dX4_count_73 : decode cX4_count 73 = .ok (.ireturn, 1) := by decide +kernel
theorem dX4_status_0 : decode cX4_status 0 = .ok (.iload_n 1, 1) := by decide +kernel
theorem dX4_status_1 : decode cX4_status 1 = .ok (.iconst (-1), 1) := by decide +kernel
theorem dX4_status_2 : decode cX4_status 2 = .ok (.bipush 6, 2) := by decide +kernel
theorem dX4_status_4 : decode cX4_status 4 = .ok (.invokestatic 44, 3) := by decide +kernel
theorem dX4_status_7 : decode cX4_status 7 = .ok (.ifCond .ne 10, 3) := by decide +kernel
theorem dX4_status_10 : decode cX4_status 10 = .ok (.aload_n 0, 1) := by decide +kernel
theorem dX4_status_11 : decode cX4_status 11 = .ok (.ldc 48, 2) := by decide +kernel
theorem dX4_status_13 : decode cX4_status 13 = .ok (.invokevirtual 49, 3) := by decide +kernel
theorem dX4_status_16 : decode cX4_status 16 = .ok (.ireturn, 1) := by decide +kernel
theorem dX4_status_17 : decode cX4_status 17 = .ok (.iload_n 1, 1) := by decide +kernel
theorem dX4_status_18 : decode cX4_status 18 = .ok (.ifCond .lt 10, 3) := by decide +kernel
theorem dX4_status_21 : decode cX4_status 21 = .ok (.aload_n 0, 1) := by decide +kernel
theorem dX4_status_22 : decode cX4_status 22 = .ok (.getfield 35, 3) := by decide +kernel
theorem dX4_status_25 : decode cX4_status 25 = .ok (.iload_n 1, 1) := by decide +kernel
theorem dX4_status_26 : decode cX4_status 26 = .ok (.iaload, 1) := by decide +kernel
theorem dX4_status_27 : decode cX4_status 27 = .ok (.ireturn, 1) := by decide +kernel
theorem dX4_status_28 : decode cX4_status 28 = .ok (.iconst 0, 1) := by decide +kernel
theorem dX4_status_29 : decode cX4_status 29 = .ok (.istore_n 2, 1) := by decide +kernel
theorem dX4_status_30 : decode cX4_status 30 = .ok (.iconst 0, 1) := by decide +kernel
theorem dX4_status_31 : decode cX4_status 31 = .ok (.istore_n 3, 1) := by decide +kernel
theorem dX4_status_32 : decode cX4_status 32 = .ok (.iload_n 3, 1) := by decide +kernel
theorem dX4_status_33 : decode cX4_status 33 = .ok (.bipush 7, 2) := by decide +kernel
theorem dX4_status_35 : decode cX4_status 35 = .ok (.if_icmp .ge 18, 3) := by decide +kernel
theorem dX4_status_38 : decode cX4_status 38 = .ok (.iload_n 2, 1) := by decide +kernel
theorem dX4_status_39 : decode cX4_status 39 = .ok (.aload_n 0, 1) := by decide +kernel
theorem dX4_status_40 : decode cX4_status 40 = .ok (.getfield 35, 3) := by decide +kernel
theorem dX4_status_43 : decode cX4_status 43 = .ok (.iload_n 3, 1) := by decide +kernel
theorem dX4_status_44 : decode cX4_status 44 = .ok (.iaload, 1) := by decide +kernel
theorem dX4_status_45 : decode cX4_status 45 = .ok (.iadd, 1) := by decide +kernel
theorem dX4_status_46 : decode cX4_status 46 = .ok (.istore_n 2, 1) := by decide +kernel
theorem dX4_status_47 : decode cX4_status 47 = .ok (.iinc 3 1, 3) := by decide +kernel
theorem dX4_status_50 : decode cX4_status 50 = .ok (.goto (-18), 3) := by decide +kernel
theorem dX4_status_53 : decode cX4_status 53 = .ok (.iload_n 2, 1) := by decide +kernel
theorem dX4_status_54 : decode cX4_status 54 = .ok (.ireturn, 1) := by decide +kernel
theorem dX4_finding_0 : decode cX4_finding 0 = .ok (.ldc 48, 2) := by decide +kernel
theorem dX4_finding_2 : decode cX4_finding 2 = .ok (.iload_n 1, 1) := by decide +kernel
theorem dX4_finding_3 : decode cX4_finding 3 = .ok (.isub, 1) := by decide +kernel
theorem dX4_finding_4 : decode cX4_finding 4 = .ok (.istore_n 2, 1) := by decide +kernel
theorem dX4_finding_5 : decode cX4_finding 5 = .ok (.iload_n 2, 1) := by decide +kernel
theorem dX4_finding_6 : decode cX4_finding 6 = .ok (.iconst 0, 1) := by decide +kernel
theorem dX4_finding_7 : decode cX4_finding 7 = .ok (.bipush 6, 2) := by decide +kernel
theorem dX4_finding_9 : decode cX4_finding 9 = .ok (.invokestatic 44, 3) := by decide +kernel
theorem dX4_finding_12 : decode cX4_finding 12 = .ok (.ifCond .eq 13, 3) := by decide +kernel
theorem dX4_finding_15 : decode cX4_finding 15 = .ok (.aload_n 0, 1) := by decide +kernel
theorem dX4_finding_16 : decode cX4_finding 16 = .ok (.getfield 35, 3) := by decide +kernel
theorem dX4_finding_19 : decode cX4_finding 19 = .ok (.iload_n 2, 1) := by decide +kernel
theorem dX4_finding_20 : decode cX4_finding 20 = .ok (.dup2, 1) := by decide +kernel
theorem dX4_finding_21 : decode cX4_finding 21 = .ok (.iaload, 1) := by decide +kernel
theorem dX4_finding_22 : decode cX4_finding 22 = .ok (.iconst 1, 1) := by decide +kernel
theorem dX4_finding_23 : decode cX4_finding 23 = .ok (.iadd, 1) := by decide +kernel
theorem dX4_finding_24 : decode cX4_finding 24 = .ok (.iastore, 1) := by decide +kernel
theorem dX4_finding_25 : decode cX4_finding 25 = .ok (.iload_n 1, 1) := by decide +kernel
theorem dX4_finding_26 : decode cX4_finding 26 = .ok (.ireturn, 1) := by decide +kernel
theorem dX4_within_0 : decode cX4_within 0 = .ok (.iload_n 0, 1) := by decide +kernel
theorem dX4_within_1 : decode cX4_within 1 = .ok (.iload_n 1, 1) := by decide +kernel
theorem dX4_within_2 : decode cX4_within 2 = .ok (.if_icmp .lt 12, 3) := by decide +kernel
theorem dX4_within_5 : decode cX4_within 5 = .ok (.iload_n 0, 1) := by decide +kernel
theorem dX4_within_6 : decode cX4_within 6 = .ok (.iload_n 2, 1) := by decide +kernel
theorem dX4_within_7 : decode cX4_within 7 = .ok (.if_icmp .gt 7, 3) := by decide +kernel
theorem dX4_within_10 : decode cX4_within 10 = .ok (.iconst 1, 1) := by decide +kernel
theorem dX4_within_11 : decode cX4_within 11 = .ok (.goto 4, 3) := by decide +kernel
theorem dX4_within_14 : decode cX4_within 14 = .ok (.iconst 0, 1) := by decide +kernel
theorem dX4_within_15 : decode cX4_within 15 = .ok (.ireturn, 1) := by decide +kernel
theorem dX4_isKind_0 : decode cX4_isKind 0 = .ok (.iload_n 0, 1) := by decide +kernel
theorem dX4_isKind_1 : decode cX4_isKind 1 = .ok (.iconst 0, 1) := by decide +kernel
theorem dX4_isKind_2 : decode cX4_isKind 2 = .ok (.iconst 5, 1) := by decide +kernel
theorem dX4_isKind_3 : decode cX4_isKind 3 = .ok (.invokestatic 44, 3) := by decide +kernel
theorem dX4_isKind_6 : decode cX4_isKind 6 = .ok (.ireturn, 1) := by decide +kernel
theorem dX4_isPerson_0 : decode cX4_isPerson 0 = .ok (.iload_n 1, 1) := by decide +kernel
theorem dX4_isPerson_1 : decode cX4_isPerson 1 = .ok (.iconst 0, 1) := by decide +kernel
theorem dX4_isPerson_2 : decode cX4_isPerson 2 = .ok (.aload_n 0, 1) := by decide +kernel
theorem dX4_isPerson_3 : decode cX4_isPerson 3 = .ok (.getfield 10, 3) := by decide +kernel
theorem dX4_isPerson_6 : decode cX4_isPerson 6 = .ok (.getfield 86, 3) := by decide +kernel
theorem dX4_isPerson_9 : decode cX4_isPerson 9 = .ok (.iconst 1, 1) := by decide +kernel
theorem dX4_isPerson_10 : decode cX4_isPerson 10 = .ok (.isub, 1) := by decide +kernel
theorem dX4_isPerson_11 : decode cX4_isPerson 11 = .ok (.invokestatic 44, 3) := by decide +kernel
theorem dX4_isPerson_14 : decode cX4_isPerson 14 = .ok (.ireturn, 1) := by decide +kernel
theorem dX4_sheetAt_0 : decode cX4_sheetAt 0 = .ok (.iload_n 1, 1) := by decide +kernel
theorem dX4_sheetAt_1 : decode cX4_sheetAt 1 = .ok (.iconst 0, 1) := by decide +kernel
theorem dX4_sheetAt_2 : decode cX4_sheetAt 2 = .ok (.iconst 3, 1) := by decide +kernel
theorem dX4_sheetAt_3 : decode cX4_sheetAt 3 = .ok (.invokestatic 44, 3) := by decide +kernel
theorem dX4_sheetAt_6 : decode cX4_sheetAt 6 = .ok (.ifCond .eq 12, 3) := by decide +kernel
theorem dX4_sheetAt_9 : decode cX4_sheetAt 9 = .ok (.aload_n 0, 1) := by decide +kernel
theorem dX4_sheetAt_10 : decode cX4_sheetAt 10 = .ok (.getfield 31, 3) := by decide +kernel
theorem dX4_sheetAt_13 : decode cX4_sheetAt 13 = .ok (.iload_n 1, 1) := by decide +kernel
theorem dX4_sheetAt_14 : decode cX4_sheetAt 14 = .ok (.aaload, 1) := by decide +kernel
theorem dX4_sheetAt_15 : decode cX4_sheetAt 15 = .ok (.goto 4, 3) := by decide +kernel
theorem dX4_sheetAt_18 : decode cX4_sheetAt 18 = .ok (.aconst_null, 1) := by decide +kernel
theorem dX4_sheetAt_19 : decode cX4_sheetAt 19 = .ok (.areturn, 1) := by decide +kernel
theorem dX4_startTrial_0 : decode cX4_startTrial 0 = .ok (.aload_n 0, 1) := by decide +kernel
theorem dX4_startTrial_1 : decode cX4_startTrial 1 = .ok (.getfield 16, 3) := by decide +kernel
theorem dX4_startTrial_4 : decode cX4_startTrial 4 = .ok (.aload_n 0, 1) := by decide +kernel
theorem dX4_startTrial_5 : decode cX4_startTrial 5 = .ok (.getfield 10, 3) := by decide +kernel
theorem dX4_startTrial_8 : decode cX4_startTrial 8 = .ok (.invokevirtual 180, 3) := by decide +kernel
theorem dX4_startTrial_11 : decode cX4_startTrial 11 = .ok (.return_, 1) := by decide +kernel
theorem dX4_brownWith_0 : decode cX4_brownWith 0 = .ok (.aload_n 0, 1) := by decide +kernel
theorem dX4_brownWith_1 : decode cX4_brownWith 1 = .ok (.invokevirtual 150, 3) := by decide +kernel
theorem dX4_brownWith_4 : decode cX4_brownWith 4 = .ok (.aload_n 0, 1) := by decide +kernel
theorem dX4_brownWith_5 : decode cX4_brownWith 5 = .ok (.getfield 16, 3) := by decide +kernel
theorem dX4_brownWith_8 : decode cX4_brownWith 8 = .ok (.getfield 103, 3) := by decide +kernel
theorem dX4_brownWith_11 : decode cX4_brownWith 11 = .ok (.iload_n 1, 1) := by decide +kernel
theorem dX4_brownWith_12 : decode cX4_brownWith 12 = .ok (.iload_n 2, 1) := by decide +kernel
theorem dX4_brownWith_13 : decode cX4_brownWith 13 = .ok (.iastore, 1) := by decide +kernel
theorem dX4_brownWith_14 : decode cX4_brownWith 14 = .ok (.aload_n 0, 1) := by decide +kernel
theorem dX4_brownWith_15 : decode cX4_brownWith 15 = .ok (.getfield 16, 3) := by decide +kernel
theorem dX4_brownWith_18 : decode cX4_brownWith 18 = .ok (.iload 4, 2) := by decide +kernel
theorem dX4_brownWith_20 : decode cX4_brownWith 20 = .ok (.invokevirtual 146, 3) := by decide +kernel
theorem dX4_brownWith_23 : decode cX4_brownWith 23 = .ok (.aload_n 0, 1) := by decide +kernel
theorem dX4_brownWith_24 : decode cX4_brownWith 24 = .ok (.getfield 16, 3) := by decide +kernel
theorem dX4_brownWith_27 : decode cX4_brownWith 27 = .ok (.iload_n 3, 1) := by decide +kernel
theorem dX4_brownWith_28 : decode cX4_brownWith 28 = .ok (.invokevirtual 128, 3) := by decide +kernel
theorem dX4_brownWith_31 : decode cX4_brownWith 31 = .ok (.ireturn, 1) := by decide +kernel
theorem dX4_trialGoesAs_0 : decode cX4_trialGoesAs 0 = .ok (.iconst 0, 1) := by decide +kernel
theorem dX4_trialGoesAs_1 : decode cX4_trialGoesAs 1 = .ok (.istore_n 3, 1) := by decide +kernel
theorem dX4_trialGoesAs_2 : decode cX4_trialGoesAs 2 = .ok (.iload_n 3, 1) := by decide +kernel
theorem dX4_trialGoesAs_3 : decode cX4_trialGoesAs 3 = .ok (.aload_n 1, 1) := by decide +kernel
theorem dX4_trialGoesAs_4 : decode cX4_trialGoesAs 4 = .ok (.getfield 192, 3) := by decide +kernel
theorem dX4_trialGoesAs_7 : decode cX4_trialGoesAs 7 = .ok (.if_icmp .ge 37, 3) := by decide +kernel
theorem dX4_trialGoesAs_10 : decode cX4_trialGoesAs 10 = .ok (.aload_n 1, 1) := by decide +kernel
theorem dX4_trialGoesAs_11 : decode cX4_trialGoesAs 11 = .ok (.getfield 198, 3) := by decide +kernel
theorem dX4_trialGoesAs_14 : decode cX4_trialGoesAs 14 = .ok (.iload_n 3, 1) := by decide +kernel
theorem dX4_trialGoesAs_15 : decode cX4_trialGoesAs 15 = .ok (.laload, 1) := by decide +kernel
theorem dX4_trialGoesAs_16 : decode cX4_trialGoesAs 16 = .ok (.aload_n 0, 1) := by decide +kernel
theorem dX4_trialGoesAs_17 : decode cX4_trialGoesAs 17 = .ok (.getfield 16, 3) := by decide +kernel
theorem dX4_trialGoesAs_20 : decode cX4_trialGoesAs 20 = .ok (.iload_n 2, 1) := by decide +kernel
theorem dX4_trialGoesAs_21 : decode cX4_trialGoesAs 21 = .ok (.invokevirtual 128, 3) := by decide +kernel
theorem dX4_trialGoesAs_24 : decode cX4_trialGoesAs 24 = .ok (.i2l, 1) := by decide +kernel
theorem dX4_trialGoesAs_25 : decode cX4_trialGoesAs 25 = .ok (.lcmp, 1) := by decide +kernel
theorem dX4_trialGoesAs_26 : decode cX4_trialGoesAs 26 = .ok (.ifCond .eq 5, 3) := by decide +kernel
theorem dX4_trialGoesAs_29 : decode cX4_trialGoesAs 29 = .ok (.iconst 0, 1) := by decide +kernel
theorem dX4_trialGoesAs_30 : decode cX4_trialGoesAs 30 = .ok (.ireturn, 1) := by decide +kernel
theorem dX4_trialGoesAs_31 : decode cX4_trialGoesAs 31 = .ok (.aload_n 0, 1) := by decide +kernel
theorem dX4_trialGoesAs_32 : decode cX4_trialGoesAs 32 = .ok (.getfield 16, 3) := by decide +kernel
theorem dX4_trialGoesAs_35 : decode cX4_trialGoesAs 35 = .ok (.invokevirtual 153, 3) := by decide +kernel
theorem dX4_trialGoesAs_38 : decode cX4_trialGoesAs 38 = .ok (.iinc 3 1, 3) := by decide +kernel
theorem dX4_trialGoesAs_41 : decode cX4_trialGoesAs 41 = .ok (.goto (-39), 3) := by decide +kernel
theorem dX4_trialGoesAs_44 : decode cX4_trialGoesAs 44 = .ok (.iconst 1, 1) := by decide +kernel
theorem dX4_trialGoesAs_45 : decode cX4_trialGoesAs 45 = .ok (.ireturn, 1) := by decide +kernel
