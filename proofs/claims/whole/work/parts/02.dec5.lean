theorem dX5_init_0 : decode cX5_init 0 = .ok (.aload_n 0, 1) := by decide +kernel
theorem dX5_init_1 : decode cX5_init 1 = .ok (.invokespecial 3, 3) := by decide +kernel
theorem dX5_init_4 : decode cX5_init 4 = .ok (.aload_n 0, 1) := by decide +kernel
theorem dX5_init_5 : decode cX5_init 5 = .ok (.bipush 52, 2) := by decide +kernel
theorem dX5_init_7 : decode cX5_init 7 = .ok (.newarray .int, 2) := by decide +kernel
theorem dX5_init_9 : decode cX5_init 9 = .ok (.putfield 9, 3) := by decide +kernel
theorem dX5_init_12 : decode cX5_init 12 = .ok (.aload_n 0, 1) := by decide +kernel
theorem dX5_init_13 : decode cX5_init 13 = .ok (.bipush 52, 2) := by decide +kernel
theorem dX5_init_15 : decode cX5_init 15 = .ok (.newarray .int, 2) := by decide +kernel
theorem dX5_init_17 : decode cX5_init 17 = .ok (.putfield 13, 3) := by decide +kernel
theorem dX5_init_20 : decode cX5_init 20 = .ok (.aload_n 0, 1) := by decide +kernel
theorem dX5_init_21 : decode cX5_init 21 = .ok (.bipush 52, 2) := by decide +kernel
theorem dX5_init_23 : decode cX5_init 23 = .ok (.newarray .int, 2) := by decide +kernel
theorem dX5_init_25 : decode cX5_init 25 = .ok (.putfield 16, 3) := by decide +kernel
theorem dX5_init_28 : decode cX5_init 28 = .ok (.aload_n 0, 1) := by decide +kernel
theorem dX5_init_29 : decode cX5_init 29 = .ok (.bipush 7, 2) := by decide +kernel
theorem dX5_init_31 : decode cX5_init 31 = .ok (.newarray .int, 2) := by decide +kernel
theorem dX5_init_33 : decode cX5_init 33 = .ok (.putfield 19, 3) := by decide +kernel
theorem dX5_init_36 : decode cX5_init 36 = .ok (.aload_n 0, 1) := by decide +kernel
theorem dX5_init_37 : decode cX5_init 37 = .ok (.bipush 16, 2) := by decide +kernel
theorem dX5_init_39 : decode cX5_init 39 = .ok (.newarray .int, 2) := by decide +kernel
theorem dX5_init_41 : decode cX5_init 41 = .ok (.putfield 22, 3) := by decide +kernel
theorem dX5_init_44 : decode cX5_init 44 = .ok (.aload_n 0, 1) := by decide +kernel
theorem dX5_init_45 : decode cX5_init 45 = .ok (.bipush 120, 2) := by decide +kernel
theorem dX5_init_47 : decode cX5_init 47 = .ok (.newarray .int, 2) := by decide +kernel
theorem dX5_init_49 : decode cX5_init 49 = .ok (.putfield 25, 3) := by decide +kernel
theorem dX5_init_52 : decode cX5_init 52 = .ok (.aload_n 0, 1) := by decide +kernel
theorem dX5_init_53 : decode cX5_init 53 = .ok (.iconst 4, 1) := by decide +kernel
theorem dX5_init_54 : decode cX5_init 54 = .ok (.newarray .int, 2) := by decide +kernel
theorem dX5_init_56 : decode cX5_init 56 = .ok (.putfield 28, 3) := by decide +kernel
theorem dX5_init_59 : decode cX5_init 59 = .ok (.aload_n 0, 1) := by decide +kernel
theorem dX5_init_60 : decode cX5_init 60 = .ok (.iconst 4, 1) := by decide +kernel
theorem dX5_init_61 : decode cX5_init 61 = .ok (.newarray .int, 2) := by decide +kernel
theorem dX5_init_63 : decode cX5_init 63 = .ok (.putfield 31, 3) := by decide +kernel
theorem dX5_init_66 : decode cX5_init 66 = .ok (.aload_n 0, 1) := by decide +kernel
theorem dX5_init_67 : decode cX5_init 67 = .ok (.sipush 160, 3) := by decide +kernel
theorem dX5_init_70 : decode cX5_init 70 = .ok (.newarray .long, 2) := by decide +kernel
theorem dX5_init_72 : decode cX5_init 72 = .ok (.putfield 34, 3) := by decide +kernel
theorem dX5_init_75 : decode cX5_init 75 = .ok (.iconst 0, 1) := by decide +kernel
theorem dX5_init_76 : decode cX5_init 76 = .ok (.istore_n 1, 1) := by decide +kernel
theorem dX5_init_77 : decode cX5_init 77 = .ok (.iload_n 1, 1) := by decide +kernel
theorem dX5_init_78 : decode cX5_init 78 = .ok (.bipush 10, 2) := by decide +kernel
theorem dX5_init_80 : decode cX5_init 80 = .ok (.if_icmp .ge 23, 3) := by decide +kernel
theorem dX5_init_83 : decode cX5_init 83 = .ok (.aload_n 0, 1) := by decide +kernel
theorem dX5_init_84 : decode cX5_init 84 = .ok (.getfield 9, 3) := by decide +kernel
theorem dX5_init_87 : decode cX5_init 87 = .ok (.iconst 2, 1) := by decide +kernel
theorem dX5_init_88 : decode cX5_init 88 = .ok (.iload_n 1, 1) := by decide +kernel
theorem dX5_init_89 : decode cX5_init 89 = .ok (.iadd, 1) := by decide +kernel
theorem dX5_init_90 : decode cX5_init 90 = .ok (.iconst 3, 1) := by decide +kernel
theorem dX5_init_91 : decode cX5_init 91 = .ok (.iload_n 1, 1) := by decide +kernel
theorem dX5_init_92 : decode cX5_init 92 = .ok (.imul, 1) := by decide +kernel
theorem dX5_init_93 : decode cX5_init 93 = .ok (.bipush 10, 2) := by decide +kernel
theorem dX5_init_95 : decode cX5_init 95 = .ok (.irem, 1) := by decide +kernel
theorem dX5_init_96 : decode cX5_init 96 = .ok (.iastore, 1) := by decide +kernel
theorem dX5_init_97 : decode cX5_init 97 = .ok (.iinc 1 1, 3) := by decide +kernel
theorem dX5_init_100 : decode cX5_init 100 = .ok (.goto (-23), 3) := by decide +kernel
theorem dX5_init_103 : decode cX5_init 103 = .ok (.return_, 1) := by decide +kernel
theorem dX5_finds_0 : decode cX5_finds 0 = .ok (.aload_n 0, 1) := by decide +kernel
theorem dX5_finds_1 : decode cX5_finds 1 = .ok (.getfield 19, 3) := by decide +kernel
theorem dX5_finds_4 : decode cX5_finds 4 = .ok (.ldc 38, 2) := by decide +kernel
theorem dX5_finds_6 : decode cX5_finds 6 = .ok (.iload_n 1, 1) := by decide +kernel
theorem dX5_finds_7 : decode cX5_finds 7 = .ok (.isub, 1) := by decide +kernel
theorem dX5_finds_8 : decode cX5_finds 8 = .ok (.dup2, 1) := by decide +kernel
theorem dX5_finds_9 : decode cX5_finds 9 = .ok (.iaload, 1) := by decide +kernel
theorem dX5_finds_10 : decode cX5_finds 10 = .ok (.iconst 1, 1) := by decide +kernel
theorem dX5_finds_11 : decode cX5_finds 11 = .ok (.iadd, 1) := by decide +kernel
theorem dX5_finds_12 : decode cX5_finds 12 = .ok (.iastore, 1) := by decide +kernel
theorem dX5_finds_13 : decode cX5_finds 13 = .ok (.iload_n 1, 1) := by decide +kernel
theorem dX5_finds_14 : decode cX5_finds 14 = .ok (.ireturn, 1) := by decide +kernel
theorem dX5_orNone_0 : decode cX5_orNone 0 = .ok (.iload_n 1, 1) := by decide +kernel
theorem dX5_orNone_1 : decode cX5_orNone 1 = .ok (.ifCond .ge 12, 3) := by decide +kernel
theorem dX5_orNone_4 : decode cX5_orNone 4 = .ok (.aload_n 0, 1) := by decide +kernel
theorem dX5_orNone_5 : decode cX5_orNone 5 = .ok (.ldc 39, 2) := by decide +kernel
theorem dX5_orNone_7 : decode cX5_orNone 7 = .ok (.invokevirtual 40, 3) := by decide +kernel
theorem dX5_orNone_10 : decode cX5_orNone 10 = .ok (.goto 4, 3) := by decide +kernel
theorem dX5_orNone_13 : decode cX5_orNone 13 = .ok (.iload_n 1, 1) := by decide +kernel
theorem dX5_orNone_14 : decode cX5_orNone 14 = .ok (.ireturn, 1) := by decide +kernel
theorem dX5_in_0 : decode cX5_in 0 = .ok (.lload_n 0, 1) := by decide +kernel
theorem dX5_in_1 : decode cX5_in 1 = .ok (.iload_n 2, 1) := by decide +kernel
theorem dX5_in_2 : decode cX5_in 2 = .ok (.i2l, 1) := by decide +kernel
theorem dX5_in_3 : decode cX5_in 3 = .ok (.lcmp, 1) := by decide +kernel
theorem dX5_in_4 : decode cX5_in 4 = .ok (.ifCond .lt 14, 3) := by decide +kernel
theorem dX5_in_7 : decode cX5_in 7 = .ok (.lload_n 0, 1) := by decide +kernel
theorem dX5_in_8 : decode cX5_in 8 = .ok (.iload_n 3, 1) := by decide +kernel
theorem dX5_in_9 : decode cX5_in 9 = .ok (.i2l, 1) := by decide +kernel
theorem dX5_in_10 : decode cX5_in 10 = .ok (.lcmp, 1) := by decide +kernel
theorem dX5_in_11 : decode cX5_in 11 = .ok (.ifCond .gt 7, 3) := by decide +kernel
theorem dX5_in_14 : decode cX5_in 14 = .ok (.iconst 1, 1) := by decide +kernel
theorem dX5_in_15 : decode cX5_in 15 = .ok (.goto 4, 3) := by decide +kernel
theorem dX5_in_18 : decode cX5_in 18 = .ok (.iconst 0, 1) := by decide +kernel
theorem dX5_in_19 : decode cX5_in 19 = .ok (.ireturn, 1) := by decide +kernel
theorem dX5_held_0 : decode cX5_held 0 = .ok (.iload_n 0, 1) := by decide +kernel
theorem dX5_held_1 : decode cX5_held 1 = .ok (.iload_n 1, 1) := by decide +kernel
theorem dX5_held_2 : decode cX5_held 2 = .ok (.if_icmp .ge 7, 3) := by decide +kernel
theorem dX5_held_5 : decode cX5_held 5 = .ok (.iload_n 1, 1) := by decide +kernel
theorem dX5_held_6 : decode cX5_held 6 = .ok (.goto 13, 3) := by decide +kernel
theorem dX5_held_9 : decode cX5_held 9 = .ok (.iload_n 0, 1) := by decide +kernel
theorem dX5_held_10 : decode cX5_held 10 = .ok (.iload_n 2, 1) := by decide +kernel
theorem dX5_held_11 : decode cX5_held 11 = .ok (.if_icmp .le 7, 3) := by decide +kernel
theorem dX5_held_14 : decode cX5_held 14 = .ok (.iload_n 2, 1) := by decide +kernel
theorem dX5_held_15 : decode cX5_held 15 = .ok (.goto 4, 3) := by decide +kernel
theorem dX5_held_18 : decode cX5_held 18 = .ok (.iload_n 0, 1) := by decide +kernel
theorem dX5_held_19 : decode cX5_held 19 = .ok (.ireturn, 1) := by decide +kernel
theorem dX5_copyAll_0 : decode cX5_copyAll 0 = .ok (.iconst 0, 1) := by decide +kernel
theorem dX5_copyAll_1 : decode cX5_copyAll 1 = .ok (.istore_n 2, 1) := by decide +kernel
theorem dX5_copyAll_2 : decode cX5_copyAll 2 = .ok (.iload_n 2, 1) := by decide +kernel
theorem dX5_copyAll_3 : decode cX5_copyAll 3 = .ok (.bipush 52, 2) := by decide +kernel
theorem dX5_copyAll_5 : decode cX5_copyAll 5 = .ok (.if_icmp .ge 15, 3) := by decide +kernel
theorem dX5_copyAll_8 : decode cX5_copyAll 8 = .ok (.aload_n 1, 1) := by decide +kernel
theorem dX5_copyAll_9 : decode cX5_copyAll 9 = .ok (.iload_n 2, 1) := by decide +kernel
theorem dX5_copyAll_10 : decode cX5_copyAll 10 = .ok (.aload_n 0, 1) := by decide +kernel
theorem dX5_copyAll_11 : decode cX5_copyAll 11 = .ok (.iload_n 2, 1) := by decide +kernel
theorem dX5_copyAll_12 : decode cX5_copyAll 12 = .ok (.iaload, 1) := by decide +kernel
theorem dX5_copyAll_13 : decode cX5_copyAll 13 = .ok (.iastore, 1) := by decide +kernel
theorem dX5_copyAll_14 : decode cX5_copyAll 14 = .ok (.iinc 2 1, 3) := by decide +kernel
theorem dX5_copyAll_17 : decode cX5_copyAll 17 = .ok (.goto (-15), 3) := by decide +kernel
theorem dX5_copyAll_20 : decode cX5_copyAll 20 = .ok (.return_, 1) := by decide +kernel
theorem dX5_becomes_0 : decode cX5_becomes 0 = .ok (.aload_n 0, 1) := by decide +kernel
theorem dX5_becomes_1 : decode cX5_becomes 1 = .ok (.getfield 9, 3) := by decide +kernel
theorem dX5_becomes_4 : decode cX5_becomes 4 = .ok (.iload_n 1, 1) := by decide +kernel
theorem dX5_becomes_5 : decode cX5_becomes 5 = .ok (.iaload, 1) := by decide +kernel
theorem dX5_becomes_6 : decode cX5_becomes 6 = .ok (.istore_n 3, 1) := by decide +kernel
theorem dX5_becomes_7 : decode cX5_becomes 7 = .ok (.aload_n 0, 1) := by decide +kernel
theorem dX5_becomes_8 : decode cX5_becomes 8 = .ok (.getfield 9, 3) := by decide +kernel
theorem dX5_becomes_11 : decode cX5_becomes 11 = .ok (.iload_n 1, 1) := by decide +kernel
theorem dX5_becomes_12 : decode cX5_becomes 12 = .ok (.iload_n 2, 1) := by decide +kernel
theorem dX5_becomes_13 : decode cX5_becomes 13 = .ok (.iastore, 1) := by decide +kernel
theorem dX5_becomes_14 : decode cX5_becomes 14 = .ok (.iload_n 3, 1) := by decide +kernel
theorem dX5_becomes_15 : decode cX5_becomes 15 = .ok (.ireturn, 1) := by decide +kernel
theorem dX5_isPerson_0 : decode cX5_isPerson 0 = .ok (.iload_n 1, 1) := by decide +kernel
theorem dX5_isPerson_1 : decode cX5_isPerson 1 = .ok (.i2l, 1) := by decide +kernel
theorem dX5_isPerson_2 : decode cX5_isPerson 2 = .ok (.iconst 0, 1) := by decide +kernel
theorem dX5_isPerson_3 : decode cX5_isPerson 3 = .ok (.aload_n 0, 1) := by decide +kernel
theorem dX5_isPerson_4 : decode cX5_isPerson 4 = .ok (.getfield 9, 3) := by decide +kernel
theorem dX5_isPerson_7 : decode cX5_isPerson 7 = .ok (.iconst 1, 1) := by decide +kernel
theorem dX5_isPerson_8 : decode cX5_isPerson 8 = .ok (.iaload, 1) := by decide +kernel
theorem dX5_isPerson_9 : decode cX5_isPerson 9 = .ok (.iconst 1, 1) := by decide +kernel
theorem dX5_isPerson_10 : decode cX5_isPerson 10 = .ok (.isub, 1) := by decide +kernel
theorem dX5_isPerson_11 : decode cX5_isPerson 11 = .ok (.invokestatic 44, 3) := by decide +kernel
theorem dX5_isPerson_14 : decode cX5_isPerson 14 = .ok (.ireturn, 1) := by decide +kernel
theorem dX5_areTwo_0 : decode cX5_areTwo 0 = .ok (.aload_n 0, 1) := by decide +kernel
theorem dX5_areTwo_1 : decode cX5_areTwo 1 = .ok (.iload_n 1, 1) := by decide +kernel
theorem dX5_areTwo_2 : decode cX5_areTwo 2 = .ok (.invokevirtual 48, 3) := by decide +kernel
theorem dX5_areTwo_5 : decode cX5_areTwo 5 = .ok (.ifCond .eq 20, 3) := by decide +kernel
theorem dX5_areTwo_8 : decode cX5_areTwo 8 = .ok (.aload_n 0, 1) := by decide +kernel
theorem dX5_areTwo_9 : decode cX5_areTwo 9 = .ok (.iload_n 2, 1) := by decide +kernel
theorem dX5_areTwo_10 : decode cX5_areTwo 10 = .ok (.invokevirtual 48, 3) := by decide +kernel
theorem dX5_areTwo_13 : decode cX5_areTwo 13 = .ok (.ifCond .eq 12, 3) := by decide +kernel
theorem dX5_areTwo_16 : decode cX5_areTwo 16 = .ok (.iload_n 1, 1) := by decide +kernel
theorem dX5_areTwo_17 : decode cX5_areTwo 17 = .ok (.iload_n 2, 1) := by decide +kernel
theorem dX5_areTwo_18 : decode cX5_areTwo 18 = .ok (.if_icmp .eq 7, 3) := by decide +kernel
theorem dX5_areTwo_21 : decode cX5_areTwo 21 = .ok (.iconst 1, 1) := by decide +kernel
theorem dX5_areTwo_22 : decode cX5_areTwo 22 = .ok (.goto 4, 3) := by decide +kernel
theorem dX5_areTwo_25 : decode cX5_areTwo 25 = .ok (.iconst 0, 1) := by decide +kernel
theorem dX5_areTwo_26 : decode cX5_areTwo 26 = .ok (.ireturn, 1) := by decide +kernel
theorem dX5_it_0 : decode cX5_it 0 = .ok (.aload_n 0, 1) := by decide +kernel
theorem dX5_it_1 : decode cX5_it 1 = .ok (.getfield 9, 3) := by decide +kernel
theorem dX5_it_4 : decode cX5_it 4 = .ok (.bipush 12, 2) := by decide +kernel
theorem dX5_it_6 : decode cX5_it 6 = .ok (.iconst 5, 1) := by decide +kernel
theorem dX5_it_7 : decode cX5_it 7 = .ok (.iload_n 1, 1) := by decide +kernel
theorem dX5_it_8 : decode cX5_it 8 = .ok (.imul, 1) := by decide +kernel
theorem dX5_it_9 : decode cX5_it 9 = .ok (.iadd, 1) := by decide +kernel
theorem dX5_it_10 : decode cX5_it 10 = .ok (.iload_n 2, 1) := by decide +kernel
theorem dX5_it_11 : decode cX5_it 11 = .ok (.iadd, 1) := by decide +kernel
theorem dX5_it_12 : decode cX5_it 12 = .ok (.iaload, 1) := by decide +kernel
theorem dX5_it_13 : decode cX5_it 13 = .ok (.ireturn, 1) := by decide +kernel
theorem dX5_put_0 : decode cX5_put 0 = .ok (.aload_n 0, 1) := by decide +kernel
theorem dX5_put_1 : decode cX5_put 1 = .ok (.getfield 9, 3) := by decide +kernel
theorem dX5_put_4 : decode cX5_put 4 = .ok (.bipush 12, 2) := by decide +kernel
theorem dX5_put_6 : decode cX5_put 6 = .ok (.iconst 5, 1) := by decide +kernel
theorem dX5_put_7 : decode cX5_put 7 = .ok (.iload_n 1, 1) := by decide +kernel
theorem dX5_put_8 : decode cX5_put 8 = .ok (.imul, 1) := by decide +kernel
theorem dX5_put_9 : decode cX5_put 9 = .ok (.iadd, 1) := by decide +kernel
theorem dX5_put_10 : decode cX5_put 10 = .ok (.iload_n 2, 1) := by decide +kernel
theorem dX5_put_11 : decode cX5_put 11 = .ok (.iadd, 1) := by decide +kernel
theorem dX5_put_12 : decode cX5_put 12 = .ok (.iload_n 3, 1) := by decide +kernel
theorem dX5_put_13 : decode cX5_put 13 = .ok (.iastore, 1) := by decide +kernel
theorem dX5_put_14 : decode cX5_put 14 = .ok (.return_, 1) := by decide +kernel
theorem dX5_sunNow_0 : decode cX5_sunNow 0 = .ok (.aload_n 0, 1) := by decide +kernel
theorem dX5_sunNow_1 : decode cX5_sunNow 1 = .ok (.getfield 9, 3) := by decide +kernel
theorem dX5_sunNow_4 : decode cX5_sunNow 4 = .ok (.iconst 2, 1) := by decide +kernel
theorem dX5_sunNow_5 : decode cX5_sunNow 5 = .ok (.aload_n 0, 1) := by decide +kernel
theorem dX5_sunNow_6 : decode cX5_sunNow 6 = .ok (.getfield 9, 3) := by decide +kernel
theorem dX5_sunNow_9 : decode cX5_sunNow 9 = .ok (.iconst 0, 1) := by decide +kernel
theorem dX5_sunNow_10 : decode cX5_sunNow 10 = .ok (.iaload, 1) := by decide +kernel
theorem dX5_sunNow_11 : decode cX5_sunNow 11 = .ok (.bipush 10, 2) := by decide +kernel
theorem dX5_sunNow_13 : decode cX5_sunNow 13 = .ok (.irem, 1) := by decide +kernel
theorem dX5_sunNow_14 : decode cX5_sunNow 14 = .ok (.iadd, 1) := by decide +kernel
theorem dX5_sunNow_15 : decode cX5_sunNow 15 = .ok (.iaload, 1) := by decide +kernel
theorem dX5_sunNow_16 : decode cX5_sunNow 16 = .ok (.ireturn, 1) := by decide +kernel
theorem dX5_onChair_0 : decode cX5_onChair 0 = .ok (.iconst (-1), 1) := by decide +kernel
theorem dX5_onChair_1 : decode cX5_onChair 1 = .ok (.istore_n 2, 1) := by decide +kernel
theorem dX5_onChair_2 : decode cX5_onChair 2 = .ok (.iconst 0, 1) := by decide +kernel
theorem dX5_onChair_3 : decode cX5_onChair 3 = .ok (.istore_n 3, 1) := by decide +kernel
theorem dX5_onChair_4 : decode cX5_onChair 4 = .ok (.iload_n 3, 1) := by decide +kernel
theorem dX5_onChair_5 : decode cX5_onChair 5 = .ok (.aload_n 0, 1) := by decide +kernel
theorem dX5_onChair_6 : decode cX5_onChair 6 = .ok (.getfield 9, 3) := by decide +kernel
theorem dX5_onChair_9 : decode cX5_onChair 9 = .ok (.iconst 1, 1) := by decide +kernel
theorem dX5_onChair_10 : decode cX5_onChair 10 = .ok (.iaload, 1) := by decide +kernel
theorem dX5_onChair_11 : decode cX5_onChair 11 = .ok (.if_icmp .ge 25, 3) := by decide +kernel
theorem dX5_onChair_14 : decode cX5_onChair 14 = .ok (.aload_n 0, 1) := by decide +kernel
theorem dX5_onChair_15 : decode cX5_onChair 15 = .ok (.iload_n 3, 1) := by decide +kernel
theorem dX5_onChair_16 : decode cX5_onChair 16 = .ok (.iconst 1, 1) := by decide +kernel
theorem dX5_onChair_17 : decode cX5_onChair 17 = .ok (.invokevirtual 52, 3) := by decide +kernel
theorem dX5_onChair_20 : decode cX5_onChair 20 = .ok (.iload_n 1, 1) := by decide +kernel
theorem dX5_onChair_21 : decode cX5_onChair 21 = .ok (.if_icmp .ne 7, 3) := by decide +kernel
theorem dX5_onChair_24 : decode cX5_onChair 24 = .ok (.iload_n 3, 1) := by decide +kernel
theorem dX5_onChair_25 : decode cX5_onChair 25 = .ok (.goto 4, 3) := by decide +kernel
theorem dX5_onChair_28 : decode cX5_onChair 28 = .ok (.iload_n 2, 1) := by decide +kernel
theorem dX5_onChair_29 : decode cX5_onChair 29 = .ok (.istore_n 2, 1) := by decide +kernel
theorem dX5_onChair_30 : decode cX5_onChair 30 = .ok (.iinc 3 1, 3) := by decide +kernel
theorem dX5_onChair_33 : decode cX5_onChair 33 = .ok (.goto (-29), 3) := by decide +kernel
theorem dX5_onChair_36 : decode cX5_onChair 36 = .ok (.iload_n 2, 1) := by decide +kernel
theorem dX5_onChair_37 : decode cX5_onChair 37 = .ok (.ireturn, 1) := by decide +kernel
theorem dX5_sits_0 : decode cX5_sits 0 = .ok (.aload_n 0, 1) := by decide +kernel
theorem dX5_sits_1 : decode cX5_sits 1 = .ok (.iload_n 1, 1) := by decide +kernel
theorem dX5_sits_2 : decode cX5_sits 2 = .ok (.iconst 1, 1) := by decide +kernel
theorem dX5_sits_3 : decode cX5_sits 3 = .ok (.invokevirtual 52, 3) := by decide +kernel
theorem dX5_sits_6 : decode cX5_sits 6 = .ok (.ifCond .lt 7, 3) := by decide +kernel
theorem dX5_sits_9 : decode cX5_sits 9 = .ok (.iconst 1, 1) := by decide +kernel
theorem dX5_sits_10 : decode cX5_sits 10 = .ok (.goto 4, 3) := by decide +kernel
theorem dX5_sits_13 : decode cX5_sits 13 = .ok (.iconst 0, 1) := by decide +kernel
theorem dX5_sits_14 : decode cX5_sits 14 = .ok (.ireturn, 1) := by decide +kernel
theorem dX5_beside_0 : decode cX5_beside 0 = .ok (.aload_n 0, 1) := by decide +kernel
theorem dX5_beside_1 : decode cX5_beside 1 = .ok (.iload_n 1, 1) := by decide +kernel
theorem dX5_beside_2 : decode cX5_beside 2 = .ok (.iconst 1, 1) := by decide +kernel
theorem dX5_beside_3 : decode cX5_beside 3 = .ok (.invokevirtual 52, 3) := by decide +kernel
theorem dX5_beside_6 : decode cX5_beside 6 = .ok (.iload_n 2, 1) := by decide +kernel
theorem dX5_beside_7 : decode cX5_beside 7 = .ok (.ifCond .ne 7, 3) := by decide +kernel
theorem dX5_beside_10 : decode cX5_beside 10 = .ok (.iconst (-1), 1) := by decide +kernel
theorem dX5_beside_11 : decode cX5_beside 11 = .ok (.goto 4, 3) := by decide +kernel
theorem dX5_beside_14 : decode cX5_beside 14 = .ok (.iconst 1, 1) := by decide +kernel
theorem dX5_beside_15 : decode cX5_beside 15 = .ok (.iadd, 1) := by decide +kernel
theorem dX5_beside_16 : decode cX5_beside 16 = .ok (.istore_n 3, 1) := by decide +kernel
theorem dX5_beside_17 : decode cX5_beside 17 = .ok (.aload_n 0, 1) := by decide +kernel
theorem dX5_beside_18 : decode cX5_beside 18 = .ok (.iload_n 1, 1) := by decide +kernel
theorem dX5_beside_19 : decode cX5_beside 19 = .ok (.invokevirtual 56, 3) := by decide +kernel
theorem dX5_beside_22 : decode cX5_beside 22 = .ok (.ifCond .eq 14, 3) := by decide +kernel
theorem dX5_beside_25 : decode cX5_beside 25 = .ok (.iload_n 3, 1) := by decide +kernel
theorem dX5_beside_26 : decode cX5_beside 26 = .ok (.i2l, 1) := by decide +kernel
theorem dX5_beside_27 : decode cX5_beside 27 = .ok (.iconst 0, 1) := by decide +kernel
theorem dX5_beside_28 : decode cX5_beside 28 = .ok (.bipush 9, 2) := by decide +kernel
theorem dX5_beside_30 : decode cX5_beside 30 = .ok (.invokestatic 44, 3) := by decide +kernel
theorem dX5_beside_33 : decode cX5_beside 33 = .ok (.ifCond .ne 7, 3) := by decide +kernel
theorem dX5_beside_36 : decode cX5_beside 36 = .ok (.iconst (-1), 1) := by decide +kernel
theorem dX5_beside_37 : decode cX5_beside 37 = .ok (.goto 8, 3) := by decide +kernel
theorem dX5_beside_40 : decode cX5_beside 40 = .ok (.aload_n 0, 1) := by decide +kernel
theorem dX5_beside_41 : decode cX5_beside 41 = .ok (.iload_n 3, 1) := by decide +kernel
theorem dX5_beside_42 : decode cX5_beside 42 = .ok (.invokevirtual 59, 3) := by decide +kernel
theorem dX5_beside_45 : decode cX5_beside 45 = .ok (.ireturn, 1) := by decide +kernel
theorem dX5_glows_0 : decode cX5_glows 0 = .ok (.aload_n 0, 1) := by decide +kernel
theorem dX5_glows_1 : decode cX5_glows 1 = .ok (.invokevirtual 62, 3) := by decide +kernel
theorem dX5_glows_4 : decode cX5_glows 4 = .ok (.istore 4, 2) := by decide +kernel
theorem dX5_glows_6 : decode cX5_glows 6 = .ok (.iload_n 2, 1) := by decide +kernel
theorem dX5_glows_7 : decode cX5_glows 7 = .ok (.bipush 20, 2) := by decide +kernel
theorem dX5_glows_9 : decode cX5_glows 9 = .ok (.idiv, 1) := by decide +kernel
theorem dX5_glows_10 : decode cX5_glows 10 = .ok (.iload 4, 2) := by decide +kernel
theorem dX5_glows_12 : decode cX5_glows 12 = .ok (.imul, 1) := by decide +kernel
theorem dX5_glows_13 : decode cX5_glows 13 = .ok (.bipush 9, 2) := by decide +kernel
theorem dX5_glows_15 : decode cX5_glows 15 = .ok (.idiv, 1) := by decide +kernel
theorem dX5_glows_16 : decode cX5_glows 16 = .ok (.istore 5, 2) := by decide +kernel
theorem dX5_glows_18 : decode cX5_glows 18 = .ok (.aload_n 0, 1) := by decide +kernel
theorem dX5_glows_19 : decode cX5_glows 19 = .ok (.iload_n 3, 1) := by decide +kernel
theorem dX5_glows_20 : decode cX5_glows 20 = .ok (.iconst 0, 1) := by decide +kernel
theorem dX5_glows_21 : decode cX5_glows 21 = .ok (.invokevirtual 52, 3) := by decide +kernel
theorem dX5_glows_24 : decode cX5_glows 24 = .ok (.iconst 4, 1) := by decide +kernel
theorem dX5_glows_25 : decode cX5_glows 25 = .ok (.if_icmp .ne 12, 3) := by decide +kernel
theorem dX5_glows_28 : decode cX5_glows 28 = .ok (.iconst 2, 1) := by decide +kernel
theorem dX5_glows_29 : decode cX5_glows 29 = .ok (.iload 5, 2) := by decide +kernel
theorem dX5_glows_31 : decode cX5_glows 31 = .ok (.iconst 2, 1) := by decide +kernel
theorem dX5_glows_32 : decode cX5_glows 32 = .ok (.idiv, 1) := by decide +kernel
theorem dX5_glows_33 : decode cX5_glows 33 = .ok (.imul, 1) := by decide +kernel
theorem dX5_glows_34 : decode cX5_glows 34 = .ok (.goto 7, 3) := by decide +kernel
theorem dX5_glows_37 : decode cX5_glows 37 = .ok (.iload 5, 2) := by decide +kernel
theorem dX5_glows_39 : decode cX5_glows 39 = .ok (.iconst 2, 1) := by decide +kernel
theorem dX5_glows_40 : decode cX5_glows 40 = .ok (.idiv, 1) := by decide +kernel
theorem dX5_glows_41 : decode cX5_glows 41 = .ok (.istore 6, 2) := by decide +kernel
theorem dX5_glows_43 : decode cX5_glows 43 = .ok (.iload 4, 2) := by decide +kernel
theorem dX5_glows_45 : decode cX5_glows 45 = .ok (.ifCond .ne 5, 3) := by decide +kernel
theorem dX5_glows_48 : decode cX5_glows 48 = .ok (.iconst 0, 1) := by decide +kernel
theorem dX5_glows_49 : decode cX5_glows 49 = .ok (.ireturn, 1) := by decide +kernel
theorem dX5_glows_50 : decode cX5_glows 50 = .ok (.aload_n 0, 1) := by decide +kernel
theorem dX5_glows_51 : decode cX5_glows 51 = .ok (.iload_n 1, 1) := by decide +kernel
theorem dX5_glows_52 : decode cX5_glows 52 = .ok (.iconst 0, 1) := by decide +kernel
theorem dX5_glows_53 : decode cX5_glows 53 = .ok (.invokevirtual 52, 3) := by decide +kernel
theorem dX5_glows_56 : decode cX5_glows 56 = .ok (.tableswitch 67 1 5 #[36, 41, 46, 49, 52], 36) := by decide +kernel
theorem dX5_glows_92 : decode cX5_glows 92 = .ok (.iload 5, 2) := by decide +kernel
theorem dX5_glows_94 : decode cX5_glows 94 = .ok (.iconst 3, 1) := by decide +kernel
theorem dX5_glows_95 : decode cX5_glows 95 = .ok (.iadd, 1) := by decide +kernel
theorem dX5_glows_96 : decode cX5_glows 96 = .ok (.ireturn, 1) := by decide +kernel
theorem dX5_glows_97 : decode cX5_glows 97 = .ok (.iload 5, 2) := by decide +kernel
theorem dX5_glows_99 : decode cX5_glows 99 = .ok (.iconst 2, 1) := by decide +kernel
theorem dX5_glows_100 : decode cX5_glows 100 = .ok (.idiv, 1) := by decide +kernel
theorem dX5_glows_101 : decode cX5_glows 101 = .ok (.ireturn, 1) := by decide +kernel
theorem dX5_glows_102 : decode cX5_glows 102 = .ok (.bipush 9, 2) := by decide +kernel
theorem dX5_glows_104 : decode cX5_glows 104 = .ok (.ireturn, 1) := by decide +kernel
theorem dX5_glows_105 : decode cX5_glows 105 = .ok (.iload 6, 2) := by decide +kernel
theorem dX5_glows_107 : decode cX5_glows 107 = .ok (.ireturn, 1) := by decide +kernel
theorem dX5_glows_108 : decode cX5_glows 108 = .ok (.iload 5, 2) := by decide +kernel
theorem dX5_glows_110 : decode cX5_glows 110 = .ok (.iconst 1, 1) := by decide +kernel
theorem dX5_glows_111 : decode cX5_glows 111 = .ok (.if_icmp .le 10, 3) := by decide +kernel
theorem dX5_glows_114 : decode cX5_glows 114 = .ok (.iload 5, 2) := by decide +kernel
theorem dX5_glows_116 : decode cX5_glows 116 = .ok (.iconst 1, 1) := by decide +kernel
theorem dX5_glows_117 : decode cX5_glows 117 = .ok (.isub, 1) := by decide +kernel
theorem dX5_glows_118 : decode cX5_glows 118 = .ok (.goto 4, 3) := by decide +kernel
theorem dX5_glows_121 : decode cX5_glows 121 = .ok (.iconst 0, 1) := by decide +kernel
theorem dX5_glows_122 : decode cX5_glows 122 = .ok (.ireturn, 1) := by decide +kernel
theorem dX5_glows_123 : decode cX5_glows 123 = .ok (.iload 5, 2) := by decide +kernel
theorem dX5_glows_125 : decode cX5_glows 125 = .ok (.ireturn, 1) := by decide +kernel
theorem dX5_takesOf_0 : decode cX5_takesOf 0 = .ok (.aload_n 0, 1) := by decide +kernel
theorem dX5_takesOf_1 : decode cX5_takesOf 1 = .ok (.iload_n 1, 1) := by decide +kernel
theorem dX5_takesOf_2 : decode cX5_takesOf 2 = .ok (.iconst 0, 1) := by decide +kernel
theorem dX5_takesOf_3 : decode cX5_takesOf 3 = .ok (.invokevirtual 52, 3) := by decide +kernel
theorem dX5_takesOf_6 : decode cX5_takesOf 6 = .ok (.tableswitch 66 1 5 #[34, 38, 50, 38, 52], 34) := by decide +kernel
theorem dX5_takesOf_40 : decode cX5_takesOf 40 = .ok (.iload_n 2, 1) := by decide +kernel
theorem dX5_takesOf_41 : decode cX5_takesOf 41 = .ok (.iconst 2, 1) := by decide +kernel
theorem dX5_takesOf_42 : decode cX5_takesOf 42 = .ok (.idiv, 1) := by decide +kernel
theorem dX5_takesOf_43 : decode cX5_takesOf 43 = .ok (.ireturn, 1) := by decide +kernel
theorem dX5_takesOf_44 : decode cX5_takesOf 44 = .ok (.iload_n 2, 1) := by decide +kernel
theorem dX5_takesOf_45 : decode cX5_takesOf 45 = .ok (.ifCond .le 9, 3) := by decide +kernel
theorem dX5_takesOf_48 : decode cX5_takesOf 48 = .ok (.iload_n 2, 1) := by decide +kernel
theorem dX5_takesOf_49 : decode cX5_takesOf 49 = .ok (.iconst 1, 1) := by decide +kernel
theorem dX5_takesOf_50 : decode cX5_takesOf 50 = .ok (.iadd, 1) := by decide +kernel
theorem dX5_takesOf_51 : decode cX5_takesOf 51 = .ok (.goto 4, 3) := by decide +kernel
theorem dX5_takesOf_54 : decode cX5_takesOf 54 = .ok (.iconst 0, 1) := by decide +kernel
theorem dX5_takesOf_55 : decode cX5_takesOf 55 = .ok (.ireturn, 1) := by decide +kernel
theorem dX5_takesOf_56 : decode cX5_takesOf 56 = .ok (.iconst 0, 1) := by decide +kernel
theorem dX5_takesOf_57 : decode cX5_takesOf 57 = .ok (.ireturn, 1) := by decide +kernel
theorem dX5_takesOf_58 : decode cX5_takesOf 58 = .ok (.iload_n 2, 1) := by decide +kernel
theorem dX5_takesOf_59 : decode cX5_takesOf 59 = .ok (.ifCond .le 11, 3) := by decide +kernel
theorem dX5_takesOf_62 : decode cX5_takesOf 62 = .ok (.iload_n 2, 1) := by decide +kernel
theorem dX5_takesOf_63 : decode cX5_takesOf 63 = .ok (.iconst 2, 1) := by decide +kernel
theorem dX5_takesOf_64 : decode cX5_takesOf 64 = .ok (.idiv, 1) := by decide +kernel
theorem dX5_takesOf_65 : decode cX5_takesOf 65 = .ok (.iconst 2, 1) := by decide +kernel
theorem dX5_takesOf_66 : decode cX5_takesOf 66 = .ok (.iadd, 1) := by decide +kernel
theorem dX5_takesOf_67 : decode cX5_takesOf 67 = .ok (.goto 4, 3) := by decide +kernel
theorem dX5_takesOf_70 : decode cX5_takesOf 70 = .ok (.iconst 0, 1) := by decide +kernel
theorem dX5_takesOf_71 : decode cX5_takesOf 71 = .ok (.ireturn, 1) := by decide +kernel
theorem dX5_takesOf_72 : decode cX5_takesOf 72 = .ok (.iload_n 2, 1) := by decide +kernel
theorem dX5_takesOf_73 : decode cX5_takesOf 73 = .ok (.ireturn, 1) := by decide +kernel
theorem dX5_fades_0 : decode cX5_fades 0 = .ok (.aload_n 0, 1) := by decide +kernel
theorem dX5_fades_1 : decode cX5_fades 1 = .ok (.invokevirtual 62, 3) := by decide +kernel
theorem dX5_fades_4 : decode cX5_fades 4 = .ok (.ifCond .ne 7, 3) := by decide +kernel
theorem dX5_fades_7 : decode cX5_fades 7 = .ok (.iconst 1, 1) := by decide +kernel
theorem dX5_fades_8 : decode cX5_fades 8 = .ok (.goto 4, 3) := by decide +kernel
theorem dX5_fades_11 : decode cX5_fades 11 = .ok (.iconst 0, 1) := by decide +kernel
theorem dX5_fades_12 : decode cX5_fades 12 = .ok (.istore_n 2, 1) := by decide +kernel
theorem dX5_fades_13 : decode cX5_fades 13 = .ok (.aload_n 0, 1) := by decide +kernel
theorem dX5_fades_14 : decode cX5_fades 14 = .ok (.iload_n 1, 1) := by decide +kernel
theorem dX5_fades_15 : decode cX5_fades 15 = .ok (.iconst 0, 1) := by decide +kernel
theorem dX5_fades_16 : decode cX5_fades 16 = .ok (.invokevirtual 52, 3) := by decide +kernel
theorem dX5_fades_19 : decode cX5_fades 19 = .ok (.tableswitch 63 1 5 #[33, 35, 63, 37, 61], 33) := by decide +kernel
theorem dX5_fades_52 : decode cX5_fades 52 = .ok (.iconst 0, 1) := by decide +kernel
theorem dX5_fades_53 : decode cX5_fades 53 = .ok (.ireturn, 1) := by decide +kernel
theorem dX5_fades_54 : decode cX5_fades 54 = .ok (.iconst 1, 1) := by decide +kernel
theorem dX5_fades_55 : decode cX5_fades 55 = .ok (.ireturn, 1) := by decide +kernel
theorem dX5_fades_56 : decode cX5_fades 56 = .ok (.aload_n 0, 1) := by decide +kernel
theorem dX5_fades_57 : decode cX5_fades 57 = .ok (.iload_n 1, 1) := by decide +kernel
theorem dX5_fades_58 : decode cX5_fades 58 = .ok (.iconst 0, 1) := by decide +kernel
theorem dX5_fades_59 : decode cX5_fades 59 = .ok (.invokevirtual 66, 3) := by decide +kernel
theorem dX5_fades_62 : decode cX5_fades 62 = .ok (.ifCond .lt 16, 3) := by decide +kernel
theorem dX5_fades_65 : decode cX5_fades 65 = .ok (.aload_n 0, 1) := by decide +kernel
theorem dX5_fades_66 : decode cX5_fades 66 = .ok (.iload_n 1, 1) := by decide +kernel
theorem dX5_fades_67 : decode cX5_fades 67 = .ok (.iconst 1, 1) := by decide +kernel
theorem dX5_fades_68 : decode cX5_fades 68 = .ok (.invokevirtual 66, 3) := by decide +kernel
theorem dX5_fades_71 : decode cX5_fades 71 = .ok (.ifCond .lt 7, 3) := by decide +kernel
theorem dX5_fades_74 : decode cX5_fades 74 = .ok (.iconst 0, 1) := by decide +kernel
theorem dX5_fades_75 : decode cX5_fades 75 = .ok (.goto 4, 3) := by decide +kernel
theorem dX5_fades_78 : decode cX5_fades 78 = .ok (.iconst 1, 1) := by decide +kernel
theorem dX5_fades_79 : decode cX5_fades 79 = .ok (.ireturn, 1) := by decide +kernel
theorem dX5_fades_80 : decode cX5_fades 80 = .ok (.iconst 2, 1) := by decide +kernel
theorem dX5_fades_81 : decode cX5_fades 81 = .ok (.ireturn, 1) := by decide +kernel
theorem dX5_fades_82 : decode cX5_fades 82 = .ok (.iload_n 2, 1) := by decide +kernel
theorem dX5_fades_83 : decode cX5_fades 83 = .ok (.ireturn, 1) := by decide +kernel
theorem dX5_burnsFrom_0 : decode cX5_burnsFrom 0 = .ok (.aload_n 0, 1) := by decide +kernel
theorem dX5_burnsFrom_1 : decode cX5_burnsFrom 1 = .ok (.iload_n 1, 1) := by decide +kernel
theorem dX5_burnsFrom_2 : decode cX5_burnsFrom 2 = .ok (.iconst 0, 1) := by decide +kernel
theorem dX5_burnsFrom_3 : decode cX5_burnsFrom 3 = .ok (.invokevirtual 52, 3) := by decide +kernel
theorem dX5_burnsFrom_6 : decode cX5_burnsFrom 6 = .ok (.tableswitch 43 1 5 #[34, 37, 43, 37, 40], 34) := by decide +kernel
theorem dX5_burnsFrom_40 : decode cX5_burnsFrom 40 = .ok (.bipush 40, 2) := by decide +kernel
theorem dX5_burnsFrom_42 : decode cX5_burnsFrom 42 = .ok (.ireturn, 1) := by decide +kernel
theorem dX5_burnsFrom_43 : decode cX5_burnsFrom 43 = .ok (.bipush 8, 2) := by decide +kernel
theorem dX5_burnsFrom_45 : decode cX5_burnsFrom 45 = .ok (.ireturn, 1) := by decide +kernel
theorem dX5_burnsFrom_46 : decode cX5_burnsFrom 46 = .ok (.bipush 20, 2) := by decide +kernel
theorem dX5_burnsFrom_48 : decode cX5_burnsFrom 48 = .ok (.ireturn, 1) := by decide +kernel
theorem dX5_burnsFrom_49 : decode cX5_burnsFrom 49 = .ok (.bipush 12, 2) := by decide +kernel
theorem dX5_burnsFrom_51 : decode cX5_burnsFrom 51 = .ok (.ireturn, 1) := by decide +kernel
theorem dX5_brownOf_0 : decode cX5_brownOf 0 = .ok (.aload_n 0, 1) := by decide +kernel
theorem dX5_brownOf_1 : decode cX5_brownOf 1 = .ok (.iload_n 1, 1) := by decide +kernel
theorem dX5_brownOf_2 : decode cX5_brownOf 2 = .ok (.iconst 2, 1) := by decide +kernel
theorem dX5_brownOf_3 : decode cX5_brownOf 3 = .ok (.invokevirtual 52, 3) := by decide +kernel
theorem dX5_brownOf_6 : decode cX5_brownOf 6 = .ok (.aload_n 0, 1) := by decide +kernel
theorem dX5_brownOf_7 : decode cX5_brownOf 7 = .ok (.iload_n 1, 1) := by decide +kernel
theorem dX5_brownOf_8 : decode cX5_brownOf 8 = .ok (.iconst 3, 1) := by decide +kernel
theorem dX5_brownOf_9 : decode cX5_brownOf 9 = .ok (.invokevirtual 52, 3) := by decide +kernel
theorem dX5_brownOf_12 : decode cX5_brownOf 12 = .ok (.iadd, 1) := by decide +kernel
theorem dX5_brownOf_13 : decode cX5_brownOf 13 = .ok (.ireturn, 1) := by decide +kernel
theorem dX5_isEven_0 : decode cX5_isEven 0 = .ok (.aload_n 0, 1) := by decide +kernel
theorem dX5_isEven_1 : decode cX5_isEven 1 = .ok (.iload_n 1, 1) := by decide +kernel
theorem dX5_isEven_2 : decode cX5_isEven 2 = .ok (.iconst 2, 1) := by decide +kernel
theorem dX5_isEven_3 : decode cX5_isEven 3 = .ok (.invokevirtual 52, 3) := by decide +kernel
theorem dX5_isEven_6 : decode cX5_isEven 6 = .ok (.aload_n 0, 1) := by decide +kernel
theorem dX5_isEven_7 : decode cX5_isEven 7 = .ok (.iload_n 1, 1) := by decide +kernel
theorem dX5_isEven_8 : decode cX5_isEven 8 = .ok (.iconst 3, 1) := by decide +kernel
theorem dX5_isEven_9 : decode cX5_isEven 9 = .ok (.invokevirtual 52, 3) := by decide +kernel
theorem dX5_isEven_12 : decode cX5_isEven 12 = .ok (.isub, 1) := by decide +kernel
theorem dX5_isEven_13 : decode cX5_isEven 13 = .ok (.i2l, 1) := by decide +kernel
theorem dX5_isEven_14 : decode cX5_isEven 14 = .ok (.bipush (-5), 2) := by decide +kernel
theorem dX5_isEven_16 : decode cX5_isEven 16 = .ok (.iconst 5, 1) := by decide +kernel
theorem dX5_isEven_17 : decode cX5_isEven 17 = .ok (.invokestatic 44, 3) := by decide +kernel
theorem dX5_isEven_20 : decode cX5_isEven 20 = .ok (.ireturn, 1) := by decide +kernel
theorem dX5_givenTo_0 : decode cX5_givenTo 0 = .ok (.aload_n 0, 1) := by decide +kernel
theorem dX5_givenTo_1 : decode cX5_givenTo 1 = .ok (.iload_n 1, 1) := by decide +kernel
theorem dX5_givenTo_2 : decode cX5_givenTo 2 = .ok (.iload_n 2, 1) := by decide +kernel
theorem dX5_givenTo_3 : decode cX5_givenTo 3 = .ok (.invokevirtual 66, 3) := by decide +kernel
theorem dX5_givenTo_6 : decode cX5_givenTo 6 = .ok (.istore_n 3, 1) := by decide +kernel
theorem dX5_givenTo_7 : decode cX5_givenTo 7 = .ok (.iload_n 3, 1) := by decide +kernel
theorem dX5_givenTo_8 : decode cX5_givenTo 8 = .ok (.ifCond .ge 7, 3) := by decide +kernel
theorem dX5_givenTo_11 : decode cX5_givenTo 11 = .ok (.iconst 0, 1) := by decide +kernel
theorem dX5_givenTo_12 : decode cX5_givenTo 12 = .ok (.goto 23, 3) := by decide +kernel
theorem dX5_givenTo_15 : decode cX5_givenTo 15 = .ok (.aload_n 0, 1) := by decide +kernel
theorem dX5_givenTo_16 : decode cX5_givenTo 16 = .ok (.iload_n 3, 1) := by decide +kernel
theorem dX5_givenTo_17 : decode cX5_givenTo 17 = .ok (.aload_n 0, 1) := by decide +kernel
theorem dX5_givenTo_18 : decode cX5_givenTo 18 = .ok (.iload_n 3, 1) := by decide +kernel
theorem dX5_givenTo_19 : decode cX5_givenTo 19 = .ok (.iload_n 2, 1) := by decide +kernel
theorem dX5_givenTo_20 : decode cX5_givenTo 20 = .ok (.ifCond .ne 7, 3) := by decide +kernel
theorem dX5_givenTo_23 : decode cX5_givenTo 23 = .ok (.iconst 3, 1) := by decide +kernel
theorem dX5_givenTo_24 : decode cX5_givenTo 24 = .ok (.goto 4, 3) := by decide +kernel
theorem dX5_givenTo_27 : decode cX5_givenTo 27 = .ok (.iconst 2, 1) := by decide +kernel
theorem dX5_givenTo_28 : decode cX5_givenTo 28 = .ok (.invokevirtual 52, 3) := by decide +kernel
theorem dX5_givenTo_31 : decode cX5_givenTo 31 = .ok (.iload_n 1, 1) := by decide +kernel
theorem dX5_givenTo_32 : decode cX5_givenTo 32 = .ok (.invokevirtual 69, 3) := by decide +kernel
theorem dX5_givenTo_35 : decode cX5_givenTo 35 = .ok (.ireturn, 1) := by decide +kernel
theorem dX5_sun_0 : decode cX5_sun 0 = .ok (.iload_n 1, 1) := by decide +kernel
theorem dX5_sun_1 : decode cX5_sun 1 = .ok (.i2l, 1) := by decide +kernel
theorem dX5_sun_2 : decode cX5_sun 2 = .ok (.iconst 0, 1) := by decide +kernel
theorem dX5_sun_3 : decode cX5_sun 3 = .ok (.bipush 9, 2) := by decide +kernel
theorem dX5_sun_5 : decode cX5_sun 5 = .ok (.invokestatic 44, 3) := by decide +kernel
theorem dX5_sun_8 : decode cX5_sun 8 = .ok (.ifCond .eq 25, 3) := by decide +kernel
theorem dX5_sun_11 : decode cX5_sun 11 = .ok (.iload_n 2, 1) := by decide +kernel
theorem dX5_sun_12 : decode cX5_sun 12 = .ok (.i2l, 1) := by decide +kernel
theorem dX5_sun_13 : decode cX5_sun 13 = .ok (.iconst 0, 1) := by decide +kernel
theorem dX5_sun_14 : decode cX5_sun 14 = .ok (.bipush 9, 2) := by decide +kernel
theorem dX5_sun_16 : decode cX5_sun 16 = .ok (.invokestatic 44, 3) := by decide +kernel
theorem dX5_sun_19 : decode cX5_sun 19 = .ok (.ifCond .eq 14, 3) := by decide +kernel
theorem dX5_sun_22 : decode cX5_sun 22 = .ok (.aload_n 0, 1) := by decide +kernel
theorem dX5_sun_23 : decode cX5_sun 23 = .ok (.iconst 2, 1) := by decide +kernel
theorem dX5_sun_24 : decode cX5_sun 24 = .ok (.iload_n 1, 1) := by decide +kernel
theorem dX5_sun_25 : decode cX5_sun 25 = .ok (.iadd, 1) := by decide +kernel
theorem dX5_sun_26 : decode cX5_sun 26 = .ok (.iload_n 2, 1) := by decide +kernel
theorem dX5_sun_27 : decode cX5_sun 27 = .ok (.invokevirtual 73, 3) := by decide +kernel
theorem dX5_sun_30 : decode cX5_sun 30 = .ok (.goto 9, 3) := by decide +kernel
theorem dX5_sun_33 : decode cX5_sun 33 = .ok (.aload_n 0, 1) := by decide +kernel
theorem dX5_sun_34 : decode cX5_sun 34 = .ok (.ldc 38, 2) := by decide +kernel
theorem dX5_sun_36 : decode cX5_sun 36 = .ok (.invokevirtual 40, 3) := by decide +kernel
theorem dX5_sun_39 : decode cX5_sun 39 = .ok (.ireturn, 1) := by decide +kernel
theorem dX5_chair_0 : decode cX5_chair 0 = .ok (.iload_n 1, 1) := by decide +kernel
theorem dX5_chair_1 : decode cX5_chair 1 = .ok (.i2l, 1) := by decide +kernel
theorem dX5_chair_2 : decode cX5_chair 2 = .ok (.iconst 0, 1) := by decide +kernel
theorem dX5_chair_3 : decode cX5_chair 3 = .ok (.bipush 9, 2) := by decide +kernel
theorem dX5_chair_5 : decode cX5_chair 5 = .ok (.invokestatic 44, 3) := by decide +kernel
theorem dX5_chair_8 : decode cX5_chair 8 = .ok (.ifCond .eq 11, 3) := by decide +kernel
theorem dX5_chair_11 : decode cX5_chair 11 = .ok (.aload_n 0, 1) := by decide +kernel
theorem dX5_chair_12 : decode cX5_chair 12 = .ok (.iload_n 1, 1) := by decide +kernel
theorem dX5_chair_13 : decode cX5_chair 13 = .ok (.invokevirtual 59, 3) := by decide +kernel
theorem dX5_chair_16 : decode cX5_chair 16 = .ok (.goto 9, 3) := by decide +kernel
theorem dX5_chair_19 : decode cX5_chair 19 = .ok (.aload_n 0, 1) := by decide +kernel
theorem dX5_chair_20 : decode cX5_chair 20 = .ok (.ldc 38, 2) := by decide +kernel
theorem dX5_chair_22 : decode cX5_chair 22 = .ok (.invokevirtual 40, 3) := by decide +kernel
theorem dX5_chair_25 : decode cX5_chair 25 = .ok (.ireturn, 1) := by decide +kernel
theorem dX5_sums_0 : decode cX5_sums 0 = .ok (.iconst 0, 1) := by decide +kernel
theorem dX5_sums_1 : decode cX5_sums 1 = .ok (.istore_n 2, 1) := by decide +kernel
theorem dX5_sums_2 : decode cX5_sums 2 = .ok (.iconst 0, 1) := by decide +kernel
theorem dX5_sums_3 : decode cX5_sums 3 = .ok (.istore_n 3, 1) := by decide +kernel
theorem dX5_sums_4 : decode cX5_sums 4 = .ok (.iload_n 3, 1) := by decide +kernel
theorem dX5_sums_5 : decode cX5_sums 5 = .ok (.aload_n 0, 1) := by decide +kernel
theorem dX5_sums_6 : decode cX5_sums 6 = .ok (.getfield 9, 3) := by decide +kernel
theorem dX5_sums_9 : decode cX5_sums 9 = .ok (.iconst 1, 1) := by decide +kernel
theorem dX5_sums_10 : decode cX5_sums 10 = .ok (.iaload, 1) := by decide +kernel
theorem dX5_sums_11 : decode cX5_sums 11 = .ok (.if_icmp .ge 18, 3) := by decide +kernel
theorem dX5_sums_14 : decode cX5_sums 14 = .ok (.iload_n 2, 1) := by decide +kernel
theorem dX5_sums_15 : decode cX5_sums 15 = .ok (.aload_n 0, 1) := by decide +kernel
theorem dX5_sums_16 : decode cX5_sums 16 = .ok (.iload_n 3, 1) := by decide +kernel
theorem dX5_sums_17 : decode cX5_sums 17 = .ok (.iload_n 1, 1) := by decide +kernel
theorem dX5_sums_18 : decode cX5_sums 18 = .ok (.invokevirtual 52, 3) := by decide +kernel
theorem dX5_sums_21 : decode cX5_sums 21 = .ok (.iadd, 1) := by decide +kernel
theorem dX5_sums_22 : decode cX5_sums 22 = .ok (.istore_n 2, 1) := by decide +kernel
theorem dX5_sums_23 : decode cX5_sums 23 = .ok (.iinc 3 1, 3) := by decide +kernel
theorem dX5_sums_26 : decode cX5_sums 26 = .ok (.goto (-22), 3) := by decide +kernel
theorem dX5_sums_29 : decode cX5_sums 29 = .ok (.iload_n 2, 1) := by decide +kernel
theorem dX5_sums_30 : decode cX5_sums 30 = .ok (.ireturn, 1) := by decide +kernel
theorem dX5_allBrown_0 : decode cX5_allBrown 0 = .ok (.aload_n 0, 1) := by decide +kernel
theorem dX5_allBrown_1 : decode cX5_allBrown 1 = .ok (.iconst 2, 1) := by decide +kernel
theorem dX5_allBrown_2 : decode cX5_allBrown 2 = .ok (.invokevirtual 76, 3) := by decide +kernel
theorem dX5_allBrown_5 : decode cX5_allBrown 5 = .ok (.aload_n 0, 1) := by decide +kernel
theorem dX5_allBrown_6 : decode cX5_allBrown 6 = .ok (.iconst 3, 1) := by decide +kernel
theorem dX5_allBrown_7 : decode cX5_allBrown 7 = .ok (.invokevirtual 76, 3) := by decide +kernel
theorem dX5_allBrown_10 : decode cX5_allBrown 10 = .ok (.iadd, 1) := by decide +kernel
theorem dX5_allBrown_11 : decode cX5_allBrown 11 = .ok (.ireturn, 1) := by decide +kernel
theorem dX5_sitters_0 : decode cX5_sitters 0 = .ok (.iconst 0, 1) := by decide +kernel
theorem dX5_sitters_1 : decode cX5_sitters 1 = .ok (.istore_n 1, 1) := by decide +kernel
theorem dX5_sitters_2 : decode cX5_sitters 2 = .ok (.iconst 0, 1) := by decide +kernel
theorem dX5_sitters_3 : decode cX5_sitters 3 = .ok (.istore_n 2, 1) := by decide +kernel
theorem dX5_sitters_4 : decode cX5_sitters 4 = .ok (.iload_n 2, 1) := by decide +kernel
theorem dX5_sitters_5 : decode cX5_sitters 5 = .ok (.aload_n 0, 1) := by decide +kernel
theorem dX5_sitters_6 : decode cX5_sitters 6 = .ok (.getfield 9, 3) := by decide +kernel
theorem dX5_sitters_9 : decode cX5_sitters 9 = .ok (.iconst 1, 1) := by decide +kernel
theorem dX5_sitters_10 : decode cX5_sitters 10 = .ok (.iaload, 1) := by decide +kernel
theorem dX5_sitters_11 : decode cX5_sitters 11 = .ok (.if_icmp .ge 27, 3) := by decide +kernel
theorem dX5_sitters_14 : decode cX5_sitters 14 = .ok (.iload_n 1, 1) := by decide +kernel
theorem dX5_sitters_15 : decode cX5_sitters 15 = .ok (.aload_n 0, 1) := by decide +kernel
theorem dX5_sitters_16 : decode cX5_sitters 16 = .ok (.iload_n 2, 1) := by decide +kernel
theorem dX5_sitters_17 : decode cX5_sitters 17 = .ok (.invokevirtual 56, 3) := by decide +kernel
theorem dX5_sitters_20 : decode cX5_sitters 20 = .ok (.ifCond .eq 9, 3) := by decide +kernel
theorem dX5_sitters_23 : decode cX5_sitters 23 = .ok (.iconst 1, 1) := by decide +kernel
theorem dX5_sitters_24 : decode cX5_sitters 24 = .ok (.iload_n 2, 1) := by decide +kernel
theorem dX5_sitters_25 : decode cX5_sitters 25 = .ok (.ishl, 1) := by decide +kernel
theorem dX5_sitters_26 : decode cX5_sitters 26 = .ok (.goto 4, 3) := by decide +kernel
theorem dX5_sitters_29 : decode cX5_sitters 29 = .ok (.iconst 0, 1) := by decide +kernel
theorem dX5_sitters_30 : decode cX5_sitters 30 = .ok (.ior, 1) := by decide +kernel
theorem dX5_sitters_31 : decode cX5_sitters 31 = .ok (.istore_n 1, 1) := by decide +kernel
theorem dX5_sitters_32 : decode cX5_sitters 32 = .ok (.iinc 2 1, 3) := by decide +kernel
theorem dX5_sitters_35 : decode cX5_sitters 35 = .ok (.goto (-31), 3) := by decide +kernel
theorem dX5_sitters_38 : decode cX5_sitters 38 = .ok (.iload_n 1, 1) := by decide +kernel
theorem dX5_sitters_39 : decode cX5_sitters 39 = .ok (.ireturn, 1) := by decide +kernel
theorem dX5_evenOnes_0 : decode cX5_evenOnes 0 = .ok (.iconst 0, 1) := by decide +kernel
theorem dX5_evenOnes_1 : decode cX5_evenOnes 1 = .ok (.istore_n 1, 1) := by decide +kernel
theorem dX5_evenOnes_2 : decode cX5_evenOnes 2 = .ok (.iconst 0, 1) := by decide +kernel
theorem dX5_evenOnes_3 : decode cX5_evenOnes 3 = .ok (.istore_n 2, 1) := by decide +kernel
theorem dX5_evenOnes_4 : decode cX5_evenOnes 4 = .ok (.iload_n 2, 1) := by decide +kernel
theorem dX5_evenOnes_5 : decode cX5_evenOnes 5 = .ok (.aload_n 0, 1) := by decide +kernel
theorem dX5_evenOnes_6 : decode cX5_evenOnes 6 = .ok (.getfield 9, 3) := by decide +kernel
theorem dX5_evenOnes_9 : decode cX5_evenOnes 9 = .ok (.iconst 1, 1) := by decide +kernel
theorem dX5_evenOnes_10 : decode cX5_evenOnes 10 = .ok (.iaload, 1) := by decide +kernel
theorem dX5_evenOnes_11 : decode cX5_evenOnes 11 = .ok (.if_icmp .ge 27, 3) := by decide +kernel
theorem dX5_evenOnes_14 : decode cX5_evenOnes 14 = .ok (.iload_n 1, 1) := by decide +kernel
theorem dX5_evenOnes_15 : decode cX5_evenOnes 15 = .ok (.aload_n 0, 1) := by decide +kernel
theorem dX5_evenOnes_16 : decode cX5_evenOnes 16 = .ok (.iload_n 2, 1) := by decide +kernel
theorem dX5_evenOnes_17 : decode cX5_evenOnes 17 = .ok (.invokevirtual 79, 3) := by decide +kernel
theorem dX5_evenOnes_20 : decode cX5_evenOnes 20 = .ok (.ifCond .eq 9, 3) := by decide +kernel
theorem dX5_evenOnes_23 : decode cX5_evenOnes 23 = .ok (.iconst 1, 1) := by decide +kernel
theorem dX5_evenOnes_24 : decode cX5_evenOnes 24 = .ok (.iload_n 2, 1) := by decide +kernel
theorem dX5_evenOnes_25 : decode cX5_evenOnes 25 = .ok (.ishl, 1) := by decide +kernel
theorem dX5_evenOnes_26 : decode cX5_evenOnes 26 = .ok (.goto 4, 3) := by decide +kernel
theorem dX5_evenOnes_29 : decode cX5_evenOnes 29 = .ok (.iconst 0, 1) := by decide +kernel
theorem dX5_evenOnes_30 : decode cX5_evenOnes 30 = .ok (.ior, 1) := by decide +kernel
theorem dX5_evenOnes_31 : decode cX5_evenOnes 31 = .ok (.istore_n 1, 1) := by decide +kernel
theorem dX5_evenOnes_32 : decode cX5_evenOnes 32 = .ok (.iinc 2 1, 3) := by decide +kernel
theorem dX5_evenOnes_35 : decode cX5_evenOnes 35 = .ok (.goto (-31), 3) := by decide +kernel
theorem dX5_evenOnes_38 : decode cX5_evenOnes 38 = .ok (.iload_n 1, 1) := by decide +kernel
theorem dX5_evenOnes_39 : decode cX5_evenOnes 39 = .ok (.ireturn, 1) := by decide +kernel
theorem dX5_now_0 : decode cX5_now 0 = .ok (.iload_n 1, 1) := by decide +kernel
theorem dX5_now_1 : decode cX5_now 1 = .ok (.tableswitch 86 0 6 #[43, 50, 60, 65, 70, 75, 80], 43) := by decide +kernel
theorem dX5_now_44 : decode cX5_now 44 = .ok (.aload_n 0, 1) := by decide +kernel
theorem dX5_now_45 : decode cX5_now 45 = .ok (.getfield 9, 3) := by decide +kernel
theorem dX5_now_48 : decode cX5_now 48 = .ok (.iconst 0, 1) := by decide +kernel
theorem dX5_now_49 : decode cX5_now 49 = .ok (.iaload, 1) := by decide +kernel
theorem dX5_now_50 : decode cX5_now 50 = .ok (.ireturn, 1) := by decide +kernel
theorem dX5_now_51 : decode cX5_now 51 = .ok (.aload_n 0, 1) := by decide +kernel
theorem dX5_now_52 : decode cX5_now 52 = .ok (.getfield 9, 3) := by decide +kernel
theorem dX5_now_55 : decode cX5_now 55 = .ok (.iconst 0, 1) := by decide +kernel
theorem dX5_now_56 : decode cX5_now 56 = .ok (.iaload, 1) := by decide +kernel
theorem dX5_now_57 : decode cX5_now 57 = .ok (.bipush 10, 2) := by decide +kernel
theorem dX5_now_59 : decode cX5_now 59 = .ok (.irem, 1) := by decide +kernel
theorem dX5_now_60 : decode cX5_now 60 = .ok (.ireturn, 1) := by decide +kernel
theorem dX5_now_61 : decode cX5_now 61 = .ok (.aload_n 0, 1) := by decide +kernel
theorem dX5_now_62 : decode cX5_now 62 = .ok (.invokevirtual 62, 3) := by decide +kernel
theorem dX5_now_65 : decode cX5_now 65 = .ok (.ireturn, 1) := by decide +kernel
theorem dX5_now_66 : decode cX5_now 66 = .ok (.aload_n 0, 1) := by decide +kernel
theorem dX5_now_67 : decode cX5_now 67 = .ok (.invokevirtual 82, 3) := by decide +kernel
theorem dX5_now_70 : decode cX5_now 70 = .ok (.ireturn, 1) := by decide +kernel
theorem dX5_now_71 : decode cX5_now 71 = .ok (.aload_n 0, 1) := by decide +kernel
theorem dX5_now_72 : decode cX5_now 72 = .ok (.invokevirtual 85, 3) := by decide +kernel
theorem dX5_now_75 : decode cX5_now 75 = .ok (.ireturn, 1) := by decide +kernel
theorem dX5_now_76 : decode cX5_now 76 = .ok (.aload_n 0, 1) := by decide +kernel
theorem dX5_now_77 : decode cX5_now 77 = .ok (.invokevirtual 88, 3) := by decide +kernel
theorem dX5_now_80 : decode cX5_now 80 = .ok (.ireturn, 1) := by decide +kernel
theorem dX5_now_81 : decode cX5_now 81 = .ok (.aload_n 0, 1) := by decide +kernel
theorem dX5_now_82 : decode cX5_now 82 = .ok (.iconst 4, 1) := by decide +kernel
theorem dX5_now_83 : decode cX5_now 83 = .ok (.invokevirtual 76, 3) := by decide +kernel
theorem dX5_now_86 : decode cX5_now 86 = .ok (.ireturn, 1) := by decide +kernel
theorem dX5_now_87 : decode cX5_now 87 = .ok (.aload_n 0, 1) := by decide +kernel
theorem dX5_now_88 : decode cX5_now 88 = .ok (.ldc 38, 2) := by decide +kernel
theorem dX5_now_90 : decode cX5_now 90 = .ok (.invokevirtual 40, 3) := by decide +kernel
theorem dX5_now_93 : decode cX5_now 93 = .ok (.ireturn, 1) := by decide +kernel
theorem dX5_comesAs_0 : decode cX5_comesAs 0 = .ok (.aload_n 0, 1) := by decide +kernel
theorem dX5_comesAs_1 : decode cX5_comesAs 1 = .ok (.getfield 9, 3) := by decide +kernel
theorem dX5_comesAs_4 : decode cX5_comesAs 4 = .ok (.iconst 1, 1) := by decide +kernel
theorem dX5_comesAs_5 : decode cX5_comesAs 5 = .ok (.iaload, 1) := by decide +kernel
theorem dX5_comesAs_6 : decode cX5_comesAs 6 = .ok (.istore 4, 2) := by decide +kernel
theorem dX5_comesAs_8 : decode cX5_comesAs 8 = .ok (.aload_n 0, 1) := by decide +kernel
theorem dX5_comesAs_9 : decode cX5_comesAs 9 = .ok (.getfield 9, 3) := by decide +kernel
theorem dX5_comesAs_12 : decode cX5_comesAs 12 = .ok (.iconst 1, 1) := by decide +kernel
theorem dX5_comesAs_13 : decode cX5_comesAs 13 = .ok (.dup2, 1) := by decide +kernel
theorem dX5_comesAs_14 : decode cX5_comesAs 14 = .ok (.iaload, 1) := by decide +kernel
theorem dX5_comesAs_15 : decode cX5_comesAs 15 = .ok (.iconst 1, 1) := by decide +kernel
theorem dX5_comesAs_16 : decode cX5_comesAs 16 = .ok (.iadd, 1) := by decide +kernel
theorem dX5_comesAs_17 : decode cX5_comesAs 17 = .ok (.iastore, 1) := by decide +kernel
theorem dX5_comesAs_18 : decode cX5_comesAs 18 = .ok (.aload_n 0, 1) := by decide +kernel
theorem dX5_comesAs_19 : decode cX5_comesAs 19 = .ok (.iload 4, 2) := by decide +kernel
theorem dX5_comesAs_21 : decode cX5_comesAs 21 = .ok (.iconst 0, 1) := by decide +kernel
theorem dX5_comesAs_22 : decode cX5_comesAs 22 = .ok (.iload_n 1, 1) := by decide +kernel
theorem dX5_comesAs_23 : decode cX5_comesAs 23 = .ok (.invokevirtual 91, 3) := by decide +kernel
theorem dX5_comesAs_26 : decode cX5_comesAs 26 = .ok (.aload_n 0, 1) := by decide +kernel
theorem dX5_comesAs_27 : decode cX5_comesAs 27 = .ok (.iload 4, 2) := by decide +kernel
theorem dX5_comesAs_29 : decode cX5_comesAs 29 = .ok (.iconst 1, 1) := by decide +kernel
theorem dX5_comesAs_30 : decode cX5_comesAs 30 = .ok (.iload_n 3, 1) := by decide +kernel
theorem dX5_comesAs_31 : decode cX5_comesAs 31 = .ok (.invokevirtual 91, 3) := by decide +kernel
theorem dX5_comesAs_34 : decode cX5_comesAs 34 = .ok (.aload_n 0, 1) := by decide +kernel
theorem dX5_comesAs_35 : decode cX5_comesAs 35 = .ok (.iload 4, 2) := by decide +kernel
theorem dX5_comesAs_37 : decode cX5_comesAs 37 = .ok (.iconst 2, 1) := by decide +kernel
theorem dX5_comesAs_38 : decode cX5_comesAs 38 = .ok (.iload_n 2, 1) := by decide +kernel
theorem dX5_comesAs_39 : decode cX5_comesAs 39 = .ok (.invokevirtual 91, 3) := by decide +kernel
theorem dX5_comesAs_42 : decode cX5_comesAs 42 = .ok (.aload_n 0, 1) := by decide +kernel
theorem dX5_comesAs_43 : decode cX5_comesAs 43 = .ok (.iload 4, 2) := by decide +kernel
theorem dX5_comesAs_45 : decode cX5_comesAs 45 = .ok (.iconst 3, 1) := by decide +kernel
theorem dX5_comesAs_46 : decode cX5_comesAs 46 = .ok (.iload_n 2, 1) := by decide +kernel
theorem dX5_comesAs_47 : decode cX5_comesAs 47 = .ok (.invokevirtual 91, 3) := by decide +kernel
theorem dX5_comesAs_50 : decode cX5_comesAs 50 = .ok (.aload_n 0, 1) := by decide +kernel
theorem dX5_comesAs_51 : decode cX5_comesAs 51 = .ok (.iload 4, 2) := by decide +kernel
theorem dX5_comesAs_53 : decode cX5_comesAs 53 = .ok (.iconst 4, 1) := by decide +kernel
theorem dX5_comesAs_54 : decode cX5_comesAs 54 = .ok (.iconst 0, 1) := by decide +kernel
theorem dX5_comesAs_55 : decode cX5_comesAs 55 = .ok (.invokevirtual 91, 3) := by decide +kernel
theorem dX5_comesAs_58 : decode cX5_comesAs 58 = .ok (.iload 4, 2) := by decide +kernel
theorem dX5_comesAs_60 : decode cX5_comesAs 60 = .ok (.ireturn, 1) := by decide +kernel
theorem dX5_person_0 : decode cX5_person 0 = .ok (.iload_n 1, 1) := by decide +kernel
theorem dX5_person_1 : decode cX5_person 1 = .ok (.i2l, 1) := by decide +kernel
theorem dX5_person_2 : decode cX5_person 2 = .ok (.iconst 0, 1) := by decide +kernel
theorem dX5_person_3 : decode cX5_person 3 = .ok (.iconst 5, 1) := by decide +kernel
theorem dX5_person_4 : decode cX5_person 4 = .ok (.invokestatic 44, 3) := by decide +kernel
theorem dX5_person_7 : decode cX5_person 7 = .ok (.ifCond .ne 10, 3) := by decide +kernel
theorem dX5_person_10 : decode cX5_person 10 = .ok (.aload_n 0, 1) := by decide +kernel
theorem dX5_person_11 : decode cX5_person 11 = .ok (.ldc 38, 2) := by decide +kernel
theorem dX5_person_13 : decode cX5_person 13 = .ok (.invokevirtual 40, 3) := by decide +kernel
theorem dX5_person_16 : decode cX5_person 16 = .ok (.ireturn, 1) := by decide +kernel
theorem dX5_person_17 : decode cX5_person 17 = .ok (.aload_n 0, 1) := by decide +kernel
theorem dX5_person_18 : decode cX5_person 18 = .ok (.getfield 9, 3) := by decide +kernel
theorem dX5_person_21 : decode cX5_person 21 = .ok (.iconst 1, 1) := by decide +kernel
theorem dX5_person_22 : decode cX5_person 22 = .ok (.iaload, 1) := by decide +kernel
theorem dX5_person_23 : decode cX5_person 23 = .ok (.bipush 8, 2) := by decide +kernel
theorem dX5_person_25 : decode cX5_person 25 = .ok (.if_icmp .ne 12, 3) := by decide +kernel
theorem dX5_person_28 : decode cX5_person 28 = .ok (.aload_n 0, 1) := by decide +kernel
theorem dX5_person_29 : decode cX5_person 29 = .ok (.ldc 95, 2) := by decide +kernel
theorem dX5_person_31 : decode cX5_person 31 = .ok (.invokevirtual 40, 3) := by decide +kernel
theorem dX5_person_34 : decode cX5_person 34 = .ok (.goto 11, 3) := by decide +kernel
theorem dX5_person_37 : decode cX5_person 37 = .ok (.aload_n 0, 1) := by decide +kernel
theorem dX5_person_38 : decode cX5_person 38 = .ok (.iload_n 1, 1) := by decide +kernel
theorem dX5_person_39 : decode cX5_person 39 = .ok (.bipush 20, 2) := by decide +kernel
theorem dX5_person_41 : decode cX5_person 41 = .ok (.iconst (-1), 1) := by decide +kernel
theorem dX5_person_42 : decode cX5_person 42 = .ok (.invokevirtual 96, 3) := by decide +kernel
theorem dX5_person_45 : decode cX5_person 45 = .ok (.ireturn, 1) := by decide +kernel
theorem dX5_of_0 : decode cX5_of 0 = .ok (.aload_n 0, 1) := by decide +kernel
theorem dX5_of_1 : decode cX5_of 1 = .ok (.iload_n 1, 1) := by decide +kernel
theorem dX5_of_2 : decode cX5_of 2 = .ok (.invokevirtual 48, 3) := by decide +kernel
theorem dX5_of_5 : decode cX5_of 5 = .ok (.ifCond .eq 14, 3) := by decide +kernel
theorem dX5_of_8 : decode cX5_of 8 = .ok (.iload_n 2, 1) := by decide +kernel
theorem dX5_of_9 : decode cX5_of 9 = .ok (.i2l, 1) := by decide +kernel
theorem dX5_of_10 : decode cX5_of 10 = .ok (.iconst 0, 1) := by decide +kernel
theorem dX5_of_11 : decode cX5_of 11 = .ok (.bipush 8, 2) := by decide +kernel
theorem dX5_of_13 : decode cX5_of 13 = .ok (.invokestatic 44, 3) := by decide +kernel
theorem dX5_of_16 : decode cX5_of 16 = .ok (.ifCond .ne 10, 3) := by decide +kernel
theorem dX5_of_19 : decode cX5_of 19 = .ok (.aload_n 0, 1) := by decide +kernel
theorem dX5_of_20 : decode cX5_of 20 = .ok (.ldc 38, 2) := by decide +kernel
theorem dX5_of_22 : decode cX5_of 22 = .ok (.invokevirtual 40, 3) := by decide +kernel
theorem dX5_of_25 : decode cX5_of 25 = .ok (.ireturn, 1) := by decide +kernel
theorem dX5_of_26 : decode cX5_of 26 = .ok (.iload_n 2, 1) := by decide +kernel
theorem dX5_of_27 : decode cX5_of 27 = .ok (.tableswitch 55 5 8 #[29, 35, 41, 48], 29) := by decide +kernel
theorem dX5_of_56 : decode cX5_of 56 = .ok (.aload_n 0, 1) := by decide +kernel
theorem dX5_of_57 : decode cX5_of 57 = .ok (.iload_n 1, 1) := by decide +kernel
theorem dX5_of_58 : decode cX5_of 58 = .ok (.invokevirtual 99, 3) := by decide +kernel
theorem dX5_of_61 : decode cX5_of 61 = .ok (.ireturn, 1) := by decide +kernel
theorem dX5_of_62 : decode cX5_of 62 = .ok (.aload_n 0, 1) := by decide +kernel
theorem dX5_of_63 : decode cX5_of 63 = .ok (.iload_n 1, 1) := by decide +kernel
theorem dX5_of_64 : decode cX5_of 64 = .ok (.invokevirtual 102, 3) := by decide +kernel
theorem dX5_of_67 : decode cX5_of 67 = .ok (.ireturn, 1) := by decide +kernel
theorem dX5_of_68 : decode cX5_of 68 = .ok (.aload_n 0, 1) := by decide +kernel
theorem dX5_of_69 : decode cX5_of 69 = .ok (.iload_n 1, 1) := by decide +kernel
theorem dX5_of_70 : decode cX5_of 70 = .ok (.iconst 0, 1) := by decide +kernel
theorem dX5_of_71 : decode cX5_of 71 = .ok (.invokevirtual 66, 3) := by decide +kernel
theorem dX5_of_74 : decode cX5_of 74 = .ok (.ireturn, 1) := by decide +kernel
theorem dX5_of_75 : decode cX5_of 75 = .ok (.aload_n 0, 1) := by decide +kernel
theorem dX5_of_76 : decode cX5_of 76 = .ok (.iload_n 1, 1) := by decide +kernel
theorem dX5_of_77 : decode cX5_of 77 = .ok (.iconst 1, 1) := by decide +kernel
theorem dX5_of_78 : decode cX5_of 78 = .ok (.invokevirtual 66, 3) := by decide +kernel
theorem dX5_of_81 : decode cX5_of 81 = .ok (.ireturn, 1) := by decide +kernel
theorem dX5_of_82 : decode cX5_of 82 = .ok (.aload_n 0, 1) := by decide +kernel
theorem dX5_of_83 : decode cX5_of 83 = .ok (.iload_n 1, 1) := by decide +kernel
theorem dX5_of_84 : decode cX5_of 84 = .ok (.iload_n 2, 1) := by decide +kernel
theorem dX5_of_85 : decode cX5_of 85 = .ok (.invokevirtual 52, 3) := by decide +kernel
theorem dX5_of_88 : decode cX5_of 88 = .ok (.ireturn, 1) := by decide +kernel
theorem dX5_set_0 : decode cX5_set 0 = .ok (.aload_n 0, 1) := by decide +kernel
theorem dX5_set_1 : decode cX5_set 1 = .ok (.iload_n 1, 1) := by decide +kernel
theorem dX5_set_2 : decode cX5_set 2 = .ok (.invokevirtual 48, 3) := by decide +kernel
theorem dX5_set_5 : decode cX5_set 5 = .ok (.ifCond .eq 40, 3) := by decide +kernel
theorem dX5_set_8 : decode cX5_set 8 = .ok (.iload_n 2, 1) := by decide +kernel
theorem dX5_set_9 : decode cX5_set 9 = .ok (.i2l, 1) := by decide +kernel
theorem dX5_set_10 : decode cX5_set 10 = .ok (.iconst 2, 1) := by decide +kernel
theorem dX5_set_11 : decode cX5_set 11 = .ok (.iconst 4, 1) := by decide +kernel
theorem dX5_set_12 : decode cX5_set 12 = .ok (.invokestatic 44, 3) := by decide +kernel
theorem dX5_set_15 : decode cX5_set 15 = .ok (.ifCond .eq 30, 3) := by decide +kernel
theorem dX5_set_18 : decode cX5_set 18 = .ok (.iload_n 3, 1) := by decide +kernel
theorem dX5_set_19 : decode cX5_set 19 = .ok (.i2l, 1) := by decide +kernel
theorem dX5_set_20 : decode cX5_set 20 = .ok (.iconst 0, 1) := by decide +kernel
theorem dX5_set_21 : decode cX5_set 21 = .ok (.iload_n 2, 1) := by decide +kernel
theorem dX5_set_22 : decode cX5_set 22 = .ok (.iconst 4, 1) := by decide +kernel
theorem dX5_set_23 : decode cX5_set 23 = .ok (.if_icmp .ne 9, 3) := by decide +kernel
theorem dX5_set_26 : decode cX5_set 26 = .ok (.sipush 9999, 3) := by decide +kernel
theorem dX5_set_29 : decode cX5_set 29 = .ok (.goto 6, 3) := by decide +kernel
theorem dX5_set_32 : decode cX5_set 32 = .ok (.sipush 200, 3) := by decide +kernel
theorem dX5_set_35 : decode cX5_set 35 = .ok (.invokestatic 44, 3) := by decide +kernel
theorem dX5_set_38 : decode cX5_set 38 = .ok (.ifCond .eq 7, 3) := by decide +kernel
theorem dX5_set_41 : decode cX5_set 41 = .ok (.iconst 1, 1) := by decide +kernel
theorem dX5_set_42 : decode cX5_set 42 = .ok (.goto 4, 3) := by decide +kernel
theorem dX5_set_45 : decode cX5_set 45 = .ok (.iconst 0, 1) := by decide +kernel
theorem dX5_set_46 : decode cX5_set 46 = .ok (.istore 4, 2) := by decide +kernel
theorem dX5_set_48 : decode cX5_set 48 = .ok (.iload 4, 2) := by decide +kernel
theorem dX5_set_50 : decode cX5_set 50 = .ok (.ifCond .eq 19, 3) := by decide +kernel
theorem dX5_set_53 : decode cX5_set 53 = .ok (.aload_n 0, 1) := by decide +kernel
theorem dX5_set_54 : decode cX5_set 54 = .ok (.bipush 12, 2) := by decide +kernel
theorem dX5_set_56 : decode cX5_set 56 = .ok (.iconst 5, 1) := by decide +kernel
theorem dX5_set_57 : decode cX5_set 57 = .ok (.iload_n 1, 1) := by decide +kernel
theorem dX5_set_58 : decode cX5_set 58 = .ok (.imul, 1) := by decide +kernel
theorem dX5_set_59 : decode cX5_set 59 = .ok (.iadd, 1) := by decide +kernel
theorem dX5_set_60 : decode cX5_set 60 = .ok (.iload_n 2, 1) := by decide +kernel
theorem dX5_set_61 : decode cX5_set 61 = .ok (.iadd, 1) := by decide +kernel
theorem dX5_set_62 : decode cX5_set 62 = .ok (.iload_n 3, 1) := by decide +kernel
theorem dX5_set_63 : decode cX5_set 63 = .ok (.invokevirtual 73, 3) := by decide +kernel
theorem dX5_set_66 : decode cX5_set 66 = .ok (.goto 9, 3) := by decide +kernel
theorem dX5_set_69 : decode cX5_set 69 = .ok (.aload_n 0, 1) := by decide +kernel
theorem dX5_set_70 : decode cX5_set 70 = .ok (.ldc 38, 2) := by decide +kernel
theorem dX5_set_72 : decode cX5_set 72 = .ok (.invokevirtual 40, 3) := by decide +kernel
theorem dX5_set_75 : decode cX5_set 75 = .ok (.ireturn, 1) := by decide +kernel
theorem dX5_turn_0 : decode cX5_turn 0 = .ok (.aload_n 0, 1) := by decide +kernel
theorem dX5_turn_1 : decode cX5_turn 1 = .ok (.iload_n 1, 1) := by decide +kernel
theorem dX5_turn_2 : decode cX5_turn 2 = .ok (.invokevirtual 48, 3) := by decide +kernel
theorem dX5_turn_5 : decode cX5_turn 5 = .ok (.ifCond .eq 27, 3) := by decide +kernel
theorem dX5_turn_8 : decode cX5_turn 8 = .ok (.iload_n 2, 1) := by decide +kernel
theorem dX5_turn_9 : decode cX5_turn 9 = .ok (.i2l, 1) := by decide +kernel
theorem dX5_turn_10 : decode cX5_turn 10 = .ok (.iconst 0, 1) := by decide +kernel
theorem dX5_turn_11 : decode cX5_turn 11 = .ok (.iconst 5, 1) := by decide +kernel
theorem dX5_turn_12 : decode cX5_turn 12 = .ok (.invokestatic 44, 3) := by decide +kernel
theorem dX5_turn_15 : decode cX5_turn 15 = .ok (.ifCond .eq 17, 3) := by decide +kernel
theorem dX5_turn_18 : decode cX5_turn 18 = .ok (.aload_n 0, 1) := by decide +kernel
theorem dX5_turn_19 : decode cX5_turn 19 = .ok (.bipush 12, 2) := by decide +kernel
theorem dX5_turn_21 : decode cX5_turn 21 = .ok (.iconst 5, 1) := by decide +kernel
theorem dX5_turn_22 : decode cX5_turn 22 = .ok (.iload_n 1, 1) := by decide +kernel
theorem dX5_turn_23 : decode cX5_turn 23 = .ok (.imul, 1) := by decide +kernel
theorem dX5_turn_24 : decode cX5_turn 24 = .ok (.iadd, 1) := by decide +kernel
theorem dX5_turn_25 : decode cX5_turn 25 = .ok (.iload_n 2, 1) := by decide +kernel
theorem dX5_turn_26 : decode cX5_turn 26 = .ok (.invokevirtual 73, 3) := by decide +kernel
theorem dX5_turn_29 : decode cX5_turn 29 = .ok (.goto 9, 3) := by decide +kernel
theorem dX5_turn_32 : decode cX5_turn 32 = .ok (.aload_n 0, 1) := by decide +kernel
theorem dX5_turn_33 : decode cX5_turn 33 = .ok (.ldc 38, 2) := by decide +kernel
theorem dX5_turn_35 : decode cX5_turn 35 = .ok (.invokevirtual 40, 3) := by decide +kernel
theorem dX5_turn_38 : decode cX5_turn 38 = .ok (.ireturn, 1) := by decide +kernel
theorem dX5_as_0 : decode cX5_as 0 = .ok (.aload_n 0, 1) := by decide +kernel
theorem dX5_as_1 : decode cX5_as 1 = .ok (.iload_n 1, 1) := by decide +kernel
theorem dX5_as_2 : decode cX5_as 2 = .ok (.invokevirtual 48, 3) := by decide +kernel
theorem dX5_as_5 : decode cX5_as 5 = .ok (.ifCond .eq 13, 3) := by decide +kernel
theorem dX5_as_8 : decode cX5_as 8 = .ok (.iload_n 2, 1) := by decide +kernel
theorem dX5_as_9 : decode cX5_as 9 = .ok (.i2l, 1) := by decide +kernel
theorem dX5_as_10 : decode cX5_as 10 = .ok (.iconst 0, 1) := by decide +kernel
theorem dX5_as_11 : decode cX5_as 11 = .ok (.iconst 5, 1) := by decide +kernel
theorem dX5_as_12 : decode cX5_as 12 = .ok (.invokestatic 44, 3) := by decide +kernel
theorem dX5_as_15 : decode cX5_as 15 = .ok (.ifCond .ne 10, 3) := by decide +kernel
theorem dX5_as_18 : decode cX5_as 18 = .ok (.aload_n 0, 1) := by decide +kernel
theorem dX5_as_19 : decode cX5_as 19 = .ok (.ldc 38, 2) := by decide +kernel
theorem dX5_as_21 : decode cX5_as 21 = .ok (.invokevirtual 40, 3) := by decide +kernel
theorem dX5_as_24 : decode cX5_as 24 = .ok (.ireturn, 1) := by decide +kernel
theorem dX5_as_25 : decode cX5_as 25 = .ok (.aload_n 0, 1) := by decide +kernel
theorem dX5_as_26 : decode cX5_as 26 = .ok (.iload_n 1, 1) := by decide +kernel
theorem dX5_as_27 : decode cX5_as 27 = .ok (.iconst 0, 1) := by decide +kernel
theorem dX5_as_28 : decode cX5_as 28 = .ok (.invokevirtual 52, 3) := by decide +kernel
theorem dX5_as_31 : decode cX5_as 31 = .ok (.istore_n 3, 1) := by decide +kernel
theorem dX5_as_32 : decode cX5_as 32 = .ok (.iload_n 2, 1) := by decide +kernel
theorem dX5_as_33 : decode cX5_as 33 = .ok (.ifCond .eq 28, 3) := by decide +kernel
theorem dX5_as_36 : decode cX5_as 36 = .ok (.iload_n 2, 1) := by decide +kernel
theorem dX5_as_37 : decode cX5_as 37 = .ok (.iload_n 3, 1) := by decide +kernel
theorem dX5_as_38 : decode cX5_as 38 = .ok (.if_icmp .eq 23, 3) := by decide +kernel
theorem dX5_as_41 : decode cX5_as 41 = .ok (.iload_n 2, 1) := by decide +kernel
theorem dX5_as_42 : decode cX5_as 42 = .ok (.iconst 2, 1) := by decide +kernel
theorem dX5_as_43 : decode cX5_as 43 = .ok (.if_icmp .ne 8, 3) := by decide +kernel
theorem dX5_as_46 : decode cX5_as 46 = .ok (.iload_n 3, 1) := by decide +kernel
theorem dX5_as_47 : decode cX5_as 47 = .ok (.iconst 4, 1) := by decide +kernel
theorem dX5_as_48 : decode cX5_as 48 = .ok (.if_icmp .eq 13, 3) := by decide +kernel
theorem dX5_as_51 : decode cX5_as 51 = .ok (.iload_n 2, 1) := by decide +kernel
theorem dX5_as_52 : decode cX5_as 52 = .ok (.iconst 1, 1) := by decide +kernel
theorem dX5_as_53 : decode cX5_as 53 = .ok (.if_icmp .ne 12, 3) := by decide +kernel
theorem dX5_as_56 : decode cX5_as 56 = .ok (.iload_n 3, 1) := by decide +kernel
theorem dX5_as_57 : decode cX5_as 57 = .ok (.iconst 5, 1) := by decide +kernel
theorem dX5_as_58 : decode cX5_as 58 = .ok (.if_icmp .ne 7, 3) := by decide +kernel
theorem dX5_as_61 : decode cX5_as 61 = .ok (.iconst 1, 1) := by decide +kernel
theorem dX5_as_62 : decode cX5_as 62 = .ok (.goto 4, 3) := by decide +kernel
theorem dX5_as_65 : decode cX5_as 65 = .ok (.iconst 0, 1) := by decide +kernel
theorem dX5_as_66 : decode cX5_as 66 = .ok (.istore 4, 2) := by decide +kernel
theorem dX5_as_68 : decode cX5_as 68 = .ok (.iload 4, 2) := by decide +kernel
theorem dX5_as_70 : decode cX5_as 70 = .ok (.ifCond .eq 11, 3) := by decide +kernel
theorem dX5_as_73 : decode cX5_as 73 = .ok (.aload_n 0, 1) := by decide +kernel
theorem dX5_as_74 : decode cX5_as 74 = .ok (.iload_n 1, 1) := by decide +kernel
theorem dX5_as_75 : decode cX5_as 75 = .ok (.invokevirtual 105, 3) := by decide +kernel
theorem dX5_as_78 : decode cX5_as 78 = .ok (.goto 9, 3) := by decide +kernel
theorem dX5_as_81 : decode cX5_as 81 = .ok (.aload_n 0, 1) := by decide +kernel
theorem dX5_as_82 : decode cX5_as 82 = .ok (.ldc 108, 2) := by decide +kernel
theorem dX5_as_84 : decode cX5_as 84 = .ok (.invokevirtual 40, 3) := by decide +kernel
theorem dX5_as_87 : decode cX5_as 87 = .ok (.ireturn, 1) := by decide +kernel
theorem dX5_isFreeFor_0 : decode cX5_isFreeFor 0 = .ok (.iload_n 1, 1) := by decide +kernel
theorem dX5_isFreeFor_1 : decode cX5_isFreeFor 1 = .ok (.ifCond .ge 7, 3) := by decide +kernel
theorem dX5_isFreeFor_4 : decode cX5_isFreeFor 4 = .ok (.iconst (-1), 1) := by decide +kernel
theorem dX5_isFreeFor_5 : decode cX5_isFreeFor 5 = .ok (.goto 8, 3) := by decide +kernel
theorem dX5_isFreeFor_8 : decode cX5_isFreeFor 8 = .ok (.aload_n 0, 1) := by decide +kernel
theorem dX5_isFreeFor_9 : decode cX5_isFreeFor 9 = .ok (.iload_n 1, 1) := by decide +kernel
theorem dX5_isFreeFor_10 : decode cX5_isFreeFor 10 = .ok (.invokevirtual 59, 3) := by decide +kernel
theorem dX5_isFreeFor_13 : decode cX5_isFreeFor 13 = .ok (.istore_n 3, 1) := by decide +kernel
theorem dX5_isFreeFor_14 : decode cX5_isFreeFor 14 = .ok (.iload_n 3, 1) := by decide +kernel
theorem dX5_isFreeFor_15 : decode cX5_isFreeFor 15 = .ok (.ifCond .lt 8, 3) := by decide +kernel
theorem dX5_isFreeFor_18 : decode cX5_isFreeFor 18 = .ok (.iload_n 3, 1) := by decide +kernel
theorem dX5_isFreeFor_19 : decode cX5_isFreeFor 19 = .ok (.iload_n 2, 1) := by decide +kernel
theorem dX5_isFreeFor_20 : decode cX5_isFreeFor 20 = .ok (.if_icmp .ne 7, 3) := by decide +kernel
theorem dX5_isFreeFor_23 : decode cX5_isFreeFor 23 = .ok (.iconst 1, 1) := by decide +kernel
theorem dX5_isFreeFor_24 : decode cX5_isFreeFor 24 = .ok (.goto 4, 3) := by decide +kernel
theorem dX5_isFreeFor_27 : decode cX5_isFreeFor 27 = .ok (.iconst 0, 1) := by decide +kernel
theorem dX5_isFreeFor_28 : decode cX5_isFreeFor 28 = .ok (.ireturn, 1) := by decide +kernel
theorem dX5_sit_0 : decode cX5_sit 0 = .ok (.aload_n 0, 1) := by decide +kernel
theorem dX5_sit_1 : decode cX5_sit 1 = .ok (.iload_n 1, 1) := by decide +kernel
theorem dX5_sit_2 : decode cX5_sit 2 = .ok (.invokevirtual 48, 3) := by decide +kernel
theorem dX5_sit_5 : decode cX5_sit 5 = .ok (.ifCond .eq 14, 3) := by decide +kernel
theorem dX5_sit_8 : decode cX5_sit 8 = .ok (.iload_n 2, 1) := by decide +kernel
theorem dX5_sit_9 : decode cX5_sit 9 = .ok (.i2l, 1) := by decide +kernel
theorem dX5_sit_10 : decode cX5_sit 10 = .ok (.iconst (-1), 1) := by decide +kernel
theorem dX5_sit_11 : decode cX5_sit 11 = .ok (.bipush 9, 2) := by decide +kernel
theorem dX5_sit_13 : decode cX5_sit 13 = .ok (.invokestatic 44, 3) := by decide +kernel
theorem dX5_sit_16 : decode cX5_sit 16 = .ok (.ifCond .ne 10, 3) := by decide +kernel
theorem dX5_sit_19 : decode cX5_sit 19 = .ok (.aload_n 0, 1) := by decide +kernel
theorem dX5_sit_20 : decode cX5_sit 20 = .ok (.ldc 38, 2) := by decide +kernel
theorem dX5_sit_22 : decode cX5_sit 22 = .ok (.invokevirtual 40, 3) := by decide +kernel
theorem dX5_sit_25 : decode cX5_sit 25 = .ok (.ireturn, 1) := by decide +kernel
theorem dX5_sit_26 : decode cX5_sit 26 = .ok (.aload_n 0, 1) := by decide +kernel
theorem dX5_sit_27 : decode cX5_sit 27 = .ok (.iload_n 2, 1) := by decide +kernel
theorem dX5_sit_28 : decode cX5_sit 28 = .ok (.iload_n 1, 1) := by decide +kernel
theorem dX5_sit_29 : decode cX5_sit 29 = .ok (.invokevirtual 109, 3) := by decide +kernel
theorem dX5_sit_32 : decode cX5_sit 32 = .ok (.ifCond .eq 19, 3) := by decide +kernel
theorem dX5_sit_35 : decode cX5_sit 35 = .ok (.aload_n 0, 1) := by decide +kernel
theorem dX5_sit_36 : decode cX5_sit 36 = .ok (.bipush 12, 2) := by decide +kernel
theorem dX5_sit_38 : decode cX5_sit 38 = .ok (.iconst 5, 1) := by decide +kernel
theorem dX5_sit_39 : decode cX5_sit 39 = .ok (.iload_n 1, 1) := by decide +kernel
theorem dX5_sit_40 : decode cX5_sit 40 = .ok (.imul, 1) := by decide +kernel
theorem dX5_sit_41 : decode cX5_sit 41 = .ok (.iadd, 1) := by decide +kernel
theorem dX5_sit_42 : decode cX5_sit 42 = .ok (.iconst 1, 1) := by decide +kernel
theorem dX5_sit_43 : decode cX5_sit 43 = .ok (.iadd, 1) := by decide +kernel
theorem dX5_sit_44 : decode cX5_sit 44 = .ok (.iload_n 2, 1) := by decide +kernel
theorem dX5_sit_45 : decode cX5_sit 45 = .ok (.invokevirtual 73, 3) := by decide +kernel
theorem dX5_sit_48 : decode cX5_sit 48 = .ok (.goto 9, 3) := by decide +kernel
theorem dX5_sit_51 : decode cX5_sit 51 = .ok (.aload_n 0, 1) := by decide +kernel
theorem dX5_sit_52 : decode cX5_sit 52 = .ok (.ldc 113, 2) := by decide +kernel
theorem dX5_sit_54 : decode cX5_sit 54 = .ok (.invokevirtual 40, 3) := by decide +kernel
theorem dX5_sit_57 : decode cX5_sit 57 = .ok (.ireturn, 1) := by decide +kernel
theorem dX5_given_0 : decode cX5_given 0 = .ok (.aload_n 0, 1) := by decide +kernel
theorem dX5_given_1 : decode cX5_given 1 = .ok (.iload_n 1, 1) := by decide +kernel
theorem dX5_given_2 : decode cX5_given 2 = .ok (.invokevirtual 48, 3) := by decide +kernel
theorem dX5_given_5 : decode cX5_given 5 = .ok (.ifCond .eq 22, 3) := by decide +kernel
theorem dX5_given_8 : decode cX5_given 8 = .ok (.iload_n 2, 1) := by decide +kernel
theorem dX5_given_9 : decode cX5_given 9 = .ok (.i2l, 1) := by decide +kernel
theorem dX5_given_10 : decode cX5_given 10 = .ok (.iconst 0, 1) := by decide +kernel
theorem dX5_given_11 : decode cX5_given 11 = .ok (.iconst 1, 1) := by decide +kernel
theorem dX5_given_12 : decode cX5_given 12 = .ok (.invokestatic 44, 3) := by decide +kernel
theorem dX5_given_15 : decode cX5_given 15 = .ok (.ifCond .eq 12, 3) := by decide +kernel
theorem dX5_given_18 : decode cX5_given 18 = .ok (.aload_n 0, 1) := by decide +kernel
theorem dX5_given_19 : decode cX5_given 19 = .ok (.iload_n 1, 1) := by decide +kernel
theorem dX5_given_20 : decode cX5_given 20 = .ok (.iload_n 2, 1) := by decide +kernel
theorem dX5_given_21 : decode cX5_given 21 = .ok (.invokevirtual 114, 3) := by decide +kernel
theorem dX5_given_24 : decode cX5_given 24 = .ok (.goto 9, 3) := by decide +kernel
theorem dX5_given_27 : decode cX5_given 27 = .ok (.aload_n 0, 1) := by decide +kernel
theorem dX5_given_28 : decode cX5_given 28 = .ok (.ldc 38, 2) := by decide +kernel
theorem dX5_given_30 : decode cX5_given 30 = .ok (.invokevirtual 40, 3) := by decide +kernel
theorem dX5_given_33 : decode cX5_given 33 = .ok (.ireturn, 1) := by decide +kernel
theorem dX5_browns_0 : decode cX5_browns 0 = .ok (.aload_n 0, 1) := by decide +kernel
theorem dX5_browns_1 : decode cX5_browns 1 = .ok (.getfield 22, 3) := by decide +kernel
theorem dX5_browns_4 : decode cX5_browns 4 = .ok (.iconst 2, 1) := by decide +kernel
theorem dX5_browns_5 : decode cX5_browns 5 = .ok (.iload_n 1, 1) := by decide +kernel
theorem dX5_browns_6 : decode cX5_browns 6 = .ok (.imul, 1) := by decide +kernel
theorem dX5_browns_7 : decode cX5_browns 7 = .ok (.iload_n 2, 1) := by decide +kernel
theorem dX5_browns_8 : decode cX5_browns 8 = .ok (.iadd, 1) := by decide +kernel
theorem dX5_browns_9 : decode cX5_browns 9 = .ok (.iaload, 1) := by decide +kernel
theorem dX5_browns_10 : decode cX5_browns 10 = .ok (.istore_n 3, 1) := by decide +kernel
theorem dX5_browns_11 : decode cX5_browns 11 = .ok (.aload_n 0, 1) := by decide +kernel
theorem dX5_browns_12 : decode cX5_browns 12 = .ok (.iload_n 1, 1) := by decide +kernel
theorem dX5_browns_13 : decode cX5_browns 13 = .ok (.iconst 2, 1) := by decide +kernel
theorem dX5_browns_14 : decode cX5_browns 14 = .ok (.iload_n 2, 1) := by decide +kernel
theorem dX5_browns_15 : decode cX5_browns 15 = .ok (.iadd, 1) := by decide +kernel
theorem dX5_browns_16 : decode cX5_browns 16 = .ok (.aload_n 0, 1) := by decide +kernel
theorem dX5_browns_17 : decode cX5_browns 17 = .ok (.iload_n 1, 1) := by decide +kernel
theorem dX5_browns_18 : decode cX5_browns 18 = .ok (.iconst 2, 1) := by decide +kernel
theorem dX5_browns_19 : decode cX5_browns 19 = .ok (.iload_n 2, 1) := by decide +kernel
theorem dX5_browns_20 : decode cX5_browns 20 = .ok (.iadd, 1) := by decide +kernel
theorem dX5_browns_21 : decode cX5_browns 21 = .ok (.invokevirtual 52, 3) := by decide +kernel
theorem dX5_browns_24 : decode cX5_browns 24 = .ok (.aload_n 0, 1) := by decide +kernel
theorem dX5_browns_25 : decode cX5_browns 25 = .ok (.iload_n 1, 1) := by decide +kernel
theorem dX5_browns_26 : decode cX5_browns 26 = .ok (.iload_n 3, 1) := by decide +kernel
theorem dX5_browns_27 : decode cX5_browns 27 = .ok (.invokevirtual 117, 3) := by decide +kernel
theorem dX5_browns_30 : decode cX5_browns 30 = .ok (.iadd, 1) := by decide +kernel
theorem dX5_browns_31 : decode cX5_browns 31 = .ok (.aload_n 0, 1) := by decide +kernel
theorem dX5_browns_32 : decode cX5_browns 32 = .ok (.iload_n 1, 1) := by decide +kernel
theorem dX5_browns_33 : decode cX5_browns 33 = .ok (.invokevirtual 99, 3) := by decide +kernel
theorem dX5_browns_36 : decode cX5_browns 36 = .ok (.isub, 1) := by decide +kernel
theorem dX5_browns_37 : decode cX5_browns 37 = .ok (.iconst 0, 1) := by decide +kernel
theorem dX5_browns_38 : decode cX5_browns 38 = .ok (.sipush 200, 3) := by decide +kernel
theorem dX5_browns_41 : decode cX5_browns 41 = .ok (.invokestatic 120, 3) := by decide +kernel
theorem dX5_browns_44 : decode cX5_browns 44 = .ok (.invokevirtual 91, 3) := by decide +kernel
theorem dX5_browns_47 : decode cX5_browns 47 = .ok (.aload_n 0, 1) := by decide +kernel
theorem dX5_browns_48 : decode cX5_browns 48 = .ok (.iload_n 1, 1) := by decide +kernel
theorem dX5_browns_49 : decode cX5_browns 49 = .ok (.iconst 4, 1) := by decide +kernel
theorem dX5_browns_50 : decode cX5_browns 50 = .ok (.aload_n 0, 1) := by decide +kernel
theorem dX5_browns_51 : decode cX5_browns 51 = .ok (.iload_n 1, 1) := by decide +kernel
theorem dX5_browns_52 : decode cX5_browns 52 = .ok (.iconst 4, 1) := by decide +kernel
theorem dX5_browns_53 : decode cX5_browns 53 = .ok (.invokevirtual 52, 3) := by decide +kernel
theorem dX5_browns_56 : decode cX5_browns 56 = .ok (.iload_n 3, 1) := by decide +kernel
theorem dX5_browns_57 : decode cX5_browns 57 = .ok (.aload_n 0, 1) := by decide +kernel
theorem dX5_browns_58 : decode cX5_browns 58 = .ok (.iload_n 1, 1) := by decide +kernel
theorem dX5_browns_59 : decode cX5_browns 59 = .ok (.invokevirtual 102, 3) := by decide +kernel
theorem dX5_browns_62 : decode cX5_browns 62 = .ok (.if_icmp .lt 7, 3) := by decide +kernel
theorem dX5_browns_65 : decode cX5_browns 65 = .ok (.iconst 1, 1) := by decide +kernel
theorem dX5_browns_66 : decode cX5_browns 66 = .ok (.goto 4, 3) := by decide +kernel
theorem dX5_browns_69 : decode cX5_browns 69 = .ok (.iconst 0, 1) := by decide +kernel
theorem dX5_browns_70 : decode cX5_browns 70 = .ok (.iadd, 1) := by decide +kernel
theorem dX5_browns_71 : decode cX5_browns 71 = .ok (.iconst 0, 1) := by decide +kernel
theorem dX5_browns_72 : decode cX5_browns 72 = .ok (.sipush 9999, 3) := by decide +kernel
theorem dX5_browns_75 : decode cX5_browns 75 = .ok (.invokestatic 120, 3) := by decide +kernel
theorem dX5_browns_78 : decode cX5_browns 78 = .ok (.invokevirtual 91, 3) := by decide +kernel
theorem dX5_browns_81 : decode cX5_browns 81 = .ok (.return_, 1) := by decide +kernel
theorem dX5_goes_0 : decode cX5_goes 0 = .ok (.iconst 0, 1) := by decide +kernel
theorem dX5_goes_1 : decode cX5_goes 1 = .ok (.istore_n 1, 1) := by decide +kernel
theorem dX5_goes_2 : decode cX5_goes 2 = .ok (.iload_n 1, 1) := by decide +kernel
theorem dX5_goes_3 : decode cX5_goes 3 = .ok (.iconst 2, 1) := by decide +kernel
theorem dX5_goes_4 : decode cX5_goes 4 = .ok (.aload_n 0, 1) := by decide +kernel
theorem dX5_goes_5 : decode cX5_goes 5 = .ok (.getfield 9, 3) := by decide +kernel
theorem dX5_goes_8 : decode cX5_goes 8 = .ok (.iconst 1, 1) := by decide +kernel
theorem dX5_goes_9 : decode cX5_goes 9 = .ok (.iaload, 1) := by decide +kernel
theorem dX5_goes_10 : decode cX5_goes 10 = .ok (.imul, 1) := by decide +kernel
theorem dX5_goes_11 : decode cX5_goes 11 = .ok (.if_icmp .ge 25, 3) := by decide +kernel
theorem dX5_goes_14 : decode cX5_goes 14 = .ok (.aload_n 0, 1) := by decide +kernel
theorem dX5_goes_15 : decode cX5_goes 15 = .ok (.getfield 22, 3) := by decide +kernel
theorem dX5_goes_18 : decode cX5_goes 18 = .ok (.iload_n 1, 1) := by decide +kernel
theorem dX5_goes_19 : decode cX5_goes 19 = .ok (.aload_n 0, 1) := by decide +kernel
theorem dX5_goes_20 : decode cX5_goes 20 = .ok (.iload_n 1, 1) := by decide +kernel
theorem dX5_goes_21 : decode cX5_goes 21 = .ok (.iconst 2, 1) := by decide +kernel
theorem dX5_goes_22 : decode cX5_goes 22 = .ok (.idiv, 1) := by decide +kernel
theorem dX5_goes_23 : decode cX5_goes 23 = .ok (.iload_n 1, 1) := by decide +kernel
theorem dX5_goes_24 : decode cX5_goes 24 = .ok (.iconst 2, 1) := by decide +kernel
theorem dX5_goes_25 : decode cX5_goes 25 = .ok (.irem, 1) := by decide +kernel
theorem dX5_goes_26 : decode cX5_goes 26 = .ok (.invokevirtual 114, 3) := by decide +kernel
theorem dX5_goes_29 : decode cX5_goes 29 = .ok (.iastore, 1) := by decide +kernel
theorem dX5_goes_30 : decode cX5_goes 30 = .ok (.iinc 1 1, 3) := by decide +kernel
theorem dX5_goes_33 : decode cX5_goes 33 = .ok (.goto (-31), 3) := by decide +kernel
theorem dX5_goes_36 : decode cX5_goes 36 = .ok (.iconst 0, 1) := by decide +kernel
theorem dX5_goes_37 : decode cX5_goes 37 = .ok (.istore_n 1, 1) := by decide +kernel
theorem dX5_goes_38 : decode cX5_goes 38 = .ok (.iload_n 1, 1) := by decide +kernel
theorem dX5_goes_39 : decode cX5_goes 39 = .ok (.iconst 2, 1) := by decide +kernel
theorem dX5_goes_40 : decode cX5_goes 40 = .ok (.aload_n 0, 1) := by decide +kernel
theorem dX5_goes_41 : decode cX5_goes 41 = .ok (.getfield 9, 3) := by decide +kernel
theorem dX5_goes_44 : decode cX5_goes 44 = .ok (.iconst 1, 1) := by decide +kernel
theorem dX5_goes_45 : decode cX5_goes 45 = .ok (.iaload, 1) := by decide +kernel
theorem dX5_goes_46 : decode cX5_goes 46 = .ok (.imul, 1) := by decide +kernel
theorem dX5_goes_47 : decode cX5_goes 47 = .ok (.if_icmp .ge 29, 3) := by decide +kernel
theorem dX5_goes_50 : decode cX5_goes 50 = .ok (.aload_n 0, 1) := by decide +kernel
theorem dX5_goes_51 : decode cX5_goes 51 = .ok (.iload_n 1, 1) := by decide +kernel
theorem dX5_goes_52 : decode cX5_goes 52 = .ok (.iconst 2, 1) := by decide +kernel
theorem dX5_goes_53 : decode cX5_goes 53 = .ok (.idiv, 1) := by decide +kernel
theorem dX5_goes_54 : decode cX5_goes 54 = .ok (.invokevirtual 56, 3) := by decide +kernel
theorem dX5_goes_57 : decode cX5_goes 57 = .ok (.ifCond .eq 13, 3) := by decide +kernel
theorem dX5_goes_60 : decode cX5_goes 60 = .ok (.aload_n 0, 1) := by decide +kernel
theorem dX5_goes_61 : decode cX5_goes 61 = .ok (.iload_n 1, 1) := by decide +kernel
theorem dX5_goes_62 : decode cX5_goes 62 = .ok (.iconst 2, 1) := by decide +kernel
theorem dX5_goes_63 : decode cX5_goes 63 = .ok (.idiv, 1) := by decide +kernel
theorem dX5_goes_64 : decode cX5_goes 64 = .ok (.iload_n 1, 1) := by decide +kernel
theorem dX5_goes_65 : decode cX5_goes 65 = .ok (.iconst 2, 1) := by decide +kernel
theorem dX5_goes_66 : decode cX5_goes 66 = .ok (.irem, 1) := by decide +kernel
theorem dX5_goes_67 : decode cX5_goes 67 = .ok (.invokevirtual 123, 3) := by decide +kernel
theorem dX5_goes_70 : decode cX5_goes 70 = .ok (.iinc 1 1, 3) := by decide +kernel
theorem dX5_goes_73 : decode cX5_goes 73 = .ok (.goto (-35), 3) := by decide +kernel
theorem dX5_goes_76 : decode cX5_goes 76 = .ok (.aload_n 0, 1) := by decide +kernel
theorem dX5_goes_77 : decode cX5_goes 77 = .ok (.getfield 9, 3) := by decide +kernel
theorem dX5_goes_80 : decode cX5_goes 80 = .ok (.iconst 0, 1) := by decide +kernel
theorem dX5_goes_81 : decode cX5_goes 81 = .ok (.dup2, 1) := by decide +kernel
theorem dX5_goes_82 : decode cX5_goes 82 = .ok (.iaload, 1) := by decide +kernel
theorem dX5_goes_83 : decode cX5_goes 83 = .ok (.iconst 1, 1) := by decide +kernel
theorem dX5_goes_84 : decode cX5_goes 84 = .ok (.iadd, 1) := by decide +kernel
theorem dX5_goes_85 : decode cX5_goes 85 = .ok (.iastore, 1) := by decide +kernel
theorem dX5_goes_86 : decode cX5_goes 86 = .ok (.return_, 1) := by decide +kernel
theorem dX5_goesFor_0 : decode cX5_goesFor 0 = .ok (.iconst 0, 1) := by decide +kernel
theorem dX5_goesFor_1 : decode cX5_goesFor 1 = .ok (.istore_n 2, 1) := by decide +kernel
theorem dX5_goesFor_2 : decode cX5_goesFor 2 = .ok (.iload_n 2, 1) := by decide +kernel
theorem dX5_goesFor_3 : decode cX5_goesFor 3 = .ok (.iload_n 1, 1) := by decide +kernel
theorem dX5_goesFor_4 : decode cX5_goesFor 4 = .ok (.if_icmp .ge 13, 3) := by decide +kernel
theorem dX5_goesFor_7 : decode cX5_goesFor 7 = .ok (.aload_n 0, 1) := by decide +kernel
theorem dX5_goesFor_8 : decode cX5_goesFor 8 = .ok (.invokevirtual 127, 3) := by decide +kernel
theorem dX5_goesFor_11 : decode cX5_goesFor 11 = .ok (.iinc 2 1, 3) := by decide +kernel
theorem dX5_goesFor_14 : decode cX5_goesFor 14 = .ok (.goto (-12), 3) := by decide +kernel
theorem dX5_goesFor_17 : decode cX5_goesFor 17 = .ok (.return_, 1) := by decide +kernel
theorem dX5_hours_0 : decode cX5_hours 0 = .ok (.iload_n 1, 1) := by decide +kernel
theorem dX5_hours_1 : decode cX5_hours 1 = .ok (.i2l, 1) := by decide +kernel
theorem dX5_hours_2 : decode cX5_hours 2 = .ok (.iconst 1, 1) := by decide +kernel
theorem dX5_hours_3 : decode cX5_hours 3 = .ok (.bipush 100, 2) := by decide +kernel
theorem dX5_hours_5 : decode cX5_hours 5 = .ok (.invokestatic 44, 3) := by decide +kernel
theorem dX5_hours_8 : decode cX5_hours 8 = .ok (.ifCond .ne 10, 3) := by decide +kernel
theorem dX5_hours_11 : decode cX5_hours 11 = .ok (.aload_n 0, 1) := by decide +kernel
theorem dX5_hours_12 : decode cX5_hours 12 = .ok (.ldc 38, 2) := by decide +kernel
theorem dX5_hours_14 : decode cX5_hours 14 = .ok (.invokevirtual 40, 3) := by decide +kernel
theorem dX5_hours_17 : decode cX5_hours 17 = .ok (.ireturn, 1) := by decide +kernel
theorem dX5_hours_18 : decode cX5_hours 18 = .ok (.aload_n 0, 1) := by decide +kernel
theorem dX5_hours_19 : decode cX5_hours 19 = .ok (.getfield 9, 3) := by decide +kernel
theorem dX5_hours_22 : decode cX5_hours 22 = .ok (.iconst 0, 1) := by decide +kernel
theorem dX5_hours_23 : decode cX5_hours 23 = .ok (.iaload, 1) := by decide +kernel
theorem dX5_hours_24 : decode cX5_hours 24 = .ok (.iload_n 1, 1) := by decide +kernel
theorem dX5_hours_25 : decode cX5_hours 25 = .ok (.iadd, 1) := by decide +kernel
theorem dX5_hours_26 : decode cX5_hours 26 = .ok (.ldc 130, 2) := by decide +kernel
theorem dX5_hours_28 : decode cX5_hours 28 = .ok (.if_icmp .le 10, 3) := by decide +kernel
theorem dX5_hours_31 : decode cX5_hours 31 = .ok (.aload_n 0, 1) := by decide +kernel
theorem dX5_hours_32 : decode cX5_hours 32 = .ok (.ldc 113, 2) := by decide +kernel
theorem dX5_hours_34 : decode cX5_hours 34 = .ok (.invokevirtual 40, 3) := by decide +kernel
theorem dX5_hours_37 : decode cX5_hours 37 = .ok (.ireturn, 1) := by decide +kernel
theorem dX5_hours_38 : decode cX5_hours 38 = .ok (.aload_n 0, 1) := by decide +kernel
theorem dX5_hours_39 : decode cX5_hours 39 = .ok (.iload_n 1, 1) := by decide +kernel
theorem dX5_hours_40 : decode cX5_hours 40 = .ok (.invokevirtual 131, 3) := by decide +kernel
theorem dX5_hours_43 : decode cX5_hours 43 = .ok (.aload_n 0, 1) := by decide +kernel
theorem dX5_hours_44 : decode cX5_hours 44 = .ok (.invokevirtual 88, 3) := by decide +kernel
theorem dX5_hours_47 : decode cX5_hours 47 = .ok (.ireturn, 1) := by decide +kernel
theorem dX5_thinks_0 : decode cX5_thinks 0 = .ok (.aload_n 0, 1) := by decide +kernel
theorem dX5_thinks_1 : decode cX5_thinks 1 = .ok (.getfield 9, 3) := by decide +kernel
theorem dX5_thinks_4 : decode cX5_thinks 4 = .ok (.aload_n 0, 1) := by decide +kernel
theorem dX5_thinks_5 : decode cX5_thinks 5 = .ok (.getfield 16, 3) := by decide +kernel
theorem dX5_thinks_8 : decode cX5_thinks 8 = .ok (.invokestatic 135, 3) := by decide +kernel
theorem dX5_thinks_11 : decode cX5_thinks 11 = .ok (.return_, 1) := by decide +kernel
theorem dX5_putsBack_0 : decode cX5_putsBack 0 = .ok (.aload_n 0, 1) := by decide +kernel
theorem dX5_putsBack_1 : decode cX5_putsBack 1 = .ok (.getfield 16, 3) := by decide +kernel
theorem dX5_putsBack_4 : decode cX5_putsBack 4 = .ok (.aload_n 0, 1) := by decide +kernel
theorem dX5_putsBack_5 : decode cX5_putsBack 5 = .ok (.getfield 9, 3) := by decide +kernel
theorem dX5_putsBack_8 : decode cX5_putsBack 8 = .ok (.invokestatic 135, 3) := by decide +kernel
theorem dX5_putsBack_11 : decode cX5_putsBack 11 = .ok (.return_, 1) := by decide +kernel
theorem dX5_on_0 : decode cX5_on 0 = .ok (.aload_n 0, 1) := by decide +kernel
theorem dX5_on_1 : decode cX5_on 1 = .ok (.iload_n 1, 1) := by decide +kernel
theorem dX5_on_2 : decode cX5_on 2 = .ok (.invokevirtual 48, 3) := by decide +kernel
theorem dX5_on_5 : decode cX5_on 5 = .ok (.ifCond .eq 25, 3) := by decide +kernel
theorem dX5_on_8 : decode cX5_on 8 = .ok (.iload_n 2, 1) := by decide +kernel
theorem dX5_on_9 : decode cX5_on 9 = .ok (.i2l, 1) := by decide +kernel
theorem dX5_on_10 : decode cX5_on 10 = .ok (.iconst 0, 1) := by decide +kernel
theorem dX5_on_11 : decode cX5_on 11 = .ok (.sipush 200, 3) := by decide +kernel
theorem dX5_on_14 : decode cX5_on 14 = .ok (.invokestatic 44, 3) := by decide +kernel
theorem dX5_on_17 : decode cX5_on 17 = .ok (.ifCond .eq 13, 3) := by decide +kernel
theorem dX5_on_20 : decode cX5_on 20 = .ok (.iload_n 3, 1) := by decide +kernel
theorem dX5_on_21 : decode cX5_on 21 = .ok (.i2l, 1) := by decide +kernel
theorem dX5_on_22 : decode cX5_on 22 = .ok (.iconst 0, 1) := by decide +kernel
theorem dX5_on_23 : decode cX5_on 23 = .ok (.iconst 2, 1) := by decide +kernel
theorem dX5_on_24 : decode cX5_on 24 = .ok (.invokestatic 44, 3) := by decide +kernel
theorem dX5_on_27 : decode cX5_on 27 = .ok (.ifCond .ne 10, 3) := by decide +kernel
theorem dX5_on_30 : decode cX5_on 30 = .ok (.aload_n 0, 1) := by decide +kernel
theorem dX5_on_31 : decode cX5_on 31 = .ok (.ldc 38, 2) := by decide +kernel
theorem dX5_on_33 : decode cX5_on 33 = .ok (.invokevirtual 40, 3) := by decide +kernel
theorem dX5_on_36 : decode cX5_on 36 = .ok (.ireturn, 1) := by decide +kernel
theorem dX5_on_37 : decode cX5_on 37 = .ok (.aload_n 0, 1) := by decide +kernel
theorem dX5_on_38 : decode cX5_on 38 = .ok (.invokevirtual 139, 3) := by decide +kernel
theorem dX5_on_41 : decode cX5_on 41 = .ok (.aload_n 0, 1) := by decide +kernel
theorem dX5_on_42 : decode cX5_on 42 = .ok (.iload_n 2, 1) := by decide +kernel
theorem dX5_on_43 : decode cX5_on 43 = .ok (.invokevirtual 131, 3) := by decide +kernel
theorem dX5_on_46 : decode cX5_on 46 = .ok (.aload_n 0, 1) := by decide +kernel
theorem dX5_on_47 : decode cX5_on 47 = .ok (.iload_n 1, 1) := by decide +kernel
theorem dX5_on_48 : decode cX5_on 48 = .ok (.iconst 2, 1) := by decide +kernel
theorem dX5_on_49 : decode cX5_on 49 = .ok (.iload_n 3, 1) := by decide +kernel
theorem dX5_on_50 : decode cX5_on 50 = .ok (.iadd, 1) := by decide +kernel
theorem dX5_on_51 : decode cX5_on 51 = .ok (.invokevirtual 52, 3) := by decide +kernel
theorem dX5_on_54 : decode cX5_on 54 = .ok (.istore 4, 2) := by decide +kernel
theorem dX5_on_56 : decode cX5_on 56 = .ok (.aload_n 0, 1) := by decide +kernel
theorem dX5_on_57 : decode cX5_on 57 = .ok (.invokevirtual 142, 3) := by decide +kernel
theorem dX5_on_60 : decode cX5_on 60 = .ok (.iload 4, 2) := by decide +kernel
theorem dX5_on_62 : decode cX5_on 62 = .ok (.ireturn, 1) := by decide +kernel
theorem dX5_brown_0 : decode cX5_brown 0 = .ok (.aload_n 0, 1) := by decide +kernel
theorem dX5_brown_1 : decode cX5_brown 1 = .ok (.iload_n 1, 1) := by decide +kernel
theorem dX5_brown_2 : decode cX5_brown 2 = .ok (.invokevirtual 48, 3) := by decide +kernel
theorem dX5_brown_5 : decode cX5_brown 5 = .ok (.ifCond .eq 15, 3) := by decide +kernel
theorem dX5_brown_8 : decode cX5_brown 8 = .ok (.iload_n 2, 1) := by decide +kernel
theorem dX5_brown_9 : decode cX5_brown 9 = .ok (.i2l, 1) := by decide +kernel
theorem dX5_brown_10 : decode cX5_brown 10 = .ok (.iconst 0, 1) := by decide +kernel
theorem dX5_brown_11 : decode cX5_brown 11 = .ok (.sipush 400, 3) := by decide +kernel
theorem dX5_brown_14 : decode cX5_brown 14 = .ok (.invokestatic 44, 3) := by decide +kernel
theorem dX5_brown_17 : decode cX5_brown 17 = .ok (.ifCond .ne 10, 3) := by decide +kernel
theorem dX5_brown_20 : decode cX5_brown 20 = .ok (.aload_n 0, 1) := by decide +kernel
theorem dX5_brown_21 : decode cX5_brown 21 = .ok (.ldc 38, 2) := by decide +kernel
theorem dX5_brown_23 : decode cX5_brown 23 = .ok (.invokevirtual 40, 3) := by decide +kernel
theorem dX5_brown_26 : decode cX5_brown 26 = .ok (.ireturn, 1) := by decide +kernel
theorem dX5_brown_27 : decode cX5_brown 27 = .ok (.aload_n 0, 1) := by decide +kernel
theorem dX5_brown_28 : decode cX5_brown 28 = .ok (.invokevirtual 139, 3) := by decide +kernel
theorem dX5_brown_31 : decode cX5_brown 31 = .ok (.iconst 0, 1) := by decide +kernel
theorem dX5_brown_32 : decode cX5_brown 32 = .ok (.istore_n 3, 1) := by decide +kernel
theorem dX5_brown_33 : decode cX5_brown 33 = .ok (.iload_n 3, 1) := by decide +kernel
theorem dX5_brown_34 : decode cX5_brown 34 = .ok (.sipush 200, 3) := by decide +kernel
theorem dX5_brown_37 : decode cX5_brown 37 = .ok (.if_icmp .gt 22, 3) := by decide +kernel
theorem dX5_brown_40 : decode cX5_brown 40 = .ok (.aload_n 0, 1) := by decide +kernel
theorem dX5_brown_41 : decode cX5_brown 41 = .ok (.iload_n 1, 1) := by decide +kernel
theorem dX5_brown_42 : decode cX5_brown 42 = .ok (.invokevirtual 105, 3) := by decide +kernel
theorem dX5_brown_45 : decode cX5_brown 45 = .ok (.iload_n 2, 1) := by decide +kernel
theorem dX5_brown_46 : decode cX5_brown 46 = .ok (.if_icmp .ge 13, 3) := by decide +kernel
theorem dX5_brown_49 : decode cX5_brown 49 = .ok (.aload_n 0, 1) := by decide +kernel
theorem dX5_brown_50 : decode cX5_brown 50 = .ok (.invokevirtual 127, 3) := by decide +kernel
theorem dX5_brown_53 : decode cX5_brown 53 = .ok (.iinc 3 1, 3) := by decide +kernel
theorem dX5_brown_56 : decode cX5_brown 56 = .ok (.goto (-23), 3) := by decide +kernel
theorem dX5_brown_59 : decode cX5_brown 59 = .ok (.aload_n 0, 1) := by decide +kernel
theorem dX5_brown_60 : decode cX5_brown 60 = .ok (.invokevirtual 142, 3) := by decide +kernel
theorem dX5_brown_63 : decode cX5_brown 63 = .ok (.iload_n 3, 1) := by decide +kernel
theorem dX5_brown_64 : decode cX5_brown 64 = .ok (.sipush 200, 3) := by decide +kernel
theorem dX5_brown_67 : decode cX5_brown 67 = .ok (.if_icmp .le 12, 3) := by decide +kernel
theorem dX5_brown_70 : decode cX5_brown 70 = .ok (.aload_n 0, 1) := by decide +kernel
theorem dX5_brown_71 : decode cX5_brown 71 = .ok (.ldc 39, 2) := by decide +kernel
theorem dX5_brown_73 : decode cX5_brown 73 = .ok (.invokevirtual 40, 3) := by decide +kernel
theorem dX5_brown_76 : decode cX5_brown 76 = .ok (.goto 4, 3) := by decide +kernel
theorem dX5_brown_79 : decode cX5_brown 79 = .ok (.iload_n 3, 1) := by decide +kernel
theorem dX5_brown_80 : decode cX5_brown 80 = .ok (.ireturn, 1) := by decide +kernel
theorem dX5_burns_0 : decode cX5_burns 0 = .ok (.aload_n 0, 1) := by decide +kernel
theorem dX5_burns_1 : decode cX5_burns 1 = .ok (.iload_n 1, 1) := by decide +kernel
theorem dX5_burns_2 : decode cX5_burns 2 = .ok (.invokevirtual 48, 3) := by decide +kernel
theorem dX5_burns_5 : decode cX5_burns 5 = .ok (.ifCond .ne 10, 3) := by decide +kernel
theorem dX5_burns_8 : decode cX5_burns 8 = .ok (.aload_n 0, 1) := by decide +kernel
theorem dX5_burns_9 : decode cX5_burns 9 = .ok (.ldc 38, 2) := by decide +kernel
theorem dX5_burns_11 : decode cX5_burns 11 = .ok (.invokevirtual 40, 3) := by decide +kernel
theorem dX5_burns_14 : decode cX5_burns 14 = .ok (.ireturn, 1) := by decide +kernel
theorem dX5_burns_15 : decode cX5_burns 15 = .ok (.aload_n 0, 1) := by decide +kernel
theorem dX5_burns_16 : decode cX5_burns 16 = .ok (.invokevirtual 139, 3) := by decide +kernel
theorem dX5_burns_19 : decode cX5_burns 19 = .ok (.aload_n 0, 1) := by decide +kernel
theorem dX5_burns_20 : decode cX5_burns 20 = .ok (.iload_n 1, 1) := by decide +kernel
theorem dX5_burns_21 : decode cX5_burns 21 = .ok (.iconst 4, 1) := by decide +kernel
theorem dX5_burns_22 : decode cX5_burns 22 = .ok (.invokevirtual 52, 3) := by decide +kernel
theorem dX5_burns_25 : decode cX5_burns 25 = .ok (.istore_n 2, 1) := by decide +kernel
theorem dX5_burns_26 : decode cX5_burns 26 = .ok (.iconst 1, 1) := by decide +kernel
theorem dX5_burns_27 : decode cX5_burns 27 = .ok (.istore_n 3, 1) := by decide +kernel
theorem dX5_burns_28 : decode cX5_burns 28 = .ok (.aload_n 0, 1) := by decide +kernel
theorem dX5_burns_29 : decode cX5_burns 29 = .ok (.invokevirtual 127, 3) := by decide +kernel
theorem dX5_burns_32 : decode cX5_burns 32 = .ok (.iload_n 3, 1) := by decide +kernel
theorem dX5_burns_33 : decode cX5_burns 33 = .ok (.sipush 200, 3) := by decide +kernel
theorem dX5_burns_36 : decode cX5_burns 36 = .ok (.if_icmp .gt 23, 3) := by decide +kernel
theorem dX5_burns_39 : decode cX5_burns 39 = .ok (.aload_n 0, 1) := by decide +kernel
theorem dX5_burns_40 : decode cX5_burns 40 = .ok (.iload_n 1, 1) := by decide +kernel
theorem dX5_burns_41 : decode cX5_burns 41 = .ok (.iconst 4, 1) := by decide +kernel
theorem dX5_burns_42 : decode cX5_burns 42 = .ok (.invokevirtual 52, 3) := by decide +kernel
theorem dX5_burns_45 : decode cX5_burns 45 = .ok (.iload_n 2, 1) := by decide +kernel
theorem dX5_burns_46 : decode cX5_burns 46 = .ok (.if_icmp .ne 13, 3) := by decide +kernel
theorem dX5_burns_49 : decode cX5_burns 49 = .ok (.aload_n 0, 1) := by decide +kernel
theorem dX5_burns_50 : decode cX5_burns 50 = .ok (.invokevirtual 127, 3) := by decide +kernel
theorem dX5_burns_53 : decode cX5_burns 53 = .ok (.iinc 3 1, 3) := by decide +kernel
theorem dX5_burns_56 : decode cX5_burns 56 = .ok (.goto (-24), 3) := by decide +kernel
theorem dX5_burns_59 : decode cX5_burns 59 = .ok (.aload_n 0, 1) := by decide +kernel
theorem dX5_burns_60 : decode cX5_burns 60 = .ok (.invokevirtual 142, 3) := by decide +kernel
theorem dX5_burns_63 : decode cX5_burns 63 = .ok (.iload_n 3, 1) := by decide +kernel
theorem dX5_burns_64 : decode cX5_burns 64 = .ok (.sipush 200, 3) := by decide +kernel
theorem dX5_burns_67 : decode cX5_burns 67 = .ok (.if_icmp .le 12, 3) := by decide +kernel
theorem dX5_burns_70 : decode cX5_burns 70 = .ok (.aload_n 0, 1) := by decide +kernel
theorem dX5_burns_71 : decode cX5_burns 71 = .ok (.ldc 39, 2) := by decide +kernel
theorem dX5_burns_73 : decode cX5_burns 73 = .ok (.invokevirtual 40, 3) := by decide +kernel
theorem dX5_burns_76 : decode cX5_burns 76 = .ok (.goto 4, 3) := by decide +kernel
theorem dX5_burns_79 : decode cX5_burns 79 = .ok (.iload_n 3, 1) := by decide +kernel
theorem dX5_burns_80 : decode cX5_burns 80 = .ok (.ireturn, 1) := by decide +kernel
theorem dX5_even_0 : decode cX5_even 0 = .ok (.aload_n 0, 1) := by decide +kernel
theorem dX5_even_1 : decode cX5_even 1 = .ok (.iload_n 1, 1) := by decide +kernel
theorem dX5_even_2 : decode cX5_even 2 = .ok (.invokevirtual 48, 3) := by decide +kernel
theorem dX5_even_5 : decode cX5_even 5 = .ok (.ifCond .ne 10, 3) := by decide +kernel
theorem dX5_even_8 : decode cX5_even 8 = .ok (.aload_n 0, 1) := by decide +kernel
theorem dX5_even_9 : decode cX5_even 9 = .ok (.ldc 38, 2) := by decide +kernel
theorem dX5_even_11 : decode cX5_even 11 = .ok (.invokevirtual 40, 3) := by decide +kernel
theorem dX5_even_14 : decode cX5_even 14 = .ok (.ireturn, 1) := by decide +kernel
theorem dX5_even_15 : decode cX5_even 15 = .ok (.aload_n 0, 1) := by decide +kernel
theorem dX5_even_16 : decode cX5_even 16 = .ok (.invokevirtual 139, 3) := by decide +kernel
theorem dX5_even_19 : decode cX5_even 19 = .ok (.iconst 0, 1) := by decide +kernel
theorem dX5_even_20 : decode cX5_even 20 = .ok (.istore_n 2, 1) := by decide +kernel
theorem dX5_even_21 : decode cX5_even 21 = .ok (.iload_n 2, 1) := by decide +kernel
theorem dX5_even_22 : decode cX5_even 22 = .ok (.sipush 200, 3) := by decide +kernel
theorem dX5_even_25 : decode cX5_even 25 = .ok (.if_icmp .gt 21, 3) := by decide +kernel
theorem dX5_even_28 : decode cX5_even 28 = .ok (.aload_n 0, 1) := by decide +kernel
theorem dX5_even_29 : decode cX5_even 29 = .ok (.iload_n 1, 1) := by decide +kernel
theorem dX5_even_30 : decode cX5_even 30 = .ok (.invokevirtual 79, 3) := by decide +kernel
theorem dX5_even_33 : decode cX5_even 33 = .ok (.ifCond .ne 13, 3) := by decide +kernel
theorem dX5_even_36 : decode cX5_even 36 = .ok (.aload_n 0, 1) := by decide +kernel
theorem dX5_even_37 : decode cX5_even 37 = .ok (.invokevirtual 127, 3) := by decide +kernel
theorem dX5_even_40 : decode cX5_even 40 = .ok (.iinc 2 1, 3) := by decide +kernel
theorem dX5_even_43 : decode cX5_even 43 = .ok (.goto (-22), 3) := by decide +kernel
theorem dX5_even_46 : decode cX5_even 46 = .ok (.aload_n 0, 1) := by decide +kernel
theorem dX5_even_47 : decode cX5_even 47 = .ok (.invokevirtual 142, 3) := by decide +kernel
theorem dX5_even_50 : decode cX5_even 50 = .ok (.iload_n 2, 1) := by decide +kernel
theorem dX5_even_51 : decode cX5_even 51 = .ok (.sipush 200, 3) := by decide +kernel
theorem dX5_even_54 : decode cX5_even 54 = .ok (.if_icmp .le 12, 3) := by decide +kernel
theorem dX5_even_57 : decode cX5_even 57 = .ok (.aload_n 0, 1) := by decide +kernel
theorem dX5_even_58 : decode cX5_even 58 = .ok (.ldc 39, 2) := by decide +kernel
theorem dX5_even_60 : decode cX5_even 60 = .ok (.invokevirtual 40, 3) := by decide +kernel
theorem dX5_even_63 : decode cX5_even 63 = .ok (.goto 4, 3) := by decide +kernel
theorem dX5_even_66 : decode cX5_even 66 = .ok (.iload_n 2, 1) := by decide +kernel
theorem dX5_even_67 : decode cX5_even 67 = .ok (.ireturn, 1) := by decide +kernel
theorem dX5_brownOn_0 : decode cX5_brownOn 0 = .ok (.aload_n 0, 1) := by decide +kernel
theorem dX5_brownOn_1 : decode cX5_brownOn 1 = .ok (.iload_n 2, 1) := by decide +kernel
theorem dX5_brownOn_2 : decode cX5_brownOn 2 = .ok (.invokevirtual 131, 3) := by decide +kernel
theorem dX5_brownOn_5 : decode cX5_brownOn 5 = .ok (.aload_n 0, 1) := by decide +kernel
theorem dX5_brownOn_6 : decode cX5_brownOn 6 = .ok (.iload_n 1, 1) := by decide +kernel
theorem dX5_brownOn_7 : decode cX5_brownOn 7 = .ok (.invokevirtual 105, 3) := by decide +kernel
theorem dX5_brownOn_10 : decode cX5_brownOn 10 = .ok (.istore_n 3, 1) := by decide +kernel
theorem dX5_brownOn_11 : decode cX5_brownOn 11 = .ok (.aload_n 0, 1) := by decide +kernel
theorem dX5_brownOn_12 : decode cX5_brownOn 12 = .ok (.invokevirtual 142, 3) := by decide +kernel
theorem dX5_brownOn_15 : decode cX5_brownOn 15 = .ok (.iload_n 3, 1) := by decide +kernel
theorem dX5_brownOn_16 : decode cX5_brownOn 16 = .ok (.ireturn, 1) := by decide +kernel
theorem dX5_where_0 : decode cX5_where 0 = .ok (.aload_n 0, 1) := by decide +kernel
theorem dX5_where_1 : decode cX5_where 1 = .ok (.iload_n 1, 1) := by decide +kernel
theorem dX5_where_2 : decode cX5_where 2 = .ok (.invokevirtual 48, 3) := by decide +kernel
theorem dX5_where_5 : decode cX5_where 5 = .ok (.ifCond .eq 14, 3) := by decide +kernel
theorem dX5_where_8 : decode cX5_where 8 = .ok (.iload_n 2, 1) := by decide +kernel
theorem dX5_where_9 : decode cX5_where 9 = .ok (.i2l, 1) := by decide +kernel
theorem dX5_where_10 : decode cX5_where 10 = .ok (.iconst 1, 1) := by decide +kernel
theorem dX5_where_11 : decode cX5_where 11 = .ok (.bipush 60, 2) := by decide +kernel
theorem dX5_where_13 : decode cX5_where 13 = .ok (.invokestatic 44, 3) := by decide +kernel
theorem dX5_where_16 : decode cX5_where 16 = .ok (.ifCond .ne 10, 3) := by decide +kernel
theorem dX5_where_19 : decode cX5_where 19 = .ok (.aload_n 0, 1) := by decide +kernel
theorem dX5_where_20 : decode cX5_where 20 = .ok (.ldc 38, 2) := by decide +kernel
theorem dX5_where_22 : decode cX5_where 22 = .ok (.invokevirtual 40, 3) := by decide +kernel
theorem dX5_where_25 : decode cX5_where 25 = .ok (.ireturn, 1) := by decide +kernel
theorem dX5_where_26 : decode cX5_where 26 = .ok (.aload_n 0, 1) := by decide +kernel
theorem dX5_where_27 : decode cX5_where 27 = .ok (.invokevirtual 139, 3) := by decide +kernel
theorem dX5_where_30 : decode cX5_where 30 = .ok (.iconst (-1), 1) := by decide +kernel
theorem dX5_where_31 : decode cX5_where 31 = .ok (.istore_n 3, 1) := by decide +kernel
theorem dX5_where_32 : decode cX5_where 32 = .ok (.iconst (-1), 1) := by decide +kernel
theorem dX5_where_33 : decode cX5_where 33 = .ok (.istore 4, 2) := by decide +kernel
theorem dX5_where_35 : decode cX5_where 35 = .ok (.iconst 0, 1) := by decide +kernel
theorem dX5_where_36 : decode cX5_where 36 = .ok (.istore 5, 2) := by decide +kernel
theorem dX5_where_38 : decode cX5_where 38 = .ok (.iload 5, 2) := by decide +kernel
theorem dX5_where_40 : decode cX5_where 40 = .ok (.bipush 10, 2) := by decide +kernel
theorem dX5_where_42 : decode cX5_where 42 = .ok (.if_icmp .ge 65, 3) := by decide +kernel
theorem dX5_where_45 : decode cX5_where 45 = .ok (.aload_n 0, 1) := by decide +kernel
theorem dX5_where_46 : decode cX5_where 46 = .ok (.iload 5, 2) := by decide +kernel
theorem dX5_where_48 : decode cX5_where 48 = .ok (.iload_n 1, 1) := by decide +kernel
theorem dX5_where_49 : decode cX5_where 49 = .ok (.invokevirtual 109, 3) := by decide +kernel
theorem dX5_where_52 : decode cX5_where 52 = .ok (.ifCond .eq 49, 3) := by decide +kernel
theorem dX5_where_55 : decode cX5_where 55 = .ok (.aload_n 0, 1) := by decide +kernel
theorem dX5_where_56 : decode cX5_where 56 = .ok (.iload_n 1, 1) := by decide +kernel
theorem dX5_where_57 : decode cX5_where 57 = .ok (.iconst 1, 1) := by decide +kernel
theorem dX5_where_58 : decode cX5_where 58 = .ok (.iload 5, 2) := by decide +kernel
theorem dX5_where_60 : decode cX5_where 60 = .ok (.invokevirtual 91, 3) := by decide +kernel
theorem dX5_where_63 : decode cX5_where 63 = .ok (.aload_n 0, 1) := by decide +kernel
theorem dX5_where_64 : decode cX5_where 64 = .ok (.iload_n 1, 1) := by decide +kernel
theorem dX5_where_65 : decode cX5_where 65 = .ok (.iload_n 2, 1) := by decide +kernel
theorem dX5_where_66 : decode cX5_where 66 = .ok (.invokevirtual 145, 3) := by decide +kernel
theorem dX5_where_69 : decode cX5_where 69 = .ok (.istore 6, 2) := by decide +kernel
theorem dX5_where_71 : decode cX5_where 71 = .ok (.iload 6, 2) := by decide +kernel
theorem dX5_where_73 : decode cX5_where 73 = .ok (.iload 4, 2) := by decide +kernel
theorem dX5_where_75 : decode cX5_where 75 = .ok (.if_icmp .le 8, 3) := by decide +kernel
theorem dX5_where_78 : decode cX5_where 78 = .ok (.iload 5, 2) := by decide +kernel
theorem dX5_where_80 : decode cX5_where 80 = .ok (.goto 4, 3) := by decide +kernel
theorem dX5_where_83 : decode cX5_where 83 = .ok (.iload_n 3, 1) := by decide +kernel
theorem dX5_where_84 : decode cX5_where 84 = .ok (.istore_n 3, 1) := by decide +kernel
theorem dX5_where_85 : decode cX5_where 85 = .ok (.iload 6, 2) := by decide +kernel
theorem dX5_where_87 : decode cX5_where 87 = .ok (.iload 4, 2) := by decide +kernel
theorem dX5_where_89 : decode cX5_where 89 = .ok (.if_icmp .le 8, 3) := by decide +kernel
theorem dX5_where_92 : decode cX5_where 92 = .ok (.iload 6, 2) := by decide +kernel
theorem dX5_where_94 : decode cX5_where 94 = .ok (.goto 5, 3) := by decide +kernel
theorem dX5_where_97 : decode cX5_where 97 = .ok (.iload 4, 2) := by decide +kernel
theorem dX5_where_99 : decode cX5_where 99 = .ok (.istore 4, 2) := by decide +kernel
theorem dX5_where_101 : decode cX5_where 101 = .ok (.iinc 5 1, 3) := by decide +kernel
theorem dX5_where_104 : decode cX5_where 104 = .ok (.goto (-66), 3) := by decide +kernel
theorem dX5_where_107 : decode cX5_where 107 = .ok (.iload_n 3, 1) := by decide +kernel
theorem dX5_where_108 : decode cX5_where 108 = .ok (.ireturn, 1) := by decide +kernel
theorem dX5_change_0 : decode cX5_change 0 = .ok (.aload_n 0, 1) := by decide +kernel
theorem dX5_change_1 : decode cX5_change 1 = .ok (.iload_n 1, 1) := by decide +kernel
theorem dX5_change_2 : decode cX5_change 2 = .ok (.invokevirtual 48, 3) := by decide +kernel
theorem dX5_change_5 : decode cX5_change 5 = .ok (.ifCond .eq 14, 3) := by decide +kernel
theorem dX5_change_8 : decode cX5_change 8 = .ok (.iload_n 2, 1) := by decide +kernel
theorem dX5_change_9 : decode cX5_change 9 = .ok (.i2l, 1) := by decide +kernel
theorem dX5_change_10 : decode cX5_change 10 = .ok (.iconst 1, 1) := by decide +kernel
theorem dX5_change_11 : decode cX5_change 11 = .ok (.bipush 60, 2) := by decide +kernel
theorem dX5_change_13 : decode cX5_change 13 = .ok (.invokestatic 44, 3) := by decide +kernel
theorem dX5_change_16 : decode cX5_change 16 = .ok (.ifCond .ne 10, 3) := by decide +kernel
theorem dX5_change_19 : decode cX5_change 19 = .ok (.aload_n 0, 1) := by decide +kernel
theorem dX5_change_20 : decode cX5_change 20 = .ok (.ldc 38, 2) := by decide +kernel
theorem dX5_change_22 : decode cX5_change 22 = .ok (.invokevirtual 40, 3) := by decide +kernel
theorem dX5_change_25 : decode cX5_change 25 = .ok (.ireturn, 1) := by decide +kernel
theorem dX5_change_26 : decode cX5_change 26 = .ok (.aload_n 0, 1) := by decide +kernel
theorem dX5_change_27 : decode cX5_change 27 = .ok (.iload_n 1, 1) := by decide +kernel
theorem dX5_change_28 : decode cX5_change 28 = .ok (.invokevirtual 56, 3) := by decide +kernel
theorem dX5_change_31 : decode cX5_change 31 = .ok (.ifCond .ne 10, 3) := by decide +kernel
theorem dX5_change_34 : decode cX5_change 34 = .ok (.aload_n 0, 1) := by decide +kernel
theorem dX5_change_35 : decode cX5_change 35 = .ok (.ldc 113, 2) := by decide +kernel
theorem dX5_change_37 : decode cX5_change 37 = .ok (.invokevirtual 40, 3) := by decide +kernel
theorem dX5_change_40 : decode cX5_change 40 = .ok (.ireturn, 1) := by decide +kernel
theorem dX5_change_41 : decode cX5_change 41 = .ok (.aload_n 0, 1) := by decide +kernel
theorem dX5_change_42 : decode cX5_change 42 = .ok (.invokevirtual 139, 3) := by decide +kernel
theorem dX5_change_45 : decode cX5_change 45 = .ok (.iconst (-1), 1) := by decide +kernel
theorem dX5_change_46 : decode cX5_change 46 = .ok (.istore_n 3, 1) := by decide +kernel
theorem dX5_change_47 : decode cX5_change 47 = .ok (.iconst (-1), 1) := by decide +kernel
theorem dX5_change_48 : decode cX5_change 48 = .ok (.istore 4, 2) := by decide +kernel
theorem dX5_change_50 : decode cX5_change 50 = .ok (.iconst 0, 1) := by decide +kernel
theorem dX5_change_51 : decode cX5_change 51 = .ok (.istore 5, 2) := by decide +kernel
theorem dX5_change_53 : decode cX5_change 53 = .ok (.iload 5, 2) := by decide +kernel
theorem dX5_change_55 : decode cX5_change 55 = .ok (.aload_n 0, 1) := by decide +kernel
theorem dX5_change_56 : decode cX5_change 56 = .ok (.getfield 9, 3) := by decide +kernel
theorem dX5_change_59 : decode cX5_change 59 = .ok (.iconst 1, 1) := by decide +kernel
theorem dX5_change_60 : decode cX5_change 60 = .ok (.iaload, 1) := by decide +kernel
theorem dX5_change_61 : decode cX5_change 61 = .ok (.if_icmp .ge 110, 3) := by decide +kernel
theorem dX5_change_64 : decode cX5_change 64 = .ok (.iload 5, 2) := by decide +kernel
theorem dX5_change_66 : decode cX5_change 66 = .ok (.iload_n 1, 1) := by decide +kernel
theorem dX5_change_67 : decode cX5_change 67 = .ok (.if_icmp .eq 98, 3) := by decide +kernel
theorem dX5_change_70 : decode cX5_change 70 = .ok (.aload_n 0, 1) := by decide +kernel
theorem dX5_change_71 : decode cX5_change 71 = .ok (.iload 5, 2) := by decide +kernel
theorem dX5_change_73 : decode cX5_change 73 = .ok (.invokevirtual 56, 3) := by decide +kernel
theorem dX5_change_76 : decode cX5_change 76 = .ok (.ifCond .eq 89, 3) := by decide +kernel
theorem dX5_change_79 : decode cX5_change 79 = .ok (.aload_n 0, 1) := by decide +kernel
theorem dX5_change_80 : decode cX5_change 80 = .ok (.iload_n 1, 1) := by decide +kernel
theorem dX5_change_81 : decode cX5_change 81 = .ok (.iconst 1, 1) := by decide +kernel
theorem dX5_change_82 : decode cX5_change 82 = .ok (.aload_n 0, 1) := by decide +kernel
theorem dX5_change_83 : decode cX5_change 83 = .ok (.iload 5, 2) := by decide +kernel
theorem dX5_change_85 : decode cX5_change 85 = .ok (.iconst 1, 1) := by decide +kernel
theorem dX5_change_86 : decode cX5_change 86 = .ok (.invokevirtual 52, 3) := by decide +kernel
theorem dX5_change_89 : decode cX5_change 89 = .ok (.invokevirtual 91, 3) := by decide +kernel
theorem dX5_change_92 : decode cX5_change 92 = .ok (.aload_n 0, 1) := by decide +kernel
theorem dX5_change_93 : decode cX5_change 93 = .ok (.iload 5, 2) := by decide +kernel
theorem dX5_change_95 : decode cX5_change 95 = .ok (.iconst 1, 1) := by decide +kernel
theorem dX5_change_96 : decode cX5_change 96 = .ok (.aload_n 0, 1) := by decide +kernel
theorem dX5_change_97 : decode cX5_change 97 = .ok (.getfield 16, 3) := by decide +kernel
theorem dX5_change_100 : decode cX5_change 100 = .ok (.bipush 12, 2) := by decide +kernel
theorem dX5_change_102 : decode cX5_change 102 = .ok (.iconst 5, 1) := by decide +kernel
theorem dX5_change_103 : decode cX5_change 103 = .ok (.iload_n 1, 1) := by decide +kernel
theorem dX5_change_104 : decode cX5_change 104 = .ok (.imul, 1) := by decide +kernel
theorem dX5_change_105 : decode cX5_change 105 = .ok (.iadd, 1) := by decide +kernel
theorem dX5_change_106 : decode cX5_change 106 = .ok (.iconst 1, 1) := by decide +kernel
theorem dX5_change_107 : decode cX5_change 107 = .ok (.iadd, 1) := by decide +kernel
theorem dX5_change_108 : decode cX5_change 108 = .ok (.iaload, 1) := by decide +kernel
theorem dX5_change_109 : decode cX5_change 109 = .ok (.invokevirtual 91, 3) := by decide +kernel
theorem dX5_change_112 : decode cX5_change 112 = .ok (.aload_n 0, 1) := by decide +kernel
theorem dX5_change_113 : decode cX5_change 113 = .ok (.iload_n 2, 1) := by decide +kernel
theorem dX5_change_114 : decode cX5_change 114 = .ok (.invokevirtual 131, 3) := by decide +kernel
theorem dX5_change_117 : decode cX5_change 117 = .ok (.aload_n 0, 1) := by decide +kernel
theorem dX5_change_118 : decode cX5_change 118 = .ok (.iload_n 1, 1) := by decide +kernel
theorem dX5_change_119 : decode cX5_change 119 = .ok (.invokevirtual 105, 3) := by decide +kernel
theorem dX5_change_122 : decode cX5_change 122 = .ok (.aload_n 0, 1) := by decide +kernel
theorem dX5_change_123 : decode cX5_change 123 = .ok (.iload 5, 2) := by decide +kernel
theorem dX5_change_125 : decode cX5_change 125 = .ok (.invokevirtual 105, 3) := by decide +kernel
theorem dX5_change_128 : decode cX5_change 128 = .ok (.iadd, 1) := by decide +kernel
theorem dX5_change_129 : decode cX5_change 129 = .ok (.istore 6, 2) := by decide +kernel
theorem dX5_change_131 : decode cX5_change 131 = .ok (.aload_n 0, 1) := by decide +kernel
theorem dX5_change_132 : decode cX5_change 132 = .ok (.invokevirtual 142, 3) := by decide +kernel
theorem dX5_change_135 : decode cX5_change 135 = .ok (.iload 6, 2) := by decide +kernel
theorem dX5_change_137 : decode cX5_change 137 = .ok (.iload 4, 2) := by decide +kernel
theorem dX5_change_139 : decode cX5_change 139 = .ok (.if_icmp .le 8, 3) := by decide +kernel
theorem dX5_change_142 : decode cX5_change 142 = .ok (.iload 5, 2) := by decide +kernel
theorem dX5_change_144 : decode cX5_change 144 = .ok (.goto 4, 3) := by decide +kernel
theorem dX5_change_147 : decode cX5_change 147 = .ok (.iload_n 3, 1) := by decide +kernel
theorem dX5_change_148 : decode cX5_change 148 = .ok (.istore_n 3, 1) := by decide +kernel
theorem dX5_change_149 : decode cX5_change 149 = .ok (.iload 6, 2) := by decide +kernel
theorem dX5_change_151 : decode cX5_change 151 = .ok (.iload 4, 2) := by decide +kernel
theorem dX5_change_153 : decode cX5_change 153 = .ok (.if_icmp .le 8, 3) := by decide +kernel
theorem dX5_change_156 : decode cX5_change 156 = .ok (.iload 6, 2) := by decide +kernel
theorem dX5_change_158 : decode cX5_change 158 = .ok (.goto 5, 3) := by decide +kernel
theorem dX5_change_161 : decode cX5_change 161 = .ok (.iload 4, 2) := by decide +kernel
theorem dX5_change_163 : decode cX5_change 163 = .ok (.istore 4, 2) := by decide +kernel
theorem dX5_change_165 : decode cX5_change 165 = .ok (.iinc 5 1, 3) := by decide +kernel
theorem dX5_change_168 : decode cX5_change 168 = .ok (.goto (-115), 3) := by decide +kernel
theorem dX5_change_171 : decode cX5_change 171 = .ok (.aload_n 0, 1) := by decide +kernel
theorem dX5_change_172 : decode cX5_change 172 = .ok (.iload_n 3, 1) := by decide +kernel
theorem dX5_change_173 : decode cX5_change 173 = .ok (.invokevirtual 148, 3) := by decide +kernel
theorem dX5_change_176 : decode cX5_change 176 = .ok (.ireturn, 1) := by decide +kernel
theorem dX5_kind_0 : decode cX5_kind 0 = .ok (.aload_n 0, 1) := by decide +kernel
theorem dX5_kind_1 : decode cX5_kind 1 = .ok (.iload_n 1, 1) := by decide +kernel
theorem dX5_kind_2 : decode cX5_kind 2 = .ok (.invokevirtual 48, 3) := by decide +kernel
theorem dX5_kind_5 : decode cX5_kind 5 = .ok (.ifCond .eq 14, 3) := by decide +kernel
theorem dX5_kind_8 : decode cX5_kind 8 = .ok (.iload_n 2, 1) := by decide +kernel
theorem dX5_kind_9 : decode cX5_kind 9 = .ok (.i2l, 1) := by decide +kernel
theorem dX5_kind_10 : decode cX5_kind 10 = .ok (.iconst 1, 1) := by decide +kernel
theorem dX5_kind_11 : decode cX5_kind 11 = .ok (.bipush 60, 2) := by decide +kernel
theorem dX5_kind_13 : decode cX5_kind 13 = .ok (.invokestatic 44, 3) := by decide +kernel
theorem dX5_kind_16 : decode cX5_kind 16 = .ok (.ifCond .ne 10, 3) := by decide +kernel
theorem dX5_kind_19 : decode cX5_kind 19 = .ok (.aload_n 0, 1) := by decide +kernel
theorem dX5_kind_20 : decode cX5_kind 20 = .ok (.ldc 38, 2) := by decide +kernel
theorem dX5_kind_22 : decode cX5_kind 22 = .ok (.invokevirtual 40, 3) := by decide +kernel
theorem dX5_kind_25 : decode cX5_kind 25 = .ok (.ireturn, 1) := by decide +kernel
theorem dX5_kind_26 : decode cX5_kind 26 = .ok (.aload_n 0, 1) := by decide +kernel
theorem dX5_kind_27 : decode cX5_kind 27 = .ok (.invokevirtual 139, 3) := by decide +kernel
theorem dX5_kind_30 : decode cX5_kind 30 = .ok (.iconst 0, 1) := by decide +kernel
theorem dX5_kind_31 : decode cX5_kind 31 = .ok (.istore_n 3, 1) := by decide +kernel
theorem dX5_kind_32 : decode cX5_kind 32 = .ok (.iconst (-1), 1) := by decide +kernel
theorem dX5_kind_33 : decode cX5_kind 33 = .ok (.istore 4, 2) := by decide +kernel
theorem dX5_kind_35 : decode cX5_kind 35 = .ok (.iconst 0, 1) := by decide +kernel
theorem dX5_kind_36 : decode cX5_kind 36 = .ok (.istore 5, 2) := by decide +kernel
theorem dX5_kind_38 : decode cX5_kind 38 = .ok (.iload 5, 2) := by decide +kernel
theorem dX5_kind_40 : decode cX5_kind 40 = .ok (.iconst 5, 1) := by decide +kernel
theorem dX5_kind_41 : decode cX5_kind 41 = .ok (.if_icmp .gt 55, 3) := by decide +kernel
theorem dX5_kind_44 : decode cX5_kind 44 = .ok (.aload_n 0, 1) := by decide +kernel
theorem dX5_kind_45 : decode cX5_kind 45 = .ok (.iload_n 1, 1) := by decide +kernel
theorem dX5_kind_46 : decode cX5_kind 46 = .ok (.iconst 0, 1) := by decide +kernel
theorem dX5_kind_47 : decode cX5_kind 47 = .ok (.iload 5, 2) := by decide +kernel
theorem dX5_kind_49 : decode cX5_kind 49 = .ok (.invokevirtual 91, 3) := by decide +kernel
theorem dX5_kind_52 : decode cX5_kind 52 = .ok (.aload_n 0, 1) := by decide +kernel
theorem dX5_kind_53 : decode cX5_kind 53 = .ok (.iload_n 1, 1) := by decide +kernel
theorem dX5_kind_54 : decode cX5_kind 54 = .ok (.iload_n 2, 1) := by decide +kernel
theorem dX5_kind_55 : decode cX5_kind 55 = .ok (.invokevirtual 145, 3) := by decide +kernel
theorem dX5_kind_58 : decode cX5_kind 58 = .ok (.istore 6, 2) := by decide +kernel
theorem dX5_kind_60 : decode cX5_kind 60 = .ok (.iload 6, 2) := by decide +kernel
theorem dX5_kind_62 : decode cX5_kind 62 = .ok (.iload 4, 2) := by decide +kernel
theorem dX5_kind_64 : decode cX5_kind 64 = .ok (.if_icmp .le 8, 3) := by decide +kernel
theorem dX5_kind_67 : decode cX5_kind 67 = .ok (.iload 5, 2) := by decide +kernel
theorem dX5_kind_69 : decode cX5_kind 69 = .ok (.goto 4, 3) := by decide +kernel
theorem dX5_kind_72 : decode cX5_kind 72 = .ok (.iload_n 3, 1) := by decide +kernel
theorem dX5_kind_73 : decode cX5_kind 73 = .ok (.istore_n 3, 1) := by decide +kernel
theorem dX5_kind_74 : decode cX5_kind 74 = .ok (.iload 6, 2) := by decide +kernel
theorem dX5_kind_76 : decode cX5_kind 76 = .ok (.iload 4, 2) := by decide +kernel
theorem dX5_kind_78 : decode cX5_kind 78 = .ok (.if_icmp .le 8, 3) := by decide +kernel
theorem dX5_kind_81 : decode cX5_kind 81 = .ok (.iload 6, 2) := by decide +kernel
theorem dX5_kind_83 : decode cX5_kind 83 = .ok (.goto 5, 3) := by decide +kernel
theorem dX5_kind_86 : decode cX5_kind 86 = .ok (.iload 4, 2) := by decide +kernel
theorem dX5_kind_88 : decode cX5_kind 88 = .ok (.istore 4, 2) := by decide +kernel
theorem dX5_kind_90 : decode cX5_kind 90 = .ok (.iinc 5 1, 3) := by decide +kernel
theorem dX5_kind_93 : decode cX5_kind 93 = .ok (.goto (-55), 3) := by decide +kernel
theorem dX5_kind_96 : decode cX5_kind 96 = .ok (.iload_n 3, 1) := by decide +kernel
theorem dX5_kind_97 : decode cX5_kind 97 = .ok (.ireturn, 1) := by decide +kernel
theorem dX5_send_0 : decode cX5_send 0 = .ok (.iload_n 1, 1) := by decide +kernel
theorem dX5_send_1 : decode cX5_send 1 = .ok (.i2l, 1) := by decide +kernel
theorem dX5_send_2 : decode cX5_send 2 = .ok (.iconst 1, 1) := by decide +kernel
theorem dX5_send_3 : decode cX5_send 3 = .ok (.bipush 60, 2) := by decide +kernel
theorem dX5_send_5 : decode cX5_send 5 = .ok (.invokestatic 44, 3) := by decide +kernel
theorem dX5_send_8 : decode cX5_send 8 = .ok (.ifCond .ne 10, 3) := by decide +kernel
theorem dX5_send_11 : decode cX5_send 11 = .ok (.aload_n 0, 1) := by decide +kernel
theorem dX5_send_12 : decode cX5_send 12 = .ok (.ldc 38, 2) := by decide +kernel
theorem dX5_send_14 : decode cX5_send 14 = .ok (.invokevirtual 40, 3) := by decide +kernel
theorem dX5_send_17 : decode cX5_send 17 = .ok (.ireturn, 1) := by decide +kernel
theorem dX5_send_18 : decode cX5_send 18 = .ok (.aload_n 0, 1) := by decide +kernel
theorem dX5_send_19 : decode cX5_send 19 = .ok (.invokevirtual 139, 3) := by decide +kernel
theorem dX5_send_22 : decode cX5_send 22 = .ok (.iconst (-1), 1) := by decide +kernel
theorem dX5_send_23 : decode cX5_send 23 = .ok (.istore_n 2, 1) := by decide +kernel
theorem dX5_send_24 : decode cX5_send 24 = .ok (.iconst 0, 1) := by decide +kernel
theorem dX5_send_25 : decode cX5_send 25 = .ok (.istore_n 3, 1) := by decide +kernel
theorem dX5_send_26 : decode cX5_send 26 = .ok (.iconst 0, 1) := by decide +kernel
theorem dX5_send_27 : decode cX5_send 27 = .ok (.istore 4, 2) := by decide +kernel
theorem dX5_send_29 : decode cX5_send 29 = .ok (.iload 4, 2) := by decide +kernel
theorem dX5_send_31 : decode cX5_send 31 = .ok (.aload_n 0, 1) := by decide +kernel
theorem dX5_send_32 : decode cX5_send 32 = .ok (.getfield 9, 3) := by decide +kernel
theorem dX5_send_35 : decode cX5_send 35 = .ok (.iconst 1, 1) := by decide +kernel
theorem dX5_send_36 : decode cX5_send 36 = .ok (.iaload, 1) := by decide +kernel
theorem dX5_send_37 : decode cX5_send 37 = .ok (.if_icmp .ge 83, 3) := by decide +kernel
theorem dX5_send_40 : decode cX5_send 40 = .ok (.aload_n 0, 1) := by decide +kernel
theorem dX5_send_41 : decode cX5_send 41 = .ok (.iload 4, 2) := by decide +kernel
theorem dX5_send_43 : decode cX5_send 43 = .ok (.invokevirtual 56, 3) := by decide +kernel
theorem dX5_send_46 : decode cX5_send 46 = .ok (.ifCond .eq 68, 3) := by decide +kernel
theorem dX5_send_49 : decode cX5_send 49 = .ok (.aload_n 0, 1) := by decide +kernel
theorem dX5_send_50 : decode cX5_send 50 = .ok (.iload 4, 2) := by decide +kernel
theorem dX5_send_52 : decode cX5_send 52 = .ok (.iconst 1, 1) := by decide +kernel
theorem dX5_send_53 : decode cX5_send 53 = .ok (.iconst (-1), 1) := by decide +kernel
theorem dX5_send_54 : decode cX5_send 54 = .ok (.invokevirtual 91, 3) := by decide +kernel
theorem dX5_send_57 : decode cX5_send 57 = .ok (.aload_n 0, 1) := by decide +kernel
theorem dX5_send_58 : decode cX5_send 58 = .ok (.iload_n 1, 1) := by decide +kernel
theorem dX5_send_59 : decode cX5_send 59 = .ok (.invokevirtual 131, 3) := by decide +kernel
theorem dX5_send_62 : decode cX5_send 62 = .ok (.aload_n 0, 1) := by decide +kernel
theorem dX5_send_63 : decode cX5_send 63 = .ok (.iconst 4, 1) := by decide +kernel
theorem dX5_send_64 : decode cX5_send 64 = .ok (.invokevirtual 76, 3) := by decide +kernel
theorem dX5_send_67 : decode cX5_send 67 = .ok (.istore 5, 2) := by decide +kernel
theorem dX5_send_69 : decode cX5_send 69 = .ok (.aload_n 0, 1) := by decide +kernel
theorem dX5_send_70 : decode cX5_send 70 = .ok (.invokevirtual 142, 3) := by decide +kernel
theorem dX5_send_73 : decode cX5_send 73 = .ok (.iload_n 2, 1) := by decide +kernel
theorem dX5_send_74 : decode cX5_send 74 = .ok (.ifCond .lt 9, 3) := by decide +kernel
theorem dX5_send_77 : decode cX5_send 77 = .ok (.iload 5, 2) := by decide +kernel
theorem dX5_send_79 : decode cX5_send 79 = .ok (.iload_n 3, 1) := by decide +kernel
theorem dX5_send_80 : decode cX5_send 80 = .ok (.if_icmp .ge 7, 3) := by decide +kernel
theorem dX5_send_83 : decode cX5_send 83 = .ok (.iconst 1, 1) := by decide +kernel
theorem dX5_send_84 : decode cX5_send 84 = .ok (.goto 4, 3) := by decide +kernel
theorem dX5_send_87 : decode cX5_send 87 = .ok (.iconst 0, 1) := by decide +kernel
theorem dX5_send_88 : decode cX5_send 88 = .ok (.istore 6, 2) := by decide +kernel
theorem dX5_send_90 : decode cX5_send 90 = .ok (.iload 6, 2) := by decide +kernel
theorem dX5_send_92 : decode cX5_send 92 = .ok (.ifCond .eq 8, 3) := by decide +kernel
theorem dX5_send_95 : decode cX5_send 95 = .ok (.iload 4, 2) := by decide +kernel
theorem dX5_send_97 : decode cX5_send 97 = .ok (.goto 4, 3) := by decide +kernel
theorem dX5_send_100 : decode cX5_send 100 = .ok (.iload_n 2, 1) := by decide +kernel
theorem dX5_send_101 : decode cX5_send 101 = .ok (.istore_n 2, 1) := by decide +kernel
theorem dX5_send_102 : decode cX5_send 102 = .ok (.iload 6, 2) := by decide +kernel
theorem dX5_send_104 : decode cX5_send 104 = .ok (.ifCond .eq 8, 3) := by decide +kernel
theorem dX5_send_107 : decode cX5_send 107 = .ok (.iload 5, 2) := by decide +kernel
theorem dX5_send_109 : decode cX5_send 109 = .ok (.goto 4, 3) := by decide +kernel
theorem dX5_send_112 : decode cX5_send 112 = .ok (.iload_n 3, 1) := by decide +kernel
theorem dX5_send_113 : decode cX5_send 113 = .ok (.istore_n 3, 1) := by decide +kernel
theorem dX5_send_114 : decode cX5_send 114 = .ok (.iinc 4 1, 3) := by decide +kernel
theorem dX5_send_117 : decode cX5_send 117 = .ok (.goto (-88), 3) := by decide +kernel
theorem dX5_send_120 : decode cX5_send 120 = .ok (.aload_n 0, 1) := by decide +kernel
theorem dX5_send_121 : decode cX5_send 121 = .ok (.iload_n 2, 1) := by decide +kernel
theorem dX5_send_122 : decode cX5_send 122 = .ok (.invokevirtual 148, 3) := by decide +kernel
theorem dX5_send_125 : decode cX5_send 125 = .ok (.ireturn, 1) := by decide +kernel
theorem dX5_cloud_0 : decode cX5_cloud 0 = .ok (.iload_n 1, 1) := by decide +kernel
theorem dX5_cloud_1 : decode cX5_cloud 1 = .ok (.i2l, 1) := by decide +kernel
theorem dX5_cloud_2 : decode cX5_cloud 2 = .ok (.iconst 1, 1) := by decide +kernel
theorem dX5_cloud_3 : decode cX5_cloud 3 = .ok (.bipush 60, 2) := by decide +kernel
theorem dX5_cloud_5 : decode cX5_cloud 5 = .ok (.invokestatic 44, 3) := by decide +kernel
theorem dX5_cloud_8 : decode cX5_cloud 8 = .ok (.ifCond .ne 10, 3) := by decide +kernel
theorem dX5_cloud_11 : decode cX5_cloud 11 = .ok (.aload_n 0, 1) := by decide +kernel
theorem dX5_cloud_12 : decode cX5_cloud 12 = .ok (.ldc 38, 2) := by decide +kernel
theorem dX5_cloud_14 : decode cX5_cloud 14 = .ok (.invokevirtual 40, 3) := by decide +kernel
theorem dX5_cloud_17 : decode cX5_cloud 17 = .ok (.ireturn, 1) := by decide +kernel
theorem dX5_cloud_18 : decode cX5_cloud 18 = .ok (.aload_n 0, 1) := by decide +kernel
theorem dX5_cloud_19 : decode cX5_cloud 19 = .ok (.invokevirtual 139, 3) := by decide +kernel
theorem dX5_cloud_22 : decode cX5_cloud 22 = .ok (.iconst (-1), 1) := by decide +kernel
theorem dX5_cloud_23 : decode cX5_cloud 23 = .ok (.istore_n 2, 1) := by decide +kernel
theorem dX5_cloud_24 : decode cX5_cloud 24 = .ok (.iconst 0, 1) := by decide +kernel
theorem dX5_cloud_25 : decode cX5_cloud 25 = .ok (.istore_n 3, 1) := by decide +kernel
theorem dX5_cloud_26 : decode cX5_cloud 26 = .ok (.iconst 0, 1) := by decide +kernel
theorem dX5_cloud_27 : decode cX5_cloud 27 = .ok (.istore 4, 2) := by decide +kernel
theorem dX5_cloud_29 : decode cX5_cloud 29 = .ok (.iload 4, 2) := by decide +kernel
theorem dX5_cloud_31 : decode cX5_cloud 31 = .ok (.bipush 10, 2) := by decide +kernel
theorem dX5_cloud_33 : decode cX5_cloud 33 = .ok (.if_icmp .ge 75, 3) := by decide +kernel
theorem dX5_cloud_36 : decode cX5_cloud 36 = .ok (.aload_n 0, 1) := by decide +kernel
theorem dX5_cloud_37 : decode cX5_cloud 37 = .ok (.getfield 9, 3) := by decide +kernel
theorem dX5_cloud_40 : decode cX5_cloud 40 = .ok (.iconst 2, 1) := by decide +kernel
theorem dX5_cloud_41 : decode cX5_cloud 41 = .ok (.iload 4, 2) := by decide +kernel
theorem dX5_cloud_43 : decode cX5_cloud 43 = .ok (.iadd, 1) := by decide +kernel
theorem dX5_cloud_44 : decode cX5_cloud 44 = .ok (.iconst 0, 1) := by decide +kernel
theorem dX5_cloud_45 : decode cX5_cloud 45 = .ok (.iastore, 1) := by decide +kernel
theorem dX5_cloud_46 : decode cX5_cloud 46 = .ok (.aload_n 0, 1) := by decide +kernel
theorem dX5_cloud_47 : decode cX5_cloud 47 = .ok (.iload_n 1, 1) := by decide +kernel
theorem dX5_cloud_48 : decode cX5_cloud 48 = .ok (.invokevirtual 131, 3) := by decide +kernel
theorem dX5_cloud_51 : decode cX5_cloud 51 = .ok (.aload_n 0, 1) := by decide +kernel
theorem dX5_cloud_52 : decode cX5_cloud 52 = .ok (.invokevirtual 88, 3) := by decide +kernel
theorem dX5_cloud_55 : decode cX5_cloud 55 = .ok (.istore 5, 2) := by decide +kernel
theorem dX5_cloud_57 : decode cX5_cloud 57 = .ok (.aload_n 0, 1) := by decide +kernel
theorem dX5_cloud_58 : decode cX5_cloud 58 = .ok (.invokevirtual 142, 3) := by decide +kernel
theorem dX5_cloud_61 : decode cX5_cloud 61 = .ok (.iload_n 2, 1) := by decide +kernel
theorem dX5_cloud_62 : decode cX5_cloud 62 = .ok (.ifCond .lt 9, 3) := by decide +kernel
theorem dX5_cloud_65 : decode cX5_cloud 65 = .ok (.iload 5, 2) := by decide +kernel
theorem dX5_cloud_67 : decode cX5_cloud 67 = .ok (.iload_n 3, 1) := by decide +kernel
theorem dX5_cloud_68 : decode cX5_cloud 68 = .ok (.if_icmp .ge 7, 3) := by decide +kernel
theorem dX5_cloud_71 : decode cX5_cloud 71 = .ok (.iconst 1, 1) := by decide +kernel
theorem dX5_cloud_72 : decode cX5_cloud 72 = .ok (.goto 4, 3) := by decide +kernel
theorem dX5_cloud_75 : decode cX5_cloud 75 = .ok (.iconst 0, 1) := by decide +kernel
theorem dX5_cloud_76 : decode cX5_cloud 76 = .ok (.istore 6, 2) := by decide +kernel
theorem dX5_cloud_78 : decode cX5_cloud 78 = .ok (.iload 6, 2) := by decide +kernel
theorem dX5_cloud_80 : decode cX5_cloud 80 = .ok (.ifCond .eq 8, 3) := by decide +kernel
theorem dX5_cloud_83 : decode cX5_cloud 83 = .ok (.iload 4, 2) := by decide +kernel
theorem dX5_cloud_85 : decode cX5_cloud 85 = .ok (.goto 4, 3) := by decide +kernel
theorem dX5_cloud_88 : decode cX5_cloud 88 = .ok (.iload_n 2, 1) := by decide +kernel
theorem dX5_cloud_89 : decode cX5_cloud 89 = .ok (.istore_n 2, 1) := by decide +kernel
theorem dX5_cloud_90 : decode cX5_cloud 90 = .ok (.iload 6, 2) := by decide +kernel
theorem dX5_cloud_92 : decode cX5_cloud 92 = .ok (.ifCond .eq 8, 3) := by decide +kernel
theorem dX5_cloud_95 : decode cX5_cloud 95 = .ok (.iload 5, 2) := by decide +kernel
theorem dX5_cloud_97 : decode cX5_cloud 97 = .ok (.goto 4, 3) := by decide +kernel
theorem dX5_cloud_100 : decode cX5_cloud 100 = .ok (.iload_n 3, 1) := by decide +kernel
theorem dX5_cloud_101 : decode cX5_cloud 101 = .ok (.istore_n 3, 1) := by decide +kernel
theorem dX5_cloud_102 : decode cX5_cloud 102 = .ok (.iinc 4 1, 3) := by decide +kernel
theorem dX5_cloud_105 : decode cX5_cloud 105 = .ok (.goto (-76), 3) := by decide +kernel
theorem dX5_cloud_108 : decode cX5_cloud 108 = .ok (.iload_n 2, 1) := by decide +kernel
theorem dX5_cloud_109 : decode cX5_cloud 109 = .ok (.ireturn, 1) := by decide +kernel
theorem dX5_enough_0 : decode cX5_enough 0 = .ok (.aload_n 0, 1) := by decide +kernel
theorem dX5_enough_1 : decode cX5_enough 1 = .ok (.iload_n 1, 1) := by decide +kernel
theorem dX5_enough_2 : decode cX5_enough 2 = .ok (.iload_n 2, 1) := by decide +kernel
theorem dX5_enough_3 : decode cX5_enough 3 = .ok (.invokevirtual 151, 3) := by decide +kernel
theorem dX5_enough_6 : decode cX5_enough 6 = .ok (.ifCond .eq 27, 3) := by decide +kernel
theorem dX5_enough_9 : decode cX5_enough 9 = .ok (.iload_n 3, 1) := by decide +kernel
theorem dX5_enough_10 : decode cX5_enough 10 = .ok (.i2l, 1) := by decide +kernel
theorem dX5_enough_11 : decode cX5_enough 11 = .ok (.iconst 1, 1) := by decide +kernel
theorem dX5_enough_12 : decode cX5_enough 12 = .ok (.bipush 60, 2) := by decide +kernel
theorem dX5_enough_14 : decode cX5_enough 14 = .ok (.invokestatic 44, 3) := by decide +kernel
theorem dX5_enough_17 : decode cX5_enough 17 = .ok (.ifCond .eq 16, 3) := by decide +kernel
theorem dX5_enough_20 : decode cX5_enough 20 = .ok (.iload 4, 2) := by decide +kernel
theorem dX5_enough_22 : decode cX5_enough 22 = .ok (.i2l, 1) := by decide +kernel
theorem dX5_enough_23 : decode cX5_enough 23 = .ok (.iconst 0, 1) := by decide +kernel
theorem dX5_enough_24 : decode cX5_enough 24 = .ok (.sipush 400, 3) := by decide +kernel
theorem dX5_enough_27 : decode cX5_enough 27 = .ok (.invokestatic 44, 3) := by decide +kernel
theorem dX5_enough_30 : decode cX5_enough 30 = .ok (.ifCond .ne 10, 3) := by decide +kernel
theorem dX5_enough_33 : decode cX5_enough 33 = .ok (.aload_n 0, 1) := by decide +kernel
theorem dX5_enough_34 : decode cX5_enough 34 = .ok (.ldc 38, 2) := by decide +kernel
theorem dX5_enough_36 : decode cX5_enough 36 = .ok (.invokevirtual 40, 3) := by decide +kernel
theorem dX5_enough_39 : decode cX5_enough 39 = .ok (.ireturn, 1) := by decide +kernel
theorem dX5_enough_40 : decode cX5_enough 40 = .ok (.aload_n 0, 1) := by decide +kernel
theorem dX5_enough_41 : decode cX5_enough 41 = .ok (.invokevirtual 139, 3) := by decide +kernel
theorem dX5_enough_44 : decode cX5_enough 44 = .ok (.iconst (-1), 1) := by decide +kernel
theorem dX5_enough_45 : decode cX5_enough 45 = .ok (.istore 5, 2) := by decide +kernel
theorem dX5_enough_47 : decode cX5_enough 47 = .ok (.iconst 0, 1) := by decide +kernel
theorem dX5_enough_48 : decode cX5_enough 48 = .ok (.istore 6, 2) := by decide +kernel
theorem dX5_enough_50 : decode cX5_enough 50 = .ok (.iload 6, 2) := by decide +kernel
theorem dX5_enough_52 : decode cX5_enough 52 = .ok (.sipush 200, 3) := by decide +kernel
theorem dX5_enough_55 : decode cX5_enough 55 = .ok (.if_icmp .gt 41, 3) := by decide +kernel
theorem dX5_enough_58 : decode cX5_enough 58 = .ok (.iload 5, 2) := by decide +kernel
theorem dX5_enough_60 : decode cX5_enough 60 = .ok (.ifCond .ge 36, 3) := by decide +kernel
theorem dX5_enough_63 : decode cX5_enough 63 = .ok (.aload_n 0, 1) := by decide +kernel
theorem dX5_enough_64 : decode cX5_enough 64 = .ok (.iload_n 1, 1) := by decide +kernel
theorem dX5_enough_65 : decode cX5_enough 65 = .ok (.iconst 2, 1) := by decide +kernel
theorem dX5_enough_66 : decode cX5_enough 66 = .ok (.iload 6, 2) := by decide +kernel
theorem dX5_enough_68 : decode cX5_enough 68 = .ok (.invokevirtual 91, 3) := by decide +kernel
theorem dX5_enough_71 : decode cX5_enough 71 = .ok (.aload_n 0, 1) := by decide +kernel
theorem dX5_enough_72 : decode cX5_enough 72 = .ok (.iload_n 2, 1) := by decide +kernel
theorem dX5_enough_73 : decode cX5_enough 73 = .ok (.iload_n 3, 1) := by decide +kernel
theorem dX5_enough_74 : decode cX5_enough 74 = .ok (.invokevirtual 145, 3) := by decide +kernel
theorem dX5_enough_77 : decode cX5_enough 77 = .ok (.iload 4, 2) := by decide +kernel
theorem dX5_enough_79 : decode cX5_enough 79 = .ok (.if_icmp .lt 8, 3) := by decide +kernel
theorem dX5_enough_82 : decode cX5_enough 82 = .ok (.iload 6, 2) := by decide +kernel
theorem dX5_enough_84 : decode cX5_enough 84 = .ok (.goto 4, 3) := by decide +kernel
theorem dX5_enough_87 : decode cX5_enough 87 = .ok (.iconst (-1), 1) := by decide +kernel
theorem dX5_enough_88 : decode cX5_enough 88 = .ok (.istore 5, 2) := by decide +kernel
theorem dX5_enough_90 : decode cX5_enough 90 = .ok (.iinc 6 1, 3) := by decide +kernel
theorem dX5_enough_93 : decode cX5_enough 93 = .ok (.goto (-43), 3) := by decide +kernel
theorem dX5_enough_96 : decode cX5_enough 96 = .ok (.aload_n 0, 1) := by decide +kernel
theorem dX5_enough_97 : decode cX5_enough 97 = .ok (.iload 5, 2) := by decide +kernel
theorem dX5_enough_99 : decode cX5_enough 99 = .ok (.invokevirtual 148, 3) := by decide +kernel
theorem dX5_enough_102 : decode cX5_enough 102 = .ok (.ireturn, 1) := by decide +kernel
theorem dX5_brownest_0 : decode cX5_brownest 0 = .ok (.iload_n 1, 1) := by decide +kernel
theorem dX5_brownest_1 : decode cX5_brownest 1 = .ok (.i2l, 1) := by decide +kernel
theorem dX5_brownest_2 : decode cX5_brownest 2 = .ok (.iconst 0, 1) := by decide +kernel
theorem dX5_brownest_3 : decode cX5_brownest 3 = .ok (.sipush 200, 3) := by decide +kernel
theorem dX5_brownest_6 : decode cX5_brownest 6 = .ok (.invokestatic 44, 3) := by decide +kernel
theorem dX5_brownest_9 : decode cX5_brownest 9 = .ok (.ifCond .ne 10, 3) := by decide +kernel
theorem dX5_brownest_12 : decode cX5_brownest 12 = .ok (.aload_n 0, 1) := by decide +kernel
theorem dX5_brownest_13 : decode cX5_brownest 13 = .ok (.ldc 38, 2) := by decide +kernel
theorem dX5_brownest_15 : decode cX5_brownest 15 = .ok (.invokevirtual 40, 3) := by decide +kernel
theorem dX5_brownest_18 : decode cX5_brownest 18 = .ok (.ireturn, 1) := by decide +kernel
theorem dX5_brownest_19 : decode cX5_brownest 19 = .ok (.aload_n 0, 1) := by decide +kernel
theorem dX5_brownest_20 : decode cX5_brownest 20 = .ok (.invokevirtual 139, 3) := by decide +kernel
theorem dX5_brownest_23 : decode cX5_brownest 23 = .ok (.aload_n 0, 1) := by decide +kernel
theorem dX5_brownest_24 : decode cX5_brownest 24 = .ok (.iload_n 1, 1) := by decide +kernel
theorem dX5_brownest_25 : decode cX5_brownest 25 = .ok (.invokevirtual 131, 3) := by decide +kernel
theorem dX5_brownest_28 : decode cX5_brownest 28 = .ok (.iconst (-1), 1) := by decide +kernel
theorem dX5_brownest_29 : decode cX5_brownest 29 = .ok (.istore_n 2, 1) := by decide +kernel
theorem dX5_brownest_30 : decode cX5_brownest 30 = .ok (.iconst 0, 1) := by decide +kernel
theorem dX5_brownest_31 : decode cX5_brownest 31 = .ok (.istore_n 3, 1) := by decide +kernel
theorem dX5_brownest_32 : decode cX5_brownest 32 = .ok (.iload_n 3, 1) := by decide +kernel
theorem dX5_brownest_33 : decode cX5_brownest 33 = .ok (.aload_n 0, 1) := by decide +kernel
theorem dX5_brownest_34 : decode cX5_brownest 34 = .ok (.getfield 9, 3) := by decide +kernel
theorem dX5_brownest_37 : decode cX5_brownest 37 = .ok (.iconst 1, 1) := by decide +kernel
theorem dX5_brownest_38 : decode cX5_brownest 38 = .ok (.iaload, 1) := by decide +kernel
theorem dX5_brownest_39 : decode cX5_brownest 39 = .ok (.if_icmp .ge 32, 3) := by decide +kernel
theorem dX5_brownest_42 : decode cX5_brownest 42 = .ok (.iload_n 2, 1) := by decide +kernel
theorem dX5_brownest_43 : decode cX5_brownest 43 = .ok (.ifCond .lt 16, 3) := by decide +kernel
theorem dX5_brownest_46 : decode cX5_brownest 46 = .ok (.aload_n 0, 1) := by decide +kernel
theorem dX5_brownest_47 : decode cX5_brownest 47 = .ok (.iload_n 3, 1) := by decide +kernel
theorem dX5_brownest_48 : decode cX5_brownest 48 = .ok (.invokevirtual 105, 3) := by decide +kernel
theorem dX5_brownest_51 : decode cX5_brownest 51 = .ok (.aload_n 0, 1) := by decide +kernel
theorem dX5_brownest_52 : decode cX5_brownest 52 = .ok (.iload_n 2, 1) := by decide +kernel
theorem dX5_brownest_53 : decode cX5_brownest 53 = .ok (.invokevirtual 105, 3) := by decide +kernel
theorem dX5_brownest_56 : decode cX5_brownest 56 = .ok (.if_icmp .le 7, 3) := by decide +kernel
theorem dX5_brownest_59 : decode cX5_brownest 59 = .ok (.iload_n 3, 1) := by decide +kernel
theorem dX5_brownest_60 : decode cX5_brownest 60 = .ok (.goto 4, 3) := by decide +kernel
theorem dX5_brownest_63 : decode cX5_brownest 63 = .ok (.iload_n 2, 1) := by decide +kernel
theorem dX5_brownest_64 : decode cX5_brownest 64 = .ok (.istore_n 2, 1) := by decide +kernel
theorem dX5_brownest_65 : decode cX5_brownest 65 = .ok (.iinc 3 1, 3) := by decide +kernel
theorem dX5_brownest_68 : decode cX5_brownest 68 = .ok (.goto (-36), 3) := by decide +kernel
theorem dX5_brownest_71 : decode cX5_brownest 71 = .ok (.aload_n 0, 1) := by decide +kernel
theorem dX5_brownest_72 : decode cX5_brownest 72 = .ok (.invokevirtual 142, 3) := by decide +kernel
theorem dX5_brownest_75 : decode cX5_brownest 75 = .ok (.aload_n 0, 1) := by decide +kernel
theorem dX5_brownest_76 : decode cX5_brownest 76 = .ok (.iload_n 2, 1) := by decide +kernel
theorem dX5_brownest_77 : decode cX5_brownest 77 = .ok (.invokevirtual 148, 3) := by decide +kernel
theorem dX5_brownest_80 : decode cX5_brownest 80 = .ok (.ireturn, 1) := by decide +kernel
theorem dX5_feed_0 : decode cX5_feed 0 = .ok (.iload_n 2, 1) := by decide +kernel
theorem dX5_feed_1 : decode cX5_feed 1 = .ok (.i2l, 1) := by decide +kernel
theorem dX5_feed_2 : decode cX5_feed 2 = .ok (.iconst 1, 1) := by decide +kernel
theorem dX5_feed_3 : decode cX5_feed 3 = .ok (.iconst 4, 1) := by decide +kernel
theorem dX5_feed_4 : decode cX5_feed 4 = .ok (.invokestatic 44, 3) := by decide +kernel
theorem dX5_feed_7 : decode cX5_feed 7 = .ok (.ifCond .ne 10, 3) := by decide +kernel
theorem dX5_feed_10 : decode cX5_feed 10 = .ok (.aload_n 0, 1) := by decide +kernel
theorem dX5_feed_11 : decode cX5_feed 11 = .ok (.ldc 38, 2) := by decide +kernel
theorem dX5_feed_13 : decode cX5_feed 13 = .ok (.invokevirtual 40, 3) := by decide +kernel
theorem dX5_feed_16 : decode cX5_feed 16 = .ok (.ireturn, 1) := by decide +kernel
theorem dX5_feed_17 : decode cX5_feed 17 = .ok (.aload_n 0, 1) := by decide +kernel
theorem dX5_feed_18 : decode cX5_feed 18 = .ok (.getfield 154, 3) := by decide +kernel
theorem dX5_feed_21 : decode cX5_feed 21 = .ok (.iload_n 2, 1) := by decide +kernel
theorem dX5_feed_22 : decode cX5_feed 22 = .ok (.iadd, 1) := by decide +kernel
theorem dX5_feed_23 : decode cX5_feed 23 = .ok (.bipush 120, 2) := by decide +kernel
theorem dX5_feed_25 : decode cX5_feed 25 = .ok (.if_icmp .le 10, 3) := by decide +kernel
theorem dX5_feed_28 : decode cX5_feed 28 = .ok (.aload_n 0, 1) := by decide +kernel
theorem dX5_feed_29 : decode cX5_feed 29 = .ok (.ldc 95, 2) := by decide +kernel
theorem dX5_feed_31 : decode cX5_feed 31 = .ok (.invokevirtual 40, 3) := by decide +kernel
theorem dX5_feed_34 : decode cX5_feed 34 = .ok (.ireturn, 1) := by decide +kernel
theorem dX5_feed_35 : decode cX5_feed 35 = .ok (.iload_n 2, 1) := by decide +kernel
theorem dX5_feed_36 : decode cX5_feed 36 = .ok (.iconst 1, 1) := by decide +kernel
theorem dX5_feed_37 : decode cX5_feed 37 = .ok (.isub, 1) := by decide +kernel
theorem dX5_feed_38 : decode cX5_feed 38 = .ok (.istore_n 3, 1) := by decide +kernel
theorem dX5_feed_39 : decode cX5_feed 39 = .ok (.iload_n 3, 1) := by decide +kernel
theorem dX5_feed_40 : decode cX5_feed 40 = .ok (.ifCond .lt 38, 3) := by decide +kernel
theorem dX5_feed_43 : decode cX5_feed 43 = .ok (.aload_n 0, 1) := by decide +kernel
theorem dX5_feed_44 : decode cX5_feed 44 = .ok (.getfield 25, 3) := by decide +kernel
theorem dX5_feed_47 : decode cX5_feed 47 = .ok (.aload_n 0, 1) := by decide +kernel
theorem dX5_feed_48 : decode cX5_feed 48 = .ok (.getfield 154, 3) := by decide +kernel
theorem dX5_feed_51 : decode cX5_feed 51 = .ok (.iload_n 1, 1) := by decide +kernel
theorem dX5_feed_52 : decode cX5_feed 52 = .ok (.bipush 8, 2) := by decide +kernel
theorem dX5_feed_54 : decode cX5_feed 54 = .ok (.iload_n 3, 1) := by decide +kernel
theorem dX5_feed_55 : decode cX5_feed 55 = .ok (.imul, 1) := by decide +kernel
theorem dX5_feed_56 : decode cX5_feed 56 = .ok (.ishr, 1) := by decide +kernel
theorem dX5_feed_57 : decode cX5_feed 57 = .ok (.sipush 255, 3) := by decide +kernel
theorem dX5_feed_60 : decode cX5_feed 60 = .ok (.iand, 1) := by decide +kernel
theorem dX5_feed_61 : decode cX5_feed 61 = .ok (.iastore, 1) := by decide +kernel
theorem dX5_feed_62 : decode cX5_feed 62 = .ok (.aload_n 0, 1) := by decide +kernel
theorem dX5_feed_63 : decode cX5_feed 63 = .ok (.dup, 1) := by decide +kernel
theorem dX5_feed_64 : decode cX5_feed 64 = .ok (.getfield 154, 3) := by decide +kernel
theorem dX5_feed_67 : decode cX5_feed 67 = .ok (.iconst 1, 1) := by decide +kernel
theorem dX5_feed_68 : decode cX5_feed 68 = .ok (.iadd, 1) := by decide +kernel
theorem dX5_feed_69 : decode cX5_feed 69 = .ok (.putfield 154, 3) := by decide +kernel
theorem dX5_feed_72 : decode cX5_feed 72 = .ok (.iinc 3 (-1), 3) := by decide +kernel
theorem dX5_feed_75 : decode cX5_feed 75 = .ok (.goto (-36), 3) := by decide +kernel
theorem dX5_feed_78 : decode cX5_feed 78 = .ok (.aload_n 0, 1) := by decide +kernel
theorem dX5_feed_79 : decode cX5_feed 79 = .ok (.getfield 154, 3) := by decide +kernel
theorem dX5_feed_82 : decode cX5_feed 82 = .ok (.ireturn, 1) := by decide +kernel
theorem dX5_wipe_0 : decode cX5_wipe 0 = .ok (.aload_n 0, 1) := by decide +kernel
theorem dX5_wipe_1 : decode cX5_wipe 1 = .ok (.getfield 154, 3) := by decide +kernel
theorem dX5_wipe_4 : decode cX5_wipe 4 = .ok (.istore_n 1, 1) := by decide +kernel
theorem dX5_wipe_5 : decode cX5_wipe 5 = .ok (.aload_n 0, 1) := by decide +kernel
theorem dX5_wipe_6 : decode cX5_wipe 6 = .ok (.iconst 0, 1) := by decide +kernel
theorem dX5_wipe_7 : decode cX5_wipe 7 = .ok (.putfield 154, 3) := by decide +kernel
theorem dX5_wipe_10 : decode cX5_wipe 10 = .ok (.iload_n 1, 1) := by decide +kernel
theorem dX5_wipe_11 : decode cX5_wipe 11 = .ok (.ireturn, 1) := by decide +kernel
theorem dX5_isByte_0 : decode cX5_isByte 0 = .ok (.iload_n 1, 1) := by decide +kernel
theorem dX5_isByte_1 : decode cX5_isByte 1 = .ok (.aload_n 0, 1) := by decide +kernel
theorem dX5_isByte_2 : decode cX5_isByte 2 = .ok (.getfield 154, 3) := by decide +kernel
theorem dX5_isByte_5 : decode cX5_isByte 5 = .ok (.if_icmp .ge 22, 3) := by decide +kernel
theorem dX5_isByte_8 : decode cX5_isByte 8 = .ok (.aload_n 0, 1) := by decide +kernel
theorem dX5_isByte_9 : decode cX5_isByte 9 = .ok (.getfield 25, 3) := by decide +kernel
theorem dX5_isByte_12 : decode cX5_isByte 12 = .ok (.iload_n 1, 1) := by decide +kernel
theorem dX5_isByte_13 : decode cX5_isByte 13 = .ok (.iaload, 1) := by decide +kernel
theorem dX5_isByte_14 : decode cX5_isByte 14 = .ok (.i2l, 1) := by decide +kernel
theorem dX5_isByte_15 : decode cX5_isByte 15 = .ok (.iload_n 2, 1) := by decide +kernel
theorem dX5_isByte_16 : decode cX5_isByte 16 = .ok (.iload_n 3, 1) := by decide +kernel
theorem dX5_isByte_17 : decode cX5_isByte 17 = .ok (.invokestatic 44, 3) := by decide +kernel
theorem dX5_isByte_20 : decode cX5_isByte 20 = .ok (.ifCond .eq 7, 3) := by decide +kernel
theorem dX5_isByte_23 : decode cX5_isByte 23 = .ok (.iconst 1, 1) := by decide +kernel
theorem dX5_isByte_24 : decode cX5_isByte 24 = .ok (.goto 4, 3) := by decide +kernel
theorem dX5_isByte_27 : decode cX5_isByte 27 = .ok (.iconst 0, 1) := by decide +kernel
theorem dX5_isByte_28 : decode cX5_isByte 28 = .ok (.ireturn, 1) := by decide +kernel
theorem dX5_isName_0 : decode cX5_isName 0 = .ok (.iload_n 2, 1) := by decide +kernel
theorem dX5_isName_1 : decode cX5_isName 1 = .ok (.bipush 7, 2) := by decide +kernel
theorem dX5_isName_3 : decode cX5_isName 3 = .ok (.if_icmp .gt 26, 3) := by decide +kernel
theorem dX5_isName_6 : decode cX5_isName 6 = .ok (.iload_n 2, 1) := by decide +kernel
theorem dX5_isName_7 : decode cX5_isName 7 = .ok (.bipush 7, 2) := by decide +kernel
theorem dX5_isName_9 : decode cX5_isName 9 = .ok (.if_icmp .eq 16, 3) := by decide +kernel
theorem dX5_isName_12 : decode cX5_isName 12 = .ok (.getstatic 158, 3) := by decide +kernel
theorem dX5_isName_15 : decode cX5_isName 15 = .ok (.bipush 7, 2) := by decide +kernel
theorem dX5_isName_17 : decode cX5_isName 17 = .ok (.iload_n 1, 1) := by decide +kernel
theorem dX5_isName_18 : decode cX5_isName 18 = .ok (.imul, 1) := by decide +kernel
theorem dX5_isName_19 : decode cX5_isName 19 = .ok (.iload_n 2, 1) := by decide +kernel
theorem dX5_isName_20 : decode cX5_isName 20 = .ok (.iadd, 1) := by decide +kernel
theorem dX5_isName_21 : decode cX5_isName 21 = .ok (.iaload, 1) := by decide +kernel
theorem dX5_isName_22 : decode cX5_isName 22 = .ok (.ifCond .ne 7, 3) := by decide +kernel
theorem dX5_isName_25 : decode cX5_isName 25 = .ok (.iconst 1, 1) := by decide +kernel
theorem dX5_isName_26 : decode cX5_isName 26 = .ok (.goto 4, 3) := by decide +kernel
theorem dX5_isName_29 : decode cX5_isName 29 = .ok (.iconst 0, 1) := by decide +kernel
theorem dX5_isName_30 : decode cX5_isName 30 = .ok (.istore_n 3, 1) := by decide +kernel
theorem dX5_isName_31 : decode cX5_isName 31 = .ok (.iconst 0, 1) := by decide +kernel
theorem dX5_isName_32 : decode cX5_isName 32 = .ok (.istore 4, 2) := by decide +kernel
theorem dX5_isName_34 : decode cX5_isName 34 = .ok (.iload 4, 2) := by decide +kernel
theorem dX5_isName_36 : decode cX5_isName 36 = .ok (.iload_n 2, 1) := by decide +kernel
theorem dX5_isName_37 : decode cX5_isName 37 = .ok (.if_icmp .ge 45, 3) := by decide +kernel
theorem dX5_isName_40 : decode cX5_isName 40 = .ok (.iload_n 3, 1) := by decide +kernel
theorem dX5_isName_41 : decode cX5_isName 41 = .ok (.ifCond .eq 41, 3) := by decide +kernel
theorem dX5_isName_44 : decode cX5_isName 44 = .ok (.getstatic 158, 3) := by decide +kernel
theorem dX5_isName_47 : decode cX5_isName 47 = .ok (.bipush 7, 2) := by decide +kernel
theorem dX5_isName_49 : decode cX5_isName 49 = .ok (.iload_n 1, 1) := by decide +kernel
theorem dX5_isName_50 : decode cX5_isName 50 = .ok (.imul, 1) := by decide +kernel
theorem dX5_isName_51 : decode cX5_isName 51 = .ok (.iload 4, 2) := by decide +kernel
theorem dX5_isName_53 : decode cX5_isName 53 = .ok (.iadd, 1) := by decide +kernel
theorem dX5_isName_54 : decode cX5_isName 54 = .ok (.iaload, 1) := by decide +kernel
theorem dX5_isName_55 : decode cX5_isName 55 = .ok (.aload_n 0, 1) := by decide +kernel
theorem dX5_isName_56 : decode cX5_isName 56 = .ok (.getfield 25, 3) := by decide +kernel
theorem dX5_isName_59 : decode cX5_isName 59 = .ok (.aload_n 0, 1) := by decide +kernel
theorem dX5_isName_60 : decode cX5_isName 60 = .ok (.getfield 161, 3) := by decide +kernel
theorem dX5_isName_63 : decode cX5_isName 63 = .ok (.iload 4, 2) := by decide +kernel
theorem dX5_isName_65 : decode cX5_isName 65 = .ok (.iadd, 1) := by decide +kernel
theorem dX5_isName_66 : decode cX5_isName 66 = .ok (.iaload, 1) := by decide +kernel
theorem dX5_isName_67 : decode cX5_isName 67 = .ok (.if_icmp .ne 7, 3) := by decide +kernel
theorem dX5_isName_70 : decode cX5_isName 70 = .ok (.iconst 1, 1) := by decide +kernel
theorem dX5_isName_71 : decode cX5_isName 71 = .ok (.goto 4, 3) := by decide +kernel
theorem dX5_isName_74 : decode cX5_isName 74 = .ok (.iconst 0, 1) := by decide +kernel
theorem dX5_isName_75 : decode cX5_isName 75 = .ok (.istore_n 3, 1) := by decide +kernel
theorem dX5_isName_76 : decode cX5_isName 76 = .ok (.iinc 4 1, 3) := by decide +kernel
theorem dX5_isName_79 : decode cX5_isName 79 = .ok (.goto (-45), 3) := by decide +kernel
theorem dX5_isName_82 : decode cX5_isName 82 = .ok (.iload_n 3, 1) := by decide +kernel
theorem dX5_isName_83 : decode cX5_isName 83 = .ok (.ireturn, 1) := by decide +kernel
theorem dX5_wordHere_0 : decode cX5_wordHere 0 = .ok (.iconst 0, 1) := by decide +kernel
theorem dX5_wordHere_1 : decode cX5_wordHere 1 = .ok (.istore_n 1, 1) := by decide +kernel
theorem dX5_wordHere_2 : decode cX5_wordHere 2 = .ok (.iload_n 1, 1) := by decide +kernel
theorem dX5_wordHere_3 : decode cX5_wordHere 3 = .ok (.bipush 10, 2) := by decide +kernel
theorem dX5_wordHere_5 : decode cX5_wordHere 5 = .ok (.if_icmp .ge 26, 3) := by decide +kernel
theorem dX5_wordHere_8 : decode cX5_wordHere 8 = .ok (.aload_n 0, 1) := by decide +kernel
theorem dX5_wordHere_9 : decode cX5_wordHere 9 = .ok (.iload_n 1, 1) := by decide +kernel
theorem dX5_wordHere_10 : decode cX5_wordHere 10 = .ok (.aload_n 0, 1) := by decide +kernel
theorem dX5_wordHere_11 : decode cX5_wordHere 11 = .ok (.getfield 164, 3) := by decide +kernel
theorem dX5_wordHere_14 : decode cX5_wordHere 14 = .ok (.aload_n 0, 1) := by decide +kernel
theorem dX5_wordHere_15 : decode cX5_wordHere 15 = .ok (.getfield 161, 3) := by decide +kernel
theorem dX5_wordHere_18 : decode cX5_wordHere 18 = .ok (.isub, 1) := by decide +kernel
theorem dX5_wordHere_19 : decode cX5_wordHere 19 = .ok (.invokevirtual 167, 3) := by decide +kernel
theorem dX5_wordHere_22 : decode cX5_wordHere 22 = .ok (.ifCond .ne 9, 3) := by decide +kernel
theorem dX5_wordHere_25 : decode cX5_wordHere 25 = .ok (.iinc 1 1, 3) := by decide +kernel
theorem dX5_wordHere_28 : decode cX5_wordHere 28 = .ok (.goto (-26), 3) := by decide +kernel
theorem dX5_wordHere_31 : decode cX5_wordHere 31 = .ok (.iload_n 1, 1) := by decide +kernel
theorem dX5_wordHere_32 : decode cX5_wordHere 32 = .ok (.bipush 10, 2) := by decide +kernel
theorem dX5_wordHere_34 : decode cX5_wordHere 34 = .ok (.if_icmp .ge 7, 3) := by decide +kernel
theorem dX5_wordHere_37 : decode cX5_wordHere 37 = .ok (.iload_n 1, 1) := by decide +kernel
theorem dX5_wordHere_38 : decode cX5_wordHere 38 = .ok (.goto 5, 3) := by decide +kernel
theorem dX5_wordHere_41 : decode cX5_wordHere 41 = .ok (.bipush 23, 2) := by decide +kernel
theorem dX5_wordHere_43 : decode cX5_wordHere 43 = .ok (.ireturn, 1) := by decide +kernel
theorem dX5_reads_0 : decode cX5_reads 0 = .ok (.aload_n 0, 1) := by decide +kernel
theorem dX5_reads_1 : decode cX5_reads 1 = .ok (.aload_n 0, 1) := by decide +kernel
theorem dX5_reads_2 : decode cX5_reads 2 = .ok (.getfield 164, 3) := by decide +kernel
theorem dX5_reads_5 : decode cX5_reads 5 = .ok (.bipush 32, 2) := by decide +kernel
theorem dX5_reads_7 : decode cX5_reads 7 = .ok (.bipush 32, 2) := by decide +kernel
theorem dX5_reads_9 : decode cX5_reads 9 = .ok (.invokevirtual 170, 3) := by decide +kernel
theorem dX5_reads_12 : decode cX5_reads 12 = .ok (.ifCond .eq 16, 3) := by decide +kernel
theorem dX5_reads_15 : decode cX5_reads 15 = .ok (.aload_n 0, 1) := by decide +kernel
theorem dX5_reads_16 : decode cX5_reads 16 = .ok (.dup, 1) := by decide +kernel
theorem dX5_reads_17 : decode cX5_reads 17 = .ok (.getfield 164, 3) := by decide +kernel
theorem dX5_reads_20 : decode cX5_reads 20 = .ok (.iconst 1, 1) := by decide +kernel
theorem dX5_reads_21 : decode cX5_reads 21 = .ok (.iadd, 1) := by decide +kernel
theorem dX5_reads_22 : decode cX5_reads 22 = .ok (.putfield 164, 3) := by decide +kernel
theorem dX5_reads_25 : decode cX5_reads 25 = .ok (.goto (-25), 3) := by decide +kernel
theorem dX5_reads_28 : decode cX5_reads 28 = .ok (.aload_n 0, 1) := by decide +kernel
theorem dX5_reads_29 : decode cX5_reads 29 = .ok (.aload_n 0, 1) := by decide +kernel
theorem dX5_reads_30 : decode cX5_reads 30 = .ok (.getfield 164, 3) := by decide +kernel
theorem dX5_reads_33 : decode cX5_reads 33 = .ok (.putfield 161, 3) := by decide +kernel
theorem dX5_reads_36 : decode cX5_reads 36 = .ok (.aload_n 0, 1) := by decide +kernel
theorem dX5_reads_37 : decode cX5_reads 37 = .ok (.iconst 0, 1) := by decide +kernel
theorem dX5_reads_38 : decode cX5_reads 38 = .ok (.putfield 174, 3) := by decide +kernel
theorem dX5_reads_41 : decode cX5_reads 41 = .ok (.aload_n 0, 1) := by decide +kernel
theorem dX5_reads_42 : decode cX5_reads 42 = .ok (.getfield 164, 3) := by decide +kernel
theorem dX5_reads_45 : decode cX5_reads 45 = .ok (.aload_n 0, 1) := by decide +kernel
theorem dX5_reads_46 : decode cX5_reads 46 = .ok (.getfield 154, 3) := by decide +kernel
theorem dX5_reads_49 : decode cX5_reads 49 = .ok (.if_icmp .ne 12, 3) := by decide +kernel
theorem dX5_reads_52 : decode cX5_reads 52 = .ok (.aload_n 0, 1) := by decide +kernel
theorem dX5_reads_53 : decode cX5_reads 53 = .ok (.bipush 22, 2) := by decide +kernel
theorem dX5_reads_55 : decode cX5_reads 55 = .ok (.putfield 177, 3) := by decide +kernel
theorem dX5_reads_58 : decode cX5_reads 58 = .ok (.goto 186, 3) := by decide +kernel
theorem dX5_reads_61 : decode cX5_reads 61 = .ok (.aload_n 0, 1) := by decide +kernel
theorem dX5_reads_62 : decode cX5_reads 62 = .ok (.aload_n 0, 1) := by decide +kernel
theorem dX5_reads_63 : decode cX5_reads 63 = .ok (.getfield 164, 3) := by decide +kernel
theorem dX5_reads_66 : decode cX5_reads 66 = .ok (.bipush 97, 2) := by decide +kernel
theorem dX5_reads_68 : decode cX5_reads 68 = .ok (.bipush 122, 2) := by decide +kernel
theorem dX5_reads_70 : decode cX5_reads 70 = .ok (.invokevirtual 170, 3) := by decide +kernel
theorem dX5_reads_73 : decode cX5_reads 73 = .ok (.ifCond .eq 42, 3) := by decide +kernel
theorem dX5_reads_76 : decode cX5_reads 76 = .ok (.aload_n 0, 1) := by decide +kernel
theorem dX5_reads_77 : decode cX5_reads 77 = .ok (.aload_n 0, 1) := by decide +kernel
theorem dX5_reads_78 : decode cX5_reads 78 = .ok (.getfield 164, 3) := by decide +kernel
theorem dX5_reads_81 : decode cX5_reads 81 = .ok (.bipush 97, 2) := by decide +kernel
theorem dX5_reads_83 : decode cX5_reads 83 = .ok (.bipush 122, 2) := by decide +kernel
theorem dX5_reads_85 : decode cX5_reads 85 = .ok (.invokevirtual 170, 3) := by decide +kernel
theorem dX5_reads_88 : decode cX5_reads 88 = .ok (.ifCond .eq 16, 3) := by decide +kernel
theorem dX5_reads_91 : decode cX5_reads 91 = .ok (.aload_n 0, 1) := by decide +kernel
theorem dX5_reads_92 : decode cX5_reads 92 = .ok (.dup, 1) := by decide +kernel
theorem dX5_reads_93 : decode cX5_reads 93 = .ok (.getfield 164, 3) := by decide +kernel
theorem dX5_reads_96 : decode cX5_reads 96 = .ok (.iconst 1, 1) := by decide +kernel
theorem dX5_reads_97 : decode cX5_reads 97 = .ok (.iadd, 1) := by decide +kernel
theorem dX5_reads_98 : decode cX5_reads 98 = .ok (.putfield 164, 3) := by decide +kernel
theorem dX5_reads_101 : decode cX5_reads 101 = .ok (.goto (-25), 3) := by decide +kernel
theorem dX5_reads_104 : decode cX5_reads 104 = .ok (.aload_n 0, 1) := by decide +kernel
theorem dX5_reads_105 : decode cX5_reads 105 = .ok (.aload_n 0, 1) := by decide +kernel
theorem dX5_reads_106 : decode cX5_reads 106 = .ok (.invokevirtual 180, 3) := by decide +kernel
theorem dX5_reads_109 : decode cX5_reads 109 = .ok (.putfield 177, 3) := by decide +kernel
theorem dX5_reads_112 : decode cX5_reads 112 = .ok (.goto 132, 3) := by decide +kernel
theorem dX5_reads_115 : decode cX5_reads 115 = .ok (.aload_n 0, 1) := by decide +kernel
theorem dX5_reads_116 : decode cX5_reads 116 = .ok (.aload_n 0, 1) := by decide +kernel
theorem dX5_reads_117 : decode cX5_reads 117 = .ok (.getfield 164, 3) := by decide +kernel
theorem dX5_reads_120 : decode cX5_reads 120 = .ok (.bipush 48, 2) := by decide +kernel
theorem dX5_reads_122 : decode cX5_reads 122 = .ok (.bipush 57, 2) := by decide +kernel
theorem dX5_reads_124 : decode cX5_reads 124 = .ok (.invokevirtual 170, 3) := by decide +kernel
theorem dX5_reads_127 : decode cX5_reads 127 = .ok (.ifCond .eq 81, 3) := by decide +kernel
theorem dX5_reads_130 : decode cX5_reads 130 = .ok (.aload_n 0, 1) := by decide +kernel
theorem dX5_reads_131 : decode cX5_reads 131 = .ok (.aload_n 0, 1) := by decide +kernel
theorem dX5_reads_132 : decode cX5_reads 132 = .ok (.getfield 164, 3) := by decide +kernel
theorem dX5_reads_135 : decode cX5_reads 135 = .ok (.bipush 48, 2) := by decide +kernel
theorem dX5_reads_137 : decode cX5_reads 137 = .ok (.bipush 57, 2) := by decide +kernel
theorem dX5_reads_139 : decode cX5_reads 139 = .ok (.invokevirtual 170, 3) := by decide +kernel
theorem dX5_reads_142 : decode cX5_reads 142 = .ok (.ifCond .eq 57, 3) := by decide +kernel
theorem dX5_reads_145 : decode cX5_reads 145 = .ok (.aload_n 0, 1) := by decide +kernel
theorem dX5_reads_146 : decode cX5_reads 146 = .ok (.aload_n 0, 1) := by decide +kernel
theorem dX5_reads_147 : decode cX5_reads 147 = .ok (.getfield 174, 3) := by decide +kernel
theorem dX5_reads_150 : decode cX5_reads 150 = .ok (.sipush 999, 3) := by decide +kernel
theorem dX5_reads_153 : decode cX5_reads 153 = .ok (.if_icmp .le 10, 3) := by decide +kernel
theorem dX5_reads_156 : decode cX5_reads 156 = .ok (.aload_n 0, 1) := by decide +kernel
theorem dX5_reads_157 : decode cX5_reads 157 = .ok (.getfield 174, 3) := by decide +kernel
theorem dX5_reads_160 : decode cX5_reads 160 = .ok (.goto 23, 3) := by decide +kernel
theorem dX5_reads_163 : decode cX5_reads 163 = .ok (.bipush 10, 2) := by decide +kernel
theorem dX5_reads_165 : decode cX5_reads 165 = .ok (.aload_n 0, 1) := by decide +kernel
theorem dX5_reads_166 : decode cX5_reads 166 = .ok (.getfield 174, 3) := by decide +kernel
theorem dX5_reads_169 : decode cX5_reads 169 = .ok (.imul, 1) := by decide +kernel
theorem dX5_reads_170 : decode cX5_reads 170 = .ok (.aload_n 0, 1) := by decide +kernel
theorem dX5_reads_171 : decode cX5_reads 171 = .ok (.getfield 25, 3) := by decide +kernel
theorem dX5_reads_174 : decode cX5_reads 174 = .ok (.aload_n 0, 1) := by decide +kernel
theorem dX5_reads_175 : decode cX5_reads 175 = .ok (.getfield 164, 3) := by decide +kernel
theorem dX5_reads_178 : decode cX5_reads 178 = .ok (.iaload, 1) := by decide +kernel
theorem dX5_reads_179 : decode cX5_reads 179 = .ok (.iadd, 1) := by decide +kernel
theorem dX5_reads_180 : decode cX5_reads 180 = .ok (.bipush 48, 2) := by decide +kernel
theorem dX5_reads_182 : decode cX5_reads 182 = .ok (.isub, 1) := by decide +kernel
theorem dX5_reads_183 : decode cX5_reads 183 = .ok (.putfield 174, 3) := by decide +kernel
theorem dX5_reads_186 : decode cX5_reads 186 = .ok (.aload_n 0, 1) := by decide +kernel
theorem dX5_reads_187 : decode cX5_reads 187 = .ok (.dup, 1) := by decide +kernel
theorem dX5_reads_188 : decode cX5_reads 188 = .ok (.getfield 164, 3) := by decide +kernel
theorem dX5_reads_191 : decode cX5_reads 191 = .ok (.iconst 1, 1) := by decide +kernel
theorem dX5_reads_192 : decode cX5_reads 192 = .ok (.iadd, 1) := by decide +kernel
theorem dX5_reads_193 : decode cX5_reads 193 = .ok (.putfield 164, 3) := by decide +kernel
theorem dX5_reads_196 : decode cX5_reads 196 = .ok (.goto (-66), 3) := by decide +kernel
theorem dX5_reads_199 : decode cX5_reads 199 = .ok (.aload_n 0, 1) := by decide +kernel
theorem dX5_reads_200 : decode cX5_reads 200 = .ok (.bipush 20, 2) := by decide +kernel
theorem dX5_reads_202 : decode cX5_reads 202 = .ok (.putfield 177, 3) := by decide +kernel
theorem dX5_reads_205 : decode cX5_reads 205 = .ok (.goto 39, 3) := by decide +kernel
theorem dX5_reads_208 : decode cX5_reads 208 = .ok (.aload_n 0, 1) := by decide +kernel
theorem dX5_reads_209 : decode cX5_reads 209 = .ok (.aload_n 0, 1) := by decide +kernel
theorem dX5_reads_210 : decode cX5_reads 210 = .ok (.aload_n 0, 1) := by decide +kernel
theorem dX5_reads_211 : decode cX5_reads 211 = .ok (.getfield 164, 3) := by decide +kernel
theorem dX5_reads_214 : decode cX5_reads 214 = .ok (.bipush 59, 2) := by decide +kernel
theorem dX5_reads_216 : decode cX5_reads 216 = .ok (.bipush 59, 2) := by decide +kernel
theorem dX5_reads_218 : decode cX5_reads 218 = .ok (.invokevirtual 170, 3) := by decide +kernel
theorem dX5_reads_221 : decode cX5_reads 221 = .ok (.ifCond .eq 8, 3) := by decide +kernel
theorem dX5_reads_224 : decode cX5_reads 224 = .ok (.bipush 21, 2) := by decide +kernel
theorem dX5_reads_226 : decode cX5_reads 226 = .ok (.goto 5, 3) := by decide +kernel
theorem dX5_reads_229 : decode cX5_reads 229 = .ok (.bipush 23, 2) := by decide +kernel
theorem dX5_reads_231 : decode cX5_reads 231 = .ok (.putfield 177, 3) := by decide +kernel
theorem dX5_reads_234 : decode cX5_reads 234 = .ok (.aload_n 0, 1) := by decide +kernel
theorem dX5_reads_235 : decode cX5_reads 235 = .ok (.dup, 1) := by decide +kernel
theorem dX5_reads_236 : decode cX5_reads 236 = .ok (.getfield 164, 3) := by decide +kernel
theorem dX5_reads_239 : decode cX5_reads 239 = .ok (.iconst 1, 1) := by decide +kernel
theorem dX5_reads_240 : decode cX5_reads 240 = .ok (.iadd, 1) := by decide +kernel
theorem dX5_reads_241 : decode cX5_reads 241 = .ok (.putfield 164, 3) := by decide +kernel
theorem dX5_reads_244 : decode cX5_reads 244 = .ok (.return_, 1) := by decide +kernel
theorem dX5_passes_0 : decode cX5_passes 0 = .ok (.aload_n 0, 1) := by decide +kernel
theorem dX5_passes_1 : decode cX5_passes 1 = .ok (.getfield 183, 3) := by decide +kernel
theorem dX5_passes_4 : decode cX5_passes 4 = .ok (.ifCond .ne 11, 3) := by decide +kernel
theorem dX5_passes_7 : decode cX5_passes 7 = .ok (.aload_n 0, 1) := by decide +kernel
theorem dX5_passes_8 : decode cX5_passes 8 = .ok (.getfield 177, 3) := by decide +kernel
theorem dX5_passes_11 : decode cX5_passes 11 = .ok (.iload_n 1, 1) := by decide +kernel
theorem dX5_passes_12 : decode cX5_passes 12 = .ok (.if_icmp .eq 5, 3) := by decide +kernel
theorem dX5_passes_15 : decode cX5_passes 15 = .ok (.iconst 0, 1) := by decide +kernel
theorem dX5_passes_16 : decode cX5_passes 16 = .ok (.ireturn, 1) := by decide +kernel
theorem dX5_passes_17 : decode cX5_passes 17 = .ok (.aload_n 0, 1) := by decide +kernel
theorem dX5_passes_18 : decode cX5_passes 18 = .ok (.invokevirtual 187, 3) := by decide +kernel
theorem dX5_passes_21 : decode cX5_passes 21 = .ok (.iconst 1, 1) := by decide +kernel
theorem dX5_passes_22 : decode cX5_passes 22 = .ok (.ireturn, 1) := by decide +kernel
theorem dX5_number_0 : decode cX5_number 0 = .ok (.aload_n 0, 1) := by decide +kernel
theorem dX5_number_1 : decode cX5_number 1 = .ok (.getfield 174, 3) := by decide +kernel
theorem dX5_number_4 : decode cX5_number 4 = .ok (.istore_n 3, 1) := by decide +kernel
theorem dX5_number_5 : decode cX5_number 5 = .ok (.aload_n 0, 1) := by decide +kernel
theorem dX5_number_6 : decode cX5_number 6 = .ok (.aload_n 0, 1) := by decide +kernel
theorem dX5_number_7 : decode cX5_number 7 = .ok (.getfield 183, 3) := by decide +kernel
theorem dX5_number_10 : decode cX5_number 10 = .ok (.ifCond .ne 22, 3) := by decide +kernel
theorem dX5_number_13 : decode cX5_number 13 = .ok (.aload_n 0, 1) := by decide +kernel
theorem dX5_number_14 : decode cX5_number 14 = .ok (.getfield 177, 3) := by decide +kernel
theorem dX5_number_17 : decode cX5_number 17 = .ok (.bipush 20, 2) := by decide +kernel
theorem dX5_number_19 : decode cX5_number 19 = .ok (.if_icmp .ne 13, 3) := by decide +kernel
theorem dX5_number_22 : decode cX5_number 22 = .ok (.iload_n 3, 1) := by decide +kernel
theorem dX5_number_23 : decode cX5_number 23 = .ok (.i2l, 1) := by decide +kernel
theorem dX5_number_24 : decode cX5_number 24 = .ok (.iload_n 1, 1) := by decide +kernel
theorem dX5_number_25 : decode cX5_number 25 = .ok (.iload_n 2, 1) := by decide +kernel
theorem dX5_number_26 : decode cX5_number 26 = .ok (.invokestatic 44, 3) := by decide +kernel
theorem dX5_number_29 : decode cX5_number 29 = .ok (.ifCond .ne 7, 3) := by decide +kernel
theorem dX5_number_32 : decode cX5_number 32 = .ok (.iconst 1, 1) := by decide +kernel
theorem dX5_number_33 : decode cX5_number 33 = .ok (.goto 4, 3) := by decide +kernel
theorem dX5_number_36 : decode cX5_number 36 = .ok (.iconst 0, 1) := by decide +kernel
theorem dX5_number_37 : decode cX5_number 37 = .ok (.putfield 183, 3) := by decide +kernel
theorem dX5_number_40 : decode cX5_number 40 = .ok (.aload_n 0, 1) := by decide +kernel
theorem dX5_number_41 : decode cX5_number 41 = .ok (.getfield 183, 3) := by decide +kernel
theorem dX5_number_44 : decode cX5_number 44 = .ok (.ifCond .ne 7, 3) := by decide +kernel
theorem dX5_number_47 : decode cX5_number 47 = .ok (.aload_n 0, 1) := by decide +kernel
theorem dX5_number_48 : decode cX5_number 48 = .ok (.invokevirtual 187, 3) := by decide +kernel
theorem dX5_number_51 : decode cX5_number 51 = .ok (.iload_n 3, 1) := by decide +kernel
theorem dX5_number_52 : decode cX5_number 52 = .ok (.ireturn, 1) := by decide +kernel
theorem dX5_perhaps_0 : decode cX5_perhaps 0 = .ok (.aload_n 0, 1) := by decide +kernel
theorem dX5_perhaps_1 : decode cX5_perhaps 1 = .ok (.iload_n 1, 1) := by decide +kernel
theorem dX5_perhaps_2 : decode cX5_perhaps 2 = .ok (.invokevirtual 190, 3) := by decide +kernel
theorem dX5_perhaps_5 : decode cX5_perhaps 5 = .ok (.ifCond .eq 12, 3) := by decide +kernel
theorem dX5_perhaps_8 : decode cX5_perhaps 8 = .ok (.aload_n 0, 1) := by decide +kernel
theorem dX5_perhaps_9 : decode cX5_perhaps 9 = .ok (.iload_n 2, 1) := by decide +kernel
theorem dX5_perhaps_10 : decode cX5_perhaps 10 = .ok (.iload_n 3, 1) := by decide +kernel
theorem dX5_perhaps_11 : decode cX5_perhaps 11 = .ok (.invokevirtual 193, 3) := by decide +kernel
theorem dX5_perhaps_14 : decode cX5_perhaps 14 = .ok (.goto 5, 3) := by decide +kernel
theorem dX5_perhaps_17 : decode cX5_perhaps 17 = .ok (.iload 4, 2) := by decide +kernel
theorem dX5_perhaps_19 : decode cX5_perhaps 19 = .ok (.ireturn, 1) := by decide +kernel
theorem dX5_personItem_0 : decode cX5_personItem 0 = .ok (.aload_n 0, 1) := by decide +kernel
theorem dX5_personItem_1 : decode cX5_personItem 1 = .ok (.getfield 177, 3) := by decide +kernel
theorem dX5_personItem_4 : decode cX5_personItem 4 = .ok (.istore_n 1, 1) := by decide +kernel
theorem dX5_personItem_5 : decode cX5_personItem 5 = .ok (.aload_n 0, 1) := by decide +kernel
theorem dX5_personItem_6 : decode cX5_personItem 6 = .ok (.aload_n 0, 1) := by decide +kernel
theorem dX5_personItem_7 : decode cX5_personItem 7 = .ok (.getfield 9, 3) := by decide +kernel
theorem dX5_personItem_10 : decode cX5_personItem 10 = .ok (.iconst 1, 1) := by decide +kernel
theorem dX5_personItem_11 : decode cX5_personItem 11 = .ok (.iaload, 1) := by decide +kernel
theorem dX5_personItem_12 : decode cX5_personItem 12 = .ok (.bipush 8, 2) := by decide +kernel
theorem dX5_personItem_14 : decode cX5_personItem 14 = .ok (.if_icmp .ne 7, 3) := by decide +kernel
theorem dX5_personItem_17 : decode cX5_personItem 17 = .ok (.iconst 1, 1) := by decide +kernel
theorem dX5_personItem_18 : decode cX5_personItem 18 = .ok (.goto 4, 3) := by decide +kernel
theorem dX5_personItem_21 : decode cX5_personItem 21 = .ok (.iconst 0, 1) := by decide +kernel
theorem dX5_personItem_22 : decode cX5_personItem 22 = .ok (.putfield 183, 3) := by decide +kernel
theorem dX5_personItem_25 : decode cX5_personItem 25 = .ok (.aload_n 0, 1) := by decide +kernel
theorem dX5_personItem_26 : decode cX5_personItem 26 = .ok (.getfield 183, 3) := by decide +kernel
theorem dX5_personItem_29 : decode cX5_personItem 29 = .ok (.ifCond .eq 4, 3) := by decide +kernel
theorem dX5_personItem_32 : decode cX5_personItem 32 = .ok (.return_, 1) := by decide +kernel
theorem dX5_personItem_33 : decode cX5_personItem 33 = .ok (.aload_n 0, 1) := by decide +kernel
theorem dX5_personItem_34 : decode cX5_personItem 34 = .ok (.invokevirtual 187, 3) := by decide +kernel
theorem dX5_personItem_37 : decode cX5_personItem 37 = .ok (.aload_n 0, 1) := by decide +kernel
theorem dX5_personItem_38 : decode cX5_personItem 38 = .ok (.bipush 6, 2) := by decide +kernel
theorem dX5_personItem_40 : decode cX5_personItem 40 = .ok (.iconst 0, 1) := by decide +kernel
theorem dX5_personItem_41 : decode cX5_personItem 41 = .ok (.sipush 200, 3) := by decide +kernel
theorem dX5_personItem_44 : decode cX5_personItem 44 = .ok (.bipush 20, 2) := by decide +kernel
theorem dX5_personItem_46 : decode cX5_personItem 46 = .ok (.invokevirtual 196, 3) := by decide +kernel
theorem dX5_personItem_49 : decode cX5_personItem 49 = .ok (.istore_n 2, 1) := by decide +kernel
theorem dX5_personItem_50 : decode cX5_personItem 50 = .ok (.iconst (-1), 1) := by decide +kernel
theorem dX5_personItem_51 : decode cX5_personItem 51 = .ok (.istore_n 3, 1) := by decide +kernel
theorem dX5_personItem_52 : decode cX5_personItem 52 = .ok (.aload_n 0, 1) := by decide +kernel
theorem dX5_personItem_53 : decode cX5_personItem 53 = .ok (.bipush 7, 2) := by decide +kernel
theorem dX5_personItem_55 : decode cX5_personItem 55 = .ok (.invokevirtual 190, 3) := by decide +kernel
theorem dX5_personItem_58 : decode cX5_personItem 58 = .ok (.ifCond .eq 54, 3) := by decide +kernel
theorem dX5_personItem_61 : decode cX5_personItem 61 = .ok (.aload_n 0, 1) := by decide +kernel
theorem dX5_personItem_62 : decode cX5_personItem 62 = .ok (.aload_n 0, 1) := by decide +kernel
theorem dX5_personItem_63 : decode cX5_personItem 63 = .ok (.getfield 177, 3) := by decide +kernel
theorem dX5_personItem_66 : decode cX5_personItem 66 = .ok (.bipush 20, 2) := by decide +kernel
theorem dX5_personItem_68 : decode cX5_personItem 68 = .ok (.if_icmp .ne 32, 3) := by decide +kernel
theorem dX5_personItem_71 : decode cX5_personItem 71 = .ok (.aload_n 0, 1) := by decide +kernel
theorem dX5_personItem_72 : decode cX5_personItem 72 = .ok (.getfield 174, 3) := by decide +kernel
theorem dX5_personItem_75 : decode cX5_personItem 75 = .ok (.i2l, 1) := by decide +kernel
theorem dX5_personItem_76 : decode cX5_personItem 76 = .ok (.iconst 0, 1) := by decide +kernel
theorem dX5_personItem_77 : decode cX5_personItem 77 = .ok (.bipush 9, 2) := by decide +kernel
theorem dX5_personItem_79 : decode cX5_personItem 79 = .ok (.invokestatic 44, 3) := by decide +kernel
theorem dX5_personItem_82 : decode cX5_personItem 82 = .ok (.ifCond .eq 18, 3) := by decide +kernel
theorem dX5_personItem_85 : decode cX5_personItem 85 = .ok (.aload_n 0, 1) := by decide +kernel
theorem dX5_personItem_86 : decode cX5_personItem 86 = .ok (.aload_n 0, 1) := by decide +kernel
theorem dX5_personItem_87 : decode cX5_personItem 87 = .ok (.getfield 174, 3) := by decide +kernel
theorem dX5_personItem_90 : decode cX5_personItem 90 = .ok (.invokevirtual 59, 3) := by decide +kernel
theorem dX5_personItem_93 : decode cX5_personItem 93 = .ok (.ifCond .lt 7, 3) := by decide +kernel
theorem dX5_personItem_96 : decode cX5_personItem 96 = .ok (.iconst 1, 1) := by decide +kernel
theorem dX5_personItem_97 : decode cX5_personItem 97 = .ok (.goto 4, 3) := by decide +kernel
theorem dX5_personItem_100 : decode cX5_personItem 100 = .ok (.iconst 0, 1) := by decide +kernel
theorem dX5_personItem_101 : decode cX5_personItem 101 = .ok (.putfield 183, 3) := by decide +kernel
theorem dX5_personItem_104 : decode cX5_personItem 104 = .ok (.aload_n 0, 1) := by decide +kernel
theorem dX5_personItem_105 : decode cX5_personItem 105 = .ok (.iconst 0, 1) := by decide +kernel
theorem dX5_personItem_106 : decode cX5_personItem 106 = .ok (.bipush 9, 2) := by decide +kernel
theorem dX5_personItem_108 : decode cX5_personItem 108 = .ok (.invokevirtual 193, 3) := by decide +kernel
theorem dX5_personItem_111 : decode cX5_personItem 111 = .ok (.istore_n 3, 1) := by decide +kernel
theorem dX5_personItem_112 : decode cX5_personItem 112 = .ok (.aload_n 0, 1) := by decide +kernel
theorem dX5_personItem_113 : decode cX5_personItem 113 = .ok (.getfield 183, 3) := by decide +kernel
theorem dX5_personItem_116 : decode cX5_personItem 116 = .ok (.ifCond .ne 12, 3) := by decide +kernel
theorem dX5_personItem_119 : decode cX5_personItem 119 = .ok (.aload_n 0, 1) := by decide +kernel
theorem dX5_personItem_120 : decode cX5_personItem 120 = .ok (.iload_n 1, 1) := by decide +kernel
theorem dX5_personItem_121 : decode cX5_personItem 121 = .ok (.iload_n 2, 1) := by decide +kernel
theorem dX5_personItem_122 : decode cX5_personItem 122 = .ok (.iload_n 3, 1) := by decide +kernel
theorem dX5_personItem_123 : decode cX5_personItem 123 = .ok (.invokevirtual 96, 3) := by decide +kernel
theorem dX5_personItem_126 : decode cX5_personItem 126 = .ok (.istore 4, 2) := by decide +kernel
theorem dX5_personItem_128 : decode cX5_personItem 128 = .ok (.return_, 1) := by decide +kernel
theorem dX5_sunItem_0 : decode cX5_sunItem 0 = .ok (.aload_n 0, 1) := by decide +kernel
theorem dX5_sunItem_1 : decode cX5_sunItem 1 = .ok (.iconst 0, 1) := by decide +kernel
theorem dX5_sunItem_2 : decode cX5_sunItem 2 = .ok (.bipush 9, 2) := by decide +kernel
theorem dX5_sunItem_4 : decode cX5_sunItem 4 = .ok (.invokevirtual 193, 3) := by decide +kernel
theorem dX5_sunItem_7 : decode cX5_sunItem 7 = .ok (.istore_n 1, 1) := by decide +kernel
theorem dX5_sunItem_8 : decode cX5_sunItem 8 = .ok (.aload_n 0, 1) := by decide +kernel
theorem dX5_sunItem_9 : decode cX5_sunItem 9 = .ok (.iconst 0, 1) := by decide +kernel
theorem dX5_sunItem_10 : decode cX5_sunItem 10 = .ok (.bipush 9, 2) := by decide +kernel
theorem dX5_sunItem_12 : decode cX5_sunItem 12 = .ok (.invokevirtual 193, 3) := by decide +kernel
theorem dX5_sunItem_15 : decode cX5_sunItem 15 = .ok (.istore_n 2, 1) := by decide +kernel
theorem dX5_sunItem_16 : decode cX5_sunItem 16 = .ok (.aload_n 0, 1) := by decide +kernel
theorem dX5_sunItem_17 : decode cX5_sunItem 17 = .ok (.getfield 183, 3) := by decide +kernel
theorem dX5_sunItem_20 : decode cX5_sunItem 20 = .ok (.ifCond .ne 12, 3) := by decide +kernel
theorem dX5_sunItem_23 : decode cX5_sunItem 23 = .ok (.aload_n 0, 1) := by decide +kernel
theorem dX5_sunItem_24 : decode cX5_sunItem 24 = .ok (.getfield 9, 3) := by decide +kernel
theorem dX5_sunItem_27 : decode cX5_sunItem 27 = .ok (.iconst 2, 1) := by decide +kernel
theorem dX5_sunItem_28 : decode cX5_sunItem 28 = .ok (.iload_n 1, 1) := by decide +kernel
theorem dX5_sunItem_29 : decode cX5_sunItem 29 = .ok (.iadd, 1) := by decide +kernel
theorem dX5_sunItem_30 : decode cX5_sunItem 30 = .ok (.iload_n 2, 1) := by decide +kernel
theorem dX5_sunItem_31 : decode cX5_sunItem 31 = .ok (.iastore, 1) := by decide +kernel
theorem dX5_sunItem_32 : decode cX5_sunItem 32 = .ok (.return_, 1) := by decide +kernel
theorem dX5_item_0 : decode cX5_item 0 = .ok (.aload_n 0, 1) := by decide +kernel
theorem dX5_item_1 : decode cX5_item 1 = .ok (.getfield 177, 3) := by decide +kernel
theorem dX5_item_4 : decode cX5_item 4 = .ok (.iconst 5, 1) := by decide +kernel
theorem dX5_item_5 : decode cX5_item 5 = .ok (.if_icmp .gt 10, 3) := by decide +kernel
theorem dX5_item_8 : decode cX5_item 8 = .ok (.aload_n 0, 1) := by decide +kernel
theorem dX5_item_9 : decode cX5_item 9 = .ok (.invokevirtual 200, 3) := by decide +kernel
theorem dX5_item_12 : decode cX5_item 12 = .ok (.goto 64, 3) := by decide +kernel
theorem dX5_item_15 : decode cX5_item 15 = .ok (.aload_n 0, 1) := by decide +kernel
theorem dX5_item_16 : decode cX5_item 16 = .ok (.bipush 8, 2) := by decide +kernel
theorem dX5_item_18 : decode cX5_item 18 = .ok (.invokevirtual 190, 3) := by decide +kernel
theorem dX5_item_21 : decode cX5_item 21 = .ok (.ifCond .eq 10, 3) := by decide +kernel
theorem dX5_item_24 : decode cX5_item 24 = .ok (.aload_n 0, 1) := by decide +kernel
theorem dX5_item_25 : decode cX5_item 25 = .ok (.invokevirtual 203, 3) := by decide +kernel
theorem dX5_item_28 : decode cX5_item 28 = .ok (.goto 48, 3) := by decide +kernel
theorem dX5_item_31 : decode cX5_item 31 = .ok (.aload_n 0, 1) := by decide +kernel
theorem dX5_item_32 : decode cX5_item 32 = .ok (.bipush 9, 2) := by decide +kernel
theorem dX5_item_34 : decode cX5_item 34 = .ok (.invokevirtual 190, 3) := by decide +kernel
theorem dX5_item_37 : decode cX5_item 37 = .ok (.ifCond .eq 34, 3) := by decide +kernel
theorem dX5_item_40 : decode cX5_item 40 = .ok (.aload_n 0, 1) := by decide +kernel
theorem dX5_item_41 : decode cX5_item 41 = .ok (.iconst 0, 1) := by decide +kernel
theorem dX5_item_42 : decode cX5_item 42 = .ok (.aload_n 0, 1) := by decide +kernel
theorem dX5_item_43 : decode cX5_item 43 = .ok (.getfield 9, 3) := by decide +kernel
theorem dX5_item_46 : decode cX5_item 46 = .ok (.iconst 1, 1) := by decide +kernel
theorem dX5_item_47 : decode cX5_item 47 = .ok (.iaload, 1) := by decide +kernel
theorem dX5_item_48 : decode cX5_item 48 = .ok (.iconst 1, 1) := by decide +kernel
theorem dX5_item_49 : decode cX5_item 49 = .ok (.isub, 1) := by decide +kernel
theorem dX5_item_50 : decode cX5_item 50 = .ok (.invokevirtual 193, 3) := by decide +kernel
theorem dX5_item_53 : decode cX5_item 53 = .ok (.istore_n 1, 1) := by decide +kernel
theorem dX5_item_54 : decode cX5_item 54 = .ok (.aload_n 0, 1) := by decide +kernel
theorem dX5_item_55 : decode cX5_item 55 = .ok (.getfield 183, 3) := by decide +kernel
theorem dX5_item_58 : decode cX5_item 58 = .ok (.ifCond .ne 10, 3) := by decide +kernel
theorem dX5_item_61 : decode cX5_item 61 = .ok (.aload_n 0, 1) := by decide +kernel
theorem dX5_item_62 : decode cX5_item 62 = .ok (.iload_n 1, 1) := by decide +kernel
theorem dX5_item_63 : decode cX5_item 63 = .ok (.iconst 1, 1) := by decide +kernel
theorem dX5_item_64 : decode cX5_item 64 = .ok (.iconst (-1), 1) := by decide +kernel
theorem dX5_item_65 : decode cX5_item 65 = .ok (.invokevirtual 91, 3) := by decide +kernel
theorem dX5_item_68 : decode cX5_item 68 = .ok (.goto 8, 3) := by decide +kernel
theorem dX5_item_71 : decode cX5_item 71 = .ok (.aload_n 0, 1) := by decide +kernel
theorem dX5_item_72 : decode cX5_item 72 = .ok (.iconst 1, 1) := by decide +kernel
theorem dX5_item_73 : decode cX5_item 73 = .ok (.putfield 183, 3) := by decide +kernel
theorem dX5_item_76 : decode cX5_item 76 = .ok (.return_, 1) := by decide +kernel
theorem dX5_esplanade_0 : decode cX5_esplanade 0 = .ok (.aload_n 0, 1) := by decide +kernel
theorem dX5_esplanade_1 : decode cX5_esplanade 1 = .ok (.invokevirtual 139, 3) := by decide +kernel
theorem dX5_esplanade_4 : decode cX5_esplanade 4 = .ok (.aload_n 0, 1) := by decide +kernel
theorem dX5_esplanade_5 : decode cX5_esplanade 5 = .ok (.iconst 0, 1) := by decide +kernel
theorem dX5_esplanade_6 : decode cX5_esplanade 6 = .ok (.putfield 164, 3) := by decide +kernel
theorem dX5_esplanade_9 : decode cX5_esplanade 9 = .ok (.aload_n 0, 1) := by decide +kernel
theorem dX5_esplanade_10 : decode cX5_esplanade 10 = .ok (.iconst 0, 1) := by decide +kernel
theorem dX5_esplanade_11 : decode cX5_esplanade 11 = .ok (.putfield 183, 3) := by decide +kernel
theorem dX5_esplanade_14 : decode cX5_esplanade 14 = .ok (.aload_n 0, 1) := by decide +kernel
theorem dX5_esplanade_15 : decode cX5_esplanade 15 = .ok (.invokevirtual 187, 3) := by decide +kernel
theorem dX5_esplanade_18 : decode cX5_esplanade 18 = .ok (.aload_n 0, 1) := by decide +kernel
theorem dX5_esplanade_19 : decode cX5_esplanade 19 = .ok (.invokevirtual 206, 3) := by decide +kernel
theorem dX5_esplanade_22 : decode cX5_esplanade 22 = .ok (.iconst 1, 1) := by decide +kernel
theorem dX5_esplanade_23 : decode cX5_esplanade 23 = .ok (.istore_n 1, 1) := by decide +kernel
theorem dX5_esplanade_24 : decode cX5_esplanade 24 = .ok (.aload_n 0, 1) := by decide +kernel
theorem dX5_esplanade_25 : decode cX5_esplanade 25 = .ok (.bipush 21, 2) := by decide +kernel
theorem dX5_esplanade_27 : decode cX5_esplanade 27 = .ok (.invokevirtual 190, 3) := by decide +kernel
theorem dX5_esplanade_30 : decode cX5_esplanade 30 = .ok (.ifCond .eq 13, 3) := by decide +kernel
theorem dX5_esplanade_33 : decode cX5_esplanade 33 = .ok (.aload_n 0, 1) := by decide +kernel
theorem dX5_esplanade_34 : decode cX5_esplanade 34 = .ok (.invokevirtual 206, 3) := by decide +kernel
theorem dX5_esplanade_37 : decode cX5_esplanade 37 = .ok (.iinc 1 1, 3) := by decide +kernel
theorem dX5_esplanade_40 : decode cX5_esplanade 40 = .ok (.goto (-16), 3) := by decide +kernel
theorem dX5_esplanade_43 : decode cX5_esplanade 43 = .ok (.aload_n 0, 1) := by decide +kernel
theorem dX5_esplanade_44 : decode cX5_esplanade 44 = .ok (.aload_n 0, 1) := by decide +kernel
theorem dX5_esplanade_45 : decode cX5_esplanade 45 = .ok (.getfield 183, 3) := by decide +kernel
theorem dX5_esplanade_48 : decode cX5_esplanade 48 = .ok (.ifCond .ne 12, 3) := by decide +kernel
theorem dX5_esplanade_51 : decode cX5_esplanade 51 = .ok (.aload_n 0, 1) := by decide +kernel
theorem dX5_esplanade_52 : decode cX5_esplanade 52 = .ok (.getfield 177, 3) := by decide +kernel
theorem dX5_esplanade_55 : decode cX5_esplanade 55 = .ok (.bipush 22, 2) := by decide +kernel
theorem dX5_esplanade_57 : decode cX5_esplanade 57 = .ok (.if_icmp .eq 7, 3) := by decide +kernel
theorem dX5_esplanade_60 : decode cX5_esplanade 60 = .ok (.iconst 1, 1) := by decide +kernel
theorem dX5_esplanade_61 : decode cX5_esplanade 61 = .ok (.goto 4, 3) := by decide +kernel
theorem dX5_esplanade_64 : decode cX5_esplanade 64 = .ok (.iconst 0, 1) := by decide +kernel
theorem dX5_esplanade_65 : decode cX5_esplanade 65 = .ok (.putfield 183, 3) := by decide +kernel
theorem dX5_esplanade_68 : decode cX5_esplanade 68 = .ok (.aload_n 0, 1) := by decide +kernel
theorem dX5_esplanade_69 : decode cX5_esplanade 69 = .ok (.iconst 0, 1) := by decide +kernel
theorem dX5_esplanade_70 : decode cX5_esplanade 70 = .ok (.putfield 154, 3) := by decide +kernel
theorem dX5_esplanade_73 : decode cX5_esplanade 73 = .ok (.aload_n 0, 1) := by decide +kernel
theorem dX5_esplanade_74 : decode cX5_esplanade 74 = .ok (.getfield 183, 3) := by decide +kernel
theorem dX5_esplanade_77 : decode cX5_esplanade 77 = .ok (.ifCond .ne 5, 3) := by decide +kernel
theorem dX5_esplanade_80 : decode cX5_esplanade 80 = .ok (.iload_n 1, 1) := by decide +kernel
theorem dX5_esplanade_81 : decode cX5_esplanade 81 = .ok (.ireturn, 1) := by decide +kernel
theorem dX5_esplanade_82 : decode cX5_esplanade 82 = .ok (.aload_n 0, 1) := by decide +kernel
theorem dX5_esplanade_83 : decode cX5_esplanade 83 = .ok (.invokevirtual 142, 3) := by decide +kernel
theorem dX5_esplanade_86 : decode cX5_esplanade 86 = .ok (.iconst (-1), 1) := by decide +kernel
theorem dX5_esplanade_87 : decode cX5_esplanade 87 = .ok (.aload_n 0, 1) := by decide +kernel
theorem dX5_esplanade_88 : decode cX5_esplanade 88 = .ok (.getfield 161, 3) := by decide +kernel
theorem dX5_esplanade_91 : decode cX5_esplanade 91 = .ok (.isub, 1) := by decide +kernel
theorem dX5_esplanade_92 : decode cX5_esplanade 92 = .ok (.ireturn, 1) := by decide +kernel
theorem dX5_isSheet_0 : decode cX5_isSheet 0 = .ok (.iload_n 0, 1) := by decide +kernel
theorem dX5_isSheet_1 : decode cX5_isSheet 1 = .ok (.i2l, 1) := by decide +kernel
theorem dX5_isSheet_2 : decode cX5_isSheet 2 = .ok (.iconst 0, 1) := by decide +kernel
theorem dX5_isSheet_3 : decode cX5_isSheet 3 = .ok (.iconst 3, 1) := by decide +kernel
theorem dX5_isSheet_4 : decode cX5_isSheet 4 = .ok (.invokestatic 44, 3) := by decide +kernel
theorem dX5_isSheet_7 : decode cX5_isSheet 7 = .ok (.ireturn, 1) := by decide +kernel
theorem dX5_sheet_0 : decode cX5_sheet 0 = .ok (.iload_n 1, 1) := by decide +kernel
theorem dX5_sheet_1 : decode cX5_sheet 1 = .ok (.invokestatic 209, 3) := by decide +kernel
theorem dX5_sheet_4 : decode cX5_sheet 4 = .ok (.ifCond .eq 25, 3) := by decide +kernel
theorem dX5_sheet_7 : decode cX5_sheet 7 = .ok (.iload_n 2, 1) := by decide +kernel
theorem dX5_sheet_8 : decode cX5_sheet 8 = .ok (.ifCond .eq 28, 3) := by decide +kernel
theorem dX5_sheet_11 : decode cX5_sheet 11 = .ok (.iload_n 2, 1) := by decide +kernel
theorem dX5_sheet_12 : decode cX5_sheet 12 = .ok (.bipush 8, 2) := by decide +kernel
theorem dX5_sheet_14 : decode cX5_sheet 14 = .ok (.if_icmp .eq 22, 3) := by decide +kernel
theorem dX5_sheet_17 : decode cX5_sheet 17 = .ok (.iload_n 2, 1) := by decide +kernel
theorem dX5_sheet_18 : decode cX5_sheet 18 = .ok (.bipush 16, 2) := by decide +kernel
theorem dX5_sheet_20 : decode cX5_sheet 20 = .ok (.if_icmp .eq 16, 3) := by decide +kernel
theorem dX5_sheet_23 : decode cX5_sheet 23 = .ok (.iload_n 2, 1) := by decide +kernel
theorem dX5_sheet_24 : decode cX5_sheet 24 = .ok (.bipush 64, 2) := by decide +kernel
theorem dX5_sheet_26 : decode cX5_sheet 26 = .ok (.if_icmp .eq 10, 3) := by decide +kernel
theorem dX5_sheet_29 : decode cX5_sheet 29 = .ok (.aload_n 0, 1) := by decide +kernel
theorem dX5_sheet_30 : decode cX5_sheet 30 = .ok (.ldc 38, 2) := by decide +kernel
theorem dX5_sheet_32 : decode cX5_sheet 32 = .ok (.invokevirtual 40, 3) := by decide +kernel
theorem dX5_sheet_35 : decode cX5_sheet 35 = .ok (.ireturn, 1) := by decide +kernel
theorem dX5_sheet_36 : decode cX5_sheet 36 = .ok (.iload_n 3, 1) := by decide +kernel
theorem dX5_sheet_37 : decode cX5_sheet 37 = .ok (.ifCond .ge 10, 3) := by decide +kernel
theorem dX5_sheet_40 : decode cX5_sheet 40 = .ok (.aload_n 0, 1) := by decide +kernel
theorem dX5_sheet_41 : decode cX5_sheet 41 = .ok (.ldc 212, 2) := by decide +kernel
theorem dX5_sheet_43 : decode cX5_sheet 43 = .ok (.invokevirtual 40, 3) := by decide +kernel
theorem dX5_sheet_46 : decode cX5_sheet 46 = .ok (.ireturn, 1) := by decide +kernel
theorem dX5_sheet_47 : decode cX5_sheet 47 = .ok (.iload_n 3, 1) := by decide +kernel
theorem dX5_sheet_48 : decode cX5_sheet 48 = .ok (.bipush 40, 2) := by decide +kernel
theorem dX5_sheet_50 : decode cX5_sheet 50 = .ok (.if_icmp .le 10, 3) := by decide +kernel
theorem dX5_sheet_53 : decode cX5_sheet 53 = .ok (.aload_n 0, 1) := by decide +kernel
theorem dX5_sheet_54 : decode cX5_sheet 54 = .ok (.ldc 38, 2) := by decide +kernel
theorem dX5_sheet_56 : decode cX5_sheet 56 = .ok (.invokevirtual 40, 3) := by decide +kernel
theorem dX5_sheet_59 : decode cX5_sheet 59 = .ok (.ireturn, 1) := by decide +kernel
theorem dX5_sheet_60 : decode cX5_sheet 60 = .ok (.aload_n 0, 1) := by decide +kernel
theorem dX5_sheet_61 : decode cX5_sheet 61 = .ok (.getfield 28, 3) := by decide +kernel
theorem dX5_sheet_64 : decode cX5_sheet 64 = .ok (.iload_n 1, 1) := by decide +kernel
theorem dX5_sheet_65 : decode cX5_sheet 65 = .ok (.iload_n 2, 1) := by decide +kernel
theorem dX5_sheet_66 : decode cX5_sheet 66 = .ok (.iastore, 1) := by decide +kernel
theorem dX5_sheet_67 : decode cX5_sheet 67 = .ok (.aload_n 0, 1) := by decide +kernel
theorem dX5_sheet_68 : decode cX5_sheet 68 = .ok (.getfield 31, 3) := by decide +kernel
theorem dX5_sheet_71 : decode cX5_sheet 71 = .ok (.iload_n 1, 1) := by decide +kernel
theorem dX5_sheet_72 : decode cX5_sheet 72 = .ok (.iload_n 2, 1) := by decide +kernel
theorem dX5_sheet_73 : decode cX5_sheet 73 = .ok (.ifCond .ne 7, 3) := by decide +kernel
theorem dX5_sheet_76 : decode cX5_sheet 76 = .ok (.iconst 0, 1) := by decide +kernel
theorem dX5_sheet_77 : decode cX5_sheet 77 = .ok (.goto 4, 3) := by decide +kernel
theorem dX5_sheet_80 : decode cX5_sheet 80 = .ok (.iload_n 3, 1) := by decide +kernel
theorem dX5_sheet_81 : decode cX5_sheet 81 = .ok (.iastore, 1) := by decide +kernel
theorem dX5_sheet_82 : decode cX5_sheet 82 = .ok (.iconst 0, 1) := by decide +kernel
theorem dX5_sheet_83 : decode cX5_sheet 83 = .ok (.istore 4, 2) := by decide +kernel
theorem dX5_sheet_85 : decode cX5_sheet 85 = .ok (.iload 4, 2) := by decide +kernel
theorem dX5_sheet_87 : decode cX5_sheet 87 = .ok (.bipush 40, 2) := by decide +kernel
theorem dX5_sheet_89 : decode cX5_sheet 89 = .ok (.if_icmp .ge 22, 3) := by decide +kernel
theorem dX5_sheet_92 : decode cX5_sheet 92 = .ok (.aload_n 0, 1) := by decide +kernel
theorem dX5_sheet_93 : decode cX5_sheet 93 = .ok (.getfield 34, 3) := by decide +kernel
theorem dX5_sheet_96 : decode cX5_sheet 96 = .ok (.bipush 40, 2) := by decide +kernel
theorem dX5_sheet_98 : decode cX5_sheet 98 = .ok (.iload_n 1, 1) := by decide +kernel
theorem dX5_sheet_99 : decode cX5_sheet 99 = .ok (.imul, 1) := by decide +kernel
theorem dX5_sheet_100 : decode cX5_sheet 100 = .ok (.iload 4, 2) := by decide +kernel
theorem dX5_sheet_102 : decode cX5_sheet 102 = .ok (.iadd, 1) := by decide +kernel
theorem dX5_sheet_103 : decode cX5_sheet 103 = .ok (.lconst 0, 1) := by decide +kernel
theorem dX5_sheet_104 : decode cX5_sheet 104 = .ok (.lastore, 1) := by decide +kernel
theorem dX5_sheet_105 : decode cX5_sheet 105 = .ok (.iinc 4 1, 3) := by decide +kernel
theorem dX5_sheet_108 : decode cX5_sheet 108 = .ok (.goto (-23), 3) := by decide +kernel
theorem dX5_sheet_111 : decode cX5_sheet 111 = .ok (.aload_n 0, 1) := by decide +kernel
theorem dX5_sheet_112 : decode cX5_sheet 112 = .ok (.getfield 31, 3) := by decide +kernel
theorem dX5_sheet_115 : decode cX5_sheet 115 = .ok (.iload_n 1, 1) := by decide +kernel
theorem dX5_sheet_116 : decode cX5_sheet 116 = .ok (.iaload, 1) := by decide +kernel
theorem dX5_sheet_117 : decode cX5_sheet 117 = .ok (.ireturn, 1) := by decide +kernel
theorem dX5_notThere_0 : decode cX5_notThere 0 = .ok (.iload_n 1, 1) := by decide +kernel
theorem dX5_notThere_1 : decode cX5_notThere 1 = .ok (.invokestatic 209, 3) := by decide +kernel
theorem dX5_notThere_4 : decode cX5_notThere 4 = .ok (.ifCond .ne 8, 3) := by decide +kernel
theorem dX5_notThere_7 : decode cX5_notThere 7 = .ok (.ldc 38, 2) := by decide +kernel
theorem dX5_notThere_9 : decode cX5_notThere 9 = .ok (.goto 18, 3) := by decide +kernel
theorem dX5_notThere_12 : decode cX5_notThere 12 = .ok (.aload_n 0, 1) := by decide +kernel
theorem dX5_notThere_13 : decode cX5_notThere 13 = .ok (.getfield 28, 3) := by decide +kernel
theorem dX5_notThere_16 : decode cX5_notThere 16 = .ok (.iload_n 1, 1) := by decide +kernel
theorem dX5_notThere_17 : decode cX5_notThere 17 = .ok (.iaload, 1) := by decide +kernel
theorem dX5_notThere_18 : decode cX5_notThere 18 = .ok (.ifCond .ne 8, 3) := by decide +kernel
theorem dX5_notThere_21 : decode cX5_notThere 21 = .ok (.ldc 213, 2) := by decide +kernel
theorem dX5_notThere_23 : decode cX5_notThere 23 = .ok (.goto 4, 3) := by decide +kernel
theorem dX5_notThere_26 : decode cX5_notThere 26 = .ok (.iconst 0, 1) := by decide +kernel
theorem dX5_notThere_27 : decode cX5_notThere 27 = .ok (.ireturn, 1) := by decide +kernel
theorem dX5_cutTo_0 : decode cX5_cutTo 0 = .ok (.iload_n 0, 1) := by decide +kernel
theorem dX5_cutTo_1 : decode cX5_cutTo 1 = .ok (.bipush 8, 2) := by decide +kernel
theorem dX5_cutTo_3 : decode cX5_cutTo 3 = .ok (.if_icmp .ne 10, 3) := by decide +kernel
theorem dX5_cutTo_6 : decode cX5_cutTo 6 = .ok (.lload_n 1, 1) := by decide +kernel
theorem dX5_cutTo_7 : decode cX5_cutTo 7 = .ok (.l2i, 1) := by decide +kernel
theorem dX5_cutTo_8 : decode cX5_cutTo 8 = .ok (.i2b, 1) := by decide +kernel
theorem dX5_cutTo_9 : decode cX5_cutTo 9 = .ok (.i2l, 1) := by decide +kernel
theorem dX5_cutTo_10 : decode cX5_cutTo 10 = .ok (.goto 17, 3) := by decide +kernel
theorem dX5_cutTo_13 : decode cX5_cutTo 13 = .ok (.iload_n 0, 1) := by decide +kernel
theorem dX5_cutTo_14 : decode cX5_cutTo 14 = .ok (.bipush 16, 2) := by decide +kernel
theorem dX5_cutTo_16 : decode cX5_cutTo 16 = .ok (.if_icmp .ne 10, 3) := by decide +kernel
theorem dX5_cutTo_19 : decode cX5_cutTo 19 = .ok (.lload_n 1, 1) := by decide +kernel
theorem dX5_cutTo_20 : decode cX5_cutTo 20 = .ok (.l2i, 1) := by decide +kernel
theorem dX5_cutTo_21 : decode cX5_cutTo 21 = .ok (.i2s, 1) := by decide +kernel
theorem dX5_cutTo_22 : decode cX5_cutTo 22 = .ok (.i2l, 1) := by decide +kernel
theorem dX5_cutTo_23 : decode cX5_cutTo 23 = .ok (.goto 4, 3) := by decide +kernel
theorem dX5_cutTo_26 : decode cX5_cutTo 26 = .ok (.lload_n 1, 1) := by decide +kernel
theorem dX5_cutTo_27 : decode cX5_cutTo 27 = .ok (.lreturn, 1) := by decide +kernel
theorem dX5_write_0 : decode cX5_write 0 = .ok (.aload_n 0, 1) := by decide +kernel
theorem dX5_write_1 : decode cX5_write 1 = .ok (.iload_n 1, 1) := by decide +kernel
theorem dX5_write_2 : decode cX5_write 2 = .ok (.invokevirtual 214, 3) := by decide +kernel
theorem dX5_write_5 : decode cX5_write 5 = .ok (.istore 5, 2) := by decide +kernel
theorem dX5_write_7 : decode cX5_write 7 = .ok (.iload 5, 2) := by decide +kernel
theorem dX5_write_9 : decode cX5_write 9 = .ok (.ifCond .ne 24, 3) := by decide +kernel
theorem dX5_write_12 : decode cX5_write 12 = .ok (.iload_n 2, 1) := by decide +kernel
theorem dX5_write_13 : decode cX5_write 13 = .ok (.i2l, 1) := by decide +kernel
theorem dX5_write_14 : decode cX5_write 14 = .ok (.iconst 0, 1) := by decide +kernel
theorem dX5_write_15 : decode cX5_write 15 = .ok (.aload_n 0, 1) := by decide +kernel
theorem dX5_write_16 : decode cX5_write 16 = .ok (.getfield 31, 3) := by decide +kernel
theorem dX5_write_19 : decode cX5_write 19 = .ok (.iload_n 1, 1) := by decide +kernel
theorem dX5_write_20 : decode cX5_write 20 = .ok (.iaload, 1) := by decide +kernel
theorem dX5_write_21 : decode cX5_write 21 = .ok (.iconst 1, 1) := by decide +kernel
theorem dX5_write_22 : decode cX5_write 22 = .ok (.isub, 1) := by decide +kernel
theorem dX5_write_23 : decode cX5_write 23 = .ok (.invokestatic 44, 3) := by decide +kernel
theorem dX5_write_26 : decode cX5_write 26 = .ok (.ifCond .ne 7, 3) := by decide +kernel
theorem dX5_write_29 : decode cX5_write 29 = .ok (.ldc 38, 2) := by decide +kernel
theorem dX5_write_31 : decode cX5_write 31 = .ok (.istore 5, 2) := by decide +kernel
theorem dX5_write_33 : decode cX5_write 33 = .ok (.iload 5, 2) := by decide +kernel
theorem dX5_write_35 : decode cX5_write 35 = .ok (.ifCond .eq 11, 3) := by decide +kernel
theorem dX5_write_38 : decode cX5_write 38 = .ok (.aload_n 0, 1) := by decide +kernel
theorem dX5_write_39 : decode cX5_write 39 = .ok (.iload 5, 2) := by decide +kernel
theorem dX5_write_41 : decode cX5_write 41 = .ok (.invokevirtual 40, 3) := by decide +kernel
theorem dX5_write_44 : decode cX5_write 44 = .ok (.i2l, 1) := by decide +kernel
theorem dX5_write_45 : decode cX5_write 45 = .ok (.lreturn, 1) := by decide +kernel
theorem dX5_write_46 : decode cX5_write 46 = .ok (.aload_n 0, 1) := by decide +kernel
theorem dX5_write_47 : decode cX5_write 47 = .ok (.getfield 34, 3) := by decide +kernel
theorem dX5_write_50 : decode cX5_write 50 = .ok (.bipush 40, 2) := by decide +kernel
theorem dX5_write_52 : decode cX5_write 52 = .ok (.iload_n 1, 1) := by decide +kernel
theorem dX5_write_53 : decode cX5_write 53 = .ok (.imul, 1) := by decide +kernel
theorem dX5_write_54 : decode cX5_write 54 = .ok (.iload_n 2, 1) := by decide +kernel
theorem dX5_write_55 : decode cX5_write 55 = .ok (.iadd, 1) := by decide +kernel
theorem dX5_write_56 : decode cX5_write 56 = .ok (.laload, 1) := by decide +kernel
theorem dX5_write_57 : decode cX5_write 57 = .ok (.lstore 6, 2) := by decide +kernel
theorem dX5_write_59 : decode cX5_write 59 = .ok (.aload_n 0, 1) := by decide +kernel
theorem dX5_write_60 : decode cX5_write 60 = .ok (.getfield 34, 3) := by decide +kernel
theorem dX5_write_63 : decode cX5_write 63 = .ok (.bipush 40, 2) := by decide +kernel
theorem dX5_write_65 : decode cX5_write 65 = .ok (.iload_n 1, 1) := by decide +kernel
theorem dX5_write_66 : decode cX5_write 66 = .ok (.imul, 1) := by decide +kernel
theorem dX5_write_67 : decode cX5_write 67 = .ok (.iload_n 2, 1) := by decide +kernel
theorem dX5_write_68 : decode cX5_write 68 = .ok (.iadd, 1) := by decide +kernel
theorem dX5_write_69 : decode cX5_write 69 = .ok (.aload_n 0, 1) := by decide +kernel
theorem dX5_write_70 : decode cX5_write 70 = .ok (.getfield 28, 3) := by decide +kernel
theorem dX5_write_73 : decode cX5_write 73 = .ok (.iload_n 1, 1) := by decide +kernel
theorem dX5_write_74 : decode cX5_write 74 = .ok (.iaload, 1) := by decide +kernel
theorem dX5_write_75 : decode cX5_write 75 = .ok (.lload_n 3, 1) := by decide +kernel
theorem dX5_write_76 : decode cX5_write 76 = .ok (.invokestatic 217, 3) := by decide +kernel
theorem dX5_write_79 : decode cX5_write 79 = .ok (.lastore, 1) := by decide +kernel
theorem dX5_write_80 : decode cX5_write 80 = .ok (.lload 6, 2) := by decide +kernel
theorem dX5_write_82 : decode cX5_write 82 = .ok (.lreturn, 1) := by decide +kernel
theorem dX5_notCopied_0 : decode cX5_notCopied 0 = .ok (.iload_n 1, 1) := by decide +kernel
theorem dX5_notCopied_1 : decode cX5_notCopied 1 = .ok (.invokestatic 209, 3) := by decide +kernel
theorem dX5_notCopied_4 : decode cX5_notCopied 4 = .ok (.ifCond .eq 10, 3) := by decide +kernel
theorem dX5_notCopied_7 : decode cX5_notCopied 7 = .ok (.iload_n 3, 1) := by decide +kernel
theorem dX5_notCopied_8 : decode cX5_notCopied 8 = .ok (.invokestatic 209, 3) := by decide +kernel
theorem dX5_notCopied_11 : decode cX5_notCopied 11 = .ok (.ifCond .ne 6, 3) := by decide +kernel
theorem dX5_notCopied_14 : decode cX5_notCopied 14 = .ok (.ldc 38, 2) := by decide +kernel
theorem dX5_notCopied_16 : decode cX5_notCopied 16 = .ok (.ireturn, 1) := by decide +kernel
theorem dX5_notCopied_17 : decode cX5_notCopied 17 = .ok (.aload_n 0, 1) := by decide +kernel
theorem dX5_notCopied_18 : decode cX5_notCopied 18 = .ok (.getfield 28, 3) := by decide +kernel
theorem dX5_notCopied_21 : decode cX5_notCopied 21 = .ok (.iload_n 1, 1) := by decide +kernel
theorem dX5_notCopied_22 : decode cX5_notCopied 22 = .ok (.iaload, 1) := by decide +kernel
theorem dX5_notCopied_23 : decode cX5_notCopied 23 = .ok (.ifCond .eq 12, 3) := by decide +kernel
theorem dX5_notCopied_26 : decode cX5_notCopied 26 = .ok (.aload_n 0, 1) := by decide +kernel
theorem dX5_notCopied_27 : decode cX5_notCopied 27 = .ok (.getfield 28, 3) := by decide +kernel
theorem dX5_notCopied_30 : decode cX5_notCopied 30 = .ok (.iload_n 3, 1) := by decide +kernel
theorem dX5_notCopied_31 : decode cX5_notCopied 31 = .ok (.iaload, 1) := by decide +kernel
theorem dX5_notCopied_32 : decode cX5_notCopied 32 = .ok (.ifCond .ne 6, 3) := by decide +kernel
theorem dX5_notCopied_35 : decode cX5_notCopied 35 = .ok (.ldc 213, 2) := by decide +kernel
theorem dX5_notCopied_37 : decode cX5_notCopied 37 = .ok (.ireturn, 1) := by decide +kernel
theorem dX5_notCopied_38 : decode cX5_notCopied 38 = .ok (.aload_n 0, 1) := by decide +kernel
theorem dX5_notCopied_39 : decode cX5_notCopied 39 = .ok (.getfield 28, 3) := by decide +kernel
theorem dX5_notCopied_42 : decode cX5_notCopied 42 = .ok (.iload_n 1, 1) := by decide +kernel
theorem dX5_notCopied_43 : decode cX5_notCopied 43 = .ok (.iaload, 1) := by decide +kernel
theorem dX5_notCopied_44 : decode cX5_notCopied 44 = .ok (.aload_n 0, 1) := by decide +kernel
theorem dX5_notCopied_45 : decode cX5_notCopied 45 = .ok (.getfield 28, 3) := by decide +kernel
theorem dX5_notCopied_48 : decode cX5_notCopied 48 = .ok (.iload_n 3, 1) := by decide +kernel
theorem dX5_notCopied_49 : decode cX5_notCopied 49 = .ok (.iaload, 1) := by decide +kernel
theorem dX5_notCopied_50 : decode cX5_notCopied 50 = .ok (.if_icmp .eq 6, 3) := by decide +kernel
theorem dX5_notCopied_53 : decode cX5_notCopied 53 = .ok (.ldc 108, 2) := by decide +kernel
theorem dX5_notCopied_55 : decode cX5_notCopied 55 = .ok (.ireturn, 1) := by decide +kernel
theorem dX5_notCopied_56 : decode cX5_notCopied 56 = .ok (.iload 5, 2) := by decide +kernel
theorem dX5_notCopied_58 : decode cX5_notCopied 58 = .ok (.ifCond .lt 43, 3) := by decide +kernel
theorem dX5_notCopied_61 : decode cX5_notCopied 61 = .ok (.iload_n 2, 1) := by decide +kernel
theorem dX5_notCopied_62 : decode cX5_notCopied 62 = .ok (.ifCond .lt 39, 3) := by decide +kernel
theorem dX5_notCopied_65 : decode cX5_notCopied 65 = .ok (.iload 4, 2) := by decide +kernel
theorem dX5_notCopied_67 : decode cX5_notCopied 67 = .ok (.ifCond .lt 34, 3) := by decide +kernel
theorem dX5_notCopied_70 : decode cX5_notCopied 70 = .ok (.iload 5, 2) := by decide +kernel
theorem dX5_notCopied_72 : decode cX5_notCopied 72 = .ok (.aload_n 0, 1) := by decide +kernel
theorem dX5_notCopied_73 : decode cX5_notCopied 73 = .ok (.getfield 31, 3) := by decide +kernel
theorem dX5_notCopied_76 : decode cX5_notCopied 76 = .ok (.iload_n 1, 1) := by decide +kernel
theorem dX5_notCopied_77 : decode cX5_notCopied 77 = .ok (.iaload, 1) := by decide +kernel
theorem dX5_notCopied_78 : decode cX5_notCopied 78 = .ok (.iload_n 2, 1) := by decide +kernel
theorem dX5_notCopied_79 : decode cX5_notCopied 79 = .ok (.isub, 1) := by decide +kernel
theorem dX5_notCopied_80 : decode cX5_notCopied 80 = .ok (.if_icmp .gt 21, 3) := by decide +kernel
theorem dX5_notCopied_83 : decode cX5_notCopied 83 = .ok (.iload 5, 2) := by decide +kernel
theorem dX5_notCopied_85 : decode cX5_notCopied 85 = .ok (.aload_n 0, 1) := by decide +kernel
theorem dX5_notCopied_86 : decode cX5_notCopied 86 = .ok (.getfield 31, 3) := by decide +kernel
theorem dX5_notCopied_89 : decode cX5_notCopied 89 = .ok (.iload_n 3, 1) := by decide +kernel
theorem dX5_notCopied_90 : decode cX5_notCopied 90 = .ok (.iaload, 1) := by decide +kernel
theorem dX5_notCopied_91 : decode cX5_notCopied 91 = .ok (.iload 4, 2) := by decide +kernel
theorem dX5_notCopied_93 : decode cX5_notCopied 93 = .ok (.isub, 1) := by decide +kernel
theorem dX5_notCopied_94 : decode cX5_notCopied 94 = .ok (.if_icmp .gt 7, 3) := by decide +kernel
theorem dX5_notCopied_97 : decode cX5_notCopied 97 = .ok (.iconst 1, 1) := by decide +kernel
theorem dX5_notCopied_98 : decode cX5_notCopied 98 = .ok (.goto 4, 3) := by decide +kernel
theorem dX5_notCopied_101 : decode cX5_notCopied 101 = .ok (.iconst 0, 1) := by decide +kernel
theorem dX5_notCopied_102 : decode cX5_notCopied 102 = .ok (.istore 6, 2) := by decide +kernel
theorem dX5_notCopied_104 : decode cX5_notCopied 104 = .ok (.iload 6, 2) := by decide +kernel
theorem dX5_notCopied_106 : decode cX5_notCopied 106 = .ok (.ifCond .eq 7, 3) := by decide +kernel
theorem dX5_notCopied_109 : decode cX5_notCopied 109 = .ok (.iconst 0, 1) := by decide +kernel
theorem dX5_notCopied_110 : decode cX5_notCopied 110 = .ok (.goto 5, 3) := by decide +kernel
theorem dX5_notCopied_113 : decode cX5_notCopied 113 = .ok (.ldc 38, 2) := by decide +kernel
theorem dX5_notCopied_115 : decode cX5_notCopied 115 = .ok (.ireturn, 1) := by decide +kernel
theorem dX5_copy_0 : decode cX5_copy 0 = .ok (.aload_n 0, 1) := by decide +kernel
theorem dX5_copy_1 : decode cX5_copy 1 = .ok (.iload_n 1, 1) := by decide +kernel
theorem dX5_copy_2 : decode cX5_copy 2 = .ok (.iload_n 2, 1) := by decide +kernel
theorem dX5_copy_3 : decode cX5_copy 3 = .ok (.iload_n 3, 1) := by decide +kernel
theorem dX5_copy_4 : decode cX5_copy 4 = .ok (.iload 4, 2) := by decide +kernel
theorem dX5_copy_6 : decode cX5_copy 6 = .ok (.iload 5, 2) := by decide +kernel
theorem dX5_copy_8 : decode cX5_copy 8 = .ok (.invokevirtual 221, 3) := by decide +kernel
theorem dX5_copy_11 : decode cX5_copy 11 = .ok (.istore 6, 2) := by decide +kernel
theorem dX5_copy_13 : decode cX5_copy 13 = .ok (.iload 6, 2) := by decide +kernel
theorem dX5_copy_15 : decode cX5_copy 15 = .ok (.ifCond .eq 10, 3) := by decide +kernel
theorem dX5_copy_18 : decode cX5_copy 18 = .ok (.aload_n 0, 1) := by decide +kernel
theorem dX5_copy_19 : decode cX5_copy 19 = .ok (.iload 6, 2) := by decide +kernel
theorem dX5_copy_21 : decode cX5_copy 21 = .ok (.invokevirtual 40, 3) := by decide +kernel
theorem dX5_copy_24 : decode cX5_copy 24 = .ok (.ireturn, 1) := by decide +kernel
theorem dX5_copy_25 : decode cX5_copy 25 = .ok (.iconst 0, 1) := by decide +kernel
theorem dX5_copy_26 : decode cX5_copy 26 = .ok (.istore 7, 2) := by decide +kernel
theorem dX5_copy_28 : decode cX5_copy 28 = .ok (.iload 7, 2) := by decide +kernel
theorem dX5_copy_30 : decode cX5_copy 30 = .ok (.iload 5, 2) := by decide +kernel
theorem dX5_copy_32 : decode cX5_copy 32 = .ok (.if_icmp .ge 58, 3) := by decide +kernel
theorem dX5_copy_35 : decode cX5_copy 35 = .ok (.iload_n 2, 1) := by decide +kernel
theorem dX5_copy_36 : decode cX5_copy 36 = .ok (.iload 4, 2) := by decide +kernel
theorem dX5_copy_38 : decode cX5_copy 38 = .ok (.if_icmp .ge 13, 3) := by decide +kernel
theorem dX5_copy_41 : decode cX5_copy 41 = .ok (.iload 5, 2) := by decide +kernel
theorem dX5_copy_43 : decode cX5_copy 43 = .ok (.iconst 1, 1) := by decide +kernel
theorem dX5_copy_44 : decode cX5_copy 44 = .ok (.isub, 1) := by decide +kernel
theorem dX5_copy_45 : decode cX5_copy 45 = .ok (.iload 7, 2) := by decide +kernel
theorem dX5_copy_47 : decode cX5_copy 47 = .ok (.isub, 1) := by decide +kernel
theorem dX5_copy_48 : decode cX5_copy 48 = .ok (.goto 5, 3) := by decide +kernel
theorem dX5_copy_51 : decode cX5_copy 51 = .ok (.iload 7, 2) := by decide +kernel
theorem dX5_copy_53 : decode cX5_copy 53 = .ok (.istore 8, 2) := by decide +kernel
theorem dX5_copy_55 : decode cX5_copy 55 = .ok (.aload_n 0, 1) := by decide +kernel
theorem dX5_copy_56 : decode cX5_copy 56 = .ok (.getfield 34, 3) := by decide +kernel
theorem dX5_copy_59 : decode cX5_copy 59 = .ok (.bipush 40, 2) := by decide +kernel
theorem dX5_copy_61 : decode cX5_copy 61 = .ok (.iload_n 3, 1) := by decide +kernel
theorem dX5_copy_62 : decode cX5_copy 62 = .ok (.imul, 1) := by decide +kernel
theorem dX5_copy_63 : decode cX5_copy 63 = .ok (.iload 4, 2) := by decide +kernel
theorem dX5_copy_65 : decode cX5_copy 65 = .ok (.iadd, 1) := by decide +kernel
theorem dX5_copy_66 : decode cX5_copy 66 = .ok (.iload 8, 2) := by decide +kernel
theorem dX5_copy_68 : decode cX5_copy 68 = .ok (.iadd, 1) := by decide +kernel
theorem dX5_copy_69 : decode cX5_copy 69 = .ok (.aload_n 0, 1) := by decide +kernel
theorem dX5_copy_70 : decode cX5_copy 70 = .ok (.getfield 34, 3) := by decide +kernel
theorem dX5_copy_73 : decode cX5_copy 73 = .ok (.bipush 40, 2) := by decide +kernel
theorem dX5_copy_75 : decode cX5_copy 75 = .ok (.iload_n 1, 1) := by decide +kernel
theorem dX5_copy_76 : decode cX5_copy 76 = .ok (.imul, 1) := by decide +kernel
theorem dX5_copy_77 : decode cX5_copy 77 = .ok (.iload_n 2, 1) := by decide +kernel
theorem dX5_copy_78 : decode cX5_copy 78 = .ok (.iadd, 1) := by decide +kernel
theorem dX5_copy_79 : decode cX5_copy 79 = .ok (.iload 8, 2) := by decide +kernel
theorem dX5_copy_81 : decode cX5_copy 81 = .ok (.iadd, 1) := by decide +kernel
theorem dX5_copy_82 : decode cX5_copy 82 = .ok (.laload, 1) := by decide +kernel
theorem dX5_copy_83 : decode cX5_copy 83 = .ok (.lastore, 1) := by decide +kernel
theorem dX5_copy_84 : decode cX5_copy 84 = .ok (.iinc 7 1, 3) := by decide +kernel
theorem dX5_copy_87 : decode cX5_copy 87 = .ok (.goto (-59), 3) := by decide +kernel
theorem dX5_copy_90 : decode cX5_copy 90 = .ok (.iload 5, 2) := by decide +kernel
theorem dX5_copy_92 : decode cX5_copy 92 = .ok (.ireturn, 1) := by decide +kernel
theorem dX5_lays_0 : decode cX5_lays 0 = .ok (.aload_n 0, 1) := by decide +kernel
theorem dX5_lays_1 : decode cX5_lays 1 = .ok (.iload_n 1, 1) := by decide +kernel
theorem dX5_lays_2 : decode cX5_lays 2 = .ok (.invokevirtual 214, 3) := by decide +kernel
theorem dX5_lays_5 : decode cX5_lays 5 = .ok (.istore_n 2, 1) := by decide +kernel
theorem dX5_lays_6 : decode cX5_lays 6 = .ok (.iload_n 2, 1) := by decide +kernel
theorem dX5_lays_7 : decode cX5_lays 7 = .ok (.ifCond .eq 9, 3) := by decide +kernel
theorem dX5_lays_10 : decode cX5_lays 10 = .ok (.aload_n 0, 1) := by decide +kernel
theorem dX5_lays_11 : decode cX5_lays 11 = .ok (.iload_n 2, 1) := by decide +kernel
theorem dX5_lays_12 : decode cX5_lays 12 = .ok (.invokevirtual 40, 3) := by decide +kernel
theorem dX5_lays_15 : decode cX5_lays 15 = .ok (.ireturn, 1) := by decide +kernel
theorem dX5_lays_16 : decode cX5_lays 16 = .ok (.iconst 0, 1) := by decide +kernel
theorem dX5_lays_17 : decode cX5_lays 17 = .ok (.istore_n 3, 1) := by decide +kernel
theorem dX5_lays_18 : decode cX5_lays 18 = .ok (.iconst 0, 1) := by decide +kernel
theorem dX5_lays_19 : decode cX5_lays 19 = .ok (.istore 4, 2) := by decide +kernel
theorem dX5_lays_21 : decode cX5_lays 21 = .ok (.iload 4, 2) := by decide +kernel
theorem dX5_lays_23 : decode cX5_lays 23 = .ok (.aload_n 0, 1) := by decide +kernel
theorem dX5_lays_24 : decode cX5_lays 24 = .ok (.getfield 31, 3) := by decide +kernel
theorem dX5_lays_27 : decode cX5_lays 27 = .ok (.iload_n 1, 1) := by decide +kernel
theorem dX5_lays_28 : decode cX5_lays 28 = .ok (.iaload, 1) := by decide +kernel
theorem dX5_lays_29 : decode cX5_lays 29 = .ok (.if_icmp .ge 62, 3) := by decide +kernel
theorem dX5_lays_32 : decode cX5_lays 32 = .ok (.iload 4, 2) := by decide +kernel
theorem dX5_lays_34 : decode cX5_lays 34 = .ok (.bipush 10, 2) := by decide +kernel
theorem dX5_lays_36 : decode cX5_lays 36 = .ok (.if_icmp .ge 55, 3) := by decide +kernel
theorem dX5_lays_39 : decode cX5_lays 39 = .ok (.aload_n 0, 1) := by decide +kernel
theorem dX5_lays_40 : decode cX5_lays 40 = .ok (.getfield 34, 3) := by decide +kernel
theorem dX5_lays_43 : decode cX5_lays 43 = .ok (.bipush 40, 2) := by decide +kernel
theorem dX5_lays_45 : decode cX5_lays 45 = .ok (.iload_n 1, 1) := by decide +kernel
theorem dX5_lays_46 : decode cX5_lays 46 = .ok (.imul, 1) := by decide +kernel
theorem dX5_lays_47 : decode cX5_lays 47 = .ok (.iload 4, 2) := by decide +kernel
theorem dX5_lays_49 : decode cX5_lays 49 = .ok (.iadd, 1) := by decide +kernel
theorem dX5_lays_50 : decode cX5_lays 50 = .ok (.laload, 1) := by decide +kernel
theorem dX5_lays_51 : decode cX5_lays 51 = .ok (.iconst 0, 1) := by decide +kernel
theorem dX5_lays_52 : decode cX5_lays 52 = .ok (.bipush 9, 2) := by decide +kernel
theorem dX5_lays_54 : decode cX5_lays 54 = .ok (.invokestatic 44, 3) := by decide +kernel
theorem dX5_lays_57 : decode cX5_lays 57 = .ok (.ifCond .eq 28, 3) := by decide +kernel
theorem dX5_lays_60 : decode cX5_lays 60 = .ok (.aload_n 0, 1) := by decide +kernel
theorem dX5_lays_61 : decode cX5_lays 61 = .ok (.getfield 9, 3) := by decide +kernel
theorem dX5_lays_64 : decode cX5_lays 64 = .ok (.iconst 2, 1) := by decide +kernel
theorem dX5_lays_65 : decode cX5_lays 65 = .ok (.iload 4, 2) := by decide +kernel
theorem dX5_lays_67 : decode cX5_lays 67 = .ok (.iadd, 1) := by decide +kernel
theorem dX5_lays_68 : decode cX5_lays 68 = .ok (.aload_n 0, 1) := by decide +kernel
theorem dX5_lays_69 : decode cX5_lays 69 = .ok (.getfield 34, 3) := by decide +kernel
theorem dX5_lays_72 : decode cX5_lays 72 = .ok (.bipush 40, 2) := by decide +kernel
theorem dX5_lays_74 : decode cX5_lays 74 = .ok (.iload_n 1, 1) := by decide +kernel
theorem dX5_lays_75 : decode cX5_lays 75 = .ok (.imul, 1) := by decide +kernel
theorem dX5_lays_76 : decode cX5_lays 76 = .ok (.iload 4, 2) := by decide +kernel
theorem dX5_lays_78 : decode cX5_lays 78 = .ok (.iadd, 1) := by decide +kernel
theorem dX5_lays_79 : decode cX5_lays 79 = .ok (.laload, 1) := by decide +kernel
theorem dX5_lays_80 : decode cX5_lays 80 = .ok (.l2i, 1) := by decide +kernel
theorem dX5_lays_81 : decode cX5_lays 81 = .ok (.iastore, 1) := by decide +kernel
theorem dX5_lays_82 : decode cX5_lays 82 = .ok (.iinc 3 1, 3) := by decide +kernel
theorem dX5_lays_85 : decode cX5_lays 85 = .ok (.iinc 4 1, 3) := by decide +kernel
theorem dX5_lays_88 : decode cX5_lays 88 = .ok (.goto (-67), 3) := by decide +kernel
theorem dX5_lays_91 : decode cX5_lays 91 = .ok (.iload_n 3, 1) := by decide +kernel
theorem dX5_lays_92 : decode cX5_lays 92 = .ok (.ireturn, 1) := by decide +kernel
theorem dX5_book_0 : decode cX5_book 0 = .ok (.aload_n 0, 1) := by decide +kernel
theorem dX5_book_1 : decode cX5_book 1 = .ok (.iload_n 1, 1) := by decide +kernel
theorem dX5_book_2 : decode cX5_book 2 = .ok (.invokevirtual 214, 3) := by decide +kernel
theorem dX5_book_5 : decode cX5_book 5 = .ok (.istore_n 3, 1) := by decide +kernel
theorem dX5_book_6 : decode cX5_book 6 = .ok (.iload_n 3, 1) := by decide +kernel
theorem dX5_book_7 : decode cX5_book 7 = .ok (.ifCond .ne 16, 3) := by decide +kernel
theorem dX5_book_10 : decode cX5_book 10 = .ok (.aload_n 0, 1) := by decide +kernel
theorem dX5_book_11 : decode cX5_book 11 = .ok (.iload_n 2, 1) := by decide +kernel
theorem dX5_book_12 : decode cX5_book 12 = .ok (.invokevirtual 48, 3) := by decide +kernel
theorem dX5_book_15 : decode cX5_book 15 = .ok (.ifCond .ne 8, 3) := by decide +kernel
theorem dX5_book_18 : decode cX5_book 18 = .ok (.ldc 38, 2) := by decide +kernel
theorem dX5_book_20 : decode cX5_book 20 = .ok (.goto 4, 3) := by decide +kernel
theorem dX5_book_23 : decode cX5_book 23 = .ok (.iload_n 3, 1) := by decide +kernel
theorem dX5_book_24 : decode cX5_book 24 = .ok (.istore_n 3, 1) := by decide +kernel
theorem dX5_book_25 : decode cX5_book 25 = .ok (.iload_n 3, 1) := by decide +kernel
theorem dX5_book_26 : decode cX5_book 26 = .ok (.ifCond .eq 9, 3) := by decide +kernel
theorem dX5_book_29 : decode cX5_book 29 = .ok (.aload_n 0, 1) := by decide +kernel
theorem dX5_book_30 : decode cX5_book 30 = .ok (.iload_n 3, 1) := by decide +kernel
theorem dX5_book_31 : decode cX5_book 31 = .ok (.invokevirtual 40, 3) := by decide +kernel
theorem dX5_book_34 : decode cX5_book 34 = .ok (.ireturn, 1) := by decide +kernel
theorem dX5_book_35 : decode cX5_book 35 = .ok (.aload_n 0, 1) := by decide +kernel
theorem dX5_book_36 : decode cX5_book 36 = .ok (.invokevirtual 139, 3) := by decide +kernel
theorem dX5_book_39 : decode cX5_book 39 = .ok (.iconst 0, 1) := by decide +kernel
theorem dX5_book_40 : decode cX5_book 40 = .ok (.istore 4, 2) := by decide +kernel
theorem dX5_book_42 : decode cX5_book 42 = .ok (.iload 4, 2) := by decide +kernel
theorem dX5_book_44 : decode cX5_book 44 = .ok (.aload_n 0, 1) := by decide +kernel
theorem dX5_book_45 : decode cX5_book 45 = .ok (.getfield 31, 3) := by decide +kernel
theorem dX5_book_48 : decode cX5_book 48 = .ok (.iload_n 1, 1) := by decide +kernel
theorem dX5_book_49 : decode cX5_book 49 = .ok (.iaload, 1) := by decide +kernel
theorem dX5_book_50 : decode cX5_book 50 = .ok (.if_icmp .ge 40, 3) := by decide +kernel
theorem dX5_book_53 : decode cX5_book 53 = .ok (.aload_n 0, 1) := by decide +kernel
theorem dX5_book_54 : decode cX5_book 54 = .ok (.getfield 34, 3) := by decide +kernel
theorem dX5_book_57 : decode cX5_book 57 = .ok (.bipush 40, 2) := by decide +kernel
theorem dX5_book_59 : decode cX5_book 59 = .ok (.iload_n 1, 1) := by decide +kernel
theorem dX5_book_60 : decode cX5_book 60 = .ok (.imul, 1) := by decide +kernel
theorem dX5_book_61 : decode cX5_book 61 = .ok (.iload 4, 2) := by decide +kernel
theorem dX5_book_63 : decode cX5_book 63 = .ok (.iadd, 1) := by decide +kernel
theorem dX5_book_64 : decode cX5_book 64 = .ok (.aload_n 0, 1) := by decide +kernel
theorem dX5_book_65 : decode cX5_book 65 = .ok (.getfield 28, 3) := by decide +kernel
theorem dX5_book_68 : decode cX5_book 68 = .ok (.iload_n 1, 1) := by decide +kernel
theorem dX5_book_69 : decode cX5_book 69 = .ok (.iaload, 1) := by decide +kernel
theorem dX5_book_70 : decode cX5_book 70 = .ok (.aload_n 0, 1) := by decide +kernel
theorem dX5_book_71 : decode cX5_book 71 = .ok (.iload_n 2, 1) := by decide +kernel
theorem dX5_book_72 : decode cX5_book 72 = .ok (.invokevirtual 105, 3) := by decide +kernel
theorem dX5_book_75 : decode cX5_book 75 = .ok (.i2l, 1) := by decide +kernel
theorem dX5_book_76 : decode cX5_book 76 = .ok (.invokestatic 217, 3) := by decide +kernel
theorem dX5_book_79 : decode cX5_book 79 = .ok (.lastore, 1) := by decide +kernel
theorem dX5_book_80 : decode cX5_book 80 = .ok (.aload_n 0, 1) := by decide +kernel
theorem dX5_book_81 : decode cX5_book 81 = .ok (.invokevirtual 127, 3) := by decide +kernel
theorem dX5_book_84 : decode cX5_book 84 = .ok (.iinc 4 1, 3) := by decide +kernel
theorem dX5_book_87 : decode cX5_book 87 = .ok (.goto (-45), 3) := by decide +kernel
theorem dX5_book_90 : decode cX5_book 90 = .ok (.aload_n 0, 1) := by decide +kernel
theorem dX5_book_91 : decode cX5_book 91 = .ok (.invokevirtual 142, 3) := by decide +kernel
theorem dX5_book_94 : decode cX5_book 94 = .ok (.aload_n 0, 1) := by decide +kernel
theorem dX5_book_95 : decode cX5_book 95 = .ok (.getfield 31, 3) := by decide +kernel
theorem dX5_book_98 : decode cX5_book 98 = .ok (.iload_n 1, 1) := by decide +kernel
theorem dX5_book_99 : decode cX5_book 99 = .ok (.iaload, 1) := by decide +kernel
theorem dX5_book_100 : decode cX5_book 100 = .ok (.ireturn, 1) := by decide +kernel
theorem dX5_isBook_0 : decode cX5_isBook 0 = .ok (.iconst 1, 1) := by decide +kernel
theorem dX5_isBook_1 : decode cX5_isBook 1 = .ok (.istore_n 3, 1) := by decide +kernel
theorem dX5_isBook_2 : decode cX5_isBook 2 = .ok (.iconst 0, 1) := by decide +kernel
theorem dX5_isBook_3 : decode cX5_isBook 3 = .ok (.istore 4, 2) := by decide +kernel
theorem dX5_isBook_5 : decode cX5_isBook 5 = .ok (.iload 4, 2) := by decide +kernel
theorem dX5_isBook_7 : decode cX5_isBook 7 = .ok (.aload_n 0, 1) := by decide +kernel
theorem dX5_isBook_8 : decode cX5_isBook 8 = .ok (.getfield 31, 3) := by decide +kernel
theorem dX5_isBook_11 : decode cX5_isBook 11 = .ok (.iload_n 1, 1) := by decide +kernel
theorem dX5_isBook_12 : decode cX5_isBook 12 = .ok (.iaload, 1) := by decide +kernel
theorem dX5_isBook_13 : decode cX5_isBook 13 = .ok (.if_icmp .ge 45, 3) := by decide +kernel
theorem dX5_isBook_16 : decode cX5_isBook 16 = .ok (.iload_n 3, 1) := by decide +kernel
theorem dX5_isBook_17 : decode cX5_isBook 17 = .ok (.ifCond .eq 41, 3) := by decide +kernel
theorem dX5_isBook_20 : decode cX5_isBook 20 = .ok (.aload_n 0, 1) := by decide +kernel
theorem dX5_isBook_21 : decode cX5_isBook 21 = .ok (.getfield 34, 3) := by decide +kernel
theorem dX5_isBook_24 : decode cX5_isBook 24 = .ok (.bipush 40, 2) := by decide +kernel
theorem dX5_isBook_26 : decode cX5_isBook 26 = .ok (.iload_n 1, 1) := by decide +kernel
theorem dX5_isBook_27 : decode cX5_isBook 27 = .ok (.imul, 1) := by decide +kernel
theorem dX5_isBook_28 : decode cX5_isBook 28 = .ok (.iload 4, 2) := by decide +kernel
theorem dX5_isBook_30 : decode cX5_isBook 30 = .ok (.iadd, 1) := by decide +kernel
theorem dX5_isBook_31 : decode cX5_isBook 31 = .ok (.laload, 1) := by decide +kernel
theorem dX5_isBook_32 : decode cX5_isBook 32 = .ok (.aload_n 0, 1) := by decide +kernel
theorem dX5_isBook_33 : decode cX5_isBook 33 = .ok (.iload_n 2, 1) := by decide +kernel
theorem dX5_isBook_34 : decode cX5_isBook 34 = .ok (.invokevirtual 105, 3) := by decide +kernel
theorem dX5_isBook_37 : decode cX5_isBook 37 = .ok (.i2l, 1) := by decide +kernel
theorem dX5_isBook_38 : decode cX5_isBook 38 = .ok (.lcmp, 1) := by decide +kernel
theorem dX5_isBook_39 : decode cX5_isBook 39 = .ok (.ifCond .ne 7, 3) := by decide +kernel
theorem dX5_isBook_42 : decode cX5_isBook 42 = .ok (.iconst 1, 1) := by decide +kernel
theorem dX5_isBook_43 : decode cX5_isBook 43 = .ok (.goto 4, 3) := by decide +kernel
theorem dX5_isBook_46 : decode cX5_isBook 46 = .ok (.iconst 0, 1) := by decide +kernel
theorem dX5_isBook_47 : decode cX5_isBook 47 = .ok (.istore_n 3, 1) := by decide +kernel
theorem dX5_isBook_48 : decode cX5_isBook 48 = .ok (.aload_n 0, 1) := by decide +kernel
theorem dX5_isBook_49 : decode cX5_isBook 49 = .ok (.invokevirtual 127, 3) := by decide +kernel
theorem dX5_isBook_52 : decode cX5_isBook 52 = .ok (.iinc 4 1, 3) := by decide +kernel
theorem dX5_isBook_55 : decode cX5_isBook 55 = .ok (.goto (-50), 3) := by decide +kernel
theorem dX5_isBook_58 : decode cX5_isBook 58 = .ok (.aload_n 0, 1) := by decide +kernel
theorem dX5_isBook_59 : decode cX5_isBook 59 = .ok (.invokevirtual 142, 3) := by decide +kernel
theorem dX5_isBook_62 : decode cX5_isBook 62 = .ok (.iload_n 3, 1) := by decide +kernel
theorem dX5_isBook_63 : decode cX5_isBook 63 = .ok (.ireturn, 1) := by decide +kernel
theorem dX5_read_0 : decode cX5_read 0 = .ok (.aload_n 0, 1) := by decide +kernel
theorem dX5_read_1 : decode cX5_read 1 = .ok (.iload_n 1, 1) := by decide +kernel
theorem dX5_read_2 : decode cX5_read 2 = .ok (.invokevirtual 214, 3) := by decide +kernel
theorem dX5_read_5 : decode cX5_read 5 = .ok (.istore 4, 2) := by decide +kernel
theorem dX5_read_7 : decode cX5_read 7 = .ok (.iload 4, 2) := by decide +kernel
theorem dX5_read_9 : decode cX5_read 9 = .ok (.ifCond .ne 17, 3) := by decide +kernel
theorem dX5_read_12 : decode cX5_read 12 = .ok (.aload_n 0, 1) := by decide +kernel
theorem dX5_read_13 : decode cX5_read 13 = .ok (.iload_n 2, 1) := by decide +kernel
theorem dX5_read_14 : decode cX5_read 14 = .ok (.iload_n 3, 1) := by decide +kernel
theorem dX5_read_15 : decode cX5_read 15 = .ok (.invokevirtual 151, 3) := by decide +kernel
theorem dX5_read_18 : decode cX5_read 18 = .ok (.ifCond .ne 8, 3) := by decide +kernel
theorem dX5_read_21 : decode cX5_read 21 = .ok (.ldc 38, 2) := by decide +kernel
theorem dX5_read_23 : decode cX5_read 23 = .ok (.goto 5, 3) := by decide +kernel
theorem dX5_read_26 : decode cX5_read 26 = .ok (.iload 4, 2) := by decide +kernel
theorem dX5_read_28 : decode cX5_read 28 = .ok (.istore 4, 2) := by decide +kernel
theorem dX5_read_30 : decode cX5_read 30 = .ok (.iload 4, 2) := by decide +kernel
theorem dX5_read_32 : decode cX5_read 32 = .ok (.ifCond .eq 10, 3) := by decide +kernel
theorem dX5_read_35 : decode cX5_read 35 = .ok (.aload_n 0, 1) := by decide +kernel
theorem dX5_read_36 : decode cX5_read 36 = .ok (.iload 4, 2) := by decide +kernel
theorem dX5_read_38 : decode cX5_read 38 = .ok (.invokevirtual 40, 3) := by decide +kernel
theorem dX5_read_41 : decode cX5_read 41 = .ok (.ireturn, 1) := by decide +kernel
theorem dX5_read_42 : decode cX5_read 42 = .ok (.aload_n 0, 1) := by decide +kernel
theorem dX5_read_43 : decode cX5_read 43 = .ok (.invokevirtual 139, 3) := by decide +kernel
theorem dX5_read_46 : decode cX5_read 46 = .ok (.iconst 0, 1) := by decide +kernel
theorem dX5_read_47 : decode cX5_read 47 = .ok (.istore 5, 2) := by decide +kernel
theorem dX5_read_49 : decode cX5_read 49 = .ok (.iconst 0, 1) := by decide +kernel
theorem dX5_read_50 : decode cX5_read 50 = .ok (.istore 6, 2) := by decide +kernel
theorem dX5_read_52 : decode cX5_read 52 = .ok (.iload 6, 2) := by decide +kernel
theorem dX5_read_54 : decode cX5_read 54 = .ok (.bipush 36, 2) := by decide +kernel
theorem dX5_read_56 : decode cX5_read 56 = .ok (.if_icmp .ge 50, 3) := by decide +kernel
theorem dX5_read_59 : decode cX5_read 59 = .ok (.aload_n 0, 1) := by decide +kernel
theorem dX5_read_60 : decode cX5_read 60 = .ok (.iload_n 2, 1) := by decide +kernel
theorem dX5_read_61 : decode cX5_read 61 = .ok (.iconst 0, 1) := by decide +kernel
theorem dX5_read_62 : decode cX5_read 62 = .ok (.iload 6, 2) := by decide +kernel
theorem dX5_read_64 : decode cX5_read 64 = .ok (.bipush 6, 2) := by decide +kernel
theorem dX5_read_66 : decode cX5_read 66 = .ok (.idiv, 1) := by decide +kernel
theorem dX5_read_67 : decode cX5_read 67 = .ok (.invokevirtual 91, 3) := by decide +kernel
theorem dX5_read_70 : decode cX5_read 70 = .ok (.aload_n 0, 1) := by decide +kernel
theorem dX5_read_71 : decode cX5_read 71 = .ok (.iload_n 3, 1) := by decide +kernel
theorem dX5_read_72 : decode cX5_read 72 = .ok (.iconst 0, 1) := by decide +kernel
theorem dX5_read_73 : decode cX5_read 73 = .ok (.iload 6, 2) := by decide +kernel
theorem dX5_read_75 : decode cX5_read 75 = .ok (.bipush 6, 2) := by decide +kernel
theorem dX5_read_77 : decode cX5_read 77 = .ok (.irem, 1) := by decide +kernel
theorem dX5_read_78 : decode cX5_read 78 = .ok (.invokevirtual 91, 3) := by decide +kernel
theorem dX5_read_81 : decode cX5_read 81 = .ok (.iload 5, 2) := by decide +kernel
theorem dX5_read_83 : decode cX5_read 83 = .ok (.aload_n 0, 1) := by decide +kernel
theorem dX5_read_84 : decode cX5_read 84 = .ok (.iload_n 1, 1) := by decide +kernel
theorem dX5_read_85 : decode cX5_read 85 = .ok (.iload_n 2, 1) := by decide +kernel
theorem dX5_read_86 : decode cX5_read 86 = .ok (.invokevirtual 225, 3) := by decide +kernel
theorem dX5_read_89 : decode cX5_read 89 = .ok (.ifCond .eq 7, 3) := by decide +kernel
theorem dX5_read_92 : decode cX5_read 92 = .ok (.iconst 1, 1) := by decide +kernel
theorem dX5_read_93 : decode cX5_read 93 = .ok (.goto 4, 3) := by decide +kernel
theorem dX5_read_96 : decode cX5_read 96 = .ok (.iconst 0, 1) := by decide +kernel
theorem dX5_read_97 : decode cX5_read 97 = .ok (.iadd, 1) := by decide +kernel
theorem dX5_read_98 : decode cX5_read 98 = .ok (.istore 5, 2) := by decide +kernel
theorem dX5_read_100 : decode cX5_read 100 = .ok (.iinc 6 1, 3) := by decide +kernel
theorem dX5_read_103 : decode cX5_read 103 = .ok (.goto (-51), 3) := by decide +kernel
theorem dX5_read_106 : decode cX5_read 106 = .ok (.iload 5, 2) := by decide +kernel
theorem dX5_read_108 : decode cX5_read 108 = .ok (.ireturn, 1) := by decide +kernel
theorem dX5_image_0 : decode cX5_image 0 = .ok (.aload_n 0, 1) := by decide +kernel
theorem dX5_image_1 : decode cX5_image 1 = .ok (.getfield 9, 3) := by decide +kernel
theorem dX5_image_4 : decode cX5_image 4 = .ok (.aload_n 0, 1) := by decide +kernel
theorem dX5_image_5 : decode cX5_image 5 = .ok (.getfield 13, 3) := by decide +kernel
theorem dX5_image_8 : decode cX5_image 8 = .ok (.invokestatic 135, 3) := by decide +kernel
theorem dX5_image_11 : decode cX5_image 11 = .ok (.aload_n 0, 1) := by decide +kernel
theorem dX5_image_12 : decode cX5_image 12 = .ok (.iconst 1, 1) := by decide +kernel
theorem dX5_image_13 : decode cX5_image 13 = .ok (.putfield 228, 3) := by decide +kernel
theorem dX5_image_16 : decode cX5_image 16 = .ok (.iconst 1, 1) := by decide +kernel
theorem dX5_image_17 : decode cX5_image 17 = .ok (.ireturn, 1) := by decide +kernel
theorem dX5_undo_0 : decode cX5_undo 0 = .ok (.aload_n 0, 1) := by decide +kernel
theorem dX5_undo_1 : decode cX5_undo 1 = .ok (.getfield 228, 3) := by decide +kernel
theorem dX5_undo_4 : decode cX5_undo 4 = .ok (.ifCond .ne 10, 3) := by decide +kernel
theorem dX5_undo_7 : decode cX5_undo 7 = .ok (.aload_n 0, 1) := by decide +kernel
theorem dX5_undo_8 : decode cX5_undo 8 = .ok (.ldc 39, 2) := by decide +kernel
theorem dX5_undo_10 : decode cX5_undo 10 = .ok (.invokevirtual 40, 3) := by decide +kernel
theorem dX5_undo_13 : decode cX5_undo 13 = .ok (.ireturn, 1) := by decide +kernel
theorem dX5_undo_14 : decode cX5_undo 14 = .ok (.aload_n 0, 1) := by decide +kernel
theorem dX5_undo_15 : decode cX5_undo 15 = .ok (.getfield 13, 3) := by decide +kernel
theorem dX5_undo_18 : decode cX5_undo 18 = .ok (.aload_n 0, 1) := by decide +kernel
theorem dX5_undo_19 : decode cX5_undo 19 = .ok (.getfield 9, 3) := by decide +kernel
theorem dX5_undo_22 : decode cX5_undo 22 = .ok (.invokestatic 135, 3) := by decide +kernel
theorem dX5_undo_25 : decode cX5_undo 25 = .ok (.aload_n 0, 1) := by decide +kernel
theorem dX5_undo_26 : decode cX5_undo 26 = .ok (.getfield 9, 3) := by decide +kernel
theorem dX5_undo_29 : decode cX5_undo 29 = .ok (.iconst 1, 1) := by decide +kernel
theorem dX5_undo_30 : decode cX5_undo 30 = .ok (.iaload, 1) := by decide +kernel
theorem dX5_undo_31 : decode cX5_undo 31 = .ok (.ireturn, 1) := by decide +kernel
theorem dX5_tear_0 : decode cX5_tear 0 = .ok (.aload_n 0, 1) := by decide +kernel
theorem dX5_tear_1 : decode cX5_tear 1 = .ok (.getfield 228, 3) := by decide +kernel
theorem dX5_tear_4 : decode cX5_tear 4 = .ok (.ifCond .eq 7, 3) := by decide +kernel
theorem dX5_tear_7 : decode cX5_tear 7 = .ok (.iconst 1, 1) := by decide +kernel
theorem dX5_tear_8 : decode cX5_tear 8 = .ok (.goto 4, 3) := by decide +kernel
theorem dX5_tear_11 : decode cX5_tear 11 = .ok (.iconst 0, 1) := by decide +kernel
theorem dX5_tear_12 : decode cX5_tear 12 = .ok (.istore_n 1, 1) := by decide +kernel
theorem dX5_tear_13 : decode cX5_tear 13 = .ok (.aload_n 0, 1) := by decide +kernel
theorem dX5_tear_14 : decode cX5_tear 14 = .ok (.iconst 0, 1) := by decide +kernel
theorem dX5_tear_15 : decode cX5_tear 15 = .ok (.putfield 228, 3) := by decide +kernel
theorem dX5_tear_18 : decode cX5_tear 18 = .ok (.iload_n 1, 1) := by decide +kernel
theorem dX5_tear_19 : decode cX5_tear 19 = .ok (.ireturn, 1) := by decide +kernel
theorem dX5_allSun_0 : decode cX5_allSun 0 = .ok (.iconst 0, 1) := by decide +kernel
theorem dX5_allSun_1 : decode cX5_allSun 1 = .ok (.istore_n 1, 1) := by decide +kernel
theorem dX5_allSun_2 : decode cX5_allSun 2 = .ok (.iconst 0, 1) := by decide +kernel
theorem dX5_allSun_3 : decode cX5_allSun 3 = .ok (.istore_n 2, 1) := by decide +kernel
theorem dX5_allSun_4 : decode cX5_allSun 4 = .ok (.iload_n 2, 1) := by decide +kernel
theorem dX5_allSun_5 : decode cX5_allSun 5 = .ok (.bipush 10, 2) := by decide +kernel
theorem dX5_allSun_7 : decode cX5_allSun 7 = .ok (.if_icmp .ge 20, 3) := by decide +kernel
theorem dX5_allSun_10 : decode cX5_allSun 10 = .ok (.iload_n 1, 1) := by decide +kernel
theorem dX5_allSun_11 : decode cX5_allSun 11 = .ok (.aload_n 0, 1) := by decide +kernel
theorem dX5_allSun_12 : decode cX5_allSun 12 = .ok (.getfield 9, 3) := by decide +kernel
theorem dX5_allSun_15 : decode cX5_allSun 15 = .ok (.iconst 2, 1) := by decide +kernel
theorem dX5_allSun_16 : decode cX5_allSun 16 = .ok (.iload_n 2, 1) := by decide +kernel
theorem dX5_allSun_17 : decode cX5_allSun 17 = .ok (.iadd, 1) := by decide +kernel
theorem dX5_allSun_18 : decode cX5_allSun 18 = .ok (.iaload, 1) := by decide +kernel
theorem dX5_allSun_19 : decode cX5_allSun 19 = .ok (.iadd, 1) := by decide +kernel
theorem dX5_allSun_20 : decode cX5_allSun 20 = .ok (.istore_n 1, 1) := by decide +kernel
theorem dX5_allSun_21 : decode cX5_allSun 21 = .ok (.iinc 2 1, 3) := by decide +kernel
theorem dX5_allSun_24 : decode cX5_allSun 24 = .ok (.goto (-20), 3) := by decide +kernel
theorem dX5_allSun_27 : decode cX5_allSun 27 = .ok (.iload_n 1, 1) := by decide +kernel
theorem dX5_allSun_28 : decode cX5_allSun 28 = .ok (.ireturn, 1) := by decide +kernel
theorem dX5_howManySit_0 : decode cX5_howManySit 0 = .ok (.iconst 0, 1) := by decide +kernel
theorem dX5_howManySit_1 : decode cX5_howManySit 1 = .ok (.istore_n 1, 1) := by decide +kernel
theorem dX5_howManySit_2 : decode cX5_howManySit 2 = .ok (.iconst 0, 1) := by decide +kernel
theorem dX5_howManySit_3 : decode cX5_howManySit 3 = .ok (.istore_n 2, 1) := by decide +kernel
theorem dX5_howManySit_4 : decode cX5_howManySit 4 = .ok (.iload_n 2, 1) := by decide +kernel
theorem dX5_howManySit_5 : decode cX5_howManySit 5 = .ok (.aload_n 0, 1) := by decide +kernel
theorem dX5_howManySit_6 : decode cX5_howManySit 6 = .ok (.getfield 9, 3) := by decide +kernel
theorem dX5_howManySit_9 : decode cX5_howManySit 9 = .ok (.iconst 1, 1) := by decide +kernel
theorem dX5_howManySit_10 : decode cX5_howManySit 10 = .ok (.iaload, 1) := by decide +kernel
theorem dX5_howManySit_11 : decode cX5_howManySit 11 = .ok (.if_icmp .ge 25, 3) := by decide +kernel
theorem dX5_howManySit_14 : decode cX5_howManySit 14 = .ok (.iload_n 1, 1) := by decide +kernel
theorem dX5_howManySit_15 : decode cX5_howManySit 15 = .ok (.aload_n 0, 1) := by decide +kernel
theorem dX5_howManySit_16 : decode cX5_howManySit 16 = .ok (.iload_n 2, 1) := by decide +kernel
theorem dX5_howManySit_17 : decode cX5_howManySit 17 = .ok (.invokevirtual 56, 3) := by decide +kernel
theorem dX5_howManySit_20 : decode cX5_howManySit 20 = .ok (.ifCond .eq 7, 3) := by decide +kernel
theorem dX5_howManySit_23 : decode cX5_howManySit 23 = .ok (.iconst 1, 1) := by decide +kernel
theorem dX5_howManySit_24 : decode cX5_howManySit 24 = .ok (.goto 4, 3) := by decide +kernel
theorem dX5_howManySit_27 : decode cX5_howManySit 27 = .ok (.iconst 0, 1) := by decide +kernel
theorem dX5_howManySit_28 : decode cX5_howManySit 28 = .ok (.iadd, 1) := by decide +kernel
theorem dX5_howManySit_29 : decode cX5_howManySit 29 = .ok (.istore_n 1, 1) := by decide +kernel
theorem dX5_howManySit_30 : decode cX5_howManySit 30 = .ok (.iinc 2 1, 3) := by decide +kernel
theorem dX5_howManySit_33 : decode cX5_howManySit 33 = .ok (.goto (-29), 3) := by decide +kernel
theorem dX5_howManySit_36 : decode cX5_howManySit 36 = .ok (.iload_n 1, 1) := by decide +kernel
theorem dX5_howManySit_37 : decode cX5_howManySit 37 = .ok (.ireturn, 1) := by decide +kernel
theorem dX5_count_0 : decode cX5_count 0 = .ok (.iload_n 1, 1) := by decide +kernel
theorem dX5_count_1 : decode cX5_count 1 = .ok (.tableswitch 53 0 3 #[31, 38, 43, 48], 31) := by decide +kernel
theorem dX5_count_32 : decode cX5_count 32 = .ok (.aload_n 0, 1) := by decide +kernel
theorem dX5_count_33 : decode cX5_count 33 = .ok (.getfield 9, 3) := by decide +kernel
theorem dX5_count_36 : decode cX5_count 36 = .ok (.iconst 1, 1) := by decide +kernel
theorem dX5_count_37 : decode cX5_count 37 = .ok (.iaload, 1) := by decide +kernel
theorem dX5_count_38 : decode cX5_count 38 = .ok (.ireturn, 1) := by decide +kernel
theorem dX5_count_39 : decode cX5_count 39 = .ok (.aload_n 0, 1) := by decide +kernel
theorem dX5_count_40 : decode cX5_count 40 = .ok (.getfield 154, 3) := by decide +kernel
theorem dX5_count_43 : decode cX5_count 43 = .ok (.ireturn, 1) := by decide +kernel
theorem dX5_count_44 : decode cX5_count 44 = .ok (.aload_n 0, 1) := by decide +kernel
theorem dX5_count_45 : decode cX5_count 45 = .ok (.invokevirtual 231, 3) := by decide +kernel
theorem dX5_count_48 : decode cX5_count 48 = .ok (.ireturn, 1) := by decide +kernel
theorem dX5_count_49 : decode cX5_count 49 = .ok (.aload_n 0, 1) := by decide +kernel
theorem dX5_count_50 : decode cX5_count 50 = .ok (.invokevirtual 234, 3) := by decide +kernel
theorem dX5_count_53 : decode cX5_count 53 = .ok (.ireturn, 1) := by decide +kernel
theorem dX5_count_54 : decode cX5_count 54 = .ok (.aload_n 0, 1) := by decide +kernel
theorem dX5_count_55 : decode cX5_count 55 = .ok (.ldc 38, 2) := by decide +kernel
theorem dX5_count_57 : decode cX5_count 57 = .ok (.invokevirtual 40, 3) := by decide +kernel
theorem dX5_count_60 : decode cX5_count 60 = .ok (.ireturn, 1) := by decide +kernel
theorem dX5_status_0 : decode cX5_status 0 = .ok (.iload_n 1, 1) := by decide +kernel
theorem dX5_status_1 : decode cX5_status 1 = .ok (.i2l, 1) := by decide +kernel
theorem dX5_status_2 : decode cX5_status 2 = .ok (.iconst (-1), 1) := by decide +kernel
theorem dX5_status_3 : decode cX5_status 3 = .ok (.bipush 6, 2) := by decide +kernel
theorem dX5_status_5 : decode cX5_status 5 = .ok (.invokestatic 44, 3) := by decide +kernel
theorem dX5_status_8 : decode cX5_status 8 = .ok (.ifCond .ne 10, 3) := by decide +kernel
theorem dX5_status_11 : decode cX5_status 11 = .ok (.aload_n 0, 1) := by decide +kernel
theorem dX5_status_12 : decode cX5_status 12 = .ok (.ldc 38, 2) := by decide +kernel
theorem dX5_status_14 : decode cX5_status 14 = .ok (.invokevirtual 40, 3) := by decide +kernel
theorem dX5_status_17 : decode cX5_status 17 = .ok (.ireturn, 1) := by decide +kernel
theorem dX5_status_18 : decode cX5_status 18 = .ok (.iconst 0, 1) := by decide +kernel
theorem dX5_status_19 : decode cX5_status 19 = .ok (.istore_n 2, 1) := by decide +kernel
theorem dX5_status_20 : decode cX5_status 20 = .ok (.iconst 0, 1) := by decide +kernel
theorem dX5_status_21 : decode cX5_status 21 = .ok (.istore_n 3, 1) := by decide +kernel
theorem dX5_status_22 : decode cX5_status 22 = .ok (.iload_n 3, 1) := by decide +kernel
theorem dX5_status_23 : decode cX5_status 23 = .ok (.bipush 7, 2) := by decide +kernel
theorem dX5_status_25 : decode cX5_status 25 = .ok (.if_icmp .ge 31, 3) := by decide +kernel
theorem dX5_status_28 : decode cX5_status 28 = .ok (.iload_n 2, 1) := by decide +kernel
theorem dX5_status_29 : decode cX5_status 29 = .ok (.iload_n 1, 1) := by decide +kernel
theorem dX5_status_30 : decode cX5_status 30 = .ok (.ifCond .lt 8, 3) := by decide +kernel
theorem dX5_status_33 : decode cX5_status 33 = .ok (.iload_n 1, 1) := by decide +kernel
theorem dX5_status_34 : decode cX5_status 34 = .ok (.iload_n 3, 1) := by decide +kernel
theorem dX5_status_35 : decode cX5_status 35 = .ok (.if_icmp .ne 12, 3) := by decide +kernel
theorem dX5_status_38 : decode cX5_status 38 = .ok (.aload_n 0, 1) := by decide +kernel
theorem dX5_status_39 : decode cX5_status 39 = .ok (.getfield 19, 3) := by decide +kernel
theorem dX5_status_42 : decode cX5_status 42 = .ok (.iload_n 3, 1) := by decide +kernel
theorem dX5_status_43 : decode cX5_status 43 = .ok (.iaload, 1) := by decide +kernel
theorem dX5_status_44 : decode cX5_status 44 = .ok (.goto 4, 3) := by decide +kernel
theorem dX5_status_47 : decode cX5_status 47 = .ok (.iconst 0, 1) := by decide +kernel
theorem dX5_status_48 : decode cX5_status 48 = .ok (.iadd, 1) := by decide +kernel
theorem dX5_status_49 : decode cX5_status 49 = .ok (.istore_n 2, 1) := by decide +kernel
theorem dX5_status_50 : decode cX5_status 50 = .ok (.iinc 3 1, 3) := by decide +kernel
theorem dX5_status_53 : decode cX5_status 53 = .ok (.goto (-31), 3) := by decide +kernel
theorem dX5_status_56 : decode cX5_status 56 = .ok (.iload_n 2, 1) := by decide +kernel
theorem dX5_status_57 : decode cX5_status 57 = .ok (.ireturn, 1) := by decide +kernel
