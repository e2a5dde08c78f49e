theorem dX0_init_0 : decode cX0_init 0 = .ok (.aload_n 0, 1) := by decide +kernel
theorem dX0_init_1 : decode cX0_init 1 = .ok (.invokespecial 3, 3) := by decide +kernel
theorem dX0_init_4 : decode cX0_init 4 = .ok (.aload_n 0, 1) := by decide +kernel
theorem dX0_init_5 : decode cX0_init 5 = .ok (.bipush 6, 2) := by decide +kernel
theorem dX0_init_7 : decode cX0_init 7 = .ok (.newarray .int, 2) := by decide +kernel
theorem dX0_init_9 : decode cX0_init 9 = .ok (.putfield 9, 3) := by decide +kernel
theorem dX0_init_12 : decode cX0_init 12 = .ok (.aload_n 0, 1) := by decide +kernel
theorem dX0_init_13 : decode cX0_init 13 = .ok (.bipush 6, 2) := by decide +kernel
theorem dX0_init_15 : decode cX0_init 15 = .ok (.newarray .int, 2) := by decide +kernel
theorem dX0_init_17 : decode cX0_init 17 = .ok (.putfield 15, 3) := by decide +kernel
theorem dX0_init_20 : decode cX0_init 20 = .ok (.aload_n 0, 1) := by decide +kernel
theorem dX0_init_21 : decode cX0_init 21 = .ok (.iconst 4, 1) := by decide +kernel
theorem dX0_init_22 : decode cX0_init 22 = .ok (.newarray .int, 2) := by decide +kernel
theorem dX0_init_24 : decode cX0_init 24 = .ok (.putfield 18, 3) := by decide +kernel
theorem dX0_init_27 : decode cX0_init 27 = .ok (.return_, 1) := by decide +kernel
theorem dX0_turn_0 : decode cX0_turn 0 = .ok (.iconst 0, 1) := by decide +kernel
theorem dX0_turn_1 : decode cX0_turn 1 = .ok (.istore_n 3, 1) := by decide +kernel
theorem dX0_turn_2 : decode cX0_turn 2 = .ok (.iload_n 3, 1) := by decide +kernel
theorem dX0_turn_3 : decode cX0_turn 3 = .ok (.aload_n 1, 1) := by decide +kernel
theorem dX0_turn_4 : decode cX0_turn 4 = .ok (.getfield 21, 3) := by decide +kernel
theorem dX0_turn_7 : decode cX0_turn 7 = .ok (.if_icmp .ge 36, 3) := by decide +kernel
theorem dX0_turn_10 : decode cX0_turn 10 = .ok (.aload_n 0, 1) := by decide +kernel
theorem dX0_turn_11 : decode cX0_turn 11 = .ok (.getfield 9, 3) := by decide +kernel
theorem dX0_turn_14 : decode cX0_turn 14 = .ok (.iload_n 3, 1) := by decide +kernel
theorem dX0_turn_15 : decode cX0_turn 15 = .ok (.aload_n 1, 1) := by decide +kernel
theorem dX0_turn_16 : decode cX0_turn 16 = .ok (.iload_n 3, 1) := by decide +kernel
theorem dX0_turn_17 : decode cX0_turn 17 = .ok (.aload_n 2, 1) := by decide +kernel
theorem dX0_turn_18 : decode cX0_turn 18 = .ok (.getfield 27, 3) := by decide +kernel
theorem dX0_turn_21 : decode cX0_turn 21 = .ok (.iload_n 3, 1) := by decide +kernel
theorem dX0_turn_22 : decode cX0_turn 22 = .ok (.iaload, 1) := by decide +kernel
theorem dX0_turn_23 : decode cX0_turn 23 = .ok (.aload_n 2, 1) := by decide +kernel
theorem dX0_turn_24 : decode cX0_turn 24 = .ok (.getfield 32, 3) := by decide +kernel
theorem dX0_turn_27 : decode cX0_turn 27 = .ok (.iload_n 3, 1) := by decide +kernel
theorem dX0_turn_28 : decode cX0_turn 28 = .ok (.iaload, 1) := by decide +kernel
theorem dX0_turn_29 : decode cX0_turn 29 = .ok (.aload_n 2, 1) := by decide +kernel
theorem dX0_turn_30 : decode cX0_turn 30 = .ok (.getfield 35, 3) := by decide +kernel
theorem dX0_turn_33 : decode cX0_turn 33 = .ok (.invokevirtual 38, 3) := by decide +kernel
theorem dX0_turn_36 : decode cX0_turn 36 = .ok (.iastore, 1) := by decide +kernel
theorem dX0_turn_37 : decode cX0_turn 37 = .ok (.iinc 3 1, 3) := by decide +kernel
theorem dX0_turn_40 : decode cX0_turn 40 = .ok (.goto (-38), 3) := by decide +kernel
theorem dX0_turn_43 : decode cX0_turn 43 = .ok (.return_, 1) := by decide +kernel
theorem dX0_show_0 : decode cX0_show 0 = .ok (.aload_n 0, 1) := by decide +kernel
theorem dX0_show_1 : decode cX0_show 1 = .ok (.iconst 0, 1) := by decide +kernel
theorem dX0_show_2 : decode cX0_show 2 = .ok (.putfield 42, 3) := by decide +kernel
theorem dX0_show_5 : decode cX0_show 5 = .ok (.aload_n 0, 1) := by decide +kernel
theorem dX0_show_6 : decode cX0_show 6 = .ok (.getfield 15, 3) := by decide +kernel
theorem dX0_show_9 : decode cX0_show 9 = .ok (.iconst 0, 1) := by decide +kernel
theorem dX0_show_10 : decode cX0_show 10 = .ok (.invokestatic 45, 3) := by decide +kernel
theorem dX0_show_13 : decode cX0_show 13 = .ok (.aload_n 0, 1) := by decide +kernel
theorem dX0_show_14 : decode cX0_show 14 = .ok (.getfield 18, 3) := by decide +kernel
theorem dX0_show_17 : decode cX0_show 17 = .ok (.iconst 0, 1) := by decide +kernel
theorem dX0_show_18 : decode cX0_show 18 = .ok (.invokestatic 45, 3) := by decide +kernel
theorem dX0_show_21 : decode cX0_show 21 = .ok (.iconst 0, 1) := by decide +kernel
theorem dX0_show_22 : decode cX0_show 22 = .ok (.istore 4, 2) := by decide +kernel
theorem dX0_show_24 : decode cX0_show 24 = .ok (.iload 4, 2) := by decide +kernel
theorem dX0_show_26 : decode cX0_show 26 = .ok (.aload_n 1, 1) := by decide +kernel
theorem dX0_show_27 : decode cX0_show 27 = .ok (.getfield 21, 3) := by decide +kernel
theorem dX0_show_30 : decode cX0_show 30 = .ok (.if_icmp .ge 82, 3) := by decide +kernel
theorem dX0_show_33 : decode cX0_show 33 = .ok (.iload_n 2, 1) := by decide +kernel
theorem dX0_show_34 : decode cX0_show 34 = .ok (.iload 4, 2) := by decide +kernel
theorem dX0_show_36 : decode cX0_show 36 = .ok (.ishr, 1) := by decide +kernel
theorem dX0_show_37 : decode cX0_show 37 = .ok (.iconst 1, 1) := by decide +kernel
theorem dX0_show_38 : decode cX0_show 38 = .ok (.iand, 1) := by decide +kernel
theorem dX0_show_39 : decode cX0_show 39 = .ok (.iconst 1, 1) := by decide +kernel
theorem dX0_show_40 : decode cX0_show 40 = .ok (.if_icmp .ne 66, 3) := by decide +kernel
theorem dX0_show_43 : decode cX0_show 43 = .ok (.aload_n 0, 1) := by decide +kernel
theorem dX0_show_44 : decode cX0_show 44 = .ok (.getfield 15, 3) := by decide +kernel
theorem dX0_show_47 : decode cX0_show 47 = .ok (.iload 4, 2) := by decide +kernel
theorem dX0_show_49 : decode cX0_show 49 = .ok (.aload_n 0, 1) := by decide +kernel
theorem dX0_show_50 : decode cX0_show 50 = .ok (.getfield 9, 3) := by decide +kernel
theorem dX0_show_53 : decode cX0_show 53 = .ok (.iload 4, 2) := by decide +kernel
theorem dX0_show_55 : decode cX0_show 55 = .ok (.iaload, 1) := by decide +kernel
theorem dX0_show_56 : decode cX0_show 56 = .ok (.aload_n 0, 1) := by decide +kernel
theorem dX0_show_57 : decode cX0_show 57 = .ok (.getfield 42, 3) := by decide +kernel
theorem dX0_show_60 : decode cX0_show 60 = .ok (.iconst (-1), 1) := by decide +kernel
theorem dX0_show_61 : decode cX0_show 61 = .ok (.ixor, 1) := by decide +kernel
theorem dX0_show_62 : decode cX0_show 62 = .ok (.iand, 1) := by decide +kernel
theorem dX0_show_63 : decode cX0_show 63 = .ok (.iastore, 1) := by decide +kernel
theorem dX0_show_64 : decode cX0_show 64 = .ok (.aload_n 0, 1) := by decide +kernel
theorem dX0_show_65 : decode cX0_show 65 = .ok (.dup, 1) := by decide +kernel
theorem dX0_show_66 : decode cX0_show 66 = .ok (.getfield 42, 3) := by decide +kernel
theorem dX0_show_69 : decode cX0_show 69 = .ok (.aload_n 0, 1) := by decide +kernel
theorem dX0_show_70 : decode cX0_show 70 = .ok (.getfield 15, 3) := by decide +kernel
theorem dX0_show_73 : decode cX0_show 73 = .ok (.iload 4, 2) := by decide +kernel
theorem dX0_show_75 : decode cX0_show 75 = .ok (.iaload, 1) := by decide +kernel
theorem dX0_show_76 : decode cX0_show 76 = .ok (.ior, 1) := by decide +kernel
theorem dX0_show_77 : decode cX0_show 77 = .ok (.putfield 42, 3) := by decide +kernel
theorem dX0_show_80 : decode cX0_show 80 = .ok (.aload_n 0, 1) := by decide +kernel
theorem dX0_show_81 : decode cX0_show 81 = .ok (.getfield 18, 3) := by decide +kernel
theorem dX0_show_84 : decode cX0_show 84 = .ok (.aload_n 1, 1) := by decide +kernel
theorem dX0_show_85 : decode cX0_show 85 = .ok (.getfield 51, 3) := by decide +kernel
theorem dX0_show_88 : decode cX0_show 88 = .ok (.iload 4, 2) := by decide +kernel
theorem dX0_show_90 : decode cX0_show 90 = .ok (.iaload, 1) := by decide +kernel
theorem dX0_show_91 : decode cX0_show 91 = .ok (.dup2, 1) := by decide +kernel
theorem dX0_show_92 : decode cX0_show 92 = .ok (.iaload, 1) := by decide +kernel
theorem dX0_show_93 : decode cX0_show 93 = .ok (.aload_n 0, 1) := by decide +kernel
theorem dX0_show_94 : decode cX0_show 94 = .ok (.getfield 15, 3) := by decide +kernel
theorem dX0_show_97 : decode cX0_show 97 = .ok (.iload 4, 2) := by decide +kernel
theorem dX0_show_99 : decode cX0_show 99 = .ok (.iaload, 1) := by decide +kernel
theorem dX0_show_100 : decode cX0_show 100 = .ok (.iload_n 3, 1) := by decide +kernel
theorem dX0_show_101 : decode cX0_show 101 = .ok (.iconst (-1), 1) := by decide +kernel
theorem dX0_show_102 : decode cX0_show 102 = .ok (.ixor, 1) := by decide +kernel
theorem dX0_show_103 : decode cX0_show 103 = .ok (.iand, 1) := by decide +kernel
theorem dX0_show_104 : decode cX0_show 104 = .ok (.ior, 1) := by decide +kernel
theorem dX0_show_105 : decode cX0_show 105 = .ok (.iastore, 1) := by decide +kernel
theorem dX0_show_106 : decode cX0_show 106 = .ok (.iinc 4 1, 3) := by decide +kernel
theorem dX0_show_109 : decode cX0_show 109 = .ok (.goto (-85), 3) := by decide +kernel
theorem dX0_show_112 : decode cX0_show 112 = .ok (.return_, 1) := by decide +kernel
theorem dX0_colourAt_0 : decode cX0_colourAt 0 = .ok (.iconst 0, 1) := by decide +kernel
theorem dX0_colourAt_1 : decode cX0_colourAt 1 = .ok (.istore_n 2, 1) := by decide +kernel
theorem dX0_colourAt_2 : decode cX0_colourAt 2 = .ok (.iload_n 2, 1) := by decide +kernel
theorem dX0_colourAt_3 : decode cX0_colourAt 3 = .ok (.iconst 4, 1) := by decide +kernel
theorem dX0_colourAt_4 : decode cX0_colourAt 4 = .ok (.if_icmp .ge 25, 3) := by decide +kernel
theorem dX0_colourAt_7 : decode cX0_colourAt 7 = .ok (.aload_n 0, 1) := by decide +kernel
theorem dX0_colourAt_8 : decode cX0_colourAt 8 = .ok (.getfield 18, 3) := by decide +kernel
theorem dX0_colourAt_11 : decode cX0_colourAt 11 = .ok (.iload_n 2, 1) := by decide +kernel
theorem dX0_colourAt_12 : decode cX0_colourAt 12 = .ok (.iaload, 1) := by decide +kernel
theorem dX0_colourAt_13 : decode cX0_colourAt 13 = .ok (.iload_n 1, 1) := by decide +kernel
theorem dX0_colourAt_14 : decode cX0_colourAt 14 = .ok (.ishr, 1) := by decide +kernel
theorem dX0_colourAt_15 : decode cX0_colourAt 15 = .ok (.iconst 1, 1) := by decide +kernel
theorem dX0_colourAt_16 : decode cX0_colourAt 16 = .ok (.iand, 1) := by decide +kernel
theorem dX0_colourAt_17 : decode cX0_colourAt 17 = .ok (.iconst 1, 1) := by decide +kernel
theorem dX0_colourAt_18 : decode cX0_colourAt 18 = .ok (.if_icmp .ne 5, 3) := by decide +kernel
theorem dX0_colourAt_21 : decode cX0_colourAt 21 = .ok (.iload_n 2, 1) := by decide +kernel
theorem dX0_colourAt_22 : decode cX0_colourAt 22 = .ok (.ireturn, 1) := by decide +kernel
theorem dX0_colourAt_23 : decode cX0_colourAt 23 = .ok (.iinc 2 1, 3) := by decide +kernel
theorem dX0_colourAt_26 : decode cX0_colourAt 26 = .ok (.goto (-24), 3) := by decide +kernel
theorem dX0_colourAt_29 : decode cX0_colourAt 29 = .ok (.iconst 4, 1) := by decide +kernel
theorem dX0_colourAt_30 : decode cX0_colourAt 30 = .ok (.ireturn, 1) := by decide +kernel
theorem dX0_ownerAt_0 : decode cX0_ownerAt 0 = .ok (.iconst 0, 1) := by decide +kernel
theorem dX0_ownerAt_1 : decode cX0_ownerAt 1 = .ok (.istore_n 2, 1) := by decide +kernel
theorem dX0_ownerAt_2 : decode cX0_ownerAt 2 = .ok (.iload_n 2, 1) := by decide +kernel
theorem dX0_ownerAt_3 : decode cX0_ownerAt 3 = .ok (.bipush 6, 2) := by decide +kernel
theorem dX0_ownerAt_5 : decode cX0_ownerAt 5 = .ok (.if_icmp .ge 25, 3) := by decide +kernel
theorem dX0_ownerAt_8 : decode cX0_ownerAt 8 = .ok (.aload_n 0, 1) := by decide +kernel
theorem dX0_ownerAt_9 : decode cX0_ownerAt 9 = .ok (.getfield 15, 3) := by decide +kernel
theorem dX0_ownerAt_12 : decode cX0_ownerAt 12 = .ok (.iload_n 2, 1) := by decide +kernel
theorem dX0_ownerAt_13 : decode cX0_ownerAt 13 = .ok (.iaload, 1) := by decide +kernel
theorem dX0_ownerAt_14 : decode cX0_ownerAt 14 = .ok (.iload_n 1, 1) := by decide +kernel
theorem dX0_ownerAt_15 : decode cX0_ownerAt 15 = .ok (.ishr, 1) := by decide +kernel
theorem dX0_ownerAt_16 : decode cX0_ownerAt 16 = .ok (.iconst 1, 1) := by decide +kernel
theorem dX0_ownerAt_17 : decode cX0_ownerAt 17 = .ok (.iand, 1) := by decide +kernel
theorem dX0_ownerAt_18 : decode cX0_ownerAt 18 = .ok (.iconst 1, 1) := by decide +kernel
theorem dX0_ownerAt_19 : decode cX0_ownerAt 19 = .ok (.if_icmp .ne 5, 3) := by decide +kernel
theorem dX0_ownerAt_22 : decode cX0_ownerAt 22 = .ok (.iload_n 2, 1) := by decide +kernel
theorem dX0_ownerAt_23 : decode cX0_ownerAt 23 = .ok (.ireturn, 1) := by decide +kernel
theorem dX0_ownerAt_24 : decode cX0_ownerAt 24 = .ok (.iinc 2 1, 3) := by decide +kernel
theorem dX0_ownerAt_27 : decode cX0_ownerAt 27 = .ok (.goto (-25), 3) := by decide +kernel
theorem dX0_ownerAt_30 : decode cX0_ownerAt 30 = .ok (.bipush (-4), 2) := by decide +kernel
theorem dX0_ownerAt_32 : decode cX0_ownerAt 32 = .ok (.ireturn, 1) := by decide +kernel
theorem dX0_firstSign_0 : decode cX0_firstSign 0 = .ok (.iconst 0, 1) := by decide +kernel
theorem dX0_firstSign_1 : decode cX0_firstSign 1 = .ok (.istore_n 3, 1) := by decide +kernel
theorem dX0_firstSign_2 : decode cX0_firstSign 2 = .ok (.iload_n 3, 1) := by decide +kernel
theorem dX0_firstSign_3 : decode cX0_firstSign 3 = .ok (.iload_n 2, 1) := by decide +kernel
theorem dX0_firstSign_4 : decode cX0_firstSign 4 = .ok (.invokestatic 54, 3) := by decide +kernel
theorem dX0_firstSign_7 : decode cX0_firstSign 7 = .ok (.if_icmp .ge 35, 3) := by decide +kernel
theorem dX0_firstSign_10 : decode cX0_firstSign 10 = .ok (.aload_n 0, 1) := by decide +kernel
theorem dX0_firstSign_11 : decode cX0_firstSign 11 = .ok (.getfield 18, 3) := by decide +kernel
theorem dX0_firstSign_14 : decode cX0_firstSign 14 = .ok (.iload_n 3, 1) := by decide +kernel
theorem dX0_firstSign_15 : decode cX0_firstSign 15 = .ok (.iaload, 1) := by decide +kernel
theorem dX0_firstSign_16 : decode cX0_firstSign 16 = .ok (.iload_n 1, 1) := by decide +kernel
theorem dX0_firstSign_17 : decode cX0_firstSign 17 = .ok (.iand, 1) := by decide +kernel
theorem dX0_firstSign_18 : decode cX0_firstSign 18 = .ok (.ifCond .eq 18, 3) := by decide +kernel
theorem dX0_firstSign_21 : decode cX0_firstSign 21 = .ok (.aload_n 0, 1) := by decide +kernel
theorem dX0_firstSign_22 : decode cX0_firstSign 22 = .ok (.getfield 18, 3) := by decide +kernel
theorem dX0_firstSign_25 : decode cX0_firstSign 25 = .ok (.iload_n 3, 1) := by decide +kernel
theorem dX0_firstSign_26 : decode cX0_firstSign 26 = .ok (.iaload, 1) := by decide +kernel
theorem dX0_firstSign_27 : decode cX0_firstSign 27 = .ok (.iload_n 1, 1) := by decide +kernel
theorem dX0_firstSign_28 : decode cX0_firstSign 28 = .ok (.iconst (-1), 1) := by decide +kernel
theorem dX0_firstSign_29 : decode cX0_firstSign 29 = .ok (.ixor, 1) := by decide +kernel
theorem dX0_firstSign_30 : decode cX0_firstSign 30 = .ok (.iand, 1) := by decide +kernel
theorem dX0_firstSign_31 : decode cX0_firstSign 31 = .ok (.ifCond .ne 5, 3) := by decide +kernel
theorem dX0_firstSign_34 : decode cX0_firstSign 34 = .ok (.iload_n 3, 1) := by decide +kernel
theorem dX0_firstSign_35 : decode cX0_firstSign 35 = .ok (.ireturn, 1) := by decide +kernel
theorem dX0_firstSign_36 : decode cX0_firstSign 36 = .ok (.iinc 3 1, 3) := by decide +kernel
theorem dX0_firstSign_39 : decode cX0_firstSign 39 = .ok (.goto (-37), 3) := by decide +kernel
theorem dX0_firstSign_42 : decode cX0_firstSign 42 = .ok (.bipush (-4), 2) := by decide +kernel
theorem dX0_firstSign_44 : decode cX0_firstSign 44 = .ok (.ireturn, 1) := by decide +kernel
theorem dX0_sureShips_0 : decode cX0_sureShips 0 = .ok (.iconst 0, 1) := by decide +kernel
theorem dX0_sureShips_1 : decode cX0_sureShips 1 = .ok (.istore_n 3, 1) := by decide +kernel
theorem dX0_sureShips_2 : decode cX0_sureShips 2 = .ok (.iconst 0, 1) := by decide +kernel
theorem dX0_sureShips_3 : decode cX0_sureShips 3 = .ok (.istore 4, 2) := by decide +kernel
theorem dX0_sureShips_5 : decode cX0_sureShips 5 = .ok (.iload 4, 2) := by decide +kernel
theorem dX0_sureShips_7 : decode cX0_sureShips 7 = .ok (.aload_n 1, 1) := by decide +kernel
theorem dX0_sureShips_8 : decode cX0_sureShips 8 = .ok (.getfield 58, 3) := by decide +kernel
theorem dX0_sureShips_11 : decode cX0_sureShips 11 = .ok (.if_icmp .ge 33, 3) := by decide +kernel
theorem dX0_sureShips_14 : decode cX0_sureShips 14 = .ok (.aload_n 0, 1) := by decide +kernel
theorem dX0_sureShips_15 : decode cX0_sureShips 15 = .ok (.aload_n 1, 1) := by decide +kernel
theorem dX0_sureShips_16 : decode cX0_sureShips 16 = .ok (.getfield 61, 3) := by decide +kernel
theorem dX0_sureShips_19 : decode cX0_sureShips 19 = .ok (.iload 4, 2) := by decide +kernel
theorem dX0_sureShips_21 : decode cX0_sureShips 21 = .ok (.iaload, 1) := by decide +kernel
theorem dX0_sureShips_22 : decode cX0_sureShips 22 = .ok (.iload_n 2, 1) := by decide +kernel
theorem dX0_sureShips_23 : decode cX0_sureShips 23 = .ok (.invokevirtual 64, 3) := by decide +kernel
theorem dX0_sureShips_26 : decode cX0_sureShips 26 = .ok (.bipush (-4), 2) := by decide +kernel
theorem dX0_sureShips_28 : decode cX0_sureShips 28 = .ok (.if_icmp .eq 10, 3) := by decide +kernel
theorem dX0_sureShips_31 : decode cX0_sureShips 31 = .ok (.iload_n 3, 1) := by decide +kernel
theorem dX0_sureShips_32 : decode cX0_sureShips 32 = .ok (.iconst 1, 1) := by decide +kernel
theorem dX0_sureShips_33 : decode cX0_sureShips 33 = .ok (.iload 4, 2) := by decide +kernel
theorem dX0_sureShips_35 : decode cX0_sureShips 35 = .ok (.ishl, 1) := by decide +kernel
theorem dX0_sureShips_36 : decode cX0_sureShips 36 = .ok (.ior, 1) := by decide +kernel
theorem dX0_sureShips_37 : decode cX0_sureShips 37 = .ok (.istore_n 3, 1) := by decide +kernel
theorem dX0_sureShips_38 : decode cX0_sureShips 38 = .ok (.iinc 4 1, 3) := by decide +kernel
theorem dX0_sureShips_41 : decode cX0_sureShips 41 = .ok (.goto (-36), 3) := by decide +kernel
theorem dX0_sureShips_44 : decode cX0_sureShips 44 = .ok (.iload_n 3, 1) := by decide +kernel
theorem dX0_sureShips_45 : decode cX0_sureShips 45 = .ok (.ireturn, 1) := by decide +kernel
theorem dX0_sureInAnyFog_0 : decode cX0_sureInAnyFog 0 = .ok (.aload_n 0, 1) := by decide +kernel
theorem dX0_sureInAnyFog_1 : decode cX0_sureInAnyFog 1 = .ok (.aload_n 1, 1) := by decide +kernel
theorem dX0_sureInAnyFog_2 : decode cX0_sureInAnyFog 2 = .ok (.iconst 3, 1) := by decide +kernel
theorem dX0_sureInAnyFog_3 : decode cX0_sureInAnyFog 3 = .ok (.invokevirtual 68, 3) := by decide +kernel
theorem dX0_sureInAnyFog_6 : decode cX0_sureInAnyFog 6 = .ok (.ireturn, 1) := by decide +kernel
theorem dX0_unsureInAllFogs_0 : decode cX0_unsureInAllFogs 0 = .ok (.iconst 0, 1) := by decide +kernel
theorem dX0_unsureInAllFogs_1 : decode cX0_unsureInAllFogs 1 = .ok (.istore_n 2, 1) := by decide +kernel
theorem dX0_unsureInAllFogs_2 : decode cX0_unsureInAllFogs 2 = .ok (.iconst 0, 1) := by decide +kernel
theorem dX0_unsureInAllFogs_3 : decode cX0_unsureInAllFogs 3 = .ok (.istore_n 3, 1) := by decide +kernel
theorem dX0_unsureInAllFogs_4 : decode cX0_unsureInAllFogs 4 = .ok (.iload_n 3, 1) := by decide +kernel
theorem dX0_unsureInAllFogs_5 : decode cX0_unsureInAllFogs 5 = .ok (.iconst 4, 1) := by decide +kernel
theorem dX0_unsureInAllFogs_6 : decode cX0_unsureInAllFogs 6 = .ok (.if_icmp .ge 26, 3) := by decide +kernel
theorem dX0_unsureInAllFogs_9 : decode cX0_unsureInAllFogs 9 = .ok (.iload_n 2, 1) := by decide +kernel
theorem dX0_unsureInAllFogs_10 : decode cX0_unsureInAllFogs 10 = .ok (.aload_n 1, 1) := by decide +kernel
theorem dX0_unsureInAllFogs_11 : decode cX0_unsureInAllFogs 11 = .ok (.getfield 58, 3) := by decide +kernel
theorem dX0_unsureInAllFogs_14 : decode cX0_unsureInAllFogs 14 = .ok (.aload_n 0, 1) := by decide +kernel
theorem dX0_unsureInAllFogs_15 : decode cX0_unsureInAllFogs 15 = .ok (.aload_n 1, 1) := by decide +kernel
theorem dX0_unsureInAllFogs_16 : decode cX0_unsureInAllFogs 16 = .ok (.iload_n 3, 1) := by decide +kernel
theorem dX0_unsureInAllFogs_17 : decode cX0_unsureInAllFogs 17 = .ok (.invokevirtual 68, 3) := by decide +kernel
theorem dX0_unsureInAllFogs_20 : decode cX0_unsureInAllFogs 20 = .ok (.invokestatic 72, 3) := by decide +kernel
theorem dX0_unsureInAllFogs_23 : decode cX0_unsureInAllFogs 23 = .ok (.isub, 1) := by decide +kernel
theorem dX0_unsureInAllFogs_24 : decode cX0_unsureInAllFogs 24 = .ok (.iadd, 1) := by decide +kernel
theorem dX0_unsureInAllFogs_25 : decode cX0_unsureInAllFogs 25 = .ok (.istore_n 2, 1) := by decide +kernel
theorem dX0_unsureInAllFogs_26 : decode cX0_unsureInAllFogs 26 = .ok (.iinc 3 1, 3) := by decide +kernel
theorem dX0_unsureInAllFogs_29 : decode cX0_unsureInAllFogs 29 = .ok (.goto (-25), 3) := by decide +kernel
theorem dX0_unsureInAllFogs_32 : decode cX0_unsureInAllFogs 32 = .ok (.iload_n 2, 1) := by decide +kernel
theorem dX0_unsureInAllFogs_33 : decode cX0_unsureInAllFogs 33 = .ok (.ireturn, 1) := by decide +kernel
theorem dX1_init_0 : decode cX1_init 0 = .ok (.aload_n 0, 1) := by decide +kernel
theorem dX1_init_1 : decode cX1_init 1 = .ok (.invokespecial 3, 3) := by decide +kernel
theorem dX1_init_4 : decode cX1_init 4 = .ok (.aload_n 0, 1) := by decide +kernel
theorem dX1_init_5 : decode cX1_init 5 = .ok (.bipush 6, 2) := by decide +kernel
theorem dX1_init_7 : decode cX1_init 7 = .ok (.newarray .int, 2) := by decide +kernel
theorem dX1_init_9 : decode cX1_init 9 = .ok (.putfield 9, 3) := by decide +kernel
theorem dX1_init_12 : decode cX1_init 12 = .ok (.aload_n 0, 1) := by decide +kernel
theorem dX1_init_13 : decode cX1_init 13 = .ok (.bipush 6, 2) := by decide +kernel
theorem dX1_init_15 : decode cX1_init 15 = .ok (.newarray .int, 2) := by decide +kernel
theorem dX1_init_17 : decode cX1_init 17 = .ok (.putfield 15, 3) := by decide +kernel
theorem dX1_init_20 : decode cX1_init 20 = .ok (.aload_n 0, 1) := by decide +kernel
theorem dX1_init_21 : decode cX1_init 21 = .ok (.bipush 6, 2) := by decide +kernel
theorem dX1_init_23 : decode cX1_init 23 = .ok (.newarray .int, 2) := by decide +kernel
theorem dX1_init_25 : decode cX1_init 25 = .ok (.putfield 18, 3) := by decide +kernel
theorem dX1_init_28 : decode cX1_init 28 = .ok (.aload_n 0, 1) := by decide +kernel
theorem dX1_init_29 : decode cX1_init 29 = .ok (.bipush 6, 2) := by decide +kernel
theorem dX1_init_31 : decode cX1_init 31 = .ok (.newarray .int, 2) := by decide +kernel
theorem dX1_init_33 : decode cX1_init 33 = .ok (.putfield 21, 3) := by decide +kernel
theorem dX1_init_36 : decode cX1_init 36 = .ok (.aload_n 0, 1) := by decide +kernel
theorem dX1_init_37 : decode cX1_init 37 = .ok (.bipush 6, 2) := by decide +kernel
theorem dX1_init_39 : decode cX1_init 39 = .ok (.newarray .int, 2) := by decide +kernel
theorem dX1_init_41 : decode cX1_init 41 = .ok (.putfield 24, 3) := by decide +kernel
theorem dX1_init_44 : decode cX1_init 44 = .ok (.aload_n 0, 1) := by decide +kernel
theorem dX1_init_45 : decode cX1_init 45 = .ok (.iconst 5, 1) := by decide +kernel
theorem dX1_init_46 : decode cX1_init 46 = .ok (.newarray .int, 2) := by decide +kernel
theorem dX1_init_48 : decode cX1_init 48 = .ok (.putfield 27, 3) := by decide +kernel
theorem dX1_init_51 : decode cX1_init 51 = .ok (.aload_n 0, 1) := by decide +kernel
theorem dX1_init_52 : decode cX1_init 52 = .ok (.iconst 5, 1) := by decide +kernel
theorem dX1_init_53 : decode cX1_init 53 = .ok (.newarray .int, 2) := by decide +kernel
theorem dX1_init_55 : decode cX1_init 55 = .ok (.putfield 30, 3) := by decide +kernel
theorem dX1_init_58 : decode cX1_init 58 = .ok (.aload_n 0, 1) := by decide +kernel
theorem dX1_init_59 : decode cX1_init 59 = .ok (.iconst 5, 1) := by decide +kernel
theorem dX1_init_60 : decode cX1_init 60 = .ok (.newarray .int, 2) := by decide +kernel
theorem dX1_init_62 : decode cX1_init 62 = .ok (.putfield 33, 3) := by decide +kernel
theorem dX1_init_65 : decode cX1_init 65 = .ok (.aload_n 0, 1) := by decide +kernel
theorem dX1_init_66 : decode cX1_init 66 = .ok (.iconst 4, 1) := by decide +kernel
theorem dX1_init_67 : decode cX1_init 67 = .ok (.newarray .int, 2) := by decide +kernel
theorem dX1_init_69 : decode cX1_init 69 = .ok (.putfield 36, 3) := by decide +kernel
theorem dX1_init_72 : decode cX1_init 72 = .ok (.return_, 1) := by decide +kernel
theorem dX1_clear_0 : decode cX1_clear 0 = .ok (.aload_n 0, 1) := by decide +kernel
theorem dX1_clear_1 : decode cX1_clear 1 = .ok (.iconst 0, 1) := by decide +kernel
theorem dX1_clear_2 : decode cX1_clear 2 = .ok (.putfield 39, 3) := by decide +kernel
theorem dX1_clear_5 : decode cX1_clear 5 = .ok (.aload_n 0, 1) := by decide +kernel
theorem dX1_clear_6 : decode cX1_clear 6 = .ok (.iconst 0, 1) := by decide +kernel
theorem dX1_clear_7 : decode cX1_clear 7 = .ok (.putfield 43, 3) := by decide +kernel
theorem dX1_clear_10 : decode cX1_clear 10 = .ok (.aload_n 0, 1) := by decide +kernel
theorem dX1_clear_11 : decode cX1_clear 11 = .ok (.iconst 4, 1) := by decide +kernel
theorem dX1_clear_12 : decode cX1_clear 12 = .ok (.iconst 3, 1) := by decide +kernel
theorem dX1_clear_13 : decode cX1_clear 13 = .ok (.iconst 2, 1) := by decide +kernel
theorem dX1_clear_14 : decode cX1_clear 14 = .ok (.invokevirtual 46, 3) := by decide +kernel
theorem dX1_clear_17 : decode cX1_clear 17 = .ok (.pop, 1) := by decide +kernel
theorem dX1_clear_18 : decode cX1_clear 18 = .ok (.aload_n 0, 1) := by decide +kernel
theorem dX1_clear_19 : decode cX1_clear 19 = .ok (.bipush 20, 2) := by decide +kernel
theorem dX1_clear_21 : decode cX1_clear 21 = .ok (.putfield 50, 3) := by decide +kernel
theorem dX1_clear_24 : decode cX1_clear 24 = .ok (.return_, 1) := by decide +kernel
theorem dX1_everybody_0 : decode cX1_everybody 0 = .ok (.iconst 1, 1) := by decide +kernel
theorem dX1_everybody_1 : decode cX1_everybody 1 = .ok (.aload_n 0, 1) := by decide +kernel
theorem dX1_everybody_2 : decode cX1_everybody 2 = .ok (.getfield 39, 3) := by decide +kernel
theorem dX1_everybody_5 : decode cX1_everybody 5 = .ok (.ishl, 1) := by decide +kernel
theorem dX1_everybody_6 : decode cX1_everybody 6 = .ok (.iconst 1, 1) := by decide +kernel
theorem dX1_everybody_7 : decode cX1_everybody 7 = .ok (.isub, 1) := by decide +kernel
theorem dX1_everybody_8 : decode cX1_everybody 8 = .ok (.ireturn, 1) := by decide +kernel
theorem dX1_allShips_0 : decode cX1_allShips 0 = .ok (.iconst 1, 1) := by decide +kernel
theorem dX1_allShips_1 : decode cX1_allShips 1 = .ok (.aload_n 0, 1) := by decide +kernel
theorem dX1_allShips_2 : decode cX1_allShips 2 = .ok (.getfield 43, 3) := by decide +kernel
theorem dX1_allShips_5 : decode cX1_allShips 5 = .ok (.ishl, 1) := by decide +kernel
theorem dX1_allShips_6 : decode cX1_allShips 6 = .ok (.iconst 1, 1) := by decide +kernel
theorem dX1_allShips_7 : decode cX1_allShips 7 = .ok (.isub, 1) := by decide +kernel
theorem dX1_allShips_8 : decode cX1_allShips 8 = .ok (.ireturn, 1) := by decide +kernel
theorem dX1_accept_0 : decode cX1_accept 0 = .ok (.iload_n 1, 1) := by decide +kernel
theorem dX1_accept_1 : decode cX1_accept 1 = .ok (.lookupswitch 82 #[(98, 74), (102, 60), (115, 49), (116, 43)], 43) := by decide +kernel
theorem dX1_accept_44 : decode cX1_accept 44 = .ok (.aload_n 0, 1) := by decide +kernel
theorem dX1_accept_45 : decode cX1_accept 45 = .ok (.aload_n 2, 1) := by decide +kernel
theorem dX1_accept_46 : decode cX1_accept 46 = .ok (.invokevirtual 53, 3) := by decide +kernel
theorem dX1_accept_49 : decode cX1_accept 49 = .ok (.ireturn, 1) := by decide +kernel
theorem dX1_accept_50 : decode cX1_accept 50 = .ok (.aload_n 0, 1) := by decide +kernel
theorem dX1_accept_51 : decode cX1_accept 51 = .ok (.aload_n 2, 1) := by decide +kernel
theorem dX1_accept_52 : decode cX1_accept 52 = .ok (.iconst 0, 1) := by decide +kernel
theorem dX1_accept_53 : decode cX1_accept 53 = .ok (.iaload, 1) := by decide +kernel
theorem dX1_accept_54 : decode cX1_accept 54 = .ok (.aload_n 2, 1) := by decide +kernel
theorem dX1_accept_55 : decode cX1_accept 55 = .ok (.iconst 1, 1) := by decide +kernel
theorem dX1_accept_56 : decode cX1_accept 56 = .ok (.iaload, 1) := by decide +kernel
theorem dX1_accept_57 : decode cX1_accept 57 = .ok (.invokevirtual 57, 3) := by decide +kernel
theorem dX1_accept_60 : decode cX1_accept 60 = .ok (.ireturn, 1) := by decide +kernel
theorem dX1_accept_61 : decode cX1_accept 61 = .ok (.aload_n 0, 1) := by decide +kernel
theorem dX1_accept_62 : decode cX1_accept 62 = .ok (.aload_n 2, 1) := by decide +kernel
theorem dX1_accept_63 : decode cX1_accept 63 = .ok (.iconst 0, 1) := by decide +kernel
theorem dX1_accept_64 : decode cX1_accept 64 = .ok (.iaload, 1) := by decide +kernel
theorem dX1_accept_65 : decode cX1_accept 65 = .ok (.aload_n 2, 1) := by decide +kernel
theorem dX1_accept_66 : decode cX1_accept 66 = .ok (.iconst 1, 1) := by decide +kernel
theorem dX1_accept_67 : decode cX1_accept 67 = .ok (.iaload, 1) := by decide +kernel
theorem dX1_accept_68 : decode cX1_accept 68 = .ok (.aload_n 2, 1) := by decide +kernel
theorem dX1_accept_69 : decode cX1_accept 69 = .ok (.iconst 2, 1) := by decide +kernel
theorem dX1_accept_70 : decode cX1_accept 70 = .ok (.iaload, 1) := by decide +kernel
theorem dX1_accept_71 : decode cX1_accept 71 = .ok (.invokevirtual 46, 3) := by decide +kernel
theorem dX1_accept_74 : decode cX1_accept 74 = .ok (.ireturn, 1) := by decide +kernel
theorem dX1_accept_75 : decode cX1_accept 75 = .ok (.aload_n 0, 1) := by decide +kernel
theorem dX1_accept_76 : decode cX1_accept 76 = .ok (.aload_n 2, 1) := by decide +kernel
theorem dX1_accept_77 : decode cX1_accept 77 = .ok (.iconst 0, 1) := by decide +kernel
theorem dX1_accept_78 : decode cX1_accept 78 = .ok (.iaload, 1) := by decide +kernel
theorem dX1_accept_79 : decode cX1_accept 79 = .ok (.invokevirtual 61, 3) := by decide +kernel
theorem dX1_accept_82 : decode cX1_accept 82 = .ok (.ireturn, 1) := by decide +kernel
theorem dX1_accept_83 : decode cX1_accept 83 = .ok (.iconst 0, 1) := by decide +kernel
theorem dX1_accept_84 : decode cX1_accept 84 = .ok (.ireturn, 1) := by decide +kernel
theorem dX1_isPlace_0 : decode cX1_isPlace 0 = .ok (.iload_n 0, 1) := by decide +kernel
theorem dX1_isPlace_1 : decode cX1_isPlace 1 = .ok (.iconst 0, 1) := by decide +kernel
theorem dX1_isPlace_2 : decode cX1_isPlace 2 = .ok (.bipush 23, 2) := by decide +kernel
theorem dX1_isPlace_4 : decode cX1_isPlace 4 = .ok (.invokestatic 65, 3) := by decide +kernel
theorem dX1_isPlace_7 : decode cX1_isPlace 7 = .ok (.ifCond .eq 17, 3) := by decide +kernel
theorem dX1_isPlace_10 : decode cX1_isPlace 10 = .ok (.iload_n 1, 1) := by decide +kernel
theorem dX1_isPlace_11 : decode cX1_isPlace 11 = .ok (.iconst 1, 1) := by decide +kernel
theorem dX1_isPlace_12 : decode cX1_isPlace 12 = .ok (.bipush 12, 2) := by decide +kernel
theorem dX1_isPlace_14 : decode cX1_isPlace 14 = .ok (.invokestatic 65, 3) := by decide +kernel
theorem dX1_isPlace_17 : decode cX1_isPlace 17 = .ok (.ifCond .eq 7, 3) := by decide +kernel
theorem dX1_isPlace_20 : decode cX1_isPlace 20 = .ok (.iconst 1, 1) := by decide +kernel
theorem dX1_isPlace_21 : decode cX1_isPlace 21 = .ok (.goto 4, 3) := by decide +kernel
theorem dX1_isPlace_24 : decode cX1_isPlace 24 = .ok (.iconst 0, 1) := by decide +kernel
theorem dX1_isPlace_25 : decode cX1_isPlace 25 = .ok (.ireturn, 1) := by decide +kernel
theorem dX1_addTenant_0 : decode cX1_addTenant 0 = .ok (.aload_n 0, 1) := by decide +kernel
theorem dX1_addTenant_1 : decode cX1_addTenant 1 = .ok (.getfield 39, 3) := by decide +kernel
theorem dX1_addTenant_4 : decode cX1_addTenant 4 = .ok (.bipush 6, 2) := by decide +kernel
theorem dX1_addTenant_6 : decode cX1_addTenant 6 = .ok (.if_icmp .ge 49, 3) := by decide +kernel
theorem dX1_addTenant_9 : decode cX1_addTenant 9 = .ok (.aload_n 1, 1) := by decide +kernel
theorem dX1_addTenant_10 : decode cX1_addTenant 10 = .ok (.iconst 0, 1) := by decide +kernel
theorem dX1_addTenant_11 : decode cX1_addTenant 11 = .ok (.iaload, 1) := by decide +kernel
theorem dX1_addTenant_12 : decode cX1_addTenant 12 = .ok (.iconst 0, 1) := by decide +kernel
theorem dX1_addTenant_13 : decode cX1_addTenant 13 = .ok (.iconst 3, 1) := by decide +kernel
theorem dX1_addTenant_14 : decode cX1_addTenant 14 = .ok (.invokestatic 65, 3) := by decide +kernel
theorem dX1_addTenant_17 : decode cX1_addTenant 17 = .ok (.ifCond .eq 38, 3) := by decide +kernel
theorem dX1_addTenant_20 : decode cX1_addTenant 20 = .ok (.aload_n 1, 1) := by decide +kernel
theorem dX1_addTenant_21 : decode cX1_addTenant 21 = .ok (.iconst 1, 1) := by decide +kernel
theorem dX1_addTenant_22 : decode cX1_addTenant 22 = .ok (.iaload, 1) := by decide +kernel
theorem dX1_addTenant_23 : decode cX1_addTenant 23 = .ok (.aload_n 1, 1) := by decide +kernel
theorem dX1_addTenant_24 : decode cX1_addTenant 24 = .ok (.iconst 2, 1) := by decide +kernel
theorem dX1_addTenant_25 : decode cX1_addTenant 25 = .ok (.iaload, 1) := by decide +kernel
theorem dX1_addTenant_26 : decode cX1_addTenant 26 = .ok (.invokestatic 68, 3) := by decide +kernel
theorem dX1_addTenant_29 : decode cX1_addTenant 29 = .ok (.ifCond .eq 26, 3) := by decide +kernel
theorem dX1_addTenant_32 : decode cX1_addTenant 32 = .ok (.aload_n 1, 1) := by decide +kernel
theorem dX1_addTenant_33 : decode cX1_addTenant 33 = .ok (.iconst 3, 1) := by decide +kernel
theorem dX1_addTenant_34 : decode cX1_addTenant 34 = .ok (.iaload, 1) := by decide +kernel
theorem dX1_addTenant_35 : decode cX1_addTenant 35 = .ok (.iconst 0, 1) := by decide +kernel
theorem dX1_addTenant_36 : decode cX1_addTenant 36 = .ok (.bipush 20, 2) := by decide +kernel
theorem dX1_addTenant_38 : decode cX1_addTenant 38 = .ok (.invokestatic 65, 3) := by decide +kernel
theorem dX1_addTenant_41 : decode cX1_addTenant 41 = .ok (.ifCond .eq 14, 3) := by decide +kernel
theorem dX1_addTenant_44 : decode cX1_addTenant 44 = .ok (.aload_n 1, 1) := by decide +kernel
theorem dX1_addTenant_45 : decode cX1_addTenant 45 = .ok (.iconst 4, 1) := by decide +kernel
theorem dX1_addTenant_46 : decode cX1_addTenant 46 = .ok (.iaload, 1) := by decide +kernel
theorem dX1_addTenant_47 : decode cX1_addTenant 47 = .ok (.iconst 0, 1) := by decide +kernel
theorem dX1_addTenant_48 : decode cX1_addTenant 48 = .ok (.iconst 3, 1) := by decide +kernel
theorem dX1_addTenant_49 : decode cX1_addTenant 49 = .ok (.invokestatic 65, 3) := by decide +kernel
theorem dX1_addTenant_52 : decode cX1_addTenant 52 = .ok (.ifCond .ne 5, 3) := by decide +kernel
theorem dX1_addTenant_55 : decode cX1_addTenant 55 = .ok (.iconst 0, 1) := by decide +kernel
theorem dX1_addTenant_56 : decode cX1_addTenant 56 = .ok (.ireturn, 1) := by decide +kernel
theorem dX1_addTenant_57 : decode cX1_addTenant 57 = .ok (.aload_n 0, 1) := by decide +kernel
theorem dX1_addTenant_58 : decode cX1_addTenant 58 = .ok (.getfield 9, 3) := by decide +kernel
theorem dX1_addTenant_61 : decode cX1_addTenant 61 = .ok (.aload_n 0, 1) := by decide +kernel
theorem dX1_addTenant_62 : decode cX1_addTenant 62 = .ok (.getfield 39, 3) := by decide +kernel
theorem dX1_addTenant_65 : decode cX1_addTenant 65 = .ok (.aload_n 1, 1) := by decide +kernel
theorem dX1_addTenant_66 : decode cX1_addTenant 66 = .ok (.iconst 0, 1) := by decide +kernel
theorem dX1_addTenant_67 : decode cX1_addTenant 67 = .ok (.iaload, 1) := by decide +kernel
theorem dX1_addTenant_68 : decode cX1_addTenant 68 = .ok (.iastore, 1) := by decide +kernel
theorem dX1_addTenant_69 : decode cX1_addTenant 69 = .ok (.aload_n 0, 1) := by decide +kernel
theorem dX1_addTenant_70 : decode cX1_addTenant 70 = .ok (.getfield 15, 3) := by decide +kernel
theorem dX1_addTenant_73 : decode cX1_addTenant 73 = .ok (.aload_n 0, 1) := by decide +kernel
theorem dX1_addTenant_74 : decode cX1_addTenant 74 = .ok (.getfield 39, 3) := by decide +kernel
theorem dX1_addTenant_77 : decode cX1_addTenant 77 = .ok (.aload_n 1, 1) := by decide +kernel
theorem dX1_addTenant_78 : decode cX1_addTenant 78 = .ok (.iconst 1, 1) := by decide +kernel
theorem dX1_addTenant_79 : decode cX1_addTenant 79 = .ok (.iaload, 1) := by decide +kernel
theorem dX1_addTenant_80 : decode cX1_addTenant 80 = .ok (.iastore, 1) := by decide +kernel
theorem dX1_addTenant_81 : decode cX1_addTenant 81 = .ok (.aload_n 0, 1) := by decide +kernel
theorem dX1_addTenant_82 : decode cX1_addTenant 82 = .ok (.getfield 18, 3) := by decide +kernel
theorem dX1_addTenant_85 : decode cX1_addTenant 85 = .ok (.aload_n 0, 1) := by decide +kernel
theorem dX1_addTenant_86 : decode cX1_addTenant 86 = .ok (.getfield 39, 3) := by decide +kernel
theorem dX1_addTenant_89 : decode cX1_addTenant 89 = .ok (.aload_n 1, 1) := by decide +kernel
theorem dX1_addTenant_90 : decode cX1_addTenant 90 = .ok (.iconst 2, 1) := by decide +kernel
theorem dX1_addTenant_91 : decode cX1_addTenant 91 = .ok (.iaload, 1) := by decide +kernel
theorem dX1_addTenant_92 : decode cX1_addTenant 92 = .ok (.iastore, 1) := by decide +kernel
theorem dX1_addTenant_93 : decode cX1_addTenant 93 = .ok (.aload_n 0, 1) := by decide +kernel
theorem dX1_addTenant_94 : decode cX1_addTenant 94 = .ok (.getfield 21, 3) := by decide +kernel
theorem dX1_addTenant_97 : decode cX1_addTenant 97 = .ok (.aload_n 0, 1) := by decide +kernel
theorem dX1_addTenant_98 : decode cX1_addTenant 98 = .ok (.getfield 39, 3) := by decide +kernel
theorem dX1_addTenant_101 : decode cX1_addTenant 101 = .ok (.aload_n 1, 1) := by decide +kernel
theorem dX1_addTenant_102 : decode cX1_addTenant 102 = .ok (.iconst 3, 1) := by decide +kernel
theorem dX1_addTenant_103 : decode cX1_addTenant 103 = .ok (.iaload, 1) := by decide +kernel
theorem dX1_addTenant_104 : decode cX1_addTenant 104 = .ok (.iastore, 1) := by decide +kernel
theorem dX1_addTenant_105 : decode cX1_addTenant 105 = .ok (.aload_n 0, 1) := by decide +kernel
theorem dX1_addTenant_106 : decode cX1_addTenant 106 = .ok (.getfield 24, 3) := by decide +kernel
theorem dX1_addTenant_109 : decode cX1_addTenant 109 = .ok (.aload_n 0, 1) := by decide +kernel
theorem dX1_addTenant_110 : decode cX1_addTenant 110 = .ok (.getfield 39, 3) := by decide +kernel
theorem dX1_addTenant_113 : decode cX1_addTenant 113 = .ok (.aload_n 1, 1) := by decide +kernel
theorem dX1_addTenant_114 : decode cX1_addTenant 114 = .ok (.iconst 4, 1) := by decide +kernel
theorem dX1_addTenant_115 : decode cX1_addTenant 115 = .ok (.iaload, 1) := by decide +kernel
theorem dX1_addTenant_116 : decode cX1_addTenant 116 = .ok (.iastore, 1) := by decide +kernel
theorem dX1_addTenant_117 : decode cX1_addTenant 117 = .ok (.aload_n 0, 1) := by decide +kernel
theorem dX1_addTenant_118 : decode cX1_addTenant 118 = .ok (.dup, 1) := by decide +kernel
theorem dX1_addTenant_119 : decode cX1_addTenant 119 = .ok (.getfield 39, 3) := by decide +kernel
theorem dX1_addTenant_122 : decode cX1_addTenant 122 = .ok (.iconst 1, 1) := by decide +kernel
theorem dX1_addTenant_123 : decode cX1_addTenant 123 = .ok (.iadd, 1) := by decide +kernel
theorem dX1_addTenant_124 : decode cX1_addTenant 124 = .ok (.putfield 39, 3) := by decide +kernel
theorem dX1_addTenant_127 : decode cX1_addTenant 127 = .ok (.iconst 1, 1) := by decide +kernel
theorem dX1_addTenant_128 : decode cX1_addTenant 128 = .ok (.ireturn, 1) := by decide +kernel
theorem dX1_addShip_0 : decode cX1_addShip 0 = .ok (.aload_n 0, 1) := by decide +kernel
theorem dX1_addShip_1 : decode cX1_addShip 1 = .ok (.getfield 43, 3) := by decide +kernel
theorem dX1_addShip_4 : decode cX1_addShip 4 = .ok (.iconst 5, 1) := by decide +kernel
theorem dX1_addShip_5 : decode cX1_addShip 5 = .ok (.if_icmp .ge 11, 3) := by decide +kernel
theorem dX1_addShip_8 : decode cX1_addShip 8 = .ok (.iload_n 1, 1) := by decide +kernel
theorem dX1_addShip_9 : decode cX1_addShip 9 = .ok (.iload_n 2, 1) := by decide +kernel
theorem dX1_addShip_10 : decode cX1_addShip 10 = .ok (.invokestatic 68, 3) := by decide +kernel
theorem dX1_addShip_13 : decode cX1_addShip 13 = .ok (.ifCond .ne 5, 3) := by decide +kernel
theorem dX1_addShip_16 : decode cX1_addShip 16 = .ok (.iconst 0, 1) := by decide +kernel
theorem dX1_addShip_17 : decode cX1_addShip 17 = .ok (.ireturn, 1) := by decide +kernel
theorem dX1_addShip_18 : decode cX1_addShip 18 = .ok (.aload_n 0, 1) := by decide +kernel
theorem dX1_addShip_19 : decode cX1_addShip 19 = .ok (.getfield 27, 3) := by decide +kernel
theorem dX1_addShip_22 : decode cX1_addShip 22 = .ok (.aload_n 0, 1) := by decide +kernel
theorem dX1_addShip_23 : decode cX1_addShip 23 = .ok (.getfield 43, 3) := by decide +kernel
theorem dX1_addShip_26 : decode cX1_addShip 26 = .ok (.iload_n 1, 1) := by decide +kernel
theorem dX1_addShip_27 : decode cX1_addShip 27 = .ok (.iastore, 1) := by decide +kernel
theorem dX1_addShip_28 : decode cX1_addShip 28 = .ok (.aload_n 0, 1) := by decide +kernel
theorem dX1_addShip_29 : decode cX1_addShip 29 = .ok (.getfield 30, 3) := by decide +kernel
theorem dX1_addShip_32 : decode cX1_addShip 32 = .ok (.aload_n 0, 1) := by decide +kernel
theorem dX1_addShip_33 : decode cX1_addShip 33 = .ok (.getfield 43, 3) := by decide +kernel
theorem dX1_addShip_36 : decode cX1_addShip 36 = .ok (.iload_n 2, 1) := by decide +kernel
theorem dX1_addShip_37 : decode cX1_addShip 37 = .ok (.iastore, 1) := by decide +kernel
theorem dX1_addShip_38 : decode cX1_addShip 38 = .ok (.aload_n 0, 1) := by decide +kernel
theorem dX1_addShip_39 : decode cX1_addShip 39 = .ok (.getfield 33, 3) := by decide +kernel
theorem dX1_addShip_42 : decode cX1_addShip 42 = .ok (.aload_n 0, 1) := by decide +kernel
theorem dX1_addShip_43 : decode cX1_addShip 43 = .ok (.getfield 43, 3) := by decide +kernel
theorem dX1_addShip_46 : decode cX1_addShip 46 = .ok (.iload_n 1, 1) := by decide +kernel
theorem dX1_addShip_47 : decode cX1_addShip 47 = .ok (.iconst 1, 1) := by decide +kernel
theorem dX1_addShip_48 : decode cX1_addShip 48 = .ok (.iload_n 2, 1) := by decide +kernel
theorem dX1_addShip_49 : decode cX1_addShip 49 = .ok (.ishl, 1) := by decide +kernel
theorem dX1_addShip_50 : decode cX1_addShip 50 = .ok (.iconst 1, 1) := by decide +kernel
theorem dX1_addShip_51 : decode cX1_addShip 51 = .ok (.isub, 1) := by decide +kernel
theorem dX1_addShip_52 : decode cX1_addShip 52 = .ok (.invokestatic 71, 3) := by decide +kernel
theorem dX1_addShip_55 : decode cX1_addShip 55 = .ok (.iastore, 1) := by decide +kernel
theorem dX1_addShip_56 : decode cX1_addShip 56 = .ok (.aload_n 0, 1) := by decide +kernel
theorem dX1_addShip_57 : decode cX1_addShip 57 = .ok (.dup, 1) := by decide +kernel
theorem dX1_addShip_58 : decode cX1_addShip 58 = .ok (.getfield 43, 3) := by decide +kernel
theorem dX1_addShip_61 : decode cX1_addShip 61 = .ok (.iconst 1, 1) := by decide +kernel
theorem dX1_addShip_62 : decode cX1_addShip 62 = .ok (.iadd, 1) := by decide +kernel
theorem dX1_addShip_63 : decode cX1_addShip 63 = .ok (.putfield 43, 3) := by decide +kernel
theorem dX1_addShip_66 : decode cX1_addShip 66 = .ok (.iconst 1, 1) := by decide +kernel
theorem dX1_addShip_67 : decode cX1_addShip 67 = .ok (.ireturn, 1) := by decide +kernel
theorem dX1_setFog_0 : decode cX1_setFog 0 = .ok (.iload_n 1, 1) := by decide +kernel
theorem dX1_setFog_1 : decode cX1_setFog 1 = .ok (.iload_n 2, 1) := by decide +kernel
theorem dX1_setFog_2 : decode cX1_setFog 2 = .ok (.iadd, 1) := by decide +kernel
theorem dX1_setFog_3 : decode cX1_setFog 3 = .ok (.iload_n 3, 1) := by decide +kernel
theorem dX1_setFog_4 : decode cX1_setFog 4 = .ok (.iadd, 1) := by decide +kernel
theorem dX1_setFog_5 : decode cX1_setFog 5 = .ok (.bipush 10, 2) := by decide +kernel
theorem dX1_setFog_7 : decode cX1_setFog 7 = .ok (.if_icmp .le 5, 3) := by decide +kernel
theorem dX1_setFog_10 : decode cX1_setFog 10 = .ok (.iconst 0, 1) := by decide +kernel
theorem dX1_setFog_11 : decode cX1_setFog 11 = .ok (.ireturn, 1) := by decide +kernel
theorem dX1_setFog_12 : decode cX1_setFog 12 = .ok (.aload_n 0, 1) := by decide +kernel
theorem dX1_setFog_13 : decode cX1_setFog 13 = .ok (.getfield 36, 3) := by decide +kernel
theorem dX1_setFog_16 : decode cX1_setFog 16 = .ok (.iconst 0, 1) := by decide +kernel
theorem dX1_setFog_17 : decode cX1_setFog 17 = .ok (.iload_n 1, 1) := by decide +kernel
theorem dX1_setFog_18 : decode cX1_setFog 18 = .ok (.iastore, 1) := by decide +kernel
theorem dX1_setFog_19 : decode cX1_setFog 19 = .ok (.aload_n 0, 1) := by decide +kernel
theorem dX1_setFog_20 : decode cX1_setFog 20 = .ok (.getfield 36, 3) := by decide +kernel
theorem dX1_setFog_23 : decode cX1_setFog 23 = .ok (.iconst 1, 1) := by decide +kernel
theorem dX1_setFog_24 : decode cX1_setFog 24 = .ok (.iload_n 2, 1) := by decide +kernel
theorem dX1_setFog_25 : decode cX1_setFog 25 = .ok (.iastore, 1) := by decide +kernel
theorem dX1_setFog_26 : decode cX1_setFog 26 = .ok (.aload_n 0, 1) := by decide +kernel
theorem dX1_setFog_27 : decode cX1_setFog 27 = .ok (.getfield 36, 3) := by decide +kernel
theorem dX1_setFog_30 : decode cX1_setFog 30 = .ok (.iconst 2, 1) := by decide +kernel
theorem dX1_setFog_31 : decode cX1_setFog 31 = .ok (.iload_n 3, 1) := by decide +kernel
theorem dX1_setFog_32 : decode cX1_setFog 32 = .ok (.iastore, 1) := by decide +kernel
theorem dX1_setFog_33 : decode cX1_setFog 33 = .ok (.aload_n 0, 1) := by decide +kernel
theorem dX1_setFog_34 : decode cX1_setFog 34 = .ok (.getfield 36, 3) := by decide +kernel
theorem dX1_setFog_37 : decode cX1_setFog 37 = .ok (.iconst 3, 1) := by decide +kernel
theorem dX1_setFog_38 : decode cX1_setFog 38 = .ok (.bipush 10, 2) := by decide +kernel
theorem dX1_setFog_40 : decode cX1_setFog 40 = .ok (.iload_n 1, 1) := by decide +kernel
theorem dX1_setFog_41 : decode cX1_setFog 41 = .ok (.isub, 1) := by decide +kernel
theorem dX1_setFog_42 : decode cX1_setFog 42 = .ok (.iload_n 2, 1) := by decide +kernel
theorem dX1_setFog_43 : decode cX1_setFog 43 = .ok (.isub, 1) := by decide +kernel
theorem dX1_setFog_44 : decode cX1_setFog 44 = .ok (.iload_n 3, 1) := by decide +kernel
theorem dX1_setFog_45 : decode cX1_setFog 45 = .ok (.isub, 1) := by decide +kernel
theorem dX1_setFog_46 : decode cX1_setFog 46 = .ok (.iastore, 1) := by decide +kernel
theorem dX1_setFog_47 : decode cX1_setFog 47 = .ok (.iconst 1, 1) := by decide +kernel
theorem dX1_setFog_48 : decode cX1_setFog 48 = .ok (.ireturn, 1) := by decide +kernel
theorem dX1_setLimit_0 : decode cX1_setLimit 0 = .ok (.iload_n 1, 1) := by decide +kernel
theorem dX1_setLimit_1 : decode cX1_setLimit 1 = .ok (.bipush 60, 2) := by decide +kernel
theorem dX1_setLimit_3 : decode cX1_setLimit 3 = .ok (.if_icmp .le 5, 3) := by decide +kernel
theorem dX1_setLimit_6 : decode cX1_setLimit 6 = .ok (.iconst 0, 1) := by decide +kernel
theorem dX1_setLimit_7 : decode cX1_setLimit 7 = .ok (.ireturn, 1) := by decide +kernel
theorem dX1_setLimit_8 : decode cX1_setLimit 8 = .ok (.aload_n 0, 1) := by decide +kernel
theorem dX1_setLimit_9 : decode cX1_setLimit 9 = .ok (.iload_n 1, 1) := by decide +kernel
theorem dX1_setLimit_10 : decode cX1_setLimit 10 = .ok (.putfield 50, 3) := by decide +kernel
theorem dX1_setLimit_13 : decode cX1_setLimit 13 = .ok (.iconst 1, 1) := by decide +kernel
theorem dX1_setLimit_14 : decode cX1_setLimit 14 = .ok (.ireturn, 1) := by decide +kernel
theorem dX1_paysMostOfHisColour_0 : decode cX1_paysMostOfHisColour 0 = .ok (.iconst 0, 1) := by decide +kernel
theorem dX1_paysMostOfHisColour_1 : decode cX1_paysMostOfHisColour 1 = .ok (.istore_n 2, 1) := by decide +kernel
theorem dX1_paysMostOfHisColour_2 : decode cX1_paysMostOfHisColour 2 = .ok (.iload_n 2, 1) := by decide +kernel
theorem dX1_paysMostOfHisColour_3 : decode cX1_paysMostOfHisColour 3 = .ok (.aload_n 0, 1) := by decide +kernel
theorem dX1_paysMostOfHisColour_4 : decode cX1_paysMostOfHisColour 4 = .ok (.getfield 39, 3) := by decide +kernel
theorem dX1_paysMostOfHisColour_7 : decode cX1_paysMostOfHisColour 7 = .ok (.if_icmp .ge 41, 3) := by decide +kernel
theorem dX1_paysMostOfHisColour_10 : decode cX1_paysMostOfHisColour 10 = .ok (.aload_n 0, 1) := by decide +kernel
theorem dX1_paysMostOfHisColour_11 : decode cX1_paysMostOfHisColour 11 = .ok (.getfield 9, 3) := by decide +kernel
theorem dX1_paysMostOfHisColour_14 : decode cX1_paysMostOfHisColour 14 = .ok (.iload_n 2, 1) := by decide +kernel
theorem dX1_paysMostOfHisColour_15 : decode cX1_paysMostOfHisColour 15 = .ok (.iaload, 1) := by decide +kernel
theorem dX1_paysMostOfHisColour_16 : decode cX1_paysMostOfHisColour 16 = .ok (.aload_n 0, 1) := by decide +kernel
theorem dX1_paysMostOfHisColour_17 : decode cX1_paysMostOfHisColour 17 = .ok (.getfield 9, 3) := by decide +kernel
theorem dX1_paysMostOfHisColour_20 : decode cX1_paysMostOfHisColour 20 = .ok (.iload_n 1, 1) := by decide +kernel
theorem dX1_paysMostOfHisColour_21 : decode cX1_paysMostOfHisColour 21 = .ok (.iaload, 1) := by decide +kernel
theorem dX1_paysMostOfHisColour_22 : decode cX1_paysMostOfHisColour 22 = .ok (.if_icmp .ne 20, 3) := by decide +kernel
theorem dX1_paysMostOfHisColour_25 : decode cX1_paysMostOfHisColour 25 = .ok (.aload_n 0, 1) := by decide +kernel
theorem dX1_paysMostOfHisColour_26 : decode cX1_paysMostOfHisColour 26 = .ok (.getfield 21, 3) := by decide +kernel
theorem dX1_paysMostOfHisColour_29 : decode cX1_paysMostOfHisColour 29 = .ok (.iload_n 2, 1) := by decide +kernel
theorem dX1_paysMostOfHisColour_30 : decode cX1_paysMostOfHisColour 30 = .ok (.iaload, 1) := by decide +kernel
theorem dX1_paysMostOfHisColour_31 : decode cX1_paysMostOfHisColour 31 = .ok (.aload_n 0, 1) := by decide +kernel
theorem dX1_paysMostOfHisColour_32 : decode cX1_paysMostOfHisColour 32 = .ok (.getfield 21, 3) := by decide +kernel
theorem dX1_paysMostOfHisColour_35 : decode cX1_paysMostOfHisColour 35 = .ok (.iload_n 1, 1) := by decide +kernel
theorem dX1_paysMostOfHisColour_36 : decode cX1_paysMostOfHisColour 36 = .ok (.iaload, 1) := by decide +kernel
theorem dX1_paysMostOfHisColour_37 : decode cX1_paysMostOfHisColour 37 = .ok (.if_icmp .le 5, 3) := by decide +kernel
theorem dX1_paysMostOfHisColour_40 : decode cX1_paysMostOfHisColour 40 = .ok (.iconst 0, 1) := by decide +kernel
theorem dX1_paysMostOfHisColour_41 : decode cX1_paysMostOfHisColour 41 = .ok (.ireturn, 1) := by decide +kernel
theorem dX1_paysMostOfHisColour_42 : decode cX1_paysMostOfHisColour 42 = .ok (.iinc 2 1, 3) := by decide +kernel
theorem dX1_paysMostOfHisColour_45 : decode cX1_paysMostOfHisColour 45 = .ok (.goto (-43), 3) := by decide +kernel
theorem dX1_paysMostOfHisColour_48 : decode cX1_paysMostOfHisColour 48 = .ok (.iconst 1, 1) := by decide +kernel
theorem dX1_paysMostOfHisColour_49 : decode cX1_paysMostOfHisColour 49 = .ok (.ireturn, 1) := by decide +kernel
theorem dX1_shineOf_0 : decode cX1_shineOf 0 = .ok (.iload 4, 2) := by decide +kernel
theorem dX1_shineOf_2 : decode cX1_shineOf 2 = .ok (.iconst 2, 1) := by decide +kernel
theorem dX1_shineOf_3 : decode cX1_shineOf 3 = .ok (.irem, 1) := by decide +kernel
theorem dX1_shineOf_4 : decode cX1_shineOf 4 = .ok (.ifCond .ne 7, 3) := by decide +kernel
theorem dX1_shineOf_7 : decode cX1_shineOf 7 = .ok (.iconst 1, 1) := by decide +kernel
theorem dX1_shineOf_8 : decode cX1_shineOf 8 = .ok (.goto 4, 3) := by decide +kernel
theorem dX1_shineOf_11 : decode cX1_shineOf 11 = .ok (.iconst 0, 1) := by decide +kernel
theorem dX1_shineOf_12 : decode cX1_shineOf 12 = .ok (.istore 5, 2) := by decide +kernel
theorem dX1_shineOf_14 : decode cX1_shineOf 14 = .ok (.iconst 1, 1) := by decide +kernel
theorem dX1_shineOf_15 : decode cX1_shineOf 15 = .ok (.iload_n 3, 1) := by decide +kernel
theorem dX1_shineOf_16 : decode cX1_shineOf 16 = .ok (.ishl, 1) := by decide +kernel
theorem dX1_shineOf_17 : decode cX1_shineOf 17 = .ok (.iconst 1, 1) := by decide +kernel
theorem dX1_shineOf_18 : decode cX1_shineOf 18 = .ok (.isub, 1) := by decide +kernel
theorem dX1_shineOf_19 : decode cX1_shineOf 19 = .ok (.istore 6, 2) := by decide +kernel
theorem dX1_shineOf_21 : decode cX1_shineOf 21 = .ok (.aload_n 0, 1) := by decide +kernel
theorem dX1_shineOf_22 : decode cX1_shineOf 22 = .ok (.getfield 24, 3) := by decide +kernel
theorem dX1_shineOf_25 : decode cX1_shineOf 25 = .ok (.iload_n 1, 1) := by decide +kernel
theorem dX1_shineOf_26 : decode cX1_shineOf 26 = .ok (.iaload, 1) := by decide +kernel
theorem dX1_shineOf_27 : decode cX1_shineOf 27 = .ok (.tableswitch 82 1 3 #[25, 41, 63], 25) := by decide +kernel
theorem dX1_shineOf_52 : decode cX1_shineOf 52 = .ok (.iload 5, 2) := by decide +kernel
theorem dX1_shineOf_54 : decode cX1_shineOf 54 = .ok (.ifCond .eq 12, 3) := by decide +kernel
theorem dX1_shineOf_57 : decode cX1_shineOf 57 = .ok (.iload_n 2, 1) := by decide +kernel
theorem dX1_shineOf_58 : decode cX1_shineOf 58 = .ok (.iload 6, 2) := by decide +kernel
theorem dX1_shineOf_60 : decode cX1_shineOf 60 = .ok (.invokestatic 71, 3) := by decide +kernel
theorem dX1_shineOf_63 : decode cX1_shineOf 63 = .ok (.goto 4, 3) := by decide +kernel
theorem dX1_shineOf_66 : decode cX1_shineOf 66 = .ok (.iconst 0, 1) := by decide +kernel
theorem dX1_shineOf_67 : decode cX1_shineOf 67 = .ok (.ireturn, 1) := by decide +kernel
theorem dX1_shineOf_68 : decode cX1_shineOf 68 = .ok (.iload_n 2, 1) := by decide +kernel
theorem dX1_shineOf_69 : decode cX1_shineOf 69 = .ok (.iload 6, 2) := by decide +kernel
theorem dX1_shineOf_71 : decode cX1_shineOf 71 = .ok (.iload 5, 2) := by decide +kernel
theorem dX1_shineOf_73 : decode cX1_shineOf 73 = .ok (.ifCond .eq 9, 3) := by decide +kernel
theorem dX1_shineOf_76 : decode cX1_shineOf 76 = .ok (.sipush 1365, 3) := by decide +kernel
theorem dX1_shineOf_79 : decode cX1_shineOf 79 = .ok (.goto 6, 3) := by decide +kernel
theorem dX1_shineOf_82 : decode cX1_shineOf 82 = .ok (.sipush 2730, 3) := by decide +kernel
theorem dX1_shineOf_85 : decode cX1_shineOf 85 = .ok (.iand, 1) := by decide +kernel
theorem dX1_shineOf_86 : decode cX1_shineOf 86 = .ok (.invokestatic 71, 3) := by decide +kernel
theorem dX1_shineOf_89 : decode cX1_shineOf 89 = .ok (.ireturn, 1) := by decide +kernel
theorem dX1_shineOf_90 : decode cX1_shineOf 90 = .ok (.aload_n 0, 1) := by decide +kernel
theorem dX1_shineOf_91 : decode cX1_shineOf 91 = .ok (.iload_n 1, 1) := by decide +kernel
theorem dX1_shineOf_92 : decode cX1_shineOf 92 = .ok (.invokevirtual 75, 3) := by decide +kernel
theorem dX1_shineOf_95 : decode cX1_shineOf 95 = .ok (.ifCond .eq 12, 3) := by decide +kernel
theorem dX1_shineOf_98 : decode cX1_shineOf 98 = .ok (.iload_n 2, 1) := by decide +kernel
theorem dX1_shineOf_99 : decode cX1_shineOf 99 = .ok (.iload 6, 2) := by decide +kernel
theorem dX1_shineOf_101 : decode cX1_shineOf 101 = .ok (.invokestatic 71, 3) := by decide +kernel
theorem dX1_shineOf_104 : decode cX1_shineOf 104 = .ok (.goto 4, 3) := by decide +kernel
theorem dX1_shineOf_107 : decode cX1_shineOf 107 = .ok (.iconst 0, 1) := by decide +kernel
theorem dX1_shineOf_108 : decode cX1_shineOf 108 = .ok (.ireturn, 1) := by decide +kernel
theorem dX1_shineOf_109 : decode cX1_shineOf 109 = .ok (.iload_n 2, 1) := by decide +kernel
theorem dX1_shineOf_110 : decode cX1_shineOf 110 = .ok (.iload 6, 2) := by decide +kernel
theorem dX1_shineOf_112 : decode cX1_shineOf 112 = .ok (.invokestatic 71, 3) := by decide +kernel
theorem dX1_shineOf_115 : decode cX1_shineOf 115 = .ok (.ireturn, 1) := by decide +kernel
theorem dX2_init_0 : decode cX2_init 0 = .ok (.aload_n 0, 1) := by decide +kernel
theorem dX2_init_1 : decode cX2_init 1 = .ok (.invokespecial 3, 3) := by decide +kernel
theorem dX2_init_4 : decode cX2_init 4 = .ok (.aload_n 0, 1) := by decide +kernel
theorem dX2_init_5 : decode cX2_init 5 = .ok (.sipush 200, 3) := by decide +kernel
theorem dX2_init_8 : decode cX2_init 8 = .ok (.newarray .int, 2) := by decide +kernel
theorem dX2_init_10 : decode cX2_init 10 = .ok (.putfield 9, 3) := by decide +kernel
theorem dX2_init_13 : decode cX2_init 13 = .ok (.return_, 1) := by decide +kernel
theorem dX2_append_0 : decode cX2_append 0 = .ok (.aload_n 0, 1) := by decide +kernel
theorem dX2_append_1 : decode cX2_append 1 = .ok (.getfield 15, 3) := by decide +kernel
theorem dX2_append_4 : decode cX2_append 4 = .ok (.sipush 200, 3) := by decide +kernel
theorem dX2_append_7 : decode cX2_append 7 = .ok (.if_icmp .lt 5, 3) := by decide +kernel
theorem dX2_append_10 : decode cX2_append 10 = .ok (.iconst 0, 1) := by decide +kernel
theorem dX2_append_11 : decode cX2_append 11 = .ok (.ireturn, 1) := by decide +kernel
theorem dX2_append_12 : decode cX2_append 12 = .ok (.aload_n 0, 1) := by decide +kernel
theorem dX2_append_13 : decode cX2_append 13 = .ok (.getfield 9, 3) := by decide +kernel
theorem dX2_append_16 : decode cX2_append 16 = .ok (.aload_n 0, 1) := by decide +kernel
theorem dX2_append_17 : decode cX2_append 17 = .ok (.getfield 15, 3) := by decide +kernel
theorem dX2_append_20 : decode cX2_append 20 = .ok (.iload_n 1, 1) := by decide +kernel
theorem dX2_append_21 : decode cX2_append 21 = .ok (.iastore, 1) := by decide +kernel
theorem dX2_append_22 : decode cX2_append 22 = .ok (.aload_n 0, 1) := by decide +kernel
theorem dX2_append_23 : decode cX2_append 23 = .ok (.dup, 1) := by decide +kernel
theorem dX2_append_24 : decode cX2_append 24 = .ok (.getfield 15, 3) := by decide +kernel
theorem dX2_append_27 : decode cX2_append 27 = .ok (.iconst 1, 1) := by decide +kernel
theorem dX2_append_28 : decode cX2_append 28 = .ok (.iadd, 1) := by decide +kernel
theorem dX2_append_29 : decode cX2_append 29 = .ok (.putfield 15, 3) := by decide +kernel
theorem dX2_append_32 : decode cX2_append 32 = .ok (.iconst 1, 1) := by decide +kernel
theorem dX2_append_33 : decode cX2_append 33 = .ok (.ireturn, 1) := by decide +kernel
theorem dX2_at_0 : decode cX2_at 0 = .ok (.iload_n 1, 1) := by decide +kernel
theorem dX2_at_1 : decode cX2_at 1 = .ok (.iconst 0, 1) := by decide +kernel
theorem dX2_at_2 : decode cX2_at 2 = .ok (.aload_n 0, 1) := by decide +kernel
theorem dX2_at_3 : decode cX2_at 3 = .ok (.getfield 15, 3) := by decide +kernel
theorem dX2_at_6 : decode cX2_at 6 = .ok (.iconst 1, 1) := by decide +kernel
theorem dX2_at_7 : decode cX2_at 7 = .ok (.isub, 1) := by decide +kernel
theorem dX2_at_8 : decode cX2_at 8 = .ok (.invokestatic 19, 3) := by decide +kernel
theorem dX2_at_11 : decode cX2_at 11 = .ok (.ifCond .eq 12, 3) := by decide +kernel
theorem dX2_at_14 : decode cX2_at 14 = .ok (.aload_n 0, 1) := by decide +kernel
theorem dX2_at_15 : decode cX2_at 15 = .ok (.getfield 9, 3) := by decide +kernel
theorem dX2_at_18 : decode cX2_at 18 = .ok (.iload_n 1, 1) := by decide +kernel
theorem dX2_at_19 : decode cX2_at 19 = .ok (.iaload, 1) := by decide +kernel
theorem dX2_at_20 : decode cX2_at 20 = .ok (.goto 4, 3) := by decide +kernel
theorem dX2_at_23 : decode cX2_at 23 = .ok (.iconst 0, 1) := by decide +kernel
theorem dX2_at_24 : decode cX2_at 24 = .ok (.ireturn, 1) := by decide +kernel
theorem dX2_isFigure_0 : decode cX2_isFigure 0 = .ok (.aload_n 0, 1) := by decide +kernel
theorem dX2_isFigure_1 : decode cX2_isFigure 1 = .ok (.iload_n 1, 1) := by decide +kernel
theorem dX2_isFigure_2 : decode cX2_isFigure 2 = .ok (.invokevirtual 23, 3) := by decide +kernel
theorem dX2_isFigure_5 : decode cX2_isFigure 5 = .ok (.bipush 48, 2) := by decide +kernel
theorem dX2_isFigure_7 : decode cX2_isFigure 7 = .ok (.bipush 57, 2) := by decide +kernel
theorem dX2_isFigure_9 : decode cX2_isFigure 9 = .ok (.invokestatic 19, 3) := by decide +kernel
theorem dX2_isFigure_12 : decode cX2_isFigure 12 = .ok (.ireturn, 1) := by decide +kernel
theorem dX3_init_0 : decode cX3_init 0 = .ok (.aload_n 0, 1) := by decide +kernel
theorem dX3_init_1 : decode cX3_init 1 = .ok (.invokespecial 3, 3) := by decide +kernel
theorem dX3_init_4 : decode cX3_init 4 = .ok (.aload_n 0, 1) := by decide +kernel
theorem dX3_init_5 : decode cX3_init 5 = .ok (.bipush 8, 2) := by decide +kernel
theorem dX3_init_7 : decode cX3_init 7 = .ok (.newarray .int, 2) := by decide +kernel
theorem dX3_init_9 : decode cX3_init 9 = .ok (.putfield 9, 3) := by decide +kernel
theorem dX3_init_12 : decode cX3_init 12 = .ok (.aload_n 0, 1) := by decide +kernel
theorem dX3_init_13 : decode cX3_init 13 = .ok (.bipush 8, 2) := by decide +kernel
theorem dX3_init_15 : decode cX3_init 15 = .ok (.newarray .int, 2) := by decide +kernel
theorem dX3_init_17 : decode cX3_init 17 = .ok (.putfield 15, 3) := by decide +kernel
theorem dX3_init_20 : decode cX3_init 20 = .ok (.return_, 1) := by decide +kernel
theorem dX3_append_0 : decode cX3_append 0 = .ok (.aload_n 0, 1) := by decide +kernel
theorem dX3_append_1 : decode cX3_append 1 = .ok (.getfield 18, 3) := by decide +kernel
theorem dX3_append_4 : decode cX3_append 4 = .ok (.bipush 8, 2) := by decide +kernel
theorem dX3_append_6 : decode cX3_append 6 = .ok (.if_icmp .lt 5, 3) := by decide +kernel
theorem dX3_append_9 : decode cX3_append 9 = .ok (.iconst 0, 1) := by decide +kernel
theorem dX3_append_10 : decode cX3_append 10 = .ok (.ireturn, 1) := by decide +kernel
theorem dX3_append_11 : decode cX3_append 11 = .ok (.aload_n 0, 1) := by decide +kernel
theorem dX3_append_12 : decode cX3_append 12 = .ok (.getfield 9, 3) := by decide +kernel
theorem dX3_append_15 : decode cX3_append 15 = .ok (.aload_n 0, 1) := by decide +kernel
theorem dX3_append_16 : decode cX3_append 16 = .ok (.getfield 18, 3) := by decide +kernel
theorem dX3_append_19 : decode cX3_append 19 = .ok (.iload_n 1, 1) := by decide +kernel
theorem dX3_append_20 : decode cX3_append 20 = .ok (.iastore, 1) := by decide +kernel
theorem dX3_append_21 : decode cX3_append 21 = .ok (.aload_n 0, 1) := by decide +kernel
theorem dX3_append_22 : decode cX3_append 22 = .ok (.getfield 15, 3) := by decide +kernel
theorem dX3_append_25 : decode cX3_append 25 = .ok (.aload_n 0, 1) := by decide +kernel
theorem dX3_append_26 : decode cX3_append 26 = .ok (.getfield 18, 3) := by decide +kernel
theorem dX3_append_29 : decode cX3_append 29 = .ok (.iload_n 2, 1) := by decide +kernel
theorem dX3_append_30 : decode cX3_append 30 = .ok (.iastore, 1) := by decide +kernel
theorem dX3_append_31 : decode cX3_append 31 = .ok (.aload_n 0, 1) := by decide +kernel
theorem dX3_append_32 : decode cX3_append 32 = .ok (.dup, 1) := by decide +kernel
theorem dX3_append_33 : decode cX3_append 33 = .ok (.getfield 18, 3) := by decide +kernel
theorem dX3_append_36 : decode cX3_append 36 = .ok (.iconst 1, 1) := by decide +kernel
theorem dX3_append_37 : decode cX3_append 37 = .ok (.iadd, 1) := by decide +kernel
theorem dX3_append_38 : decode cX3_append 38 = .ok (.putfield 18, 3) := by decide +kernel
theorem dX3_append_41 : decode cX3_append 41 = .ok (.iconst 1, 1) := by decide +kernel
theorem dX3_append_42 : decode cX3_append 42 = .ok (.ireturn, 1) := by decide +kernel
theorem dX3_fit_0 : decode cX3_fit 0 = .ok (.iconst 0, 1) := by decide +kernel
theorem dX3_fit_1 : decode cX3_fit 1 = .ok (.istore_n 2, 1) := by decide +kernel
theorem dX3_fit_2 : decode cX3_fit 2 = .ok (.iload_n 2, 1) := by decide +kernel
theorem dX3_fit_3 : decode cX3_fit 3 = .ok (.aload_n 0, 1) := by decide +kernel
theorem dX3_fit_4 : decode cX3_fit 4 = .ok (.getfield 18, 3) := by decide +kernel
theorem dX3_fit_7 : decode cX3_fit 7 = .ok (.if_icmp .ge 30, 3) := by decide +kernel
theorem dX3_fit_10 : decode cX3_fit 10 = .ok (.aload_n 1, 1) := by decide +kernel
theorem dX3_fit_11 : decode cX3_fit 11 = .ok (.aload_n 0, 1) := by decide +kernel
theorem dX3_fit_12 : decode cX3_fit 12 = .ok (.getfield 9, 3) := by decide +kernel
theorem dX3_fit_15 : decode cX3_fit 15 = .ok (.iload_n 2, 1) := by decide +kernel
theorem dX3_fit_16 : decode cX3_fit 16 = .ok (.iaload, 1) := by decide +kernel
theorem dX3_fit_17 : decode cX3_fit 17 = .ok (.invokevirtual 22, 3) := by decide +kernel
theorem dX3_fit_20 : decode cX3_fit 20 = .ok (.aload_n 0, 1) := by decide +kernel
theorem dX3_fit_21 : decode cX3_fit 21 = .ok (.getfield 15, 3) := by decide +kernel
theorem dX3_fit_24 : decode cX3_fit 24 = .ok (.iload_n 2, 1) := by decide +kernel
theorem dX3_fit_25 : decode cX3_fit 25 = .ok (.iaload, 1) := by decide +kernel
theorem dX3_fit_26 : decode cX3_fit 26 = .ok (.if_icmp .eq 5, 3) := by decide +kernel
theorem dX3_fit_29 : decode cX3_fit 29 = .ok (.iconst 0, 1) := by decide +kernel
theorem dX3_fit_30 : decode cX3_fit 30 = .ok (.ireturn, 1) := by decide +kernel
theorem dX3_fit_31 : decode cX3_fit 31 = .ok (.iinc 2 1, 3) := by decide +kernel
theorem dX3_fit_34 : decode cX3_fit 34 = .ok (.goto (-32), 3) := by decide +kernel
theorem dX3_fit_37 : decode cX3_fit 37 = .ok (.iconst 1, 1) := by decide +kernel
theorem dX3_fit_38 : decode cX3_fit 38 = .ok (.ireturn, 1) := by decide +kernel
theorem dX3_darkStripes_0 : decode cX3_darkStripes 0 = .ok (.iconst 0, 1) := by decide +kernel
theorem dX3_darkStripes_1 : decode cX3_darkStripes 1 = .ok (.istore_n 1, 1) := by decide +kernel
theorem dX3_darkStripes_2 : decode cX3_darkStripes 2 = .ok (.iconst 0, 1) := by decide +kernel
theorem dX3_darkStripes_3 : decode cX3_darkStripes 3 = .ok (.istore_n 2, 1) := by decide +kernel
theorem dX3_darkStripes_4 : decode cX3_darkStripes 4 = .ok (.iload_n 2, 1) := by decide +kernel
theorem dX3_darkStripes_5 : decode cX3_darkStripes 5 = .ok (.aload_n 0, 1) := by decide +kernel
theorem dX3_darkStripes_6 : decode cX3_darkStripes 6 = .ok (.getfield 18, 3) := by decide +kernel
theorem dX3_darkStripes_9 : decode cX3_darkStripes 9 = .ok (.if_icmp .ge 30, 3) := by decide +kernel
theorem dX3_darkStripes_12 : decode cX3_darkStripes 12 = .ok (.aload_n 0, 1) := by decide +kernel
theorem dX3_darkStripes_13 : decode cX3_darkStripes 13 = .ok (.getfield 15, 3) := by decide +kernel
theorem dX3_darkStripes_16 : decode cX3_darkStripes 16 = .ok (.iload_n 2, 1) := by decide +kernel
theorem dX3_darkStripes_17 : decode cX3_darkStripes 17 = .ok (.iaload, 1) := by decide +kernel
theorem dX3_darkStripes_18 : decode cX3_darkStripes 18 = .ok (.iconst 4, 1) := by decide +kernel
theorem dX3_darkStripes_19 : decode cX3_darkStripes 19 = .ok (.if_icmp .ne 14, 3) := by decide +kernel
theorem dX3_darkStripes_22 : decode cX3_darkStripes 22 = .ok (.iload_n 1, 1) := by decide +kernel
theorem dX3_darkStripes_23 : decode cX3_darkStripes 23 = .ok (.iconst 1, 1) := by decide +kernel
theorem dX3_darkStripes_24 : decode cX3_darkStripes 24 = .ok (.aload_n 0, 1) := by decide +kernel
theorem dX3_darkStripes_25 : decode cX3_darkStripes 25 = .ok (.getfield 9, 3) := by decide +kernel
theorem dX3_darkStripes_28 : decode cX3_darkStripes 28 = .ok (.iload_n 2, 1) := by decide +kernel
theorem dX3_darkStripes_29 : decode cX3_darkStripes 29 = .ok (.iaload, 1) := by decide +kernel
theorem dX3_darkStripes_30 : decode cX3_darkStripes 30 = .ok (.ishl, 1) := by decide +kernel
theorem dX3_darkStripes_31 : decode cX3_darkStripes 31 = .ok (.ior, 1) := by decide +kernel
theorem dX3_darkStripes_32 : decode cX3_darkStripes 32 = .ok (.istore_n 1, 1) := by decide +kernel
theorem dX3_darkStripes_33 : decode cX3_darkStripes 33 = .ok (.iinc 2 1, 3) := by decide +kernel
theorem dX3_darkStripes_36 : decode cX3_darkStripes 36 = .ok (.goto (-32), 3) := by decide +kernel
theorem dX3_darkStripes_39 : decode cX3_darkStripes 39 = .ok (.iload_n 1, 1) := by decide +kernel
theorem dX3_darkStripes_40 : decode cX3_darkStripes 40 = .ok (.ireturn, 1) := by decide +kernel
theorem dX4_init_0 : decode cX4_init 0 = .ok (.aload_n 0, 1) := by decide +kernel
theorem dX4_init_1 : decode cX4_init 1 = .ok (.invokespecial 1, 3) := by decide +kernel
theorem dX4_init_4 : decode cX4_init 4 = .ok (.aload_n 0, 1) := by decide +kernel
theorem dX4_init_5 : decode cX4_init 5 = .ok (.iload_n 1, 1) := by decide +kernel
theorem dX4_init_6 : decode cX4_init 6 = .ok (.anewarray 7, 3) := by decide +kernel
theorem dX4_init_9 : decode cX4_init 9 = .ok (.putfield 9, 3) := by decide +kernel
theorem dX4_init_12 : decode cX4_init 12 = .ok (.iconst 0, 1) := by decide +kernel
theorem dX4_init_13 : decode cX4_init 13 = .ok (.istore_n 2, 1) := by decide +kernel
theorem dX4_init_14 : decode cX4_init 14 = .ok (.iload_n 2, 1) := by decide +kernel
theorem dX4_init_15 : decode cX4_init 15 = .ok (.iload_n 1, 1) := by decide +kernel
theorem dX4_init_16 : decode cX4_init 16 = .ok (.if_icmp .ge 22, 3) := by decide +kernel
theorem dX4_init_19 : decode cX4_init 19 = .ok (.aload_n 0, 1) := by decide +kernel
theorem dX4_init_20 : decode cX4_init 20 = .ok (.getfield 9, 3) := by decide +kernel
theorem dX4_init_23 : decode cX4_init 23 = .ok (.iload_n 2, 1) := by decide +kernel
theorem dX4_init_24 : decode cX4_init 24 = .ok (.new 7, 3) := by decide +kernel
theorem dX4_init_27 : decode cX4_init 27 = .ok (.dup, 1) := by decide +kernel
theorem dX4_init_28 : decode cX4_init 28 = .ok (.invokespecial 15, 3) := by decide +kernel
theorem dX4_init_31 : decode cX4_init 31 = .ok (.aastore, 1) := by decide +kernel
theorem dX4_init_32 : decode cX4_init 32 = .ok (.iinc 2 1, 3) := by decide +kernel
theorem dX4_init_35 : decode cX4_init 35 = .ok (.goto (-21), 3) := by decide +kernel
theorem dX4_init_38 : decode cX4_init 38 = .ok (.return_, 1) := by decide +kernel
theorem dX4_rowAt_0 : decode cX4_rowAt 0 = .ok (.aload_n 0, 1) := by decide +kernel
theorem dX4_rowAt_1 : decode cX4_rowAt 1 = .ok (.getfield 16, 3) := by decide +kernel
theorem dX4_rowAt_4 : decode cX4_rowAt 4 = .ok (.iload_n 1, 1) := by decide +kernel
theorem dX4_rowAt_5 : decode cX4_rowAt 5 = .ok (.iadd, 1) := by decide +kernel
theorem dX4_rowAt_6 : decode cX4_rowAt 6 = .ok (.istore_n 2, 1) := by decide +kernel
theorem dX4_rowAt_7 : decode cX4_rowAt 7 = .ok (.iload_n 2, 1) := by decide +kernel
theorem dX4_rowAt_8 : decode cX4_rowAt 8 = .ok (.aload_n 0, 1) := by decide +kernel
theorem dX4_rowAt_9 : decode cX4_rowAt 9 = .ok (.getfield 9, 3) := by decide +kernel
theorem dX4_rowAt_12 : decode cX4_rowAt 12 = .ok (.arraylength, 1) := by decide +kernel
theorem dX4_rowAt_13 : decode cX4_rowAt 13 = .ok (.if_icmp .ge 7, 3) := by decide +kernel
theorem dX4_rowAt_16 : decode cX4_rowAt 16 = .ok (.iload_n 2, 1) := by decide +kernel
theorem dX4_rowAt_17 : decode cX4_rowAt 17 = .ok (.goto 10, 3) := by decide +kernel
theorem dX4_rowAt_20 : decode cX4_rowAt 20 = .ok (.iload_n 2, 1) := by decide +kernel
theorem dX4_rowAt_21 : decode cX4_rowAt 21 = .ok (.aload_n 0, 1) := by decide +kernel
theorem dX4_rowAt_22 : decode cX4_rowAt 22 = .ok (.getfield 9, 3) := by decide +kernel
theorem dX4_rowAt_25 : decode cX4_rowAt 25 = .ok (.arraylength, 1) := by decide +kernel
theorem dX4_rowAt_26 : decode cX4_rowAt 26 = .ok (.isub, 1) := by decide +kernel
theorem dX4_rowAt_27 : decode cX4_rowAt 27 = .ok (.ireturn, 1) := by decide +kernel
theorem dX4_put_0 : decode cX4_put 0 = .ok (.aload_n 0, 1) := by decide +kernel
theorem dX4_put_1 : decode cX4_put 1 = .ok (.getfield 20, 3) := by decide +kernel
theorem dX4_put_4 : decode cX4_put 4 = .ok (.aload_n 0, 1) := by decide +kernel
theorem dX4_put_5 : decode cX4_put 5 = .ok (.getfield 9, 3) := by decide +kernel
theorem dX4_put_8 : decode cX4_put 8 = .ok (.arraylength, 1) := by decide +kernel
theorem dX4_put_9 : decode cX4_put 9 = .ok (.if_icmp .ne 22, 3) := by decide +kernel
theorem dX4_put_12 : decode cX4_put 12 = .ok (.aload_n 0, 1) := by decide +kernel
theorem dX4_put_13 : decode cX4_put 13 = .ok (.aload_n 0, 1) := by decide +kernel
theorem dX4_put_14 : decode cX4_put 14 = .ok (.iconst 1, 1) := by decide +kernel
theorem dX4_put_15 : decode cX4_put 15 = .ok (.invokevirtual 23, 3) := by decide +kernel
theorem dX4_put_18 : decode cX4_put 18 = .ok (.putfield 16, 3) := by decide +kernel
theorem dX4_put_21 : decode cX4_put 21 = .ok (.aload_n 0, 1) := by decide +kernel
theorem dX4_put_22 : decode cX4_put 22 = .ok (.dup, 1) := by decide +kernel
theorem dX4_put_23 : decode cX4_put 23 = .ok (.getfield 20, 3) := by decide +kernel
theorem dX4_put_26 : decode cX4_put 26 = .ok (.iconst 1, 1) := by decide +kernel
theorem dX4_put_27 : decode cX4_put 27 = .ok (.isub, 1) := by decide +kernel
theorem dX4_put_28 : decode cX4_put 28 = .ok (.putfield 20, 3) := by decide +kernel
theorem dX4_put_31 : decode cX4_put 31 = .ok (.aload_n 0, 1) := by decide +kernel
theorem dX4_put_32 : decode cX4_put 32 = .ok (.getfield 9, 3) := by decide +kernel
theorem dX4_put_35 : decode cX4_put 35 = .ok (.aload_n 0, 1) := by decide +kernel
theorem dX4_put_36 : decode cX4_put 36 = .ok (.aload_n 0, 1) := by decide +kernel
theorem dX4_put_37 : decode cX4_put 37 = .ok (.getfield 20, 3) := by decide +kernel
theorem dX4_put_40 : decode cX4_put 40 = .ok (.invokevirtual 23, 3) := by decide +kernel
theorem dX4_put_43 : decode cX4_put 43 = .ok (.aaload, 1) := by decide +kernel
theorem dX4_put_44 : decode cX4_put 44 = .ok (.aload_n 1, 1) := by decide +kernel
theorem dX4_put_45 : decode cX4_put 45 = .ok (.invokevirtual 27, 3) := by decide +kernel
theorem dX4_put_48 : decode cX4_put 48 = .ok (.aload_n 0, 1) := by decide +kernel
theorem dX4_put_49 : decode cX4_put 49 = .ok (.dup, 1) := by decide +kernel
theorem dX4_put_50 : decode cX4_put 50 = .ok (.getfield 20, 3) := by decide +kernel
theorem dX4_put_53 : decode cX4_put 53 = .ok (.iconst 1, 1) := by decide +kernel
theorem dX4_put_54 : decode cX4_put 54 = .ok (.iadd, 1) := by decide +kernel
theorem dX4_put_55 : decode cX4_put 55 = .ok (.putfield 20, 3) := by decide +kernel
theorem dX4_put_58 : decode cX4_put 58 = .ok (.return_, 1) := by decide +kernel
theorem dX4_takeInto_0 : decode cX4_takeInto 0 = .ok (.aload_n 0, 1) := by decide +kernel
theorem dX4_takeInto_1 : decode cX4_takeInto 1 = .ok (.getfield 20, 3) := by decide +kernel
theorem dX4_takeInto_4 : decode cX4_takeInto 4 = .ok (.ifCond .ne 5, 3) := by decide +kernel
theorem dX4_takeInto_7 : decode cX4_takeInto 7 = .ok (.iconst 0, 1) := by decide +kernel
theorem dX4_takeInto_8 : decode cX4_takeInto 8 = .ok (.ireturn, 1) := by decide +kernel
theorem dX4_takeInto_9 : decode cX4_takeInto 9 = .ok (.aload_n 0, 1) := by decide +kernel
theorem dX4_takeInto_10 : decode cX4_takeInto 10 = .ok (.dup, 1) := by decide +kernel
theorem dX4_takeInto_11 : decode cX4_takeInto 11 = .ok (.getfield 20, 3) := by decide +kernel
theorem dX4_takeInto_14 : decode cX4_takeInto 14 = .ok (.iconst 1, 1) := by decide +kernel
theorem dX4_takeInto_15 : decode cX4_takeInto 15 = .ok (.isub, 1) := by decide +kernel
theorem dX4_takeInto_16 : decode cX4_takeInto 16 = .ok (.putfield 20, 3) := by decide +kernel
theorem dX4_takeInto_19 : decode cX4_takeInto 19 = .ok (.aload_n 1, 1) := by decide +kernel
theorem dX4_takeInto_20 : decode cX4_takeInto 20 = .ok (.aload_n 0, 1) := by decide +kernel
theorem dX4_takeInto_21 : decode cX4_takeInto 21 = .ok (.getfield 9, 3) := by decide +kernel
theorem dX4_takeInto_24 : decode cX4_takeInto 24 = .ok (.aload_n 0, 1) := by decide +kernel
theorem dX4_takeInto_25 : decode cX4_takeInto 25 = .ok (.aload_n 0, 1) := by decide +kernel
theorem dX4_takeInto_26 : decode cX4_takeInto 26 = .ok (.getfield 20, 3) := by decide +kernel
theorem dX4_takeInto_29 : decode cX4_takeInto 29 = .ok (.invokevirtual 23, 3) := by decide +kernel
theorem dX4_takeInto_32 : decode cX4_takeInto 32 = .ok (.aaload, 1) := by decide +kernel
theorem dX4_takeInto_33 : decode cX4_takeInto 33 = .ok (.invokevirtual 27, 3) := by decide +kernel
theorem dX4_takeInto_36 : decode cX4_takeInto 36 = .ok (.iconst 1, 1) := by decide +kernel
theorem dX4_takeInto_37 : decode cX4_takeInto 37 = .ok (.ireturn, 1) := by decide +kernel
theorem dX5_init_0 : decode cX5_init 0 = .ok (.aload_n 0, 1) := by decide +kernel
theorem dX5_init_1 : decode cX5_init 1 = .ok (.invokespecial 3, 3) := by decide +kernel
theorem dX5_init_4 : decode cX5_init 4 = .ok (.aload_n 0, 1) := by decide +kernel
theorem dX5_init_5 : decode cX5_init 5 = .ok (.iconst 5, 1) := by decide +kernel
theorem dX5_init_6 : decode cX5_init 6 = .ok (.newarray .int, 2) := by decide +kernel
theorem dX5_init_8 : decode cX5_init 8 = .ok (.putfield 11, 3) := by decide +kernel
theorem dX5_init_11 : decode cX5_init 11 = .ok (.return_, 1) := by decide +kernel
theorem dX5_readAll_0 : decode cX5_readAll 0 = .ok (.aload_n 2, 1) := by decide +kernel
theorem dX5_readAll_1 : decode cX5_readAll 1 = .ok (.invokevirtual 15, 3) := by decide +kernel
theorem dX5_readAll_4 : decode cX5_readAll 4 = .ok (.iconst 0, 1) := by decide +kernel
theorem dX5_readAll_5 : decode cX5_readAll 5 = .ok (.istore_n 3, 1) := by decide +kernel
theorem dX5_readAll_6 : decode cX5_readAll 6 = .ok (.iconst 0, 1) := by decide +kernel
theorem dX5_readAll_7 : decode cX5_readAll 7 = .ok (.istore 4, 2) := by decide +kernel
theorem dX5_readAll_9 : decode cX5_readAll 9 = .ok (.iload 4, 2) := by decide +kernel
theorem dX5_readAll_11 : decode cX5_readAll 11 = .ok (.sipush 200, 3) := by decide +kernel
theorem dX5_readAll_14 : decode cX5_readAll 14 = .ok (.if_icmp .ge 38, 3) := by decide +kernel
theorem dX5_readAll_17 : decode cX5_readAll 17 = .ok (.iload_n 3, 1) := by decide +kernel
theorem dX5_readAll_18 : decode cX5_readAll 18 = .ok (.aload_n 1, 1) := by decide +kernel
theorem dX5_readAll_19 : decode cX5_readAll 19 = .ok (.getfield 20, 3) := by decide +kernel
theorem dX5_readAll_22 : decode cX5_readAll 22 = .ok (.if_icmp .ge 30, 3) := by decide +kernel
theorem dX5_readAll_25 : decode cX5_readAll 25 = .ok (.aload_n 0, 1) := by decide +kernel
theorem dX5_readAll_26 : decode cX5_readAll 26 = .ok (.aload_n 1, 1) := by decide +kernel
theorem dX5_readAll_27 : decode cX5_readAll 27 = .ok (.iload_n 3, 1) := by decide +kernel
theorem dX5_readAll_28 : decode cX5_readAll 28 = .ok (.aload_n 2, 1) := by decide +kernel
theorem dX5_readAll_29 : decode cX5_readAll 29 = .ok (.invokevirtual 26, 3) := by decide +kernel
theorem dX5_readAll_32 : decode cX5_readAll 32 = .ok (.istore 5, 2) := by decide +kernel
theorem dX5_readAll_34 : decode cX5_readAll 34 = .ok (.iload 5, 2) := by decide +kernel
theorem dX5_readAll_36 : decode cX5_readAll 36 = .ok (.bipush (-4), 2) := by decide +kernel
theorem dX5_readAll_38 : decode cX5_readAll 38 = .ok (.if_icmp .ne 5, 3) := by decide +kernel
theorem dX5_readAll_41 : decode cX5_readAll 41 = .ok (.iload_n 3, 1) := by decide +kernel
theorem dX5_readAll_42 : decode cX5_readAll 42 = .ok (.ireturn, 1) := by decide +kernel
theorem dX5_readAll_43 : decode cX5_readAll 43 = .ok (.iload 5, 2) := by decide +kernel
theorem dX5_readAll_45 : decode cX5_readAll 45 = .ok (.istore_n 3, 1) := by decide +kernel
theorem dX5_readAll_46 : decode cX5_readAll 46 = .ok (.iinc 4 1, 3) := by decide +kernel
theorem dX5_readAll_49 : decode cX5_readAll 49 = .ok (.goto (-40), 3) := by decide +kernel
theorem dX5_readAll_52 : decode cX5_readAll 52 = .ok (.bipush (-4), 2) := by decide +kernel
theorem dX5_readAll_54 : decode cX5_readAll 54 = .ok (.ireturn, 1) := by decide +kernel
theorem dX5_readItem_0 : decode cX5_readItem 0 = .ok (.aload_n 1, 1) := by decide +kernel
theorem dX5_readItem_1 : decode cX5_readItem 1 = .ok (.iload_n 2, 1) := by decide +kernel
theorem dX5_readItem_2 : decode cX5_readItem 2 = .ok (.invokevirtual 30, 3) := by decide +kernel
theorem dX5_readItem_5 : decode cX5_readItem 5 = .ok (.istore 4, 2) := by decide +kernel
theorem dX5_readItem_7 : decode cX5_readItem 7 = .ok (.iload 4, 2) := by decide +kernel
theorem dX5_readItem_9 : decode cX5_readItem 9 = .ok (.invokestatic 34, 3) := by decide +kernel
theorem dX5_readItem_12 : decode cX5_readItem 12 = .ok (.istore 5, 2) := by decide +kernel
theorem dX5_readItem_14 : decode cX5_readItem 14 = .ok (.iload 5, 2) := by decide +kernel
theorem dX5_readItem_16 : decode cX5_readItem 16 = .ok (.ifCond .ne 6, 3) := by decide +kernel
theorem dX5_readItem_19 : decode cX5_readItem 19 = .ok (.bipush (-4), 2) := by decide +kernel
theorem dX5_readItem_21 : decode cX5_readItem 21 = .ok (.ireturn, 1) := by decide +kernel
theorem dX5_readItem_22 : decode cX5_readItem 22 = .ok (.iload_n 2, 1) := by decide +kernel
theorem dX5_readItem_23 : decode cX5_readItem 23 = .ok (.iconst 1, 1) := by decide +kernel
theorem dX5_readItem_24 : decode cX5_readItem 24 = .ok (.iadd, 1) := by decide +kernel
theorem dX5_readItem_25 : decode cX5_readItem 25 = .ok (.istore 6, 2) := by decide +kernel
theorem dX5_readItem_27 : decode cX5_readItem 27 = .ok (.iconst 0, 1) := by decide +kernel
theorem dX5_readItem_28 : decode cX5_readItem 28 = .ok (.istore 7, 2) := by decide +kernel
theorem dX5_readItem_30 : decode cX5_readItem 30 = .ok (.iload 7, 2) := by decide +kernel
theorem dX5_readItem_32 : decode cX5_readItem 32 = .ok (.iload 5, 2) := by decide +kernel
theorem dX5_readItem_34 : decode cX5_readItem 34 = .ok (.if_icmp .ge 92, 3) := by decide +kernel
theorem dX5_readItem_37 : decode cX5_readItem 37 = .ok (.aload_n 1, 1) := by decide +kernel
theorem dX5_readItem_38 : decode cX5_readItem 38 = .ok (.iload 6, 2) := by decide +kernel
theorem dX5_readItem_40 : decode cX5_readItem 40 = .ok (.invokevirtual 37, 3) := by decide +kernel
theorem dX5_readItem_43 : decode cX5_readItem 43 = .ok (.ifCond .ne 6, 3) := by decide +kernel
theorem dX5_readItem_46 : decode cX5_readItem 46 = .ok (.bipush (-4), 2) := by decide +kernel
theorem dX5_readItem_48 : decode cX5_readItem 48 = .ok (.ireturn, 1) := by decide +kernel
theorem dX5_readItem_49 : decode cX5_readItem 49 = .ok (.aload_n 1, 1) := by decide +kernel
theorem dX5_readItem_50 : decode cX5_readItem 50 = .ok (.iload 6, 2) := by decide +kernel
theorem dX5_readItem_52 : decode cX5_readItem 52 = .ok (.iconst 1, 1) := by decide +kernel
theorem dX5_readItem_53 : decode cX5_readItem 53 = .ok (.iadd, 1) := by decide +kernel
theorem dX5_readItem_54 : decode cX5_readItem 54 = .ok (.invokevirtual 37, 3) := by decide +kernel
theorem dX5_readItem_57 : decode cX5_readItem 57 = .ok (.ifCond .eq 7, 3) := by decide +kernel
theorem dX5_readItem_60 : decode cX5_readItem 60 = .ok (.iconst 2, 1) := by decide +kernel
theorem dX5_readItem_61 : decode cX5_readItem 61 = .ok (.goto 4, 3) := by decide +kernel
theorem dX5_readItem_64 : decode cX5_readItem 64 = .ok (.iconst 1, 1) := by decide +kernel
theorem dX5_readItem_65 : decode cX5_readItem 65 = .ok (.istore 8, 2) := by decide +kernel
theorem dX5_readItem_67 : decode cX5_readItem 67 = .ok (.aload_n 0, 1) := by decide +kernel
theorem dX5_readItem_68 : decode cX5_readItem 68 = .ok (.getfield 11, 3) := by decide +kernel
theorem dX5_readItem_71 : decode cX5_readItem 71 = .ok (.iload 7, 2) := by decide +kernel
theorem dX5_readItem_73 : decode cX5_readItem 73 = .ok (.aload_n 1, 1) := by decide +kernel
theorem dX5_readItem_74 : decode cX5_readItem 74 = .ok (.iload 6, 2) := by decide +kernel
theorem dX5_readItem_76 : decode cX5_readItem 76 = .ok (.iload 8, 2) := by decide +kernel
theorem dX5_readItem_78 : decode cX5_readItem 78 = .ok (.invokestatic 41, 3) := by decide +kernel
theorem dX5_readItem_81 : decode cX5_readItem 81 = .ok (.iastore, 1) := by decide +kernel
theorem dX5_readItem_82 : decode cX5_readItem 82 = .ok (.iload 6, 2) := by decide +kernel
theorem dX5_readItem_84 : decode cX5_readItem 84 = .ok (.iload 8, 2) := by decide +kernel
theorem dX5_readItem_86 : decode cX5_readItem 86 = .ok (.iadd, 1) := by decide +kernel
theorem dX5_readItem_87 : decode cX5_readItem 87 = .ok (.istore 6, 2) := by decide +kernel
theorem dX5_readItem_89 : decode cX5_readItem 89 = .ok (.aload_n 1, 1) := by decide +kernel
theorem dX5_readItem_90 : decode cX5_readItem 90 = .ok (.iload 6, 2) := by decide +kernel
theorem dX5_readItem_92 : decode cX5_readItem 92 = .ok (.invokevirtual 30, 3) := by decide +kernel
theorem dX5_readItem_95 : decode cX5_readItem 95 = .ok (.iload 7, 2) := by decide +kernel
theorem dX5_readItem_97 : decode cX5_readItem 97 = .ok (.iload 5, 2) := by decide +kernel
theorem dX5_readItem_99 : decode cX5_readItem 99 = .ok (.iconst 1, 1) := by decide +kernel
theorem dX5_readItem_100 : decode cX5_readItem 100 = .ok (.isub, 1) := by decide +kernel
theorem dX5_readItem_101 : decode cX5_readItem 101 = .ok (.if_icmp .ne 8, 3) := by decide +kernel
theorem dX5_readItem_104 : decode cX5_readItem 104 = .ok (.bipush 59, 2) := by decide +kernel
theorem dX5_readItem_106 : decode cX5_readItem 106 = .ok (.goto 5, 3) := by decide +kernel
theorem dX5_readItem_109 : decode cX5_readItem 109 = .ok (.bipush 44, 2) := by decide +kernel
theorem dX5_readItem_111 : decode cX5_readItem 111 = .ok (.if_icmp .eq 6, 3) := by decide +kernel
theorem dX5_readItem_114 : decode cX5_readItem 114 = .ok (.bipush (-4), 2) := by decide +kernel
theorem dX5_readItem_116 : decode cX5_readItem 116 = .ok (.ireturn, 1) := by decide +kernel
theorem dX5_readItem_117 : decode cX5_readItem 117 = .ok (.iinc 6 1, 3) := by decide +kernel
theorem dX5_readItem_120 : decode cX5_readItem 120 = .ok (.iinc 7 1, 3) := by decide +kernel
theorem dX5_readItem_123 : decode cX5_readItem 123 = .ok (.goto (-93), 3) := by decide +kernel
theorem dX5_readItem_126 : decode cX5_readItem 126 = .ok (.aload_n 3, 1) := by decide +kernel
theorem dX5_readItem_127 : decode cX5_readItem 127 = .ok (.iload 4, 2) := by decide +kernel
theorem dX5_readItem_129 : decode cX5_readItem 129 = .ok (.aload_n 0, 1) := by decide +kernel
theorem dX5_readItem_130 : decode cX5_readItem 130 = .ok (.getfield 11, 3) := by decide +kernel
theorem dX5_readItem_133 : decode cX5_readItem 133 = .ok (.invokevirtual 45, 3) := by decide +kernel
theorem dX5_readItem_136 : decode cX5_readItem 136 = .ok (.ifCond .eq 8, 3) := by decide +kernel
theorem dX5_readItem_139 : decode cX5_readItem 139 = .ok (.iload 6, 2) := by decide +kernel
theorem dX5_readItem_141 : decode cX5_readItem 141 = .ok (.goto 5, 3) := by decide +kernel
theorem dX5_readItem_144 : decode cX5_readItem 144 = .ok (.bipush (-4), 2) := by decide +kernel
theorem dX5_readItem_146 : decode cX5_readItem 146 = .ok (.ireturn, 1) := by decide +kernel
theorem dX5_numbersBehind_0 : decode cX5_numbersBehind 0 = .ok (.iload_n 0, 1) := by decide +kernel
theorem dX5_numbersBehind_1 : decode cX5_numbersBehind 1 = .ok (.lookupswitch 51 #[(98, 49), (102, 47), (115, 45), (116, 43)], 43) := by decide +kernel
theorem dX5_numbersBehind_44 : decode cX5_numbersBehind 44 = .ok (.iconst 5, 1) := by decide +kernel
theorem dX5_numbersBehind_45 : decode cX5_numbersBehind 45 = .ok (.ireturn, 1) := by decide +kernel
theorem dX5_numbersBehind_46 : decode cX5_numbersBehind 46 = .ok (.iconst 2, 1) := by decide +kernel
theorem dX5_numbersBehind_47 : decode cX5_numbersBehind 47 = .ok (.ireturn, 1) := by decide +kernel
theorem dX5_numbersBehind_48 : decode cX5_numbersBehind 48 = .ok (.iconst 3, 1) := by decide +kernel
theorem dX5_numbersBehind_49 : decode cX5_numbersBehind 49 = .ok (.ireturn, 1) := by decide +kernel
theorem dX5_numbersBehind_50 : decode cX5_numbersBehind 50 = .ok (.iconst 1, 1) := by decide +kernel
theorem dX5_numbersBehind_51 : decode cX5_numbersBehind 51 = .ok (.ireturn, 1) := by decide +kernel
theorem dX5_numbersBehind_52 : decode cX5_numbersBehind 52 = .ok (.iconst 0, 1) := by decide +kernel
theorem dX5_numbersBehind_53 : decode cX5_numbersBehind 53 = .ok (.ireturn, 1) := by decide +kernel
theorem dX5_numberAt_0 : decode cX5_numberAt 0 = .ok (.iconst 0, 1) := by decide +kernel
theorem dX5_numberAt_1 : decode cX5_numberAt 1 = .ok (.istore_n 3, 1) := by decide +kernel
theorem dX5_numberAt_2 : decode cX5_numberAt 2 = .ok (.iconst 0, 1) := by decide +kernel
theorem dX5_numberAt_3 : decode cX5_numberAt 3 = .ok (.istore 4, 2) := by decide +kernel
theorem dX5_numberAt_5 : decode cX5_numberAt 5 = .ok (.iload 4, 2) := by decide +kernel
theorem dX5_numberAt_7 : decode cX5_numberAt 7 = .ok (.iload_n 2, 1) := by decide +kernel
theorem dX5_numberAt_8 : decode cX5_numberAt 8 = .ok (.if_icmp .ge 26, 3) := by decide +kernel
theorem dX5_numberAt_11 : decode cX5_numberAt 11 = .ok (.iload_n 3, 1) := by decide +kernel
theorem dX5_numberAt_12 : decode cX5_numberAt 12 = .ok (.bipush 10, 2) := by decide +kernel
theorem dX5_numberAt_14 : decode cX5_numberAt 14 = .ok (.imul, 1) := by decide +kernel
theorem dX5_numberAt_15 : decode cX5_numberAt 15 = .ok (.aload_n 0, 1) := by decide +kernel
theorem dX5_numberAt_16 : decode cX5_numberAt 16 = .ok (.iload_n 1, 1) := by decide +kernel
theorem dX5_numberAt_17 : decode cX5_numberAt 17 = .ok (.iload 4, 2) := by decide +kernel
theorem dX5_numberAt_19 : decode cX5_numberAt 19 = .ok (.iadd, 1) := by decide +kernel
theorem dX5_numberAt_20 : decode cX5_numberAt 20 = .ok (.invokevirtual 30, 3) := by decide +kernel
theorem dX5_numberAt_23 : decode cX5_numberAt 23 = .ok (.iadd, 1) := by decide +kernel
theorem dX5_numberAt_24 : decode cX5_numberAt 24 = .ok (.bipush 48, 2) := by decide +kernel
theorem dX5_numberAt_26 : decode cX5_numberAt 26 = .ok (.isub, 1) := by decide +kernel
theorem dX5_numberAt_27 : decode cX5_numberAt 27 = .ok (.istore_n 3, 1) := by decide +kernel
theorem dX5_numberAt_28 : decode cX5_numberAt 28 = .ok (.iinc 4 1, 3) := by decide +kernel
theorem dX5_numberAt_31 : decode cX5_numberAt 31 = .ok (.goto (-26), 3) := by decide +kernel
theorem dX5_numberAt_34 : decode cX5_numberAt 34 = .ok (.iload_n 3, 1) := by decide +kernel
theorem dX5_numberAt_35 : decode cX5_numberAt 35 = .ok (.ireturn, 1) := by decide +kernel
theorem dX6_init_0 : decode cX6_init 0 = .ok (.aload_n 0, 1) := by decide +kernel
theorem dX6_init_1 : decode cX6_init 1 = .ok (.invokespecial 3, 3) := by decide +kernel
theorem dX6_init_4 : decode cX6_init 4 = .ok (.aload_n 0, 1) := by decide +kernel
theorem dX6_init_5 : decode cX6_init 5 = .ok (.bipush 6, 2) := by decide +kernel
theorem dX6_init_7 : decode cX6_init 7 = .ok (.bipush 6, 2) := by decide +kernel
theorem dX6_init_9 : decode cX6_init 9 = .ok (.multianewarray 9 2, 4) := by decide +kernel
theorem dX6_init_13 : decode cX6_init 13 = .ok (.putfield 11, 3) := by decide +kernel
theorem dX6_init_16 : decode cX6_init 16 = .ok (.aload_n 0, 1) := by decide +kernel
theorem dX6_init_17 : decode cX6_init 17 = .ok (.bipush 6, 2) := by decide +kernel
theorem dX6_init_19 : decode cX6_init 19 = .ok (.newarray .int, 2) := by decide +kernel
theorem dX6_init_21 : decode cX6_init 21 = .ok (.putfield 16, 3) := by decide +kernel
theorem dX6_init_24 : decode cX6_init 24 = .ok (.aload_n 0, 1) := by decide +kernel
theorem dX6_init_25 : decode cX6_init 25 = .ok (.bipush 6, 2) := by decide +kernel
theorem dX6_init_27 : decode cX6_init 27 = .ok (.newarray .int, 2) := by decide +kernel
theorem dX6_init_29 : decode cX6_init 29 = .ok (.putfield 20, 3) := by decide +kernel
theorem dX6_init_32 : decode cX6_init 32 = .ok (.return_, 1) := by decide +kernel
theorem dX6_run_0 : decode cX6_run 0 = .ok (.aload_n 0, 1) := by decide +kernel
theorem dX6_run_1 : decode cX6_run 1 = .ok (.aload_n 1, 1) := by decide +kernel
theorem dX6_run_2 : decode cX6_run 2 = .ok (.aload_n 2, 1) := by decide +kernel
theorem dX6_run_3 : decode cX6_run 3 = .ok (.invokevirtual 23, 3) := by decide +kernel
theorem dX6_run_6 : decode cX6_run 6 = .ok (.aload_n 2, 1) := by decide +kernel
theorem dX6_run_7 : decode cX6_run 7 = .ok (.aload_n 1, 1) := by decide +kernel
theorem dX6_run_8 : decode cX6_run 8 = .ok (.invokevirtual 27, 3) := by decide +kernel
theorem dX6_run_11 : decode cX6_run 11 = .ok (.istore 4, 2) := by decide +kernel
theorem dX6_run_13 : decode cX6_run 13 = .ok (.iconst 1, 1) := by decide +kernel
theorem dX6_run_14 : decode cX6_run 14 = .ok (.istore 5, 2) := by decide +kernel
theorem dX6_run_16 : decode cX6_run 16 = .ok (.iconst 0, 1) := by decide +kernel
theorem dX6_run_17 : decode cX6_run 17 = .ok (.istore 6, 2) := by decide +kernel
theorem dX6_run_19 : decode cX6_run 19 = .ok (.iload 6, 2) := by decide +kernel
theorem dX6_run_21 : decode cX6_run 21 = .ok (.sipush 720, 3) := by decide +kernel
theorem dX6_run_24 : decode cX6_run 24 = .ok (.if_icmp .ge 134, 3) := by decide +kernel
theorem dX6_run_27 : decode cX6_run 27 = .ok (.iload 5, 2) := by decide +kernel
theorem dX6_run_29 : decode cX6_run 29 = .ok (.ifCond .eq 129, 3) := by decide +kernel
theorem dX6_run_32 : decode cX6_run 32 = .ok (.iconst 0, 1) := by decide +kernel
theorem dX6_run_33 : decode cX6_run 33 = .ok (.istore 7, 2) := by decide +kernel
theorem dX6_run_35 : decode cX6_run 35 = .ok (.iload 7, 2) := by decide +kernel
theorem dX6_run_37 : decode cX6_run 37 = .ok (.aload_n 1, 1) := by decide +kernel
theorem dX6_run_38 : decode cX6_run 38 = .ok (.getfield 33, 3) := by decide +kernel
theorem dX6_run_41 : decode cX6_run 41 = .ok (.if_icmp .ge 31, 3) := by decide +kernel
theorem dX6_run_44 : decode cX6_run 44 = .ok (.aload_n 3, 1) := by decide +kernel
theorem dX6_run_45 : decode cX6_run 45 = .ok (.getfield 39, 3) := by decide +kernel
theorem dX6_run_48 : decode cX6_run 48 = .ok (.iload 7, 2) := by decide +kernel
theorem dX6_run_50 : decode cX6_run 50 = .ok (.aload_n 0, 1) := by decide +kernel
theorem dX6_run_51 : decode cX6_run 51 = .ok (.getfield 11, 3) := by decide +kernel
theorem dX6_run_54 : decode cX6_run 54 = .ok (.iload 7, 2) := by decide +kernel
theorem dX6_run_56 : decode cX6_run 56 = .ok (.aaload, 1) := by decide +kernel
theorem dX6_run_57 : decode cX6_run 57 = .ok (.aload_n 0, 1) := by decide +kernel
theorem dX6_run_58 : decode cX6_run 58 = .ok (.getfield 16, 3) := by decide +kernel
theorem dX6_run_61 : decode cX6_run 61 = .ok (.iload 7, 2) := by decide +kernel
theorem dX6_run_63 : decode cX6_run 63 = .ok (.iaload, 1) := by decide +kernel
theorem dX6_run_64 : decode cX6_run 64 = .ok (.iaload, 1) := by decide +kernel
theorem dX6_run_65 : decode cX6_run 65 = .ok (.iastore, 1) := by decide +kernel
theorem dX6_run_66 : decode cX6_run 66 = .ok (.iinc 7 1, 3) := by decide +kernel
theorem dX6_run_69 : decode cX6_run 69 = .ok (.goto (-34), 3) := by decide +kernel
theorem dX6_run_72 : decode cX6_run 72 = .ok (.aload_n 3, 1) := by decide +kernel
theorem dX6_run_73 : decode cX6_run 73 = .ok (.aload_n 1, 1) := by decide +kernel
theorem dX6_run_74 : decode cX6_run 74 = .ok (.iload 4, 2) := by decide +kernel
theorem dX6_run_76 : decode cX6_run 76 = .ok (.aload_n 2, 1) := by decide +kernel
theorem dX6_run_77 : decode cX6_run 77 = .ok (.getfield 44, 3) := by decide +kernel
theorem dX6_run_80 : decode cX6_run 80 = .ok (.invokevirtual 47, 3) := by decide +kernel
theorem dX6_run_83 : decode cX6_run 83 = .ok (.aload_n 3, 1) := by decide +kernel
theorem dX6_run_84 : decode cX6_run 84 = .ok (.aload_n 1, 1) := by decide +kernel
theorem dX6_run_85 : decode cX6_run 85 = .ok (.invokevirtual 51, 3) := by decide +kernel
theorem dX6_run_88 : decode cX6_run 88 = .ok (.invokestatic 54, 3) := by decide +kernel
theorem dX6_run_91 : decode cX6_run 91 = .ok (.istore 7, 2) := by decide +kernel
theorem dX6_run_93 : decode cX6_run 93 = .ok (.iload 7, 2) := by decide +kernel
theorem dX6_run_95 : decode cX6_run 95 = .ok (.aload_n 0, 1) := by decide +kernel
theorem dX6_run_96 : decode cX6_run 96 = .ok (.getfield 60, 3) := by decide +kernel
theorem dX6_run_99 : decode cX6_run 99 = .ok (.if_icmp .le 24, 3) := by decide +kernel
theorem dX6_run_102 : decode cX6_run 102 = .ok (.aload_n 0, 1) := by decide +kernel
theorem dX6_run_103 : decode cX6_run 103 = .ok (.iload 7, 2) := by decide +kernel
theorem dX6_run_105 : decode cX6_run 105 = .ok (.putfield 60, 3) := by decide +kernel
theorem dX6_run_108 : decode cX6_run 108 = .ok (.aload_n 0, 1) := by decide +kernel
theorem dX6_run_109 : decode cX6_run 109 = .ok (.getfield 16, 3) := by decide +kernel
theorem dX6_run_112 : decode cX6_run 112 = .ok (.iconst 0, 1) := by decide +kernel
theorem dX6_run_113 : decode cX6_run 113 = .ok (.aload_n 0, 1) := by decide +kernel
theorem dX6_run_114 : decode cX6_run 114 = .ok (.getfield 20, 3) := by decide +kernel
theorem dX6_run_117 : decode cX6_run 117 = .ok (.iconst 0, 1) := by decide +kernel
theorem dX6_run_118 : decode cX6_run 118 = .ok (.bipush 6, 2) := by decide +kernel
theorem dX6_run_120 : decode cX6_run 120 = .ok (.invokestatic 63, 3) := by decide +kernel
theorem dX6_run_123 : decode cX6_run 123 = .ok (.aload_n 0, 1) := by decide +kernel
theorem dX6_run_124 : decode cX6_run 124 = .ok (.getfield 60, 3) := by decide +kernel
theorem dX6_run_127 : decode cX6_run 127 = .ok (.aload_n 1, 1) := by decide +kernel
theorem dX6_run_128 : decode cX6_run 128 = .ok (.getfield 69, 3) := by decide +kernel
theorem dX6_run_131 : decode cX6_run 131 = .ok (.if_icmp .ge 18, 3) := by decide +kernel
theorem dX6_run_134 : decode cX6_run 134 = .ok (.aload_n 0, 1) := by decide +kernel
theorem dX6_run_135 : decode cX6_run 135 = .ok (.aload_n 1, 1) := by decide +kernel
theorem dX6_run_136 : decode cX6_run 136 = .ok (.getfield 33, 3) := by decide +kernel
theorem dX6_run_139 : decode cX6_run 139 = .ok (.invokevirtual 72, 3) := by decide +kernel
theorem dX6_run_142 : decode cX6_run 142 = .ok (.ifCond .eq 7, 3) := by decide +kernel
theorem dX6_run_145 : decode cX6_run 145 = .ok (.iconst 1, 1) := by decide +kernel
theorem dX6_run_146 : decode cX6_run 146 = .ok (.goto 4, 3) := by decide +kernel
theorem dX6_run_149 : decode cX6_run 149 = .ok (.iconst 0, 1) := by decide +kernel
theorem dX6_run_150 : decode cX6_run 150 = .ok (.istore 5, 2) := by decide +kernel
theorem dX6_run_152 : decode cX6_run 152 = .ok (.iinc 6 1, 3) := by decide +kernel
theorem dX6_run_155 : decode cX6_run 155 = .ok (.goto (-136), 3) := by decide +kernel
theorem dX6_run_158 : decode cX6_run 158 = .ok (.return_, 1) := by decide +kernel
theorem dX6_prepare_0 : decode cX6_prepare 0 = .ok (.aload_n 0, 1) := by decide +kernel
theorem dX6_prepare_1 : decode cX6_prepare 1 = .ok (.iconst (-1), 1) := by decide +kernel
theorem dX6_prepare_2 : decode cX6_prepare 2 = .ok (.putfield 60, 3) := by decide +kernel
theorem dX6_prepare_5 : decode cX6_prepare 5 = .ok (.iconst 0, 1) := by decide +kernel
theorem dX6_prepare_6 : decode cX6_prepare 6 = .ok (.istore_n 3, 1) := by decide +kernel
theorem dX6_prepare_7 : decode cX6_prepare 7 = .ok (.iload_n 3, 1) := by decide +kernel
theorem dX6_prepare_8 : decode cX6_prepare 8 = .ok (.aload_n 1, 1) := by decide +kernel
theorem dX6_prepare_9 : decode cX6_prepare 9 = .ok (.getfield 33, 3) := by decide +kernel
theorem dX6_prepare_12 : decode cX6_prepare 12 = .ok (.if_icmp .ge 66, 3) := by decide +kernel
theorem dX6_prepare_15 : decode cX6_prepare 15 = .ok (.aload_n 0, 1) := by decide +kernel
theorem dX6_prepare_16 : decode cX6_prepare 16 = .ok (.getfield 16, 3) := by decide +kernel
theorem dX6_prepare_19 : decode cX6_prepare 19 = .ok (.iload_n 3, 1) := by decide +kernel
theorem dX6_prepare_20 : decode cX6_prepare 20 = .ok (.iload_n 3, 1) := by decide +kernel
theorem dX6_prepare_21 : decode cX6_prepare 21 = .ok (.iastore, 1) := by decide +kernel
theorem dX6_prepare_22 : decode cX6_prepare 22 = .ok (.iconst 0, 1) := by decide +kernel
theorem dX6_prepare_23 : decode cX6_prepare 23 = .ok (.istore 4, 2) := by decide +kernel
theorem dX6_prepare_25 : decode cX6_prepare 25 = .ok (.iload 4, 2) := by decide +kernel
theorem dX6_prepare_27 : decode cX6_prepare 27 = .ok (.aload_n 1, 1) := by decide +kernel
theorem dX6_prepare_28 : decode cX6_prepare 28 = .ok (.getfield 33, 3) := by decide +kernel
theorem dX6_prepare_31 : decode cX6_prepare 31 = .ok (.if_icmp .ge 41, 3) := by decide +kernel
theorem dX6_prepare_34 : decode cX6_prepare 34 = .ok (.aload_n 0, 1) := by decide +kernel
theorem dX6_prepare_35 : decode cX6_prepare 35 = .ok (.getfield 11, 3) := by decide +kernel
theorem dX6_prepare_38 : decode cX6_prepare 38 = .ok (.iload_n 3, 1) := by decide +kernel
theorem dX6_prepare_39 : decode cX6_prepare 39 = .ok (.aaload, 1) := by decide +kernel
theorem dX6_prepare_40 : decode cX6_prepare 40 = .ok (.iload 4, 2) := by decide +kernel
theorem dX6_prepare_42 : decode cX6_prepare 42 = .ok (.aload_n 1, 1) := by decide +kernel
theorem dX6_prepare_43 : decode cX6_prepare 43 = .ok (.iload_n 3, 1) := by decide +kernel
theorem dX6_prepare_44 : decode cX6_prepare 44 = .ok (.aload_n 2, 1) := by decide +kernel
theorem dX6_prepare_45 : decode cX6_prepare 45 = .ok (.getfield 76, 3) := by decide +kernel
theorem dX6_prepare_48 : decode cX6_prepare 48 = .ok (.iload 4, 2) := by decide +kernel
theorem dX6_prepare_50 : decode cX6_prepare 50 = .ok (.iaload, 1) := by decide +kernel
theorem dX6_prepare_51 : decode cX6_prepare 51 = .ok (.aload_n 2, 1) := by decide +kernel
theorem dX6_prepare_52 : decode cX6_prepare 52 = .ok (.getfield 79, 3) := by decide +kernel
theorem dX6_prepare_55 : decode cX6_prepare 55 = .ok (.iload 4, 2) := by decide +kernel
theorem dX6_prepare_57 : decode cX6_prepare 57 = .ok (.iaload, 1) := by decide +kernel
theorem dX6_prepare_58 : decode cX6_prepare 58 = .ok (.aload_n 2, 1) := by decide +kernel
theorem dX6_prepare_59 : decode cX6_prepare 59 = .ok (.getfield 82, 3) := by decide +kernel
theorem dX6_prepare_62 : decode cX6_prepare 62 = .ok (.invokevirtual 85, 3) := by decide +kernel
theorem dX6_prepare_65 : decode cX6_prepare 65 = .ok (.iastore, 1) := by decide +kernel
theorem dX6_prepare_66 : decode cX6_prepare 66 = .ok (.iinc 4 1, 3) := by decide +kernel
theorem dX6_prepare_69 : decode cX6_prepare 69 = .ok (.goto (-44), 3) := by decide +kernel
theorem dX6_prepare_72 : decode cX6_prepare 72 = .ok (.iinc 3 1, 3) := by decide +kernel
theorem dX6_prepare_75 : decode cX6_prepare 75 = .ok (.goto (-68), 3) := by decide +kernel
theorem dX6_prepare_78 : decode cX6_prepare 78 = .ok (.return_, 1) := by decide +kernel
theorem dX6_nextWay_0 : decode cX6_nextWay 0 = .ok (.iload_n 1, 1) := by decide +kernel
theorem dX6_nextWay_1 : decode cX6_nextWay 1 = .ok (.iconst 2, 1) := by decide +kernel
theorem dX6_nextWay_2 : decode cX6_nextWay 2 = .ok (.isub, 1) := by decide +kernel
theorem dX6_nextWay_3 : decode cX6_nextWay 3 = .ok (.istore_n 2, 1) := by decide +kernel
theorem dX6_nextWay_4 : decode cX6_nextWay 4 = .ok (.iload_n 2, 1) := by decide +kernel
theorem dX6_nextWay_5 : decode cX6_nextWay 5 = .ok (.ifCond .lt 26, 3) := by decide +kernel
theorem dX6_nextWay_8 : decode cX6_nextWay 8 = .ok (.aload_n 0, 1) := by decide +kernel
theorem dX6_nextWay_9 : decode cX6_nextWay 9 = .ok (.getfield 16, 3) := by decide +kernel
theorem dX6_nextWay_12 : decode cX6_nextWay 12 = .ok (.iload_n 2, 1) := by decide +kernel
theorem dX6_nextWay_13 : decode cX6_nextWay 13 = .ok (.iaload, 1) := by decide +kernel
theorem dX6_nextWay_14 : decode cX6_nextWay 14 = .ok (.aload_n 0, 1) := by decide +kernel
theorem dX6_nextWay_15 : decode cX6_nextWay 15 = .ok (.getfield 16, 3) := by decide +kernel
theorem dX6_nextWay_18 : decode cX6_nextWay 18 = .ok (.iload_n 2, 1) := by decide +kernel
theorem dX6_nextWay_19 : decode cX6_nextWay 19 = .ok (.iconst 1, 1) := by decide +kernel
theorem dX6_nextWay_20 : decode cX6_nextWay 20 = .ok (.iadd, 1) := by decide +kernel
theorem dX6_nextWay_21 : decode cX6_nextWay 21 = .ok (.iaload, 1) := by decide +kernel
theorem dX6_nextWay_22 : decode cX6_nextWay 22 = .ok (.if_icmp .le 9, 3) := by decide +kernel
theorem dX6_nextWay_25 : decode cX6_nextWay 25 = .ok (.iinc 2 (-1), 3) := by decide +kernel
theorem dX6_nextWay_28 : decode cX6_nextWay 28 = .ok (.goto (-24), 3) := by decide +kernel
theorem dX6_nextWay_31 : decode cX6_nextWay 31 = .ok (.iload_n 2, 1) := by decide +kernel
theorem dX6_nextWay_32 : decode cX6_nextWay 32 = .ok (.ifCond .ge 5, 3) := by decide +kernel
theorem dX6_nextWay_35 : decode cX6_nextWay 35 = .ok (.iconst 0, 1) := by decide +kernel
theorem dX6_nextWay_36 : decode cX6_nextWay 36 = .ok (.ireturn, 1) := by decide +kernel
theorem dX6_nextWay_37 : decode cX6_nextWay 37 = .ok (.iload_n 1, 1) := by decide +kernel
theorem dX6_nextWay_38 : decode cX6_nextWay 38 = .ok (.iconst 1, 1) := by decide +kernel
theorem dX6_nextWay_39 : decode cX6_nextWay 39 = .ok (.isub, 1) := by decide +kernel
theorem dX6_nextWay_40 : decode cX6_nextWay 40 = .ok (.istore_n 3, 1) := by decide +kernel
theorem dX6_nextWay_41 : decode cX6_nextWay 41 = .ok (.iload_n 3, 1) := by decide +kernel
theorem dX6_nextWay_42 : decode cX6_nextWay 42 = .ok (.iload_n 2, 1) := by decide +kernel
theorem dX6_nextWay_43 : decode cX6_nextWay 43 = .ok (.if_icmp .le 24, 3) := by decide +kernel
theorem dX6_nextWay_46 : decode cX6_nextWay 46 = .ok (.aload_n 0, 1) := by decide +kernel
theorem dX6_nextWay_47 : decode cX6_nextWay 47 = .ok (.getfield 16, 3) := by decide +kernel
theorem dX6_nextWay_50 : decode cX6_nextWay 50 = .ok (.iload_n 3, 1) := by decide +kernel
theorem dX6_nextWay_51 : decode cX6_nextWay 51 = .ok (.iaload, 1) := by decide +kernel
theorem dX6_nextWay_52 : decode cX6_nextWay 52 = .ok (.aload_n 0, 1) := by decide +kernel
theorem dX6_nextWay_53 : decode cX6_nextWay 53 = .ok (.getfield 16, 3) := by decide +kernel
theorem dX6_nextWay_56 : decode cX6_nextWay 56 = .ok (.iload_n 2, 1) := by decide +kernel
theorem dX6_nextWay_57 : decode cX6_nextWay 57 = .ok (.iaload, 1) := by decide +kernel
theorem dX6_nextWay_58 : decode cX6_nextWay 58 = .ok (.if_icmp .ge 9, 3) := by decide +kernel
theorem dX6_nextWay_61 : decode cX6_nextWay 61 = .ok (.iinc 3 (-1), 3) := by decide +kernel
theorem dX6_nextWay_64 : decode cX6_nextWay 64 = .ok (.goto (-23), 3) := by decide +kernel
theorem dX6_nextWay_67 : decode cX6_nextWay 67 = .ok (.aload_n 0, 1) := by decide +kernel
theorem dX6_nextWay_68 : decode cX6_nextWay 68 = .ok (.getfield 16, 3) := by decide +kernel
theorem dX6_nextWay_71 : decode cX6_nextWay 71 = .ok (.iload_n 2, 1) := by decide +kernel
theorem dX6_nextWay_72 : decode cX6_nextWay 72 = .ok (.iload_n 3, 1) := by decide +kernel
theorem dX6_nextWay_73 : decode cX6_nextWay 73 = .ok (.invokestatic 89, 3) := by decide +kernel
theorem dX6_nextWay_76 : decode cX6_nextWay 76 = .ok (.iload_n 2, 1) := by decide +kernel
theorem dX6_nextWay_77 : decode cX6_nextWay 77 = .ok (.iconst 1, 1) := by decide +kernel
theorem dX6_nextWay_78 : decode cX6_nextWay 78 = .ok (.iadd, 1) := by decide +kernel
theorem dX6_nextWay_79 : decode cX6_nextWay 79 = .ok (.istore 4, 2) := by decide +kernel
theorem dX6_nextWay_81 : decode cX6_nextWay 81 = .ok (.iload_n 1, 1) := by decide +kernel
theorem dX6_nextWay_82 : decode cX6_nextWay 82 = .ok (.iconst 1, 1) := by decide +kernel
theorem dX6_nextWay_83 : decode cX6_nextWay 83 = .ok (.isub, 1) := by decide +kernel
theorem dX6_nextWay_84 : decode cX6_nextWay 84 = .ok (.istore 5, 2) := by decide +kernel
theorem dX6_nextWay_86 : decode cX6_nextWay 86 = .ok (.iload 4, 2) := by decide +kernel
theorem dX6_nextWay_88 : decode cX6_nextWay 88 = .ok (.iload 5, 2) := by decide +kernel
theorem dX6_nextWay_90 : decode cX6_nextWay 90 = .ok (.if_icmp .ge 23, 3) := by decide +kernel
theorem dX6_nextWay_93 : decode cX6_nextWay 93 = .ok (.aload_n 0, 1) := by decide +kernel
theorem dX6_nextWay_94 : decode cX6_nextWay 94 = .ok (.getfield 16, 3) := by decide +kernel
theorem dX6_nextWay_97 : decode cX6_nextWay 97 = .ok (.iload 4, 2) := by decide +kernel
theorem dX6_nextWay_99 : decode cX6_nextWay 99 = .ok (.iload 5, 2) := by decide +kernel
theorem dX6_nextWay_101 : decode cX6_nextWay 101 = .ok (.invokestatic 89, 3) := by decide +kernel
theorem dX6_nextWay_104 : decode cX6_nextWay 104 = .ok (.iinc 4 1, 3) := by decide +kernel
theorem dX6_nextWay_107 : decode cX6_nextWay 107 = .ok (.iinc 5 (-1), 3) := by decide +kernel
theorem dX6_nextWay_110 : decode cX6_nextWay 110 = .ok (.goto (-24), 3) := by decide +kernel
theorem dX6_nextWay_113 : decode cX6_nextWay 113 = .ok (.iconst 1, 1) := by decide +kernel
theorem dX6_nextWay_114 : decode cX6_nextWay 114 = .ok (.ireturn, 1) := by decide +kernel
theorem dX7_init_0 : decode cX7_init 0 = .ok (.aload_n 0, 1) := by decide +kernel
theorem dX7_init_1 : decode cX7_init 1 = .ok (.invokespecial 3, 3) := by decide +kernel
theorem dX7_init_4 : decode cX7_init 4 = .ok (.aload_n 0, 1) := by decide +kernel
theorem dX7_init_5 : decode cX7_init 5 = .ok (.bipush 6, 2) := by decide +kernel
theorem dX7_init_7 : decode cX7_init 7 = .ok (.newarray .int, 2) := by decide +kernel
theorem dX7_init_9 : decode cX7_init 9 = .ok (.putfield 9, 3) := by decide +kernel
theorem dX7_init_12 : decode cX7_init 12 = .ok (.aload_n 0, 1) := by decide +kernel
theorem dX7_init_13 : decode cX7_init 13 = .ok (.bipush 6, 2) := by decide +kernel
theorem dX7_init_15 : decode cX7_init 15 = .ok (.newarray .int, 2) := by decide +kernel
theorem dX7_init_17 : decode cX7_init 17 = .ok (.putfield 15, 3) := by decide +kernel
theorem dX7_init_20 : decode cX7_init 20 = .ok (.aload_n 0, 1) := by decide +kernel
theorem dX7_init_21 : decode cX7_init 21 = .ok (.bipush 6, 2) := by decide +kernel
theorem dX7_init_23 : decode cX7_init 23 = .ok (.newarray .int, 2) := by decide +kernel
theorem dX7_init_25 : decode cX7_init 25 = .ok (.putfield 18, 3) := by decide +kernel
theorem dX7_init_28 : decode cX7_init 28 = .ok (.return_, 1) := by decide +kernel
theorem dX7_begin_0 : decode cX7_begin 0 = .ok (.aload_n 0, 1) := by decide +kernel
theorem dX7_begin_1 : decode cX7_begin 1 = .ok (.iconst 0, 1) := by decide +kernel
theorem dX7_begin_2 : decode cX7_begin 2 = .ok (.putfield 21, 3) := by decide +kernel
theorem dX7_begin_5 : decode cX7_begin 5 = .ok (.aload_n 0, 1) := by decide +kernel
theorem dX7_begin_6 : decode cX7_begin 6 = .ok (.iconst 0, 1) := by decide +kernel
theorem dX7_begin_7 : decode cX7_begin 7 = .ok (.putfield 25, 3) := by decide +kernel
theorem dX7_begin_10 : decode cX7_begin 10 = .ok (.iconst 0, 1) := by decide +kernel
theorem dX7_begin_11 : decode cX7_begin 11 = .ok (.istore_n 2, 1) := by decide +kernel
theorem dX7_begin_12 : decode cX7_begin 12 = .ok (.iload_n 2, 1) := by decide +kernel
theorem dX7_begin_13 : decode cX7_begin 13 = .ok (.bipush 6, 2) := by decide +kernel
theorem dX7_begin_15 : decode cX7_begin 15 = .ok (.if_icmp .ge 40, 3) := by decide +kernel
theorem dX7_begin_18 : decode cX7_begin 18 = .ok (.aload_n 0, 1) := by decide +kernel
theorem dX7_begin_19 : decode cX7_begin 19 = .ok (.getfield 9, 3) := by decide +kernel
theorem dX7_begin_22 : decode cX7_begin 22 = .ok (.iload_n 2, 1) := by decide +kernel
theorem dX7_begin_23 : decode cX7_begin 23 = .ok (.iconst 0, 1) := by decide +kernel
theorem dX7_begin_24 : decode cX7_begin 24 = .ok (.iastore, 1) := by decide +kernel
theorem dX7_begin_25 : decode cX7_begin 25 = .ok (.aload_n 0, 1) := by decide +kernel
theorem dX7_begin_26 : decode cX7_begin 26 = .ok (.getfield 15, 3) := by decide +kernel
theorem dX7_begin_29 : decode cX7_begin 29 = .ok (.iload_n 2, 1) := by decide +kernel
theorem dX7_begin_30 : decode cX7_begin 30 = .ok (.aload_n 1, 1) := by decide +kernel
theorem dX7_begin_31 : decode cX7_begin 31 = .ok (.getfield 28, 3) := by decide +kernel
theorem dX7_begin_34 : decode cX7_begin 34 = .ok (.iload_n 2, 1) := by decide +kernel
theorem dX7_begin_35 : decode cX7_begin 35 = .ok (.iaload, 1) := by decide +kernel
theorem dX7_begin_36 : decode cX7_begin 36 = .ok (.iastore, 1) := by decide +kernel
theorem dX7_begin_37 : decode cX7_begin 37 = .ok (.aload_n 0, 1) := by decide +kernel
theorem dX7_begin_38 : decode cX7_begin 38 = .ok (.getfield 18, 3) := by decide +kernel
theorem dX7_begin_41 : decode cX7_begin 41 = .ok (.iload_n 2, 1) := by decide +kernel
theorem dX7_begin_42 : decode cX7_begin 42 = .ok (.aload_n 1, 1) := by decide +kernel
theorem dX7_begin_43 : decode cX7_begin 43 = .ok (.getfield 31, 3) := by decide +kernel
theorem dX7_begin_46 : decode cX7_begin 46 = .ok (.iload_n 2, 1) := by decide +kernel
theorem dX7_begin_47 : decode cX7_begin 47 = .ok (.iaload, 1) := by decide +kernel
theorem dX7_begin_48 : decode cX7_begin 48 = .ok (.iastore, 1) := by decide +kernel
theorem dX7_begin_49 : decode cX7_begin 49 = .ok (.iinc 2 1, 3) := by decide +kernel
theorem dX7_begin_52 : decode cX7_begin 52 = .ok (.goto (-40), 3) := by decide +kernel
theorem dX7_begin_55 : decode cX7_begin 55 = .ok (.return_, 1) := by decide +kernel
theorem dX7_copy_0 : decode cX7_copy 0 = .ok (.aload_n 0, 1) := by decide +kernel
theorem dX7_copy_1 : decode cX7_copy 1 = .ok (.aload_n 1, 1) := by decide +kernel
theorem dX7_copy_2 : decode cX7_copy 2 = .ok (.getfield 21, 3) := by decide +kernel
theorem dX7_copy_5 : decode cX7_copy 5 = .ok (.putfield 21, 3) := by decide +kernel
theorem dX7_copy_8 : decode cX7_copy 8 = .ok (.aload_n 0, 1) := by decide +kernel
theorem dX7_copy_9 : decode cX7_copy 9 = .ok (.aload_n 1, 1) := by decide +kernel
theorem dX7_copy_10 : decode cX7_copy 10 = .ok (.getfield 25, 3) := by decide +kernel
theorem dX7_copy_13 : decode cX7_copy 13 = .ok (.putfield 25, 3) := by decide +kernel
theorem dX7_copy_16 : decode cX7_copy 16 = .ok (.iconst 0, 1) := by decide +kernel
theorem dX7_copy_17 : decode cX7_copy 17 = .ok (.istore_n 2, 1) := by decide +kernel
theorem dX7_copy_18 : decode cX7_copy 18 = .ok (.iload_n 2, 1) := by decide +kernel
theorem dX7_copy_19 : decode cX7_copy 19 = .ok (.bipush 6, 2) := by decide +kernel
theorem dX7_copy_21 : decode cX7_copy 21 = .ok (.if_icmp .ge 45, 3) := by decide +kernel
theorem dX7_copy_24 : decode cX7_copy 24 = .ok (.aload_n 0, 1) := by decide +kernel
theorem dX7_copy_25 : decode cX7_copy 25 = .ok (.getfield 9, 3) := by decide +kernel
theorem dX7_copy_28 : decode cX7_copy 28 = .ok (.iload_n 2, 1) := by decide +kernel
theorem dX7_copy_29 : decode cX7_copy 29 = .ok (.aload_n 1, 1) := by decide +kernel
theorem dX7_copy_30 : decode cX7_copy 30 = .ok (.getfield 9, 3) := by decide +kernel
theorem dX7_copy_33 : decode cX7_copy 33 = .ok (.iload_n 2, 1) := by decide +kernel
theorem dX7_copy_34 : decode cX7_copy 34 = .ok (.iaload, 1) := by decide +kernel
theorem dX7_copy_35 : decode cX7_copy 35 = .ok (.iastore, 1) := by decide +kernel
theorem dX7_copy_36 : decode cX7_copy 36 = .ok (.aload_n 0, 1) := by decide +kernel
theorem dX7_copy_37 : decode cX7_copy 37 = .ok (.getfield 15, 3) := by decide +kernel
theorem dX7_copy_40 : decode cX7_copy 40 = .ok (.iload_n 2, 1) := by decide +kernel
theorem dX7_copy_41 : decode cX7_copy 41 = .ok (.aload_n 1, 1) := by decide +kernel
theorem dX7_copy_42 : decode cX7_copy 42 = .ok (.getfield 15, 3) := by decide +kernel
theorem dX7_copy_45 : decode cX7_copy 45 = .ok (.iload_n 2, 1) := by decide +kernel
theorem dX7_copy_46 : decode cX7_copy 46 = .ok (.iaload, 1) := by decide +kernel
theorem dX7_copy_47 : decode cX7_copy 47 = .ok (.iastore, 1) := by decide +kernel
theorem dX7_copy_48 : decode cX7_copy 48 = .ok (.aload_n 0, 1) := by decide +kernel
theorem dX7_copy_49 : decode cX7_copy 49 = .ok (.getfield 18, 3) := by decide +kernel
theorem dX7_copy_52 : decode cX7_copy 52 = .ok (.iload_n 2, 1) := by decide +kernel
theorem dX7_copy_53 : decode cX7_copy 53 = .ok (.aload_n 1, 1) := by decide +kernel
theorem dX7_copy_54 : decode cX7_copy 54 = .ok (.getfield 18, 3) := by decide +kernel
theorem dX7_copy_57 : decode cX7_copy 57 = .ok (.iload_n 2, 1) := by decide +kernel
theorem dX7_copy_58 : decode cX7_copy 58 = .ok (.iaload, 1) := by decide +kernel
theorem dX7_copy_59 : decode cX7_copy 59 = .ok (.iastore, 1) := by decide +kernel
theorem dX7_copy_60 : decode cX7_copy 60 = .ok (.iinc 2 1, 3) := by decide +kernel
theorem dX7_copy_63 : decode cX7_copy 63 = .ok (.goto (-45), 3) := by decide +kernel
theorem dX7_copy_66 : decode cX7_copy 66 = .ok (.return_, 1) := by decide +kernel
theorem dX7_goBy_0 : decode cX7_goBy 0 = .ok (.aload_n 0, 1) := by decide +kernel
theorem dX7_goBy_1 : decode cX7_goBy 1 = .ok (.dup, 1) := by decide +kernel
theorem dX7_goBy_2 : decode cX7_goBy 2 = .ok (.getfield 21, 3) := by decide +kernel
theorem dX7_goBy_5 : decode cX7_goBy 5 = .ok (.iload_n 2, 1) := by decide +kernel
theorem dX7_goBy_6 : decode cX7_goBy 6 = .ok (.iadd, 1) := by decide +kernel
theorem dX7_goBy_7 : decode cX7_goBy 7 = .ok (.putfield 21, 3) := by decide +kernel
theorem dX7_goBy_10 : decode cX7_goBy 10 = .ok (.iconst 0, 1) := by decide +kernel
theorem dX7_goBy_11 : decode cX7_goBy 11 = .ok (.istore_n 3, 1) := by decide +kernel
theorem dX7_goBy_12 : decode cX7_goBy 12 = .ok (.iload_n 3, 1) := by decide +kernel
theorem dX7_goBy_13 : decode cX7_goBy 13 = .ok (.aload_n 1, 1) := by decide +kernel
theorem dX7_goBy_14 : decode cX7_goBy 14 = .ok (.getfield 32, 3) := by decide +kernel
theorem dX7_goBy_17 : decode cX7_goBy 17 = .ok (.if_icmp .ge 26, 3) := by decide +kernel
theorem dX7_goBy_20 : decode cX7_goBy 20 = .ok (.aload_n 0, 1) := by decide +kernel
theorem dX7_goBy_21 : decode cX7_goBy 21 = .ok (.getfield 9, 3) := by decide +kernel
theorem dX7_goBy_24 : decode cX7_goBy 24 = .ok (.iload_n 3, 1) := by decide +kernel
theorem dX7_goBy_25 : decode cX7_goBy 25 = .ok (.dup2, 1) := by decide +kernel
theorem dX7_goBy_26 : decode cX7_goBy 26 = .ok (.iaload, 1) := by decide +kernel
theorem dX7_goBy_27 : decode cX7_goBy 27 = .ok (.aload_n 1, 1) := by decide +kernel
theorem dX7_goBy_28 : decode cX7_goBy 28 = .ok (.getfield 35, 3) := by decide +kernel
theorem dX7_goBy_31 : decode cX7_goBy 31 = .ok (.iload_n 3, 1) := by decide +kernel
theorem dX7_goBy_32 : decode cX7_goBy 32 = .ok (.iaload, 1) := by decide +kernel
theorem dX7_goBy_33 : decode cX7_goBy 33 = .ok (.iload_n 2, 1) := by decide +kernel
theorem dX7_goBy_34 : decode cX7_goBy 34 = .ok (.imul, 1) := by decide +kernel
theorem dX7_goBy_35 : decode cX7_goBy 35 = .ok (.iadd, 1) := by decide +kernel
theorem dX7_goBy_36 : decode cX7_goBy 36 = .ok (.iastore, 1) := by decide +kernel
theorem dX7_goBy_37 : decode cX7_goBy 37 = .ok (.iinc 3 1, 3) := by decide +kernel
theorem dX7_goBy_40 : decode cX7_goBy 40 = .ok (.goto (-28), 3) := by decide +kernel
theorem dX7_goBy_43 : decode cX7_goBy 43 = .ok (.return_, 1) := by decide +kernel
theorem dX7_paying_0 : decode cX7_paying 0 = .ok (.iconst 0, 1) := by decide +kernel
theorem dX7_paying_1 : decode cX7_paying 1 = .ok (.istore_n 2, 1) := by decide +kernel
theorem dX7_paying_2 : decode cX7_paying 2 = .ok (.iconst 0, 1) := by decide +kernel
theorem dX7_paying_3 : decode cX7_paying 3 = .ok (.istore_n 3, 1) := by decide +kernel
theorem dX7_paying_4 : decode cX7_paying 4 = .ok (.iload_n 3, 1) := by decide +kernel
theorem dX7_paying_5 : decode cX7_paying 5 = .ok (.aload_n 1, 1) := by decide +kernel
theorem dX7_paying_6 : decode cX7_paying 6 = .ok (.getfield 32, 3) := by decide +kernel
theorem dX7_paying_9 : decode cX7_paying 9 = .ok (.if_icmp .ge 28, 3) := by decide +kernel
theorem dX7_paying_12 : decode cX7_paying 12 = .ok (.aload_n 0, 1) := by decide +kernel
theorem dX7_paying_13 : decode cX7_paying 13 = .ok (.getfield 9, 3) := by decide +kernel
theorem dX7_paying_16 : decode cX7_paying 16 = .ok (.iload_n 3, 1) := by decide +kernel
theorem dX7_paying_17 : decode cX7_paying 17 = .ok (.iaload, 1) := by decide +kernel
theorem dX7_paying_18 : decode cX7_paying 18 = .ok (.aload_n 1, 1) := by decide +kernel
theorem dX7_paying_19 : decode cX7_paying 19 = .ok (.getfield 38, 3) := by decide +kernel
theorem dX7_paying_22 : decode cX7_paying 22 = .ok (.if_icmp .gt 9, 3) := by decide +kernel
theorem dX7_paying_25 : decode cX7_paying 25 = .ok (.iload_n 2, 1) := by decide +kernel
theorem dX7_paying_26 : decode cX7_paying 26 = .ok (.iconst 1, 1) := by decide +kernel
theorem dX7_paying_27 : decode cX7_paying 27 = .ok (.iload_n 3, 1) := by decide +kernel
theorem dX7_paying_28 : decode cX7_paying 28 = .ok (.ishl, 1) := by decide +kernel
theorem dX7_paying_29 : decode cX7_paying 29 = .ok (.ior, 1) := by decide +kernel
theorem dX7_paying_30 : decode cX7_paying 30 = .ok (.istore_n 2, 1) := by decide +kernel
theorem dX7_paying_31 : decode cX7_paying 31 = .ok (.iinc 3 1, 3) := by decide +kernel
theorem dX7_paying_34 : decode cX7_paying 34 = .ok (.goto (-30), 3) := by decide +kernel
theorem dX7_paying_37 : decode cX7_paying 37 = .ok (.iload_n 2, 1) := by decide +kernel
theorem dX7_paying_38 : decode cX7_paying 38 = .ok (.ireturn, 1) := by decide +kernel
theorem dX8_init_0 : decode cX8_init 0 = .ok (.aload_n 0, 1) := by decide +kernel
theorem dX8_init_1 : decode cX8_init 1 = .ok (.invokespecial 1, 3) := by decide +kernel
theorem dX8_init_4 : decode cX8_init 4 = .ok (.aload_n 0, 1) := by decide +kernel
theorem dX8_init_5 : decode cX8_init 5 = .ok (.new 7, 3) := by decide +kernel
theorem dX8_init_8 : decode cX8_init 8 = .ok (.dup, 1) := by decide +kernel
theorem dX8_init_9 : decode cX8_init 9 = .ok (.invokespecial 9, 3) := by decide +kernel
theorem dX8_init_12 : decode cX8_init 12 = .ok (.putfield 10, 3) := by decide +kernel
theorem dX8_init_15 : decode cX8_init 15 = .ok (.aload_n 0, 1) := by decide +kernel
theorem dX8_init_16 : decode cX8_init 16 = .ok (.new 16, 3) := by decide +kernel
theorem dX8_init_19 : decode cX8_init 19 = .ok (.dup, 1) := by decide +kernel
theorem dX8_init_20 : decode cX8_init 20 = .ok (.invokespecial 18, 3) := by decide +kernel
theorem dX8_init_23 : decode cX8_init 23 = .ok (.putfield 19, 3) := by decide +kernel
theorem dX8_init_26 : decode cX8_init 26 = .ok (.aload_n 0, 1) := by decide +kernel
theorem dX8_init_27 : decode cX8_init 27 = .ok (.new 23, 3) := by decide +kernel
theorem dX8_init_30 : decode cX8_init 30 = .ok (.dup, 1) := by decide +kernel
theorem dX8_init_31 : decode cX8_init 31 = .ok (.invokespecial 25, 3) := by decide +kernel
theorem dX8_init_34 : decode cX8_init 34 = .ok (.putfield 26, 3) := by decide +kernel
theorem dX8_init_37 : decode cX8_init 37 = .ok (.aload_n 0, 1) := by decide +kernel
theorem dX8_init_38 : decode cX8_init 38 = .ok (.new 23, 3) := by decide +kernel
theorem dX8_init_41 : decode cX8_init 41 = .ok (.dup, 1) := by decide +kernel
theorem dX8_init_42 : decode cX8_init 42 = .ok (.invokespecial 25, 3) := by decide +kernel
theorem dX8_init_45 : decode cX8_init 45 = .ok (.putfield 30, 3) := by decide +kernel
theorem dX8_init_48 : decode cX8_init 48 = .ok (.aload_n 0, 1) := by decide +kernel
theorem dX8_init_49 : decode cX8_init 49 = .ok (.new 33, 3) := by decide +kernel
theorem dX8_init_52 : decode cX8_init 52 = .ok (.dup, 1) := by decide +kernel
theorem dX8_init_53 : decode cX8_init 53 = .ok (.invokespecial 35, 3) := by decide +kernel
theorem dX8_init_56 : decode cX8_init 56 = .ok (.putfield 36, 3) := by decide +kernel
theorem dX8_init_59 : decode cX8_init 59 = .ok (.aload_n 0, 1) := by decide +kernel
theorem dX8_init_60 : decode cX8_init 60 = .ok (.new 33, 3) := by decide +kernel
theorem dX8_init_63 : decode cX8_init 63 = .ok (.dup, 1) := by decide +kernel
theorem dX8_init_64 : decode cX8_init 64 = .ok (.invokespecial 35, 3) := by decide +kernel
theorem dX8_init_67 : decode cX8_init 67 = .ok (.putfield 40, 3) := by decide +kernel
theorem dX8_init_70 : decode cX8_init 70 = .ok (.aload_n 0, 1) := by decide +kernel
theorem dX8_init_71 : decode cX8_init 71 = .ok (.new 43, 3) := by decide +kernel
theorem dX8_init_74 : decode cX8_init 74 = .ok (.dup, 1) := by decide +kernel
theorem dX8_init_75 : decode cX8_init 75 = .ok (.bipush 8, 2) := by decide +kernel
theorem dX8_init_77 : decode cX8_init 77 = .ok (.invokespecial 45, 3) := by decide +kernel
theorem dX8_init_80 : decode cX8_init 80 = .ok (.putfield 48, 3) := by decide +kernel
theorem dX8_init_83 : decode cX8_init 83 = .ok (.aload_n 0, 1) := by decide +kernel
theorem dX8_init_84 : decode cX8_init 84 = .ok (.new 43, 3) := by decide +kernel
theorem dX8_init_87 : decode cX8_init 87 = .ok (.dup, 1) := by decide +kernel
theorem dX8_init_88 : decode cX8_init 88 = .ok (.iconst 2, 1) := by decide +kernel
theorem dX8_init_89 : decode cX8_init 89 = .ok (.invokespecial 45, 3) := by decide +kernel
theorem dX8_init_92 : decode cX8_init 92 = .ok (.putfield 52, 3) := by decide +kernel
theorem dX8_init_95 : decode cX8_init 95 = .ok (.aload_n 0, 1) := by decide +kernel
theorem dX8_init_96 : decode cX8_init 96 = .ok (.new 55, 3) := by decide +kernel
theorem dX8_init_99 : decode cX8_init 99 = .ok (.dup, 1) := by decide +kernel
theorem dX8_init_100 : decode cX8_init 100 = .ok (.invokespecial 57, 3) := by decide +kernel
theorem dX8_init_103 : decode cX8_init 103 = .ok (.putfield 58, 3) := by decide +kernel
theorem dX8_init_106 : decode cX8_init 106 = .ok (.aload_n 0, 1) := by decide +kernel
theorem dX8_init_107 : decode cX8_init 107 = .ok (.new 62, 3) := by decide +kernel
theorem dX8_init_110 : decode cX8_init 110 = .ok (.dup, 1) := by decide +kernel
theorem dX8_init_111 : decode cX8_init 111 = .ok (.invokespecial 64, 3) := by decide +kernel
theorem dX8_init_114 : decode cX8_init 114 = .ok (.putfield 65, 3) := by decide +kernel
theorem dX8_init_117 : decode cX8_init 117 = .ok (.aload_n 0, 1) := by decide +kernel
theorem dX8_init_118 : decode cX8_init 118 = .ok (.new 69, 3) := by decide +kernel
theorem dX8_init_121 : decode cX8_init 121 = .ok (.dup, 1) := by decide +kernel
theorem dX8_init_122 : decode cX8_init 122 = .ok (.invokespecial 71, 3) := by decide +kernel
theorem dX8_init_125 : decode cX8_init 125 = .ok (.putfield 72, 3) := by decide +kernel
theorem dX8_init_128 : decode cX8_init 128 = .ok (.iconst 0, 1) := by decide +kernel
theorem dX8_init_129 : decode cX8_init 129 = .ok (.istore_n 1, 1) := by decide +kernel
theorem dX8_init_130 : decode cX8_init 130 = .ok (.iload_n 1, 1) := by decide +kernel
theorem dX8_init_131 : decode cX8_init 131 = .ok (.ldc 76, 2) := by decide +kernel
theorem dX8_init_133 : decode cX8_init 133 = .ok (.invokevirtual 78, 3) := by decide +kernel
theorem dX8_init_136 : decode cX8_init 136 = .ok (.if_icmp .ge 23, 3) := by decide +kernel
theorem dX8_init_139 : decode cX8_init 139 = .ok (.aload_n 0, 1) := by decide +kernel
theorem dX8_init_140 : decode cX8_init 140 = .ok (.getfield 10, 3) := by decide +kernel
theorem dX8_init_143 : decode cX8_init 143 = .ok (.ldc 76, 2) := by decide +kernel
theorem dX8_init_145 : decode cX8_init 145 = .ok (.iload_n 1, 1) := by decide +kernel
theorem dX8_init_146 : decode cX8_init 146 = .ok (.invokevirtual 84, 3) := by decide +kernel
theorem dX8_init_149 : decode cX8_init 149 = .ok (.invokevirtual 88, 3) := by decide +kernel
theorem dX8_init_152 : decode cX8_init 152 = .ok (.pop, 1) := by decide +kernel
theorem dX8_init_153 : decode cX8_init 153 = .ok (.iinc 1 1, 3) := by decide +kernel
theorem dX8_init_156 : decode cX8_init 156 = .ok (.goto (-26), 3) := by decide +kernel
theorem dX8_init_159 : decode cX8_init 159 = .ok (.aload_n 0, 1) := by decide +kernel
theorem dX8_init_160 : decode cX8_init 160 = .ok (.getfield 19, 3) := by decide +kernel
theorem dX8_init_163 : decode cX8_init 163 = .ok (.aload_n 0, 1) := by decide +kernel
theorem dX8_init_164 : decode cX8_init 164 = .ok (.getfield 10, 3) := by decide +kernel
theorem dX8_init_167 : decode cX8_init 167 = .ok (.aload_n 0, 1) := by decide +kernel
theorem dX8_init_168 : decode cX8_init 168 = .ok (.getfield 26, 3) := by decide +kernel
theorem dX8_init_171 : decode cX8_init 171 = .ok (.invokevirtual 92, 3) := by decide +kernel
theorem dX8_init_174 : decode cX8_init 174 = .ok (.pop, 1) := by decide +kernel
theorem dX8_init_175 : decode cX8_init 175 = .ok (.aload_n 0, 1) := by decide +kernel
theorem dX8_init_176 : decode cX8_init 176 = .ok (.getfield 10, 3) := by decide +kernel
theorem dX8_init_179 : decode cX8_init 179 = .ok (.iconst 0, 1) := by decide +kernel
theorem dX8_init_180 : decode cX8_init 180 = .ok (.putfield 96, 3) := by decide +kernel
theorem dX8_init_183 : decode cX8_init 183 = .ok (.aload_n 0, 1) := by decide +kernel
theorem dX8_init_184 : decode cX8_init 184 = .ok (.getfield 36, 3) := by decide +kernel
theorem dX8_init_187 : decode cX8_init 187 = .ok (.aload_n 0, 1) := by decide +kernel
theorem dX8_init_188 : decode cX8_init 188 = .ok (.getfield 26, 3) := by decide +kernel
theorem dX8_init_191 : decode cX8_init 191 = .ok (.invokevirtual 99, 3) := by decide +kernel
theorem dX8_init_194 : decode cX8_init 194 = .ok (.return_, 1) := by decide +kernel
theorem dX8_write_0 : decode cX8_write 0 = .ok (.iload_n 1, 1) := by decide +kernel
theorem dX8_write_1 : decode cX8_write 1 = .ok (.bipush 32, 2) := by decide +kernel
theorem dX8_write_3 : decode cX8_write 3 = .ok (.bipush 126, 2) := by decide +kernel
theorem dX8_write_5 : decode cX8_write 5 = .ok (.invokestatic 103, 3) := by decide +kernel
theorem dX8_write_8 : decode cX8_write 8 = .ok (.ifCond .ne 5, 3) := by decide +kernel
theorem dX8_write_11 : decode cX8_write 11 = .ok (.iconst (-1), 1) := by decide +kernel
theorem dX8_write_12 : decode cX8_write 12 = .ok (.ireturn, 1) := by decide +kernel
theorem dX8_write_13 : decode cX8_write 13 = .ok (.aload_n 0, 1) := by decide +kernel
theorem dX8_write_14 : decode cX8_write 14 = .ok (.getfield 10, 3) := by decide +kernel
theorem dX8_write_17 : decode cX8_write 17 = .ok (.iload_n 1, 1) := by decide +kernel
theorem dX8_write_18 : decode cX8_write 18 = .ok (.invokevirtual 88, 3) := by decide +kernel
theorem dX8_write_21 : decode cX8_write 21 = .ok (.ifCond .eq 13, 3) := by decide +kernel
theorem dX8_write_24 : decode cX8_write 24 = .ok (.aload_n 0, 1) := by decide +kernel
theorem dX8_write_25 : decode cX8_write 25 = .ok (.getfield 10, 3) := by decide +kernel
theorem dX8_write_28 : decode cX8_write 28 = .ok (.getfield 96, 3) := by decide +kernel
theorem dX8_write_31 : decode cX8_write 31 = .ok (.goto 5, 3) := by decide +kernel
theorem dX8_write_34 : decode cX8_write 34 = .ok (.bipush (-3), 2) := by decide +kernel
theorem dX8_write_36 : decode cX8_write 36 = .ok (.ireturn, 1) := by decide +kernel
theorem dX8_wipe_0 : decode cX8_wipe 0 = .ok (.aload_n 0, 1) := by decide +kernel
theorem dX8_wipe_1 : decode cX8_wipe 1 = .ok (.getfield 10, 3) := by decide +kernel
theorem dX8_wipe_4 : decode cX8_wipe 4 = .ok (.getfield 96, 3) := by decide +kernel
theorem dX8_wipe_7 : decode cX8_wipe 7 = .ok (.istore_n 1, 1) := by decide +kernel
theorem dX8_wipe_8 : decode cX8_wipe 8 = .ok (.aload_n 0, 1) := by decide +kernel
theorem dX8_wipe_9 : decode cX8_wipe 9 = .ok (.getfield 10, 3) := by decide +kernel
theorem dX8_wipe_12 : decode cX8_wipe 12 = .ok (.iconst 0, 1) := by decide +kernel
theorem dX8_wipe_13 : decode cX8_wipe 13 = .ok (.putfield 96, 3) := by decide +kernel
theorem dX8_wipe_16 : decode cX8_wipe 16 = .ok (.iload_n 1, 1) := by decide +kernel
theorem dX8_wipe_17 : decode cX8_wipe 17 = .ok (.ireturn, 1) := by decide +kernel
theorem dX8_fault_0 : decode cX8_fault 0 = .ok (.aload_n 0, 1) := by decide +kernel
theorem dX8_fault_1 : decode cX8_fault 1 = .ok (.getfield 19, 3) := by decide +kernel
theorem dX8_fault_4 : decode cX8_fault 4 = .ok (.aload_n 0, 1) := by decide +kernel
theorem dX8_fault_5 : decode cX8_fault 5 = .ok (.getfield 10, 3) := by decide +kernel
theorem dX8_fault_8 : decode cX8_fault 8 = .ok (.aload_n 0, 1) := by decide +kernel
theorem dX8_fault_9 : decode cX8_fault 9 = .ok (.getfield 30, 3) := by decide +kernel
theorem dX8_fault_12 : decode cX8_fault 12 = .ok (.invokevirtual 92, 3) := by decide +kernel
theorem dX8_fault_15 : decode cX8_fault 15 = .ok (.ireturn, 1) := by decide +kernel
theorem dX8_lay_0 : decode cX8_lay 0 = .ok (.aload_n 0, 1) := by decide +kernel
theorem dX8_lay_1 : decode cX8_lay 1 = .ok (.getfield 19, 3) := by decide +kernel
theorem dX8_lay_4 : decode cX8_lay 4 = .ok (.aload_n 0, 1) := by decide +kernel
theorem dX8_lay_5 : decode cX8_lay 5 = .ok (.getfield 10, 3) := by decide +kernel
theorem dX8_lay_8 : decode cX8_lay 8 = .ok (.aload_n 0, 1) := by decide +kernel
theorem dX8_lay_9 : decode cX8_lay 9 = .ok (.getfield 30, 3) := by decide +kernel
theorem dX8_lay_12 : decode cX8_lay 12 = .ok (.invokevirtual 92, 3) := by decide +kernel
theorem dX8_lay_15 : decode cX8_lay 15 = .ok (.bipush (-4), 2) := by decide +kernel
theorem dX8_lay_17 : decode cX8_lay 17 = .ok (.if_icmp .ne 13, 3) := by decide +kernel
theorem dX8_lay_20 : decode cX8_lay 20 = .ok (.aload_n 0, 1) := by decide +kernel
theorem dX8_lay_21 : decode cX8_lay 21 = .ok (.getfield 30, 3) := by decide +kernel
theorem dX8_lay_24 : decode cX8_lay 24 = .ok (.getfield 107, 3) := by decide +kernel
theorem dX8_lay_27 : decode cX8_lay 27 = .ok (.ifCond .ne 6, 3) := by decide +kernel
theorem dX8_lay_30 : decode cX8_lay 30 = .ok (.bipush (-2), 2) := by decide +kernel
theorem dX8_lay_32 : decode cX8_lay 32 = .ok (.ireturn, 1) := by decide +kernel
theorem dX8_lay_33 : decode cX8_lay 33 = .ok (.aload_n 0, 1) := by decide +kernel
theorem dX8_lay_34 : decode cX8_lay 34 = .ok (.getfield 26, 3) := by decide +kernel
theorem dX8_lay_37 : decode cX8_lay 37 = .ok (.astore_n 1, 1) := by decide +kernel
theorem dX8_lay_38 : decode cX8_lay 38 = .ok (.aload_n 0, 1) := by decide +kernel
theorem dX8_lay_39 : decode cX8_lay 39 = .ok (.aload_n 0, 1) := by decide +kernel
theorem dX8_lay_40 : decode cX8_lay 40 = .ok (.getfield 30, 3) := by decide +kernel
theorem dX8_lay_43 : decode cX8_lay 43 = .ok (.putfield 26, 3) := by decide +kernel
theorem dX8_lay_46 : decode cX8_lay 46 = .ok (.aload_n 0, 1) := by decide +kernel
theorem dX8_lay_47 : decode cX8_lay 47 = .ok (.aload_n 1, 1) := by decide +kernel
theorem dX8_lay_48 : decode cX8_lay 48 = .ok (.putfield 30, 3) := by decide +kernel
theorem dX8_lay_51 : decode cX8_lay 51 = .ok (.aload_n 0, 1) := by decide +kernel
theorem dX8_lay_52 : decode cX8_lay 52 = .ok (.getfield 36, 3) := by decide +kernel
theorem dX8_lay_55 : decode cX8_lay 55 = .ok (.aload_n 0, 1) := by decide +kernel
theorem dX8_lay_56 : decode cX8_lay 56 = .ok (.getfield 26, 3) := by decide +kernel
theorem dX8_lay_59 : decode cX8_lay 59 = .ok (.invokevirtual 99, 3) := by decide +kernel
theorem dX8_lay_62 : decode cX8_lay 62 = .ok (.aload_n 0, 1) := by decide +kernel
theorem dX8_lay_63 : decode cX8_lay 63 = .ok (.getfield 58, 3) := by decide +kernel
theorem dX8_lay_66 : decode cX8_lay 66 = .ok (.iconst 0, 1) := by decide +kernel
theorem dX8_lay_67 : decode cX8_lay 67 = .ok (.putfield 110, 3) := by decide +kernel
theorem dX8_lay_70 : decode cX8_lay 70 = .ok (.aload_n 0, 1) := by decide +kernel
theorem dX8_lay_71 : decode cX8_lay 71 = .ok (.getfield 48, 3) := by decide +kernel
theorem dX8_lay_74 : decode cX8_lay 74 = .ok (.iconst 0, 1) := by decide +kernel
theorem dX8_lay_75 : decode cX8_lay 75 = .ok (.putfield 113, 3) := by decide +kernel
theorem dX8_lay_78 : decode cX8_lay 78 = .ok (.aload_n 0, 1) := by decide +kernel
theorem dX8_lay_79 : decode cX8_lay 79 = .ok (.getfield 52, 3) := by decide +kernel
theorem dX8_lay_82 : decode cX8_lay 82 = .ok (.iconst 0, 1) := by decide +kernel
theorem dX8_lay_83 : decode cX8_lay 83 = .ok (.putfield 113, 3) := by decide +kernel
theorem dX8_lay_86 : decode cX8_lay 86 = .ok (.aload_n 0, 1) := by decide +kernel
theorem dX8_lay_87 : decode cX8_lay 87 = .ok (.getfield 26, 3) := by decide +kernel
theorem dX8_lay_90 : decode cX8_lay 90 = .ok (.getfield 107, 3) := by decide +kernel
theorem dX8_lay_93 : decode cX8_lay 93 = .ok (.ireturn, 1) := by decide +kernel
theorem dX8_tenant_0 : decode cX8_tenant 0 = .ok (.aload_n 0, 1) := by decide +kernel
theorem dX8_tenant_1 : decode cX8_tenant 1 = .ok (.iload_n 1, 1) := by decide +kernel
theorem dX8_tenant_2 : decode cX8_tenant 2 = .ok (.invokevirtual 114, 3) := by decide +kernel
theorem dX8_tenant_5 : decode cX8_tenant 5 = .ok (.ifCond .ne 5, 3) := by decide +kernel
theorem dX8_tenant_8 : decode cX8_tenant 8 = .ok (.iconst (-1), 1) := by decide +kernel
theorem dX8_tenant_9 : decode cX8_tenant 9 = .ok (.ireturn, 1) := by decide +kernel
theorem dX8_tenant_10 : decode cX8_tenant 10 = .ok (.iload_n 2, 1) := by decide +kernel
theorem dX8_tenant_11 : decode cX8_tenant 11 = .ok (.tableswitch 126 0 6 #[41, 51, 61, 71, 81, 91, 101], 41) := by decide +kernel
theorem dX8_tenant_52 : decode cX8_tenant 52 = .ok (.aload_n 0, 1) := by decide +kernel
theorem dX8_tenant_53 : decode cX8_tenant 53 = .ok (.getfield 26, 3) := by decide +kernel
theorem dX8_tenant_56 : decode cX8_tenant 56 = .ok (.getfield 117, 3) := by decide +kernel
theorem dX8_tenant_59 : decode cX8_tenant 59 = .ok (.iload_n 1, 1) := by decide +kernel
theorem dX8_tenant_60 : decode cX8_tenant 60 = .ok (.iaload, 1) := by decide +kernel
theorem dX8_tenant_61 : decode cX8_tenant 61 = .ok (.ireturn, 1) := by decide +kernel
theorem dX8_tenant_62 : decode cX8_tenant 62 = .ok (.aload_n 0, 1) := by decide +kernel
theorem dX8_tenant_63 : decode cX8_tenant 63 = .ok (.getfield 36, 3) := by decide +kernel
theorem dX8_tenant_66 : decode cX8_tenant 66 = .ok (.getfield 121, 3) := by decide +kernel
theorem dX8_tenant_69 : decode cX8_tenant 69 = .ok (.iload_n 1, 1) := by decide +kernel
theorem dX8_tenant_70 : decode cX8_tenant 70 = .ok (.iaload, 1) := by decide +kernel
theorem dX8_tenant_71 : decode cX8_tenant 71 = .ok (.ireturn, 1) := by decide +kernel
theorem dX8_tenant_72 : decode cX8_tenant 72 = .ok (.aload_n 0, 1) := by decide +kernel
theorem dX8_tenant_73 : decode cX8_tenant 73 = .ok (.getfield 36, 3) := by decide +kernel
theorem dX8_tenant_76 : decode cX8_tenant 76 = .ok (.getfield 124, 3) := by decide +kernel
theorem dX8_tenant_79 : decode cX8_tenant 79 = .ok (.iload_n 1, 1) := by decide +kernel
theorem dX8_tenant_80 : decode cX8_tenant 80 = .ok (.iaload, 1) := by decide +kernel
theorem dX8_tenant_81 : decode cX8_tenant 81 = .ok (.ireturn, 1) := by decide +kernel
theorem dX8_tenant_82 : decode cX8_tenant 82 = .ok (.aload_n 0, 1) := by decide +kernel
theorem dX8_tenant_83 : decode cX8_tenant 83 = .ok (.getfield 26, 3) := by decide +kernel
theorem dX8_tenant_86 : decode cX8_tenant 86 = .ok (.getfield 127, 3) := by decide +kernel
theorem dX8_tenant_89 : decode cX8_tenant 89 = .ok (.iload_n 1, 1) := by decide +kernel
theorem dX8_tenant_90 : decode cX8_tenant 90 = .ok (.iaload, 1) := by decide +kernel
theorem dX8_tenant_91 : decode cX8_tenant 91 = .ok (.ireturn, 1) := by decide +kernel
theorem dX8_tenant_92 : decode cX8_tenant 92 = .ok (.aload_n 0, 1) := by decide +kernel
theorem dX8_tenant_93 : decode cX8_tenant 93 = .ok (.getfield 26, 3) := by decide +kernel
theorem dX8_tenant_96 : decode cX8_tenant 96 = .ok (.getfield 130, 3) := by decide +kernel
theorem dX8_tenant_99 : decode cX8_tenant 99 = .ok (.iload_n 1, 1) := by decide +kernel
theorem dX8_tenant_100 : decode cX8_tenant 100 = .ok (.iaload, 1) := by decide +kernel
theorem dX8_tenant_101 : decode cX8_tenant 101 = .ok (.ireturn, 1) := by decide +kernel
theorem dX8_tenant_102 : decode cX8_tenant 102 = .ok (.aload_n 0, 1) := by decide +kernel
theorem dX8_tenant_103 : decode cX8_tenant 103 = .ok (.getfield 36, 3) := by decide +kernel
theorem dX8_tenant_106 : decode cX8_tenant 106 = .ok (.getfield 133, 3) := by decide +kernel
theorem dX8_tenant_109 : decode cX8_tenant 109 = .ok (.iload_n 1, 1) := by decide +kernel
theorem dX8_tenant_110 : decode cX8_tenant 110 = .ok (.iaload, 1) := by decide +kernel
theorem dX8_tenant_111 : decode cX8_tenant 111 = .ok (.ireturn, 1) := by decide +kernel
theorem dX8_tenant_112 : decode cX8_tenant 112 = .ok (.aload_n 0, 1) := by decide +kernel
theorem dX8_tenant_113 : decode cX8_tenant 113 = .ok (.getfield 36, 3) := by decide +kernel
theorem dX8_tenant_116 : decode cX8_tenant 116 = .ok (.getfield 133, 3) := by decide +kernel
theorem dX8_tenant_119 : decode cX8_tenant 119 = .ok (.iload_n 1, 1) := by decide +kernel
theorem dX8_tenant_120 : decode cX8_tenant 120 = .ok (.iaload, 1) := by decide +kernel
theorem dX8_tenant_121 : decode cX8_tenant 121 = .ok (.aload_n 0, 1) := by decide +kernel
theorem dX8_tenant_122 : decode cX8_tenant 122 = .ok (.getfield 26, 3) := by decide +kernel
theorem dX8_tenant_125 : decode cX8_tenant 125 = .ok (.getfield 136, 3) := by decide +kernel
theorem dX8_tenant_128 : decode cX8_tenant 128 = .ok (.if_icmp .le 7, 3) := by decide +kernel
theorem dX8_tenant_131 : decode cX8_tenant 131 = .ok (.iconst 1, 1) := by decide +kernel
theorem dX8_tenant_132 : decode cX8_tenant 132 = .ok (.goto 4, 3) := by decide +kernel
theorem dX8_tenant_135 : decode cX8_tenant 135 = .ok (.iconst 0, 1) := by decide +kernel
theorem dX8_tenant_136 : decode cX8_tenant 136 = .ok (.ireturn, 1) := by decide +kernel
theorem dX8_tenant_137 : decode cX8_tenant 137 = .ok (.iconst (-1), 1) := by decide +kernel
theorem dX8_tenant_138 : decode cX8_tenant 138 = .ok (.ireturn, 1) := by decide +kernel
theorem dX8_ship_0 : decode cX8_ship 0 = .ok (.aload_n 0, 1) := by decide +kernel
theorem dX8_ship_1 : decode cX8_ship 1 = .ok (.iload_n 1, 1) := by decide +kernel
theorem dX8_ship_2 : decode cX8_ship 2 = .ok (.invokevirtual 139, 3) := by decide +kernel
theorem dX8_ship_5 : decode cX8_ship 5 = .ok (.ifCond .eq 12, 3) := by decide +kernel
theorem dX8_ship_8 : decode cX8_ship 8 = .ok (.iload_n 2, 1) := by decide +kernel
theorem dX8_ship_9 : decode cX8_ship 9 = .ok (.iconst 0, 1) := by decide +kernel
theorem dX8_ship_10 : decode cX8_ship 10 = .ok (.iconst 1, 1) := by decide +kernel
theorem dX8_ship_11 : decode cX8_ship 11 = .ok (.invokestatic 103, 3) := by decide +kernel
theorem dX8_ship_14 : decode cX8_ship 14 = .ok (.ifCond .ne 5, 3) := by decide +kernel
theorem dX8_ship_17 : decode cX8_ship 17 = .ok (.iconst (-1), 1) := by decide +kernel
theorem dX8_ship_18 : decode cX8_ship 18 = .ok (.ireturn, 1) := by decide +kernel
theorem dX8_ship_19 : decode cX8_ship 19 = .ok (.iload_n 2, 1) := by decide +kernel
theorem dX8_ship_20 : decode cX8_ship 20 = .ok (.ifCond .ne 15, 3) := by decide +kernel
theorem dX8_ship_23 : decode cX8_ship 23 = .ok (.aload_n 0, 1) := by decide +kernel
theorem dX8_ship_24 : decode cX8_ship 24 = .ok (.getfield 26, 3) := by decide +kernel
theorem dX8_ship_27 : decode cX8_ship 27 = .ok (.getfield 142, 3) := by decide +kernel
theorem dX8_ship_30 : decode cX8_ship 30 = .ok (.iload_n 1, 1) := by decide +kernel
theorem dX8_ship_31 : decode cX8_ship 31 = .ok (.iaload, 1) := by decide +kernel
theorem dX8_ship_32 : decode cX8_ship 32 = .ok (.goto 12, 3) := by decide +kernel
theorem dX8_ship_35 : decode cX8_ship 35 = .ok (.aload_n 0, 1) := by decide +kernel
theorem dX8_ship_36 : decode cX8_ship 36 = .ok (.getfield 26, 3) := by decide +kernel
theorem dX8_ship_39 : decode cX8_ship 39 = .ok (.getfield 145, 3) := by decide +kernel
theorem dX8_ship_42 : decode cX8_ship 42 = .ok (.iload_n 1, 1) := by decide +kernel
theorem dX8_ship_43 : decode cX8_ship 43 = .ok (.iaload, 1) := by decide +kernel
theorem dX8_ship_44 : decode cX8_ship 44 = .ok (.ireturn, 1) := by decide +kernel
theorem dX8_stripe_0 : decode cX8_stripe 0 = .ok (.iload_n 1, 1) := by decide +kernel
theorem dX8_stripe_1 : decode cX8_stripe 1 = .ok (.invokestatic 148, 3) := by decide +kernel
theorem dX8_stripe_4 : decode cX8_stripe 4 = .ok (.ifCond .eq 12, 3) := by decide +kernel
theorem dX8_stripe_7 : decode cX8_stripe 7 = .ok (.iload_n 2, 1) := by decide +kernel
theorem dX8_stripe_8 : decode cX8_stripe 8 = .ok (.iconst 0, 1) := by decide +kernel
theorem dX8_stripe_9 : decode cX8_stripe 9 = .ok (.iconst 2, 1) := by decide +kernel
theorem dX8_stripe_10 : decode cX8_stripe 10 = .ok (.invokestatic 103, 3) := by decide +kernel
theorem dX8_stripe_13 : decode cX8_stripe 13 = .ok (.ifCond .ne 5, 3) := by decide +kernel
theorem dX8_stripe_16 : decode cX8_stripe 16 = .ok (.iconst (-1), 1) := by decide +kernel
theorem dX8_stripe_17 : decode cX8_stripe 17 = .ok (.ireturn, 1) := by decide +kernel
theorem dX8_stripe_18 : decode cX8_stripe 18 = .ok (.iload_n 2, 1) := by decide +kernel
