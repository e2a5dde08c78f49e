theorem dX9_readShipOf_30 : decode cX9_readShipOf 30 = .ok (.bipush 12, 2) := by decide +kernel
theorem dX9_readShipOf_32 : decode cX9_readShipOf 32 = .ok (.invokevirtual 119, 3) := by decide +kernel
theorem dX9_readShipOf_35 : decode cX9_readShipOf 35 = .ok (.ifCond .ne 5, 3) := by decide +kernel
theorem dX9_readShipOf_38 : decode cX9_readShipOf 38 = .ok (.iconst 0, 1) := by decide +kernel
theorem dX9_readShipOf_39 : decode cX9_readShipOf 39 = .ok (.ireturn, 1) := by decide +kernel
theorem dX9_readShipOf_40 : decode cX9_readShipOf 40 = .ok (.aload_n 0, 1) := by decide +kernel
theorem dX9_readShipOf_41 : decode cX9_readShipOf 41 = .ok (.aload_n 0, 1) := by decide +kernel
theorem dX9_readShipOf_42 : decode cX9_readShipOf 42 = .ok (.getfield 34, 3) := by decide +kernel
theorem dX9_readShipOf_45 : decode cX9_readShipOf 45 = .ok (.iconst 0, 1) := by decide +kernel
theorem dX9_readShipOf_46 : decode cX9_readShipOf 46 = .ok (.iaload, 1) := by decide +kernel
theorem dX9_readShipOf_47 : decode cX9_readShipOf 47 = .ok (.aload_n 0, 1) := by decide +kernel
theorem dX9_readShipOf_48 : decode cX9_readShipOf 48 = .ok (.getfield 34, 3) := by decide +kernel
theorem dX9_readShipOf_51 : decode cX9_readShipOf 51 = .ok (.iconst 1, 1) := by decide +kernel
theorem dX9_readShipOf_52 : decode cX9_readShipOf 52 = .ok (.iaload, 1) := by decide +kernel
theorem dX9_readShipOf_53 : decode cX9_readShipOf 53 = .ok (.invokevirtual 71, 3) := by decide +kernel
theorem dX9_readShipOf_56 : decode cX9_readShipOf 56 = .ok (.iconst 1, 1) := by decide +kernel
theorem dX9_readShipOf_57 : decode cX9_readShipOf 57 = .ok (.ireturn, 1) := by decide +kernel
theorem dX9_readFogOf_0 : decode cX9_readFogOf 0 = .ok (.aload_n 0, 1) := by decide +kernel
theorem dX9_readFogOf_1 : decode cX9_readFogOf 1 = .ok (.iconst 3, 1) := by decide +kernel
theorem dX9_readFogOf_2 : decode cX9_readFogOf 2 = .ok (.invokevirtual 116, 3) := by decide +kernel
theorem dX9_readFogOf_5 : decode cX9_readFogOf 5 = .ok (.ifCond .eq 28, 3) := by decide +kernel
theorem dX9_readFogOf_8 : decode cX9_readFogOf 8 = .ok (.aload_n 0, 1) := by decide +kernel
theorem dX9_readFogOf_9 : decode cX9_readFogOf 9 = .ok (.getfield 34, 3) := by decide +kernel
theorem dX9_readFogOf_12 : decode cX9_readFogOf 12 = .ok (.iconst 0, 1) := by decide +kernel
theorem dX9_readFogOf_13 : decode cX9_readFogOf 13 = .ok (.iaload, 1) := by decide +kernel
theorem dX9_readFogOf_14 : decode cX9_readFogOf 14 = .ok (.aload_n 0, 1) := by decide +kernel
theorem dX9_readFogOf_15 : decode cX9_readFogOf 15 = .ok (.getfield 34, 3) := by decide +kernel
theorem dX9_readFogOf_18 : decode cX9_readFogOf 18 = .ok (.iconst 1, 1) := by decide +kernel
theorem dX9_readFogOf_19 : decode cX9_readFogOf 19 = .ok (.iaload, 1) := by decide +kernel
theorem dX9_readFogOf_20 : decode cX9_readFogOf 20 = .ok (.iadd, 1) := by decide +kernel
theorem dX9_readFogOf_21 : decode cX9_readFogOf 21 = .ok (.aload_n 0, 1) := by decide +kernel
theorem dX9_readFogOf_22 : decode cX9_readFogOf 22 = .ok (.getfield 34, 3) := by decide +kernel
theorem dX9_readFogOf_25 : decode cX9_readFogOf 25 = .ok (.iconst 2, 1) := by decide +kernel
theorem dX9_readFogOf_26 : decode cX9_readFogOf 26 = .ok (.iaload, 1) := by decide +kernel
theorem dX9_readFogOf_27 : decode cX9_readFogOf 27 = .ok (.iadd, 1) := by decide +kernel
theorem dX9_readFogOf_28 : decode cX9_readFogOf 28 = .ok (.bipush 10, 2) := by decide +kernel
theorem dX9_readFogOf_30 : decode cX9_readFogOf 30 = .ok (.if_icmp .le 5, 3) := by decide +kernel
theorem dX9_readFogOf_33 : decode cX9_readFogOf 33 = .ok (.iconst 0, 1) := by decide +kernel
theorem dX9_readFogOf_34 : decode cX9_readFogOf 34 = .ok (.ireturn, 1) := by decide +kernel
theorem dX9_readFogOf_35 : decode cX9_readFogOf 35 = .ok (.aload_n 0, 1) := by decide +kernel
theorem dX9_readFogOf_36 : decode cX9_readFogOf 36 = .ok (.aload_n 0, 1) := by decide +kernel
theorem dX9_readFogOf_37 : decode cX9_readFogOf 37 = .ok (.getfield 34, 3) := by decide +kernel
theorem dX9_readFogOf_40 : decode cX9_readFogOf 40 = .ok (.iconst 0, 1) := by decide +kernel
theorem dX9_readFogOf_41 : decode cX9_readFogOf 41 = .ok (.iaload, 1) := by decide +kernel
theorem dX9_readFogOf_42 : decode cX9_readFogOf 42 = .ok (.aload_n 0, 1) := by decide +kernel
theorem dX9_readFogOf_43 : decode cX9_readFogOf 43 = .ok (.getfield 34, 3) := by decide +kernel
theorem dX9_readFogOf_46 : decode cX9_readFogOf 46 = .ok (.iconst 1, 1) := by decide +kernel
theorem dX9_readFogOf_47 : decode cX9_readFogOf 47 = .ok (.iaload, 1) := by decide +kernel
theorem dX9_readFogOf_48 : decode cX9_readFogOf 48 = .ok (.aload_n 0, 1) := by decide +kernel
theorem dX9_readFogOf_49 : decode cX9_readFogOf 49 = .ok (.getfield 34, 3) := by decide +kernel
theorem dX9_readFogOf_52 : decode cX9_readFogOf 52 = .ok (.iconst 2, 1) := by decide +kernel
theorem dX9_readFogOf_53 : decode cX9_readFogOf 53 = .ok (.iaload, 1) := by decide +kernel
theorem dX9_readFogOf_54 : decode cX9_readFogOf 54 = .ok (.invokevirtual 109, 3) := by decide +kernel
theorem dX9_readFogOf_57 : decode cX9_readFogOf 57 = .ok (.iconst 1, 1) := by decide +kernel
theorem dX9_readFogOf_58 : decode cX9_readFogOf 58 = .ok (.ireturn, 1) := by decide +kernel
theorem dX9_readMostOf_0 : decode cX9_readMostOf 0 = .ok (.aload_n 0, 1) := by decide +kernel
theorem dX9_readMostOf_1 : decode cX9_readMostOf 1 = .ok (.iconst 1, 1) := by decide +kernel
theorem dX9_readMostOf_2 : decode cX9_readMostOf 2 = .ok (.invokevirtual 116, 3) := by decide +kernel
theorem dX9_readMostOf_5 : decode cX9_readMostOf 5 = .ok (.ifCond .eq 18, 3) := by decide +kernel
theorem dX9_readMostOf_8 : decode cX9_readMostOf 8 = .ok (.aload_n 0, 1) := by decide +kernel
theorem dX9_readMostOf_9 : decode cX9_readMostOf 9 = .ok (.iconst 0, 1) := by decide +kernel
theorem dX9_readMostOf_10 : decode cX9_readMostOf 10 = .ok (.iconst 0, 1) := by decide +kernel
theorem dX9_readMostOf_11 : decode cX9_readMostOf 11 = .ok (.bipush 60, 2) := by decide +kernel
theorem dX9_readMostOf_13 : decode cX9_readMostOf 13 = .ok (.invokevirtual 119, 3) := by decide +kernel
theorem dX9_readMostOf_16 : decode cX9_readMostOf 16 = .ok (.ifCond .eq 7, 3) := by decide +kernel
theorem dX9_readMostOf_19 : decode cX9_readMostOf 19 = .ok (.iconst 1, 1) := by decide +kernel
theorem dX9_readMostOf_20 : decode cX9_readMostOf 20 = .ok (.goto 4, 3) := by decide +kernel
theorem dX9_readMostOf_23 : decode cX9_readMostOf 23 = .ok (.iconst 0, 1) := by decide +kernel
theorem dX9_readMostOf_24 : decode cX9_readMostOf 24 = .ok (.istore_n 1, 1) := by decide +kernel
theorem dX9_readMostOf_25 : decode cX9_readMostOf 25 = .ok (.aload_n 0, 1) := by decide +kernel
theorem dX9_readMostOf_26 : decode cX9_readMostOf 26 = .ok (.iload_n 1, 1) := by decide +kernel
theorem dX9_readMostOf_27 : decode cX9_readMostOf 27 = .ok (.ifCond .eq 12, 3) := by decide +kernel
theorem dX9_readMostOf_30 : decode cX9_readMostOf 30 = .ok (.aload_n 0, 1) := by decide +kernel
theorem dX9_readMostOf_31 : decode cX9_readMostOf 31 = .ok (.getfield 34, 3) := by decide +kernel
theorem dX9_readMostOf_34 : decode cX9_readMostOf 34 = .ok (.iconst 0, 1) := by decide +kernel
theorem dX9_readMostOf_35 : decode cX9_readMostOf 35 = .ok (.iaload, 1) := by decide +kernel
theorem dX9_readMostOf_36 : decode cX9_readMostOf 36 = .ok (.goto 7, 3) := by decide +kernel
theorem dX9_readMostOf_39 : decode cX9_readMostOf 39 = .ok (.aload_n 0, 1) := by decide +kernel
theorem dX9_readMostOf_40 : decode cX9_readMostOf 40 = .ok (.getfield 113, 3) := by decide +kernel
theorem dX9_readMostOf_43 : decode cX9_readMostOf 43 = .ok (.putfield 113, 3) := by decide +kernel
theorem dX9_readMostOf_46 : decode cX9_readMostOf 46 = .ok (.iload_n 1, 1) := by decide +kernel
theorem dX9_readMostOf_47 : decode cX9_readMostOf 47 = .ok (.ireturn, 1) := by decide +kernel
theorem dX9_readItem_0 : decode cX9_readItem 0 = .ok (.aload_n 0, 1) := by decide +kernel
theorem dX9_readItem_1 : decode cX9_readItem 1 = .ok (.aload_n 0, 1) := by decide +kernel
theorem dX9_readItem_2 : decode cX9_readItem 2 = .ok (.getfield 98, 3) := by decide +kernel
theorem dX9_readItem_5 : decode cX9_readItem 5 = .ok (.invokevirtual 101, 3) := by decide +kernel
theorem dX9_readItem_8 : decode cX9_readItem 8 = .ok (.istore_n 1, 1) := by decide +kernel
theorem dX9_readItem_9 : decode cX9_readItem 9 = .ok (.aload_n 0, 1) := by decide +kernel
theorem dX9_readItem_10 : decode cX9_readItem 10 = .ok (.dup, 1) := by decide +kernel
theorem dX9_readItem_11 : decode cX9_readItem 11 = .ok (.getfield 98, 3) := by decide +kernel
theorem dX9_readItem_14 : decode cX9_readItem 14 = .ok (.iconst 1, 1) := by decide +kernel
theorem dX9_readItem_15 : decode cX9_readItem 15 = .ok (.iadd, 1) := by decide +kernel
theorem dX9_readItem_16 : decode cX9_readItem 16 = .ok (.putfield 98, 3) := by decide +kernel
theorem dX9_readItem_19 : decode cX9_readItem 19 = .ok (.iload_n 1, 1) := by decide +kernel
theorem dX9_readItem_20 : decode cX9_readItem 20 = .ok (.lookupswitch 64 #[(98, 59), (102, 54), (115, 49), (116, 44)], 44) := by decide +kernel
theorem dX9_readItem_64 : decode cX9_readItem 64 = .ok (.aload_n 0, 1) := by decide +kernel
theorem dX9_readItem_65 : decode cX9_readItem 65 = .ok (.invokevirtual 122, 3) := by decide +kernel
theorem dX9_readItem_68 : decode cX9_readItem 68 = .ok (.ireturn, 1) := by decide +kernel
theorem dX9_readItem_69 : decode cX9_readItem 69 = .ok (.aload_n 0, 1) := by decide +kernel
theorem dX9_readItem_70 : decode cX9_readItem 70 = .ok (.invokevirtual 126, 3) := by decide +kernel
theorem dX9_readItem_73 : decode cX9_readItem 73 = .ok (.ireturn, 1) := by decide +kernel
theorem dX9_readItem_74 : decode cX9_readItem 74 = .ok (.aload_n 0, 1) := by decide +kernel
theorem dX9_readItem_75 : decode cX9_readItem 75 = .ok (.invokevirtual 129, 3) := by decide +kernel
theorem dX9_readItem_78 : decode cX9_readItem 78 = .ok (.ireturn, 1) := by decide +kernel
theorem dX9_readItem_79 : decode cX9_readItem 79 = .ok (.aload_n 0, 1) := by decide +kernel
theorem dX9_readItem_80 : decode cX9_readItem 80 = .ok (.invokevirtual 132, 3) := by decide +kernel
theorem dX9_readItem_83 : decode cX9_readItem 83 = .ok (.ireturn, 1) := by decide +kernel
theorem dX9_readItem_84 : decode cX9_readItem 84 = .ok (.iconst 0, 1) := by decide +kernel
theorem dX9_readItem_85 : decode cX9_readItem 85 = .ok (.ireturn, 1) := by decide +kernel
theorem dX9_fault_0 : decode cX9_fault 0 = .ok (.aload_n 0, 1) := by decide +kernel
theorem dX9_fault_1 : decode cX9_fault 1 = .ok (.iconst 0, 1) := by decide +kernel
theorem dX9_fault_2 : decode cX9_fault 2 = .ok (.putfield 98, 3) := by decide +kernel
theorem dX9_fault_5 : decode cX9_fault 5 = .ok (.aload_n 0, 1) := by decide +kernel
theorem dX9_fault_6 : decode cX9_fault 6 = .ok (.invokevirtual 64, 3) := by decide +kernel
theorem dX9_fault_9 : decode cX9_fault 9 = .ok (.aload_n 0, 1) := by decide +kernel
theorem dX9_fault_10 : decode cX9_fault 10 = .ok (.getfield 98, 3) := by decide +kernel
theorem dX9_fault_13 : decode cX9_fault 13 = .ok (.aload_n 0, 1) := by decide +kernel
theorem dX9_fault_14 : decode cX9_fault 14 = .ok (.getfield 95, 3) := by decide +kernel
theorem dX9_fault_17 : decode cX9_fault 17 = .ok (.if_icmp .ge 20, 3) := by decide +kernel
theorem dX9_fault_20 : decode cX9_fault 20 = .ok (.aload_n 0, 1) := by decide +kernel
theorem dX9_fault_21 : decode cX9_fault 21 = .ok (.getfield 98, 3) := by decide +kernel
theorem dX9_fault_24 : decode cX9_fault 24 = .ok (.istore_n 1, 1) := by decide +kernel
theorem dX9_fault_25 : decode cX9_fault 25 = .ok (.aload_n 0, 1) := by decide +kernel
theorem dX9_fault_26 : decode cX9_fault 26 = .ok (.invokevirtual 135, 3) := by decide +kernel
theorem dX9_fault_29 : decode cX9_fault 29 = .ok (.ifCond .ne 5, 3) := by decide +kernel
theorem dX9_fault_32 : decode cX9_fault 32 = .ok (.iload_n 1, 1) := by decide +kernel
theorem dX9_fault_33 : decode cX9_fault 33 = .ok (.ireturn, 1) := by decide +kernel
theorem dX9_fault_34 : decode cX9_fault 34 = .ok (.goto (-25), 3) := by decide +kernel
theorem dX9_fault_37 : decode cX9_fault 37 = .ok (.bipush (-4), 2) := by decide +kernel
theorem dX9_fault_39 : decode cX9_fault 39 = .ok (.ireturn, 1) := by decide +kernel
theorem dX9_lay_0 : decode cX9_lay 0 = .ok (.aload_n 0, 1) := by decide +kernel
theorem dX9_lay_1 : decode cX9_lay 1 = .ok (.invokevirtual 138, 3) := by decide +kernel
theorem dX9_lay_4 : decode cX9_lay 4 = .ok (.bipush (-4), 2) := by decide +kernel
theorem dX9_lay_6 : decode cX9_lay 6 = .ok (.if_icmp .ne 10, 3) := by decide +kernel
theorem dX9_lay_9 : decode cX9_lay 9 = .ok (.aload_n 0, 1) := by decide +kernel
theorem dX9_lay_10 : decode cX9_lay 10 = .ok (.getfield 78, 3) := by decide +kernel
theorem dX9_lay_13 : decode cX9_lay 13 = .ok (.ifCond .ne 6, 3) := by decide +kernel
theorem dX9_lay_16 : decode cX9_lay 16 = .ok (.bipush (-2), 2) := by decide +kernel
theorem dX9_lay_18 : decode cX9_lay 18 = .ok (.ireturn, 1) := by decide +kernel
theorem dX9_lay_19 : decode cX9_lay 19 = .ok (.aload_n 0, 1) := by decide +kernel
theorem dX9_lay_20 : decode cX9_lay 20 = .ok (.invokevirtual 75, 3) := by decide +kernel
theorem dX9_lay_23 : decode cX9_lay 23 = .ok (.aload_n 0, 1) := by decide +kernel
theorem dX9_lay_24 : decode cX9_lay 24 = .ok (.getfield 85, 3) := by decide +kernel
theorem dX9_lay_27 : decode cX9_lay 27 = .ok (.ireturn, 1) := by decide +kernel
theorem dX9_settles_0 : decode cX9_settles 0 = .ok (.aload_n 0, 1) := by decide +kernel
theorem dX9_settles_1 : decode cX9_settles 1 = .ok (.aload_n 0, 1) := by decide +kernel
theorem dX9_settles_2 : decode cX9_settles 2 = .ok (.getfield 78, 3) := by decide +kernel
theorem dX9_settles_5 : decode cX9_settles 5 = .ok (.putfield 85, 3) := by decide +kernel
theorem dX9_settles_8 : decode cX9_settles 8 = .ok (.aload_n 0, 1) := by decide +kernel
theorem dX9_settles_9 : decode cX9_settles 9 = .ok (.aload_n 0, 1) := by decide +kernel
theorem dX9_settles_10 : decode cX9_settles 10 = .ok (.getfield 82, 3) := by decide +kernel
theorem dX9_settles_13 : decode cX9_settles 13 = .ok (.putfield 92, 3) := by decide +kernel
theorem dX9_settles_16 : decode cX9_settles 16 = .ok (.aload_n 0, 1) := by decide +kernel
theorem dX9_settles_17 : decode cX9_settles 17 = .ok (.aload_n 0, 1) := by decide +kernel
theorem dX9_settles_18 : decode cX9_settles 18 = .ok (.getfield 113, 3) := by decide +kernel
theorem dX9_settles_21 : decode cX9_settles 21 = .ok (.putfield 142, 3) := by decide +kernel
theorem dX9_settles_24 : decode cX9_settles 24 = .ok (.aload_n 0, 1) := by decide +kernel
theorem dX9_settles_25 : decode cX9_settles 25 = .ok (.getfield 7, 3) := by decide +kernel
theorem dX9_settles_28 : decode cX9_settles 28 = .ok (.iconst 0, 1) := by decide +kernel
theorem dX9_settles_29 : decode cX9_settles 29 = .ok (.aload_n 0, 1) := by decide +kernel
theorem dX9_settles_30 : decode cX9_settles 30 = .ok (.getfield 37, 3) := by decide +kernel
theorem dX9_settles_33 : decode cX9_settles 33 = .ok (.bipush 18, 2) := by decide +kernel
theorem dX9_settles_35 : decode cX9_settles 35 = .ok (.invokestatic 145, 3) := by decide +kernel
theorem dX9_settles_38 : decode cX9_settles 38 = .ok (.aload_n 0, 1) := by decide +kernel
theorem dX9_settles_39 : decode cX9_settles 39 = .ok (.getfield 13, 3) := by decide +kernel
theorem dX9_settles_42 : decode cX9_settles 42 = .ok (.iconst 0, 1) := by decide +kernel
theorem dX9_settles_43 : decode cX9_settles 43 = .ok (.aload_n 0, 1) := by decide +kernel
theorem dX9_settles_44 : decode cX9_settles 44 = .ok (.getfield 40, 3) := by decide +kernel
theorem dX9_settles_47 : decode cX9_settles 47 = .ok (.bipush 10, 2) := by decide +kernel
theorem dX9_settles_49 : decode cX9_settles 49 = .ok (.invokestatic 145, 3) := by decide +kernel
theorem dX9_settles_52 : decode cX9_settles 52 = .ok (.aload_n 0, 1) := by decide +kernel
theorem dX9_settles_53 : decode cX9_settles 53 = .ok (.getfield 16, 3) := by decide +kernel
theorem dX9_settles_56 : decode cX9_settles 56 = .ok (.iconst 0, 1) := by decide +kernel
theorem dX9_settles_57 : decode cX9_settles 57 = .ok (.aload_n 0, 1) := by decide +kernel
theorem dX9_settles_58 : decode cX9_settles 58 = .ok (.getfield 43, 3) := by decide +kernel
theorem dX9_settles_61 : decode cX9_settles 61 = .ok (.iconst 4, 1) := by decide +kernel
theorem dX9_settles_62 : decode cX9_settles 62 = .ok (.invokestatic 145, 3) := by decide +kernel
theorem dX9_settles_65 : decode cX9_settles 65 = .ok (.aload_n 0, 1) := by decide +kernel
theorem dX9_settles_66 : decode cX9_settles 66 = .ok (.getfield 19, 3) := by decide +kernel
theorem dX9_settles_69 : decode cX9_settles 69 = .ok (.iconst 0, 1) := by decide +kernel
theorem dX9_settles_70 : decode cX9_settles 70 = .ok (.aload_n 0, 1) := by decide +kernel
theorem dX9_settles_71 : decode cX9_settles 71 = .ok (.getfield 46, 3) := by decide +kernel
theorem dX9_settles_74 : decode cX9_settles 74 = .ok (.bipush 20, 2) := by decide +kernel
theorem dX9_settles_76 : decode cX9_settles 76 = .ok (.invokestatic 145, 3) := by decide +kernel
theorem dX9_settles_79 : decode cX9_settles 79 = .ok (.aload_n 0, 1) := by decide +kernel
theorem dX9_settles_80 : decode cX9_settles 80 = .ok (.iconst 0, 1) := by decide +kernel
theorem dX9_settles_81 : decode cX9_settles 81 = .ok (.putfield 149, 3) := by decide +kernel
theorem dX9_settles_84 : decode cX9_settles 84 = .ok (.aload_n 0, 1) := by decide +kernel
theorem dX9_settles_85 : decode cX9_settles 85 = .ok (.iconst 0, 1) := by decide +kernel
theorem dX9_settles_86 : decode cX9_settles 86 = .ok (.putfield 152, 3) := by decide +kernel
theorem dX9_settles_89 : decode cX9_settles 89 = .ok (.aload_n 0, 1) := by decide +kernel
theorem dX9_settles_90 : decode cX9_settles 90 = .ok (.iconst 0, 1) := by decide +kernel
theorem dX9_settles_91 : decode cX9_settles 91 = .ok (.putfield 155, 3) := by decide +kernel
theorem dX9_settles_94 : decode cX9_settles 94 = .ok (.return_, 1) := by decide +kernel
theorem dX9_asItIs_0 : decode cX9_asItIs 0 = .ok (.aload_n 0, 1) := by decide +kernel
theorem dX9_asItIs_1 : decode cX9_asItIs 1 = .ok (.getfield 49, 3) := by decide +kernel
theorem dX9_asItIs_4 : decode cX9_asItIs 4 = .ok (.iconst 0, 1) := by decide +kernel
theorem dX9_asItIs_5 : decode cX9_asItIs 5 = .ok (.aload_n 0, 1) := by decide +kernel
theorem dX9_asItIs_6 : decode cX9_asItIs 6 = .ok (.getfield 19, 3) := by decide +kernel
theorem dX9_asItIs_9 : decode cX9_asItIs 9 = .ok (.bipush 20, 2) := by decide +kernel
theorem dX9_asItIs_11 : decode cX9_asItIs 11 = .ok (.invokestatic 145, 3) := by decide +kernel
theorem dX9_asItIs_14 : decode cX9_asItIs 14 = .ok (.aload_n 0, 1) := by decide +kernel
theorem dX9_asItIs_15 : decode cX9_asItIs 15 = .ok (.aload_n 0, 1) := by decide +kernel
theorem dX9_asItIs_16 : decode cX9_asItIs 16 = .ok (.invokevirtual 158, 3) := by decide +kernel
theorem dX9_asItIs_19 : decode cX9_asItIs 19 = .ok (.putfield 161, 3) := by decide +kernel
theorem dX9_asItIs_22 : decode cX9_asItIs 22 = .ok (.return_, 1) := by decide +kernel
theorem dX9_behindNow_0 : decode cX9_behindNow 0 = .ok (.iconst 0, 1) := by decide +kernel
theorem dX9_behindNow_1 : decode cX9_behindNow 1 = .ok (.istore_n 1, 1) := by decide +kernel
theorem dX9_behindNow_2 : decode cX9_behindNow 2 = .ok (.iconst 0, 1) := by decide +kernel
theorem dX9_behindNow_3 : decode cX9_behindNow 3 = .ok (.istore_n 2, 1) := by decide +kernel
theorem dX9_behindNow_4 : decode cX9_behindNow 4 = .ok (.iload_n 2, 1) := by decide +kernel
theorem dX9_behindNow_5 : decode cX9_behindNow 5 = .ok (.aload_n 0, 1) := by decide +kernel
theorem dX9_behindNow_6 : decode cX9_behindNow 6 = .ok (.getfield 85, 3) := by decide +kernel
theorem dX9_behindNow_9 : decode cX9_behindNow 9 = .ok (.if_icmp .ge 34, 3) := by decide +kernel
theorem dX9_behindNow_12 : decode cX9_behindNow 12 = .ok (.iload_n 1, 1) := by decide +kernel
theorem dX9_behindNow_13 : decode cX9_behindNow 13 = .ok (.aload_n 0, 1) := by decide +kernel
theorem dX9_behindNow_14 : decode cX9_behindNow 14 = .ok (.getfield 49, 3) := by decide +kernel
theorem dX9_behindNow_17 : decode cX9_behindNow 17 = .ok (.iconst 2, 1) := by decide +kernel
theorem dX9_behindNow_18 : decode cX9_behindNow 18 = .ok (.iload_n 2, 1) := by decide +kernel
theorem dX9_behindNow_19 : decode cX9_behindNow 19 = .ok (.iadd, 1) := by decide +kernel
theorem dX9_behindNow_20 : decode cX9_behindNow 20 = .ok (.iaload, 1) := by decide +kernel
theorem dX9_behindNow_21 : decode cX9_behindNow 21 = .ok (.aload_n 0, 1) := by decide +kernel
theorem dX9_behindNow_22 : decode cX9_behindNow 22 = .ok (.getfield 142, 3) := by decide +kernel
theorem dX9_behindNow_25 : decode cX9_behindNow 25 = .ok (.if_icmp .le 9, 3) := by decide +kernel
theorem dX9_behindNow_28 : decode cX9_behindNow 28 = .ok (.iconst 1, 1) := by decide +kernel
theorem dX9_behindNow_29 : decode cX9_behindNow 29 = .ok (.iload_n 2, 1) := by decide +kernel
theorem dX9_behindNow_30 : decode cX9_behindNow 30 = .ok (.ishl, 1) := by decide +kernel
theorem dX9_behindNow_31 : decode cX9_behindNow 31 = .ok (.goto 4, 3) := by decide +kernel
theorem dX9_behindNow_34 : decode cX9_behindNow 34 = .ok (.iconst 0, 1) := by decide +kernel
theorem dX9_behindNow_35 : decode cX9_behindNow 35 = .ok (.ior, 1) := by decide +kernel
theorem dX9_behindNow_36 : decode cX9_behindNow 36 = .ok (.istore_n 1, 1) := by decide +kernel
theorem dX9_behindNow_37 : decode cX9_behindNow 37 = .ok (.iinc 2 1, 3) := by decide +kernel
theorem dX9_behindNow_40 : decode cX9_behindNow 40 = .ok (.goto (-36), 3) := by decide +kernel
theorem dX9_behindNow_43 : decode cX9_behindNow 43 = .ok (.iload_n 1, 1) := by decide +kernel
theorem dX9_behindNow_44 : decode cX9_behindNow 44 = .ok (.ireturn, 1) := by decide +kernel
theorem dX9_isProudest_0 : decode cX9_isProudest 0 = .ok (.iconst 1, 1) := by decide +kernel
theorem dX9_isProudest_1 : decode cX9_isProudest 1 = .ok (.istore_n 2, 1) := by decide +kernel
theorem dX9_isProudest_2 : decode cX9_isProudest 2 = .ok (.iconst 0, 1) := by decide +kernel
theorem dX9_isProudest_3 : decode cX9_isProudest 3 = .ok (.istore_n 3, 1) := by decide +kernel
theorem dX9_isProudest_4 : decode cX9_isProudest 4 = .ok (.iload_n 3, 1) := by decide +kernel
theorem dX9_isProudest_5 : decode cX9_isProudest 5 = .ok (.aload_n 0, 1) := by decide +kernel
theorem dX9_isProudest_6 : decode cX9_isProudest 6 = .ok (.getfield 85, 3) := by decide +kernel
theorem dX9_isProudest_9 : decode cX9_isProudest 9 = .ok (.if_icmp .ge 66, 3) := by decide +kernel
theorem dX9_isProudest_12 : decode cX9_isProudest 12 = .ok (.iload_n 2, 1) := by decide +kernel
theorem dX9_isProudest_13 : decode cX9_isProudest 13 = .ok (.ifCond .eq 54, 3) := by decide +kernel
theorem dX9_isProudest_16 : decode cX9_isProudest 16 = .ok (.iload_n 3, 1) := by decide +kernel
theorem dX9_isProudest_17 : decode cX9_isProudest 17 = .ok (.iload_n 1, 1) := by decide +kernel
theorem dX9_isProudest_18 : decode cX9_isProudest 18 = .ok (.if_icmp .eq 45, 3) := by decide +kernel
theorem dX9_isProudest_21 : decode cX9_isProudest 21 = .ok (.aload_n 0, 1) := by decide +kernel
theorem dX9_isProudest_22 : decode cX9_isProudest 22 = .ok (.getfield 7, 3) := by decide +kernel
theorem dX9_isProudest_25 : decode cX9_isProudest 25 = .ok (.iconst 3, 1) := by decide +kernel
theorem dX9_isProudest_26 : decode cX9_isProudest 26 = .ok (.iload_n 3, 1) := by decide +kernel
theorem dX9_isProudest_27 : decode cX9_isProudest 27 = .ok (.imul, 1) := by decide +kernel
theorem dX9_isProudest_28 : decode cX9_isProudest 28 = .ok (.iaload, 1) := by decide +kernel
theorem dX9_isProudest_29 : decode cX9_isProudest 29 = .ok (.aload_n 0, 1) := by decide +kernel
theorem dX9_isProudest_30 : decode cX9_isProudest 30 = .ok (.getfield 7, 3) := by decide +kernel
theorem dX9_isProudest_33 : decode cX9_isProudest 33 = .ok (.iconst 3, 1) := by decide +kernel
theorem dX9_isProudest_34 : decode cX9_isProudest 34 = .ok (.iload_n 1, 1) := by decide +kernel
theorem dX9_isProudest_35 : decode cX9_isProudest 35 = .ok (.imul, 1) := by decide +kernel
theorem dX9_isProudest_36 : decode cX9_isProudest 36 = .ok (.iaload, 1) := by decide +kernel
theorem dX9_isProudest_37 : decode cX9_isProudest 37 = .ok (.if_icmp .ne 26, 3) := by decide +kernel
theorem dX9_isProudest_40 : decode cX9_isProudest 40 = .ok (.aload_n 0, 1) := by decide +kernel
theorem dX9_isProudest_41 : decode cX9_isProudest 41 = .ok (.getfield 7, 3) := by decide +kernel
theorem dX9_isProudest_44 : decode cX9_isProudest 44 = .ok (.iconst 3, 1) := by decide +kernel
theorem dX9_isProudest_45 : decode cX9_isProudest 45 = .ok (.iload_n 3, 1) := by decide +kernel
theorem dX9_isProudest_46 : decode cX9_isProudest 46 = .ok (.imul, 1) := by decide +kernel
theorem dX9_isProudest_47 : decode cX9_isProudest 47 = .ok (.iconst 1, 1) := by decide +kernel
theorem dX9_isProudest_48 : decode cX9_isProudest 48 = .ok (.iadd, 1) := by decide +kernel
theorem dX9_isProudest_49 : decode cX9_isProudest 49 = .ok (.iaload, 1) := by decide +kernel
theorem dX9_isProudest_50 : decode cX9_isProudest 50 = .ok (.aload_n 0, 1) := by decide +kernel
theorem dX9_isProudest_51 : decode cX9_isProudest 51 = .ok (.getfield 7, 3) := by decide +kernel
theorem dX9_isProudest_54 : decode cX9_isProudest 54 = .ok (.iconst 3, 1) := by decide +kernel
theorem dX9_isProudest_55 : decode cX9_isProudest 55 = .ok (.iload_n 1, 1) := by decide +kernel
theorem dX9_isProudest_56 : decode cX9_isProudest 56 = .ok (.imul, 1) := by decide +kernel
theorem dX9_isProudest_57 : decode cX9_isProudest 57 = .ok (.iconst 1, 1) := by decide +kernel
theorem dX9_isProudest_58 : decode cX9_isProudest 58 = .ok (.iadd, 1) := by decide +kernel
theorem dX9_isProudest_59 : decode cX9_isProudest 59 = .ok (.iaload, 1) := by decide +kernel
theorem dX9_isProudest_60 : decode cX9_isProudest 60 = .ok (.if_icmp .gt 7, 3) := by decide +kernel
theorem dX9_isProudest_63 : decode cX9_isProudest 63 = .ok (.iconst 1, 1) := by decide +kernel
theorem dX9_isProudest_64 : decode cX9_isProudest 64 = .ok (.goto 4, 3) := by decide +kernel
theorem dX9_isProudest_67 : decode cX9_isProudest 67 = .ok (.iconst 0, 1) := by decide +kernel
theorem dX9_isProudest_68 : decode cX9_isProudest 68 = .ok (.istore_n 2, 1) := by decide +kernel
theorem dX9_isProudest_69 : decode cX9_isProudest 69 = .ok (.iinc 3 1, 3) := by decide +kernel
theorem dX9_isProudest_72 : decode cX9_isProudest 72 = .ok (.goto (-68), 3) := by decide +kernel
theorem dX9_isProudest_75 : decode cX9_isProudest 75 = .ok (.iload_n 2, 1) := by decide +kernel
theorem dX9_isProudest_76 : decode cX9_isProudest 76 = .ok (.ireturn, 1) := by decide +kernel
theorem dX9_shines_0 : decode cX9_shines 0 = .ok (.aload_n 0, 1) := by decide +kernel
theorem dX9_shines_1 : decode cX9_shines 1 = .ok (.getfield 49, 3) := by decide +kernel
theorem dX9_shines_4 : decode cX9_shines 4 = .ok (.iconst 0, 1) := by decide +kernel
theorem dX9_shines_5 : decode cX9_shines 5 = .ok (.iaload, 1) := by decide +kernel
theorem dX9_shines_6 : decode cX9_shines 6 = .ok (.iconst 2, 1) := by decide +kernel
theorem dX9_shines_7 : decode cX9_shines 7 = .ok (.irem, 1) := by decide +kernel
theorem dX9_shines_8 : decode cX9_shines 8 = .ok (.ifCond .ne 7, 3) := by decide +kernel
theorem dX9_shines_11 : decode cX9_shines 11 = .ok (.iconst 1, 1) := by decide +kernel
theorem dX9_shines_12 : decode cX9_shines 12 = .ok (.goto 4, 3) := by decide +kernel
theorem dX9_shines_15 : decode cX9_shines 15 = .ok (.iconst 0, 1) := by decide +kernel
theorem dX9_shines_16 : decode cX9_shines 16 = .ok (.istore_n 3, 1) := by decide +kernel
theorem dX9_shines_17 : decode cX9_shines 17 = .ok (.aload_n 0, 1) := by decide +kernel
theorem dX9_shines_18 : decode cX9_shines 18 = .ok (.getfield 7, 3) := by decide +kernel
theorem dX9_shines_21 : decode cX9_shines 21 = .ok (.iconst 3, 1) := by decide +kernel
theorem dX9_shines_22 : decode cX9_shines 22 = .ok (.iload_n 1, 1) := by decide +kernel
theorem dX9_shines_23 : decode cX9_shines 23 = .ok (.imul, 1) := by decide +kernel
theorem dX9_shines_24 : decode cX9_shines 24 = .ok (.iconst 2, 1) := by decide +kernel
theorem dX9_shines_25 : decode cX9_shines 25 = .ok (.iadd, 1) := by decide +kernel
theorem dX9_shines_26 : decode cX9_shines 26 = .ok (.iaload, 1) := by decide +kernel
theorem dX9_shines_27 : decode cX9_shines 27 = .ok (.tableswitch 50 0 2 #[25, 27, 29], 25) := by decide +kernel
theorem dX9_shines_52 : decode cX9_shines 52 = .ok (.iconst 1, 1) := by decide +kernel
theorem dX9_shines_53 : decode cX9_shines 53 = .ok (.ireturn, 1) := by decide +kernel
theorem dX9_shines_54 : decode cX9_shines 54 = .ok (.iload_n 3, 1) := by decide +kernel
theorem dX9_shines_55 : decode cX9_shines 55 = .ok (.ireturn, 1) := by decide +kernel
theorem dX9_shines_56 : decode cX9_shines 56 = .ok (.iload_n 2, 1) := by decide +kernel
theorem dX9_shines_57 : decode cX9_shines 57 = .ok (.iconst 2, 1) := by decide +kernel
theorem dX9_shines_58 : decode cX9_shines 58 = .ok (.irem, 1) := by decide +kernel
theorem dX9_shines_59 : decode cX9_shines 59 = .ok (.ifCond .ne 7, 3) := by decide +kernel
theorem dX9_shines_62 : decode cX9_shines 62 = .ok (.iconst 1, 1) := by decide +kernel
theorem dX9_shines_63 : decode cX9_shines 63 = .ok (.goto 4, 3) := by decide +kernel
theorem dX9_shines_66 : decode cX9_shines 66 = .ok (.iconst 0, 1) := by decide +kernel
theorem dX9_shines_67 : decode cX9_shines 67 = .ok (.iload_n 3, 1) := by decide +kernel
theorem dX9_shines_68 : decode cX9_shines 68 = .ok (.if_icmp .ne 7, 3) := by decide +kernel
theorem dX9_shines_71 : decode cX9_shines 71 = .ok (.iconst 1, 1) := by decide +kernel
theorem dX9_shines_72 : decode cX9_shines 72 = .ok (.goto 4, 3) := by decide +kernel
theorem dX9_shines_75 : decode cX9_shines 75 = .ok (.iconst 0, 1) := by decide +kernel
theorem dX9_shines_76 : decode cX9_shines 76 = .ok (.ireturn, 1) := by decide +kernel
theorem dX9_shines_77 : decode cX9_shines 77 = .ok (.aload_n 0, 1) := by decide +kernel
theorem dX9_shines_78 : decode cX9_shines 78 = .ok (.iload_n 1, 1) := by decide +kernel
theorem dX9_shines_79 : decode cX9_shines 79 = .ok (.invokevirtual 164, 3) := by decide +kernel
theorem dX9_shines_82 : decode cX9_shines 82 = .ok (.ireturn, 1) := by decide +kernel
theorem dX9_paint_0 : decode cX9_paint 0 = .ok (.iconst 0, 1) := by decide +kernel
theorem dX9_paint_1 : decode cX9_paint 1 = .ok (.istore_n 1, 1) := by decide +kernel
theorem dX9_paint_2 : decode cX9_paint 2 = .ok (.iload_n 1, 1) := by decide +kernel
theorem dX9_paint_3 : decode cX9_paint 3 = .ok (.bipush 24, 2) := by decide +kernel
theorem dX9_paint_5 : decode cX9_paint 5 = .ok (.if_icmp .ge 157, 3) := by decide +kernel
theorem dX9_paint_8 : decode cX9_paint 8 = .ok (.aload_n 0, 1) := by decide +kernel
theorem dX9_paint_9 : decode cX9_paint 9 = .ok (.getfield 52, 3) := by decide +kernel
theorem dX9_paint_12 : decode cX9_paint 12 = .ok (.iload_n 1, 1) := by decide +kernel
theorem dX9_paint_13 : decode cX9_paint 13 = .ok (.iconst (-1), 1) := by decide +kernel
theorem dX9_paint_14 : decode cX9_paint 14 = .ok (.iastore, 1) := by decide +kernel
theorem dX9_paint_15 : decode cX9_paint 15 = .ok (.aload_n 0, 1) := by decide +kernel
theorem dX9_paint_16 : decode cX9_paint 16 = .ok (.getfield 85, 3) := by decide +kernel
theorem dX9_paint_19 : decode cX9_paint 19 = .ok (.iconst 1, 1) := by decide +kernel
theorem dX9_paint_20 : decode cX9_paint 20 = .ok (.isub, 1) := by decide +kernel
theorem dX9_paint_21 : decode cX9_paint 21 = .ok (.istore_n 2, 1) := by decide +kernel
theorem dX9_paint_22 : decode cX9_paint 22 = .ok (.iload_n 2, 1) := by decide +kernel
theorem dX9_paint_23 : decode cX9_paint 23 = .ok (.ifCond .lt 88, 3) := by decide +kernel
theorem dX9_paint_26 : decode cX9_paint 26 = .ok (.iload_n 1, 1) := by decide +kernel
theorem dX9_paint_27 : decode cX9_paint 27 = .ok (.bipush 24, 2) := by decide +kernel
theorem dX9_paint_29 : decode cX9_paint 29 = .ok (.iadd, 1) := by decide +kernel
theorem dX9_paint_30 : decode cX9_paint 30 = .ok (.aload_n 0, 1) := by decide +kernel
theorem dX9_paint_31 : decode cX9_paint 31 = .ok (.getfield 49, 3) := by decide +kernel
theorem dX9_paint_34 : decode cX9_paint 34 = .ok (.bipush 8, 2) := by decide +kernel
theorem dX9_paint_36 : decode cX9_paint 36 = .ok (.iload_n 2, 1) := by decide +kernel
theorem dX9_paint_37 : decode cX9_paint 37 = .ok (.iadd, 1) := by decide +kernel
theorem dX9_paint_38 : decode cX9_paint 38 = .ok (.iaload, 1) := by decide +kernel
theorem dX9_paint_39 : decode cX9_paint 39 = .ok (.isub, 1) := by decide +kernel
theorem dX9_paint_40 : decode cX9_paint 40 = .ok (.bipush 24, 2) := by decide +kernel
theorem dX9_paint_42 : decode cX9_paint 42 = .ok (.irem, 1) := by decide +kernel
theorem dX9_paint_43 : decode cX9_paint 43 = .ok (.istore_n 3, 1) := by decide +kernel
theorem dX9_paint_44 : decode cX9_paint 44 = .ok (.iload_n 3, 1) := by decide +kernel
theorem dX9_paint_45 : decode cX9_paint 45 = .ok (.aload_n 0, 1) := by decide +kernel
theorem dX9_paint_46 : decode cX9_paint 46 = .ok (.getfield 49, 3) := by decide +kernel
theorem dX9_paint_49 : decode cX9_paint 49 = .ok (.bipush 14, 2) := by decide +kernel
theorem dX9_paint_51 : decode cX9_paint 51 = .ok (.iload_n 2, 1) := by decide +kernel
theorem dX9_paint_52 : decode cX9_paint 52 = .ok (.iadd, 1) := by decide +kernel
theorem dX9_paint_53 : decode cX9_paint 53 = .ok (.iaload, 1) := by decide +kernel
theorem dX9_paint_54 : decode cX9_paint 54 = .ok (.if_icmp .ge 27, 3) := by decide +kernel
theorem dX9_paint_57 : decode cX9_paint 57 = .ok (.aload_n 0, 1) := by decide +kernel
theorem dX9_paint_58 : decode cX9_paint 58 = .ok (.getfield 161, 3) := by decide +kernel
theorem dX9_paint_61 : decode cX9_paint 61 = .ok (.iload_n 2, 1) := by decide +kernel
theorem dX9_paint_62 : decode cX9_paint 62 = .ok (.invokestatic 167, 3) := by decide +kernel
theorem dX9_paint_65 : decode cX9_paint 65 = .ok (.ifCond .ne 16, 3) := by decide +kernel
theorem dX9_paint_68 : decode cX9_paint 68 = .ok (.aload_n 0, 1) := by decide +kernel
theorem dX9_paint_69 : decode cX9_paint 69 = .ok (.iload_n 2, 1) := by decide +kernel
theorem dX9_paint_70 : decode cX9_paint 70 = .ok (.iload_n 3, 1) := by decide +kernel
theorem dX9_paint_71 : decode cX9_paint 71 = .ok (.invokevirtual 171, 3) := by decide +kernel
theorem dX9_paint_74 : decode cX9_paint 74 = .ok (.ifCond .eq 7, 3) := by decide +kernel
theorem dX9_paint_77 : decode cX9_paint 77 = .ok (.iconst 1, 1) := by decide +kernel
theorem dX9_paint_78 : decode cX9_paint 78 = .ok (.goto 4, 3) := by decide +kernel
theorem dX9_paint_81 : decode cX9_paint 81 = .ok (.iconst 0, 1) := by decide +kernel
theorem dX9_paint_82 : decode cX9_paint 82 = .ok (.istore 4, 2) := by decide +kernel
theorem dX9_paint_84 : decode cX9_paint 84 = .ok (.aload_n 0, 1) := by decide +kernel
theorem dX9_paint_85 : decode cX9_paint 85 = .ok (.getfield 52, 3) := by decide +kernel
theorem dX9_paint_88 : decode cX9_paint 88 = .ok (.iload_n 1, 1) := by decide +kernel
theorem dX9_paint_89 : decode cX9_paint 89 = .ok (.iload 4, 2) := by decide +kernel
theorem dX9_paint_91 : decode cX9_paint 91 = .ok (.ifCond .eq 7, 3) := by decide +kernel
theorem dX9_paint_94 : decode cX9_paint 94 = .ok (.iload_n 2, 1) := by decide +kernel
theorem dX9_paint_95 : decode cX9_paint 95 = .ok (.goto 9, 3) := by decide +kernel
theorem dX9_paint_98 : decode cX9_paint 98 = .ok (.aload_n 0, 1) := by decide +kernel
theorem dX9_paint_99 : decode cX9_paint 99 = .ok (.getfield 52, 3) := by decide +kernel
theorem dX9_paint_102 : decode cX9_paint 102 = .ok (.iload_n 1, 1) := by decide +kernel
theorem dX9_paint_103 : decode cX9_paint 103 = .ok (.iaload, 1) := by decide +kernel
theorem dX9_paint_104 : decode cX9_paint 104 = .ok (.iastore, 1) := by decide +kernel
theorem dX9_paint_105 : decode cX9_paint 105 = .ok (.iinc 2 (-1), 3) := by decide +kernel
theorem dX9_paint_108 : decode cX9_paint 108 = .ok (.goto (-86), 3) := by decide +kernel
theorem dX9_paint_111 : decode cX9_paint 111 = .ok (.aload_n 0, 1) := by decide +kernel
theorem dX9_paint_112 : decode cX9_paint 112 = .ok (.getfield 55, 3) := by decide +kernel
theorem dX9_paint_115 : decode cX9_paint 115 = .ok (.iload_n 1, 1) := by decide +kernel
theorem dX9_paint_116 : decode cX9_paint 116 = .ok (.aload_n 0, 1) := by decide +kernel
theorem dX9_paint_117 : decode cX9_paint 117 = .ok (.getfield 52, 3) := by decide +kernel
theorem dX9_paint_120 : decode cX9_paint 120 = .ok (.iload_n 1, 1) := by decide +kernel
theorem dX9_paint_121 : decode cX9_paint 121 = .ok (.iaload, 1) := by decide +kernel
theorem dX9_paint_122 : decode cX9_paint 122 = .ok (.ifCond .lt 16, 3) := by decide +kernel
theorem dX9_paint_125 : decode cX9_paint 125 = .ok (.aload_n 0, 1) := by decide +kernel
theorem dX9_paint_126 : decode cX9_paint 126 = .ok (.getfield 49, 3) := by decide +kernel
theorem dX9_paint_129 : decode cX9_paint 129 = .ok (.iconst 1, 1) := by decide +kernel
theorem dX9_paint_130 : decode cX9_paint 130 = .ok (.iaload, 1) := by decide +kernel
theorem dX9_paint_131 : decode cX9_paint 131 = .ok (.iload_n 1, 1) := by decide +kernel
theorem dX9_paint_132 : decode cX9_paint 132 = .ok (.invokestatic 167, 3) := by decide +kernel
theorem dX9_paint_135 : decode cX9_paint 135 = .ok (.ifCond .eq 7, 3) := by decide +kernel
theorem dX9_paint_138 : decode cX9_paint 138 = .ok (.iconst 4, 1) := by decide +kernel
theorem dX9_paint_139 : decode cX9_paint 139 = .ok (.goto 16, 3) := by decide +kernel
theorem dX9_paint_142 : decode cX9_paint 142 = .ok (.aload_n 0, 1) := by decide +kernel
theorem dX9_paint_143 : decode cX9_paint 143 = .ok (.getfield 7, 3) := by decide +kernel
theorem dX9_paint_146 : decode cX9_paint 146 = .ok (.iconst 3, 1) := by decide +kernel
theorem dX9_paint_147 : decode cX9_paint 147 = .ok (.aload_n 0, 1) := by decide +kernel
theorem dX9_paint_148 : decode cX9_paint 148 = .ok (.getfield 52, 3) := by decide +kernel
theorem dX9_paint_151 : decode cX9_paint 151 = .ok (.iload_n 1, 1) := by decide +kernel
theorem dX9_paint_152 : decode cX9_paint 152 = .ok (.iaload, 1) := by decide +kernel
theorem dX9_paint_153 : decode cX9_paint 153 = .ok (.imul, 1) := by decide +kernel
theorem dX9_paint_154 : decode cX9_paint 154 = .ok (.iaload, 1) := by decide +kernel
theorem dX9_paint_155 : decode cX9_paint 155 = .ok (.iastore, 1) := by decide +kernel
theorem dX9_paint_156 : decode cX9_paint 156 = .ok (.iinc 1 1, 3) := by decide +kernel
theorem dX9_paint_159 : decode cX9_paint 159 = .ok (.goto (-157), 3) := by decide +kernel
theorem dX9_paint_162 : decode cX9_paint 162 = .ok (.return_, 1) := by decide +kernel
theorem dX9_isSeen_0 : decode cX9_isSeen 0 = .ok (.iload_n 0, 1) := by decide +kernel
theorem dX9_isSeen_1 : decode cX9_isSeen 1 = .ok (.iconst 4, 1) := by decide +kernel
theorem dX9_isSeen_2 : decode cX9_isSeen 2 = .ok (.if_icmp .eq 35, 3) := by decide +kernel
theorem dX9_isSeen_5 : decode cX9_isSeen 5 = .ok (.iload_n 1, 1) := by decide +kernel
theorem dX9_isSeen_6 : decode cX9_isSeen 6 = .ok (.ifCond .eq 27, 3) := by decide +kernel
theorem dX9_isSeen_9 : decode cX9_isSeen 9 = .ok (.iload_n 1, 1) := by decide +kernel
theorem dX9_isSeen_10 : decode cX9_isSeen 10 = .ok (.iconst 1, 1) := by decide +kernel
theorem dX9_isSeen_11 : decode cX9_isSeen 11 = .ok (.if_icmp .ne 8, 3) := by decide +kernel
theorem dX9_isSeen_14 : decode cX9_isSeen 14 = .ok (.iload_n 0, 1) := by decide +kernel
theorem dX9_isSeen_15 : decode cX9_isSeen 15 = .ok (.iconst 3, 1) := by decide +kernel
theorem dX9_isSeen_16 : decode cX9_isSeen 16 = .ok (.if_icmp .ne 17, 3) := by decide +kernel
theorem dX9_isSeen_19 : decode cX9_isSeen 19 = .ok (.iload_n 1, 1) := by decide +kernel
theorem dX9_isSeen_20 : decode cX9_isSeen 20 = .ok (.iconst 2, 1) := by decide +kernel
theorem dX9_isSeen_21 : decode cX9_isSeen 21 = .ok (.if_icmp .ne 8, 3) := by decide +kernel
theorem dX9_isSeen_24 : decode cX9_isSeen 24 = .ok (.iload_n 0, 1) := by decide +kernel
theorem dX9_isSeen_25 : decode cX9_isSeen 25 = .ok (.iconst 2, 1) := by decide +kernel
theorem dX9_isSeen_26 : decode cX9_isSeen 26 = .ok (.if_icmp .lt 7, 3) := by decide +kernel
theorem dX9_isSeen_29 : decode cX9_isSeen 29 = .ok (.iload_n 0, 1) := by decide +kernel
theorem dX9_isSeen_30 : decode cX9_isSeen 30 = .ok (.ifCond .ne 7, 3) := by decide +kernel
theorem dX9_isSeen_33 : decode cX9_isSeen 33 = .ok (.iconst 1, 1) := by decide +kernel
theorem dX9_isSeen_34 : decode cX9_isSeen 34 = .ok (.goto 4, 3) := by decide +kernel
theorem dX9_isSeen_37 : decode cX9_isSeen 37 = .ok (.iconst 0, 1) := by decide +kernel
theorem dX9_isSeen_38 : decode cX9_isSeen 38 = .ok (.ireturn, 1) := by decide +kernel
theorem dX9_sees_0 : decode cX9_sees 0 = .ok (.iload_n 2, 1) := by decide +kernel
theorem dX9_sees_1 : decode cX9_sees 1 = .ok (.bipush 24, 2) := by decide +kernel
theorem dX9_sees_3 : decode cX9_sees 3 = .ok (.iadd, 1) := by decide +kernel
theorem dX9_sees_4 : decode cX9_sees 4 = .ok (.aload_n 0, 1) := by decide +kernel
theorem dX9_sees_5 : decode cX9_sees 5 = .ok (.getfield 13, 3) := by decide +kernel
theorem dX9_sees_8 : decode cX9_sees 8 = .ok (.iconst 2, 1) := by decide +kernel
theorem dX9_sees_9 : decode cX9_sees 9 = .ok (.iload_n 1, 1) := by decide +kernel
theorem dX9_sees_10 : decode cX9_sees 10 = .ok (.imul, 1) := by decide +kernel
theorem dX9_sees_11 : decode cX9_sees 11 = .ok (.iaload, 1) := by decide +kernel
theorem dX9_sees_12 : decode cX9_sees 12 = .ok (.isub, 1) := by decide +kernel
theorem dX9_sees_13 : decode cX9_sees 13 = .ok (.bipush 24, 2) := by decide +kernel
theorem dX9_sees_15 : decode cX9_sees 15 = .ok (.irem, 1) := by decide +kernel
theorem dX9_sees_16 : decode cX9_sees 16 = .ok (.aload_n 0, 1) := by decide +kernel
theorem dX9_sees_17 : decode cX9_sees 17 = .ok (.getfield 13, 3) := by decide +kernel
theorem dX9_sees_20 : decode cX9_sees 20 = .ok (.iconst 2, 1) := by decide +kernel
theorem dX9_sees_21 : decode cX9_sees 21 = .ok (.iload_n 1, 1) := by decide +kernel
theorem dX9_sees_22 : decode cX9_sees 22 = .ok (.imul, 1) := by decide +kernel
theorem dX9_sees_23 : decode cX9_sees 23 = .ok (.iconst 1, 1) := by decide +kernel
theorem dX9_sees_24 : decode cX9_sees 24 = .ok (.iadd, 1) := by decide +kernel
theorem dX9_sees_25 : decode cX9_sees 25 = .ok (.iaload, 1) := by decide +kernel
theorem dX9_sees_26 : decode cX9_sees 26 = .ok (.if_icmp .ge 7, 3) := by decide +kernel
theorem dX9_sees_29 : decode cX9_sees 29 = .ok (.iconst 1, 1) := by decide +kernel
theorem dX9_sees_30 : decode cX9_sees 30 = .ok (.goto 4, 3) := by decide +kernel
theorem dX9_sees_33 : decode cX9_sees 33 = .ok (.iconst 0, 1) := by decide +kernel
theorem dX9_sees_34 : decode cX9_sees 34 = .ok (.ireturn, 1) := by decide +kernel
theorem dX9_signOf_0 : decode cX9_signOf 0 = .ok (.iconst 0, 1) := by decide +kernel
theorem dX9_signOf_1 : decode cX9_signOf 1 = .ok (.istore_n 3, 1) := by decide +kernel
theorem dX9_signOf_2 : decode cX9_signOf 2 = .ok (.iload_n 3, 1) := by decide +kernel
theorem dX9_signOf_3 : decode cX9_signOf 3 = .ok (.iconst 4, 1) := by decide +kernel
theorem dX9_signOf_4 : decode cX9_signOf 4 = .ok (.if_icmp .ge 117, 3) := by decide +kernel
theorem dX9_signOf_7 : decode cX9_signOf 7 = .ok (.iconst 0, 1) := by decide +kernel
theorem dX9_signOf_8 : decode cX9_signOf 8 = .ok (.istore 4, 2) := by decide +kernel
theorem dX9_signOf_10 : decode cX9_signOf 10 = .ok (.iconst 0, 1) := by decide +kernel
theorem dX9_signOf_11 : decode cX9_signOf 11 = .ok (.istore 5, 2) := by decide +kernel
theorem dX9_signOf_13 : decode cX9_signOf 13 = .ok (.iconst 0, 1) := by decide +kernel
theorem dX9_signOf_14 : decode cX9_signOf 14 = .ok (.istore 6, 2) := by decide +kernel
theorem dX9_signOf_16 : decode cX9_signOf 16 = .ok (.iload 6, 2) := by decide +kernel
theorem dX9_signOf_18 : decode cX9_signOf 18 = .ok (.bipush 24, 2) := by decide +kernel
theorem dX9_signOf_20 : decode cX9_signOf 20 = .ok (.if_icmp .ge 75, 3) := by decide +kernel
theorem dX9_signOf_23 : decode cX9_signOf 23 = .ok (.iload 4, 2) := by decide +kernel
theorem dX9_signOf_25 : decode cX9_signOf 25 = .ok (.ifCond .ne 24, 3) := by decide +kernel
theorem dX9_signOf_28 : decode cX9_signOf 28 = .ok (.aload_n 0, 1) := by decide +kernel
theorem dX9_signOf_29 : decode cX9_signOf 29 = .ok (.getfield 55, 3) := by decide +kernel
theorem dX9_signOf_32 : decode cX9_signOf 32 = .ok (.iload 6, 2) := by decide +kernel
theorem dX9_signOf_34 : decode cX9_signOf 34 = .ok (.iaload, 1) := by decide +kernel
theorem dX9_signOf_35 : decode cX9_signOf 35 = .ok (.iload_n 3, 1) := by decide +kernel
theorem dX9_signOf_36 : decode cX9_signOf 36 = .ok (.if_icmp .ne 17, 3) := by decide +kernel
theorem dX9_signOf_39 : decode cX9_signOf 39 = .ok (.aload_n 0, 1) := by decide +kernel
theorem dX9_signOf_40 : decode cX9_signOf 40 = .ok (.iload_n 1, 1) := by decide +kernel
theorem dX9_signOf_41 : decode cX9_signOf 41 = .ok (.iload 6, 2) := by decide +kernel
theorem dX9_signOf_43 : decode cX9_signOf 43 = .ok (.invokevirtual 174, 3) := by decide +kernel
theorem dX9_signOf_46 : decode cX9_signOf 46 = .ok (.ifCond .eq 7, 3) := by decide +kernel
theorem dX9_signOf_49 : decode cX9_signOf 49 = .ok (.iconst 1, 1) := by decide +kernel
theorem dX9_signOf_50 : decode cX9_signOf 50 = .ok (.goto 4, 3) := by decide +kernel
theorem dX9_signOf_53 : decode cX9_signOf 53 = .ok (.iconst 0, 1) := by decide +kernel
theorem dX9_signOf_54 : decode cX9_signOf 54 = .ok (.istore 4, 2) := by decide +kernel
theorem dX9_signOf_56 : decode cX9_signOf 56 = .ok (.iload 5, 2) := by decide +kernel
theorem dX9_signOf_58 : decode cX9_signOf 58 = .ok (.ifCond .ne 24, 3) := by decide +kernel
theorem dX9_signOf_61 : decode cX9_signOf 61 = .ok (.aload_n 0, 1) := by decide +kernel
theorem dX9_signOf_62 : decode cX9_signOf 62 = .ok (.getfield 55, 3) := by decide +kernel
theorem dX9_signOf_65 : decode cX9_signOf 65 = .ok (.iload 6, 2) := by decide +kernel
theorem dX9_signOf_67 : decode cX9_signOf 67 = .ok (.iaload, 1) := by decide +kernel
theorem dX9_signOf_68 : decode cX9_signOf 68 = .ok (.iload_n 3, 1) := by decide +kernel
theorem dX9_signOf_69 : decode cX9_signOf 69 = .ok (.if_icmp .ne 17, 3) := by decide +kernel
theorem dX9_signOf_72 : decode cX9_signOf 72 = .ok (.aload_n 0, 1) := by decide +kernel
theorem dX9_signOf_73 : decode cX9_signOf 73 = .ok (.iload_n 1, 1) := by decide +kernel
theorem dX9_signOf_74 : decode cX9_signOf 74 = .ok (.iload 6, 2) := by decide +kernel
theorem dX9_signOf_76 : decode cX9_signOf 76 = .ok (.invokevirtual 174, 3) := by decide +kernel
theorem dX9_signOf_79 : decode cX9_signOf 79 = .ok (.ifCond .ne 7, 3) := by decide +kernel
theorem dX9_signOf_82 : decode cX9_signOf 82 = .ok (.iconst 1, 1) := by decide +kernel
theorem dX9_signOf_83 : decode cX9_signOf 83 = .ok (.goto 4, 3) := by decide +kernel
theorem dX9_signOf_86 : decode cX9_signOf 86 = .ok (.iconst 0, 1) := by decide +kernel
theorem dX9_signOf_87 : decode cX9_signOf 87 = .ok (.istore 5, 2) := by decide +kernel
theorem dX9_signOf_89 : decode cX9_signOf 89 = .ok (.iinc 6 1, 3) := by decide +kernel
theorem dX9_signOf_92 : decode cX9_signOf 92 = .ok (.goto (-76), 3) := by decide +kernel
theorem dX9_signOf_95 : decode cX9_signOf 95 = .ok (.iload 4, 2) := by decide +kernel
theorem dX9_signOf_97 : decode cX9_signOf 97 = .ok (.ifCond .eq 18, 3) := by decide +kernel
theorem dX9_signOf_100 : decode cX9_signOf 100 = .ok (.iload 5, 2) := by decide +kernel
theorem dX9_signOf_102 : decode cX9_signOf 102 = .ok (.ifCond .ne 13, 3) := by decide +kernel
theorem dX9_signOf_105 : decode cX9_signOf 105 = .ok (.iload_n 3, 1) := by decide +kernel
theorem dX9_signOf_106 : decode cX9_signOf 106 = .ok (.iload_n 2, 1) := by decide +kernel
theorem dX9_signOf_107 : decode cX9_signOf 107 = .ok (.invokestatic 177, 3) := by decide +kernel
theorem dX9_signOf_110 : decode cX9_signOf 110 = .ok (.ifCond .eq 5, 3) := by decide +kernel
theorem dX9_signOf_113 : decode cX9_signOf 113 = .ok (.iload_n 3, 1) := by decide +kernel
theorem dX9_signOf_114 : decode cX9_signOf 114 = .ok (.ireturn, 1) := by decide +kernel
theorem dX9_signOf_115 : decode cX9_signOf 115 = .ok (.iinc 3 1, 3) := by decide +kernel
theorem dX9_signOf_118 : decode cX9_signOf 118 = .ok (.goto (-116), 3) := by decide +kernel
theorem dX9_signOf_121 : decode cX9_signOf 121 = .ok (.iconst (-1), 1) := by decide +kernel
theorem dX9_signOf_122 : decode cX9_signOf 122 = .ok (.ireturn, 1) := by decide +kernel
theorem dX9_sureIn_0 : decode cX9_sureIn 0 = .ok (.iconst 0, 1) := by decide +kernel
theorem dX9_sureIn_1 : decode cX9_sureIn 1 = .ok (.istore_n 2, 1) := by decide +kernel
theorem dX9_sureIn_2 : decode cX9_sureIn 2 = .ok (.iconst 0, 1) := by decide +kernel
theorem dX9_sureIn_3 : decode cX9_sureIn 3 = .ok (.istore_n 3, 1) := by decide +kernel
theorem dX9_sureIn_4 : decode cX9_sureIn 4 = .ok (.iload_n 3, 1) := by decide +kernel
theorem dX9_sureIn_5 : decode cX9_sureIn 5 = .ok (.aload_n 0, 1) := by decide +kernel
theorem dX9_sureIn_6 : decode cX9_sureIn 6 = .ok (.getfield 92, 3) := by decide +kernel
theorem dX9_sureIn_9 : decode cX9_sureIn 9 = .ok (.if_icmp .ge 28, 3) := by decide +kernel
theorem dX9_sureIn_12 : decode cX9_sureIn 12 = .ok (.iload_n 2, 1) := by decide +kernel
theorem dX9_sureIn_13 : decode cX9_sureIn 13 = .ok (.aload_n 0, 1) := by decide +kernel
theorem dX9_sureIn_14 : decode cX9_sureIn 14 = .ok (.iload_n 3, 1) := by decide +kernel
theorem dX9_sureIn_15 : decode cX9_sureIn 15 = .ok (.iload_n 1, 1) := by decide +kernel
theorem dX9_sureIn_16 : decode cX9_sureIn 16 = .ok (.invokevirtual 180, 3) := by decide +kernel
theorem dX9_sureIn_19 : decode cX9_sureIn 19 = .ok (.ifCond .lt 9, 3) := by decide +kernel
theorem dX9_sureIn_22 : decode cX9_sureIn 22 = .ok (.iconst 1, 1) := by decide +kernel
theorem dX9_sureIn_23 : decode cX9_sureIn 23 = .ok (.iload_n 3, 1) := by decide +kernel
theorem dX9_sureIn_24 : decode cX9_sureIn 24 = .ok (.ishl, 1) := by decide +kernel
theorem dX9_sureIn_25 : decode cX9_sureIn 25 = .ok (.goto 4, 3) := by decide +kernel
theorem dX9_sureIn_28 : decode cX9_sureIn 28 = .ok (.iconst 0, 1) := by decide +kernel
theorem dX9_sureIn_29 : decode cX9_sureIn 29 = .ok (.ior, 1) := by decide +kernel
theorem dX9_sureIn_30 : decode cX9_sureIn 30 = .ok (.istore_n 2, 1) := by decide +kernel
theorem dX9_sureIn_31 : decode cX9_sureIn 31 = .ok (.iinc 3 1, 3) := by decide +kernel
theorem dX9_sureIn_34 : decode cX9_sureIn 34 = .ok (.goto (-30), 3) := by decide +kernel
theorem dX9_sureIn_37 : decode cX9_sureIn 37 = .ok (.iload_n 2, 1) := by decide +kernel
theorem dX9_sureIn_38 : decode cX9_sureIn 38 = .ok (.ireturn, 1) := by decide +kernel
theorem dX9_sureInAny_0 : decode cX9_sureInAny 0 = .ok (.aload_n 0, 1) := by decide +kernel
theorem dX9_sureInAny_1 : decode cX9_sureInAny 1 = .ok (.iconst 0, 1) := by decide +kernel
theorem dX9_sureInAny_2 : decode cX9_sureInAny 2 = .ok (.invokevirtual 184, 3) := by decide +kernel
theorem dX9_sureInAny_5 : decode cX9_sureInAny 5 = .ok (.aload_n 0, 1) := by decide +kernel
theorem dX9_sureInAny_6 : decode cX9_sureInAny 6 = .ok (.iconst 1, 1) := by decide +kernel
theorem dX9_sureInAny_7 : decode cX9_sureInAny 7 = .ok (.invokevirtual 184, 3) := by decide +kernel
theorem dX9_sureInAny_10 : decode cX9_sureInAny 10 = .ok (.iand, 1) := by decide +kernel
theorem dX9_sureInAny_11 : decode cX9_sureInAny 11 = .ok (.aload_n 0, 1) := by decide +kernel
theorem dX9_sureInAny_12 : decode cX9_sureInAny 12 = .ok (.iconst 2, 1) := by decide +kernel
theorem dX9_sureInAny_13 : decode cX9_sureInAny 13 = .ok (.invokevirtual 184, 3) := by decide +kernel
theorem dX9_sureInAny_16 : decode cX9_sureInAny 16 = .ok (.iand, 1) := by decide +kernel
theorem dX9_sureInAny_17 : decode cX9_sureInAny 17 = .ok (.aload_n 0, 1) := by decide +kernel
theorem dX9_sureInAny_18 : decode cX9_sureInAny 18 = .ok (.iconst 3, 1) := by decide +kernel
theorem dX9_sureInAny_19 : decode cX9_sureInAny 19 = .ok (.invokevirtual 184, 3) := by decide +kernel
theorem dX9_sureInAny_22 : decode cX9_sureInAny 22 = .ok (.iand, 1) := by decide +kernel
theorem dX9_sureInAny_23 : decode cX9_sureInAny 23 = .ok (.ireturn, 1) := by decide +kernel
theorem dX9_tenant_0 : decode cX9_tenant 0 = .ok (.aload_n 0, 1) := by decide +kernel
theorem dX9_tenant_1 : decode cX9_tenant 1 = .ok (.iload_n 1, 1) := by decide +kernel
theorem dX9_tenant_2 : decode cX9_tenant 2 = .ok (.invokevirtual 187, 3) := by decide +kernel
theorem dX9_tenant_5 : decode cX9_tenant 5 = .ok (.ifCond .eq 13, 3) := by decide +kernel
theorem dX9_tenant_8 : decode cX9_tenant 8 = .ok (.iload_n 2, 1) := by decide +kernel
theorem dX9_tenant_9 : decode cX9_tenant 9 = .ok (.iconst 0, 1) := by decide +kernel
theorem dX9_tenant_10 : decode cX9_tenant 10 = .ok (.bipush 6, 2) := by decide +kernel
theorem dX9_tenant_12 : decode cX9_tenant 12 = .ok (.invokestatic 88, 3) := by decide +kernel
theorem dX9_tenant_15 : decode cX9_tenant 15 = .ok (.ifCond .ne 5, 3) := by decide +kernel
theorem dX9_tenant_18 : decode cX9_tenant 18 = .ok (.iconst (-1), 1) := by decide +kernel
theorem dX9_tenant_19 : decode cX9_tenant 19 = .ok (.ireturn, 1) := by decide +kernel
theorem dX9_tenant_20 : decode cX9_tenant 20 = .ok (.aload_n 0, 1) := by decide +kernel
theorem dX9_tenant_21 : decode cX9_tenant 21 = .ok (.invokevirtual 190, 3) := by decide +kernel
theorem dX9_tenant_24 : decode cX9_tenant 24 = .ok (.iload_n 2, 1) := by decide +kernel
theorem dX9_tenant_25 : decode cX9_tenant 25 = .ok (.tableswitch 98 0 6 #[43, 52, 62, 98, 98, 72, 81], 43) := by decide +kernel
theorem dX9_tenant_68 : decode cX9_tenant 68 = .ok (.aload_n 0, 1) := by decide +kernel
theorem dX9_tenant_69 : decode cX9_tenant 69 = .ok (.getfield 7, 3) := by decide +kernel
theorem dX9_tenant_72 : decode cX9_tenant 72 = .ok (.iconst 3, 1) := by decide +kernel
theorem dX9_tenant_73 : decode cX9_tenant 73 = .ok (.iload_n 1, 1) := by decide +kernel
theorem dX9_tenant_74 : decode cX9_tenant 74 = .ok (.imul, 1) := by decide +kernel
theorem dX9_tenant_75 : decode cX9_tenant 75 = .ok (.iaload, 1) := by decide +kernel
theorem dX9_tenant_76 : decode cX9_tenant 76 = .ok (.ireturn, 1) := by decide +kernel
theorem dX9_tenant_77 : decode cX9_tenant 77 = .ok (.aload_n 0, 1) := by decide +kernel
theorem dX9_tenant_78 : decode cX9_tenant 78 = .ok (.getfield 19, 3) := by decide +kernel
theorem dX9_tenant_81 : decode cX9_tenant 81 = .ok (.bipush 8, 2) := by decide +kernel
theorem dX9_tenant_83 : decode cX9_tenant 83 = .ok (.iload_n 1, 1) := by decide +kernel
theorem dX9_tenant_84 : decode cX9_tenant 84 = .ok (.iadd, 1) := by decide +kernel
theorem dX9_tenant_85 : decode cX9_tenant 85 = .ok (.iaload, 1) := by decide +kernel
theorem dX9_tenant_86 : decode cX9_tenant 86 = .ok (.ireturn, 1) := by decide +kernel
theorem dX9_tenant_87 : decode cX9_tenant 87 = .ok (.aload_n 0, 1) := by decide +kernel
theorem dX9_tenant_88 : decode cX9_tenant 88 = .ok (.getfield 19, 3) := by decide +kernel
theorem dX9_tenant_91 : decode cX9_tenant 91 = .ok (.bipush 14, 2) := by decide +kernel
theorem dX9_tenant_93 : decode cX9_tenant 93 = .ok (.iload_n 1, 1) := by decide +kernel
theorem dX9_tenant_94 : decode cX9_tenant 94 = .ok (.iadd, 1) := by decide +kernel
theorem dX9_tenant_95 : decode cX9_tenant 95 = .ok (.iaload, 1) := by decide +kernel
theorem dX9_tenant_96 : decode cX9_tenant 96 = .ok (.ireturn, 1) := by decide +kernel
theorem dX9_tenant_97 : decode cX9_tenant 97 = .ok (.aload_n 0, 1) := by decide +kernel
theorem dX9_tenant_98 : decode cX9_tenant 98 = .ok (.getfield 19, 3) := by decide +kernel
theorem dX9_tenant_101 : decode cX9_tenant 101 = .ok (.iconst 2, 1) := by decide +kernel
theorem dX9_tenant_102 : decode cX9_tenant 102 = .ok (.iload_n 1, 1) := by decide +kernel
theorem dX9_tenant_103 : decode cX9_tenant 103 = .ok (.iadd, 1) := by decide +kernel
theorem dX9_tenant_104 : decode cX9_tenant 104 = .ok (.iaload, 1) := by decide +kernel
theorem dX9_tenant_105 : decode cX9_tenant 105 = .ok (.ireturn, 1) := by decide +kernel
theorem dX9_tenant_106 : decode cX9_tenant 106 = .ok (.aload_n 0, 1) := by decide +kernel
theorem dX9_tenant_107 : decode cX9_tenant 107 = .ok (.getfield 161, 3) := by decide +kernel
theorem dX9_tenant_110 : decode cX9_tenant 110 = .ok (.iload_n 1, 1) := by decide +kernel
theorem dX9_tenant_111 : decode cX9_tenant 111 = .ok (.invokestatic 167, 3) := by decide +kernel
theorem dX9_tenant_114 : decode cX9_tenant 114 = .ok (.ifCond .eq 7, 3) := by decide +kernel
theorem dX9_tenant_117 : decode cX9_tenant 117 = .ok (.iconst 1, 1) := by decide +kernel
theorem dX9_tenant_118 : decode cX9_tenant 118 = .ok (.goto 4, 3) := by decide +kernel
theorem dX9_tenant_121 : decode cX9_tenant 121 = .ok (.iconst 0, 1) := by decide +kernel
theorem dX9_tenant_122 : decode cX9_tenant 122 = .ok (.ireturn, 1) := by decide +kernel
theorem dX9_tenant_123 : decode cX9_tenant 123 = .ok (.aload_n 0, 1) := by decide +kernel
theorem dX9_tenant_124 : decode cX9_tenant 124 = .ok (.getfield 7, 3) := by decide +kernel
theorem dX9_tenant_127 : decode cX9_tenant 127 = .ok (.iconst 3, 1) := by decide +kernel
theorem dX9_tenant_128 : decode cX9_tenant 128 = .ok (.iload_n 1, 1) := by decide +kernel
theorem dX9_tenant_129 : decode cX9_tenant 129 = .ok (.imul, 1) := by decide +kernel
theorem dX9_tenant_130 : decode cX9_tenant 130 = .ok (.iload_n 2, 1) := by decide +kernel
theorem dX9_tenant_131 : decode cX9_tenant 131 = .ok (.iadd, 1) := by decide +kernel
theorem dX9_tenant_132 : decode cX9_tenant 132 = .ok (.iconst 2, 1) := by decide +kernel
theorem dX9_tenant_133 : decode cX9_tenant 133 = .ok (.isub, 1) := by decide +kernel
theorem dX9_tenant_134 : decode cX9_tenant 134 = .ok (.iaload, 1) := by decide +kernel
theorem dX9_tenant_135 : decode cX9_tenant 135 = .ok (.ireturn, 1) := by decide +kernel
theorem dX9_ship_0 : decode cX9_ship 0 = .ok (.aload_n 0, 1) := by decide +kernel
theorem dX9_ship_1 : decode cX9_ship 1 = .ok (.iload_n 1, 1) := by decide +kernel
theorem dX9_ship_2 : decode cX9_ship 2 = .ok (.invokevirtual 193, 3) := by decide +kernel
theorem dX9_ship_5 : decode cX9_ship 5 = .ok (.ifCond .eq 25, 3) := by decide +kernel
theorem dX9_ship_8 : decode cX9_ship 8 = .ok (.iload_n 2, 1) := by decide +kernel
theorem dX9_ship_9 : decode cX9_ship 9 = .ok (.iconst 0, 1) := by decide +kernel
theorem dX9_ship_10 : decode cX9_ship 10 = .ok (.iconst 1, 1) := by decide +kernel
theorem dX9_ship_11 : decode cX9_ship 11 = .ok (.invokestatic 88, 3) := by decide +kernel
theorem dX9_ship_14 : decode cX9_ship 14 = .ok (.ifCond .eq 16, 3) := by decide +kernel
theorem dX9_ship_17 : decode cX9_ship 17 = .ok (.aload_n 0, 1) := by decide +kernel
theorem dX9_ship_18 : decode cX9_ship 18 = .ok (.getfield 13, 3) := by decide +kernel
theorem dX9_ship_21 : decode cX9_ship 21 = .ok (.iconst 2, 1) := by decide +kernel
theorem dX9_ship_22 : decode cX9_ship 22 = .ok (.iload_n 1, 1) := by decide +kernel
theorem dX9_ship_23 : decode cX9_ship 23 = .ok (.imul, 1) := by decide +kernel
theorem dX9_ship_24 : decode cX9_ship 24 = .ok (.iload_n 2, 1) := by decide +kernel
theorem dX9_ship_25 : decode cX9_ship 25 = .ok (.iadd, 1) := by decide +kernel
theorem dX9_ship_26 : decode cX9_ship 26 = .ok (.iaload, 1) := by decide +kernel
theorem dX9_ship_27 : decode cX9_ship 27 = .ok (.goto 4, 3) := by decide +kernel
theorem dX9_ship_30 : decode cX9_ship 30 = .ok (.iconst (-1), 1) := by decide +kernel
theorem dX9_ship_31 : decode cX9_ship 31 = .ok (.ireturn, 1) := by decide +kernel
theorem dX9_stripe_0 : decode cX9_stripe 0 = .ok (.iload_n 1, 1) := by decide +kernel
theorem dX9_stripe_1 : decode cX9_stripe 1 = .ok (.invokestatic 196, 3) := by decide +kernel
theorem dX9_stripe_4 : decode cX9_stripe 4 = .ok (.ifCond .eq 12, 3) := by decide +kernel
theorem dX9_stripe_7 : decode cX9_stripe 7 = .ok (.iload_n 2, 1) := by decide +kernel
theorem dX9_stripe_8 : decode cX9_stripe 8 = .ok (.iconst 0, 1) := by decide +kernel
theorem dX9_stripe_9 : decode cX9_stripe 9 = .ok (.iconst 2, 1) := by decide +kernel
theorem dX9_stripe_10 : decode cX9_stripe 10 = .ok (.invokestatic 88, 3) := by decide +kernel
theorem dX9_stripe_13 : decode cX9_stripe 13 = .ok (.ifCond .ne 5, 3) := by decide +kernel
theorem dX9_stripe_16 : decode cX9_stripe 16 = .ok (.iconst (-1), 1) := by decide +kernel
theorem dX9_stripe_17 : decode cX9_stripe 17 = .ok (.ireturn, 1) := by decide +kernel
theorem dX9_stripe_18 : decode cX9_stripe 18 = .ok (.aload_n 0, 1) := by decide +kernel
theorem dX9_stripe_19 : decode cX9_stripe 19 = .ok (.invokevirtual 190, 3) := by decide +kernel
theorem dX9_stripe_22 : decode cX9_stripe 22 = .ok (.aload_n 0, 1) := by decide +kernel
theorem dX9_stripe_23 : decode cX9_stripe 23 = .ok (.invokevirtual 199, 3) := by decide +kernel
theorem dX9_stripe_26 : decode cX9_stripe 26 = .ok (.iload_n 2, 1) := by decide +kernel
theorem dX9_stripe_27 : decode cX9_stripe 27 = .ok (.ifCond .ne 12, 3) := by decide +kernel
theorem dX9_stripe_30 : decode cX9_stripe 30 = .ok (.aload_n 0, 1) := by decide +kernel
theorem dX9_stripe_31 : decode cX9_stripe 31 = .ok (.getfield 55, 3) := by decide +kernel
theorem dX9_stripe_34 : decode cX9_stripe 34 = .ok (.iload_n 1, 1) := by decide +kernel
theorem dX9_stripe_35 : decode cX9_stripe 35 = .ok (.iaload, 1) := by decide +kernel
theorem dX9_stripe_36 : decode cX9_stripe 36 = .ok (.goto 41, 3) := by decide +kernel
theorem dX9_stripe_39 : decode cX9_stripe 39 = .ok (.iload_n 2, 1) := by decide +kernel
theorem dX9_stripe_40 : decode cX9_stripe 40 = .ok (.iconst 2, 1) := by decide +kernel
theorem dX9_stripe_41 : decode cX9_stripe 41 = .ok (.if_icmp .ne 16, 3) := by decide +kernel
theorem dX9_stripe_44 : decode cX9_stripe 44 = .ok (.aload_n 0, 1) := by decide +kernel
theorem dX9_stripe_45 : decode cX9_stripe 45 = .ok (.getfield 19, 3) := by decide +kernel
theorem dX9_stripe_48 : decode cX9_stripe 48 = .ok (.iconst 1, 1) := by decide +kernel
theorem dX9_stripe_49 : decode cX9_stripe 49 = .ok (.iaload, 1) := by decide +kernel
theorem dX9_stripe_50 : decode cX9_stripe 50 = .ok (.iload_n 1, 1) := by decide +kernel
theorem dX9_stripe_51 : decode cX9_stripe 51 = .ok (.ishr, 1) := by decide +kernel
theorem dX9_stripe_52 : decode cX9_stripe 52 = .ok (.iconst 1, 1) := by decide +kernel
theorem dX9_stripe_53 : decode cX9_stripe 53 = .ok (.iand, 1) := by decide +kernel
theorem dX9_stripe_54 : decode cX9_stripe 54 = .ok (.goto 23, 3) := by decide +kernel
theorem dX9_stripe_57 : decode cX9_stripe 57 = .ok (.aload_n 0, 1) := by decide +kernel
theorem dX9_stripe_58 : decode cX9_stripe 58 = .ok (.getfield 52, 3) := by decide +kernel
theorem dX9_stripe_61 : decode cX9_stripe 61 = .ok (.iload_n 1, 1) := by decide +kernel
theorem dX9_stripe_62 : decode cX9_stripe 62 = .ok (.iaload, 1) := by decide +kernel
theorem dX9_stripe_63 : decode cX9_stripe 63 = .ok (.ifCond .ge 8, 3) := by decide +kernel
theorem dX9_stripe_66 : decode cX9_stripe 66 = .ok (.bipush (-4), 2) := by decide +kernel
theorem dX9_stripe_68 : decode cX9_stripe 68 = .ok (.goto 9, 3) := by decide +kernel
theorem dX9_stripe_71 : decode cX9_stripe 71 = .ok (.aload_n 0, 1) := by decide +kernel
theorem dX9_stripe_72 : decode cX9_stripe 72 = .ok (.getfield 52, 3) := by decide +kernel
theorem dX9_stripe_75 : decode cX9_stripe 75 = .ok (.iload_n 1, 1) := by decide +kernel
theorem dX9_stripe_76 : decode cX9_stripe 76 = .ok (.iaload, 1) := by decide +kernel
theorem dX9_stripe_77 : decode cX9_stripe 77 = .ok (.ireturn, 1) := by decide +kernel
theorem dX9_remembers_0 : decode cX9_remembers 0 = .ok (.aload_n 0, 1) := by decide +kernel
theorem dX9_remembers_1 : decode cX9_remembers 1 = .ok (.getfield 149, 3) := by decide +kernel
theorem dX9_remembers_4 : decode cX9_remembers 4 = .ok (.bipush 8, 2) := by decide +kernel
theorem dX9_remembers_6 : decode cX9_remembers 6 = .ok (.if_icmp .ne 43, 3) := by decide +kernel
theorem dX9_remembers_9 : decode cX9_remembers 9 = .ok (.iconst 0, 1) := by decide +kernel
theorem dX9_remembers_10 : decode cX9_remembers 10 = .ok (.istore_n 1, 1) := by decide +kernel
theorem dX9_remembers_11 : decode cX9_remembers 11 = .ok (.iload_n 1, 1) := by decide +kernel
theorem dX9_remembers_12 : decode cX9_remembers 12 = .ok (.sipush 140, 3) := by decide +kernel
theorem dX9_remembers_15 : decode cX9_remembers 15 = .ok (.if_icmp .ge 24, 3) := by decide +kernel
theorem dX9_remembers_18 : decode cX9_remembers 18 = .ok (.aload_n 0, 1) := by decide +kernel
theorem dX9_remembers_19 : decode cX9_remembers 19 = .ok (.getfield 22, 3) := by decide +kernel
theorem dX9_remembers_22 : decode cX9_remembers 22 = .ok (.iload_n 1, 1) := by decide +kernel
theorem dX9_remembers_23 : decode cX9_remembers 23 = .ok (.aload_n 0, 1) := by decide +kernel
theorem dX9_remembers_24 : decode cX9_remembers 24 = .ok (.getfield 22, 3) := by decide +kernel
theorem dX9_remembers_27 : decode cX9_remembers 27 = .ok (.iload_n 1, 1) := by decide +kernel
theorem dX9_remembers_28 : decode cX9_remembers 28 = .ok (.bipush 20, 2) := by decide +kernel
theorem dX9_remembers_30 : decode cX9_remembers 30 = .ok (.iadd, 1) := by decide +kernel
theorem dX9_remembers_31 : decode cX9_remembers 31 = .ok (.iaload, 1) := by decide +kernel
theorem dX9_remembers_32 : decode cX9_remembers 32 = .ok (.iastore, 1) := by decide +kernel
theorem dX9_remembers_33 : decode cX9_remembers 33 = .ok (.iinc 1 1, 3) := by decide +kernel
theorem dX9_remembers_36 : decode cX9_remembers 36 = .ok (.goto (-25), 3) := by decide +kernel
theorem dX9_remembers_39 : decode cX9_remembers 39 = .ok (.aload_n 0, 1) := by decide +kernel
theorem dX9_remembers_40 : decode cX9_remembers 40 = .ok (.dup, 1) := by decide +kernel
theorem dX9_remembers_41 : decode cX9_remembers 41 = .ok (.getfield 149, 3) := by decide +kernel
theorem dX9_remembers_44 : decode cX9_remembers 44 = .ok (.iconst 1, 1) := by decide +kernel
theorem dX9_remembers_45 : decode cX9_remembers 45 = .ok (.isub, 1) := by decide +kernel
theorem dX9_remembers_46 : decode cX9_remembers 46 = .ok (.putfield 149, 3) := by decide +kernel
theorem dX9_remembers_49 : decode cX9_remembers 49 = .ok (.aload_n 0, 1) := by decide +kernel
theorem dX9_remembers_50 : decode cX9_remembers 50 = .ok (.getfield 22, 3) := by decide +kernel
theorem dX9_remembers_53 : decode cX9_remembers 53 = .ok (.bipush 20, 2) := by decide +kernel
theorem dX9_remembers_55 : decode cX9_remembers 55 = .ok (.aload_n 0, 1) := by decide +kernel
theorem dX9_remembers_56 : decode cX9_remembers 56 = .ok (.getfield 149, 3) := by decide +kernel
theorem dX9_remembers_59 : decode cX9_remembers 59 = .ok (.imul, 1) := by decide +kernel
theorem dX9_remembers_60 : decode cX9_remembers 60 = .ok (.aload_n 0, 1) := by decide +kernel
theorem dX9_remembers_61 : decode cX9_remembers 61 = .ok (.getfield 19, 3) := by decide +kernel
theorem dX9_remembers_64 : decode cX9_remembers 64 = .ok (.bipush 20, 2) := by decide +kernel
theorem dX9_remembers_66 : decode cX9_remembers 66 = .ok (.invokestatic 145, 3) := by decide +kernel
theorem dX9_remembers_69 : decode cX9_remembers 69 = .ok (.aload_n 0, 1) := by decide +kernel
theorem dX9_remembers_70 : decode cX9_remembers 70 = .ok (.dup, 1) := by decide +kernel
theorem dX9_remembers_71 : decode cX9_remembers 71 = .ok (.getfield 149, 3) := by decide +kernel
theorem dX9_remembers_74 : decode cX9_remembers 74 = .ok (.iconst 1, 1) := by decide +kernel
theorem dX9_remembers_75 : decode cX9_remembers 75 = .ok (.iadd, 1) := by decide +kernel
theorem dX9_remembers_76 : decode cX9_remembers 76 = .ok (.putfield 149, 3) := by decide +kernel
theorem dX9_remembers_79 : decode cX9_remembers 79 = .ok (.return_, 1) := by decide +kernel
theorem dX9_pass_0 : decode cX9_pass 0 = .ok (.iload_n 1, 1) := by decide +kernel
theorem dX9_pass_1 : decode cX9_pass 1 = .ok (.iconst 1, 1) := by decide +kernel
theorem dX9_pass_2 : decode cX9_pass 2 = .ok (.bipush 30, 2) := by decide +kernel
theorem dX9_pass_4 : decode cX9_pass 4 = .ok (.invokestatic 88, 3) := by decide +kernel
theorem dX9_pass_7 : decode cX9_pass 7 = .ok (.ifCond .ne 5, 3) := by decide +kernel
theorem dX9_pass_10 : decode cX9_pass 10 = .ok (.iconst (-1), 1) := by decide +kernel
theorem dX9_pass_11 : decode cX9_pass 11 = .ok (.ireturn, 1) := by decide +kernel
theorem dX9_pass_12 : decode cX9_pass 12 = .ok (.aload_n 0, 1) := by decide +kernel
theorem dX9_pass_13 : decode cX9_pass 13 = .ok (.getfield 19, 3) := by decide +kernel
theorem dX9_pass_16 : decode cX9_pass 16 = .ok (.iconst 0, 1) := by decide +kernel
theorem dX9_pass_17 : decode cX9_pass 17 = .ok (.iaload, 1) := by decide +kernel
theorem dX9_pass_18 : decode cX9_pass 18 = .ok (.iload_n 1, 1) := by decide +kernel
theorem dX9_pass_19 : decode cX9_pass 19 = .ok (.iadd, 1) := by decide +kernel
theorem dX9_pass_20 : decode cX9_pass 20 = .ok (.sipush 999, 3) := by decide +kernel
theorem dX9_pass_23 : decode cX9_pass 23 = .ok (.if_icmp .le 6, 3) := by decide +kernel
theorem dX9_pass_26 : decode cX9_pass 26 = .ok (.bipush (-2), 2) := by decide +kernel
theorem dX9_pass_28 : decode cX9_pass 28 = .ok (.ireturn, 1) := by decide +kernel
theorem dX9_pass_29 : decode cX9_pass 29 = .ok (.aload_n 0, 1) := by decide +kernel
theorem dX9_pass_30 : decode cX9_pass 30 = .ok (.invokevirtual 202, 3) := by decide +kernel
theorem dX9_pass_33 : decode cX9_pass 33 = .ok (.aload_n 0, 1) := by decide +kernel
theorem dX9_pass_34 : decode cX9_pass 34 = .ok (.getfield 19, 3) := by decide +kernel
theorem dX9_pass_37 : decode cX9_pass 37 = .ok (.iconst 0, 1) := by decide +kernel
theorem dX9_pass_38 : decode cX9_pass 38 = .ok (.dup2, 1) := by decide +kernel
theorem dX9_pass_39 : decode cX9_pass 39 = .ok (.iaload, 1) := by decide +kernel
theorem dX9_pass_40 : decode cX9_pass 40 = .ok (.iload_n 1, 1) := by decide +kernel
theorem dX9_pass_41 : decode cX9_pass 41 = .ok (.iadd, 1) := by decide +kernel
theorem dX9_pass_42 : decode cX9_pass 42 = .ok (.iastore, 1) := by decide +kernel
theorem dX9_pass_43 : decode cX9_pass 43 = .ok (.iconst 0, 1) := by decide +kernel
theorem dX9_pass_44 : decode cX9_pass 44 = .ok (.istore_n 2, 1) := by decide +kernel
theorem dX9_pass_45 : decode cX9_pass 45 = .ok (.iload_n 2, 1) := by decide +kernel
theorem dX9_pass_46 : decode cX9_pass 46 = .ok (.aload_n 0, 1) := by decide +kernel
theorem dX9_pass_47 : decode cX9_pass 47 = .ok (.getfield 85, 3) := by decide +kernel
theorem dX9_pass_50 : decode cX9_pass 50 = .ok (.if_icmp .ge 32, 3) := by decide +kernel
theorem dX9_pass_53 : decode cX9_pass 53 = .ok (.aload_n 0, 1) := by decide +kernel
theorem dX9_pass_54 : decode cX9_pass 54 = .ok (.getfield 19, 3) := by decide +kernel
theorem dX9_pass_57 : decode cX9_pass 57 = .ok (.iconst 2, 1) := by decide +kernel
theorem dX9_pass_58 : decode cX9_pass 58 = .ok (.iload_n 2, 1) := by decide +kernel
theorem dX9_pass_59 : decode cX9_pass 59 = .ok (.iadd, 1) := by decide +kernel
theorem dX9_pass_60 : decode cX9_pass 60 = .ok (.dup2, 1) := by decide +kernel
theorem dX9_pass_61 : decode cX9_pass 61 = .ok (.iaload, 1) := by decide +kernel
theorem dX9_pass_62 : decode cX9_pass 62 = .ok (.iload_n 1, 1) := by decide +kernel
theorem dX9_pass_63 : decode cX9_pass 63 = .ok (.aload_n 0, 1) := by decide +kernel
theorem dX9_pass_64 : decode cX9_pass 64 = .ok (.getfield 7, 3) := by decide +kernel
theorem dX9_pass_67 : decode cX9_pass 67 = .ok (.iconst 3, 1) := by decide +kernel
theorem dX9_pass_68 : decode cX9_pass 68 = .ok (.iload_n 2, 1) := by decide +kernel
theorem dX9_pass_69 : decode cX9_pass 69 = .ok (.imul, 1) := by decide +kernel
theorem dX9_pass_70 : decode cX9_pass 70 = .ok (.iconst 1, 1) := by decide +kernel
theorem dX9_pass_71 : decode cX9_pass 71 = .ok (.iadd, 1) := by decide +kernel
theorem dX9_pass_72 : decode cX9_pass 72 = .ok (.iaload, 1) := by decide +kernel
theorem dX9_pass_73 : decode cX9_pass 73 = .ok (.imul, 1) := by decide +kernel
theorem dX9_pass_74 : decode cX9_pass 74 = .ok (.iadd, 1) := by decide +kernel
theorem dX9_pass_75 : decode cX9_pass 75 = .ok (.iastore, 1) := by decide +kernel
theorem dX9_pass_76 : decode cX9_pass 76 = .ok (.iinc 2 1, 3) := by decide +kernel
theorem dX9_pass_79 : decode cX9_pass 79 = .ok (.goto (-34), 3) := by decide +kernel
theorem dX9_pass_82 : decode cX9_pass 82 = .ok (.aload_n 0, 1) := by decide +kernel
theorem dX9_pass_83 : decode cX9_pass 83 = .ok (.getfield 19, 3) := by decide +kernel
theorem dX9_pass_86 : decode cX9_pass 86 = .ok (.iconst 0, 1) := by decide +kernel
theorem dX9_pass_87 : decode cX9_pass 87 = .ok (.iaload, 1) := by decide +kernel
theorem dX9_pass_88 : decode cX9_pass 88 = .ok (.ireturn, 1) := by decide +kernel
theorem dX9_pay_0 : decode cX9_pay 0 = .ok (.aload_n 0, 1) := by decide +kernel
theorem dX9_pay_1 : decode cX9_pay 1 = .ok (.iload_n 1, 1) := by decide +kernel
theorem dX9_pay_2 : decode cX9_pay 2 = .ok (.invokevirtual 187, 3) := by decide +kernel
theorem dX9_pay_5 : decode cX9_pay 5 = .ok (.ifCond .eq 13, 3) := by decide +kernel
theorem dX9_pay_8 : decode cX9_pay 8 = .ok (.iload_n 2, 1) := by decide +kernel
theorem dX9_pay_9 : decode cX9_pay 9 = .ok (.iconst 1, 1) := by decide +kernel
theorem dX9_pay_10 : decode cX9_pay 10 = .ok (.bipush 99, 2) := by decide +kernel
theorem dX9_pay_12 : decode cX9_pay 12 = .ok (.invokestatic 88, 3) := by decide +kernel
theorem dX9_pay_15 : decode cX9_pay 15 = .ok (.ifCond .ne 5, 3) := by decide +kernel
theorem dX9_pay_18 : decode cX9_pay 18 = .ok (.iconst (-1), 1) := by decide +kernel
theorem dX9_pay_19 : decode cX9_pay 19 = .ok (.ireturn, 1) := by decide +kernel
theorem dX9_pay_20 : decode cX9_pay 20 = .ok (.aload_n 0, 1) := by decide +kernel
theorem dX9_pay_21 : decode cX9_pay 21 = .ok (.invokevirtual 202, 3) := by decide +kernel
theorem dX9_pay_24 : decode cX9_pay 24 = .ok (.aload_n 0, 1) := by decide +kernel
theorem dX9_pay_25 : decode cX9_pay 25 = .ok (.getfield 19, 3) := by decide +kernel
theorem dX9_pay_28 : decode cX9_pay 28 = .ok (.iconst 2, 1) := by decide +kernel
theorem dX9_pay_29 : decode cX9_pay 29 = .ok (.iload_n 1, 1) := by decide +kernel
theorem dX9_pay_30 : decode cX9_pay 30 = .ok (.iadd, 1) := by decide +kernel
theorem dX9_pay_31 : decode cX9_pay 31 = .ok (.aload_n 0, 1) := by decide +kernel
theorem dX9_pay_32 : decode cX9_pay 32 = .ok (.getfield 19, 3) := by decide +kernel
theorem dX9_pay_35 : decode cX9_pay 35 = .ok (.iconst 2, 1) := by decide +kernel
theorem dX9_pay_36 : decode cX9_pay 36 = .ok (.iload_n 1, 1) := by decide +kernel
theorem dX9_pay_37 : decode cX9_pay 37 = .ok (.iadd, 1) := by decide +kernel
theorem dX9_pay_38 : decode cX9_pay 38 = .ok (.iaload, 1) := by decide +kernel
theorem dX9_pay_39 : decode cX9_pay 39 = .ok (.iload_n 2, 1) := by decide +kernel
theorem dX9_pay_40 : decode cX9_pay 40 = .ok (.if_icmp .le 16, 3) := by decide +kernel
theorem dX9_pay_43 : decode cX9_pay 43 = .ok (.aload_n 0, 1) := by decide +kernel
theorem dX9_pay_44 : decode cX9_pay 44 = .ok (.getfield 19, 3) := by decide +kernel
theorem dX9_pay_47 : decode cX9_pay 47 = .ok (.iconst 2, 1) := by decide +kernel
theorem dX9_pay_48 : decode cX9_pay 48 = .ok (.iload_n 1, 1) := by decide +kernel
theorem dX9_pay_49 : decode cX9_pay 49 = .ok (.iadd, 1) := by decide +kernel
theorem dX9_pay_50 : decode cX9_pay 50 = .ok (.iaload, 1) := by decide +kernel
theorem dX9_pay_51 : decode cX9_pay 51 = .ok (.iload_n 2, 1) := by decide +kernel
theorem dX9_pay_52 : decode cX9_pay 52 = .ok (.isub, 1) := by decide +kernel
theorem dX9_pay_53 : decode cX9_pay 53 = .ok (.goto 4, 3) := by decide +kernel
theorem dX9_pay_56 : decode cX9_pay 56 = .ok (.iconst 0, 1) := by decide +kernel
theorem dX9_pay_57 : decode cX9_pay 57 = .ok (.iastore, 1) := by decide +kernel
theorem dX9_pay_58 : decode cX9_pay 58 = .ok (.aload_n 0, 1) := by decide +kernel
theorem dX9_pay_59 : decode cX9_pay 59 = .ok (.getfield 19, 3) := by decide +kernel
theorem dX9_pay_62 : decode cX9_pay 62 = .ok (.iconst 2, 1) := by decide +kernel
theorem dX9_pay_63 : decode cX9_pay 63 = .ok (.iload_n 1, 1) := by decide +kernel
theorem dX9_pay_64 : decode cX9_pay 64 = .ok (.iadd, 1) := by decide +kernel
theorem dX9_pay_65 : decode cX9_pay 65 = .ok (.iaload, 1) := by decide +kernel
theorem dX9_pay_66 : decode cX9_pay 66 = .ok (.ireturn, 1) := by decide +kernel
theorem dX9_swap_0 : decode cX9_swap 0 = .ok (.aload_n 0, 1) := by decide +kernel
theorem dX9_swap_1 : decode cX9_swap 1 = .ok (.iload_n 1, 1) := by decide +kernel
theorem dX9_swap_2 : decode cX9_swap 2 = .ok (.iaload, 1) := by decide +kernel
theorem dX9_swap_3 : decode cX9_swap 3 = .ok (.istore_n 3, 1) := by decide +kernel
theorem dX9_swap_4 : decode cX9_swap 4 = .ok (.aload_n 0, 1) := by decide +kernel
theorem dX9_swap_5 : decode cX9_swap 5 = .ok (.iload_n 1, 1) := by decide +kernel
theorem dX9_swap_6 : decode cX9_swap 6 = .ok (.aload_n 0, 1) := by decide +kernel
theorem dX9_swap_7 : decode cX9_swap 7 = .ok (.iload_n 2, 1) := by decide +kernel
theorem dX9_swap_8 : decode cX9_swap 8 = .ok (.iaload, 1) := by decide +kernel
theorem dX9_swap_9 : decode cX9_swap 9 = .ok (.iastore, 1) := by decide +kernel
theorem dX9_swap_10 : decode cX9_swap 10 = .ok (.aload_n 0, 1) := by decide +kernel
theorem dX9_swap_11 : decode cX9_swap 11 = .ok (.iload_n 2, 1) := by decide +kernel
theorem dX9_swap_12 : decode cX9_swap 12 = .ok (.iload_n 3, 1) := by decide +kernel
theorem dX9_swap_13 : decode cX9_swap 13 = .ok (.iastore, 1) := by decide +kernel
theorem dX9_swap_14 : decode cX9_swap 14 = .ok (.return_, 1) := by decide +kernel
theorem dX9_change_0 : decode cX9_change 0 = .ok (.aload_n 0, 1) := by decide +kernel
theorem dX9_change_1 : decode cX9_change 1 = .ok (.iload_n 1, 1) := by decide +kernel
theorem dX9_change_2 : decode cX9_change 2 = .ok (.invokevirtual 187, 3) := by decide +kernel
theorem dX9_change_5 : decode cX9_change 5 = .ok (.ifCond .eq 16, 3) := by decide +kernel
theorem dX9_change_8 : decode cX9_change 8 = .ok (.aload_n 0, 1) := by decide +kernel
theorem dX9_change_9 : decode cX9_change 9 = .ok (.iload_n 2, 1) := by decide +kernel
theorem dX9_change_10 : decode cX9_change 10 = .ok (.invokevirtual 187, 3) := by decide +kernel
theorem dX9_change_13 : decode cX9_change 13 = .ok (.ifCond .eq 8, 3) := by decide +kernel
theorem dX9_change_16 : decode cX9_change 16 = .ok (.iload_n 1, 1) := by decide +kernel
theorem dX9_change_17 : decode cX9_change 17 = .ok (.iload_n 2, 1) := by decide +kernel
theorem dX9_change_18 : decode cX9_change 18 = .ok (.if_icmp .ne 5, 3) := by decide +kernel
theorem dX9_change_21 : decode cX9_change 21 = .ok (.iconst (-1), 1) := by decide +kernel
theorem dX9_change_22 : decode cX9_change 22 = .ok (.ireturn, 1) := by decide +kernel
theorem dX9_change_23 : decode cX9_change 23 = .ok (.aload_n 0, 1) := by decide +kernel
theorem dX9_change_24 : decode cX9_change 24 = .ok (.invokevirtual 202, 3) := by decide +kernel
theorem dX9_change_27 : decode cX9_change 27 = .ok (.aload_n 0, 1) := by decide +kernel
theorem dX9_change_28 : decode cX9_change 28 = .ok (.getfield 19, 3) := by decide +kernel
theorem dX9_change_31 : decode cX9_change 31 = .ok (.bipush 8, 2) := by decide +kernel
theorem dX9_change_33 : decode cX9_change 33 = .ok (.iload_n 1, 1) := by decide +kernel
theorem dX9_change_34 : decode cX9_change 34 = .ok (.iadd, 1) := by decide +kernel
theorem dX9_change_35 : decode cX9_change 35 = .ok (.bipush 8, 2) := by decide +kernel
theorem dX9_change_37 : decode cX9_change 37 = .ok (.iload_n 2, 1) := by decide +kernel
theorem dX9_change_38 : decode cX9_change 38 = .ok (.iadd, 1) := by decide +kernel
theorem dX9_change_39 : decode cX9_change 39 = .ok (.invokestatic 205, 3) := by decide +kernel
theorem dX9_change_42 : decode cX9_change 42 = .ok (.aload_n 0, 1) := by decide +kernel
theorem dX9_change_43 : decode cX9_change 43 = .ok (.getfield 19, 3) := by decide +kernel
theorem dX9_change_46 : decode cX9_change 46 = .ok (.bipush 14, 2) := by decide +kernel
theorem dX9_change_48 : decode cX9_change 48 = .ok (.iload_n 1, 1) := by decide +kernel
theorem dX9_change_49 : decode cX9_change 49 = .ok (.iadd, 1) := by decide +kernel
theorem dX9_change_50 : decode cX9_change 50 = .ok (.bipush 14, 2) := by decide +kernel
theorem dX9_change_52 : decode cX9_change 52 = .ok (.iload_n 2, 1) := by decide +kernel
theorem dX9_change_53 : decode cX9_change 53 = .ok (.iadd, 1) := by decide +kernel
theorem dX9_change_54 : decode cX9_change 54 = .ok (.invokestatic 205, 3) := by decide +kernel
theorem dX9_change_57 : decode cX9_change 57 = .ok (.aload_n 0, 1) := by decide +kernel
theorem dX9_change_58 : decode cX9_change 58 = .ok (.getfield 19, 3) := by decide +kernel
theorem dX9_change_61 : decode cX9_change 61 = .ok (.bipush 8, 2) := by decide +kernel
theorem dX9_change_63 : decode cX9_change 63 = .ok (.iload_n 1, 1) := by decide +kernel
theorem dX9_change_64 : decode cX9_change 64 = .ok (.iadd, 1) := by decide +kernel
theorem dX9_change_65 : decode cX9_change 65 = .ok (.iaload, 1) := by decide +kernel
theorem dX9_change_66 : decode cX9_change 66 = .ok (.ireturn, 1) := by decide +kernel
theorem dX9_smoke_0 : decode cX9_smoke 0 = .ok (.iload_n 1, 1) := by decide +kernel
theorem dX9_smoke_1 : decode cX9_smoke 1 = .ok (.invokestatic 196, 3) := by decide +kernel
theorem dX9_smoke_4 : decode cX9_smoke 4 = .ok (.ifCond .ne 5, 3) := by decide +kernel
theorem dX9_smoke_7 : decode cX9_smoke 7 = .ok (.iconst (-1), 1) := by decide +kernel
theorem dX9_smoke_8 : decode cX9_smoke 8 = .ok (.ireturn, 1) := by decide +kernel
theorem dX9_smoke_9 : decode cX9_smoke 9 = .ok (.aload_n 0, 1) := by decide +kernel
theorem dX9_smoke_10 : decode cX9_smoke 10 = .ok (.invokevirtual 202, 3) := by decide +kernel
theorem dX9_smoke_13 : decode cX9_smoke 13 = .ok (.aload_n 0, 1) := by decide +kernel
theorem dX9_smoke_14 : decode cX9_smoke 14 = .ok (.getfield 19, 3) := by decide +kernel
theorem dX9_smoke_17 : decode cX9_smoke 17 = .ok (.iconst 1, 1) := by decide +kernel
theorem dX9_smoke_18 : decode cX9_smoke 18 = .ok (.dup2, 1) := by decide +kernel
theorem dX9_smoke_19 : decode cX9_smoke 19 = .ok (.iaload, 1) := by decide +kernel
theorem dX9_smoke_20 : decode cX9_smoke 20 = .ok (.iconst 1, 1) := by decide +kernel
theorem dX9_smoke_21 : decode cX9_smoke 21 = .ok (.iload_n 1, 1) := by decide +kernel
theorem dX9_smoke_22 : decode cX9_smoke 22 = .ok (.ishl, 1) := by decide +kernel
theorem dX9_smoke_23 : decode cX9_smoke 23 = .ok (.ixor, 1) := by decide +kernel
theorem dX9_smoke_24 : decode cX9_smoke 24 = .ok (.iastore, 1) := by decide +kernel
theorem dX9_smoke_25 : decode cX9_smoke 25 = .ok (.aload_n 0, 1) := by decide +kernel
theorem dX9_smoke_26 : decode cX9_smoke 26 = .ok (.getfield 19, 3) := by decide +kernel
theorem dX9_smoke_29 : decode cX9_smoke 29 = .ok (.iconst 1, 1) := by decide +kernel
theorem dX9_smoke_30 : decode cX9_smoke 30 = .ok (.iaload, 1) := by decide +kernel
theorem dX9_smoke_31 : decode cX9_smoke 31 = .ok (.iload_n 1, 1) := by decide +kernel
theorem dX9_smoke_32 : decode cX9_smoke 32 = .ok (.ishr, 1) := by decide +kernel
theorem dX9_smoke_33 : decode cX9_smoke 33 = .ok (.iconst 1, 1) := by decide +kernel
theorem dX9_smoke_34 : decode cX9_smoke 34 = .ok (.iand, 1) := by decide +kernel
theorem dX9_smoke_35 : decode cX9_smoke 35 = .ok (.ireturn, 1) := by decide +kernel
theorem dX9_undo_0 : decode cX9_undo 0 = .ok (.aload_n 0, 1) := by decide +kernel
theorem dX9_undo_1 : decode cX9_undo 1 = .ok (.getfield 149, 3) := by decide +kernel
theorem dX9_undo_4 : decode cX9_undo 4 = .ok (.ifCond .ne 6, 3) := by decide +kernel
theorem dX9_undo_7 : decode cX9_undo 7 = .ok (.bipush (-2), 2) := by decide +kernel
theorem dX9_undo_9 : decode cX9_undo 9 = .ok (.ireturn, 1) := by decide +kernel
theorem dX9_undo_10 : decode cX9_undo 10 = .ok (.aload_n 0, 1) := by decide +kernel
theorem dX9_undo_11 : decode cX9_undo 11 = .ok (.dup, 1) := by decide +kernel
theorem dX9_undo_12 : decode cX9_undo 12 = .ok (.getfield 149, 3) := by decide +kernel
theorem dX9_undo_15 : decode cX9_undo 15 = .ok (.iconst 1, 1) := by decide +kernel
theorem dX9_undo_16 : decode cX9_undo 16 = .ok (.isub, 1) := by decide +kernel
theorem dX9_undo_17 : decode cX9_undo 17 = .ok (.putfield 149, 3) := by decide +kernel
theorem dX9_undo_20 : decode cX9_undo 20 = .ok (.iconst 0, 1) := by decide +kernel
theorem dX9_undo_21 : decode cX9_undo 21 = .ok (.istore_n 1, 1) := by decide +kernel
theorem dX9_undo_22 : decode cX9_undo 22 = .ok (.iload_n 1, 1) := by decide +kernel
theorem dX9_undo_23 : decode cX9_undo 23 = .ok (.bipush 20, 2) := by decide +kernel
theorem dX9_undo_25 : decode cX9_undo 25 = .ok (.if_icmp .ge 29, 3) := by decide +kernel
theorem dX9_undo_28 : decode cX9_undo 28 = .ok (.aload_n 0, 1) := by decide +kernel
theorem dX9_undo_29 : decode cX9_undo 29 = .ok (.getfield 19, 3) := by decide +kernel
theorem dX9_undo_32 : decode cX9_undo 32 = .ok (.iload_n 1, 1) := by decide +kernel
theorem dX9_undo_33 : decode cX9_undo 33 = .ok (.aload_n 0, 1) := by decide +kernel
theorem dX9_undo_34 : decode cX9_undo 34 = .ok (.getfield 22, 3) := by decide +kernel
theorem dX9_undo_37 : decode cX9_undo 37 = .ok (.bipush 20, 2) := by decide +kernel
theorem dX9_undo_39 : decode cX9_undo 39 = .ok (.aload_n 0, 1) := by decide +kernel
theorem dX9_undo_40 : decode cX9_undo 40 = .ok (.getfield 149, 3) := by decide +kernel
theorem dX9_undo_43 : decode cX9_undo 43 = .ok (.imul, 1) := by decide +kernel
theorem dX9_undo_44 : decode cX9_undo 44 = .ok (.iload_n 1, 1) := by decide +kernel
theorem dX9_undo_45 : decode cX9_undo 45 = .ok (.iadd, 1) := by decide +kernel
theorem dX9_undo_46 : decode cX9_undo 46 = .ok (.iaload, 1) := by decide +kernel
theorem dX9_undo_47 : decode cX9_undo 47 = .ok (.iastore, 1) := by decide +kernel
theorem dX9_undo_48 : decode cX9_undo 48 = .ok (.iinc 1 1, 3) := by decide +kernel
theorem dX9_undo_51 : decode cX9_undo 51 = .ok (.goto (-29), 3) := by decide +kernel
theorem dX9_undo_54 : decode cX9_undo 54 = .ok (.aload_n 0, 1) := by decide +kernel
theorem dX9_undo_55 : decode cX9_undo 55 = .ok (.getfield 149, 3) := by decide +kernel
theorem dX9_undo_58 : decode cX9_undo 58 = .ok (.ireturn, 1) := by decide +kernel
theorem dX9_seen_0 : decode cX9_seen 0 = .ok (.iload_n 1, 1) := by decide +kernel
theorem dX9_seen_1 : decode cX9_seen 1 = .ok (.invokestatic 196, 3) := by decide +kernel
theorem dX9_seen_4 : decode cX9_seen 4 = .ok (.ifCond .eq 10, 3) := by decide +kernel
theorem dX9_seen_7 : decode cX9_seen 7 = .ok (.iload_n 2, 1) := by decide +kernel
theorem dX9_seen_8 : decode cX9_seen 8 = .ok (.invokestatic 209, 3) := by decide +kernel
theorem dX9_seen_11 : decode cX9_seen 11 = .ok (.ifCond .ne 5, 3) := by decide +kernel
theorem dX9_seen_14 : decode cX9_seen 14 = .ok (.iconst (-1), 1) := by decide +kernel
theorem dX9_seen_15 : decode cX9_seen 15 = .ok (.ireturn, 1) := by decide +kernel
theorem dX9_seen_16 : decode cX9_seen 16 = .ok (.aload_n 0, 1) := by decide +kernel
theorem dX9_seen_17 : decode cX9_seen 17 = .ok (.invokevirtual 190, 3) := by decide +kernel
theorem dX9_seen_20 : decode cX9_seen 20 = .ok (.aload_n 0, 1) := by decide +kernel
theorem dX9_seen_21 : decode cX9_seen 21 = .ok (.invokevirtual 199, 3) := by decide +kernel
theorem dX9_seen_24 : decode cX9_seen 24 = .ok (.aload_n 0, 1) := by decide +kernel
theorem dX9_seen_25 : decode cX9_seen 25 = .ok (.getfield 55, 3) := by decide +kernel
theorem dX9_seen_28 : decode cX9_seen 28 = .ok (.iload_n 1, 1) := by decide +kernel
theorem dX9_seen_29 : decode cX9_seen 29 = .ok (.iaload, 1) := by decide +kernel
theorem dX9_seen_30 : decode cX9_seen 30 = .ok (.iload_n 2, 1) := by decide +kernel
theorem dX9_seen_31 : decode cX9_seen 31 = .ok (.invokestatic 177, 3) := by decide +kernel
theorem dX9_seen_34 : decode cX9_seen 34 = .ok (.ifCond .eq 7, 3) := by decide +kernel
theorem dX9_seen_37 : decode cX9_seen 37 = .ok (.iconst 1, 1) := by decide +kernel
theorem dX9_seen_38 : decode cX9_seen 38 = .ok (.goto 4, 3) := by decide +kernel
theorem dX9_seen_41 : decode cX9_seen 41 = .ok (.iconst 0, 1) := by decide +kernel
theorem dX9_seen_42 : decode cX9_seen 42 = .ok (.ireturn, 1) := by decide +kernel
theorem dX9_sign_0 : decode cX9_sign 0 = .ok (.aload_n 0, 1) := by decide +kernel
theorem dX9_sign_1 : decode cX9_sign 1 = .ok (.iload_n 1, 1) := by decide +kernel
theorem dX9_sign_2 : decode cX9_sign 2 = .ok (.invokevirtual 193, 3) := by decide +kernel
theorem dX9_sign_5 : decode cX9_sign 5 = .ok (.ifCond .eq 10, 3) := by decide +kernel
theorem dX9_sign_8 : decode cX9_sign 8 = .ok (.iload_n 2, 1) := by decide +kernel
theorem dX9_sign_9 : decode cX9_sign 9 = .ok (.invokestatic 209, 3) := by decide +kernel
theorem dX9_sign_12 : decode cX9_sign 12 = .ok (.ifCond .ne 5, 3) := by decide +kernel
theorem dX9_sign_15 : decode cX9_sign 15 = .ok (.iconst (-1), 1) := by decide +kernel
theorem dX9_sign_16 : decode cX9_sign 16 = .ok (.ireturn, 1) := by decide +kernel
theorem dX9_sign_17 : decode cX9_sign 17 = .ok (.aload_n 0, 1) := by decide +kernel
theorem dX9_sign_18 : decode cX9_sign 18 = .ok (.invokevirtual 190, 3) := by decide +kernel
theorem dX9_sign_21 : decode cX9_sign 21 = .ok (.aload_n 0, 1) := by decide +kernel
theorem dX9_sign_22 : decode cX9_sign 22 = .ok (.invokevirtual 199, 3) := by decide +kernel
theorem dX9_sign_25 : decode cX9_sign 25 = .ok (.aload_n 0, 1) := by decide +kernel
theorem dX9_sign_26 : decode cX9_sign 26 = .ok (.iload_n 1, 1) := by decide +kernel
theorem dX9_sign_27 : decode cX9_sign 27 = .ok (.iload_n 2, 1) := by decide +kernel
theorem dX9_sign_28 : decode cX9_sign 28 = .ok (.invokevirtual 180, 3) := by decide +kernel
theorem dX9_sign_31 : decode cX9_sign 31 = .ok (.istore_n 3, 1) := by decide +kernel
theorem dX9_sign_32 : decode cX9_sign 32 = .ok (.iload_n 3, 1) := by decide +kernel
theorem dX9_sign_33 : decode cX9_sign 33 = .ok (.ifCond .ge 8, 3) := by decide +kernel
theorem dX9_sign_36 : decode cX9_sign 36 = .ok (.bipush (-4), 2) := by decide +kernel
theorem dX9_sign_38 : decode cX9_sign 38 = .ok (.goto 4, 3) := by decide +kernel
theorem dX9_sign_41 : decode cX9_sign 41 = .ok (.iload_n 3, 1) := by decide +kernel
theorem dX9_sign_42 : decode cX9_sign 42 = .ok (.ireturn, 1) := by decide +kernel
theorem dX9_fleet_0 : decode cX9_fleet 0 = .ok (.iload_n 1, 1) := by decide +kernel
theorem dX9_fleet_1 : decode cX9_fleet 1 = .ok (.iconst (-1), 1) := by decide +kernel
theorem dX9_fleet_2 : decode cX9_fleet 2 = .ok (.iconst 3, 1) := by decide +kernel
theorem dX9_fleet_3 : decode cX9_fleet 3 = .ok (.invokestatic 88, 3) := by decide +kernel
theorem dX9_fleet_6 : decode cX9_fleet 6 = .ok (.ifCond .ne 5, 3) := by decide +kernel
theorem dX9_fleet_9 : decode cX9_fleet 9 = .ok (.iconst (-1), 1) := by decide +kernel
theorem dX9_fleet_10 : decode cX9_fleet 10 = .ok (.ireturn, 1) := by decide +kernel
theorem dX9_fleet_11 : decode cX9_fleet 11 = .ok (.aload_n 0, 1) := by decide +kernel
theorem dX9_fleet_12 : decode cX9_fleet 12 = .ok (.invokevirtual 190, 3) := by decide +kernel
theorem dX9_fleet_15 : decode cX9_fleet 15 = .ok (.aload_n 0, 1) := by decide +kernel
theorem dX9_fleet_16 : decode cX9_fleet 16 = .ok (.invokevirtual 199, 3) := by decide +kernel
theorem dX9_fleet_19 : decode cX9_fleet 19 = .ok (.iload_n 1, 1) := by decide +kernel
theorem dX9_fleet_20 : decode cX9_fleet 20 = .ok (.ifCond .ge 10, 3) := by decide +kernel
theorem dX9_fleet_23 : decode cX9_fleet 23 = .ok (.aload_n 0, 1) := by decide +kernel
theorem dX9_fleet_24 : decode cX9_fleet 24 = .ok (.invokevirtual 212, 3) := by decide +kernel
theorem dX9_fleet_27 : decode cX9_fleet 27 = .ok (.goto 8, 3) := by decide +kernel
theorem dX9_fleet_30 : decode cX9_fleet 30 = .ok (.aload_n 0, 1) := by decide +kernel
theorem dX9_fleet_31 : decode cX9_fleet 31 = .ok (.iload_n 1, 1) := by decide +kernel
theorem dX9_fleet_32 : decode cX9_fleet 32 = .ok (.invokevirtual 184, 3) := by decide +kernel
theorem dX9_fleet_35 : decode cX9_fleet 35 = .ok (.ireturn, 1) := by decide +kernel
theorem dX9_isOrder_0 : decode cX9_isOrder 0 = .ok (.iload_n 1, 1) := by decide +kernel
theorem dX9_isOrder_1 : decode cX9_isOrder 1 = .ok (.istore_n 2, 1) := by decide +kernel
theorem dX9_isOrder_2 : decode cX9_isOrder 2 = .ok (.iconst 0, 1) := by decide +kernel
theorem dX9_isOrder_3 : decode cX9_isOrder 3 = .ok (.istore_n 3, 1) := by decide +kernel
theorem dX9_isOrder_4 : decode cX9_isOrder 4 = .ok (.aload_n 0, 1) := by decide +kernel
theorem dX9_isOrder_5 : decode cX9_isOrder 5 = .ok (.getfield 85, 3) := by decide +kernel
theorem dX9_isOrder_8 : decode cX9_isOrder 8 = .ok (.iconst 1, 1) := by decide +kernel
theorem dX9_isOrder_9 : decode cX9_isOrder 9 = .ok (.isub, 1) := by decide +kernel
theorem dX9_isOrder_10 : decode cX9_isOrder 10 = .ok (.istore 4, 2) := by decide +kernel
theorem dX9_isOrder_12 : decode cX9_isOrder 12 = .ok (.iload 4, 2) := by decide +kernel
theorem dX9_isOrder_14 : decode cX9_isOrder 14 = .ok (.ifCond .lt 41, 3) := by decide +kernel
theorem dX9_isOrder_17 : decode cX9_isOrder 17 = .ok (.aload_n 0, 1) := by decide +kernel
theorem dX9_isOrder_18 : decode cX9_isOrder 18 = .ok (.getfield 58, 3) := by decide +kernel
theorem dX9_isOrder_21 : decode cX9_isOrder 21 = .ok (.iload 4, 2) := by decide +kernel
theorem dX9_isOrder_23 : decode cX9_isOrder 23 = .ok (.iload_n 2, 1) := by decide +kernel
theorem dX9_isOrder_24 : decode cX9_isOrder 24 = .ok (.aload_n 0, 1) := by decide +kernel
theorem dX9_isOrder_25 : decode cX9_isOrder 25 = .ok (.getfield 85, 3) := by decide +kernel
theorem dX9_isOrder_28 : decode cX9_isOrder 28 = .ok (.irem, 1) := by decide +kernel
theorem dX9_isOrder_29 : decode cX9_isOrder 29 = .ok (.iastore, 1) := by decide +kernel
theorem dX9_isOrder_30 : decode cX9_isOrder 30 = .ok (.iload_n 2, 1) := by decide +kernel
theorem dX9_isOrder_31 : decode cX9_isOrder 31 = .ok (.aload_n 0, 1) := by decide +kernel
theorem dX9_isOrder_32 : decode cX9_isOrder 32 = .ok (.getfield 85, 3) := by decide +kernel
theorem dX9_isOrder_35 : decode cX9_isOrder 35 = .ok (.idiv, 1) := by decide +kernel
theorem dX9_isOrder_36 : decode cX9_isOrder 36 = .ok (.istore_n 2, 1) := by decide +kernel
theorem dX9_isOrder_37 : decode cX9_isOrder 37 = .ok (.iload_n 3, 1) := by decide +kernel
theorem dX9_isOrder_38 : decode cX9_isOrder 38 = .ok (.iconst 1, 1) := by decide +kernel
theorem dX9_isOrder_39 : decode cX9_isOrder 39 = .ok (.aload_n 0, 1) := by decide +kernel
theorem dX9_isOrder_40 : decode cX9_isOrder 40 = .ok (.getfield 58, 3) := by decide +kernel
theorem dX9_isOrder_43 : decode cX9_isOrder 43 = .ok (.iload 4, 2) := by decide +kernel
theorem dX9_isOrder_45 : decode cX9_isOrder 45 = .ok (.iaload, 1) := by decide +kernel
theorem dX9_isOrder_46 : decode cX9_isOrder 46 = .ok (.ishl, 1) := by decide +kernel
theorem dX9_isOrder_47 : decode cX9_isOrder 47 = .ok (.ior, 1) := by decide +kernel
theorem dX9_isOrder_48 : decode cX9_isOrder 48 = .ok (.istore_n 3, 1) := by decide +kernel
theorem dX9_isOrder_49 : decode cX9_isOrder 49 = .ok (.iinc 4 (-1), 3) := by decide +kernel
theorem dX9_isOrder_52 : decode cX9_isOrder 52 = .ok (.goto (-40), 3) := by decide +kernel
theorem dX9_isOrder_55 : decode cX9_isOrder 55 = .ok (.iload_n 3, 1) := by decide +kernel
theorem dX9_isOrder_56 : decode cX9_isOrder 56 = .ok (.iconst 1, 1) := by decide +kernel
theorem dX9_isOrder_57 : decode cX9_isOrder 57 = .ok (.aload_n 0, 1) := by decide +kernel
theorem dX9_isOrder_58 : decode cX9_isOrder 58 = .ok (.getfield 85, 3) := by decide +kernel
theorem dX9_isOrder_61 : decode cX9_isOrder 61 = .ok (.ishl, 1) := by decide +kernel
theorem dX9_isOrder_62 : decode cX9_isOrder 62 = .ok (.iconst 1, 1) := by decide +kernel
theorem dX9_isOrder_63 : decode cX9_isOrder 63 = .ok (.isub, 1) := by decide +kernel
theorem dX9_isOrder_64 : decode cX9_isOrder 64 = .ok (.if_icmp .ne 7, 3) := by decide +kernel
theorem dX9_isOrder_67 : decode cX9_isOrder 67 = .ok (.iconst 1, 1) := by decide +kernel
theorem dX9_isOrder_68 : decode cX9_isOrder 68 = .ok (.goto 4, 3) := by decide +kernel
theorem dX9_isOrder_71 : decode cX9_isOrder 71 = .ok (.iconst 0, 1) := by decide +kernel
theorem dX9_isOrder_72 : decode cX9_isOrder 72 = .ok (.ireturn, 1) := by decide +kernel
theorem dX9_order_0 : decode cX9_order 0 = .ok (.iload_n 1, 1) := by decide +kernel
theorem dX9_order_1 : decode cX9_order 1 = .ok (.iconst (-1), 1) := by decide +kernel
theorem dX9_order_2 : decode cX9_order 2 = .ok (.aload_n 0, 1) := by decide +kernel
theorem dX9_order_3 : decode cX9_order 3 = .ok (.getfield 85, 3) := by decide +kernel
theorem dX9_order_6 : decode cX9_order 6 = .ok (.iconst 1, 1) := by decide +kernel
theorem dX9_order_7 : decode cX9_order 7 = .ok (.isub, 1) := by decide +kernel
theorem dX9_order_8 : decode cX9_order 8 = .ok (.invokestatic 88, 3) := by decide +kernel
theorem dX9_order_11 : decode cX9_order 11 = .ok (.ifCond .ne 5, 3) := by decide +kernel
theorem dX9_order_14 : decode cX9_order 14 = .ok (.iconst (-1), 1) := by decide +kernel
theorem dX9_order_15 : decode cX9_order 15 = .ok (.ireturn, 1) := by decide +kernel
theorem dX9_order_16 : decode cX9_order 16 = .ok (.iconst 1, 1) := by decide +kernel
theorem dX9_order_17 : decode cX9_order 17 = .ok (.istore_n 2, 1) := by decide +kernel
theorem dX9_order_18 : decode cX9_order 18 = .ok (.iconst 0, 1) := by decide +kernel
theorem dX9_order_19 : decode cX9_order 19 = .ok (.istore_n 3, 1) := by decide +kernel
theorem dX9_order_20 : decode cX9_order 20 = .ok (.iload_n 3, 1) := by decide +kernel
theorem dX9_order_21 : decode cX9_order 21 = .ok (.aload_n 0, 1) := by decide +kernel
theorem dX9_order_22 : decode cX9_order 22 = .ok (.getfield 85, 3) := by decide +kernel
theorem dX9_order_25 : decode cX9_order 25 = .ok (.if_icmp .ge 16, 3) := by decide +kernel
theorem dX9_order_28 : decode cX9_order 28 = .ok (.iload_n 2, 1) := by decide +kernel
theorem dX9_order_29 : decode cX9_order 29 = .ok (.aload_n 0, 1) := by decide +kernel
theorem dX9_order_30 : decode cX9_order 30 = .ok (.getfield 85, 3) := by decide +kernel
theorem dX9_order_33 : decode cX9_order 33 = .ok (.imul, 1) := by decide +kernel
theorem dX9_order_34 : decode cX9_order 34 = .ok (.istore_n 2, 1) := by decide +kernel
theorem dX9_order_35 : decode cX9_order 35 = .ok (.iinc 3 1, 3) := by decide +kernel
theorem dX9_order_38 : decode cX9_order 38 = .ok (.goto (-18), 3) := by decide +kernel
theorem dX9_order_41 : decode cX9_order 41 = .ok (.aload_n 0, 1) := by decide +kernel
theorem dX9_order_42 : decode cX9_order 42 = .ok (.invokevirtual 190, 3) := by decide +kernel
theorem dX9_order_45 : decode cX9_order 45 = .ok (.iconst (-1), 1) := by decide +kernel
theorem dX9_order_46 : decode cX9_order 46 = .ok (.istore_n 3, 1) := by decide +kernel
theorem dX9_order_47 : decode cX9_order 47 = .ok (.iconst 0, 1) := by decide +kernel
theorem dX9_order_48 : decode cX9_order 48 = .ok (.istore 4, 2) := by decide +kernel
theorem dX9_order_50 : decode cX9_order 50 = .ok (.iload 4, 2) := by decide +kernel
theorem dX9_order_52 : decode cX9_order 52 = .ok (.iload_n 2, 1) := by decide +kernel
theorem dX9_order_53 : decode cX9_order 53 = .ok (.if_icmp .ge 124, 3) := by decide +kernel
theorem dX9_order_56 : decode cX9_order 56 = .ok (.aload_n 0, 1) := by decide +kernel
theorem dX9_order_57 : decode cX9_order 57 = .ok (.iload 4, 2) := by decide +kernel
theorem dX9_order_59 : decode cX9_order 59 = .ok (.invokevirtual 215, 3) := by decide +kernel
theorem dX9_order_62 : decode cX9_order 62 = .ok (.ifCond .eq 109, 3) := by decide +kernel
theorem dX9_order_65 : decode cX9_order 65 = .ok (.iconst 0, 1) := by decide +kernel
theorem dX9_order_66 : decode cX9_order 66 = .ok (.istore 5, 2) := by decide +kernel
theorem dX9_order_68 : decode cX9_order 68 = .ok (.iload 5, 2) := by decide +kernel
theorem dX9_order_70 : decode cX9_order 70 = .ok (.aload_n 0, 1) := by decide +kernel
theorem dX9_order_71 : decode cX9_order 71 = .ok (.getfield 85, 3) := by decide +kernel
theorem dX9_order_74 : decode cX9_order 74 = .ok (.if_icmp .ge 59, 3) := by decide +kernel
theorem dX9_order_77 : decode cX9_order 77 = .ok (.aload_n 0, 1) := by decide +kernel
theorem dX9_order_78 : decode cX9_order 78 = .ok (.getfield 49, 3) := by decide +kernel
theorem dX9_order_81 : decode cX9_order 81 = .ok (.bipush 8, 2) := by decide +kernel
theorem dX9_order_83 : decode cX9_order 83 = .ok (.iload 5, 2) := by decide +kernel
theorem dX9_order_85 : decode cX9_order 85 = .ok (.iadd, 1) := by decide +kernel
theorem dX9_order_86 : decode cX9_order 86 = .ok (.aload_n 0, 1) := by decide +kernel
theorem dX9_order_87 : decode cX9_order 87 = .ok (.getfield 19, 3) := by decide +kernel
theorem dX9_order_90 : decode cX9_order 90 = .ok (.bipush 8, 2) := by decide +kernel
theorem dX9_order_92 : decode cX9_order 92 = .ok (.aload_n 0, 1) := by decide +kernel
theorem dX9_order_93 : decode cX9_order 93 = .ok (.getfield 58, 3) := by decide +kernel
theorem dX9_order_96 : decode cX9_order 96 = .ok (.iload 5, 2) := by decide +kernel
theorem dX9_order_98 : decode cX9_order 98 = .ok (.iaload, 1) := by decide +kernel
theorem dX9_order_99 : decode cX9_order 99 = .ok (.iadd, 1) := by decide +kernel
theorem dX9_order_100 : decode cX9_order 100 = .ok (.iaload, 1) := by decide +kernel
theorem dX9_order_101 : decode cX9_order 101 = .ok (.iastore, 1) := by decide +kernel
theorem dX9_order_102 : decode cX9_order 102 = .ok (.aload_n 0, 1) := by decide +kernel
theorem dX9_order_103 : decode cX9_order 103 = .ok (.getfield 49, 3) := by decide +kernel
theorem dX9_order_106 : decode cX9_order 106 = .ok (.bipush 14, 2) := by decide +kernel
theorem dX9_order_108 : decode cX9_order 108 = .ok (.iload 5, 2) := by decide +kernel
theorem dX9_order_110 : decode cX9_order 110 = .ok (.iadd, 1) := by decide +kernel
theorem dX9_order_111 : decode cX9_order 111 = .ok (.aload_n 0, 1) := by decide +kernel
theorem dX9_order_112 : decode cX9_order 112 = .ok (.getfield 19, 3) := by decide +kernel
theorem dX9_order_115 : decode cX9_order 115 = .ok (.bipush 14, 2) := by decide +kernel
theorem dX9_order_117 : decode cX9_order 117 = .ok (.aload_n 0, 1) := by decide +kernel
theorem dX9_order_118 : decode cX9_order 118 = .ok (.getfield 58, 3) := by decide +kernel
theorem dX9_order_121 : decode cX9_order 121 = .ok (.iload 5, 2) := by decide +kernel
theorem dX9_order_123 : decode cX9_order 123 = .ok (.iaload, 1) := by decide +kernel
theorem dX9_order_124 : decode cX9_order 124 = .ok (.iadd, 1) := by decide +kernel
theorem dX9_order_125 : decode cX9_order 125 = .ok (.iaload, 1) := by decide +kernel
theorem dX9_order_126 : decode cX9_order 126 = .ok (.iastore, 1) := by decide +kernel
theorem dX9_order_127 : decode cX9_order 127 = .ok (.iinc 5 1, 3) := by decide +kernel
theorem dX9_order_130 : decode cX9_order 130 = .ok (.goto (-62), 3) := by decide +kernel
theorem dX9_order_133 : decode cX9_order 133 = .ok (.aload_n 0, 1) := by decide +kernel
theorem dX9_order_134 : decode cX9_order 134 = .ok (.invokevirtual 199, 3) := by decide +kernel
theorem dX9_order_137 : decode cX9_order 137 = .ok (.aload_n 0, 1) := by decide +kernel
theorem dX9_order_138 : decode cX9_order 138 = .ok (.invokevirtual 212, 3) := by decide +kernel
theorem dX9_order_141 : decode cX9_order 141 = .ok (.invokestatic 218, 3) := by decide +kernel
theorem dX9_order_144 : decode cX9_order 144 = .ok (.istore 5, 2) := by decide +kernel
theorem dX9_order_146 : decode cX9_order 146 = .ok (.iload 5, 2) := by decide +kernel
theorem dX9_order_148 : decode cX9_order 148 = .ok (.iload_n 3, 1) := by decide +kernel
theorem dX9_order_149 : decode cX9_order 149 = .ok (.if_icmp .le 22, 3) := by decide +kernel
theorem dX9_order_152 : decode cX9_order 152 = .ok (.iload 5, 2) := by decide +kernel
theorem dX9_order_154 : decode cX9_order 154 = .ok (.istore_n 3, 1) := by decide +kernel
theorem dX9_order_155 : decode cX9_order 155 = .ok (.aload_n 0, 1) := by decide +kernel
theorem dX9_order_156 : decode cX9_order 156 = .ok (.getfield 61, 3) := by decide +kernel
theorem dX9_order_159 : decode cX9_order 159 = .ok (.iconst 0, 1) := by decide +kernel
theorem dX9_order_160 : decode cX9_order 160 = .ok (.aload_n 0, 1) := by decide +kernel
theorem dX9_order_161 : decode cX9_order 161 = .ok (.getfield 58, 3) := by decide +kernel
theorem dX9_order_164 : decode cX9_order 164 = .ok (.aload_n 0, 1) := by decide +kernel
theorem dX9_order_165 : decode cX9_order 165 = .ok (.getfield 85, 3) := by decide +kernel
theorem dX9_order_168 : decode cX9_order 168 = .ok (.invokestatic 145, 3) := by decide +kernel
theorem dX9_order_171 : decode cX9_order 171 = .ok (.iinc 4 1, 3) := by decide +kernel
theorem dX9_order_174 : decode cX9_order 174 = .ok (.goto (-124), 3) := by decide +kernel
theorem dX9_order_177 : decode cX9_order 177 = .ok (.iload_n 1, 1) := by decide +kernel
theorem dX9_order_178 : decode cX9_order 178 = .ok (.ifCond .ge 7, 3) := by decide +kernel
theorem dX9_order_181 : decode cX9_order 181 = .ok (.iload_n 3, 1) := by decide +kernel
theorem dX9_order_182 : decode cX9_order 182 = .ok (.goto 9, 3) := by decide +kernel
theorem dX9_order_185 : decode cX9_order 185 = .ok (.aload_n 0, 1) := by decide +kernel
theorem dX9_order_186 : decode cX9_order 186 = .ok (.getfield 61, 3) := by decide +kernel
theorem dX9_order_189 : decode cX9_order 189 = .ok (.iload_n 1, 1) := by decide +kernel
theorem dX9_order_190 : decode cX9_order 190 = .ok (.iaload, 1) := by decide +kernel
theorem dX9_order_191 : decode cX9_order 191 = .ok (.ireturn, 1) := by decide +kernel
theorem dX9_needed_0 : decode cX9_needed 0 = .ok (.iload_n 1, 1) := by decide +kernel
theorem dX9_needed_1 : decode cX9_needed 1 = .ok (.invokestatic 209, 3) := by decide +kernel
theorem dX9_needed_4 : decode cX9_needed 4 = .ok (.ifCond .ne 5, 3) := by decide +kernel
theorem dX9_needed_7 : decode cX9_needed 7 = .ok (.iconst (-1), 1) := by decide +kernel
theorem dX9_needed_8 : decode cX9_needed 8 = .ok (.ireturn, 1) := by decide +kernel
theorem dX9_needed_9 : decode cX9_needed 9 = .ok (.aload_n 0, 1) := by decide +kernel
theorem dX9_needed_10 : decode cX9_needed 10 = .ok (.invokevirtual 190, 3) := by decide +kernel
theorem dX9_needed_13 : decode cX9_needed 13 = .ok (.aload_n 0, 1) := by decide +kernel
theorem dX9_needed_14 : decode cX9_needed 14 = .ok (.invokevirtual 199, 3) := by decide +kernel
theorem dX9_needed_17 : decode cX9_needed 17 = .ok (.aload_n 0, 1) := by decide +kernel
theorem dX9_needed_18 : decode cX9_needed 18 = .ok (.iload_n 1, 1) := by decide +kernel
theorem dX9_needed_19 : decode cX9_needed 19 = .ok (.invokevirtual 184, 3) := by decide +kernel
theorem dX9_needed_22 : decode cX9_needed 22 = .ok (.invokestatic 218, 3) := by decide +kernel
theorem dX9_needed_25 : decode cX9_needed 25 = .ok (.istore_n 2, 1) := by decide +kernel
theorem dX9_needed_26 : decode cX9_needed 26 = .ok (.iconst 0, 1) := by decide +kernel
theorem dX9_needed_27 : decode cX9_needed 27 = .ok (.istore_n 3, 1) := by decide +kernel
theorem dX9_needed_28 : decode cX9_needed 28 = .ok (.iconst 0, 1) := by decide +kernel
theorem dX9_needed_29 : decode cX9_needed 29 = .ok (.istore 4, 2) := by decide +kernel
theorem dX9_needed_31 : decode cX9_needed 31 = .ok (.iload 4, 2) := by decide +kernel
theorem dX9_needed_33 : decode cX9_needed 33 = .ok (.aload_n 0, 1) := by decide +kernel
theorem dX9_needed_34 : decode cX9_needed 34 = .ok (.getfield 85, 3) := by decide +kernel
theorem dX9_needed_37 : decode cX9_needed 37 = .ok (.if_icmp .ge 53, 3) := by decide +kernel
theorem dX9_needed_40 : decode cX9_needed 40 = .ok (.aload_n 0, 1) := by decide +kernel
theorem dX9_needed_41 : decode cX9_needed 41 = .ok (.invokevirtual 190, 3) := by decide +kernel
theorem dX9_needed_44 : decode cX9_needed 44 = .ok (.aload_n 0, 1) := by decide +kernel
theorem dX9_needed_45 : decode cX9_needed 45 = .ok (.dup, 1) := by decide +kernel
theorem dX9_needed_46 : decode cX9_needed 46 = .ok (.getfield 161, 3) := by decide +kernel
theorem dX9_needed_49 : decode cX9_needed 49 = .ok (.iconst 1, 1) := by decide +kernel
theorem dX9_needed_50 : decode cX9_needed 50 = .ok (.iload 4, 2) := by decide +kernel
theorem dX9_needed_52 : decode cX9_needed 52 = .ok (.ishl, 1) := by decide +kernel
theorem dX9_needed_53 : decode cX9_needed 53 = .ok (.ior, 1) := by decide +kernel
theorem dX9_needed_54 : decode cX9_needed 54 = .ok (.putfield 161, 3) := by decide +kernel
theorem dX9_needed_57 : decode cX9_needed 57 = .ok (.aload_n 0, 1) := by decide +kernel
theorem dX9_needed_58 : decode cX9_needed 58 = .ok (.invokevirtual 199, 3) := by decide +kernel
theorem dX9_needed_61 : decode cX9_needed 61 = .ok (.iload_n 3, 1) := by decide +kernel
theorem dX9_needed_62 : decode cX9_needed 62 = .ok (.aload_n 0, 1) := by decide +kernel
theorem dX9_needed_63 : decode cX9_needed 63 = .ok (.iload_n 1, 1) := by decide +kernel
theorem dX9_needed_64 : decode cX9_needed 64 = .ok (.invokevirtual 184, 3) := by decide +kernel
theorem dX9_needed_67 : decode cX9_needed 67 = .ok (.invokestatic 218, 3) := by decide +kernel
theorem dX9_needed_70 : decode cX9_needed 70 = .ok (.iload_n 2, 1) := by decide +kernel
theorem dX9_needed_71 : decode cX9_needed 71 = .ok (.if_icmp .ge 10, 3) := by decide +kernel
theorem dX9_needed_74 : decode cX9_needed 74 = .ok (.iconst 1, 1) := by decide +kernel
theorem dX9_needed_75 : decode cX9_needed 75 = .ok (.iload 4, 2) := by decide +kernel
theorem dX9_needed_77 : decode cX9_needed 77 = .ok (.ishl, 1) := by decide +kernel
theorem dX9_needed_78 : decode cX9_needed 78 = .ok (.goto 4, 3) := by decide +kernel
theorem dX9_needed_81 : decode cX9_needed 81 = .ok (.iconst 0, 1) := by decide +kernel
theorem dX9_needed_82 : decode cX9_needed 82 = .ok (.ior, 1) := by decide +kernel
theorem dX9_needed_83 : decode cX9_needed 83 = .ok (.istore_n 3, 1) := by decide +kernel
theorem dX9_needed_84 : decode cX9_needed 84 = .ok (.iinc 4 1, 3) := by decide +kernel
theorem dX9_needed_87 : decode cX9_needed 87 = .ok (.goto (-56), 3) := by decide +kernel
theorem dX9_needed_90 : decode cX9_needed 90 = .ok (.iload_n 3, 1) := by decide +kernel
theorem dX9_needed_91 : decode cX9_needed 91 = .ok (.ireturn, 1) := by decide +kernel
theorem dX9_least_0 : decode cX9_least 0 = .ok (.iload_n 1, 1) := by decide +kernel
theorem dX9_least_1 : decode cX9_least 1 = .ok (.invokestatic 209, 3) := by decide +kernel
theorem dX9_least_4 : decode cX9_least 4 = .ok (.ifCond .ne 5, 3) := by decide +kernel
theorem dX9_least_7 : decode cX9_least 7 = .ok (.iconst (-1), 1) := by decide +kernel
theorem dX9_least_8 : decode cX9_least 8 = .ok (.ireturn, 1) := by decide +kernel
theorem dX9_least_9 : decode cX9_least 9 = .ok (.aload_n 0, 1) := by decide +kernel
theorem dX9_least_10 : decode cX9_least 10 = .ok (.invokevirtual 190, 3) := by decide +kernel
theorem dX9_least_13 : decode cX9_least 13 = .ok (.aload_n 0, 1) := by decide +kernel
theorem dX9_least_14 : decode cX9_least 14 = .ok (.invokevirtual 199, 3) := by decide +kernel
theorem dX9_least_17 : decode cX9_least 17 = .ok (.aload_n 0, 1) := by decide +kernel
theorem dX9_least_18 : decode cX9_least 18 = .ok (.iload_n 1, 1) := by decide +kernel
theorem dX9_least_19 : decode cX9_least 19 = .ok (.invokevirtual 184, 3) := by decide +kernel
theorem dX9_least_22 : decode cX9_least 22 = .ok (.invokestatic 218, 3) := by decide +kernel
theorem dX9_least_25 : decode cX9_least 25 = .ok (.istore_n 2, 1) := by decide +kernel
theorem dX9_least_26 : decode cX9_least 26 = .ok (.iconst (-1), 1) := by decide +kernel
theorem dX9_least_27 : decode cX9_least 27 = .ok (.istore_n 3, 1) := by decide +kernel
theorem dX9_least_28 : decode cX9_least 28 = .ok (.iconst 0, 1) := by decide +kernel
theorem dX9_least_29 : decode cX9_least 29 = .ok (.istore 4, 2) := by decide +kernel
theorem dX9_least_31 : decode cX9_least 31 = .ok (.iload 4, 2) := by decide +kernel
theorem dX9_least_33 : decode cX9_least 33 = .ok (.iconst 1, 1) := by decide +kernel
theorem dX9_least_34 : decode cX9_least 34 = .ok (.aload_n 0, 1) := by decide +kernel
theorem dX9_least_35 : decode cX9_least 35 = .ok (.getfield 85, 3) := by decide +kernel
theorem dX9_least_38 : decode cX9_least 38 = .ok (.ishl, 1) := by decide +kernel
theorem dX9_least_39 : decode cX9_least 39 = .ok (.if_icmp .ge 65, 3) := by decide +kernel
theorem dX9_least_42 : decode cX9_least 42 = .ok (.iload_n 3, 1) := by decide +kernel
theorem dX9_least_43 : decode cX9_least 43 = .ok (.ifCond .lt 15, 3) := by decide +kernel
theorem dX9_least_46 : decode cX9_least 46 = .ok (.iload 4, 2) := by decide +kernel
theorem dX9_least_48 : decode cX9_least 48 = .ok (.invokestatic 218, 3) := by decide +kernel
theorem dX9_least_51 : decode cX9_least 51 = .ok (.iload_n 3, 1) := by decide +kernel
theorem dX9_least_52 : decode cX9_least 52 = .ok (.invokestatic 218, 3) := by decide +kernel
theorem dX9_least_55 : decode cX9_least 55 = .ok (.if_icmp .ge 43, 3) := by decide +kernel
theorem dX9_least_58 : decode cX9_least 58 = .ok (.aload_n 0, 1) := by decide +kernel
theorem dX9_least_59 : decode cX9_least 59 = .ok (.invokevirtual 190, 3) := by decide +kernel
theorem dX9_least_62 : decode cX9_least 62 = .ok (.aload_n 0, 1) := by decide +kernel
theorem dX9_least_63 : decode cX9_least 63 = .ok (.dup, 1) := by decide +kernel
theorem dX9_least_64 : decode cX9_least 64 = .ok (.getfield 161, 3) := by decide +kernel
theorem dX9_least_67 : decode cX9_least 67 = .ok (.iload 4, 2) := by decide +kernel
theorem dX9_least_69 : decode cX9_least 69 = .ok (.iconst (-1), 1) := by decide +kernel
theorem dX9_least_70 : decode cX9_least 70 = .ok (.ixor, 1) := by decide +kernel
theorem dX9_least_71 : decode cX9_least 71 = .ok (.ior, 1) := by decide +kernel
theorem dX9_least_72 : decode cX9_least 72 = .ok (.putfield 161, 3) := by decide +kernel
theorem dX9_least_75 : decode cX9_least 75 = .ok (.aload_n 0, 1) := by decide +kernel
theorem dX9_least_76 : decode cX9_least 76 = .ok (.invokevirtual 199, 3) := by decide +kernel
theorem dX9_least_79 : decode cX9_least 79 = .ok (.aload_n 0, 1) := by decide +kernel
theorem dX9_least_80 : decode cX9_least 80 = .ok (.iload_n 1, 1) := by decide +kernel
theorem dX9_least_81 : decode cX9_least 81 = .ok (.invokevirtual 184, 3) := by decide +kernel
theorem dX9_least_84 : decode cX9_least 84 = .ok (.invokestatic 218, 3) := by decide +kernel
theorem dX9_least_87 : decode cX9_least 87 = .ok (.iload_n 2, 1) := by decide +kernel
theorem dX9_least_88 : decode cX9_least 88 = .ok (.if_icmp .lt 8, 3) := by decide +kernel
theorem dX9_least_91 : decode cX9_least 91 = .ok (.iload 4, 2) := by decide +kernel
theorem dX9_least_93 : decode cX9_least 93 = .ok (.goto 4, 3) := by decide +kernel
theorem dX9_least_96 : decode cX9_least 96 = .ok (.iload_n 3, 1) := by decide +kernel
theorem dX9_least_97 : decode cX9_least 97 = .ok (.istore_n 3, 1) := by decide +kernel
theorem dX9_least_98 : decode cX9_least 98 = .ok (.iinc 4 1, 3) := by decide +kernel
theorem dX9_least_101 : decode cX9_least 101 = .ok (.goto (-70), 3) := by decide +kernel
theorem dX9_least_104 : decode cX9_least 104 = .ok (.iload_n 3, 1) := by decide +kernel
theorem dX9_least_105 : decode cX9_least 105 = .ok (.ireturn, 1) := by decide +kernel
theorem dX9_rock_0 : decode cX9_rock 0 = .ok (.iload_n 1, 1) := by decide +kernel
theorem dX9_rock_1 : decode cX9_rock 1 = .ok (.iconst 0, 1) := by decide +kernel
theorem dX9_rock_2 : decode cX9_rock 2 = .ok (.iconst 1, 1) := by decide +kernel
theorem dX9_rock_3 : decode cX9_rock 3 = .ok (.invokestatic 88, 3) := by decide +kernel
theorem dX9_rock_6 : decode cX9_rock 6 = .ok (.ifCond .ne 5, 3) := by decide +kernel
theorem dX9_rock_9 : decode cX9_rock 9 = .ok (.iconst (-1), 1) := by decide +kernel
theorem dX9_rock_10 : decode cX9_rock 10 = .ok (.ireturn, 1) := by decide +kernel
theorem dX9_rock_11 : decode cX9_rock 11 = .ok (.aload_n 0, 1) := by decide +kernel
theorem dX9_rock_12 : decode cX9_rock 12 = .ok (.invokevirtual 190, 3) := by decide +kernel
theorem dX9_rock_15 : decode cX9_rock 15 = .ok (.aload_n 0, 1) := by decide +kernel
theorem dX9_rock_16 : decode cX9_rock 16 = .ok (.invokevirtual 199, 3) := by decide +kernel
theorem dX9_rock_19 : decode cX9_rock 19 = .ok (.iconst 0, 1) := by decide +kernel
theorem dX9_rock_20 : decode cX9_rock 20 = .ok (.istore_n 2, 1) := by decide +kernel
theorem dX9_rock_21 : decode cX9_rock 21 = .ok (.iconst 0, 1) := by decide +kernel
theorem dX9_rock_22 : decode cX9_rock 22 = .ok (.istore_n 3, 1) := by decide +kernel
theorem dX9_rock_23 : decode cX9_rock 23 = .ok (.iload_n 3, 1) := by decide +kernel
theorem dX9_rock_24 : decode cX9_rock 24 = .ok (.bipush 24, 2) := by decide +kernel
theorem dX9_rock_26 : decode cX9_rock 26 = .ok (.if_icmp .ge 29, 3) := by decide +kernel
theorem dX9_rock_29 : decode cX9_rock 29 = .ok (.iload_n 2, 1) := by decide +kernel
theorem dX9_rock_30 : decode cX9_rock 30 = .ok (.aload_n 0, 1) := by decide +kernel
theorem dX9_rock_31 : decode cX9_rock 31 = .ok (.getfield 55, 3) := by decide +kernel
theorem dX9_rock_34 : decode cX9_rock 34 = .ok (.iload_n 3, 1) := by decide +kernel
theorem dX9_rock_35 : decode cX9_rock 35 = .ok (.iaload, 1) := by decide +kernel
theorem dX9_rock_36 : decode cX9_rock 36 = .ok (.iconst 4, 1) := by decide +kernel
theorem dX9_rock_37 : decode cX9_rock 37 = .ok (.if_icmp .eq 9, 3) := by decide +kernel
theorem dX9_rock_40 : decode cX9_rock 40 = .ok (.iconst 1, 1) := by decide +kernel
theorem dX9_rock_41 : decode cX9_rock 41 = .ok (.iload_n 3, 1) := by decide +kernel
theorem dX9_rock_42 : decode cX9_rock 42 = .ok (.ishl, 1) := by decide +kernel
theorem dX9_rock_43 : decode cX9_rock 43 = .ok (.goto 4, 3) := by decide +kernel
theorem dX9_rock_46 : decode cX9_rock 46 = .ok (.iconst 0, 1) := by decide +kernel
theorem dX9_rock_47 : decode cX9_rock 47 = .ok (.ior, 1) := by decide +kernel
theorem dX9_rock_48 : decode cX9_rock 48 = .ok (.istore_n 2, 1) := by decide +kernel
theorem dX9_rock_49 : decode cX9_rock 49 = .ok (.iinc 3 1, 3) := by decide +kernel
theorem dX9_rock_52 : decode cX9_rock 52 = .ok (.goto (-29), 3) := by decide +kernel
theorem dX9_rock_55 : decode cX9_rock 55 = .ok (.bipush (-4), 2) := by decide +kernel
theorem dX9_rock_57 : decode cX9_rock 57 = .ok (.istore_n 3, 1) := by decide +kernel
theorem dX9_rock_58 : decode cX9_rock 58 = .ok (.bipush (-4), 2) := by decide +kernel
theorem dX9_rock_60 : decode cX9_rock 60 = .ok (.istore 4, 2) := by decide +kernel
theorem dX9_rock_62 : decode cX9_rock 62 = .ok (.iconst 0, 1) := by decide +kernel
theorem dX9_rock_63 : decode cX9_rock 63 = .ok (.istore 5, 2) := by decide +kernel
theorem dX9_rock_65 : decode cX9_rock 65 = .ok (.iload 5, 2) := by decide +kernel
theorem dX9_rock_67 : decode cX9_rock 67 = .ok (.bipush 24, 2) := by decide +kernel
theorem dX9_rock_69 : decode cX9_rock 69 = .ok (.if_icmp .ge 122, 3) := by decide +kernel
theorem dX9_rock_72 : decode cX9_rock 72 = .ok (.iload_n 2, 1) := by decide +kernel
theorem dX9_rock_73 : decode cX9_rock 73 = .ok (.iload 5, 2) := by decide +kernel
theorem dX9_rock_75 : decode cX9_rock 75 = .ok (.invokestatic 167, 3) := by decide +kernel
theorem dX9_rock_78 : decode cX9_rock 78 = .ok (.ifCond .eq 107, 3) := by decide +kernel
theorem dX9_rock_81 : decode cX9_rock 81 = .ok (.aload_n 0, 1) := by decide +kernel
theorem dX9_rock_82 : decode cX9_rock 82 = .ok (.invokevirtual 190, 3) := by decide +kernel
theorem dX9_rock_85 : decode cX9_rock 85 = .ok (.aload_n 0, 1) := by decide +kernel
theorem dX9_rock_86 : decode cX9_rock 86 = .ok (.getfield 49, 3) := by decide +kernel
theorem dX9_rock_89 : decode cX9_rock 89 = .ok (.iconst 1, 1) := by decide +kernel
theorem dX9_rock_90 : decode cX9_rock 90 = .ok (.dup2, 1) := by decide +kernel
theorem dX9_rock_91 : decode cX9_rock 91 = .ok (.iaload, 1) := by decide +kernel
theorem dX9_rock_92 : decode cX9_rock 92 = .ok (.iconst 1, 1) := by decide +kernel
theorem dX9_rock_93 : decode cX9_rock 93 = .ok (.iload 5, 2) := by decide +kernel
theorem dX9_rock_95 : decode cX9_rock 95 = .ok (.ishl, 1) := by decide +kernel
theorem dX9_rock_96 : decode cX9_rock 96 = .ok (.ior, 1) := by decide +kernel
theorem dX9_rock_97 : decode cX9_rock 97 = .ok (.iastore, 1) := by decide +kernel
theorem dX9_rock_98 : decode cX9_rock 98 = .ok (.aload_n 0, 1) := by decide +kernel
theorem dX9_rock_99 : decode cX9_rock 99 = .ok (.invokevirtual 199, 3) := by decide +kernel
theorem dX9_rock_102 : decode cX9_rock 102 = .ok (.iconst 0, 1) := by decide +kernel
theorem dX9_rock_103 : decode cX9_rock 103 = .ok (.istore 6, 2) := by decide +kernel
theorem dX9_rock_105 : decode cX9_rock 105 = .ok (.iconst 0, 1) := by decide +kernel
theorem dX9_rock_106 : decode cX9_rock 106 = .ok (.istore 7, 2) := by decide +kernel
theorem dX9_rock_108 : decode cX9_rock 108 = .ok (.iload 7, 2) := by decide +kernel
theorem dX9_rock_110 : decode cX9_rock 110 = .ok (.iconst 4, 1) := by decide +kernel
theorem dX9_rock_111 : decode cX9_rock 111 = .ok (.if_icmp .ge 28, 3) := by decide +kernel
theorem dX9_rock_114 : decode cX9_rock 114 = .ok (.iload 6, 2) := by decide +kernel
theorem dX9_rock_116 : decode cX9_rock 116 = .ok (.aload_n 0, 1) := by decide +kernel
theorem dX9_rock_117 : decode cX9_rock 117 = .ok (.getfield 92, 3) := by decide +kernel
theorem dX9_rock_120 : decode cX9_rock 120 = .ok (.aload_n 0, 1) := by decide +kernel
theorem dX9_rock_121 : decode cX9_rock 121 = .ok (.iload 7, 2) := by decide +kernel
theorem dX9_rock_123 : decode cX9_rock 123 = .ok (.invokevirtual 184, 3) := by decide +kernel
theorem dX9_rock_126 : decode cX9_rock 126 = .ok (.invokestatic 218, 3) := by decide +kernel
theorem dX9_rock_129 : decode cX9_rock 129 = .ok (.isub, 1) := by decide +kernel
theorem dX9_rock_130 : decode cX9_rock 130 = .ok (.iadd, 1) := by decide +kernel
theorem dX9_rock_131 : decode cX9_rock 131 = .ok (.istore 6, 2) := by decide +kernel
theorem dX9_rock_133 : decode cX9_rock 133 = .ok (.iinc 7 1, 3) := by decide +kernel
theorem dX9_rock_136 : decode cX9_rock 136 = .ok (.goto (-28), 3) := by decide +kernel
theorem dX9_rock_139 : decode cX9_rock 139 = .ok (.iload_n 3, 1) := by decide +kernel
theorem dX9_rock_140 : decode cX9_rock 140 = .ok (.bipush (-4), 2) := by decide +kernel
theorem dX9_rock_142 : decode cX9_rock 142 = .ok (.if_icmp .eq 10, 3) := by decide +kernel
theorem dX9_rock_145 : decode cX9_rock 145 = .ok (.iload 6, 2) := by decide +kernel
theorem dX9_rock_147 : decode cX9_rock 147 = .ok (.iload 4, 2) := by decide +kernel
theorem dX9_rock_149 : decode cX9_rock 149 = .ok (.if_icmp .ge 7, 3) := by decide +kernel
theorem dX9_rock_152 : decode cX9_rock 152 = .ok (.iconst 1, 1) := by decide +kernel
theorem dX9_rock_153 : decode cX9_rock 153 = .ok (.goto 4, 3) := by decide +kernel
theorem dX9_rock_156 : decode cX9_rock 156 = .ok (.iconst 0, 1) := by decide +kernel
theorem dX9_rock_157 : decode cX9_rock 157 = .ok (.istore 7, 2) := by decide +kernel
theorem dX9_rock_159 : decode cX9_rock 159 = .ok (.iload 7, 2) := by decide +kernel
theorem dX9_rock_161 : decode cX9_rock 161 = .ok (.ifCond .eq 8, 3) := by decide +kernel
theorem dX9_rock_164 : decode cX9_rock 164 = .ok (.iload 5, 2) := by decide +kernel
theorem dX9_rock_166 : decode cX9_rock 166 = .ok (.goto 4, 3) := by decide +kernel
theorem dX9_rock_169 : decode cX9_rock 169 = .ok (.iload_n 3, 1) := by decide +kernel
theorem dX9_rock_170 : decode cX9_rock 170 = .ok (.istore_n 3, 1) := by decide +kernel
theorem dX9_rock_171 : decode cX9_rock 171 = .ok (.iload 7, 2) := by decide +kernel
theorem dX9_rock_173 : decode cX9_rock 173 = .ok (.ifCond .eq 8, 3) := by decide +kernel
theorem dX9_rock_176 : decode cX9_rock 176 = .ok (.iload 6, 2) := by decide +kernel
theorem dX9_rock_178 : decode cX9_rock 178 = .ok (.goto 5, 3) := by decide +kernel
theorem dX9_rock_181 : decode cX9_rock 181 = .ok (.iload 4, 2) := by decide +kernel
theorem dX9_rock_183 : decode cX9_rock 183 = .ok (.istore 4, 2) := by decide +kernel
theorem dX9_rock_185 : decode cX9_rock 185 = .ok (.iinc 5 1, 3) := by decide +kernel
theorem dX9_rock_188 : decode cX9_rock 188 = .ok (.goto (-123), 3) := by decide +kernel
theorem dX9_rock_191 : decode cX9_rock 191 = .ok (.iload_n 1, 1) := by decide +kernel
theorem dX9_rock_192 : decode cX9_rock 192 = .ok (.ifCond .ne 7, 3) := by decide +kernel
theorem dX9_rock_195 : decode cX9_rock 195 = .ok (.iload_n 3, 1) := by decide +kernel
theorem dX9_rock_196 : decode cX9_rock 196 = .ok (.goto 5, 3) := by decide +kernel
theorem dX9_rock_199 : decode cX9_rock 199 = .ok (.iload 4, 2) := by decide +kernel
theorem dX9_rock_201 : decode cX9_rock 201 = .ok (.ireturn, 1) := by decide +kernel
theorem dX9_row_0 : decode cX9_row 0 = .ok (.iload_n 1, 1) := by decide +kernel
theorem dX9_row_1 : decode cX9_row 1 = .ok (.iconst 0, 1) := by decide +kernel
theorem dX9_row_2 : decode cX9_row 2 = .ok (.iconst 4, 1) := by decide +kernel
theorem dX9_row_3 : decode cX9_row 3 = .ok (.invokestatic 88, 3) := by decide +kernel
theorem dX9_row_6 : decode cX9_row 6 = .ok (.ifCond .eq 31, 3) := by decide +kernel
theorem dX9_row_9 : decode cX9_row 9 = .ok (.iload_n 2, 1) := by decide +kernel
theorem dX9_row_10 : decode cX9_row 10 = .ok (.iconst 0, 1) := by decide +kernel
theorem dX9_row_11 : decode cX9_row 11 = .ok (.iconst 4, 1) := by decide +kernel
theorem dX9_row_12 : decode cX9_row 12 = .ok (.invokestatic 88, 3) := by decide +kernel
theorem dX9_row_15 : decode cX9_row 15 = .ok (.ifCond .eq 22, 3) := by decide +kernel
theorem dX9_row_18 : decode cX9_row 18 = .ok (.iload_n 3, 1) := by decide +kernel
theorem dX9_row_19 : decode cX9_row 19 = .ok (.iconst 0, 1) := by decide +kernel
theorem dX9_row_20 : decode cX9_row 20 = .ok (.iconst 4, 1) := by decide +kernel
theorem dX9_row_21 : decode cX9_row 21 = .ok (.invokestatic 88, 3) := by decide +kernel
theorem dX9_row_24 : decode cX9_row 24 = .ok (.ifCond .eq 13, 3) := by decide +kernel
theorem dX9_row_27 : decode cX9_row 27 = .ok (.iload 4, 2) := by decide +kernel
theorem dX9_row_29 : decode cX9_row 29 = .ok (.iconst 0, 1) := by decide +kernel
theorem dX9_row_30 : decode cX9_row 30 = .ok (.iconst 1, 1) := by decide +kernel
theorem dX9_row_31 : decode cX9_row 31 = .ok (.invokestatic 88, 3) := by decide +kernel
theorem dX9_row_34 : decode cX9_row 34 = .ok (.ifCond .ne 5, 3) := by decide +kernel
theorem dX9_row_37 : decode cX9_row 37 = .ok (.iconst (-1), 1) := by decide +kernel
theorem dX9_row_38 : decode cX9_row 38 = .ok (.ireturn, 1) := by decide +kernel
theorem dX9_row_39 : decode cX9_row 39 = .ok (.aload_n 0, 1) := by decide +kernel
theorem dX9_row_40 : decode cX9_row 40 = .ok (.invokevirtual 190, 3) := by decide +kernel
theorem dX9_row_43 : decode cX9_row 43 = .ok (.aload_n 0, 1) := by decide +kernel
theorem dX9_row_44 : decode cX9_row 44 = .ok (.invokevirtual 199, 3) := by decide +kernel
theorem dX9_row_47 : decode cX9_row 47 = .ok (.iconst 0, 1) := by decide +kernel
theorem dX9_row_48 : decode cX9_row 48 = .ok (.istore 5, 2) := by decide +kernel
theorem dX9_row_50 : decode cX9_row 50 = .ok (.bipush (-4), 2) := by decide +kernel
theorem dX9_row_52 : decode cX9_row 52 = .ok (.istore 6, 2) := by decide +kernel
theorem dX9_row_54 : decode cX9_row 54 = .ok (.bipush 23, 2) := by decide +kernel
theorem dX9_row_56 : decode cX9_row 56 = .ok (.istore 7, 2) := by decide +kernel
theorem dX9_row_58 : decode cX9_row 58 = .ok (.iload 7, 2) := by decide +kernel
theorem dX9_row_60 : decode cX9_row 60 = .ok (.ifCond .lt 88, 3) := by decide +kernel
theorem dX9_row_63 : decode cX9_row 63 = .ok (.aload_n 0, 1) := by decide +kernel
theorem dX9_row_64 : decode cX9_row 64 = .ok (.getfield 55, 3) := by decide +kernel
theorem dX9_row_67 : decode cX9_row 67 = .ok (.iload 7, 2) := by decide +kernel
theorem dX9_row_69 : decode cX9_row 69 = .ok (.iaload, 1) := by decide +kernel
theorem dX9_row_70 : decode cX9_row 70 = .ok (.iload_n 1, 1) := by decide +kernel
theorem dX9_row_71 : decode cX9_row 71 = .ok (.if_icmp .ne 39, 3) := by decide +kernel
theorem dX9_row_74 : decode cX9_row 74 = .ok (.aload_n 0, 1) := by decide +kernel
theorem dX9_row_75 : decode cX9_row 75 = .ok (.getfield 55, 3) := by decide +kernel
theorem dX9_row_78 : decode cX9_row 78 = .ok (.iload 7, 2) := by decide +kernel
theorem dX9_row_80 : decode cX9_row 80 = .ok (.iconst 1, 1) := by decide +kernel
theorem dX9_row_81 : decode cX9_row 81 = .ok (.iadd, 1) := by decide +kernel
theorem dX9_row_82 : decode cX9_row 82 = .ok (.bipush 24, 2) := by decide +kernel
theorem dX9_row_84 : decode cX9_row 84 = .ok (.irem, 1) := by decide +kernel
theorem dX9_row_85 : decode cX9_row 85 = .ok (.iaload, 1) := by decide +kernel
theorem dX9_row_86 : decode cX9_row 86 = .ok (.iload_n 2, 1) := by decide +kernel
theorem dX9_row_87 : decode cX9_row 87 = .ok (.if_icmp .ne 23, 3) := by decide +kernel
theorem dX9_row_90 : decode cX9_row 90 = .ok (.aload_n 0, 1) := by decide +kernel
theorem dX9_row_91 : decode cX9_row 91 = .ok (.getfield 55, 3) := by decide +kernel
theorem dX9_row_94 : decode cX9_row 94 = .ok (.iload 7, 2) := by decide +kernel
theorem dX9_row_96 : decode cX9_row 96 = .ok (.iconst 2, 1) := by decide +kernel
theorem dX9_row_97 : decode cX9_row 97 = .ok (.iadd, 1) := by decide +kernel
theorem dX9_row_98 : decode cX9_row 98 = .ok (.bipush 24, 2) := by decide +kernel
theorem dX9_row_100 : decode cX9_row 100 = .ok (.irem, 1) := by decide +kernel
theorem dX9_row_101 : decode cX9_row 101 = .ok (.iaload, 1) := by decide +kernel
theorem dX9_row_102 : decode cX9_row 102 = .ok (.iload_n 3, 1) := by decide +kernel
theorem dX9_row_103 : decode cX9_row 103 = .ok (.if_icmp .ne 7, 3) := by decide +kernel
theorem dX9_row_106 : decode cX9_row 106 = .ok (.iconst 1, 1) := by decide +kernel
theorem dX9_row_107 : decode cX9_row 107 = .ok (.goto 4, 3) := by decide +kernel
theorem dX9_row_110 : decode cX9_row 110 = .ok (.iconst 0, 1) := by decide +kernel
theorem dX9_row_111 : decode cX9_row 111 = .ok (.istore 8, 2) := by decide +kernel
theorem dX9_row_113 : decode cX9_row 113 = .ok (.iload 5, 2) := by decide +kernel
theorem dX9_row_115 : decode cX9_row 115 = .ok (.iload 8, 2) := by decide +kernel
theorem dX9_row_117 : decode cX9_row 117 = .ok (.ifCond .eq 7, 3) := by decide +kernel
theorem dX9_row_120 : decode cX9_row 120 = .ok (.iconst 1, 1) := by decide +kernel
theorem dX9_row_121 : decode cX9_row 121 = .ok (.goto 4, 3) := by decide +kernel
theorem dX9_row_124 : decode cX9_row 124 = .ok (.iconst 0, 1) := by decide +kernel
theorem dX9_row_125 : decode cX9_row 125 = .ok (.iadd, 1) := by decide +kernel
theorem dX9_row_126 : decode cX9_row 126 = .ok (.istore 5, 2) := by decide +kernel
theorem dX9_row_128 : decode cX9_row 128 = .ok (.iload 8, 2) := by decide +kernel
theorem dX9_row_130 : decode cX9_row 130 = .ok (.ifCond .eq 8, 3) := by decide +kernel
theorem dX9_row_133 : decode cX9_row 133 = .ok (.iload 7, 2) := by decide +kernel
theorem dX9_row_135 : decode cX9_row 135 = .ok (.goto 5, 3) := by decide +kernel
theorem dX9_row_138 : decode cX9_row 138 = .ok (.iload 6, 2) := by decide +kernel
theorem dX9_row_140 : decode cX9_row 140 = .ok (.istore 6, 2) := by decide +kernel
theorem dX9_row_142 : decode cX9_row 142 = .ok (.iinc 7 (-1), 3) := by decide +kernel
theorem dX9_row_145 : decode cX9_row 145 = .ok (.goto (-87), 3) := by decide +kernel
theorem dX9_row_148 : decode cX9_row 148 = .ok (.iload 4, 2) := by decide +kernel
theorem dX9_row_150 : decode cX9_row 150 = .ok (.ifCond .ne 8, 3) := by decide +kernel
theorem dX9_row_153 : decode cX9_row 153 = .ok (.iload 5, 2) := by decide +kernel
theorem dX9_row_155 : decode cX9_row 155 = .ok (.goto 5, 3) := by decide +kernel
theorem dX9_row_158 : decode cX9_row 158 = .ok (.iload 6, 2) := by decide +kernel
theorem dX9_row_160 : decode cX9_row 160 = .ok (.ireturn, 1) := by decide +kernel
theorem dX9_look_0 : decode cX9_look 0 = .ok (.iload_n 1, 1) := by decide +kernel
theorem dX9_look_1 : decode cX9_look 1 = .ok (.invokestatic 196, 3) := by decide +kernel
theorem dX9_look_4 : decode cX9_look 4 = .ok (.ifCond .eq 12, 3) := by decide +kernel
theorem dX9_look_7 : decode cX9_look 7 = .ok (.iload_n 2, 1) := by decide +kernel
theorem dX9_look_8 : decode cX9_look 8 = .ok (.iconst 0, 1) := by decide +kernel
theorem dX9_look_9 : decode cX9_look 9 = .ok (.iconst 4, 1) := by decide +kernel
theorem dX9_look_10 : decode cX9_look 10 = .ok (.invokestatic 88, 3) := by decide +kernel
theorem dX9_look_13 : decode cX9_look 13 = .ok (.ifCond .ne 5, 3) := by decide +kernel
theorem dX9_look_16 : decode cX9_look 16 = .ok (.iconst (-1), 1) := by decide +kernel
theorem dX9_look_17 : decode cX9_look 17 = .ok (.ireturn, 1) := by decide +kernel
theorem dX9_look_18 : decode cX9_look 18 = .ok (.aload_n 0, 1) := by decide +kernel
theorem dX9_look_19 : decode cX9_look 19 = .ok (.getfield 155, 3) := by decide +kernel
theorem dX9_look_22 : decode cX9_look 22 = .ok (.bipush 8, 2) := by decide +kernel
theorem dX9_look_24 : decode cX9_look 24 = .ok (.if_icmp .ne 6, 3) := by decide +kernel
theorem dX9_look_27 : decode cX9_look 27 = .ok (.bipush (-3), 2) := by decide +kernel
theorem dX9_look_29 : decode cX9_look 29 = .ok (.ireturn, 1) := by decide +kernel
theorem dX9_look_30 : decode cX9_look 30 = .ok (.aload_n 0, 1) := by decide +kernel
theorem dX9_look_31 : decode cX9_look 31 = .ok (.getfield 28, 3) := by decide +kernel
theorem dX9_look_34 : decode cX9_look 34 = .ok (.iconst 2, 1) := by decide +kernel
theorem dX9_look_35 : decode cX9_look 35 = .ok (.aload_n 0, 1) := by decide +kernel
theorem dX9_look_36 : decode cX9_look 36 = .ok (.getfield 155, 3) := by decide +kernel
theorem dX9_look_39 : decode cX9_look 39 = .ok (.imul, 1) := by decide +kernel
theorem dX9_look_40 : decode cX9_look 40 = .ok (.iload_n 1, 1) := by decide +kernel
theorem dX9_look_41 : decode cX9_look 41 = .ok (.iastore, 1) := by decide +kernel
theorem dX9_look_42 : decode cX9_look 42 = .ok (.aload_n 0, 1) := by decide +kernel
theorem dX9_look_43 : decode cX9_look 43 = .ok (.getfield 28, 3) := by decide +kernel
theorem dX9_look_46 : decode cX9_look 46 = .ok (.iconst 2, 1) := by decide +kernel
theorem dX9_look_47 : decode cX9_look 47 = .ok (.aload_n 0, 1) := by decide +kernel
theorem dX9_look_48 : decode cX9_look 48 = .ok (.getfield 155, 3) := by decide +kernel
theorem dX9_look_51 : decode cX9_look 51 = .ok (.imul, 1) := by decide +kernel
theorem dX9_look_52 : decode cX9_look 52 = .ok (.iconst 1, 1) := by decide +kernel
theorem dX9_look_53 : decode cX9_look 53 = .ok (.iadd, 1) := by decide +kernel
theorem dX9_look_54 : decode cX9_look 54 = .ok (.iload_n 2, 1) := by decide +kernel
theorem dX9_look_55 : decode cX9_look 55 = .ok (.iastore, 1) := by decide +kernel
theorem dX9_look_56 : decode cX9_look 56 = .ok (.aload_n 0, 1) := by decide +kernel
theorem dX9_look_57 : decode cX9_look 57 = .ok (.dup, 1) := by decide +kernel
theorem dX9_look_58 : decode cX9_look 58 = .ok (.getfield 155, 3) := by decide +kernel
theorem dX9_look_61 : decode cX9_look 61 = .ok (.iconst 1, 1) := by decide +kernel
theorem dX9_look_62 : decode cX9_look 62 = .ok (.iadd, 1) := by decide +kernel
theorem dX9_look_63 : decode cX9_look 63 = .ok (.putfield 155, 3) := by decide +kernel
theorem dX9_look_66 : decode cX9_look 66 = .ok (.aload_n 0, 1) := by decide +kernel
theorem dX9_look_67 : decode cX9_look 67 = .ok (.getfield 155, 3) := by decide +kernel
theorem dX9_look_70 : decode cX9_look 70 = .ok (.ireturn, 1) := by decide +kernel
theorem dX9_forget_0 : decode cX9_forget 0 = .ok (.aload_n 0, 1) := by decide +kernel
theorem dX9_forget_1 : decode cX9_forget 1 = .ok (.getfield 155, 3) := by decide +kernel
theorem dX9_forget_4 : decode cX9_forget 4 = .ok (.istore_n 1, 1) := by decide +kernel
theorem dX9_forget_5 : decode cX9_forget 5 = .ok (.aload_n 0, 1) := by decide +kernel
theorem dX9_forget_6 : decode cX9_forget 6 = .ok (.iconst 0, 1) := by decide +kernel
theorem dX9_forget_7 : decode cX9_forget 7 = .ok (.putfield 155, 3) := by decide +kernel
theorem dX9_forget_10 : decode cX9_forget 10 = .ok (.iload_n 1, 1) := by decide +kernel
theorem dX9_forget_11 : decode cX9_forget 11 = .ok (.ireturn, 1) := by decide +kernel
theorem dX9_behind_0 : decode cX9_behind 0 = .ok (.iload_n 1, 1) := by decide +kernel
theorem dX9_behind_1 : decode cX9_behind 1 = .ok (.iconst 0, 1) := by decide +kernel
theorem dX9_behind_2 : decode cX9_behind 2 = .ok (.iconst 1, 1) := by decide +kernel
theorem dX9_behind_3 : decode cX9_behind 3 = .ok (.invokestatic 88, 3) := by decide +kernel
theorem dX9_behind_6 : decode cX9_behind 6 = .ok (.ifCond .ne 5, 3) := by decide +kernel
theorem dX9_behind_9 : decode cX9_behind 9 = .ok (.iconst (-1), 1) := by decide +kernel
theorem dX9_behind_10 : decode cX9_behind 10 = .ok (.ireturn, 1) := by decide +kernel
theorem dX9_behind_11 : decode cX9_behind 11 = .ok (.aload_n 0, 1) := by decide +kernel
theorem dX9_behind_12 : decode cX9_behind 12 = .ok (.invokevirtual 190, 3) := by decide +kernel
theorem dX9_behind_15 : decode cX9_behind 15 = .ok (.iconst 0, 1) := by decide +kernel
theorem dX9_behind_16 : decode cX9_behind 16 = .ok (.istore_n 2, 1) := by decide +kernel
theorem dX9_behind_17 : decode cX9_behind 17 = .ok (.bipush (-4), 2) := by decide +kernel
theorem dX9_behind_19 : decode cX9_behind 19 = .ok (.istore_n 3, 1) := by decide +kernel
theorem dX9_behind_20 : decode cX9_behind 20 = .ok (.iconst 1, 1) := by decide +kernel
theorem dX9_behind_21 : decode cX9_behind 21 = .ok (.aload_n 0, 1) := by decide +kernel
theorem dX9_behind_22 : decode cX9_behind 22 = .ok (.getfield 85, 3) := by decide +kernel
theorem dX9_behind_25 : decode cX9_behind 25 = .ok (.ishl, 1) := by decide +kernel
theorem dX9_behind_26 : decode cX9_behind 26 = .ok (.iconst 1, 1) := by decide +kernel
theorem dX9_behind_27 : decode cX9_behind 27 = .ok (.isub, 1) := by decide +kernel
theorem dX9_behind_28 : decode cX9_behind 28 = .ok (.istore 4, 2) := by decide +kernel
theorem dX9_behind_30 : decode cX9_behind 30 = .ok (.iload 4, 2) := by decide +kernel
theorem dX9_behind_32 : decode cX9_behind 32 = .ok (.ifCond .lt 105, 3) := by decide +kernel
theorem dX9_behind_35 : decode cX9_behind 35 = .ok (.aload_n 0, 1) := by decide +kernel
theorem dX9_behind_36 : decode cX9_behind 36 = .ok (.iload 4, 2) := by decide +kernel
theorem dX9_behind_38 : decode cX9_behind 38 = .ok (.putfield 161, 3) := by decide +kernel
theorem dX9_behind_41 : decode cX9_behind 41 = .ok (.aload_n 0, 1) := by decide +kernel
theorem dX9_behind_42 : decode cX9_behind 42 = .ok (.invokevirtual 199, 3) := by decide +kernel
theorem dX9_behind_45 : decode cX9_behind 45 = .ok (.iconst 1, 1) := by decide +kernel
theorem dX9_behind_46 : decode cX9_behind 46 = .ok (.istore 5, 2) := by decide +kernel
theorem dX9_behind_48 : decode cX9_behind 48 = .ok (.iconst 0, 1) := by decide +kernel
theorem dX9_behind_49 : decode cX9_behind 49 = .ok (.istore 6, 2) := by decide +kernel
theorem dX9_behind_51 : decode cX9_behind 51 = .ok (.iload 6, 2) := by decide +kernel
theorem dX9_behind_53 : decode cX9_behind 53 = .ok (.aload_n 0, 1) := by decide +kernel
theorem dX9_behind_54 : decode cX9_behind 54 = .ok (.getfield 155, 3) := by decide +kernel
theorem dX9_behind_57 : decode cX9_behind 57 = .ok (.if_icmp .ge 49, 3) := by decide +kernel
theorem dX9_behind_60 : decode cX9_behind 60 = .ok (.iload 5, 2) := by decide +kernel
theorem dX9_behind_62 : decode cX9_behind 62 = .ok (.ifCond .eq 35, 3) := by decide +kernel
theorem dX9_behind_65 : decode cX9_behind 65 = .ok (.aload_n 0, 1) := by decide +kernel
theorem dX9_behind_66 : decode cX9_behind 66 = .ok (.getfield 55, 3) := by decide +kernel
theorem dX9_behind_69 : decode cX9_behind 69 = .ok (.aload_n 0, 1) := by decide +kernel
theorem dX9_behind_70 : decode cX9_behind 70 = .ok (.getfield 28, 3) := by decide +kernel
theorem dX9_behind_73 : decode cX9_behind 73 = .ok (.iconst 2, 1) := by decide +kernel
theorem dX9_behind_74 : decode cX9_behind 74 = .ok (.iload 6, 2) := by decide +kernel
theorem dX9_behind_76 : decode cX9_behind 76 = .ok (.imul, 1) := by decide +kernel
theorem dX9_behind_77 : decode cX9_behind 77 = .ok (.iaload, 1) := by decide +kernel
theorem dX9_behind_78 : decode cX9_behind 78 = .ok (.iaload, 1) := by decide +kernel
theorem dX9_behind_79 : decode cX9_behind 79 = .ok (.aload_n 0, 1) := by decide +kernel
theorem dX9_behind_80 : decode cX9_behind 80 = .ok (.getfield 28, 3) := by decide +kernel
theorem dX9_behind_83 : decode cX9_behind 83 = .ok (.iconst 2, 1) := by decide +kernel
theorem dX9_behind_84 : decode cX9_behind 84 = .ok (.iload 6, 2) := by decide +kernel
theorem dX9_behind_86 : decode cX9_behind 86 = .ok (.imul, 1) := by decide +kernel
theorem dX9_behind_87 : decode cX9_behind 87 = .ok (.iconst 1, 1) := by decide +kernel
theorem dX9_behind_88 : decode cX9_behind 88 = .ok (.iadd, 1) := by decide +kernel
theorem dX9_behind_89 : decode cX9_behind 89 = .ok (.iaload, 1) := by decide +kernel
theorem dX9_behind_90 : decode cX9_behind 90 = .ok (.if_icmp .ne 7, 3) := by decide +kernel
theorem dX9_behind_93 : decode cX9_behind 93 = .ok (.iconst 1, 1) := by decide +kernel
theorem dX9_behind_94 : decode cX9_behind 94 = .ok (.goto 4, 3) := by decide +kernel
theorem dX9_behind_97 : decode cX9_behind 97 = .ok (.iconst 0, 1) := by decide +kernel
