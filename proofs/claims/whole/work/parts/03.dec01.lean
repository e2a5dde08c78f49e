theorem dX8_stripe_19 : decode cX8_stripe 19 = .ok (.iconst 2, 1) := by decide +kernel
theorem dX8_stripe_20 : decode cX8_stripe 20 = .ok (.if_icmp .ne 15, 3) := by decide +kernel
theorem dX8_stripe_23 : decode cX8_stripe 23 = .ok (.aload_n 0, 1) := by decide +kernel
theorem dX8_stripe_24 : decode cX8_stripe 24 = .ok (.getfield 36, 3) := by decide +kernel
theorem dX8_stripe_27 : decode cX8_stripe 27 = .ok (.getfield 151, 3) := by decide +kernel
theorem dX8_stripe_30 : decode cX8_stripe 30 = .ok (.iload_n 1, 1) := by decide +kernel
theorem dX8_stripe_31 : decode cX8_stripe 31 = .ok (.ishr, 1) := by decide +kernel
theorem dX8_stripe_32 : decode cX8_stripe 32 = .ok (.iconst 1, 1) := by decide +kernel
theorem dX8_stripe_33 : decode cX8_stripe 33 = .ok (.iand, 1) := by decide +kernel
theorem dX8_stripe_34 : decode cX8_stripe 34 = .ok (.ireturn, 1) := by decide +kernel
theorem dX8_stripe_35 : decode cX8_stripe 35 = .ok (.aload_n 0, 1) := by decide +kernel
theorem dX8_stripe_36 : decode cX8_stripe 36 = .ok (.invokevirtual 154, 3) := by decide +kernel
theorem dX8_stripe_39 : decode cX8_stripe 39 = .ok (.iload_n 2, 1) := by decide +kernel
theorem dX8_stripe_40 : decode cX8_stripe 40 = .ok (.ifCond .ne 14, 3) := by decide +kernel
theorem dX8_stripe_43 : decode cX8_stripe 43 = .ok (.aload_n 0, 1) := by decide +kernel
theorem dX8_stripe_44 : decode cX8_stripe 44 = .ok (.getfield 65, 3) := by decide +kernel
theorem dX8_stripe_47 : decode cX8_stripe 47 = .ok (.iload_n 1, 1) := by decide +kernel
theorem dX8_stripe_48 : decode cX8_stripe 48 = .ok (.invokevirtual 157, 3) := by decide +kernel
theorem dX8_stripe_51 : decode cX8_stripe 51 = .ok (.goto 11, 3) := by decide +kernel
theorem dX8_stripe_54 : decode cX8_stripe 54 = .ok (.aload_n 0, 1) := by decide +kernel
theorem dX8_stripe_55 : decode cX8_stripe 55 = .ok (.getfield 65, 3) := by decide +kernel
theorem dX8_stripe_58 : decode cX8_stripe 58 = .ok (.iload_n 1, 1) := by decide +kernel
theorem dX8_stripe_59 : decode cX8_stripe 59 = .ok (.invokevirtual 161, 3) := by decide +kernel
theorem dX8_stripe_62 : decode cX8_stripe 62 = .ok (.ireturn, 1) := by decide +kernel
theorem dX8_pass_0 : decode cX8_pass 0 = .ok (.iload_n 1, 1) := by decide +kernel
theorem dX8_pass_1 : decode cX8_pass 1 = .ok (.iconst 1, 1) := by decide +kernel
theorem dX8_pass_2 : decode cX8_pass 2 = .ok (.bipush 30, 2) := by decide +kernel
theorem dX8_pass_4 : decode cX8_pass 4 = .ok (.invokestatic 103, 3) := by decide +kernel
theorem dX8_pass_7 : decode cX8_pass 7 = .ok (.ifCond .ne 5, 3) := by decide +kernel
theorem dX8_pass_10 : decode cX8_pass 10 = .ok (.iconst (-1), 1) := by decide +kernel
theorem dX8_pass_11 : decode cX8_pass 11 = .ok (.ireturn, 1) := by decide +kernel
theorem dX8_pass_12 : decode cX8_pass 12 = .ok (.aload_n 0, 1) := by decide +kernel
theorem dX8_pass_13 : decode cX8_pass 13 = .ok (.getfield 36, 3) := by decide +kernel
theorem dX8_pass_16 : decode cX8_pass 16 = .ok (.getfield 164, 3) := by decide +kernel
theorem dX8_pass_19 : decode cX8_pass 19 = .ok (.iload_n 1, 1) := by decide +kernel
theorem dX8_pass_20 : decode cX8_pass 20 = .ok (.iadd, 1) := by decide +kernel
theorem dX8_pass_21 : decode cX8_pass 21 = .ok (.sipush 999, 3) := by decide +kernel
theorem dX8_pass_24 : decode cX8_pass 24 = .ok (.if_icmp .le 6, 3) := by decide +kernel
theorem dX8_pass_27 : decode cX8_pass 27 = .ok (.bipush (-2), 2) := by decide +kernel
theorem dX8_pass_29 : decode cX8_pass 29 = .ok (.ireturn, 1) := by decide +kernel
theorem dX8_pass_30 : decode cX8_pass 30 = .ok (.aload_n 0, 1) := by decide +kernel
theorem dX8_pass_31 : decode cX8_pass 31 = .ok (.getfield 48, 3) := by decide +kernel
theorem dX8_pass_34 : decode cX8_pass 34 = .ok (.aload_n 0, 1) := by decide +kernel
theorem dX8_pass_35 : decode cX8_pass 35 = .ok (.getfield 36, 3) := by decide +kernel
theorem dX8_pass_38 : decode cX8_pass 38 = .ok (.invokevirtual 167, 3) := by decide +kernel
theorem dX8_pass_41 : decode cX8_pass 41 = .ok (.aload_n 0, 1) := by decide +kernel
theorem dX8_pass_42 : decode cX8_pass 42 = .ok (.getfield 36, 3) := by decide +kernel
theorem dX8_pass_45 : decode cX8_pass 45 = .ok (.aload_n 0, 1) := by decide +kernel
theorem dX8_pass_46 : decode cX8_pass 46 = .ok (.getfield 26, 3) := by decide +kernel
theorem dX8_pass_49 : decode cX8_pass 49 = .ok (.iload_n 1, 1) := by decide +kernel
theorem dX8_pass_50 : decode cX8_pass 50 = .ok (.invokevirtual 171, 3) := by decide +kernel
theorem dX8_pass_53 : decode cX8_pass 53 = .ok (.aload_n 0, 1) := by decide +kernel
theorem dX8_pass_54 : decode cX8_pass 54 = .ok (.getfield 36, 3) := by decide +kernel
theorem dX8_pass_57 : decode cX8_pass 57 = .ok (.getfield 164, 3) := by decide +kernel
theorem dX8_pass_60 : decode cX8_pass 60 = .ok (.ireturn, 1) := by decide +kernel
theorem dX8_pay_0 : decode cX8_pay 0 = .ok (.aload_n 0, 1) := by decide +kernel
theorem dX8_pay_1 : decode cX8_pay 1 = .ok (.iload_n 1, 1) := by decide +kernel
theorem dX8_pay_2 : decode cX8_pay 2 = .ok (.invokevirtual 114, 3) := by decide +kernel
theorem dX8_pay_5 : decode cX8_pay 5 = .ok (.ifCond .eq 13, 3) := by decide +kernel
theorem dX8_pay_8 : decode cX8_pay 8 = .ok (.iload_n 2, 1) := by decide +kernel
theorem dX8_pay_9 : decode cX8_pay 9 = .ok (.iconst 1, 1) := by decide +kernel
theorem dX8_pay_10 : decode cX8_pay 10 = .ok (.bipush 99, 2) := by decide +kernel
theorem dX8_pay_12 : decode cX8_pay 12 = .ok (.invokestatic 103, 3) := by decide +kernel
theorem dX8_pay_15 : decode cX8_pay 15 = .ok (.ifCond .ne 5, 3) := by decide +kernel
theorem dX8_pay_18 : decode cX8_pay 18 = .ok (.iconst (-1), 1) := by decide +kernel
theorem dX8_pay_19 : decode cX8_pay 19 = .ok (.ireturn, 1) := by decide +kernel
theorem dX8_pay_20 : decode cX8_pay 20 = .ok (.aload_n 0, 1) := by decide +kernel
theorem dX8_pay_21 : decode cX8_pay 21 = .ok (.getfield 48, 3) := by decide +kernel
theorem dX8_pay_24 : decode cX8_pay 24 = .ok (.aload_n 0, 1) := by decide +kernel
theorem dX8_pay_25 : decode cX8_pay 25 = .ok (.getfield 36, 3) := by decide +kernel
theorem dX8_pay_28 : decode cX8_pay 28 = .ok (.invokevirtual 167, 3) := by decide +kernel
theorem dX8_pay_31 : decode cX8_pay 31 = .ok (.aload_n 0, 1) := by decide +kernel
theorem dX8_pay_32 : decode cX8_pay 32 = .ok (.getfield 36, 3) := by decide +kernel
theorem dX8_pay_35 : decode cX8_pay 35 = .ok (.getfield 133, 3) := by decide +kernel
theorem dX8_pay_38 : decode cX8_pay 38 = .ok (.iload_n 1, 1) := by decide +kernel
theorem dX8_pay_39 : decode cX8_pay 39 = .ok (.iconst 0, 1) := by decide +kernel
theorem dX8_pay_40 : decode cX8_pay 40 = .ok (.aload_n 0, 1) := by decide +kernel
theorem dX8_pay_41 : decode cX8_pay 41 = .ok (.getfield 36, 3) := by decide +kernel
theorem dX8_pay_44 : decode cX8_pay 44 = .ok (.getfield 133, 3) := by decide +kernel
theorem dX8_pay_47 : decode cX8_pay 47 = .ok (.iload_n 1, 1) := by decide +kernel
theorem dX8_pay_48 : decode cX8_pay 48 = .ok (.iaload, 1) := by decide +kernel
theorem dX8_pay_49 : decode cX8_pay 49 = .ok (.iload_n 2, 1) := by decide +kernel
theorem dX8_pay_50 : decode cX8_pay 50 = .ok (.isub, 1) := by decide +kernel
theorem dX8_pay_51 : decode cX8_pay 51 = .ok (.invokestatic 175, 3) := by decide +kernel
theorem dX8_pay_54 : decode cX8_pay 54 = .ok (.iastore, 1) := by decide +kernel
theorem dX8_pay_55 : decode cX8_pay 55 = .ok (.aload_n 0, 1) := by decide +kernel
theorem dX8_pay_56 : decode cX8_pay 56 = .ok (.getfield 36, 3) := by decide +kernel
theorem dX8_pay_59 : decode cX8_pay 59 = .ok (.getfield 133, 3) := by decide +kernel
theorem dX8_pay_62 : decode cX8_pay 62 = .ok (.iload_n 1, 1) := by decide +kernel
theorem dX8_pay_63 : decode cX8_pay 63 = .ok (.iaload, 1) := by decide +kernel
theorem dX8_pay_64 : decode cX8_pay 64 = .ok (.ireturn, 1) := by decide +kernel
theorem dX8_change_0 : decode cX8_change 0 = .ok (.aload_n 0, 1) := by decide +kernel
theorem dX8_change_1 : decode cX8_change 1 = .ok (.iload_n 1, 1) := by decide +kernel
theorem dX8_change_2 : decode cX8_change 2 = .ok (.invokevirtual 114, 3) := by decide +kernel
theorem dX8_change_5 : decode cX8_change 5 = .ok (.ifCond .eq 16, 3) := by decide +kernel
theorem dX8_change_8 : decode cX8_change 8 = .ok (.aload_n 0, 1) := by decide +kernel
theorem dX8_change_9 : decode cX8_change 9 = .ok (.iload_n 2, 1) := by decide +kernel
theorem dX8_change_10 : decode cX8_change 10 = .ok (.invokevirtual 114, 3) := by decide +kernel
theorem dX8_change_13 : decode cX8_change 13 = .ok (.ifCond .eq 8, 3) := by decide +kernel
theorem dX8_change_16 : decode cX8_change 16 = .ok (.iload_n 1, 1) := by decide +kernel
theorem dX8_change_17 : decode cX8_change 17 = .ok (.iload_n 2, 1) := by decide +kernel
theorem dX8_change_18 : decode cX8_change 18 = .ok (.if_icmp .ne 5, 3) := by decide +kernel
theorem dX8_change_21 : decode cX8_change 21 = .ok (.iconst (-1), 1) := by decide +kernel
theorem dX8_change_22 : decode cX8_change 22 = .ok (.ireturn, 1) := by decide +kernel
theorem dX8_change_23 : decode cX8_change 23 = .ok (.aload_n 0, 1) := by decide +kernel
theorem dX8_change_24 : decode cX8_change 24 = .ok (.getfield 48, 3) := by decide +kernel
theorem dX8_change_27 : decode cX8_change 27 = .ok (.aload_n 0, 1) := by decide +kernel
theorem dX8_change_28 : decode cX8_change 28 = .ok (.getfield 36, 3) := by decide +kernel
theorem dX8_change_31 : decode cX8_change 31 = .ok (.invokevirtual 167, 3) := by decide +kernel
theorem dX8_change_34 : decode cX8_change 34 = .ok (.aload_n 0, 1) := by decide +kernel
theorem dX8_change_35 : decode cX8_change 35 = .ok (.getfield 36, 3) := by decide +kernel
theorem dX8_change_38 : decode cX8_change 38 = .ok (.getfield 121, 3) := by decide +kernel
theorem dX8_change_41 : decode cX8_change 41 = .ok (.iload_n 1, 1) := by decide +kernel
theorem dX8_change_42 : decode cX8_change 42 = .ok (.iload_n 2, 1) := by decide +kernel
theorem dX8_change_43 : decode cX8_change 43 = .ok (.invokestatic 181, 3) := by decide +kernel
theorem dX8_change_46 : decode cX8_change 46 = .ok (.aload_n 0, 1) := by decide +kernel
theorem dX8_change_47 : decode cX8_change 47 = .ok (.getfield 36, 3) := by decide +kernel
theorem dX8_change_50 : decode cX8_change 50 = .ok (.getfield 124, 3) := by decide +kernel
theorem dX8_change_53 : decode cX8_change 53 = .ok (.iload_n 1, 1) := by decide +kernel
theorem dX8_change_54 : decode cX8_change 54 = .ok (.iload_n 2, 1) := by decide +kernel
theorem dX8_change_55 : decode cX8_change 55 = .ok (.invokestatic 181, 3) := by decide +kernel
theorem dX8_change_58 : decode cX8_change 58 = .ok (.aload_n 0, 1) := by decide +kernel
theorem dX8_change_59 : decode cX8_change 59 = .ok (.getfield 36, 3) := by decide +kernel
theorem dX8_change_62 : decode cX8_change 62 = .ok (.getfield 121, 3) := by decide +kernel
theorem dX8_change_65 : decode cX8_change 65 = .ok (.iload_n 1, 1) := by decide +kernel
theorem dX8_change_66 : decode cX8_change 66 = .ok (.iaload, 1) := by decide +kernel
theorem dX8_change_67 : decode cX8_change 67 = .ok (.ireturn, 1) := by decide +kernel
theorem dX8_smoke_0 : decode cX8_smoke 0 = .ok (.iload_n 1, 1) := by decide +kernel
theorem dX8_smoke_1 : decode cX8_smoke 1 = .ok (.invokestatic 148, 3) := by decide +kernel
theorem dX8_smoke_4 : decode cX8_smoke 4 = .ok (.ifCond .ne 5, 3) := by decide +kernel
theorem dX8_smoke_7 : decode cX8_smoke 7 = .ok (.iconst (-1), 1) := by decide +kernel
theorem dX8_smoke_8 : decode cX8_smoke 8 = .ok (.ireturn, 1) := by decide +kernel
theorem dX8_smoke_9 : decode cX8_smoke 9 = .ok (.aload_n 0, 1) := by decide +kernel
theorem dX8_smoke_10 : decode cX8_smoke 10 = .ok (.getfield 48, 3) := by decide +kernel
theorem dX8_smoke_13 : decode cX8_smoke 13 = .ok (.aload_n 0, 1) := by decide +kernel
theorem dX8_smoke_14 : decode cX8_smoke 14 = .ok (.getfield 36, 3) := by decide +kernel
theorem dX8_smoke_17 : decode cX8_smoke 17 = .ok (.invokevirtual 167, 3) := by decide +kernel
theorem dX8_smoke_20 : decode cX8_smoke 20 = .ok (.aload_n 0, 1) := by decide +kernel
theorem dX8_smoke_21 : decode cX8_smoke 21 = .ok (.getfield 36, 3) := by decide +kernel
theorem dX8_smoke_24 : decode cX8_smoke 24 = .ok (.dup, 1) := by decide +kernel
theorem dX8_smoke_25 : decode cX8_smoke 25 = .ok (.getfield 151, 3) := by decide +kernel
theorem dX8_smoke_28 : decode cX8_smoke 28 = .ok (.iconst 1, 1) := by decide +kernel
theorem dX8_smoke_29 : decode cX8_smoke 29 = .ok (.iload_n 1, 1) := by decide +kernel
theorem dX8_smoke_30 : decode cX8_smoke 30 = .ok (.ishl, 1) := by decide +kernel
theorem dX8_smoke_31 : decode cX8_smoke 31 = .ok (.ixor, 1) := by decide +kernel
theorem dX8_smoke_32 : decode cX8_smoke 32 = .ok (.putfield 151, 3) := by decide +kernel
theorem dX8_smoke_35 : decode cX8_smoke 35 = .ok (.aload_n 0, 1) := by decide +kernel
theorem dX8_smoke_36 : decode cX8_smoke 36 = .ok (.getfield 36, 3) := by decide +kernel
theorem dX8_smoke_39 : decode cX8_smoke 39 = .ok (.getfield 151, 3) := by decide +kernel
theorem dX8_smoke_42 : decode cX8_smoke 42 = .ok (.iload_n 1, 1) := by decide +kernel
theorem dX8_smoke_43 : decode cX8_smoke 43 = .ok (.ishr, 1) := by decide +kernel
theorem dX8_smoke_44 : decode cX8_smoke 44 = .ok (.iconst 1, 1) := by decide +kernel
theorem dX8_smoke_45 : decode cX8_smoke 45 = .ok (.iand, 1) := by decide +kernel
theorem dX8_smoke_46 : decode cX8_smoke 46 = .ok (.ireturn, 1) := by decide +kernel
theorem dX8_undo_0 : decode cX8_undo 0 = .ok (.aload_n 0, 1) := by decide +kernel
theorem dX8_undo_1 : decode cX8_undo 1 = .ok (.getfield 48, 3) := by decide +kernel
theorem dX8_undo_4 : decode cX8_undo 4 = .ok (.aload_n 0, 1) := by decide +kernel
theorem dX8_undo_5 : decode cX8_undo 5 = .ok (.getfield 36, 3) := by decide +kernel
theorem dX8_undo_8 : decode cX8_undo 8 = .ok (.invokevirtual 185, 3) := by decide +kernel
theorem dX8_undo_11 : decode cX8_undo 11 = .ok (.ifCond .eq 13, 3) := by decide +kernel
theorem dX8_undo_14 : decode cX8_undo 14 = .ok (.aload_n 0, 1) := by decide +kernel
theorem dX8_undo_15 : decode cX8_undo 15 = .ok (.getfield 48, 3) := by decide +kernel
theorem dX8_undo_18 : decode cX8_undo 18 = .ok (.getfield 113, 3) := by decide +kernel
theorem dX8_undo_21 : decode cX8_undo 21 = .ok (.goto 5, 3) := by decide +kernel
theorem dX8_undo_24 : decode cX8_undo 24 = .ok (.bipush (-2), 2) := by decide +kernel
theorem dX8_undo_26 : decode cX8_undo 26 = .ok (.ireturn, 1) := by decide +kernel
theorem dX8_seen_0 : decode cX8_seen 0 = .ok (.iload_n 1, 1) := by decide +kernel
theorem dX8_seen_1 : decode cX8_seen 1 = .ok (.invokestatic 148, 3) := by decide +kernel
theorem dX8_seen_4 : decode cX8_seen 4 = .ok (.ifCond .eq 10, 3) := by decide +kernel
theorem dX8_seen_7 : decode cX8_seen 7 = .ok (.iload_n 2, 1) := by decide +kernel
theorem dX8_seen_8 : decode cX8_seen 8 = .ok (.invokestatic 189, 3) := by decide +kernel
theorem dX8_seen_11 : decode cX8_seen 11 = .ok (.ifCond .ne 5, 3) := by decide +kernel
theorem dX8_seen_14 : decode cX8_seen 14 = .ok (.iconst (-1), 1) := by decide +kernel
theorem dX8_seen_15 : decode cX8_seen 15 = .ok (.ireturn, 1) := by decide +kernel
theorem dX8_seen_16 : decode cX8_seen 16 = .ok (.aload_n 0, 1) := by decide +kernel
theorem dX8_seen_17 : decode cX8_seen 17 = .ok (.invokevirtual 154, 3) := by decide +kernel
theorem dX8_seen_20 : decode cX8_seen 20 = .ok (.aload_n 0, 1) := by decide +kernel
theorem dX8_seen_21 : decode cX8_seen 21 = .ok (.getfield 65, 3) := by decide +kernel
theorem dX8_seen_24 : decode cX8_seen 24 = .ok (.iload_n 1, 1) := by decide +kernel
theorem dX8_seen_25 : decode cX8_seen 25 = .ok (.invokevirtual 157, 3) := by decide +kernel
theorem dX8_seen_28 : decode cX8_seen 28 = .ok (.iload_n 2, 1) := by decide +kernel
theorem dX8_seen_29 : decode cX8_seen 29 = .ok (.invokestatic 192, 3) := by decide +kernel
theorem dX8_seen_32 : decode cX8_seen 32 = .ok (.if_icmp .ge 7, 3) := by decide +kernel
theorem dX8_seen_35 : decode cX8_seen 35 = .ok (.iconst 1, 1) := by decide +kernel
theorem dX8_seen_36 : decode cX8_seen 36 = .ok (.goto 4, 3) := by decide +kernel
theorem dX8_seen_39 : decode cX8_seen 39 = .ok (.iconst 0, 1) := by decide +kernel
theorem dX8_seen_40 : decode cX8_seen 40 = .ok (.ireturn, 1) := by decide +kernel
theorem dX8_sign_0 : decode cX8_sign 0 = .ok (.aload_n 0, 1) := by decide +kernel
theorem dX8_sign_1 : decode cX8_sign 1 = .ok (.iload_n 1, 1) := by decide +kernel
theorem dX8_sign_2 : decode cX8_sign 2 = .ok (.invokevirtual 139, 3) := by decide +kernel
theorem dX8_sign_5 : decode cX8_sign 5 = .ok (.ifCond .eq 10, 3) := by decide +kernel
theorem dX8_sign_8 : decode cX8_sign 8 = .ok (.iload_n 2, 1) := by decide +kernel
theorem dX8_sign_9 : decode cX8_sign 9 = .ok (.invokestatic 189, 3) := by decide +kernel
theorem dX8_sign_12 : decode cX8_sign 12 = .ok (.ifCond .ne 5, 3) := by decide +kernel
theorem dX8_sign_15 : decode cX8_sign 15 = .ok (.iconst (-1), 1) := by decide +kernel
theorem dX8_sign_16 : decode cX8_sign 16 = .ok (.ireturn, 1) := by decide +kernel
theorem dX8_sign_17 : decode cX8_sign 17 = .ok (.aload_n 0, 1) := by decide +kernel
theorem dX8_sign_18 : decode cX8_sign 18 = .ok (.invokevirtual 154, 3) := by decide +kernel
theorem dX8_sign_21 : decode cX8_sign 21 = .ok (.aload_n 0, 1) := by decide +kernel
theorem dX8_sign_22 : decode cX8_sign 22 = .ok (.getfield 65, 3) := by decide +kernel
theorem dX8_sign_25 : decode cX8_sign 25 = .ok (.aload_n 0, 1) := by decide +kernel
theorem dX8_sign_26 : decode cX8_sign 26 = .ok (.getfield 26, 3) := by decide +kernel
theorem dX8_sign_29 : decode cX8_sign 29 = .ok (.getfield 195, 3) := by decide +kernel
theorem dX8_sign_32 : decode cX8_sign 32 = .ok (.iload_n 1, 1) := by decide +kernel
theorem dX8_sign_33 : decode cX8_sign 33 = .ok (.iaload, 1) := by decide +kernel
theorem dX8_sign_34 : decode cX8_sign 34 = .ok (.iload_n 2, 1) := by decide +kernel
theorem dX8_sign_35 : decode cX8_sign 35 = .ok (.invokevirtual 198, 3) := by decide +kernel
theorem dX8_sign_38 : decode cX8_sign 38 = .ok (.ireturn, 1) := by decide +kernel
theorem dX8_fleet_0 : decode cX8_fleet 0 = .ok (.iload_n 1, 1) := by decide +kernel
theorem dX8_fleet_1 : decode cX8_fleet 1 = .ok (.iconst (-1), 1) := by decide +kernel
theorem dX8_fleet_2 : decode cX8_fleet 2 = .ok (.if_icmp .eq 12, 3) := by decide +kernel
theorem dX8_fleet_5 : decode cX8_fleet 5 = .ok (.iload_n 1, 1) := by decide +kernel
theorem dX8_fleet_6 : decode cX8_fleet 6 = .ok (.invokestatic 189, 3) := by decide +kernel
theorem dX8_fleet_9 : decode cX8_fleet 9 = .ok (.ifCond .ne 5, 3) := by decide +kernel
theorem dX8_fleet_12 : decode cX8_fleet 12 = .ok (.iconst (-1), 1) := by decide +kernel
theorem dX8_fleet_13 : decode cX8_fleet 13 = .ok (.ireturn, 1) := by decide +kernel
theorem dX8_fleet_14 : decode cX8_fleet 14 = .ok (.aload_n 0, 1) := by decide +kernel
theorem dX8_fleet_15 : decode cX8_fleet 15 = .ok (.invokevirtual 154, 3) := by decide +kernel
theorem dX8_fleet_18 : decode cX8_fleet 18 = .ok (.iload_n 1, 1) := by decide +kernel
theorem dX8_fleet_19 : decode cX8_fleet 19 = .ok (.iconst (-1), 1) := by decide +kernel
theorem dX8_fleet_20 : decode cX8_fleet 20 = .ok (.if_icmp .ne 17, 3) := by decide +kernel
theorem dX8_fleet_23 : decode cX8_fleet 23 = .ok (.aload_n 0, 1) := by decide +kernel
theorem dX8_fleet_24 : decode cX8_fleet 24 = .ok (.getfield 65, 3) := by decide +kernel
theorem dX8_fleet_27 : decode cX8_fleet 27 = .ok (.aload_n 0, 1) := by decide +kernel
theorem dX8_fleet_28 : decode cX8_fleet 28 = .ok (.getfield 26, 3) := by decide +kernel
theorem dX8_fleet_31 : decode cX8_fleet 31 = .ok (.invokevirtual 201, 3) := by decide +kernel
theorem dX8_fleet_34 : decode cX8_fleet 34 = .ok (.goto 15, 3) := by decide +kernel
theorem dX8_fleet_37 : decode cX8_fleet 37 = .ok (.aload_n 0, 1) := by decide +kernel
theorem dX8_fleet_38 : decode cX8_fleet 38 = .ok (.getfield 65, 3) := by decide +kernel
theorem dX8_fleet_41 : decode cX8_fleet 41 = .ok (.aload_n 0, 1) := by decide +kernel
theorem dX8_fleet_42 : decode cX8_fleet 42 = .ok (.getfield 26, 3) := by decide +kernel
theorem dX8_fleet_45 : decode cX8_fleet 45 = .ok (.iload_n 1, 1) := by decide +kernel
theorem dX8_fleet_46 : decode cX8_fleet 46 = .ok (.invokevirtual 205, 3) := by decide +kernel
theorem dX8_fleet_49 : decode cX8_fleet 49 = .ok (.ireturn, 1) := by decide +kernel
theorem dX8_order_0 : decode cX8_order 0 = .ok (.iload_n 1, 1) := by decide +kernel
theorem dX8_order_1 : decode cX8_order 1 = .ok (.iconst (-1), 1) := by decide +kernel
theorem dX8_order_2 : decode cX8_order 2 = .ok (.if_icmp .eq 13, 3) := by decide +kernel
theorem dX8_order_5 : decode cX8_order 5 = .ok (.aload_n 0, 1) := by decide +kernel
theorem dX8_order_6 : decode cX8_order 6 = .ok (.iload_n 1, 1) := by decide +kernel
theorem dX8_order_7 : decode cX8_order 7 = .ok (.invokevirtual 114, 3) := by decide +kernel
theorem dX8_order_10 : decode cX8_order 10 = .ok (.ifCond .ne 5, 3) := by decide +kernel
theorem dX8_order_13 : decode cX8_order 13 = .ok (.iconst (-1), 1) := by decide +kernel
theorem dX8_order_14 : decode cX8_order 14 = .ok (.ireturn, 1) := by decide +kernel
theorem dX8_order_15 : decode cX8_order 15 = .ok (.aload_n 0, 1) := by decide +kernel
theorem dX8_order_16 : decode cX8_order 16 = .ok (.getfield 72, 3) := by decide +kernel
theorem dX8_order_19 : decode cX8_order 19 = .ok (.aload_n 0, 1) := by decide +kernel
theorem dX8_order_20 : decode cX8_order 20 = .ok (.getfield 26, 3) := by decide +kernel
theorem dX8_order_23 : decode cX8_order 23 = .ok (.aload_n 0, 1) := by decide +kernel
theorem dX8_order_24 : decode cX8_order 24 = .ok (.getfield 36, 3) := by decide +kernel
theorem dX8_order_27 : decode cX8_order 27 = .ok (.aload_n 0, 1) := by decide +kernel
theorem dX8_order_28 : decode cX8_order 28 = .ok (.getfield 65, 3) := by decide +kernel
theorem dX8_order_31 : decode cX8_order 31 = .ok (.invokevirtual 209, 3) := by decide +kernel
theorem dX8_order_34 : decode cX8_order 34 = .ok (.iload_n 1, 1) := by decide +kernel
theorem dX8_order_35 : decode cX8_order 35 = .ok (.iconst (-1), 1) := by decide +kernel
theorem dX8_order_36 : decode cX8_order 36 = .ok (.if_icmp .ne 13, 3) := by decide +kernel
theorem dX8_order_39 : decode cX8_order 39 = .ok (.aload_n 0, 1) := by decide +kernel
theorem dX8_order_40 : decode cX8_order 40 = .ok (.getfield 72, 3) := by decide +kernel
theorem dX8_order_43 : decode cX8_order 43 = .ok (.getfield 213, 3) := by decide +kernel
theorem dX8_order_46 : decode cX8_order 46 = .ok (.goto 12, 3) := by decide +kernel
theorem dX8_order_49 : decode cX8_order 49 = .ok (.aload_n 0, 1) := by decide +kernel
theorem dX8_order_50 : decode cX8_order 50 = .ok (.getfield 72, 3) := by decide +kernel
theorem dX8_order_53 : decode cX8_order 53 = .ok (.getfield 216, 3) := by decide +kernel
theorem dX8_order_56 : decode cX8_order 56 = .ok (.iload_n 1, 1) := by decide +kernel
theorem dX8_order_57 : decode cX8_order 57 = .ok (.iaload, 1) := by decide +kernel
theorem dX8_order_58 : decode cX8_order 58 = .ok (.ireturn, 1) := by decide +kernel
theorem dX8_needed_0 : decode cX8_needed 0 = .ok (.iload_n 1, 1) := by decide +kernel
theorem dX8_needed_1 : decode cX8_needed 1 = .ok (.invokestatic 189, 3) := by decide +kernel
theorem dX8_needed_4 : decode cX8_needed 4 = .ok (.ifCond .ne 5, 3) := by decide +kernel
theorem dX8_needed_7 : decode cX8_needed 7 = .ok (.iconst (-1), 1) := by decide +kernel
theorem dX8_needed_8 : decode cX8_needed 8 = .ok (.ireturn, 1) := by decide +kernel
theorem dX8_needed_9 : decode cX8_needed 9 = .ok (.aload_n 0, 1) := by decide +kernel
theorem dX8_needed_10 : decode cX8_needed 10 = .ok (.invokevirtual 154, 3) := by decide +kernel
theorem dX8_needed_13 : decode cX8_needed 13 = .ok (.aload_n 0, 1) := by decide +kernel
theorem dX8_needed_14 : decode cX8_needed 14 = .ok (.getfield 36, 3) := by decide +kernel
theorem dX8_needed_17 : decode cX8_needed 17 = .ok (.aload_n 0, 1) := by decide +kernel
theorem dX8_needed_18 : decode cX8_needed 18 = .ok (.getfield 26, 3) := by decide +kernel
theorem dX8_needed_21 : decode cX8_needed 21 = .ok (.invokevirtual 219, 3) := by decide +kernel
theorem dX8_needed_24 : decode cX8_needed 24 = .ok (.istore_n 2, 1) := by decide +kernel
theorem dX8_needed_25 : decode cX8_needed 25 = .ok (.aload_n 0, 1) := by decide +kernel
theorem dX8_needed_26 : decode cX8_needed 26 = .ok (.getfield 65, 3) := by decide +kernel
theorem dX8_needed_29 : decode cX8_needed 29 = .ok (.aload_n 0, 1) := by decide +kernel
theorem dX8_needed_30 : decode cX8_needed 30 = .ok (.getfield 26, 3) := by decide +kernel
theorem dX8_needed_33 : decode cX8_needed 33 = .ok (.iload_n 1, 1) := by decide +kernel
theorem dX8_needed_34 : decode cX8_needed 34 = .ok (.invokevirtual 205, 3) := by decide +kernel
theorem dX8_needed_37 : decode cX8_needed 37 = .ok (.invokestatic 222, 3) := by decide +kernel
theorem dX8_needed_40 : decode cX8_needed 40 = .ok (.istore_n 3, 1) := by decide +kernel
theorem dX8_needed_41 : decode cX8_needed 41 = .ok (.iconst 0, 1) := by decide +kernel
theorem dX8_needed_42 : decode cX8_needed 42 = .ok (.istore 4, 2) := by decide +kernel
theorem dX8_needed_44 : decode cX8_needed 44 = .ok (.iconst 0, 1) := by decide +kernel
theorem dX8_needed_45 : decode cX8_needed 45 = .ok (.istore 5, 2) := by decide +kernel
theorem dX8_needed_47 : decode cX8_needed 47 = .ok (.iload 5, 2) := by decide +kernel
theorem dX8_needed_49 : decode cX8_needed 49 = .ok (.aload_n 0, 1) := by decide +kernel
theorem dX8_needed_50 : decode cX8_needed 50 = .ok (.getfield 26, 3) := by decide +kernel
theorem dX8_needed_53 : decode cX8_needed 53 = .ok (.getfield 107, 3) := by decide +kernel
theorem dX8_needed_56 : decode cX8_needed 56 = .ok (.if_icmp .ge 35, 3) := by decide +kernel
theorem dX8_needed_59 : decode cX8_needed 59 = .ok (.aload_n 0, 1) := by decide +kernel
theorem dX8_needed_60 : decode cX8_needed 60 = .ok (.iload_n 2, 1) := by decide +kernel
theorem dX8_needed_61 : decode cX8_needed 61 = .ok (.iconst 1, 1) := by decide +kernel
theorem dX8_needed_62 : decode cX8_needed 62 = .ok (.iload 5, 2) := by decide +kernel
theorem dX8_needed_64 : decode cX8_needed 64 = .ok (.ishl, 1) := by decide +kernel
theorem dX8_needed_65 : decode cX8_needed 65 = .ok (.iconst (-1), 1) := by decide +kernel
theorem dX8_needed_66 : decode cX8_needed 66 = .ok (.ixor, 1) := by decide +kernel
theorem dX8_needed_67 : decode cX8_needed 67 = .ok (.iand, 1) := by decide +kernel
theorem dX8_needed_68 : decode cX8_needed 68 = .ok (.iload_n 1, 1) := by decide +kernel
theorem dX8_needed_69 : decode cX8_needed 69 = .ok (.invokevirtual 227, 3) := by decide +kernel
theorem dX8_needed_72 : decode cX8_needed 72 = .ok (.iload_n 3, 1) := by decide +kernel
theorem dX8_needed_73 : decode cX8_needed 73 = .ok (.if_icmp .ge 12, 3) := by decide +kernel
theorem dX8_needed_76 : decode cX8_needed 76 = .ok (.iload 4, 2) := by decide +kernel
theorem dX8_needed_78 : decode cX8_needed 78 = .ok (.iconst 1, 1) := by decide +kernel
theorem dX8_needed_79 : decode cX8_needed 79 = .ok (.iload 5, 2) := by decide +kernel
theorem dX8_needed_81 : decode cX8_needed 81 = .ok (.ishl, 1) := by decide +kernel
theorem dX8_needed_82 : decode cX8_needed 82 = .ok (.ior, 1) := by decide +kernel
theorem dX8_needed_83 : decode cX8_needed 83 = .ok (.istore 4, 2) := by decide +kernel
theorem dX8_needed_85 : decode cX8_needed 85 = .ok (.iinc 5 1, 3) := by decide +kernel
theorem dX8_needed_88 : decode cX8_needed 88 = .ok (.goto (-41), 3) := by decide +kernel
theorem dX8_needed_91 : decode cX8_needed 91 = .ok (.iload 4, 2) := by decide +kernel
theorem dX8_needed_93 : decode cX8_needed 93 = .ok (.ireturn, 1) := by decide +kernel
theorem dX8_least_0 : decode cX8_least 0 = .ok (.iload_n 1, 1) := by decide +kernel
theorem dX8_least_1 : decode cX8_least 1 = .ok (.invokestatic 189, 3) := by decide +kernel
theorem dX8_least_4 : decode cX8_least 4 = .ok (.ifCond .ne 5, 3) := by decide +kernel
theorem dX8_least_7 : decode cX8_least 7 = .ok (.iconst (-1), 1) := by decide +kernel
theorem dX8_least_8 : decode cX8_least 8 = .ok (.ireturn, 1) := by decide +kernel
theorem dX8_least_9 : decode cX8_least 9 = .ok (.aload_n 0, 1) := by decide +kernel
theorem dX8_least_10 : decode cX8_least 10 = .ok (.invokevirtual 154, 3) := by decide +kernel
theorem dX8_least_13 : decode cX8_least 13 = .ok (.aload_n 0, 1) := by decide +kernel
theorem dX8_least_14 : decode cX8_least 14 = .ok (.getfield 36, 3) := by decide +kernel
theorem dX8_least_17 : decode cX8_least 17 = .ok (.aload_n 0, 1) := by decide +kernel
theorem dX8_least_18 : decode cX8_least 18 = .ok (.getfield 26, 3) := by decide +kernel
theorem dX8_least_21 : decode cX8_least 21 = .ok (.invokevirtual 219, 3) := by decide +kernel
theorem dX8_least_24 : decode cX8_least 24 = .ok (.istore_n 2, 1) := by decide +kernel
theorem dX8_least_25 : decode cX8_least 25 = .ok (.aload_n 0, 1) := by decide +kernel
theorem dX8_least_26 : decode cX8_least 26 = .ok (.getfield 65, 3) := by decide +kernel
theorem dX8_least_29 : decode cX8_least 29 = .ok (.aload_n 0, 1) := by decide +kernel
theorem dX8_least_30 : decode cX8_least 30 = .ok (.getfield 26, 3) := by decide +kernel
theorem dX8_least_33 : decode cX8_least 33 = .ok (.iload_n 1, 1) := by decide +kernel
theorem dX8_least_34 : decode cX8_least 34 = .ok (.invokevirtual 205, 3) := by decide +kernel
theorem dX8_least_37 : decode cX8_least 37 = .ok (.invokestatic 222, 3) := by decide +kernel
theorem dX8_least_40 : decode cX8_least 40 = .ok (.istore_n 3, 1) := by decide +kernel
theorem dX8_least_41 : decode cX8_least 41 = .ok (.aload_n 0, 1) := by decide +kernel
theorem dX8_least_42 : decode cX8_least 42 = .ok (.getfield 26, 3) := by decide +kernel
theorem dX8_least_45 : decode cX8_least 45 = .ok (.invokevirtual 230, 3) := by decide +kernel
theorem dX8_least_48 : decode cX8_least 48 = .ok (.istore 4, 2) := by decide +kernel
theorem dX8_least_50 : decode cX8_least 50 = .ok (.iconst 0, 1) := by decide +kernel
theorem dX8_least_51 : decode cX8_least 51 = .ok (.istore 5, 2) := by decide +kernel
theorem dX8_least_53 : decode cX8_least 53 = .ok (.iload 5, 2) := by decide +kernel
theorem dX8_least_55 : decode cX8_least 55 = .ok (.aload_n 0, 1) := by decide +kernel
theorem dX8_least_56 : decode cX8_least 56 = .ok (.getfield 26, 3) := by decide +kernel
theorem dX8_least_59 : decode cX8_least 59 = .ok (.invokevirtual 230, 3) := by decide +kernel
theorem dX8_least_62 : decode cX8_least 62 = .ok (.if_icmp .gt 51, 3) := by decide +kernel
theorem dX8_least_65 : decode cX8_least 65 = .ok (.iload 5, 2) := by decide +kernel
theorem dX8_least_67 : decode cX8_least 67 = .ok (.invokestatic 222, 3) := by decide +kernel
theorem dX8_least_70 : decode cX8_least 70 = .ok (.iload 4, 2) := by decide +kernel
theorem dX8_least_72 : decode cX8_least 72 = .ok (.invokestatic 222, 3) := by decide +kernel
theorem dX8_least_75 : decode cX8_least 75 = .ok (.if_icmp .ge 7, 3) := by decide +kernel
theorem dX8_least_78 : decode cX8_least 78 = .ok (.iconst 1, 1) := by decide +kernel
theorem dX8_least_79 : decode cX8_least 79 = .ok (.goto 4, 3) := by decide +kernel
theorem dX8_least_82 : decode cX8_least 82 = .ok (.iconst 0, 1) := by decide +kernel
theorem dX8_least_83 : decode cX8_least 83 = .ok (.istore 6, 2) := by decide +kernel
theorem dX8_least_85 : decode cX8_least 85 = .ok (.iload 6, 2) := by decide +kernel
theorem dX8_least_87 : decode cX8_least 87 = .ok (.ifCond .eq 20, 3) := by decide +kernel
theorem dX8_least_90 : decode cX8_least 90 = .ok (.aload_n 0, 1) := by decide +kernel
theorem dX8_least_91 : decode cX8_least 91 = .ok (.iload_n 2, 1) := by decide +kernel
theorem dX8_least_92 : decode cX8_least 92 = .ok (.iload 5, 2) := by decide +kernel
theorem dX8_least_94 : decode cX8_least 94 = .ok (.iand, 1) := by decide +kernel
theorem dX8_least_95 : decode cX8_least 95 = .ok (.iload_n 1, 1) := by decide +kernel
theorem dX8_least_96 : decode cX8_least 96 = .ok (.invokevirtual 227, 3) := by decide +kernel
theorem dX8_least_99 : decode cX8_least 99 = .ok (.iload_n 3, 1) := by decide +kernel
theorem dX8_least_100 : decode cX8_least 100 = .ok (.if_icmp .lt 7, 3) := by decide +kernel
theorem dX8_least_103 : decode cX8_least 103 = .ok (.iload 5, 2) := by decide +kernel
theorem dX8_least_105 : decode cX8_least 105 = .ok (.istore 4, 2) := by decide +kernel
theorem dX8_least_107 : decode cX8_least 107 = .ok (.iinc 5 1, 3) := by decide +kernel
theorem dX8_least_110 : decode cX8_least 110 = .ok (.goto (-57), 3) := by decide +kernel
theorem dX8_least_113 : decode cX8_least 113 = .ok (.iload 4, 2) := by decide +kernel
theorem dX8_least_115 : decode cX8_least 115 = .ok (.ireturn, 1) := by decide +kernel
theorem dX8_rock_0 : decode cX8_rock 0 = .ok (.iload_n 1, 1) := by decide +kernel
theorem dX8_rock_1 : decode cX8_rock 1 = .ok (.iconst 0, 1) := by decide +kernel
theorem dX8_rock_2 : decode cX8_rock 2 = .ok (.iconst 1, 1) := by decide +kernel
theorem dX8_rock_3 : decode cX8_rock 3 = .ok (.invokestatic 103, 3) := by decide +kernel
theorem dX8_rock_6 : decode cX8_rock 6 = .ok (.ifCond .ne 5, 3) := by decide +kernel
theorem dX8_rock_9 : decode cX8_rock 9 = .ok (.iconst (-1), 1) := by decide +kernel
theorem dX8_rock_10 : decode cX8_rock 10 = .ok (.ireturn, 1) := by decide +kernel
theorem dX8_rock_11 : decode cX8_rock 11 = .ok (.aload_n 0, 1) := by decide +kernel
theorem dX8_rock_12 : decode cX8_rock 12 = .ok (.invokevirtual 154, 3) := by decide +kernel
theorem dX8_rock_15 : decode cX8_rock 15 = .ok (.aload_n 0, 1) := by decide +kernel
theorem dX8_rock_16 : decode cX8_rock 16 = .ok (.getfield 65, 3) := by decide +kernel
theorem dX8_rock_19 : decode cX8_rock 19 = .ok (.getfield 233, 3) := by decide +kernel
theorem dX8_rock_22 : decode cX8_rock 22 = .ok (.aload_n 0, 1) := by decide +kernel
theorem dX8_rock_23 : decode cX8_rock 23 = .ok (.getfield 36, 3) := by decide +kernel
theorem dX8_rock_26 : decode cX8_rock 26 = .ok (.getfield 151, 3) := by decide +kernel
theorem dX8_rock_29 : decode cX8_rock 29 = .ok (.iconst (-1), 1) := by decide +kernel
theorem dX8_rock_30 : decode cX8_rock 30 = .ok (.ixor, 1) := by decide +kernel
theorem dX8_rock_31 : decode cX8_rock 31 = .ok (.iand, 1) := by decide +kernel
theorem dX8_rock_32 : decode cX8_rock 32 = .ok (.istore_n 2, 1) := by decide +kernel
theorem dX8_rock_33 : decode cX8_rock 33 = .ok (.aload_n 0, 1) := by decide +kernel
theorem dX8_rock_34 : decode cX8_rock 34 = .ok (.getfield 36, 3) := by decide +kernel
theorem dX8_rock_37 : decode cX8_rock 37 = .ok (.aload_n 0, 1) := by decide +kernel
theorem dX8_rock_38 : decode cX8_rock 38 = .ok (.getfield 26, 3) := by decide +kernel
theorem dX8_rock_41 : decode cX8_rock 41 = .ok (.invokevirtual 219, 3) := by decide +kernel
theorem dX8_rock_44 : decode cX8_rock 44 = .ok (.istore_n 3, 1) := by decide +kernel
theorem dX8_rock_45 : decode cX8_rock 45 = .ok (.bipush (-4), 2) := by decide +kernel
theorem dX8_rock_47 : decode cX8_rock 47 = .ok (.istore 4, 2) := by decide +kernel
theorem dX8_rock_49 : decode cX8_rock 49 = .ok (.bipush (-4), 2) := by decide +kernel
theorem dX8_rock_51 : decode cX8_rock 51 = .ok (.istore 5, 2) := by decide +kernel
theorem dX8_rock_53 : decode cX8_rock 53 = .ok (.iconst 0, 1) := by decide +kernel
theorem dX8_rock_54 : decode cX8_rock 54 = .ok (.istore 6, 2) := by decide +kernel
theorem dX8_rock_56 : decode cX8_rock 56 = .ok (.iload 6, 2) := by decide +kernel
theorem dX8_rock_58 : decode cX8_rock 58 = .ok (.bipush 24, 2) := by decide +kernel
theorem dX8_rock_60 : decode cX8_rock 60 = .ok (.if_icmp .ge 78, 3) := by decide +kernel
theorem dX8_rock_63 : decode cX8_rock 63 = .ok (.iload_n 2, 1) := by decide +kernel
theorem dX8_rock_64 : decode cX8_rock 64 = .ok (.iload 6, 2) := by decide +kernel
theorem dX8_rock_66 : decode cX8_rock 66 = .ok (.ishr, 1) := by decide +kernel
theorem dX8_rock_67 : decode cX8_rock 67 = .ok (.iconst 1, 1) := by decide +kernel
theorem dX8_rock_68 : decode cX8_rock 68 = .ok (.iand, 1) := by decide +kernel
theorem dX8_rock_69 : decode cX8_rock 69 = .ok (.iconst 1, 1) := by decide +kernel
theorem dX8_rock_70 : decode cX8_rock 70 = .ok (.if_icmp .ne 62, 3) := by decide +kernel
theorem dX8_rock_73 : decode cX8_rock 73 = .ok (.aload_n 0, 1) := by decide +kernel
theorem dX8_rock_74 : decode cX8_rock 74 = .ok (.getfield 65, 3) := by decide +kernel
theorem dX8_rock_77 : decode cX8_rock 77 = .ok (.aload_n 0, 1) := by decide +kernel
theorem dX8_rock_78 : decode cX8_rock 78 = .ok (.getfield 26, 3) := by decide +kernel
theorem dX8_rock_81 : decode cX8_rock 81 = .ok (.iload_n 3, 1) := by decide +kernel
theorem dX8_rock_82 : decode cX8_rock 82 = .ok (.aload_n 0, 1) := by decide +kernel
theorem dX8_rock_83 : decode cX8_rock 83 = .ok (.getfield 36, 3) := by decide +kernel
theorem dX8_rock_86 : decode cX8_rock 86 = .ok (.getfield 151, 3) := by decide +kernel
theorem dX8_rock_89 : decode cX8_rock 89 = .ok (.iconst 1, 1) := by decide +kernel
theorem dX8_rock_90 : decode cX8_rock 90 = .ok (.iload 6, 2) := by decide +kernel
theorem dX8_rock_92 : decode cX8_rock 92 = .ok (.ishl, 1) := by decide +kernel
theorem dX8_rock_93 : decode cX8_rock 93 = .ok (.ior, 1) := by decide +kernel
theorem dX8_rock_94 : decode cX8_rock 94 = .ok (.invokevirtual 236, 3) := by decide +kernel
theorem dX8_rock_97 : decode cX8_rock 97 = .ok (.aload_n 0, 1) := by decide +kernel
theorem dX8_rock_98 : decode cX8_rock 98 = .ok (.getfield 65, 3) := by decide +kernel
theorem dX8_rock_101 : decode cX8_rock 101 = .ok (.aload_n 0, 1) := by decide +kernel
theorem dX8_rock_102 : decode cX8_rock 102 = .ok (.getfield 26, 3) := by decide +kernel
theorem dX8_rock_105 : decode cX8_rock 105 = .ok (.invokevirtual 240, 3) := by decide +kernel
theorem dX8_rock_108 : decode cX8_rock 108 = .ok (.istore 7, 2) := by decide +kernel
theorem dX8_rock_110 : decode cX8_rock 110 = .ok (.iload 4, 2) := by decide +kernel
theorem dX8_rock_112 : decode cX8_rock 112 = .ok (.bipush (-4), 2) := by decide +kernel
theorem dX8_rock_114 : decode cX8_rock 114 = .ok (.if_icmp .eq 10, 3) := by decide +kernel
theorem dX8_rock_117 : decode cX8_rock 117 = .ok (.iload 7, 2) := by decide +kernel
theorem dX8_rock_119 : decode cX8_rock 119 = .ok (.iload 5, 2) := by decide +kernel
theorem dX8_rock_121 : decode cX8_rock 121 = .ok (.if_icmp .ge 11, 3) := by decide +kernel
theorem dX8_rock_124 : decode cX8_rock 124 = .ok (.iload 6, 2) := by decide +kernel
theorem dX8_rock_126 : decode cX8_rock 126 = .ok (.istore 4, 2) := by decide +kernel
theorem dX8_rock_128 : decode cX8_rock 128 = .ok (.iload 7, 2) := by decide +kernel
theorem dX8_rock_130 : decode cX8_rock 130 = .ok (.istore 5, 2) := by decide +kernel
theorem dX8_rock_132 : decode cX8_rock 132 = .ok (.iinc 6 1, 3) := by decide +kernel
theorem dX8_rock_135 : decode cX8_rock 135 = .ok (.goto (-79), 3) := by decide +kernel
theorem dX8_rock_138 : decode cX8_rock 138 = .ok (.iload_n 1, 1) := by decide +kernel
theorem dX8_rock_139 : decode cX8_rock 139 = .ok (.ifCond .ne 8, 3) := by decide +kernel
theorem dX8_rock_142 : decode cX8_rock 142 = .ok (.iload 4, 2) := by decide +kernel
theorem dX8_rock_144 : decode cX8_rock 144 = .ok (.goto 5, 3) := by decide +kernel
theorem dX8_rock_147 : decode cX8_rock 147 = .ok (.iload 5, 2) := by decide +kernel
theorem dX8_rock_149 : decode cX8_rock 149 = .ok (.ireturn, 1) := by decide +kernel
theorem dX8_row_0 : decode cX8_row 0 = .ok (.iload_n 1, 1) := by decide +kernel
theorem dX8_row_1 : decode cX8_row 1 = .ok (.invokestatic 243, 3) := by decide +kernel
theorem dX8_row_4 : decode cX8_row 4 = .ok (.ifCond .eq 27, 3) := by decide +kernel
theorem dX8_row_7 : decode cX8_row 7 = .ok (.iload_n 2, 1) := by decide +kernel
theorem dX8_row_8 : decode cX8_row 8 = .ok (.invokestatic 243, 3) := by decide +kernel
theorem dX8_row_11 : decode cX8_row 11 = .ok (.ifCond .eq 20, 3) := by decide +kernel
theorem dX8_row_14 : decode cX8_row 14 = .ok (.iload_n 3, 1) := by decide +kernel
theorem dX8_row_15 : decode cX8_row 15 = .ok (.invokestatic 243, 3) := by decide +kernel
theorem dX8_row_18 : decode cX8_row 18 = .ok (.ifCond .eq 13, 3) := by decide +kernel
theorem dX8_row_21 : decode cX8_row 21 = .ok (.iload 4, 2) := by decide +kernel
theorem dX8_row_23 : decode cX8_row 23 = .ok (.iconst 0, 1) := by decide +kernel
theorem dX8_row_24 : decode cX8_row 24 = .ok (.iconst 1, 1) := by decide +kernel
theorem dX8_row_25 : decode cX8_row 25 = .ok (.invokestatic 103, 3) := by decide +kernel
theorem dX8_row_28 : decode cX8_row 28 = .ok (.ifCond .ne 5, 3) := by decide +kernel
theorem dX8_row_31 : decode cX8_row 31 = .ok (.iconst (-1), 1) := by decide +kernel
theorem dX8_row_32 : decode cX8_row 32 = .ok (.ireturn, 1) := by decide +kernel
theorem dX8_row_33 : decode cX8_row 33 = .ok (.aload_n 0, 1) := by decide +kernel
theorem dX8_row_34 : decode cX8_row 34 = .ok (.invokevirtual 154, 3) := by decide +kernel
theorem dX8_row_37 : decode cX8_row 37 = .ok (.iconst 0, 1) := by decide +kernel
theorem dX8_row_38 : decode cX8_row 38 = .ok (.istore 5, 2) := by decide +kernel
theorem dX8_row_40 : decode cX8_row 40 = .ok (.bipush (-4), 2) := by decide +kernel
theorem dX8_row_42 : decode cX8_row 42 = .ok (.istore 6, 2) := by decide +kernel
theorem dX8_row_44 : decode cX8_row 44 = .ok (.bipush 23, 2) := by decide +kernel
theorem dX8_row_46 : decode cX8_row 46 = .ok (.istore 7, 2) := by decide +kernel
theorem dX8_row_48 : decode cX8_row 48 = .ok (.iload 7, 2) := by decide +kernel
theorem dX8_row_50 : decode cX8_row 50 = .ok (.ifCond .lt 65, 3) := by decide +kernel
theorem dX8_row_53 : decode cX8_row 53 = .ok (.aload_n 0, 1) := by decide +kernel
theorem dX8_row_54 : decode cX8_row 54 = .ok (.getfield 65, 3) := by decide +kernel
theorem dX8_row_57 : decode cX8_row 57 = .ok (.iload 7, 2) := by decide +kernel
theorem dX8_row_59 : decode cX8_row 59 = .ok (.invokevirtual 157, 3) := by decide +kernel
theorem dX8_row_62 : decode cX8_row 62 = .ok (.iload_n 1, 1) := by decide +kernel
theorem dX8_row_63 : decode cX8_row 63 = .ok (.if_icmp .ne 46, 3) := by decide +kernel
theorem dX8_row_66 : decode cX8_row 66 = .ok (.aload_n 0, 1) := by decide +kernel
theorem dX8_row_67 : decode cX8_row 67 = .ok (.getfield 65, 3) := by decide +kernel
theorem dX8_row_70 : decode cX8_row 70 = .ok (.iload 7, 2) := by decide +kernel
theorem dX8_row_72 : decode cX8_row 72 = .ok (.iconst 1, 1) := by decide +kernel
theorem dX8_row_73 : decode cX8_row 73 = .ok (.iadd, 1) := by decide +kernel
theorem dX8_row_74 : decode cX8_row 74 = .ok (.bipush 24, 2) := by decide +kernel
theorem dX8_row_76 : decode cX8_row 76 = .ok (.irem, 1) := by decide +kernel
theorem dX8_row_77 : decode cX8_row 77 = .ok (.invokevirtual 157, 3) := by decide +kernel
theorem dX8_row_80 : decode cX8_row 80 = .ok (.iload_n 2, 1) := by decide +kernel
theorem dX8_row_81 : decode cX8_row 81 = .ok (.if_icmp .ne 28, 3) := by decide +kernel
theorem dX8_row_84 : decode cX8_row 84 = .ok (.aload_n 0, 1) := by decide +kernel
theorem dX8_row_85 : decode cX8_row 85 = .ok (.getfield 65, 3) := by decide +kernel
theorem dX8_row_88 : decode cX8_row 88 = .ok (.iload 7, 2) := by decide +kernel
theorem dX8_row_90 : decode cX8_row 90 = .ok (.iconst 2, 1) := by decide +kernel
theorem dX8_row_91 : decode cX8_row 91 = .ok (.iadd, 1) := by decide +kernel
theorem dX8_row_92 : decode cX8_row 92 = .ok (.bipush 24, 2) := by decide +kernel
theorem dX8_row_94 : decode cX8_row 94 = .ok (.irem, 1) := by decide +kernel
theorem dX8_row_95 : decode cX8_row 95 = .ok (.invokevirtual 157, 3) := by decide +kernel
theorem dX8_row_98 : decode cX8_row 98 = .ok (.iload_n 3, 1) := by decide +kernel
theorem dX8_row_99 : decode cX8_row 99 = .ok (.if_icmp .ne 10, 3) := by decide +kernel
theorem dX8_row_102 : decode cX8_row 102 = .ok (.iinc 5 1, 3) := by decide +kernel
theorem dX8_row_105 : decode cX8_row 105 = .ok (.iload 7, 2) := by decide +kernel
theorem dX8_row_107 : decode cX8_row 107 = .ok (.istore 6, 2) := by decide +kernel
theorem dX8_row_109 : decode cX8_row 109 = .ok (.iinc 7 (-1), 3) := by decide +kernel
theorem dX8_row_112 : decode cX8_row 112 = .ok (.goto (-64), 3) := by decide +kernel
theorem dX8_row_115 : decode cX8_row 115 = .ok (.iload 4, 2) := by decide +kernel
theorem dX8_row_117 : decode cX8_row 117 = .ok (.ifCond .ne 8, 3) := by decide +kernel
theorem dX8_row_120 : decode cX8_row 120 = .ok (.iload 5, 2) := by decide +kernel
theorem dX8_row_122 : decode cX8_row 122 = .ok (.goto 5, 3) := by decide +kernel
theorem dX8_row_125 : decode cX8_row 125 = .ok (.iload 6, 2) := by decide +kernel
theorem dX8_row_127 : decode cX8_row 127 = .ok (.ireturn, 1) := by decide +kernel
theorem dX8_look_0 : decode cX8_look 0 = .ok (.iload_n 1, 1) := by decide +kernel
theorem dX8_look_1 : decode cX8_look 1 = .ok (.invokestatic 148, 3) := by decide +kernel
theorem dX8_look_4 : decode cX8_look 4 = .ok (.ifCond .eq 10, 3) := by decide +kernel
theorem dX8_look_7 : decode cX8_look 7 = .ok (.iload_n 2, 1) := by decide +kernel
theorem dX8_look_8 : decode cX8_look 8 = .ok (.invokestatic 243, 3) := by decide +kernel
theorem dX8_look_11 : decode cX8_look 11 = .ok (.ifCond .ne 5, 3) := by decide +kernel
theorem dX8_look_14 : decode cX8_look 14 = .ok (.iconst (-1), 1) := by decide +kernel
theorem dX8_look_15 : decode cX8_look 15 = .ok (.ireturn, 1) := by decide +kernel
theorem dX8_look_16 : decode cX8_look 16 = .ok (.aload_n 0, 1) := by decide +kernel
theorem dX8_look_17 : decode cX8_look 17 = .ok (.getfield 58, 3) := by decide +kernel
theorem dX8_look_20 : decode cX8_look 20 = .ok (.iload_n 1, 1) := by decide +kernel
theorem dX8_look_21 : decode cX8_look 21 = .ok (.iload_n 2, 1) := by decide +kernel
theorem dX8_look_22 : decode cX8_look 22 = .ok (.invokevirtual 246, 3) := by decide +kernel
theorem dX8_look_25 : decode cX8_look 25 = .ok (.ifCond .eq 13, 3) := by decide +kernel
theorem dX8_look_28 : decode cX8_look 28 = .ok (.aload_n 0, 1) := by decide +kernel
theorem dX8_look_29 : decode cX8_look 29 = .ok (.getfield 58, 3) := by decide +kernel
theorem dX8_look_32 : decode cX8_look 32 = .ok (.getfield 110, 3) := by decide +kernel
theorem dX8_look_35 : decode cX8_look 35 = .ok (.goto 5, 3) := by decide +kernel
theorem dX8_look_38 : decode cX8_look 38 = .ok (.bipush (-3), 2) := by decide +kernel
theorem dX8_look_40 : decode cX8_look 40 = .ok (.ireturn, 1) := by decide +kernel
theorem dX8_forget_0 : decode cX8_forget 0 = .ok (.aload_n 0, 1) := by decide +kernel
theorem dX8_forget_1 : decode cX8_forget 1 = .ok (.getfield 58, 3) := by decide +kernel
theorem dX8_forget_4 : decode cX8_forget 4 = .ok (.getfield 110, 3) := by decide +kernel
theorem dX8_forget_7 : decode cX8_forget 7 = .ok (.istore_n 1, 1) := by decide +kernel
theorem dX8_forget_8 : decode cX8_forget 8 = .ok (.aload_n 0, 1) := by decide +kernel
theorem dX8_forget_9 : decode cX8_forget 9 = .ok (.getfield 58, 3) := by decide +kernel
theorem dX8_forget_12 : decode cX8_forget 12 = .ok (.iconst 0, 1) := by decide +kernel
theorem dX8_forget_13 : decode cX8_forget 13 = .ok (.putfield 110, 3) := by decide +kernel
theorem dX8_forget_16 : decode cX8_forget 16 = .ok (.iload_n 1, 1) := by decide +kernel
theorem dX8_forget_17 : decode cX8_forget 17 = .ok (.ireturn, 1) := by decide +kernel
theorem dX8_behind_0 : decode cX8_behind 0 = .ok (.iload_n 1, 1) := by decide +kernel
theorem dX8_behind_1 : decode cX8_behind 1 = .ok (.iconst 0, 1) := by decide +kernel
theorem dX8_behind_2 : decode cX8_behind 2 = .ok (.iconst 1, 1) := by decide +kernel
theorem dX8_behind_3 : decode cX8_behind 3 = .ok (.invokestatic 103, 3) := by decide +kernel
theorem dX8_behind_6 : decode cX8_behind 6 = .ok (.ifCond .ne 5, 3) := by decide +kernel
theorem dX8_behind_9 : decode cX8_behind 9 = .ok (.iconst (-1), 1) := by decide +kernel
theorem dX8_behind_10 : decode cX8_behind 10 = .ok (.ireturn, 1) := by decide +kernel
theorem dX8_behind_11 : decode cX8_behind 11 = .ok (.aload_n 0, 1) := by decide +kernel
theorem dX8_behind_12 : decode cX8_behind 12 = .ok (.getfield 65, 3) := by decide +kernel
theorem dX8_behind_15 : decode cX8_behind 15 = .ok (.aload_n 0, 1) := by decide +kernel
theorem dX8_behind_16 : decode cX8_behind 16 = .ok (.getfield 26, 3) := by decide +kernel
theorem dX8_behind_19 : decode cX8_behind 19 = .ok (.aload_n 0, 1) := by decide +kernel
theorem dX8_behind_20 : decode cX8_behind 20 = .ok (.getfield 36, 3) := by decide +kernel
theorem dX8_behind_23 : decode cX8_behind 23 = .ok (.invokevirtual 249, 3) := by decide +kernel
theorem dX8_behind_26 : decode cX8_behind 26 = .ok (.aload_n 0, 1) := by decide +kernel
theorem dX8_behind_27 : decode cX8_behind 27 = .ok (.getfield 26, 3) := by decide +kernel
theorem dX8_behind_30 : decode cX8_behind 30 = .ok (.invokevirtual 230, 3) := by decide +kernel
theorem dX8_behind_33 : decode cX8_behind 33 = .ok (.istore_n 2, 1) := by decide +kernel
theorem dX8_behind_34 : decode cX8_behind 34 = .ok (.iconst 0, 1) := by decide +kernel
theorem dX8_behind_35 : decode cX8_behind 35 = .ok (.istore_n 3, 1) := by decide +kernel
theorem dX8_behind_36 : decode cX8_behind 36 = .ok (.bipush (-4), 2) := by decide +kernel
theorem dX8_behind_38 : decode cX8_behind 38 = .ok (.istore 4, 2) := by decide +kernel
theorem dX8_behind_40 : decode cX8_behind 40 = .ok (.iload_n 2, 1) := by decide +kernel
theorem dX8_behind_41 : decode cX8_behind 41 = .ok (.istore 5, 2) := by decide +kernel
theorem dX8_behind_43 : decode cX8_behind 43 = .ok (.iload 5, 2) := by decide +kernel
theorem dX8_behind_45 : decode cX8_behind 45 = .ok (.ifCond .lt 54, 3) := by decide +kernel
theorem dX8_behind_48 : decode cX8_behind 48 = .ok (.aload_n 0, 1) := by decide +kernel
theorem dX8_behind_49 : decode cX8_behind 49 = .ok (.getfield 65, 3) := by decide +kernel
theorem dX8_behind_52 : decode cX8_behind 52 = .ok (.aload_n 0, 1) := by decide +kernel
theorem dX8_behind_53 : decode cX8_behind 53 = .ok (.getfield 26, 3) := by decide +kernel
theorem dX8_behind_56 : decode cX8_behind 56 = .ok (.iload_n 2, 1) := by decide +kernel
theorem dX8_behind_57 : decode cX8_behind 57 = .ok (.iload 5, 2) := by decide +kernel
theorem dX8_behind_59 : decode cX8_behind 59 = .ok (.iconst (-1), 1) := by decide +kernel
theorem dX8_behind_60 : decode cX8_behind 60 = .ok (.ixor, 1) := by decide +kernel
theorem dX8_behind_61 : decode cX8_behind 61 = .ok (.iand, 1) := by decide +kernel
theorem dX8_behind_62 : decode cX8_behind 62 = .ok (.aload_n 0, 1) := by decide +kernel
theorem dX8_behind_63 : decode cX8_behind 63 = .ok (.getfield 36, 3) := by decide +kernel
theorem dX8_behind_66 : decode cX8_behind 66 = .ok (.getfield 151, 3) := by decide +kernel
theorem dX8_behind_69 : decode cX8_behind 69 = .ok (.invokevirtual 236, 3) := by decide +kernel
theorem dX8_behind_72 : decode cX8_behind 72 = .ok (.aload_n 0, 1) := by decide +kernel
theorem dX8_behind_73 : decode cX8_behind 73 = .ok (.getfield 58, 3) := by decide +kernel
theorem dX8_behind_76 : decode cX8_behind 76 = .ok (.aload_n 0, 1) := by decide +kernel
theorem dX8_behind_77 : decode cX8_behind 77 = .ok (.getfield 65, 3) := by decide +kernel
theorem dX8_behind_80 : decode cX8_behind 80 = .ok (.invokevirtual 253, 3) := by decide +kernel
theorem dX8_behind_83 : decode cX8_behind 83 = .ok (.ifCond .eq 10, 3) := by decide +kernel
theorem dX8_behind_86 : decode cX8_behind 86 = .ok (.iinc 3 1, 3) := by decide +kernel
theorem dX8_behind_89 : decode cX8_behind 89 = .ok (.iload 5, 2) := by decide +kernel
theorem dX8_behind_91 : decode cX8_behind 91 = .ok (.istore 4, 2) := by decide +kernel
theorem dX8_behind_93 : decode cX8_behind 93 = .ok (.iinc 5 (-1), 3) := by decide +kernel
theorem dX8_behind_96 : decode cX8_behind 96 = .ok (.goto (-53), 3) := by decide +kernel
theorem dX8_behind_99 : decode cX8_behind 99 = .ok (.iload_n 1, 1) := by decide +kernel
theorem dX8_behind_100 : decode cX8_behind 100 = .ok (.ifCond .ne 7, 3) := by decide +kernel
theorem dX8_behind_103 : decode cX8_behind 103 = .ok (.iload_n 3, 1) := by decide +kernel
theorem dX8_behind_104 : decode cX8_behind 104 = .ok (.goto 5, 3) := by decide +kernel
theorem dX8_behind_107 : decode cX8_behind 107 = .ok (.iload 4, 2) := by decide +kernel
theorem dX8_behind_109 : decode cX8_behind 109 = .ok (.ireturn, 1) := by decide +kernel
theorem dX8_panes_0 : decode cX8_panes 0 = .ok (.aload_n 0, 1) := by decide +kernel
theorem dX8_panes_1 : decode cX8_panes 1 = .ok (.invokevirtual 154, 3) := by decide +kernel
theorem dX8_panes_4 : decode cX8_panes 4 = .ok (.aload_n 0, 1) := by decide +kernel
theorem dX8_panes_5 : decode cX8_panes 5 = .ok (.getfield 58, 3) := by decide +kernel
theorem dX8_panes_8 : decode cX8_panes 8 = .ok (.invokevirtual 257, 3) := by decide +kernel
theorem dX8_panes_11 : decode cX8_panes 11 = .ok (.aload_n 0, 1) := by decide +kernel
theorem dX8_panes_12 : decode cX8_panes 12 = .ok (.getfield 65, 3) := by decide +kernel
theorem dX8_panes_15 : decode cX8_panes 15 = .ok (.getfield 233, 3) := by decide +kernel
theorem dX8_panes_18 : decode cX8_panes 18 = .ok (.iand, 1) := by decide +kernel
theorem dX8_panes_19 : decode cX8_panes 19 = .ok (.invokestatic 222, 3) := by decide +kernel
theorem dX8_panes_22 : decode cX8_panes 22 = .ok (.ireturn, 1) := by decide +kernel
theorem dX8_odds_0 : decode cX8_odds 0 = .ok (.aload_n 0, 1) := by decide +kernel
theorem dX8_odds_1 : decode cX8_odds 1 = .ok (.iload_n 1, 1) := by decide +kernel
theorem dX8_odds_2 : decode cX8_odds 2 = .ok (.invokevirtual 139, 3) := by decide +kernel
theorem dX8_odds_5 : decode cX8_odds 5 = .ok (.ifCond .eq 12, 3) := by decide +kernel
theorem dX8_odds_8 : decode cX8_odds 8 = .ok (.iload_n 2, 1) := by decide +kernel
theorem dX8_odds_9 : decode cX8_odds 9 = .ok (.iconst 0, 1) := by decide +kernel
theorem dX8_odds_10 : decode cX8_odds 10 = .ok (.iconst 1, 1) := by decide +kernel
theorem dX8_odds_11 : decode cX8_odds 11 = .ok (.invokestatic 103, 3) := by decide +kernel
theorem dX8_odds_14 : decode cX8_odds 14 = .ok (.ifCond .ne 5, 3) := by decide +kernel
theorem dX8_odds_17 : decode cX8_odds 17 = .ok (.iconst (-1), 1) := by decide +kernel
theorem dX8_odds_18 : decode cX8_odds 18 = .ok (.ireturn, 1) := by decide +kernel
theorem dX8_odds_19 : decode cX8_odds 19 = .ok (.aload_n 0, 1) := by decide +kernel
theorem dX8_odds_20 : decode cX8_odds 20 = .ok (.invokevirtual 154, 3) := by decide +kernel
theorem dX8_odds_23 : decode cX8_odds 23 = .ok (.aload_n 0, 1) := by decide +kernel
theorem dX8_odds_24 : decode cX8_odds 24 = .ok (.iconst 1, 1) := by decide +kernel
theorem dX8_odds_25 : decode cX8_odds 25 = .ok (.iload_n 1, 1) := by decide +kernel
theorem dX8_odds_26 : decode cX8_odds 26 = .ok (.ishl, 1) := by decide +kernel
theorem dX8_odds_27 : decode cX8_odds 27 = .ok (.invokevirtual 260, 3) := by decide +kernel
theorem dX8_odds_30 : decode cX8_odds 30 = .ok (.iload_n 2, 1) := by decide +kernel
theorem dX8_odds_31 : decode cX8_odds 31 = .ok (.invokestatic 263, 3) := by decide +kernel
theorem dX8_odds_34 : decode cX8_odds 34 = .ok (.ireturn, 1) := by decide +kernel
theorem dX8_mean_0 : decode cX8_mean 0 = .ok (.iload_n 1, 1) := by decide +kernel
theorem dX8_mean_1 : decode cX8_mean 1 = .ok (.iconst 0, 1) := by decide +kernel
theorem dX8_mean_2 : decode cX8_mean 2 = .ok (.iconst 1, 1) := by decide +kernel
theorem dX8_mean_3 : decode cX8_mean 3 = .ok (.invokestatic 103, 3) := by decide +kernel
theorem dX8_mean_6 : decode cX8_mean 6 = .ok (.ifCond .ne 5, 3) := by decide +kernel
theorem dX8_mean_9 : decode cX8_mean 9 = .ok (.iconst (-1), 1) := by decide +kernel
theorem dX8_mean_10 : decode cX8_mean 10 = .ok (.ireturn, 1) := by decide +kernel
theorem dX8_mean_11 : decode cX8_mean 11 = .ok (.aload_n 0, 1) := by decide +kernel
theorem dX8_mean_12 : decode cX8_mean 12 = .ok (.invokevirtual 154, 3) := by decide +kernel
theorem dX8_mean_15 : decode cX8_mean 15 = .ok (.aload_n 0, 1) := by decide +kernel
theorem dX8_mean_16 : decode cX8_mean 16 = .ok (.aload_n 0, 1) := by decide +kernel
theorem dX8_mean_17 : decode cX8_mean 17 = .ok (.getfield 26, 3) := by decide +kernel
theorem dX8_mean_20 : decode cX8_mean 20 = .ok (.invokevirtual 266, 3) := by decide +kernel
theorem dX8_mean_23 : decode cX8_mean 23 = .ok (.invokevirtual 260, 3) := by decide +kernel
theorem dX8_mean_26 : decode cX8_mean 26 = .ok (.iload_n 1, 1) := by decide +kernel
theorem dX8_mean_27 : decode cX8_mean 27 = .ok (.invokestatic 263, 3) := by decide +kernel
theorem dX8_mean_30 : decode cX8_mean 30 = .ok (.ireturn, 1) := by decide +kernel
theorem dX8_owed_0 : decode cX8_owed 0 = .ok (.iload_n 1, 1) := by decide +kernel
theorem dX8_owed_1 : decode cX8_owed 1 = .ok (.iconst 0, 1) := by decide +kernel
theorem dX8_owed_2 : decode cX8_owed 2 = .ok (.iconst 1, 1) := by decide +kernel
theorem dX8_owed_3 : decode cX8_owed 3 = .ok (.invokestatic 103, 3) := by decide +kernel
theorem dX8_owed_6 : decode cX8_owed 6 = .ok (.ifCond .ne 5, 3) := by decide +kernel
theorem dX8_owed_9 : decode cX8_owed 9 = .ok (.iconst (-1), 1) := by decide +kernel
theorem dX8_owed_10 : decode cX8_owed 10 = .ok (.ireturn, 1) := by decide +kernel
theorem dX8_owed_11 : decode cX8_owed 11 = .ok (.iconst 0, 1) := by decide +kernel
theorem dX8_owed_12 : decode cX8_owed 12 = .ok (.istore_n 2, 1) := by decide +kernel
theorem dX8_owed_13 : decode cX8_owed 13 = .ok (.iconst 0, 1) := by decide +kernel
theorem dX8_owed_14 : decode cX8_owed 14 = .ok (.istore_n 3, 1) := by decide +kernel
theorem dX8_owed_15 : decode cX8_owed 15 = .ok (.iload_n 3, 1) := by decide +kernel
theorem dX8_owed_16 : decode cX8_owed 16 = .ok (.aload_n 0, 1) := by decide +kernel
theorem dX8_owed_17 : decode cX8_owed 17 = .ok (.getfield 26, 3) := by decide +kernel
theorem dX8_owed_20 : decode cX8_owed 20 = .ok (.getfield 107, 3) := by decide +kernel
theorem dX8_owed_23 : decode cX8_owed 23 = .ok (.if_icmp .ge 37, 3) := by decide +kernel
theorem dX8_owed_26 : decode cX8_owed 26 = .ok (.iload_n 2, 1) := by decide +kernel
theorem dX8_owed_27 : decode cX8_owed 27 = .ok (.iload_n 1, 1) := by decide +kernel
theorem dX8_owed_28 : decode cX8_owed 28 = .ok (.ifCond .ne 15, 3) := by decide +kernel
theorem dX8_owed_31 : decode cX8_owed 31 = .ok (.aload_n 0, 1) := by decide +kernel
theorem dX8_owed_32 : decode cX8_owed 32 = .ok (.getfield 36, 3) := by decide +kernel
theorem dX8_owed_35 : decode cX8_owed 35 = .ok (.getfield 133, 3) := by decide +kernel
theorem dX8_owed_38 : decode cX8_owed 38 = .ok (.iload_n 3, 1) := by decide +kernel
theorem dX8_owed_39 : decode cX8_owed 39 = .ok (.iaload, 1) := by decide +kernel
theorem dX8_owed_40 : decode cX8_owed 40 = .ok (.goto 12, 3) := by decide +kernel
theorem dX8_owed_43 : decode cX8_owed 43 = .ok (.aload_n 0, 1) := by decide +kernel
theorem dX8_owed_44 : decode cX8_owed 44 = .ok (.getfield 26, 3) := by decide +kernel
theorem dX8_owed_47 : decode cX8_owed 47 = .ok (.getfield 127, 3) := by decide +kernel
theorem dX8_owed_50 : decode cX8_owed 50 = .ok (.iload_n 3, 1) := by decide +kernel
theorem dX8_owed_51 : decode cX8_owed 51 = .ok (.iaload, 1) := by decide +kernel
theorem dX8_owed_52 : decode cX8_owed 52 = .ok (.iadd, 1) := by decide +kernel
theorem dX8_owed_53 : decode cX8_owed 53 = .ok (.istore_n 2, 1) := by decide +kernel
theorem dX8_owed_54 : decode cX8_owed 54 = .ok (.iinc 3 1, 3) := by decide +kernel
theorem dX8_owed_57 : decode cX8_owed 57 = .ok (.goto (-42), 3) := by decide +kernel
theorem dX8_owed_60 : decode cX8_owed 60 = .ok (.iload_n 2, 1) := by decide +kernel
theorem dX8_owed_61 : decode cX8_owed 61 = .ok (.ireturn, 1) := by decide +kernel
theorem dX8_weeks_0 : decode cX8_weeks 0 = .ok (.iload_n 1, 1) := by decide +kernel
theorem dX8_weeks_1 : decode cX8_weeks 1 = .ok (.iconst 0, 1) := by decide +kernel
theorem dX8_weeks_2 : decode cX8_weeks 2 = .ok (.sipush 9999, 3) := by decide +kernel
theorem dX8_weeks_5 : decode cX8_weeks 5 = .ok (.invokestatic 103, 3) := by decide +kernel
theorem dX8_weeks_8 : decode cX8_weeks 8 = .ok (.ifCond .eq 22, 3) := by decide +kernel
theorem dX8_weeks_11 : decode cX8_weeks 11 = .ok (.iload_n 2, 1) := by decide +kernel
theorem dX8_weeks_12 : decode cX8_weeks 12 = .ok (.iconst 1, 1) := by decide +kernel
theorem dX8_weeks_13 : decode cX8_weeks 13 = .ok (.bipush 60, 2) := by decide +kernel
theorem dX8_weeks_15 : decode cX8_weeks 15 = .ok (.invokestatic 103, 3) := by decide +kernel
theorem dX8_weeks_18 : decode cX8_weeks 18 = .ok (.ifCond .eq 12, 3) := by decide +kernel
theorem dX8_weeks_21 : decode cX8_weeks 21 = .ok (.iload_n 3, 1) := by decide +kernel
theorem dX8_weeks_22 : decode cX8_weeks 22 = .ok (.iconst 0, 1) := by decide +kernel
theorem dX8_weeks_23 : decode cX8_weeks 23 = .ok (.iconst 1, 1) := by decide +kernel
theorem dX8_weeks_24 : decode cX8_weeks 24 = .ok (.invokestatic 103, 3) := by decide +kernel
theorem dX8_weeks_27 : decode cX8_weeks 27 = .ok (.ifCond .ne 5, 3) := by decide +kernel
theorem dX8_weeks_30 : decode cX8_weeks 30 = .ok (.iconst (-1), 1) := by decide +kernel
theorem dX8_weeks_31 : decode cX8_weeks 31 = .ok (.ireturn, 1) := by decide +kernel
theorem dX8_weeks_32 : decode cX8_weeks 32 = .ok (.aload_n 0, 1) := by decide +kernel
theorem dX8_weeks_33 : decode cX8_weeks 33 = .ok (.getfield 40, 3) := by decide +kernel
theorem dX8_weeks_36 : decode cX8_weeks 36 = .ok (.aload_n 0, 1) := by decide +kernel
theorem dX8_weeks_37 : decode cX8_weeks 37 = .ok (.getfield 36, 3) := by decide +kernel
theorem dX8_weeks_40 : decode cX8_weeks 40 = .ok (.invokevirtual 269, 3) := by decide +kernel
theorem dX8_weeks_43 : decode cX8_weeks 43 = .ok (.iconst 0, 1) := by decide +kernel
theorem dX8_weeks_44 : decode cX8_weeks 44 = .ok (.istore 4, 2) := by decide +kernel
theorem dX8_weeks_46 : decode cX8_weeks 46 = .ok (.iconst 0, 1) := by decide +kernel
theorem dX8_weeks_47 : decode cX8_weeks 47 = .ok (.istore 5, 2) := by decide +kernel
theorem dX8_weeks_49 : decode cX8_weeks 49 = .ok (.iconst 0, 1) := by decide +kernel
theorem dX8_weeks_50 : decode cX8_weeks 50 = .ok (.istore 6, 2) := by decide +kernel
theorem dX8_weeks_52 : decode cX8_weeks 52 = .ok (.iload 6, 2) := by decide +kernel
theorem dX8_weeks_54 : decode cX8_weeks 54 = .ok (.iload_n 2, 1) := by decide +kernel
theorem dX8_weeks_55 : decode cX8_weeks 55 = .ok (.if_icmp .ge 73, 3) := by decide +kernel
theorem dX8_weeks_58 : decode cX8_weeks 58 = .ok (.aload_n 0, 1) := by decide +kernel
theorem dX8_weeks_59 : decode cX8_weeks 59 = .ok (.aload_n 0, 1) := by decide +kernel
theorem dX8_weeks_60 : decode cX8_weeks 60 = .ok (.getfield 40, 3) := by decide +kernel
theorem dX8_weeks_63 : decode cX8_weeks 63 = .ok (.invokevirtual 272, 3) := by decide +kernel
theorem dX8_weeks_66 : decode cX8_weeks 66 = .ok (.aload_n 0, 1) := by decide +kernel
theorem dX8_weeks_67 : decode cX8_weeks 67 = .ok (.getfield 65, 3) := by decide +kernel
theorem dX8_weeks_70 : decode cX8_weeks 70 = .ok (.aload_n 0, 1) := by decide +kernel
theorem dX8_weeks_71 : decode cX8_weeks 71 = .ok (.getfield 26, 3) := by decide +kernel
theorem dX8_weeks_74 : decode cX8_weeks 74 = .ok (.iload_n 1, 1) := by decide +kernel
theorem dX8_weeks_75 : decode cX8_weeks 75 = .ok (.iload 6, 2) := by decide +kernel
theorem dX8_weeks_77 : decode cX8_weeks 77 = .ok (.invokestatic 275, 3) := by decide +kernel
theorem dX8_weeks_80 : decode cX8_weeks 80 = .ok (.invokevirtual 205, 3) := by decide +kernel
theorem dX8_weeks_83 : decode cX8_weeks 83 = .ok (.invokestatic 222, 3) := by decide +kernel
theorem dX8_weeks_86 : decode cX8_weeks 86 = .ok (.istore 7, 2) := by decide +kernel
theorem dX8_weeks_88 : decode cX8_weeks 88 = .ok (.iload 5, 2) := by decide +kernel
theorem dX8_weeks_90 : decode cX8_weeks 90 = .ok (.iload 7, 2) := by decide +kernel
theorem dX8_weeks_92 : decode cX8_weeks 92 = .ok (.iadd, 1) := by decide +kernel
theorem dX8_weeks_93 : decode cX8_weeks 93 = .ok (.istore 5, 2) := by decide +kernel
theorem dX8_weeks_95 : decode cX8_weeks 95 = .ok (.iload 7, 2) := by decide +kernel
theorem dX8_weeks_97 : decode cX8_weeks 97 = .ok (.aload_n 0, 1) := by decide +kernel
theorem dX8_weeks_98 : decode cX8_weeks 98 = .ok (.getfield 26, 3) := by decide +kernel
theorem dX8_weeks_101 : decode cX8_weeks 101 = .ok (.getfield 278, 3) := by decide +kernel
theorem dX8_weeks_104 : decode cX8_weeks 104 = .ok (.if_icmp .ne 6, 3) := by decide +kernel
theorem dX8_weeks_107 : decode cX8_weeks 107 = .ok (.iinc 4 1, 3) := by decide +kernel
theorem dX8_weeks_110 : decode cX8_weeks 110 = .ok (.aload_n 0, 1) := by decide +kernel
theorem dX8_weeks_111 : decode cX8_weeks 111 = .ok (.getfield 40, 3) := by decide +kernel
theorem dX8_weeks_114 : decode cX8_weeks 114 = .ok (.aload_n 0, 1) := by decide +kernel
theorem dX8_weeks_115 : decode cX8_weeks 115 = .ok (.getfield 26, 3) := by decide +kernel
theorem dX8_weeks_118 : decode cX8_weeks 118 = .ok (.iconst 1, 1) := by decide +kernel
theorem dX8_weeks_119 : decode cX8_weeks 119 = .ok (.invokevirtual 171, 3) := by decide +kernel
theorem dX8_weeks_122 : decode cX8_weeks 122 = .ok (.iinc 6 1, 3) := by decide +kernel
theorem dX8_weeks_125 : decode cX8_weeks 125 = .ok (.goto (-73), 3) := by decide +kernel
theorem dX8_weeks_128 : decode cX8_weeks 128 = .ok (.iload_n 3, 1) := by decide +kernel
theorem dX8_weeks_129 : decode cX8_weeks 129 = .ok (.ifCond .ne 8, 3) := by decide +kernel
theorem dX8_weeks_132 : decode cX8_weeks 132 = .ok (.iload 4, 2) := by decide +kernel
theorem dX8_weeks_134 : decode cX8_weeks 134 = .ok (.goto 5, 3) := by decide +kernel
theorem dX8_weeks_137 : decode cX8_weeks 137 = .ok (.iload 5, 2) := by decide +kernel
theorem dX8_weeks_139 : decode cX8_weeks 139 = .ok (.ireturn, 1) := by decide +kernel
theorem dX8_keep_0 : decode cX8_keep 0 = .ok (.aload_n 0, 1) := by decide +kernel
theorem dX8_keep_1 : decode cX8_keep 1 = .ok (.getfield 52, 3) := by decide +kernel
theorem dX8_keep_4 : decode cX8_keep 4 = .ok (.getfield 113, 3) := by decide +kernel
theorem dX8_keep_7 : decode cX8_keep 7 = .ok (.iconst 2, 1) := by decide +kernel
theorem dX8_keep_8 : decode cX8_keep 8 = .ok (.if_icmp .ne 6, 3) := by decide +kernel
theorem dX8_keep_11 : decode cX8_keep 11 = .ok (.bipush (-3), 2) := by decide +kernel
theorem dX8_keep_13 : decode cX8_keep 13 = .ok (.ireturn, 1) := by decide +kernel
theorem dX8_keep_14 : decode cX8_keep 14 = .ok (.aload_n 0, 1) := by decide +kernel
theorem dX8_keep_15 : decode cX8_keep 15 = .ok (.getfield 52, 3) := by decide +kernel
theorem dX8_keep_18 : decode cX8_keep 18 = .ok (.aload_n 0, 1) := by decide +kernel
theorem dX8_keep_19 : decode cX8_keep 19 = .ok (.getfield 36, 3) := by decide +kernel
theorem dX8_keep_22 : decode cX8_keep 22 = .ok (.invokevirtual 167, 3) := by decide +kernel
theorem dX8_keep_25 : decode cX8_keep 25 = .ok (.aload_n 0, 1) := by decide +kernel
theorem dX8_keep_26 : decode cX8_keep 26 = .ok (.getfield 52, 3) := by decide +kernel
theorem dX8_keep_29 : decode cX8_keep 29 = .ok (.getfield 113, 3) := by decide +kernel
theorem dX8_keep_32 : decode cX8_keep 32 = .ok (.ireturn, 1) := by decide +kernel
theorem dX8_back_0 : decode cX8_back 0 = .ok (.aload_n 0, 1) := by decide +kernel
theorem dX8_back_1 : decode cX8_back 1 = .ok (.getfield 52, 3) := by decide +kernel
theorem dX8_back_4 : decode cX8_back 4 = .ok (.aload_n 0, 1) := by decide +kernel
theorem dX8_back_5 : decode cX8_back 5 = .ok (.getfield 36, 3) := by decide +kernel
theorem dX8_back_8 : decode cX8_back 8 = .ok (.invokevirtual 185, 3) := by decide +kernel
theorem dX8_back_11 : decode cX8_back 11 = .ok (.ifCond .ne 6, 3) := by decide +kernel
theorem dX8_back_14 : decode cX8_back 14 = .ok (.bipush (-2), 2) := by decide +kernel
theorem dX8_back_16 : decode cX8_back 16 = .ok (.ireturn, 1) := by decide +kernel
theorem dX8_back_17 : decode cX8_back 17 = .ok (.aload_n 0, 1) := by decide +kernel
theorem dX8_back_18 : decode cX8_back 18 = .ok (.getfield 48, 3) := by decide +kernel
theorem dX8_back_21 : decode cX8_back 21 = .ok (.iconst 0, 1) := by decide +kernel
theorem dX8_back_22 : decode cX8_back 22 = .ok (.putfield 113, 3) := by decide +kernel
theorem dX8_back_25 : decode cX8_back 25 = .ok (.aload_n 0, 1) := by decide +kernel
theorem dX8_back_26 : decode cX8_back 26 = .ok (.getfield 52, 3) := by decide +kernel
theorem dX8_back_29 : decode cX8_back 29 = .ok (.getfield 113, 3) := by decide +kernel
theorem dX8_back_32 : decode cX8_back 32 = .ok (.ireturn, 1) := by decide +kernel
theorem dX8_count_0 : decode cX8_count 0 = .ok (.iload_n 1, 1) := by decide +kernel
theorem dX8_count_1 : decode cX8_count 1 = .ok (.tableswitch 141 0 8 #[51, 59, 67, 75, 86, 109, 117, 125, 133], 51) := by decide +kernel
theorem dX8_count_52 : decode cX8_count 52 = .ok (.aload_n 0, 1) := by decide +kernel
theorem dX8_count_53 : decode cX8_count 53 = .ok (.getfield 26, 3) := by decide +kernel
theorem dX8_count_56 : decode cX8_count 56 = .ok (.getfield 107, 3) := by decide +kernel
theorem dX8_count_59 : decode cX8_count 59 = .ok (.ireturn, 1) := by decide +kernel
theorem dX8_count_60 : decode cX8_count 60 = .ok (.aload_n 0, 1) := by decide +kernel
theorem dX8_count_61 : decode cX8_count 61 = .ok (.getfield 26, 3) := by decide +kernel
theorem dX8_count_64 : decode cX8_count 64 = .ok (.getfield 278, 3) := by decide +kernel
theorem dX8_count_67 : decode cX8_count 67 = .ok (.ireturn, 1) := by decide +kernel
theorem dX8_count_68 : decode cX8_count 68 = .ok (.aload_n 0, 1) := by decide +kernel
theorem dX8_count_69 : decode cX8_count 69 = .ok (.getfield 36, 3) := by decide +kernel
theorem dX8_count_72 : decode cX8_count 72 = .ok (.getfield 164, 3) := by decide +kernel
theorem dX8_count_75 : decode cX8_count 75 = .ok (.ireturn, 1) := by decide +kernel
theorem dX8_count_76 : decode cX8_count 76 = .ok (.aload_n 0, 1) := by decide +kernel
theorem dX8_count_77 : decode cX8_count 77 = .ok (.getfield 36, 3) := by decide +kernel
theorem dX8_count_80 : decode cX8_count 80 = .ok (.getfield 151, 3) := by decide +kernel
theorem dX8_count_83 : decode cX8_count 83 = .ok (.invokestatic 222, 3) := by decide +kernel
theorem dX8_count_86 : decode cX8_count 86 = .ok (.ireturn, 1) := by decide +kernel
theorem dX8_count_87 : decode cX8_count 87 = .ok (.aload_n 0, 1) := by decide +kernel
theorem dX8_count_88 : decode cX8_count 88 = .ok (.getfield 26, 3) := by decide +kernel
theorem dX8_count_91 : decode cX8_count 91 = .ok (.getfield 107, 3) := by decide +kernel
theorem dX8_count_94 : decode cX8_count 94 = .ok (.aload_n 0, 1) := by decide +kernel
theorem dX8_count_95 : decode cX8_count 95 = .ok (.getfield 36, 3) := by decide +kernel
theorem dX8_count_98 : decode cX8_count 98 = .ok (.aload_n 0, 1) := by decide +kernel
theorem dX8_count_99 : decode cX8_count 99 = .ok (.getfield 26, 3) := by decide +kernel
theorem dX8_count_102 : decode cX8_count 102 = .ok (.invokevirtual 219, 3) := by decide +kernel
theorem dX8_count_105 : decode cX8_count 105 = .ok (.invokestatic 222, 3) := by decide +kernel
theorem dX8_count_108 : decode cX8_count 108 = .ok (.isub, 1) := by decide +kernel
theorem dX8_count_109 : decode cX8_count 109 = .ok (.ireturn, 1) := by decide +kernel
theorem dX8_count_110 : decode cX8_count 110 = .ok (.aload_n 0, 1) := by decide +kernel
theorem dX8_count_111 : decode cX8_count 111 = .ok (.getfield 58, 3) := by decide +kernel
theorem dX8_count_114 : decode cX8_count 114 = .ok (.getfield 110, 3) := by decide +kernel
theorem dX8_count_117 : decode cX8_count 117 = .ok (.ireturn, 1) := by decide +kernel
theorem dX8_count_118 : decode cX8_count 118 = .ok (.aload_n 0, 1) := by decide +kernel
theorem dX8_count_119 : decode cX8_count 119 = .ok (.getfield 48, 3) := by decide +kernel
theorem dX8_count_122 : decode cX8_count 122 = .ok (.getfield 113, 3) := by decide +kernel
theorem dX8_count_125 : decode cX8_count 125 = .ok (.ireturn, 1) := by decide +kernel
theorem dX8_count_126 : decode cX8_count 126 = .ok (.aload_n 0, 1) := by decide +kernel
theorem dX8_count_127 : decode cX8_count 127 = .ok (.getfield 52, 3) := by decide +kernel
theorem dX8_count_130 : decode cX8_count 130 = .ok (.getfield 113, 3) := by decide +kernel
theorem dX8_count_133 : decode cX8_count 133 = .ok (.ireturn, 1) := by decide +kernel
theorem dX8_count_134 : decode cX8_count 134 = .ok (.aload_n 0, 1) := by decide +kernel
theorem dX8_count_135 : decode cX8_count 135 = .ok (.getfield 10, 3) := by decide +kernel
theorem dX8_count_138 : decode cX8_count 138 = .ok (.getfield 96, 3) := by decide +kernel
theorem dX8_count_141 : decode cX8_count 141 = .ok (.ireturn, 1) := by decide +kernel
theorem dX8_count_142 : decode cX8_count 142 = .ok (.iconst (-1), 1) := by decide +kernel
theorem dX8_count_143 : decode cX8_count 143 = .ok (.ireturn, 1) := by decide +kernel
theorem dX8_within_0 : decode cX8_within 0 = .ok (.iload_n 0, 1) := by decide +kernel
theorem dX8_within_1 : decode cX8_within 1 = .ok (.iload_n 1, 1) := by decide +kernel
theorem dX8_within_2 : decode cX8_within 2 = .ok (.if_icmp .lt 12, 3) := by decide +kernel
theorem dX8_within_5 : decode cX8_within 5 = .ok (.iload_n 0, 1) := by decide +kernel
theorem dX8_within_6 : decode cX8_within 6 = .ok (.iload_n 2, 1) := by decide +kernel
theorem dX8_within_7 : decode cX8_within 7 = .ok (.if_icmp .gt 7, 3) := by decide +kernel
theorem dX8_within_10 : decode cX8_within 10 = .ok (.iconst 1, 1) := by decide +kernel
theorem dX8_within_11 : decode cX8_within 11 = .ok (.goto 4, 3) := by decide +kernel
theorem dX8_within_14 : decode cX8_within 14 = .ok (.iconst 0, 1) := by decide +kernel
theorem dX8_within_15 : decode cX8_within 15 = .ok (.ireturn, 1) := by decide +kernel
theorem dX8_isStripe_0 : decode cX8_isStripe 0 = .ok (.iload_n 0, 1) := by decide +kernel
theorem dX8_isStripe_1 : decode cX8_isStripe 1 = .ok (.iconst 0, 1) := by decide +kernel
theorem dX8_isStripe_2 : decode cX8_isStripe 2 = .ok (.bipush 23, 2) := by decide +kernel
theorem dX8_isStripe_4 : decode cX8_isStripe 4 = .ok (.invokestatic 103, 3) := by decide +kernel
theorem dX8_isStripe_7 : decode cX8_isStripe 7 = .ok (.ireturn, 1) := by decide +kernel
theorem dX8_isFog_0 : decode cX8_isFog 0 = .ok (.iload_n 0, 1) := by decide +kernel
theorem dX8_isFog_1 : decode cX8_isFog 1 = .ok (.iconst 0, 1) := by decide +kernel
theorem dX8_isFog_2 : decode cX8_isFog 2 = .ok (.iconst 3, 1) := by decide +kernel
theorem dX8_isFog_3 : decode cX8_isFog 3 = .ok (.invokestatic 103, 3) := by decide +kernel
theorem dX8_isFog_6 : decode cX8_isFog 6 = .ok (.ireturn, 1) := by decide +kernel
theorem dX8_isColourOrDark_0 : decode cX8_isColourOrDark 0 = .ok (.iload_n 0, 1) := by decide +kernel
theorem dX8_isColourOrDark_1 : decode cX8_isColourOrDark 1 = .ok (.iconst 0, 1) := by decide +kernel
theorem dX8_isColourOrDark_2 : decode cX8_isColourOrDark 2 = .ok (.iconst 4, 1) := by decide +kernel
theorem dX8_isColourOrDark_3 : decode cX8_isColourOrDark 3 = .ok (.invokestatic 103, 3) := by decide +kernel
theorem dX8_isColourOrDark_6 : decode cX8_isColourOrDark 6 = .ok (.ireturn, 1) := by decide +kernel
theorem dX8_isTenant_0 : decode cX8_isTenant 0 = .ok (.iload_n 1, 1) := by decide +kernel
theorem dX8_isTenant_1 : decode cX8_isTenant 1 = .ok (.iconst 0, 1) := by decide +kernel
theorem dX8_isTenant_2 : decode cX8_isTenant 2 = .ok (.aload_n 0, 1) := by decide +kernel
theorem dX8_isTenant_3 : decode cX8_isTenant 3 = .ok (.getfield 26, 3) := by decide +kernel
theorem dX8_isTenant_6 : decode cX8_isTenant 6 = .ok (.getfield 107, 3) := by decide +kernel
theorem dX8_isTenant_9 : decode cX8_isTenant 9 = .ok (.iconst 1, 1) := by decide +kernel
theorem dX8_isTenant_10 : decode cX8_isTenant 10 = .ok (.isub, 1) := by decide +kernel
theorem dX8_isTenant_11 : decode cX8_isTenant 11 = .ok (.invokestatic 103, 3) := by decide +kernel
theorem dX8_isTenant_14 : decode cX8_isTenant 14 = .ok (.ireturn, 1) := by decide +kernel
theorem dX8_isShip_0 : decode cX8_isShip 0 = .ok (.iload_n 1, 1) := by decide +kernel
theorem dX8_isShip_1 : decode cX8_isShip 1 = .ok (.iconst 0, 1) := by decide +kernel
theorem dX8_isShip_2 : decode cX8_isShip 2 = .ok (.aload_n 0, 1) := by decide +kernel
theorem dX8_isShip_3 : decode cX8_isShip 3 = .ok (.getfield 26, 3) := by decide +kernel
theorem dX8_isShip_6 : decode cX8_isShip 6 = .ok (.getfield 278, 3) := by decide +kernel
theorem dX8_isShip_9 : decode cX8_isShip 9 = .ok (.iconst 1, 1) := by decide +kernel
theorem dX8_isShip_10 : decode cX8_isShip 10 = .ok (.isub, 1) := by decide +kernel
theorem dX8_isShip_11 : decode cX8_isShip 11 = .ok (.invokestatic 103, 3) := by decide +kernel
theorem dX8_isShip_14 : decode cX8_isShip 14 = .ok (.ireturn, 1) := by decide +kernel
theorem dX8_coloursSeenIn_0 : decode cX8_coloursSeenIn 0 = .ok (.iconst 4, 1) := by decide +kernel
theorem dX8_coloursSeenIn_1 : decode cX8_coloursSeenIn 1 = .ok (.iload_n 0, 1) := by decide +kernel
theorem dX8_coloursSeenIn_2 : decode cX8_coloursSeenIn 2 = .ok (.isub, 1) := by decide +kernel
theorem dX8_coloursSeenIn_3 : decode cX8_coloursSeenIn 3 = .ok (.ireturn, 1) := by decide +kernel
theorem dX8_swap_0 : decode cX8_swap 0 = .ok (.aload_n 0, 1) := by decide +kernel
theorem dX8_swap_1 : decode cX8_swap 1 = .ok (.iload_n 1, 1) := by decide +kernel
theorem dX8_swap_2 : decode cX8_swap 2 = .ok (.iaload, 1) := by decide +kernel
theorem dX8_swap_3 : decode cX8_swap 3 = .ok (.istore_n 3, 1) := by decide +kernel
theorem dX8_swap_4 : decode cX8_swap 4 = .ok (.aload_n 0, 1) := by decide +kernel
theorem dX8_swap_5 : decode cX8_swap 5 = .ok (.iload_n 1, 1) := by decide +kernel
theorem dX8_swap_6 : decode cX8_swap 6 = .ok (.aload_n 0, 1) := by decide +kernel
theorem dX8_swap_7 : decode cX8_swap 7 = .ok (.iload_n 2, 1) := by decide +kernel
theorem dX8_swap_8 : decode cX8_swap 8 = .ok (.iaload, 1) := by decide +kernel
theorem dX8_swap_9 : decode cX8_swap 9 = .ok (.iastore, 1) := by decide +kernel
theorem dX8_swap_10 : decode cX8_swap 10 = .ok (.aload_n 0, 1) := by decide +kernel
theorem dX8_swap_11 : decode cX8_swap 11 = .ok (.iload_n 2, 1) := by decide +kernel
theorem dX8_swap_12 : decode cX8_swap 12 = .ok (.iload_n 3, 1) := by decide +kernel
theorem dX8_swap_13 : decode cX8_swap 13 = .ok (.iastore, 1) := by decide +kernel
theorem dX8_swap_14 : decode cX8_swap 14 = .ok (.return_, 1) := by decide +kernel
theorem dX8_stripesFrom_0 : decode cX8_stripesFrom 0 = .ok (.iload_n 1, 1) := by decide +kernel
theorem dX8_stripesFrom_1 : decode cX8_stripesFrom 1 = .ok (.i2l, 1) := by decide +kernel
theorem dX8_stripesFrom_2 : decode cX8_stripesFrom 2 = .ok (.iload_n 0, 1) := by decide +kernel
theorem dX8_stripesFrom_3 : decode cX8_stripesFrom 3 = .ok (.lshl, 1) := by decide +kernel
theorem dX8_stripesFrom_4 : decode cX8_stripesFrom 4 = .ok (.lstore_n 2, 1) := by decide +kernel
theorem dX8_stripesFrom_5 : decode cX8_stripesFrom 5 = .ok (.lload_n 2, 1) := by decide +kernel
theorem dX8_stripesFrom_6 : decode cX8_stripesFrom 6 = .ok (.lload_n 2, 1) := by decide +kernel
theorem dX8_stripesFrom_7 : decode cX8_stripesFrom 7 = .ok (.bipush 24, 2) := by decide +kernel
theorem dX8_stripesFrom_9 : decode cX8_stripesFrom 9 = .ok (.lushr, 1) := by decide +kernel
theorem dX8_stripesFrom_10 : decode cX8_stripesFrom 10 = .ok (.lor, 1) := by decide +kernel
theorem dX8_stripesFrom_11 : decode cX8_stripesFrom 11 = .ok (.ldc2_w 281, 3) := by decide +kernel
theorem dX8_stripesFrom_14 : decode cX8_stripesFrom 14 = .ok (.land, 1) := by decide +kernel
theorem dX8_stripesFrom_15 : decode cX8_stripesFrom 15 = .ok (.l2i, 1) := by decide +kernel
theorem dX8_stripesFrom_16 : decode cX8_stripesFrom 16 = .ok (.ireturn, 1) := by decide +kernel
theorem dX8_drawnFog_0 : decode cX8_drawnFog 0 = .ok (.ldc2_w 283, 3) := by decide +kernel
theorem dX8_drawnFog_3 : decode cX8_drawnFog 3 = .ok (.iload_n 0, 1) := by decide +kernel
theorem dX8_drawnFog_4 : decode cX8_drawnFog 4 = .ok (.i2l, 1) := by decide +kernel
theorem dX8_drawnFog_5 : decode cX8_drawnFog 5 = .ok (.lmul, 1) := by decide +kernel
theorem dX8_drawnFog_6 : decode cX8_drawnFog 6 = .ok (.ldc2_w 285, 3) := by decide +kernel
theorem dX8_drawnFog_9 : decode cX8_drawnFog 9 = .ok (.iload_n 1, 1) := by decide +kernel
theorem dX8_drawnFog_10 : decode cX8_drawnFog 10 = .ok (.i2l, 1) := by decide +kernel
theorem dX8_drawnFog_11 : decode cX8_drawnFog 11 = .ok (.lmul, 1) := by decide +kernel
theorem dX8_drawnFog_12 : decode cX8_drawnFog 12 = .ok (.ladd, 1) := by decide +kernel
theorem dX8_drawnFog_13 : decode cX8_drawnFog 13 = .ok (.lconst 1, 1) := by decide +kernel
theorem dX8_drawnFog_14 : decode cX8_drawnFog 14 = .ok (.ladd, 1) := by decide +kernel
theorem dX8_drawnFog_15 : decode cX8_drawnFog 15 = .ok (.lstore_n 2, 1) := by decide +kernel
theorem dX8_drawnFog_16 : decode cX8_drawnFog 16 = .ok (.lload_n 2, 1) := by decide +kernel
theorem dX8_drawnFog_17 : decode cX8_drawnFog 17 = .ok (.lload_n 2, 1) := by decide +kernel
theorem dX8_drawnFog_18 : decode cX8_drawnFog 18 = .ok (.lmul, 1) := by decide +kernel
theorem dX8_drawnFog_19 : decode cX8_drawnFog 19 = .ok (.ldc2_w 287, 3) := by decide +kernel
theorem dX8_drawnFog_22 : decode cX8_drawnFog 22 = .ok (.lrem, 1) := by decide +kernel
theorem dX8_drawnFog_23 : decode cX8_drawnFog 23 = .ok (.ldc2_w 289, 3) := by decide +kernel
theorem dX8_drawnFog_26 : decode cX8_drawnFog 26 = .ok (.ldiv, 1) := by decide +kernel
theorem dX8_drawnFog_27 : decode cX8_drawnFog 27 = .ok (.lstore 4, 2) := by decide +kernel
theorem dX8_drawnFog_29 : decode cX8_drawnFog 29 = .ok (.lload 4, 2) := by decide +kernel
theorem dX8_drawnFog_31 : decode cX8_drawnFog 31 = .ok (.ldc2_w 289, 3) := by decide +kernel
theorem dX8_drawnFog_34 : decode cX8_drawnFog 34 = .ok (.lrem, 1) := by decide +kernel
theorem dX8_drawnFog_35 : decode cX8_drawnFog 35 = .ok (.l2i, 1) := by decide +kernel
theorem dX8_drawnFog_36 : decode cX8_drawnFog 36 = .ok (.ireturn, 1) := by decide +kernel
theorem dX8_partOfTenths_0 : decode cX8_partOfTenths 0 = .ok (.iconst 1, 1) := by decide +kernel
theorem dX8_partOfTenths_1 : decode cX8_partOfTenths 1 = .ok (.istore_n 2, 1) := by decide +kernel
theorem dX8_partOfTenths_2 : decode cX8_partOfTenths 2 = .ok (.iconst 2, 1) := by decide +kernel
theorem dX8_partOfTenths_3 : decode cX8_partOfTenths 3 = .ok (.istore_n 3, 1) := by decide +kernel
theorem dX8_partOfTenths_4 : decode cX8_partOfTenths 4 = .ok (.iload_n 3, 1) := by decide +kernel
theorem dX8_partOfTenths_5 : decode cX8_partOfTenths 5 = .ok (.bipush 10, 2) := by decide +kernel
theorem dX8_partOfTenths_7 : decode cX8_partOfTenths 7 = .ok (.if_icmp .gt 24, 3) := by decide +kernel
theorem dX8_partOfTenths_10 : decode cX8_partOfTenths 10 = .ok (.iload_n 0, 1) := by decide +kernel
theorem dX8_partOfTenths_11 : decode cX8_partOfTenths 11 = .ok (.iload_n 3, 1) := by decide +kernel
theorem dX8_partOfTenths_12 : decode cX8_partOfTenths 12 = .ok (.irem, 1) := by decide +kernel
theorem dX8_partOfTenths_13 : decode cX8_partOfTenths 13 = .ok (.ifCond .ne 12, 3) := by decide +kernel
theorem dX8_partOfTenths_16 : decode cX8_partOfTenths 16 = .ok (.bipush 10, 2) := by decide +kernel
theorem dX8_partOfTenths_18 : decode cX8_partOfTenths 18 = .ok (.iload_n 3, 1) := by decide +kernel
theorem dX8_partOfTenths_19 : decode cX8_partOfTenths 19 = .ok (.irem, 1) := by decide +kernel
theorem dX8_partOfTenths_20 : decode cX8_partOfTenths 20 = .ok (.ifCond .ne 5, 3) := by decide +kernel
theorem dX8_partOfTenths_23 : decode cX8_partOfTenths 23 = .ok (.iload_n 3, 1) := by decide +kernel
theorem dX8_partOfTenths_24 : decode cX8_partOfTenths 24 = .ok (.istore_n 2, 1) := by decide +kernel
theorem dX8_partOfTenths_25 : decode cX8_partOfTenths 25 = .ok (.iinc 3 1, 3) := by decide +kernel
theorem dX8_partOfTenths_28 : decode cX8_partOfTenths 28 = .ok (.goto (-24), 3) := by decide +kernel
theorem dX8_partOfTenths_31 : decode cX8_partOfTenths 31 = .ok (.iload_n 1, 1) := by decide +kernel
theorem dX8_partOfTenths_32 : decode cX8_partOfTenths 32 = .ok (.ifCond .ne 9, 3) := by decide +kernel
theorem dX8_partOfTenths_35 : decode cX8_partOfTenths 35 = .ok (.iload_n 0, 1) := by decide +kernel
theorem dX8_partOfTenths_36 : decode cX8_partOfTenths 36 = .ok (.iload_n 2, 1) := by decide +kernel
theorem dX8_partOfTenths_37 : decode cX8_partOfTenths 37 = .ok (.idiv, 1) := by decide +kernel
theorem dX8_partOfTenths_38 : decode cX8_partOfTenths 38 = .ok (.goto 7, 3) := by decide +kernel
theorem dX8_partOfTenths_41 : decode cX8_partOfTenths 41 = .ok (.bipush 10, 2) := by decide +kernel
theorem dX8_partOfTenths_43 : decode cX8_partOfTenths 43 = .ok (.iload_n 2, 1) := by decide +kernel
theorem dX8_partOfTenths_44 : decode cX8_partOfTenths 44 = .ok (.idiv, 1) := by decide +kernel
theorem dX8_partOfTenths_45 : decode cX8_partOfTenths 45 = .ok (.ireturn, 1) := by decide +kernel
theorem dX8_lightAsNow_0 : decode cX8_lightAsNow 0 = .ok (.aload_n 0, 1) := by decide +kernel
theorem dX8_lightAsNow_1 : decode cX8_lightAsNow 1 = .ok (.aload_n 0, 1) := by decide +kernel
theorem dX8_lightAsNow_2 : decode cX8_lightAsNow 2 = .ok (.getfield 36, 3) := by decide +kernel
theorem dX8_lightAsNow_5 : decode cX8_lightAsNow 5 = .ok (.invokevirtual 272, 3) := by decide +kernel
theorem dX8_lightAsNow_8 : decode cX8_lightAsNow 8 = .ok (.return_, 1) := by decide +kernel
theorem dX8_lightAs_0 : decode cX8_lightAs 0 = .ok (.aload_n 0, 1) := by decide +kernel
theorem dX8_lightAs_1 : decode cX8_lightAs 1 = .ok (.getfield 65, 3) := by decide +kernel
theorem dX8_lightAs_4 : decode cX8_lightAs 4 = .ok (.aload_n 0, 1) := by decide +kernel
theorem dX8_lightAs_5 : decode cX8_lightAs 5 = .ok (.getfield 26, 3) := by decide +kernel
theorem dX8_lightAs_8 : decode cX8_lightAs 8 = .ok (.aload_n 1, 1) := by decide +kernel
theorem dX8_lightAs_9 : decode cX8_lightAs 9 = .ok (.invokevirtual 249, 3) := by decide +kernel
theorem dX8_lightAs_12 : decode cX8_lightAs 12 = .ok (.aload_n 0, 1) := by decide +kernel
theorem dX8_lightAs_13 : decode cX8_lightAs 13 = .ok (.getfield 65, 3) := by decide +kernel
theorem dX8_lightAs_16 : decode cX8_lightAs 16 = .ok (.aload_n 0, 1) := by decide +kernel
theorem dX8_lightAs_17 : decode cX8_lightAs 17 = .ok (.getfield 26, 3) := by decide +kernel
theorem dX8_lightAs_20 : decode cX8_lightAs 20 = .ok (.aload_n 1, 1) := by decide +kernel
theorem dX8_lightAs_21 : decode cX8_lightAs 21 = .ok (.aload_n 0, 1) := by decide +kernel
theorem dX8_lightAs_22 : decode cX8_lightAs 22 = .ok (.getfield 26, 3) := by decide +kernel
theorem dX8_lightAs_25 : decode cX8_lightAs 25 = .ok (.invokevirtual 219, 3) := by decide +kernel
theorem dX8_lightAs_28 : decode cX8_lightAs 28 = .ok (.aload_n 1, 1) := by decide +kernel
theorem dX8_lightAs_29 : decode cX8_lightAs 29 = .ok (.getfield 151, 3) := by decide +kernel
theorem dX8_lightAs_32 : decode cX8_lightAs 32 = .ok (.invokevirtual 236, 3) := by decide +kernel
theorem dX8_lightAs_35 : decode cX8_lightAs 35 = .ok (.return_, 1) := by decide +kernel
theorem dX8_sureByLightOf_0 : decode cX8_sureByLightOf 0 = .ok (.aload_n 0, 1) := by decide +kernel
theorem dX8_sureByLightOf_1 : decode cX8_sureByLightOf 1 = .ok (.getfield 65, 3) := by decide +kernel
theorem dX8_sureByLightOf_4 : decode cX8_sureByLightOf 4 = .ok (.aload_n 0, 1) := by decide +kernel
theorem dX8_sureByLightOf_5 : decode cX8_sureByLightOf 5 = .ok (.getfield 26, 3) := by decide +kernel
theorem dX8_sureByLightOf_8 : decode cX8_sureByLightOf 8 = .ok (.iload_n 1, 1) := by decide +kernel
theorem dX8_sureByLightOf_9 : decode cX8_sureByLightOf 9 = .ok (.aload_n 0, 1) := by decide +kernel
theorem dX8_sureByLightOf_10 : decode cX8_sureByLightOf 10 = .ok (.getfield 36, 3) := by decide +kernel
theorem dX8_sureByLightOf_13 : decode cX8_sureByLightOf 13 = .ok (.getfield 151, 3) := by decide +kernel
theorem dX8_sureByLightOf_16 : decode cX8_sureByLightOf 16 = .ok (.invokevirtual 236, 3) := by decide +kernel
theorem dX8_sureByLightOf_19 : decode cX8_sureByLightOf 19 = .ok (.aload_n 0, 1) := by decide +kernel
theorem dX8_sureByLightOf_20 : decode cX8_sureByLightOf 20 = .ok (.getfield 65, 3) := by decide +kernel
theorem dX8_sureByLightOf_23 : decode cX8_sureByLightOf 23 = .ok (.aload_n 0, 1) := by decide +kernel
theorem dX8_sureByLightOf_24 : decode cX8_sureByLightOf 24 = .ok (.getfield 26, 3) := by decide +kernel
theorem dX8_sureByLightOf_27 : decode cX8_sureByLightOf 27 = .ok (.iload_n 2, 1) := by decide +kernel
theorem dX8_sureByLightOf_28 : decode cX8_sureByLightOf 28 = .ok (.invokevirtual 205, 3) := by decide +kernel
theorem dX8_sureByLightOf_31 : decode cX8_sureByLightOf 31 = .ok (.invokestatic 222, 3) := by decide +kernel
theorem dX8_sureByLightOf_34 : decode cX8_sureByLightOf 34 = .ok (.ireturn, 1) := by decide +kernel
theorem dX8_sureTenths_0 : decode cX8_sureTenths 0 = .ok (.iconst 0, 1) := by decide +kernel
theorem dX8_sureTenths_1 : decode cX8_sureTenths 1 = .ok (.istore_n 2, 1) := by decide +kernel
theorem dX8_sureTenths_2 : decode cX8_sureTenths 2 = .ok (.iconst 0, 1) := by decide +kernel
theorem dX8_sureTenths_3 : decode cX8_sureTenths 3 = .ok (.istore_n 3, 1) := by decide +kernel
theorem dX8_sureTenths_4 : decode cX8_sureTenths 4 = .ok (.iload_n 3, 1) := by decide +kernel
theorem dX8_sureTenths_5 : decode cX8_sureTenths 5 = .ok (.iconst 4, 1) := by decide +kernel
theorem dX8_sureTenths_6 : decode cX8_sureTenths 6 = .ok (.if_icmp .ge 39, 3) := by decide +kernel
theorem dX8_sureTenths_9 : decode cX8_sureTenths 9 = .ok (.iload_n 2, 1) := by decide +kernel
theorem dX8_sureTenths_10 : decode cX8_sureTenths 10 = .ok (.aload_n 0, 1) := by decide +kernel
theorem dX8_sureTenths_11 : decode cX8_sureTenths 11 = .ok (.getfield 26, 3) := by decide +kernel
theorem dX8_sureTenths_14 : decode cX8_sureTenths 14 = .ok (.getfield 291, 3) := by decide +kernel
theorem dX8_sureTenths_17 : decode cX8_sureTenths 17 = .ok (.iload_n 3, 1) := by decide +kernel
theorem dX8_sureTenths_18 : decode cX8_sureTenths 18 = .ok (.iaload, 1) := by decide +kernel
theorem dX8_sureTenths_19 : decode cX8_sureTenths 19 = .ok (.aload_n 0, 1) := by decide +kernel
theorem dX8_sureTenths_20 : decode cX8_sureTenths 20 = .ok (.getfield 65, 3) := by decide +kernel
theorem dX8_sureTenths_23 : decode cX8_sureTenths 23 = .ok (.aload_n 0, 1) := by decide +kernel
theorem dX8_sureTenths_24 : decode cX8_sureTenths 24 = .ok (.getfield 26, 3) := by decide +kernel
theorem dX8_sureTenths_27 : decode cX8_sureTenths 27 = .ok (.iload_n 3, 1) := by decide +kernel
theorem dX8_sureTenths_28 : decode cX8_sureTenths 28 = .ok (.invokevirtual 205, 3) := by decide +kernel
theorem dX8_sureTenths_31 : decode cX8_sureTenths 31 = .ok (.iload_n 1, 1) := by decide +kernel
theorem dX8_sureTenths_32 : decode cX8_sureTenths 32 = .ok (.iand, 1) := by decide +kernel
theorem dX8_sureTenths_33 : decode cX8_sureTenths 33 = .ok (.invokestatic 222, 3) := by decide +kernel
theorem dX8_sureTenths_36 : decode cX8_sureTenths 36 = .ok (.imul, 1) := by decide +kernel
theorem dX8_sureTenths_37 : decode cX8_sureTenths 37 = .ok (.iadd, 1) := by decide +kernel
theorem dX8_sureTenths_38 : decode cX8_sureTenths 38 = .ok (.istore_n 2, 1) := by decide +kernel
theorem dX8_sureTenths_39 : decode cX8_sureTenths 39 = .ok (.iinc 3 1, 3) := by decide +kernel
theorem dX8_sureTenths_42 : decode cX8_sureTenths 42 = .ok (.goto (-38), 3) := by decide +kernel
theorem dX8_sureTenths_45 : decode cX8_sureTenths 45 = .ok (.iload_n 2, 1) := by decide +kernel
theorem dX8_sureTenths_46 : decode cX8_sureTenths 46 = .ok (.ireturn, 1) := by decide +kernel
theorem dX9_init_0 : decode cX9_init 0 = .ok (.aload_n 0, 1) := by decide +kernel
theorem dX9_init_1 : decode cX9_init 1 = .ok (.invokespecial 1, 3) := by decide +kernel
theorem dX9_init_4 : decode cX9_init 4 = .ok (.aload_n 0, 1) := by decide +kernel
theorem dX9_init_5 : decode cX9_init 5 = .ok (.bipush 18, 2) := by decide +kernel
theorem dX9_init_7 : decode cX9_init 7 = .ok (.newarray .int, 2) := by decide +kernel
theorem dX9_init_9 : decode cX9_init 9 = .ok (.putfield 7, 3) := by decide +kernel
theorem dX9_init_12 : decode cX9_init 12 = .ok (.aload_n 0, 1) := by decide +kernel
theorem dX9_init_13 : decode cX9_init 13 = .ok (.bipush 10, 2) := by decide +kernel
theorem dX9_init_15 : decode cX9_init 15 = .ok (.newarray .int, 2) := by decide +kernel
theorem dX9_init_17 : decode cX9_init 17 = .ok (.putfield 13, 3) := by decide +kernel
theorem dX9_init_20 : decode cX9_init 20 = .ok (.aload_n 0, 1) := by decide +kernel
theorem dX9_init_21 : decode cX9_init 21 = .ok (.iconst 4, 1) := by decide +kernel
theorem dX9_init_22 : decode cX9_init 22 = .ok (.newarray .int, 2) := by decide +kernel
theorem dX9_init_24 : decode cX9_init 24 = .ok (.putfield 16, 3) := by decide +kernel
theorem dX9_init_27 : decode cX9_init 27 = .ok (.aload_n 0, 1) := by decide +kernel
theorem dX9_init_28 : decode cX9_init 28 = .ok (.bipush 20, 2) := by decide +kernel
theorem dX9_init_30 : decode cX9_init 30 = .ok (.newarray .int, 2) := by decide +kernel
theorem dX9_init_32 : decode cX9_init 32 = .ok (.putfield 19, 3) := by decide +kernel
theorem dX9_init_35 : decode cX9_init 35 = .ok (.aload_n 0, 1) := by decide +kernel
theorem dX9_init_36 : decode cX9_init 36 = .ok (.sipush 160, 3) := by decide +kernel
theorem dX9_init_39 : decode cX9_init 39 = .ok (.newarray .int, 2) := by decide +kernel
theorem dX9_init_41 : decode cX9_init 41 = .ok (.putfield 22, 3) := by decide +kernel
theorem dX9_init_44 : decode cX9_init 44 = .ok (.aload_n 0, 1) := by decide +kernel
theorem dX9_init_45 : decode cX9_init 45 = .ok (.bipush 40, 2) := by decide +kernel
theorem dX9_init_47 : decode cX9_init 47 = .ok (.newarray .int, 2) := by decide +kernel
theorem dX9_init_49 : decode cX9_init 49 = .ok (.putfield 25, 3) := by decide +kernel
theorem dX9_init_52 : decode cX9_init 52 = .ok (.aload_n 0, 1) := by decide +kernel
theorem dX9_init_53 : decode cX9_init 53 = .ok (.bipush 16, 2) := by decide +kernel
theorem dX9_init_55 : decode cX9_init 55 = .ok (.newarray .int, 2) := by decide +kernel
theorem dX9_init_57 : decode cX9_init 57 = .ok (.putfield 28, 3) := by decide +kernel
theorem dX9_init_60 : decode cX9_init 60 = .ok (.aload_n 0, 1) := by decide +kernel
theorem dX9_init_61 : decode cX9_init 61 = .ok (.sipush 200, 3) := by decide +kernel
theorem dX9_init_64 : decode cX9_init 64 = .ok (.newarray .int, 2) := by decide +kernel
theorem dX9_init_66 : decode cX9_init 66 = .ok (.putfield 31, 3) := by decide +kernel
theorem dX9_init_69 : decode cX9_init 69 = .ok (.aload_n 0, 1) := by decide +kernel
theorem dX9_init_70 : decode cX9_init 70 = .ok (.iconst 5, 1) := by decide +kernel
theorem dX9_init_71 : decode cX9_init 71 = .ok (.newarray .int, 2) := by decide +kernel
theorem dX9_init_73 : decode cX9_init 73 = .ok (.putfield 34, 3) := by decide +kernel
theorem dX9_init_76 : decode cX9_init 76 = .ok (.aload_n 0, 1) := by decide +kernel
theorem dX9_init_77 : decode cX9_init 77 = .ok (.bipush 18, 2) := by decide +kernel
theorem dX9_init_79 : decode cX9_init 79 = .ok (.newarray .int, 2) := by decide +kernel
theorem dX9_init_81 : decode cX9_init 81 = .ok (.putfield 37, 3) := by decide +kernel
theorem dX9_init_84 : decode cX9_init 84 = .ok (.aload_n 0, 1) := by decide +kernel
theorem dX9_init_85 : decode cX9_init 85 = .ok (.bipush 10, 2) := by decide +kernel
theorem dX9_init_87 : decode cX9_init 87 = .ok (.newarray .int, 2) := by decide +kernel
theorem dX9_init_89 : decode cX9_init 89 = .ok (.putfield 40, 3) := by decide +kernel
theorem dX9_init_92 : decode cX9_init 92 = .ok (.aload_n 0, 1) := by decide +kernel
theorem dX9_init_93 : decode cX9_init 93 = .ok (.iconst 4, 1) := by decide +kernel
theorem dX9_init_94 : decode cX9_init 94 = .ok (.newarray .int, 2) := by decide +kernel
theorem dX9_init_96 : decode cX9_init 96 = .ok (.putfield 43, 3) := by decide +kernel
theorem dX9_init_99 : decode cX9_init 99 = .ok (.aload_n 0, 1) := by decide +kernel
theorem dX9_init_100 : decode cX9_init 100 = .ok (.bipush 20, 2) := by decide +kernel
theorem dX9_init_102 : decode cX9_init 102 = .ok (.newarray .int, 2) := by decide +kernel
theorem dX9_init_104 : decode cX9_init 104 = .ok (.putfield 46, 3) := by decide +kernel
theorem dX9_init_107 : decode cX9_init 107 = .ok (.aload_n 0, 1) := by decide +kernel
theorem dX9_init_108 : decode cX9_init 108 = .ok (.bipush 20, 2) := by decide +kernel
theorem dX9_init_110 : decode cX9_init 110 = .ok (.newarray .int, 2) := by decide +kernel
theorem dX9_init_112 : decode cX9_init 112 = .ok (.putfield 49, 3) := by decide +kernel
theorem dX9_init_115 : decode cX9_init 115 = .ok (.aload_n 0, 1) := by decide +kernel
theorem dX9_init_116 : decode cX9_init 116 = .ok (.bipush 24, 2) := by decide +kernel
theorem dX9_init_118 : decode cX9_init 118 = .ok (.newarray .int, 2) := by decide +kernel
theorem dX9_init_120 : decode cX9_init 120 = .ok (.putfield 52, 3) := by decide +kernel
theorem dX9_init_123 : decode cX9_init 123 = .ok (.aload_n 0, 1) := by decide +kernel
theorem dX9_init_124 : decode cX9_init 124 = .ok (.bipush 24, 2) := by decide +kernel
theorem dX9_init_126 : decode cX9_init 126 = .ok (.newarray .int, 2) := by decide +kernel
theorem dX9_init_128 : decode cX9_init 128 = .ok (.putfield 55, 3) := by decide +kernel
theorem dX9_init_131 : decode cX9_init 131 = .ok (.aload_n 0, 1) := by decide +kernel
theorem dX9_init_132 : decode cX9_init 132 = .ok (.bipush 6, 2) := by decide +kernel
theorem dX9_init_134 : decode cX9_init 134 = .ok (.newarray .int, 2) := by decide +kernel
theorem dX9_init_136 : decode cX9_init 136 = .ok (.putfield 58, 3) := by decide +kernel
theorem dX9_init_139 : decode cX9_init 139 = .ok (.aload_n 0, 1) := by decide +kernel
theorem dX9_init_140 : decode cX9_init 140 = .ok (.bipush 6, 2) := by decide +kernel
theorem dX9_init_142 : decode cX9_init 142 = .ok (.newarray .int, 2) := by decide +kernel
theorem dX9_init_144 : decode cX9_init 144 = .ok (.putfield 61, 3) := by decide +kernel
theorem dX9_init_147 : decode cX9_init 147 = .ok (.aload_n 0, 1) := by decide +kernel
theorem dX9_init_148 : decode cX9_init 148 = .ok (.invokevirtual 64, 3) := by decide +kernel
theorem dX9_init_151 : decode cX9_init 151 = .ok (.aload_n 0, 1) := by decide +kernel
theorem dX9_init_152 : decode cX9_init 152 = .ok (.iconst 0, 1) := by decide +kernel
theorem dX9_init_153 : decode cX9_init 153 = .ok (.iconst 0, 1) := by decide +kernel
theorem dX9_init_154 : decode cX9_init 154 = .ok (.bipush 6, 2) := by decide +kernel
theorem dX9_init_156 : decode cX9_init 156 = .ok (.iconst 5, 1) := by decide +kernel
theorem dX9_init_157 : decode cX9_init 157 = .ok (.iconst 0, 1) := by decide +kernel
theorem dX9_init_158 : decode cX9_init 158 = .ok (.invokevirtual 67, 3) := by decide +kernel
theorem dX9_init_161 : decode cX9_init 161 = .ok (.aload_n 0, 1) := by decide +kernel
theorem dX9_init_162 : decode cX9_init 162 = .ok (.iconst 1, 1) := by decide +kernel
theorem dX9_init_163 : decode cX9_init 163 = .ok (.bipush 6, 2) := by decide +kernel
theorem dX9_init_165 : decode cX9_init 165 = .ok (.iconst 4, 1) := by decide +kernel
theorem dX9_init_166 : decode cX9_init 166 = .ok (.iconst 3, 1) := by decide +kernel
theorem dX9_init_167 : decode cX9_init 167 = .ok (.iconst 1, 1) := by decide +kernel
theorem dX9_init_168 : decode cX9_init 168 = .ok (.invokevirtual 67, 3) := by decide +kernel
theorem dX9_init_171 : decode cX9_init 171 = .ok (.aload_n 0, 1) := by decide +kernel
theorem dX9_init_172 : decode cX9_init 172 = .ok (.iconst 2, 1) := by decide +kernel
theorem dX9_init_173 : decode cX9_init 173 = .ok (.bipush 9, 2) := by decide +kernel
theorem dX9_init_175 : decode cX9_init 175 = .ok (.iconst 5, 1) := by decide +kernel
theorem dX9_init_176 : decode cX9_init 176 = .ok (.bipush 8, 2) := by decide +kernel
theorem dX9_init_178 : decode cX9_init 178 = .ok (.iconst 2, 1) := by decide +kernel
theorem dX9_init_179 : decode cX9_init 179 = .ok (.invokevirtual 67, 3) := by decide +kernel
theorem dX9_init_182 : decode cX9_init 182 = .ok (.aload_n 0, 1) := by decide +kernel
theorem dX9_init_183 : decode cX9_init 183 = .ok (.iconst 3, 1) := by decide +kernel
theorem dX9_init_184 : decode cX9_init 184 = .ok (.bipush 16, 2) := by decide +kernel
theorem dX9_init_186 : decode cX9_init 186 = .ok (.bipush 6, 2) := by decide +kernel
theorem dX9_init_188 : decode cX9_init 188 = .ok (.iconst 1, 1) := by decide +kernel
theorem dX9_init_189 : decode cX9_init 189 = .ok (.iconst 0, 1) := by decide +kernel
theorem dX9_init_190 : decode cX9_init 190 = .ok (.invokevirtual 67, 3) := by decide +kernel
theorem dX9_init_193 : decode cX9_init 193 = .ok (.aload_n 0, 1) := by decide +kernel
theorem dX9_init_194 : decode cX9_init 194 = .ok (.iconst 1, 1) := by decide +kernel
theorem dX9_init_195 : decode cX9_init 195 = .ok (.bipush 20, 2) := by decide +kernel
theorem dX9_init_197 : decode cX9_init 197 = .ok (.iconst 2, 1) := by decide +kernel
theorem dX9_init_198 : decode cX9_init 198 = .ok (.iconst 2, 1) := by decide +kernel
theorem dX9_init_199 : decode cX9_init 199 = .ok (.iconst 3, 1) := by decide +kernel
theorem dX9_init_200 : decode cX9_init 200 = .ok (.invokevirtual 67, 3) := by decide +kernel
theorem dX9_init_203 : decode cX9_init 203 = .ok (.aload_n 0, 1) := by decide +kernel
theorem dX9_init_204 : decode cX9_init 204 = .ok (.iconst 0, 1) := by decide +kernel
theorem dX9_init_205 : decode cX9_init 205 = .ok (.bipush 6, 2) := by decide +kernel
theorem dX9_init_207 : decode cX9_init 207 = .ok (.invokevirtual 71, 3) := by decide +kernel
theorem dX9_init_210 : decode cX9_init 210 = .ok (.aload_n 0, 1) := by decide +kernel
theorem dX9_init_211 : decode cX9_init 211 = .ok (.bipush 8, 2) := by decide +kernel
theorem dX9_init_213 : decode cX9_init 213 = .ok (.iconst 4, 1) := by decide +kernel
theorem dX9_init_214 : decode cX9_init 214 = .ok (.invokevirtual 71, 3) := by decide +kernel
theorem dX9_init_217 : decode cX9_init 217 = .ok (.aload_n 0, 1) := by decide +kernel
theorem dX9_init_218 : decode cX9_init 218 = .ok (.bipush 15, 2) := by decide +kernel
theorem dX9_init_220 : decode cX9_init 220 = .ok (.iconst 5, 1) := by decide +kernel
theorem dX9_init_221 : decode cX9_init 221 = .ok (.invokevirtual 71, 3) := by decide +kernel
theorem dX9_init_224 : decode cX9_init 224 = .ok (.aload_n 0, 1) := by decide +kernel
theorem dX9_init_225 : decode cX9_init 225 = .ok (.bipush 22, 2) := by decide +kernel
theorem dX9_init_227 : decode cX9_init 227 = .ok (.iconst 4, 1) := by decide +kernel
theorem dX9_init_228 : decode cX9_init 228 = .ok (.invokevirtual 71, 3) := by decide +kernel
theorem dX9_init_231 : decode cX9_init 231 = .ok (.aload_n 0, 1) := by decide +kernel
theorem dX9_init_232 : decode cX9_init 232 = .ok (.invokevirtual 75, 3) := by decide +kernel
theorem dX9_init_235 : decode cX9_init 235 = .ok (.return_, 1) := by decide +kernel
theorem dX9_tells_0 : decode cX9_tells 0 = .ok (.aload_n 0, 1) := by decide +kernel
theorem dX9_tells_1 : decode cX9_tells 1 = .ok (.getfield 37, 3) := by decide +kernel
theorem dX9_tells_4 : decode cX9_tells 4 = .ok (.iconst 3, 1) := by decide +kernel
theorem dX9_tells_5 : decode cX9_tells 5 = .ok (.aload_n 0, 1) := by decide +kernel
theorem dX9_tells_6 : decode cX9_tells 6 = .ok (.getfield 78, 3) := by decide +kernel
theorem dX9_tells_9 : decode cX9_tells 9 = .ok (.imul, 1) := by decide +kernel
theorem dX9_tells_10 : decode cX9_tells 10 = .ok (.iload_n 1, 1) := by decide +kernel
theorem dX9_tells_11 : decode cX9_tells 11 = .ok (.iastore, 1) := by decide +kernel
theorem dX9_tells_12 : decode cX9_tells 12 = .ok (.aload_n 0, 1) := by decide +kernel
theorem dX9_tells_13 : decode cX9_tells 13 = .ok (.getfield 37, 3) := by decide +kernel
theorem dX9_tells_16 : decode cX9_tells 16 = .ok (.iconst 3, 1) := by decide +kernel
theorem dX9_tells_17 : decode cX9_tells 17 = .ok (.aload_n 0, 1) := by decide +kernel
theorem dX9_tells_18 : decode cX9_tells 18 = .ok (.getfield 78, 3) := by decide +kernel
theorem dX9_tells_21 : decode cX9_tells 21 = .ok (.imul, 1) := by decide +kernel
theorem dX9_tells_22 : decode cX9_tells 22 = .ok (.iconst 1, 1) := by decide +kernel
theorem dX9_tells_23 : decode cX9_tells 23 = .ok (.iadd, 1) := by decide +kernel
theorem dX9_tells_24 : decode cX9_tells 24 = .ok (.iload 4, 2) := by decide +kernel
theorem dX9_tells_26 : decode cX9_tells 26 = .ok (.iastore, 1) := by decide +kernel
theorem dX9_tells_27 : decode cX9_tells 27 = .ok (.aload_n 0, 1) := by decide +kernel
theorem dX9_tells_28 : decode cX9_tells 28 = .ok (.getfield 37, 3) := by decide +kernel
theorem dX9_tells_31 : decode cX9_tells 31 = .ok (.iconst 3, 1) := by decide +kernel
theorem dX9_tells_32 : decode cX9_tells 32 = .ok (.aload_n 0, 1) := by decide +kernel
theorem dX9_tells_33 : decode cX9_tells 33 = .ok (.getfield 78, 3) := by decide +kernel
theorem dX9_tells_36 : decode cX9_tells 36 = .ok (.imul, 1) := by decide +kernel
theorem dX9_tells_37 : decode cX9_tells 37 = .ok (.iconst 2, 1) := by decide +kernel
theorem dX9_tells_38 : decode cX9_tells 38 = .ok (.iadd, 1) := by decide +kernel
theorem dX9_tells_39 : decode cX9_tells 39 = .ok (.iload 5, 2) := by decide +kernel
theorem dX9_tells_41 : decode cX9_tells 41 = .ok (.iastore, 1) := by decide +kernel
theorem dX9_tells_42 : decode cX9_tells 42 = .ok (.aload_n 0, 1) := by decide +kernel
theorem dX9_tells_43 : decode cX9_tells 43 = .ok (.getfield 46, 3) := by decide +kernel
theorem dX9_tells_46 : decode cX9_tells 46 = .ok (.bipush 8, 2) := by decide +kernel
theorem dX9_tells_48 : decode cX9_tells 48 = .ok (.aload_n 0, 1) := by decide +kernel
theorem dX9_tells_49 : decode cX9_tells 49 = .ok (.getfield 78, 3) := by decide +kernel
theorem dX9_tells_52 : decode cX9_tells 52 = .ok (.iadd, 1) := by decide +kernel
theorem dX9_tells_53 : decode cX9_tells 53 = .ok (.iload_n 2, 1) := by decide +kernel
theorem dX9_tells_54 : decode cX9_tells 54 = .ok (.iastore, 1) := by decide +kernel
theorem dX9_tells_55 : decode cX9_tells 55 = .ok (.aload_n 0, 1) := by decide +kernel
theorem dX9_tells_56 : decode cX9_tells 56 = .ok (.getfield 46, 3) := by decide +kernel
theorem dX9_tells_59 : decode cX9_tells 59 = .ok (.bipush 14, 2) := by decide +kernel
theorem dX9_tells_61 : decode cX9_tells 61 = .ok (.aload_n 0, 1) := by decide +kernel
theorem dX9_tells_62 : decode cX9_tells 62 = .ok (.getfield 78, 3) := by decide +kernel
theorem dX9_tells_65 : decode cX9_tells 65 = .ok (.iadd, 1) := by decide +kernel
theorem dX9_tells_66 : decode cX9_tells 66 = .ok (.iload_n 3, 1) := by decide +kernel
theorem dX9_tells_67 : decode cX9_tells 67 = .ok (.iastore, 1) := by decide +kernel
theorem dX9_tells_68 : decode cX9_tells 68 = .ok (.aload_n 0, 1) := by decide +kernel
theorem dX9_tells_69 : decode cX9_tells 69 = .ok (.dup, 1) := by decide +kernel
theorem dX9_tells_70 : decode cX9_tells 70 = .ok (.getfield 78, 3) := by decide +kernel
theorem dX9_tells_73 : decode cX9_tells 73 = .ok (.iconst 1, 1) := by decide +kernel
theorem dX9_tells_74 : decode cX9_tells 74 = .ok (.iadd, 1) := by decide +kernel
theorem dX9_tells_75 : decode cX9_tells 75 = .ok (.putfield 78, 3) := by decide +kernel
theorem dX9_tells_78 : decode cX9_tells 78 = .ok (.return_, 1) := by decide +kernel
theorem dX9_tellsShip_0 : decode cX9_tellsShip 0 = .ok (.aload_n 0, 1) := by decide +kernel
theorem dX9_tellsShip_1 : decode cX9_tellsShip 1 = .ok (.getfield 40, 3) := by decide +kernel
theorem dX9_tellsShip_4 : decode cX9_tellsShip 4 = .ok (.iconst 2, 1) := by decide +kernel
theorem dX9_tellsShip_5 : decode cX9_tellsShip 5 = .ok (.aload_n 0, 1) := by decide +kernel
theorem dX9_tellsShip_6 : decode cX9_tellsShip 6 = .ok (.getfield 82, 3) := by decide +kernel
theorem dX9_tellsShip_9 : decode cX9_tellsShip 9 = .ok (.imul, 1) := by decide +kernel
theorem dX9_tellsShip_10 : decode cX9_tellsShip 10 = .ok (.iload_n 1, 1) := by decide +kernel
theorem dX9_tellsShip_11 : decode cX9_tellsShip 11 = .ok (.iastore, 1) := by decide +kernel
theorem dX9_tellsShip_12 : decode cX9_tellsShip 12 = .ok (.aload_n 0, 1) := by decide +kernel
theorem dX9_tellsShip_13 : decode cX9_tellsShip 13 = .ok (.getfield 40, 3) := by decide +kernel
theorem dX9_tellsShip_16 : decode cX9_tellsShip 16 = .ok (.iconst 2, 1) := by decide +kernel
theorem dX9_tellsShip_17 : decode cX9_tellsShip 17 = .ok (.aload_n 0, 1) := by decide +kernel
theorem dX9_tellsShip_18 : decode cX9_tellsShip 18 = .ok (.getfield 82, 3) := by decide +kernel
theorem dX9_tellsShip_21 : decode cX9_tellsShip 21 = .ok (.imul, 1) := by decide +kernel
theorem dX9_tellsShip_22 : decode cX9_tellsShip 22 = .ok (.iconst 1, 1) := by decide +kernel
theorem dX9_tellsShip_23 : decode cX9_tellsShip 23 = .ok (.iadd, 1) := by decide +kernel
theorem dX9_tellsShip_24 : decode cX9_tellsShip 24 = .ok (.iload_n 2, 1) := by decide +kernel
theorem dX9_tellsShip_25 : decode cX9_tellsShip 25 = .ok (.iastore, 1) := by decide +kernel
theorem dX9_tellsShip_26 : decode cX9_tellsShip 26 = .ok (.aload_n 0, 1) := by decide +kernel
theorem dX9_tellsShip_27 : decode cX9_tellsShip 27 = .ok (.dup, 1) := by decide +kernel
theorem dX9_tellsShip_28 : decode cX9_tellsShip 28 = .ok (.getfield 82, 3) := by decide +kernel
theorem dX9_tellsShip_31 : decode cX9_tellsShip 31 = .ok (.iconst 1, 1) := by decide +kernel
theorem dX9_tellsShip_32 : decode cX9_tellsShip 32 = .ok (.iadd, 1) := by decide +kernel
theorem dX9_tellsShip_33 : decode cX9_tellsShip 33 = .ok (.putfield 82, 3) := by decide +kernel
theorem dX9_tellsShip_36 : decode cX9_tellsShip 36 = .ok (.return_, 1) := by decide +kernel
theorem dX9_in_0 : decode cX9_in 0 = .ok (.iload_n 0, 1) := by decide +kernel
theorem dX9_in_1 : decode cX9_in 1 = .ok (.iload_n 1, 1) := by decide +kernel
theorem dX9_in_2 : decode cX9_in 2 = .ok (.if_icmp .lt 12, 3) := by decide +kernel
theorem dX9_in_5 : decode cX9_in 5 = .ok (.iload_n 0, 1) := by decide +kernel
theorem dX9_in_6 : decode cX9_in 6 = .ok (.iload_n 2, 1) := by decide +kernel
theorem dX9_in_7 : decode cX9_in 7 = .ok (.if_icmp .gt 7, 3) := by decide +kernel
theorem dX9_in_10 : decode cX9_in 10 = .ok (.iconst 1, 1) := by decide +kernel
theorem dX9_in_11 : decode cX9_in 11 = .ok (.goto 4, 3) := by decide +kernel
theorem dX9_in_14 : decode cX9_in 14 = .ok (.iconst 0, 1) := by decide +kernel
theorem dX9_in_15 : decode cX9_in 15 = .ok (.ireturn, 1) := by decide +kernel
theorem dX9_has_0 : decode cX9_has 0 = .ok (.iload_n 0, 1) := by decide +kernel
theorem dX9_has_1 : decode cX9_has 1 = .ok (.iload_n 1, 1) := by decide +kernel
theorem dX9_has_2 : decode cX9_has 2 = .ok (.ishr, 1) := by decide +kernel
theorem dX9_has_3 : decode cX9_has 3 = .ok (.iconst 1, 1) := by decide +kernel
theorem dX9_has_4 : decode cX9_has 4 = .ok (.iand, 1) := by decide +kernel
theorem dX9_has_5 : decode cX9_has 5 = .ok (.iconst 1, 1) := by decide +kernel
theorem dX9_has_6 : decode cX9_has 6 = .ok (.if_icmp .ne 7, 3) := by decide +kernel
theorem dX9_has_9 : decode cX9_has 9 = .ok (.iconst 1, 1) := by decide +kernel
theorem dX9_has_10 : decode cX9_has 10 = .ok (.goto 4, 3) := by decide +kernel
theorem dX9_has_13 : decode cX9_has 13 = .ok (.iconst 0, 1) := by decide +kernel
theorem dX9_has_14 : decode cX9_has 14 = .ok (.ireturn, 1) := by decide +kernel
theorem dX9_bits_0 : decode cX9_bits 0 = .ok (.iconst 0, 1) := by decide +kernel
theorem dX9_bits_1 : decode cX9_bits 1 = .ok (.istore_n 1, 1) := by decide +kernel
theorem dX9_bits_2 : decode cX9_bits 2 = .ok (.iconst 0, 1) := by decide +kernel
theorem dX9_bits_3 : decode cX9_bits 3 = .ok (.istore_n 2, 1) := by decide +kernel
theorem dX9_bits_4 : decode cX9_bits 4 = .ok (.iload_n 2, 1) := by decide +kernel
theorem dX9_bits_5 : decode cX9_bits 5 = .ok (.bipush 24, 2) := by decide +kernel
theorem dX9_bits_7 : decode cX9_bits 7 = .ok (.if_icmp .ge 17, 3) := by decide +kernel
theorem dX9_bits_10 : decode cX9_bits 10 = .ok (.iload_n 1, 1) := by decide +kernel
theorem dX9_bits_11 : decode cX9_bits 11 = .ok (.iload_n 0, 1) := by decide +kernel
theorem dX9_bits_12 : decode cX9_bits 12 = .ok (.iload_n 2, 1) := by decide +kernel
theorem dX9_bits_13 : decode cX9_bits 13 = .ok (.ishr, 1) := by decide +kernel
theorem dX9_bits_14 : decode cX9_bits 14 = .ok (.iconst 1, 1) := by decide +kernel
theorem dX9_bits_15 : decode cX9_bits 15 = .ok (.iand, 1) := by decide +kernel
theorem dX9_bits_16 : decode cX9_bits 16 = .ok (.iadd, 1) := by decide +kernel
theorem dX9_bits_17 : decode cX9_bits 17 = .ok (.istore_n 1, 1) := by decide +kernel
theorem dX9_bits_18 : decode cX9_bits 18 = .ok (.iinc 2 1, 3) := by decide +kernel
theorem dX9_bits_21 : decode cX9_bits 21 = .ok (.goto (-17), 3) := by decide +kernel
theorem dX9_bits_24 : decode cX9_bits 24 = .ok (.iload_n 1, 1) := by decide +kernel
theorem dX9_bits_25 : decode cX9_bits 25 = .ok (.ireturn, 1) := by decide +kernel
theorem dX9_isTenant_0 : decode cX9_isTenant 0 = .ok (.iload_n 1, 1) := by decide +kernel
theorem dX9_isTenant_1 : decode cX9_isTenant 1 = .ok (.iconst 0, 1) := by decide +kernel
theorem dX9_isTenant_2 : decode cX9_isTenant 2 = .ok (.aload_n 0, 1) := by decide +kernel
theorem dX9_isTenant_3 : decode cX9_isTenant 3 = .ok (.getfield 85, 3) := by decide +kernel
theorem dX9_isTenant_6 : decode cX9_isTenant 6 = .ok (.iconst 1, 1) := by decide +kernel
theorem dX9_isTenant_7 : decode cX9_isTenant 7 = .ok (.isub, 1) := by decide +kernel
theorem dX9_isTenant_8 : decode cX9_isTenant 8 = .ok (.invokestatic 88, 3) := by decide +kernel
theorem dX9_isTenant_11 : decode cX9_isTenant 11 = .ok (.ireturn, 1) := by decide +kernel
theorem dX9_isShip_0 : decode cX9_isShip 0 = .ok (.iload_n 1, 1) := by decide +kernel
theorem dX9_isShip_1 : decode cX9_isShip 1 = .ok (.iconst 0, 1) := by decide +kernel
theorem dX9_isShip_2 : decode cX9_isShip 2 = .ok (.aload_n 0, 1) := by decide +kernel
theorem dX9_isShip_3 : decode cX9_isShip 3 = .ok (.getfield 92, 3) := by decide +kernel
theorem dX9_isShip_6 : decode cX9_isShip 6 = .ok (.iconst 1, 1) := by decide +kernel
theorem dX9_isShip_7 : decode cX9_isShip 7 = .ok (.isub, 1) := by decide +kernel
theorem dX9_isShip_8 : decode cX9_isShip 8 = .ok (.invokestatic 88, 3) := by decide +kernel
theorem dX9_isShip_11 : decode cX9_isShip 11 = .ok (.ireturn, 1) := by decide +kernel
theorem dX9_isStripe_0 : decode cX9_isStripe 0 = .ok (.iload_n 0, 1) := by decide +kernel
theorem dX9_isStripe_1 : decode cX9_isStripe 1 = .ok (.iconst 0, 1) := by decide +kernel
theorem dX9_isStripe_2 : decode cX9_isStripe 2 = .ok (.bipush 23, 2) := by decide +kernel
theorem dX9_isStripe_4 : decode cX9_isStripe 4 = .ok (.invokestatic 88, 3) := by decide +kernel
theorem dX9_isStripe_7 : decode cX9_isStripe 7 = .ok (.ireturn, 1) := by decide +kernel
theorem dX9_isFog_0 : decode cX9_isFog 0 = .ok (.iload_n 0, 1) := by decide +kernel
theorem dX9_isFog_1 : decode cX9_isFog 1 = .ok (.iconst 0, 1) := by decide +kernel
theorem dX9_isFog_2 : decode cX9_isFog 2 = .ok (.iconst 3, 1) := by decide +kernel
theorem dX9_isFog_3 : decode cX9_isFog 3 = .ok (.invokestatic 88, 3) := by decide +kernel
theorem dX9_isFog_6 : decode cX9_isFog 6 = .ok (.ireturn, 1) := by decide +kernel
theorem dX9_write_0 : decode cX9_write 0 = .ok (.iload_n 1, 1) := by decide +kernel
theorem dX9_write_1 : decode cX9_write 1 = .ok (.bipush 32, 2) := by decide +kernel
theorem dX9_write_3 : decode cX9_write 3 = .ok (.bipush 126, 2) := by decide +kernel
theorem dX9_write_5 : decode cX9_write 5 = .ok (.invokestatic 88, 3) := by decide +kernel
theorem dX9_write_8 : decode cX9_write 8 = .ok (.ifCond .ne 5, 3) := by decide +kernel
theorem dX9_write_11 : decode cX9_write 11 = .ok (.iconst (-1), 1) := by decide +kernel
theorem dX9_write_12 : decode cX9_write 12 = .ok (.ireturn, 1) := by decide +kernel
theorem dX9_write_13 : decode cX9_write 13 = .ok (.aload_n 0, 1) := by decide +kernel
theorem dX9_write_14 : decode cX9_write 14 = .ok (.getfield 95, 3) := by decide +kernel
theorem dX9_write_17 : decode cX9_write 17 = .ok (.sipush 200, 3) := by decide +kernel
theorem dX9_write_20 : decode cX9_write 20 = .ok (.if_icmp .ne 6, 3) := by decide +kernel
theorem dX9_write_23 : decode cX9_write 23 = .ok (.bipush (-3), 2) := by decide +kernel
theorem dX9_write_25 : decode cX9_write 25 = .ok (.ireturn, 1) := by decide +kernel
theorem dX9_write_26 : decode cX9_write 26 = .ok (.aload_n 0, 1) := by decide +kernel
theorem dX9_write_27 : decode cX9_write 27 = .ok (.getfield 31, 3) := by decide +kernel
theorem dX9_write_30 : decode cX9_write 30 = .ok (.aload_n 0, 1) := by decide +kernel
theorem dX9_write_31 : decode cX9_write 31 = .ok (.getfield 95, 3) := by decide +kernel
theorem dX9_write_34 : decode cX9_write 34 = .ok (.iload_n 1, 1) := by decide +kernel
theorem dX9_write_35 : decode cX9_write 35 = .ok (.iastore, 1) := by decide +kernel
theorem dX9_write_36 : decode cX9_write 36 = .ok (.aload_n 0, 1) := by decide +kernel
theorem dX9_write_37 : decode cX9_write 37 = .ok (.dup, 1) := by decide +kernel
theorem dX9_write_38 : decode cX9_write 38 = .ok (.getfield 95, 3) := by decide +kernel
theorem dX9_write_41 : decode cX9_write 41 = .ok (.iconst 1, 1) := by decide +kernel
theorem dX9_write_42 : decode cX9_write 42 = .ok (.iadd, 1) := by decide +kernel
theorem dX9_write_43 : decode cX9_write 43 = .ok (.putfield 95, 3) := by decide +kernel
theorem dX9_write_46 : decode cX9_write 46 = .ok (.aload_n 0, 1) := by decide +kernel
theorem dX9_write_47 : decode cX9_write 47 = .ok (.getfield 95, 3) := by decide +kernel
theorem dX9_write_50 : decode cX9_write 50 = .ok (.ireturn, 1) := by decide +kernel
theorem dX9_wipe_0 : decode cX9_wipe 0 = .ok (.aload_n 0, 1) := by decide +kernel
theorem dX9_wipe_1 : decode cX9_wipe 1 = .ok (.getfield 95, 3) := by decide +kernel
theorem dX9_wipe_4 : decode cX9_wipe 4 = .ok (.istore_n 1, 1) := by decide +kernel
theorem dX9_wipe_5 : decode cX9_wipe 5 = .ok (.aload_n 0, 1) := by decide +kernel
theorem dX9_wipe_6 : decode cX9_wipe 6 = .ok (.iconst 0, 1) := by decide +kernel
theorem dX9_wipe_7 : decode cX9_wipe 7 = .ok (.putfield 95, 3) := by decide +kernel
theorem dX9_wipe_10 : decode cX9_wipe 10 = .ok (.iload_n 1, 1) := by decide +kernel
theorem dX9_wipe_11 : decode cX9_wipe 11 = .ok (.ireturn, 1) := by decide +kernel
theorem dX9_letterAt_0 : decode cX9_letterAt 0 = .ok (.iload_n 1, 1) := by decide +kernel
theorem dX9_letterAt_1 : decode cX9_letterAt 1 = .ok (.aload_n 0, 1) := by decide +kernel
theorem dX9_letterAt_2 : decode cX9_letterAt 2 = .ok (.getfield 95, 3) := by decide +kernel
theorem dX9_letterAt_5 : decode cX9_letterAt 5 = .ok (.if_icmp .ge 12, 3) := by decide +kernel
theorem dX9_letterAt_8 : decode cX9_letterAt 8 = .ok (.aload_n 0, 1) := by decide +kernel
theorem dX9_letterAt_9 : decode cX9_letterAt 9 = .ok (.getfield 31, 3) := by decide +kernel
theorem dX9_letterAt_12 : decode cX9_letterAt 12 = .ok (.iload_n 1, 1) := by decide +kernel
theorem dX9_letterAt_13 : decode cX9_letterAt 13 = .ok (.iaload, 1) := by decide +kernel
theorem dX9_letterAt_14 : decode cX9_letterAt 14 = .ok (.goto 4, 3) := by decide +kernel
theorem dX9_letterAt_17 : decode cX9_letterAt 17 = .ok (.iconst (-1), 1) := by decide +kernel
theorem dX9_letterAt_18 : decode cX9_letterAt 18 = .ok (.ireturn, 1) := by decide +kernel
theorem dX9_isFigure_0 : decode cX9_isFigure 0 = .ok (.iload_n 0, 1) := by decide +kernel
theorem dX9_isFigure_1 : decode cX9_isFigure 1 = .ok (.bipush 48, 2) := by decide +kernel
theorem dX9_isFigure_3 : decode cX9_isFigure 3 = .ok (.bipush 57, 2) := by decide +kernel
theorem dX9_isFigure_5 : decode cX9_isFigure 5 = .ok (.invokestatic 88, 3) := by decide +kernel
theorem dX9_isFigure_8 : decode cX9_isFigure 8 = .ok (.ireturn, 1) := by decide +kernel
theorem dX9_readNumbers_0 : decode cX9_readNumbers 0 = .ok (.iconst 0, 1) := by decide +kernel
theorem dX9_readNumbers_1 : decode cX9_readNumbers 1 = .ok (.istore_n 2, 1) := by decide +kernel
theorem dX9_readNumbers_2 : decode cX9_readNumbers 2 = .ok (.iload_n 2, 1) := by decide +kernel
theorem dX9_readNumbers_3 : decode cX9_readNumbers 3 = .ok (.iload_n 1, 1) := by decide +kernel
theorem dX9_readNumbers_4 : decode cX9_readNumbers 4 = .ok (.if_icmp .ge 140, 3) := by decide +kernel
theorem dX9_readNumbers_7 : decode cX9_readNumbers 7 = .ok (.aload_n 0, 1) := by decide +kernel
theorem dX9_readNumbers_8 : decode cX9_readNumbers 8 = .ok (.aload_n 0, 1) := by decide +kernel
theorem dX9_readNumbers_9 : decode cX9_readNumbers 9 = .ok (.getfield 98, 3) := by decide +kernel
theorem dX9_readNumbers_12 : decode cX9_readNumbers 12 = .ok (.invokevirtual 101, 3) := by decide +kernel
theorem dX9_readNumbers_15 : decode cX9_readNumbers 15 = .ok (.invokestatic 105, 3) := by decide +kernel
theorem dX9_readNumbers_18 : decode cX9_readNumbers 18 = .ok (.ifCond .ne 5, 3) := by decide +kernel
theorem dX9_readNumbers_21 : decode cX9_readNumbers 21 = .ok (.iconst 0, 1) := by decide +kernel
theorem dX9_readNumbers_22 : decode cX9_readNumbers 22 = .ok (.ireturn, 1) := by decide +kernel
theorem dX9_readNumbers_23 : decode cX9_readNumbers 23 = .ok (.aload_n 0, 1) := by decide +kernel
theorem dX9_readNumbers_24 : decode cX9_readNumbers 24 = .ok (.getfield 34, 3) := by decide +kernel
theorem dX9_readNumbers_27 : decode cX9_readNumbers 27 = .ok (.iload_n 2, 1) := by decide +kernel
theorem dX9_readNumbers_28 : decode cX9_readNumbers 28 = .ok (.aload_n 0, 1) := by decide +kernel
theorem dX9_readNumbers_29 : decode cX9_readNumbers 29 = .ok (.aload_n 0, 1) := by decide +kernel
theorem dX9_readNumbers_30 : decode cX9_readNumbers 30 = .ok (.getfield 98, 3) := by decide +kernel
theorem dX9_readNumbers_33 : decode cX9_readNumbers 33 = .ok (.invokevirtual 101, 3) := by decide +kernel
theorem dX9_readNumbers_36 : decode cX9_readNumbers 36 = .ok (.bipush 48, 2) := by decide +kernel
theorem dX9_readNumbers_38 : decode cX9_readNumbers 38 = .ok (.isub, 1) := by decide +kernel
theorem dX9_readNumbers_39 : decode cX9_readNumbers 39 = .ok (.iastore, 1) := by decide +kernel
theorem dX9_readNumbers_40 : decode cX9_readNumbers 40 = .ok (.aload_n 0, 1) := by decide +kernel
theorem dX9_readNumbers_41 : decode cX9_readNumbers 41 = .ok (.dup, 1) := by decide +kernel
theorem dX9_readNumbers_42 : decode cX9_readNumbers 42 = .ok (.getfield 98, 3) := by decide +kernel
theorem dX9_readNumbers_45 : decode cX9_readNumbers 45 = .ok (.iconst 1, 1) := by decide +kernel
theorem dX9_readNumbers_46 : decode cX9_readNumbers 46 = .ok (.iadd, 1) := by decide +kernel
theorem dX9_readNumbers_47 : decode cX9_readNumbers 47 = .ok (.putfield 98, 3) := by decide +kernel
theorem dX9_readNumbers_50 : decode cX9_readNumbers 50 = .ok (.aload_n 0, 1) := by decide +kernel
theorem dX9_readNumbers_51 : decode cX9_readNumbers 51 = .ok (.aload_n 0, 1) := by decide +kernel
theorem dX9_readNumbers_52 : decode cX9_readNumbers 52 = .ok (.getfield 98, 3) := by decide +kernel
theorem dX9_readNumbers_55 : decode cX9_readNumbers 55 = .ok (.invokevirtual 101, 3) := by decide +kernel
theorem dX9_readNumbers_58 : decode cX9_readNumbers 58 = .ok (.invokestatic 105, 3) := by decide +kernel
theorem dX9_readNumbers_61 : decode cX9_readNumbers 61 = .ok (.ifCond .eq 40, 3) := by decide +kernel
theorem dX9_readNumbers_64 : decode cX9_readNumbers 64 = .ok (.aload_n 0, 1) := by decide +kernel
theorem dX9_readNumbers_65 : decode cX9_readNumbers 65 = .ok (.getfield 34, 3) := by decide +kernel
theorem dX9_readNumbers_68 : decode cX9_readNumbers 68 = .ok (.iload_n 2, 1) := by decide +kernel
theorem dX9_readNumbers_69 : decode cX9_readNumbers 69 = .ok (.bipush 10, 2) := by decide +kernel
theorem dX9_readNumbers_71 : decode cX9_readNumbers 71 = .ok (.aload_n 0, 1) := by decide +kernel
theorem dX9_readNumbers_72 : decode cX9_readNumbers 72 = .ok (.getfield 34, 3) := by decide +kernel
theorem dX9_readNumbers_75 : decode cX9_readNumbers 75 = .ok (.iload_n 2, 1) := by decide +kernel
theorem dX9_readNumbers_76 : decode cX9_readNumbers 76 = .ok (.iaload, 1) := by decide +kernel
theorem dX9_readNumbers_77 : decode cX9_readNumbers 77 = .ok (.imul, 1) := by decide +kernel
theorem dX9_readNumbers_78 : decode cX9_readNumbers 78 = .ok (.aload_n 0, 1) := by decide +kernel
theorem dX9_readNumbers_79 : decode cX9_readNumbers 79 = .ok (.aload_n 0, 1) := by decide +kernel
theorem dX9_readNumbers_80 : decode cX9_readNumbers 80 = .ok (.getfield 98, 3) := by decide +kernel
theorem dX9_readNumbers_83 : decode cX9_readNumbers 83 = .ok (.invokevirtual 101, 3) := by decide +kernel
theorem dX9_readNumbers_86 : decode cX9_readNumbers 86 = .ok (.iadd, 1) := by decide +kernel
theorem dX9_readNumbers_87 : decode cX9_readNumbers 87 = .ok (.bipush 48, 2) := by decide +kernel
theorem dX9_readNumbers_89 : decode cX9_readNumbers 89 = .ok (.isub, 1) := by decide +kernel
theorem dX9_readNumbers_90 : decode cX9_readNumbers 90 = .ok (.iastore, 1) := by decide +kernel
theorem dX9_readNumbers_91 : decode cX9_readNumbers 91 = .ok (.aload_n 0, 1) := by decide +kernel
theorem dX9_readNumbers_92 : decode cX9_readNumbers 92 = .ok (.dup, 1) := by decide +kernel
theorem dX9_readNumbers_93 : decode cX9_readNumbers 93 = .ok (.getfield 98, 3) := by decide +kernel
theorem dX9_readNumbers_96 : decode cX9_readNumbers 96 = .ok (.iconst 1, 1) := by decide +kernel
theorem dX9_readNumbers_97 : decode cX9_readNumbers 97 = .ok (.iadd, 1) := by decide +kernel
theorem dX9_readNumbers_98 : decode cX9_readNumbers 98 = .ok (.putfield 98, 3) := by decide +kernel
theorem dX9_readNumbers_101 : decode cX9_readNumbers 101 = .ok (.aload_n 0, 1) := by decide +kernel
theorem dX9_readNumbers_102 : decode cX9_readNumbers 102 = .ok (.aload_n 0, 1) := by decide +kernel
theorem dX9_readNumbers_103 : decode cX9_readNumbers 103 = .ok (.getfield 98, 3) := by decide +kernel
theorem dX9_readNumbers_106 : decode cX9_readNumbers 106 = .ok (.invokevirtual 101, 3) := by decide +kernel
theorem dX9_readNumbers_109 : decode cX9_readNumbers 109 = .ok (.iload_n 2, 1) := by decide +kernel
theorem dX9_readNumbers_110 : decode cX9_readNumbers 110 = .ok (.iload_n 1, 1) := by decide +kernel
theorem dX9_readNumbers_111 : decode cX9_readNumbers 111 = .ok (.iconst 1, 1) := by decide +kernel
theorem dX9_readNumbers_112 : decode cX9_readNumbers 112 = .ok (.isub, 1) := by decide +kernel
theorem dX9_readNumbers_113 : decode cX9_readNumbers 113 = .ok (.if_icmp .ge 8, 3) := by decide +kernel
theorem dX9_readNumbers_116 : decode cX9_readNumbers 116 = .ok (.bipush 44, 2) := by decide +kernel
theorem dX9_readNumbers_118 : decode cX9_readNumbers 118 = .ok (.goto 5, 3) := by decide +kernel
theorem dX9_readNumbers_121 : decode cX9_readNumbers 121 = .ok (.bipush 59, 2) := by decide +kernel
theorem dX9_readNumbers_123 : decode cX9_readNumbers 123 = .ok (.if_icmp .eq 5, 3) := by decide +kernel
theorem dX9_readNumbers_126 : decode cX9_readNumbers 126 = .ok (.iconst 0, 1) := by decide +kernel
theorem dX9_readNumbers_127 : decode cX9_readNumbers 127 = .ok (.ireturn, 1) := by decide +kernel
theorem dX9_readNumbers_128 : decode cX9_readNumbers 128 = .ok (.aload_n 0, 1) := by decide +kernel
theorem dX9_readNumbers_129 : decode cX9_readNumbers 129 = .ok (.dup, 1) := by decide +kernel
theorem dX9_readNumbers_130 : decode cX9_readNumbers 130 = .ok (.getfield 98, 3) := by decide +kernel
theorem dX9_readNumbers_133 : decode cX9_readNumbers 133 = .ok (.iconst 1, 1) := by decide +kernel
theorem dX9_readNumbers_134 : decode cX9_readNumbers 134 = .ok (.iadd, 1) := by decide +kernel
theorem dX9_readNumbers_135 : decode cX9_readNumbers 135 = .ok (.putfield 98, 3) := by decide +kernel
theorem dX9_readNumbers_138 : decode cX9_readNumbers 138 = .ok (.iinc 2 1, 3) := by decide +kernel
theorem dX9_readNumbers_141 : decode cX9_readNumbers 141 = .ok (.goto (-139), 3) := by decide +kernel
theorem dX9_readNumbers_144 : decode cX9_readNumbers 144 = .ok (.iconst 1, 1) := by decide +kernel
theorem dX9_readNumbers_145 : decode cX9_readNumbers 145 = .ok (.ireturn, 1) := by decide +kernel
theorem dX9_isTold_0 : decode cX9_isTold 0 = .ok (.aload_n 0, 1) := by decide +kernel
theorem dX9_isTold_1 : decode cX9_isTold 1 = .ok (.getfield 34, 3) := by decide +kernel
theorem dX9_isTold_4 : decode cX9_isTold 4 = .ok (.iload_n 1, 1) := by decide +kernel
theorem dX9_isTold_5 : decode cX9_isTold 5 = .ok (.iaload, 1) := by decide +kernel
theorem dX9_isTold_6 : decode cX9_isTold 6 = .ok (.iload_n 2, 1) := by decide +kernel
theorem dX9_isTold_7 : decode cX9_isTold 7 = .ok (.iload_n 3, 1) := by decide +kernel
theorem dX9_isTold_8 : decode cX9_isTold 8 = .ok (.invokestatic 88, 3) := by decide +kernel
theorem dX9_isTold_11 : decode cX9_isTold 11 = .ok (.ireturn, 1) := by decide +kernel
theorem dX9_put_0 : decode cX9_put 0 = .ok (.iconst 0, 1) := by decide +kernel
theorem dX9_put_1 : decode cX9_put 1 = .ok (.istore 4, 2) := by decide +kernel
theorem dX9_put_3 : decode cX9_put 3 = .ok (.iload 4, 2) := by decide +kernel
theorem dX9_put_5 : decode cX9_put 5 = .ok (.iload_n 3, 1) := by decide +kernel
theorem dX9_put_6 : decode cX9_put 6 = .ok (.if_icmp .ge 19, 3) := by decide +kernel
theorem dX9_put_9 : decode cX9_put 9 = .ok (.aload_n 0, 1) := by decide +kernel
theorem dX9_put_10 : decode cX9_put 10 = .ok (.iload_n 1, 1) := by decide +kernel
theorem dX9_put_11 : decode cX9_put 11 = .ok (.iload 4, 2) := by decide +kernel
theorem dX9_put_13 : decode cX9_put 13 = .ok (.iadd, 1) := by decide +kernel
theorem dX9_put_14 : decode cX9_put 14 = .ok (.aload_n 2, 1) := by decide +kernel
theorem dX9_put_15 : decode cX9_put 15 = .ok (.iload 4, 2) := by decide +kernel
theorem dX9_put_17 : decode cX9_put 17 = .ok (.iaload, 1) := by decide +kernel
theorem dX9_put_18 : decode cX9_put 18 = .ok (.iastore, 1) := by decide +kernel
theorem dX9_put_19 : decode cX9_put 19 = .ok (.iinc 4 1, 3) := by decide +kernel
theorem dX9_put_22 : decode cX9_put 22 = .ok (.goto (-19), 3) := by decide +kernel
theorem dX9_put_25 : decode cX9_put 25 = .ok (.return_, 1) := by decide +kernel
theorem dX9_clearTold_0 : decode cX9_clearTold 0 = .ok (.aload_n 0, 1) := by decide +kernel
theorem dX9_clearTold_1 : decode cX9_clearTold 1 = .ok (.iconst 0, 1) := by decide +kernel
theorem dX9_clearTold_2 : decode cX9_clearTold 2 = .ok (.putfield 78, 3) := by decide +kernel
theorem dX9_clearTold_5 : decode cX9_clearTold 5 = .ok (.aload_n 0, 1) := by decide +kernel
theorem dX9_clearTold_6 : decode cX9_clearTold 6 = .ok (.iconst 0, 1) := by decide +kernel
theorem dX9_clearTold_7 : decode cX9_clearTold 7 = .ok (.putfield 82, 3) := by decide +kernel
theorem dX9_clearTold_10 : decode cX9_clearTold 10 = .ok (.aload_n 0, 1) := by decide +kernel
theorem dX9_clearTold_11 : decode cX9_clearTold 11 = .ok (.iconst 4, 1) := by decide +kernel
theorem dX9_clearTold_12 : decode cX9_clearTold 12 = .ok (.iconst 3, 1) := by decide +kernel
theorem dX9_clearTold_13 : decode cX9_clearTold 13 = .ok (.iconst 2, 1) := by decide +kernel
theorem dX9_clearTold_14 : decode cX9_clearTold 14 = .ok (.invokevirtual 109, 3) := by decide +kernel
theorem dX9_clearTold_17 : decode cX9_clearTold 17 = .ok (.aload_n 0, 1) := by decide +kernel
theorem dX9_clearTold_18 : decode cX9_clearTold 18 = .ok (.bipush 20, 2) := by decide +kernel
theorem dX9_clearTold_20 : decode cX9_clearTold 20 = .ok (.putfield 113, 3) := by decide +kernel
theorem dX9_clearTold_23 : decode cX9_clearTold 23 = .ok (.iconst 0, 1) := by decide +kernel
theorem dX9_clearTold_24 : decode cX9_clearTold 24 = .ok (.istore_n 1, 1) := by decide +kernel
theorem dX9_clearTold_25 : decode cX9_clearTold 25 = .ok (.iload_n 1, 1) := by decide +kernel
theorem dX9_clearTold_26 : decode cX9_clearTold 26 = .ok (.bipush 20, 2) := by decide +kernel
theorem dX9_clearTold_28 : decode cX9_clearTold 28 = .ok (.if_icmp .ge 16, 3) := by decide +kernel
theorem dX9_clearTold_31 : decode cX9_clearTold 31 = .ok (.aload_n 0, 1) := by decide +kernel
theorem dX9_clearTold_32 : decode cX9_clearTold 32 = .ok (.getfield 46, 3) := by decide +kernel
theorem dX9_clearTold_35 : decode cX9_clearTold 35 = .ok (.iload_n 1, 1) := by decide +kernel
theorem dX9_clearTold_36 : decode cX9_clearTold 36 = .ok (.iconst 0, 1) := by decide +kernel
theorem dX9_clearTold_37 : decode cX9_clearTold 37 = .ok (.iastore, 1) := by decide +kernel
theorem dX9_clearTold_38 : decode cX9_clearTold 38 = .ok (.iinc 1 1, 3) := by decide +kernel
theorem dX9_clearTold_41 : decode cX9_clearTold 41 = .ok (.goto (-16), 3) := by decide +kernel
theorem dX9_clearTold_44 : decode cX9_clearTold 44 = .ok (.return_, 1) := by decide +kernel
theorem dX9_tellsFog_0 : decode cX9_tellsFog 0 = .ok (.aload_n 0, 1) := by decide +kernel
theorem dX9_tellsFog_1 : decode cX9_tellsFog 1 = .ok (.getfield 43, 3) := by decide +kernel
theorem dX9_tellsFog_4 : decode cX9_tellsFog 4 = .ok (.iconst 0, 1) := by decide +kernel
theorem dX9_tellsFog_5 : decode cX9_tellsFog 5 = .ok (.iload_n 1, 1) := by decide +kernel
theorem dX9_tellsFog_6 : decode cX9_tellsFog 6 = .ok (.iastore, 1) := by decide +kernel
theorem dX9_tellsFog_7 : decode cX9_tellsFog 7 = .ok (.aload_n 0, 1) := by decide +kernel
theorem dX9_tellsFog_8 : decode cX9_tellsFog 8 = .ok (.getfield 43, 3) := by decide +kernel
theorem dX9_tellsFog_11 : decode cX9_tellsFog 11 = .ok (.iconst 1, 1) := by decide +kernel
theorem dX9_tellsFog_12 : decode cX9_tellsFog 12 = .ok (.iload_n 2, 1) := by decide +kernel
theorem dX9_tellsFog_13 : decode cX9_tellsFog 13 = .ok (.iastore, 1) := by decide +kernel
theorem dX9_tellsFog_14 : decode cX9_tellsFog 14 = .ok (.aload_n 0, 1) := by decide +kernel
theorem dX9_tellsFog_15 : decode cX9_tellsFog 15 = .ok (.getfield 43, 3) := by decide +kernel
theorem dX9_tellsFog_18 : decode cX9_tellsFog 18 = .ok (.iconst 2, 1) := by decide +kernel
theorem dX9_tellsFog_19 : decode cX9_tellsFog 19 = .ok (.iload_n 3, 1) := by decide +kernel
theorem dX9_tellsFog_20 : decode cX9_tellsFog 20 = .ok (.iastore, 1) := by decide +kernel
theorem dX9_tellsFog_21 : decode cX9_tellsFog 21 = .ok (.aload_n 0, 1) := by decide +kernel
theorem dX9_tellsFog_22 : decode cX9_tellsFog 22 = .ok (.getfield 43, 3) := by decide +kernel
theorem dX9_tellsFog_25 : decode cX9_tellsFog 25 = .ok (.iconst 3, 1) := by decide +kernel
theorem dX9_tellsFog_26 : decode cX9_tellsFog 26 = .ok (.bipush 10, 2) := by decide +kernel
theorem dX9_tellsFog_28 : decode cX9_tellsFog 28 = .ok (.iload_n 1, 1) := by decide +kernel
theorem dX9_tellsFog_29 : decode cX9_tellsFog 29 = .ok (.isub, 1) := by decide +kernel
theorem dX9_tellsFog_30 : decode cX9_tellsFog 30 = .ok (.iload_n 2, 1) := by decide +kernel
theorem dX9_tellsFog_31 : decode cX9_tellsFog 31 = .ok (.isub, 1) := by decide +kernel
theorem dX9_tellsFog_32 : decode cX9_tellsFog 32 = .ok (.iload_n 3, 1) := by decide +kernel
theorem dX9_tellsFog_33 : decode cX9_tellsFog 33 = .ok (.isub, 1) := by decide +kernel
theorem dX9_tellsFog_34 : decode cX9_tellsFog 34 = .ok (.iastore, 1) := by decide +kernel
theorem dX9_tellsFog_35 : decode cX9_tellsFog 35 = .ok (.return_, 1) := by decide +kernel
theorem dX9_readTenantOf_0 : decode cX9_readTenantOf 0 = .ok (.aload_n 0, 1) := by decide +kernel
theorem dX9_readTenantOf_1 : decode cX9_readTenantOf 1 = .ok (.getfield 78, 3) := by decide +kernel
theorem dX9_readTenantOf_4 : decode cX9_readTenantOf 4 = .ok (.bipush 6, 2) := by decide +kernel
theorem dX9_readTenantOf_6 : decode cX9_readTenantOf 6 = .ok (.if_icmp .eq 64, 3) := by decide +kernel
theorem dX9_readTenantOf_9 : decode cX9_readTenantOf 9 = .ok (.aload_n 0, 1) := by decide +kernel
theorem dX9_readTenantOf_10 : decode cX9_readTenantOf 10 = .ok (.iconst 5, 1) := by decide +kernel
theorem dX9_readTenantOf_11 : decode cX9_readTenantOf 11 = .ok (.invokevirtual 116, 3) := by decide +kernel
theorem dX9_readTenantOf_14 : decode cX9_readTenantOf 14 = .ok (.ifCond .eq 56, 3) := by decide +kernel
theorem dX9_readTenantOf_17 : decode cX9_readTenantOf 17 = .ok (.aload_n 0, 1) := by decide +kernel
theorem dX9_readTenantOf_18 : decode cX9_readTenantOf 18 = .ok (.iconst 0, 1) := by decide +kernel
theorem dX9_readTenantOf_19 : decode cX9_readTenantOf 19 = .ok (.iconst 0, 1) := by decide +kernel
theorem dX9_readTenantOf_20 : decode cX9_readTenantOf 20 = .ok (.iconst 3, 1) := by decide +kernel
theorem dX9_readTenantOf_21 : decode cX9_readTenantOf 21 = .ok (.invokevirtual 119, 3) := by decide +kernel
theorem dX9_readTenantOf_24 : decode cX9_readTenantOf 24 = .ok (.ifCond .eq 46, 3) := by decide +kernel
theorem dX9_readTenantOf_27 : decode cX9_readTenantOf 27 = .ok (.aload_n 0, 1) := by decide +kernel
theorem dX9_readTenantOf_28 : decode cX9_readTenantOf 28 = .ok (.iconst 1, 1) := by decide +kernel
theorem dX9_readTenantOf_29 : decode cX9_readTenantOf 29 = .ok (.iconst 0, 1) := by decide +kernel
theorem dX9_readTenantOf_30 : decode cX9_readTenantOf 30 = .ok (.bipush 23, 2) := by decide +kernel
theorem dX9_readTenantOf_32 : decode cX9_readTenantOf 32 = .ok (.invokevirtual 119, 3) := by decide +kernel
theorem dX9_readTenantOf_35 : decode cX9_readTenantOf 35 = .ok (.ifCond .eq 35, 3) := by decide +kernel
theorem dX9_readTenantOf_38 : decode cX9_readTenantOf 38 = .ok (.aload_n 0, 1) := by decide +kernel
theorem dX9_readTenantOf_39 : decode cX9_readTenantOf 39 = .ok (.iconst 2, 1) := by decide +kernel
theorem dX9_readTenantOf_40 : decode cX9_readTenantOf 40 = .ok (.iconst 1, 1) := by decide +kernel
theorem dX9_readTenantOf_41 : decode cX9_readTenantOf 41 = .ok (.bipush 12, 2) := by decide +kernel
theorem dX9_readTenantOf_43 : decode cX9_readTenantOf 43 = .ok (.invokevirtual 119, 3) := by decide +kernel
theorem dX9_readTenantOf_46 : decode cX9_readTenantOf 46 = .ok (.ifCond .eq 24, 3) := by decide +kernel
theorem dX9_readTenantOf_49 : decode cX9_readTenantOf 49 = .ok (.aload_n 0, 1) := by decide +kernel
theorem dX9_readTenantOf_50 : decode cX9_readTenantOf 50 = .ok (.iconst 3, 1) := by decide +kernel
theorem dX9_readTenantOf_51 : decode cX9_readTenantOf 51 = .ok (.iconst 0, 1) := by decide +kernel
theorem dX9_readTenantOf_52 : decode cX9_readTenantOf 52 = .ok (.bipush 20, 2) := by decide +kernel
theorem dX9_readTenantOf_54 : decode cX9_readTenantOf 54 = .ok (.invokevirtual 119, 3) := by decide +kernel
theorem dX9_readTenantOf_57 : decode cX9_readTenantOf 57 = .ok (.ifCond .eq 13, 3) := by decide +kernel
theorem dX9_readTenantOf_60 : decode cX9_readTenantOf 60 = .ok (.aload_n 0, 1) := by decide +kernel
theorem dX9_readTenantOf_61 : decode cX9_readTenantOf 61 = .ok (.iconst 4, 1) := by decide +kernel
theorem dX9_readTenantOf_62 : decode cX9_readTenantOf 62 = .ok (.iconst 0, 1) := by decide +kernel
theorem dX9_readTenantOf_63 : decode cX9_readTenantOf 63 = .ok (.iconst 3, 1) := by decide +kernel
theorem dX9_readTenantOf_64 : decode cX9_readTenantOf 64 = .ok (.invokevirtual 119, 3) := by decide +kernel
theorem dX9_readTenantOf_67 : decode cX9_readTenantOf 67 = .ok (.ifCond .ne 5, 3) := by decide +kernel
theorem dX9_readTenantOf_70 : decode cX9_readTenantOf 70 = .ok (.iconst 0, 1) := by decide +kernel
theorem dX9_readTenantOf_71 : decode cX9_readTenantOf 71 = .ok (.ireturn, 1) := by decide +kernel
theorem dX9_readTenantOf_72 : decode cX9_readTenantOf 72 = .ok (.aload_n 0, 1) := by decide +kernel
theorem dX9_readTenantOf_73 : decode cX9_readTenantOf 73 = .ok (.aload_n 0, 1) := by decide +kernel
theorem dX9_readTenantOf_74 : decode cX9_readTenantOf 74 = .ok (.getfield 34, 3) := by decide +kernel
theorem dX9_readTenantOf_77 : decode cX9_readTenantOf 77 = .ok (.iconst 0, 1) := by decide +kernel
theorem dX9_readTenantOf_78 : decode cX9_readTenantOf 78 = .ok (.iaload, 1) := by decide +kernel
theorem dX9_readTenantOf_79 : decode cX9_readTenantOf 79 = .ok (.aload_n 0, 1) := by decide +kernel
theorem dX9_readTenantOf_80 : decode cX9_readTenantOf 80 = .ok (.getfield 34, 3) := by decide +kernel
theorem dX9_readTenantOf_83 : decode cX9_readTenantOf 83 = .ok (.iconst 1, 1) := by decide +kernel
theorem dX9_readTenantOf_84 : decode cX9_readTenantOf 84 = .ok (.iaload, 1) := by decide +kernel
theorem dX9_readTenantOf_85 : decode cX9_readTenantOf 85 = .ok (.aload_n 0, 1) := by decide +kernel
theorem dX9_readTenantOf_86 : decode cX9_readTenantOf 86 = .ok (.getfield 34, 3) := by decide +kernel
theorem dX9_readTenantOf_89 : decode cX9_readTenantOf 89 = .ok (.iconst 2, 1) := by decide +kernel
theorem dX9_readTenantOf_90 : decode cX9_readTenantOf 90 = .ok (.iaload, 1) := by decide +kernel
theorem dX9_readTenantOf_91 : decode cX9_readTenantOf 91 = .ok (.aload_n 0, 1) := by decide +kernel
theorem dX9_readTenantOf_92 : decode cX9_readTenantOf 92 = .ok (.getfield 34, 3) := by decide +kernel
theorem dX9_readTenantOf_95 : decode cX9_readTenantOf 95 = .ok (.iconst 3, 1) := by decide +kernel
theorem dX9_readTenantOf_96 : decode cX9_readTenantOf 96 = .ok (.iaload, 1) := by decide +kernel
theorem dX9_readTenantOf_97 : decode cX9_readTenantOf 97 = .ok (.aload_n 0, 1) := by decide +kernel
theorem dX9_readTenantOf_98 : decode cX9_readTenantOf 98 = .ok (.getfield 34, 3) := by decide +kernel
theorem dX9_readTenantOf_101 : decode cX9_readTenantOf 101 = .ok (.iconst 4, 1) := by decide +kernel
theorem dX9_readTenantOf_102 : decode cX9_readTenantOf 102 = .ok (.iaload, 1) := by decide +kernel
theorem dX9_readTenantOf_103 : decode cX9_readTenantOf 103 = .ok (.invokevirtual 67, 3) := by decide +kernel
theorem dX9_readTenantOf_106 : decode cX9_readTenantOf 106 = .ok (.iconst 1, 1) := by decide +kernel
theorem dX9_readTenantOf_107 : decode cX9_readTenantOf 107 = .ok (.ireturn, 1) := by decide +kernel
theorem dX9_readShipOf_0 : decode cX9_readShipOf 0 = .ok (.aload_n 0, 1) := by decide +kernel
theorem dX9_readShipOf_1 : decode cX9_readShipOf 1 = .ok (.getfield 82, 3) := by decide +kernel
theorem dX9_readShipOf_4 : decode cX9_readShipOf 4 = .ok (.iconst 5, 1) := by decide +kernel
theorem dX9_readShipOf_5 : decode cX9_readShipOf 5 = .ok (.if_icmp .eq 33, 3) := by decide +kernel
theorem dX9_readShipOf_8 : decode cX9_readShipOf 8 = .ok (.aload_n 0, 1) := by decide +kernel
theorem dX9_readShipOf_9 : decode cX9_readShipOf 9 = .ok (.iconst 2, 1) := by decide +kernel
theorem dX9_readShipOf_10 : decode cX9_readShipOf 10 = .ok (.invokevirtual 116, 3) := by decide +kernel
theorem dX9_readShipOf_13 : decode cX9_readShipOf 13 = .ok (.ifCond .eq 25, 3) := by decide +kernel
theorem dX9_readShipOf_16 : decode cX9_readShipOf 16 = .ok (.aload_n 0, 1) := by decide +kernel
theorem dX9_readShipOf_17 : decode cX9_readShipOf 17 = .ok (.iconst 0, 1) := by decide +kernel
theorem dX9_readShipOf_18 : decode cX9_readShipOf 18 = .ok (.iconst 0, 1) := by decide +kernel
theorem dX9_readShipOf_19 : decode cX9_readShipOf 19 = .ok (.bipush 23, 2) := by decide +kernel
theorem dX9_readShipOf_21 : decode cX9_readShipOf 21 = .ok (.invokevirtual 119, 3) := by decide +kernel
theorem dX9_readShipOf_24 : decode cX9_readShipOf 24 = .ok (.ifCond .eq 14, 3) := by decide +kernel
theorem dX9_readShipOf_27 : decode cX9_readShipOf 27 = .ok (.aload_n 0, 1) := by decide +kernel
theorem dX9_readShipOf_28 : decode cX9_readShipOf 28 = .ok (.iconst 1, 1) := by decide +kernel
theorem dX9_readShipOf_29 : decode cX9_readShipOf 29 = .ok (.iconst 1, 1) := by decide +kernel
