theorem d_X_init_0 : decode c_X_init 0 = .ok (.aload_n 0, 1) := by decide +kernel
theorem d_X_init_1 : decode c_X_init 1 = .ok (.invokespecial 3, 3) := by decide +kernel
theorem d_X_init_4 : decode c_X_init 4 = .ok (.aload_n 0, 1) := by decide +kernel
theorem d_X_init_5 : decode c_X_init 5 = .ok (.iconst 4, 1) := by decide +kernel
theorem d_X_init_6 : decode c_X_init 6 = .ok (.anewarray 9, 3) := by decide +kernel
theorem d_X_init_9 : decode c_X_init 9 = .ok (.putfield 11, 3) := by decide +kernel
theorem d_X_init_12 : decode c_X_init 12 = .ok (.aload_n 0, 1) := by decide +kernel
theorem d_X_init_13 : decode c_X_init 13 = .ok (.bipush 64, 2) := by decide +kernel
theorem d_X_init_15 : decode c_X_init 15 = .ok (.anewarray 15, 3) := by decide +kernel
theorem d_X_init_18 : decode c_X_init 18 = .ok (.putfield 17, 3) := by decide +kernel
theorem d_X_init_21 : decode c_X_init 21 = .ok (.aload_n 0, 1) := by decide +kernel
theorem d_X_init_22 : decode c_X_init 22 = .ok (.new 21, 3) := by decide +kernel
theorem d_X_init_25 : decode c_X_init 25 = .ok (.dup, 1) := by decide +kernel
theorem d_X_init_26 : decode c_X_init 26 = .ok (.invokespecial 23, 3) := by decide +kernel
theorem d_X_init_29 : decode c_X_init 29 = .ok (.putfield 24, 3) := by decide +kernel
theorem d_X_init_32 : decode c_X_init 32 = .ok (.aload_n 0, 1) := by decide +kernel
theorem d_X_init_33 : decode c_X_init 33 = .ok (.new 28, 3) := by decide +kernel
theorem d_X_init_36 : decode c_X_init 36 = .ok (.dup, 1) := by decide +kernel
theorem d_X_init_37 : decode c_X_init 37 = .ok (.invokespecial 30, 3) := by decide +kernel
theorem d_X_init_40 : decode c_X_init 40 = .ok (.putfield 31, 3) := by decide +kernel
theorem d_X_init_43 : decode c_X_init 43 = .ok (.return_, 1) := by decide +kernel
theorem d_X_club_0 : decode c_X_club 0 = .ok (.aload_n 0, 1) := by decide +kernel
theorem d_X_club_1 : decode c_X_club 1 = .ok (.getfield 35, 3) := by decide +kernel
theorem d_X_club_4 : decode c_X_club 4 = .ok (.iconst 4, 1) := by decide +kernel
theorem d_X_club_5 : decode c_X_club 5 = .ok (.if_icmp .lt 5, 3) := by decide +kernel
theorem d_X_club_8 : decode c_X_club 8 = .ok (.iconst (-1), 1) := by decide +kernel
theorem d_X_club_9 : decode c_X_club 9 = .ok (.ireturn, 1) := by decide +kernel
theorem d_X_club_10 : decode c_X_club 10 = .ok (.aload_n 0, 1) := by decide +kernel
theorem d_X_club_11 : decode c_X_club 11 = .ok (.getfield 11, 3) := by decide +kernel
theorem d_X_club_14 : decode c_X_club 14 = .ok (.aload_n 0, 1) := by decide +kernel
theorem d_X_club_15 : decode c_X_club 15 = .ok (.getfield 35, 3) := by decide +kernel
theorem d_X_club_18 : decode c_X_club 18 = .ok (.new 9, 3) := by decide +kernel
theorem d_X_club_21 : decode c_X_club 21 = .ok (.dup, 1) := by decide +kernel
theorem d_X_club_22 : decode c_X_club 22 = .ok (.invokespecial 39, 3) := by decide +kernel
theorem d_X_club_25 : decode c_X_club 25 = .ok (.aastore, 1) := by decide +kernel
theorem d_X_club_26 : decode c_X_club 26 = .ok (.aload_n 0, 1) := by decide +kernel
theorem d_X_club_27 : decode c_X_club 27 = .ok (.dup, 1) := by decide +kernel
theorem d_X_club_28 : decode c_X_club 28 = .ok (.getfield 35, 3) := by decide +kernel
theorem d_X_club_31 : decode c_X_club 31 = .ok (.iconst 1, 1) := by decide +kernel
theorem d_X_club_32 : decode c_X_club 32 = .ok (.iadd, 1) := by decide +kernel
theorem d_X_club_33 : decode c_X_club 33 = .ok (.putfield 35, 3) := by decide +kernel
theorem d_X_club_36 : decode c_X_club 36 = .ok (.aload_n 0, 1) := by decide +kernel
theorem d_X_club_37 : decode c_X_club 37 = .ok (.getfield 35, 3) := by decide +kernel
theorem d_X_club_40 : decode c_X_club 40 = .ok (.iconst 1, 1) := by decide +kernel
theorem d_X_club_41 : decode c_X_club 41 = .ok (.isub, 1) := by decide +kernel
theorem d_X_club_42 : decode c_X_club 42 = .ok (.ireturn, 1) := by decide +kernel
theorem d_X_member_0 : decode c_X_member 0 = .ok (.aload_n 0, 1) := by decide +kernel
theorem d_X_member_1 : decode c_X_member 1 = .ok (.iload_n 1, 1) := by decide +kernel
theorem d_X_member_2 : decode c_X_member 2 = .ok (.invokevirtual 40, 3) := by decide +kernel
theorem d_X_member_5 : decode c_X_member 5 = .ok (.astore_n 2, 1) := by decide +kernel
theorem d_X_member_6 : decode c_X_member 6 = .ok (.aload_n 2, 1) := by decide +kernel
theorem d_X_member_7 : decode c_X_member 7 = .ok (.ifnull 12, 3) := by decide +kernel
theorem d_X_member_10 : decode c_X_member 10 = .ok (.aload_n 2, 1) := by decide +kernel
theorem d_X_member_11 : decode c_X_member 11 = .ok (.getfield 44, 3) := by decide +kernel
theorem d_X_member_14 : decode c_X_member 14 = .ok (.bipush 12, 2) := by decide +kernel
theorem d_X_member_16 : decode c_X_member 16 = .ok (.if_icmp .lt 5, 3) := by decide +kernel
theorem d_X_member_19 : decode c_X_member 19 = .ok (.iconst (-1), 1) := by decide +kernel
theorem d_X_member_20 : decode c_X_member 20 = .ok (.ireturn, 1) := by decide +kernel
theorem d_X_member_21 : decode c_X_member 21 = .ok (.aload_n 2, 1) := by decide +kernel
theorem d_X_member_22 : decode c_X_member 22 = .ok (.dup, 1) := by decide +kernel
theorem d_X_member_23 : decode c_X_member 23 = .ok (.getfield 44, 3) := by decide +kernel
theorem d_X_member_26 : decode c_X_member 26 = .ok (.iconst 1, 1) := by decide +kernel
theorem d_X_member_27 : decode c_X_member 27 = .ok (.iadd, 1) := by decide +kernel
theorem d_X_member_28 : decode c_X_member 28 = .ok (.putfield 44, 3) := by decide +kernel
theorem d_X_member_31 : decode c_X_member 31 = .ok (.aload_n 2, 1) := by decide +kernel
theorem d_X_member_32 : decode c_X_member 32 = .ok (.getfield 44, 3) := by decide +kernel
theorem d_X_member_35 : decode c_X_member 35 = .ok (.iconst 1, 1) := by decide +kernel
theorem d_X_member_36 : decode c_X_member 36 = .ok (.isub, 1) := by decide +kernel
theorem d_X_member_37 : decode c_X_member 37 = .ok (.ireturn, 1) := by decide +kernel
theorem d_X_leave_0 : decode c_X_leave 0 = .ok (.aload_n 0, 1) := by decide +kernel
theorem d_X_leave_1 : decode c_X_leave 1 = .ok (.iload_n 1, 1) := by decide +kernel
theorem d_X_leave_2 : decode c_X_leave 2 = .ok (.invokevirtual 40, 3) := by decide +kernel
theorem d_X_leave_5 : decode c_X_leave 5 = .ok (.astore_n 3, 1) := by decide +kernel
theorem d_X_leave_6 : decode c_X_leave 6 = .ok (.aload_n 3, 1) := by decide +kernel
theorem d_X_leave_7 : decode c_X_leave 7 = .ok (.ifnull 32, 3) := by decide +kernel
theorem d_X_leave_10 : decode c_X_leave 10 = .ok (.aload_n 3, 1) := by decide +kernel
theorem d_X_leave_11 : decode c_X_leave 11 = .ok (.iload_n 2, 1) := by decide +kernel
theorem d_X_leave_12 : decode c_X_leave 12 = .ok (.invokevirtual 47, 3) := by decide +kernel
theorem d_X_leave_15 : decode c_X_leave 15 = .ok (.ifCond .eq 24, 3) := by decide +kernel
theorem d_X_leave_18 : decode c_X_leave 18 = .ok (.aload_n 3, 1) := by decide +kernel
theorem d_X_leave_19 : decode c_X_leave 19 = .ok (.getfield 51, 3) := by decide +kernel
theorem d_X_leave_22 : decode c_X_leave 22 = .ok (.iload_n 2, 1) := by decide +kernel
theorem d_X_leave_23 : decode c_X_leave 23 = .ok (.laload, 1) := by decide +kernel
theorem d_X_leave_24 : decode c_X_leave 24 = .ok (.lconst 0, 1) := by decide +kernel
theorem d_X_leave_25 : decode c_X_leave 25 = .ok (.lcmp, 1) := by decide +kernel
theorem d_X_leave_26 : decode c_X_leave 26 = .ok (.ifCond .ne 13, 3) := by decide +kernel
theorem d_X_leave_29 : decode c_X_leave 29 = .ok (.aload_n 3, 1) := by decide +kernel
theorem d_X_leave_30 : decode c_X_leave 30 = .ok (.getfield 55, 3) := by decide +kernel
theorem d_X_leave_33 : decode c_X_leave 33 = .ok (.getfield 59, 3) := by decide +kernel
theorem d_X_leave_36 : decode c_X_leave 36 = .ok (.ifCond .eq 5, 3) := by decide +kernel
theorem d_X_leave_39 : decode c_X_leave 39 = .ok (.iconst 0, 1) := by decide +kernel
theorem d_X_leave_40 : decode c_X_leave 40 = .ok (.ireturn, 1) := by decide +kernel
theorem d_X_leave_41 : decode c_X_leave 41 = .ok (.aload_n 3, 1) := by decide +kernel
theorem d_X_leave_42 : decode c_X_leave 42 = .ok (.dup, 1) := by decide +kernel
theorem d_X_leave_43 : decode c_X_leave 43 = .ok (.getfield 65, 3) := by decide +kernel
theorem d_X_leave_46 : decode c_X_leave 46 = .ok (.iconst 1, 1) := by decide +kernel
theorem d_X_leave_47 : decode c_X_leave 47 = .ok (.iload_n 2, 1) := by decide +kernel
theorem d_X_leave_48 : decode c_X_leave 48 = .ok (.ishl, 1) := by decide +kernel
theorem d_X_leave_49 : decode c_X_leave 49 = .ok (.ior, 1) := by decide +kernel
theorem d_X_leave_50 : decode c_X_leave 50 = .ok (.putfield 65, 3) := by decide +kernel
theorem d_X_leave_53 : decode c_X_leave 53 = .ok (.iconst 1, 1) := by decide +kernel
theorem d_X_leave_54 : decode c_X_leave 54 = .ok (.ireturn, 1) := by decide +kernel
theorem d_X_bill_0 : decode c_X_bill 0 = .ok (.aload_n 0, 1) := by decide +kernel
theorem d_X_bill_1 : decode c_X_bill 1 = .ok (.iload_n 1, 1) := by decide +kernel
theorem d_X_bill_2 : decode c_X_bill 2 = .ok (.invokevirtual 40, 3) := by decide +kernel
theorem d_X_bill_5 : decode c_X_bill 5 = .ok (.astore 5, 2) := by decide +kernel
theorem d_X_bill_7 : decode c_X_bill 7 = .ok (.aload 5, 2) := by decide +kernel
theorem d_X_bill_9 : decode c_X_bill 9 = .ok (.ifnull 37, 3) := by decide +kernel
theorem d_X_bill_12 : decode c_X_bill 12 = .ok (.iload_n 2, 1) := by decide +kernel
theorem d_X_bill_13 : decode c_X_bill 13 = .ok (.iconst 1, 1) := by decide +kernel
theorem d_X_bill_14 : decode c_X_bill 14 = .ok (.if_icmp .lt 32, 3) := by decide +kernel
theorem d_X_bill_17 : decode c_X_bill 17 = .ok (.iload_n 2, 1) := by decide +kernel
theorem d_X_bill_18 : decode c_X_bill 18 = .ok (.iconst 5, 1) := by decide +kernel
theorem d_X_bill_19 : decode c_X_bill 19 = .ok (.if_icmp .gt 27, 3) := by decide +kernel
theorem d_X_bill_22 : decode c_X_bill 22 = .ok (.iload_n 3, 1) := by decide +kernel
theorem d_X_bill_23 : decode c_X_bill 23 = .ok (.iconst 1, 1) := by decide +kernel
theorem d_X_bill_24 : decode c_X_bill 24 = .ok (.if_icmp .lt 22, 3) := by decide +kernel
theorem d_X_bill_27 : decode c_X_bill 27 = .ok (.iload_n 3, 1) := by decide +kernel
theorem d_X_bill_28 : decode c_X_bill 28 = .ok (.ldc 68, 2) := by decide +kernel
theorem d_X_bill_30 : decode c_X_bill 30 = .ok (.if_icmp .gt 16, 3) := by decide +kernel
theorem d_X_bill_33 : decode c_X_bill 33 = .ok (.iload 4, 2) := by decide +kernel
theorem d_X_bill_35 : decode c_X_bill 35 = .ok (.iconst 1, 1) := by decide +kernel
theorem d_X_bill_36 : decode c_X_bill 36 = .ok (.if_icmp .lt 10, 3) := by decide +kernel
theorem d_X_bill_39 : decode c_X_bill 39 = .ok (.iload 4, 2) := by decide +kernel
theorem d_X_bill_41 : decode c_X_bill 41 = .ok (.ldc 69, 2) := by decide +kernel
theorem d_X_bill_43 : decode c_X_bill 43 = .ok (.if_icmp .le 5, 3) := by decide +kernel
theorem d_X_bill_46 : decode c_X_bill 46 = .ok (.iconst 0, 1) := by decide +kernel
theorem d_X_bill_47 : decode c_X_bill 47 = .ok (.ireturn, 1) := by decide +kernel
theorem d_X_bill_48 : decode c_X_bill 48 = .ok (.aload_n 0, 1) := by decide +kernel
theorem d_X_bill_49 : decode c_X_bill 49 = .ok (.getfield 24, 3) := by decide +kernel
theorem d_X_bill_52 : decode c_X_bill 52 = .ok (.aload 5, 2) := by decide +kernel
theorem d_X_bill_54 : decode c_X_bill 54 = .ok (.iload_n 2, 1) := by decide +kernel
theorem d_X_bill_55 : decode c_X_bill 55 = .ok (.iload_n 3, 1) := by decide +kernel
theorem d_X_bill_56 : decode c_X_bill 56 = .ok (.iload 4, 2) := by decide +kernel
theorem d_X_bill_58 : decode c_X_bill 58 = .ok (.invokevirtual 70, 3) := by decide +kernel
theorem d_X_bill_61 : decode c_X_bill 61 = .ok (.iconst 1, 1) := by decide +kernel
theorem d_X_bill_62 : decode c_X_bill 62 = .ok (.ireturn, 1) := by decide +kernel
theorem d_X_payer_0 : decode c_X_payer 0 = .ok (.aload_n 0, 1) := by decide +kernel
theorem d_X_payer_1 : decode c_X_payer 1 = .ok (.getfield 24, 3) := by decide +kernel
theorem d_X_payer_4 : decode c_X_payer 4 = .ok (.getfield 74, 3) := by decide +kernel
theorem d_X_payer_7 : decode c_X_payer 7 = .ok (.astore_n 3, 1) := by decide +kernel
theorem d_X_payer_8 : decode c_X_payer 8 = .ok (.aload_n 3, 1) := by decide +kernel
theorem d_X_payer_9 : decode c_X_payer 9 = .ok (.ifnull 21, 3) := by decide +kernel
theorem d_X_payer_12 : decode c_X_payer 12 = .ok (.aload_n 3, 1) := by decide +kernel
theorem d_X_payer_13 : decode c_X_payer 13 = .ok (.iload_n 1, 1) := by decide +kernel
theorem d_X_payer_14 : decode c_X_payer 14 = .ok (.invokevirtual 47, 3) := by decide +kernel
theorem d_X_payer_17 : decode c_X_payer 17 = .ok (.ifCond .eq 13, 3) := by decide +kernel
theorem d_X_payer_20 : decode c_X_payer 20 = .ok (.iload_n 2, 1) := by decide +kernel
theorem d_X_payer_21 : decode c_X_payer 21 = .ok (.ifCond .lt 9, 3) := by decide +kernel
theorem d_X_payer_24 : decode c_X_payer 24 = .ok (.iload_n 2, 1) := by decide +kernel
theorem d_X_payer_25 : decode c_X_payer 25 = .ok (.ldc 68, 2) := by decide +kernel
theorem d_X_payer_27 : decode c_X_payer 27 = .ok (.if_icmp .le 5, 3) := by decide +kernel
theorem d_X_payer_30 : decode c_X_payer 30 = .ok (.iconst 0, 1) := by decide +kernel
theorem d_X_payer_31 : decode c_X_payer 31 = .ok (.ireturn, 1) := by decide +kernel
theorem d_X_payer_32 : decode c_X_payer 32 = .ok (.aload_n 0, 1) := by decide +kernel
theorem d_X_payer_33 : decode c_X_payer 33 = .ok (.getfield 24, 3) := by decide +kernel
theorem d_X_payer_36 : decode c_X_payer 36 = .ok (.getfield 78, 3) := by decide +kernel
theorem d_X_payer_39 : decode c_X_payer 39 = .ok (.iload_n 1, 1) := by decide +kernel
theorem d_X_payer_40 : decode c_X_payer 40 = .ok (.iload_n 2, 1) := by decide +kernel
theorem d_X_payer_41 : decode c_X_payer 41 = .ok (.i2l, 1) := by decide +kernel
theorem d_X_payer_42 : decode c_X_payer 42 = .ok (.lastore, 1) := by decide +kernel
theorem d_X_payer_43 : decode c_X_payer 43 = .ok (.iconst 1, 1) := by decide +kernel
theorem d_X_payer_44 : decode c_X_payer 44 = .ok (.ireturn, 1) := by decide +kernel
theorem d_X_weight_0 : decode c_X_weight 0 = .ok (.aload_n 0, 1) := by decide +kernel
theorem d_X_weight_1 : decode c_X_weight 1 = .ok (.getfield 24, 3) := by decide +kernel
theorem d_X_weight_4 : decode c_X_weight 4 = .ok (.getfield 74, 3) := by decide +kernel
theorem d_X_weight_7 : decode c_X_weight 7 = .ok (.astore_n 3, 1) := by decide +kernel
theorem d_X_weight_8 : decode c_X_weight 8 = .ok (.aload_n 3, 1) := by decide +kernel
theorem d_X_weight_9 : decode c_X_weight 9 = .ok (.ifnull 40, 3) := by decide +kernel
theorem d_X_weight_12 : decode c_X_weight 12 = .ok (.aload_n 0, 1) := by decide +kernel
theorem d_X_weight_13 : decode c_X_weight 13 = .ok (.getfield 24, 3) := by decide +kernel
theorem d_X_weight_16 : decode c_X_weight 16 = .ok (.getfield 81, 3) := by decide +kernel
theorem d_X_weight_19 : decode c_X_weight 19 = .ok (.iconst 5, 1) := by decide +kernel
theorem d_X_weight_20 : decode c_X_weight 20 = .ok (.if_icmp .eq 29, 3) := by decide +kernel
theorem d_X_weight_23 : decode c_X_weight 23 = .ok (.aload_n 3, 1) := by decide +kernel
theorem d_X_weight_24 : decode c_X_weight 24 = .ok (.iload_n 1, 1) := by decide +kernel
theorem d_X_weight_25 : decode c_X_weight 25 = .ok (.invokevirtual 47, 3) := by decide +kernel
theorem d_X_weight_28 : decode c_X_weight 28 = .ok (.ifCond .eq 21, 3) := by decide +kernel
theorem d_X_weight_31 : decode c_X_weight 31 = .ok (.iload_n 2, 1) := by decide +kernel
theorem d_X_weight_32 : decode c_X_weight 32 = .ok (.ifCond .lt 17, 3) := by decide +kernel
theorem d_X_weight_35 : decode c_X_weight 35 = .ok (.iload_n 2, 1) := by decide +kernel
theorem d_X_weight_36 : decode c_X_weight 36 = .ok (.aload_n 0, 1) := by decide +kernel
theorem d_X_weight_37 : decode c_X_weight 37 = .ok (.getfield 24, 3) := by decide +kernel
theorem d_X_weight_40 : decode c_X_weight 40 = .ok (.getfield 81, 3) := by decide +kernel
theorem d_X_weight_43 : decode c_X_weight 43 = .ok (.invokestatic 84, 3) := by decide +kernel
theorem d_X_weight_46 : decode c_X_weight 46 = .ok (.if_icmp .le 5, 3) := by decide +kernel
theorem d_X_weight_49 : decode c_X_weight 49 = .ok (.iconst 0, 1) := by decide +kernel
theorem d_X_weight_50 : decode c_X_weight 50 = .ok (.ireturn, 1) := by decide +kernel
theorem d_X_weight_51 : decode c_X_weight 51 = .ok (.aload_n 0, 1) := by decide +kernel
theorem d_X_weight_52 : decode c_X_weight 52 = .ok (.getfield 24, 3) := by decide +kernel
theorem d_X_weight_55 : decode c_X_weight 55 = .ok (.getfield 88, 3) := by decide +kernel
theorem d_X_weight_58 : decode c_X_weight 58 = .ok (.iload_n 1, 1) := by decide +kernel
theorem d_X_weight_59 : decode c_X_weight 59 = .ok (.iload_n 2, 1) := by decide +kernel
theorem d_X_weight_60 : decode c_X_weight 60 = .ok (.i2l, 1) := by decide +kernel
theorem d_X_weight_61 : decode c_X_weight 61 = .ok (.lastore, 1) := by decide +kernel
theorem d_X_weight_62 : decode c_X_weight 62 = .ok (.iconst 1, 1) := by decide +kernel
theorem d_X_weight_63 : decode c_X_weight 63 = .ok (.ireturn, 1) := by decide +kernel
theorem d_X_line_0 : decode c_X_line 0 = .ok (.aload_n 0, 1) := by decide +kernel
theorem d_X_line_1 : decode c_X_line 1 = .ok (.getfield 24, 3) := by decide +kernel
theorem d_X_line_4 : decode c_X_line 4 = .ok (.getfield 74, 3) := by decide +kernel
theorem d_X_line_7 : decode c_X_line 7 = .ok (.astore_n 3, 1) := by decide +kernel
theorem d_X_line_8 : decode c_X_line 8 = .ok (.aload_n 3, 1) := by decide +kernel
theorem d_X_line_9 : decode c_X_line 9 = .ok (.ifnull 52, 3) := by decide +kernel
theorem d_X_line_12 : decode c_X_line 12 = .ok (.aload_n 0, 1) := by decide +kernel
theorem d_X_line_13 : decode c_X_line 13 = .ok (.getfield 24, 3) := by decide +kernel
theorem d_X_line_16 : decode c_X_line 16 = .ok (.getfield 81, 3) := by decide +kernel
theorem d_X_line_19 : decode c_X_line 19 = .ok (.iconst 5, 1) := by decide +kernel
theorem d_X_line_20 : decode c_X_line 20 = .ok (.if_icmp .ne 41, 3) := by decide +kernel
theorem d_X_line_23 : decode c_X_line 23 = .ok (.iload_n 1, 1) := by decide +kernel
theorem d_X_line_24 : decode c_X_line 24 = .ok (.iconst 1, 1) := by decide +kernel
theorem d_X_line_25 : decode c_X_line 25 = .ok (.if_icmp .lt 36, 3) := by decide +kernel
theorem d_X_line_28 : decode c_X_line 28 = .ok (.iload_n 1, 1) := by decide +kernel
theorem d_X_line_29 : decode c_X_line 29 = .ok (.ldc 68, 2) := by decide +kernel
theorem d_X_line_31 : decode c_X_line 31 = .ok (.if_icmp .gt 30, 3) := by decide +kernel
theorem d_X_line_34 : decode c_X_line 34 = .ok (.iload_n 2, 1) := by decide +kernel
theorem d_X_line_35 : decode c_X_line 35 = .ok (.ifCond .eq 26, 3) := by decide +kernel
theorem d_X_line_38 : decode c_X_line 38 = .ok (.iload_n 2, 1) := by decide +kernel
theorem d_X_line_39 : decode c_X_line 39 = .ok (.aload_n 3, 1) := by decide +kernel
theorem d_X_line_40 : decode c_X_line 40 = .ok (.invokevirtual 91, 3) := by decide +kernel
theorem d_X_line_43 : decode c_X_line 43 = .ok (.iconst (-1), 1) := by decide +kernel
theorem d_X_line_44 : decode c_X_line 44 = .ok (.ixor, 1) := by decide +kernel
theorem d_X_line_45 : decode c_X_line 45 = .ok (.iand, 1) := by decide +kernel
theorem d_X_line_46 : decode c_X_line 46 = .ok (.ifCond .ne 15, 3) := by decide +kernel
theorem d_X_line_49 : decode c_X_line 49 = .ok (.aload_n 0, 1) := by decide +kernel
theorem d_X_line_50 : decode c_X_line 50 = .ok (.getfield 24, 3) := by decide +kernel
theorem d_X_line_53 : decode c_X_line 53 = .ok (.getfield 95, 3) := by decide +kernel
theorem d_X_line_56 : decode c_X_line 56 = .ok (.bipush 16, 2) := by decide +kernel
theorem d_X_line_58 : decode c_X_line 58 = .ok (.if_icmp .lt 5, 3) := by decide +kernel
theorem d_X_line_61 : decode c_X_line 61 = .ok (.iconst 0, 1) := by decide +kernel
theorem d_X_line_62 : decode c_X_line 62 = .ok (.ireturn, 1) := by decide +kernel
theorem d_X_line_63 : decode c_X_line 63 = .ok (.aload_n 0, 1) := by decide +kernel
theorem d_X_line_64 : decode c_X_line 64 = .ok (.getfield 24, 3) := by decide +kernel
theorem d_X_line_67 : decode c_X_line 67 = .ok (.iload_n 1, 1) := by decide +kernel
theorem d_X_line_68 : decode c_X_line 68 = .ok (.iload_n 2, 1) := by decide +kernel
theorem d_X_line_69 : decode c_X_line 69 = .ok (.invokevirtual 98, 3) := by decide +kernel
theorem d_X_line_72 : decode c_X_line 72 = .ok (.iconst 1, 1) := by decide +kernel
theorem d_X_line_73 : decode c_X_line 73 = .ok (.ireturn, 1) := by decide +kernel
theorem d_X_post_0 : decode c_X_post 0 = .ok (.aload_n 0, 1) := by decide +kernel
theorem d_X_post_1 : decode c_X_post 1 = .ok (.getfield 24, 3) := by decide +kernel
theorem d_X_post_4 : decode c_X_post 4 = .ok (.getfield 74, 3) := by decide +kernel
theorem d_X_post_7 : decode c_X_post 7 = .ok (.astore_n 1, 1) := by decide +kernel
theorem d_X_post_8 : decode c_X_post 8 = .ok (.aload_n 1, 1) := by decide +kernel
theorem d_X_post_9 : decode c_X_post 9 = .ok (.ifnonnull 5, 3) := by decide +kernel
theorem d_X_post_12 : decode c_X_post 12 = .ok (.iconst (-1), 1) := by decide +kernel
theorem d_X_post_13 : decode c_X_post 13 = .ok (.ireturn, 1) := by decide +kernel
theorem d_X_post_14 : decode c_X_post 14 = .ok (.aload_n 0, 1) := by decide +kernel
theorem d_X_post_15 : decode c_X_post 15 = .ok (.aload_n 1, 1) := by decide +kernel
theorem d_X_post_16 : decode c_X_post 16 = .ok (.invokevirtual 102, 3) := by decide +kernel
theorem d_X_post_19 : decode c_X_post 19 = .ok (.istore_n 2, 1) := by decide +kernel
theorem d_X_post_20 : decode c_X_post 20 = .ok (.iload_n 2, 1) := by decide +kernel
theorem d_X_post_21 : decode c_X_post 21 = .ok (.ifCond .eq 5, 3) := by decide +kernel
theorem d_X_post_24 : decode c_X_post 24 = .ok (.iload_n 2, 1) := by decide +kernel
theorem d_X_post_25 : decode c_X_post 25 = .ok (.ireturn, 1) := by decide +kernel
theorem d_X_post_26 : decode c_X_post 26 = .ok (.aload_n 0, 1) := by decide +kernel
theorem d_X_post_27 : decode c_X_post 27 = .ok (.getfield 24, 3) := by decide +kernel
theorem d_X_post_30 : decode c_X_post 30 = .ok (.aload_n 1, 1) := by decide +kernel
theorem d_X_post_31 : decode c_X_post 31 = .ok (.invokevirtual 106, 3) := by decide +kernel
theorem d_X_post_34 : decode c_X_post 34 = .ok (.astore_n 3, 1) := by decide +kernel
theorem d_X_post_35 : decode c_X_post 35 = .ok (.aload_n 1, 1) := by decide +kernel
theorem d_X_post_36 : decode c_X_post 36 = .ok (.aload_n 3, 1) := by decide +kernel
theorem d_X_post_37 : decode c_X_post 37 = .ok (.iconst 1, 1) := by decide +kernel
theorem d_X_post_38 : decode c_X_post 38 = .ok (.invokevirtual 110, 3) := by decide +kernel
theorem d_X_post_41 : decode c_X_post 41 = .ok (.aload_n 0, 1) := by decide +kernel
theorem d_X_post_42 : decode c_X_post 42 = .ok (.getfield 24, 3) := by decide +kernel
theorem d_X_post_45 : decode c_X_post 45 = .ok (.aconst_null, 1) := by decide +kernel
theorem d_X_post_46 : decode c_X_post 46 = .ok (.putfield 74, 3) := by decide +kernel
theorem d_X_post_49 : decode c_X_post 49 = .ok (.aload_n 0, 1) := by decide +kernel
theorem d_X_post_50 : decode c_X_post 50 = .ok (.getfield 17, 3) := by decide +kernel
theorem d_X_post_53 : decode c_X_post 53 = .ok (.aload_n 0, 1) := by decide +kernel
theorem d_X_post_54 : decode c_X_post 54 = .ok (.getfield 114, 3) := by decide +kernel
theorem d_X_post_57 : decode c_X_post 57 = .ok (.aload_n 3, 1) := by decide +kernel
theorem d_X_post_58 : decode c_X_post 58 = .ok (.aastore, 1) := by decide +kernel
theorem d_X_post_59 : decode c_X_post 59 = .ok (.aload_n 0, 1) := by decide +kernel
theorem d_X_post_60 : decode c_X_post 60 = .ok (.dup, 1) := by decide +kernel
theorem d_X_post_61 : decode c_X_post 61 = .ok (.getfield 114, 3) := by decide +kernel
theorem d_X_post_64 : decode c_X_post 64 = .ok (.iconst 1, 1) := by decide +kernel
theorem d_X_post_65 : decode c_X_post 65 = .ok (.iadd, 1) := by decide +kernel
theorem d_X_post_66 : decode c_X_post 66 = .ok (.putfield 114, 3) := by decide +kernel
theorem d_X_post_69 : decode c_X_post 69 = .ok (.aload_n 0, 1) := by decide +kernel
theorem d_X_post_70 : decode c_X_post 70 = .ok (.getfield 114, 3) := by decide +kernel
theorem d_X_post_73 : decode c_X_post 73 = .ok (.iconst 1, 1) := by decide +kernel
theorem d_X_post_74 : decode c_X_post 74 = .ok (.isub, 1) := by decide +kernel
theorem d_X_post_75 : decode c_X_post 75 = .ok (.ireturn, 1) := by decide +kernel
theorem d_X_strike_0 : decode c_X_strike 0 = .ok (.aload_n 0, 1) := by decide +kernel
theorem d_X_strike_1 : decode c_X_strike 1 = .ok (.iload_n 1, 1) := by decide +kernel
theorem d_X_strike_2 : decode c_X_strike 2 = .ok (.invokevirtual 117, 3) := by decide +kernel
theorem d_X_strike_5 : decode c_X_strike 5 = .ok (.astore_n 2, 1) := by decide +kernel
theorem d_X_strike_6 : decode c_X_strike 6 = .ok (.aload_n 2, 1) := by decide +kernel
theorem d_X_strike_7 : decode c_X_strike 7 = .ok (.ifnull 23, 3) := by decide +kernel
theorem d_X_strike_10 : decode c_X_strike 10 = .ok (.aload_n 2, 1) := by decide +kernel
theorem d_X_strike_11 : decode c_X_strike 11 = .ok (.getfield 121, 3) := by decide +kernel
theorem d_X_strike_14 : decode c_X_strike 14 = .ok (.ifCond .ne 16, 3) := by decide +kernel
theorem d_X_strike_17 : decode c_X_strike 17 = .ok (.aload_n 2, 1) := by decide +kernel
theorem d_X_strike_18 : decode c_X_strike 18 = .ok (.getfield 124, 3) := by decide +kernel
theorem d_X_strike_21 : decode c_X_strike 21 = .ok (.getfield 55, 3) := by decide +kernel
theorem d_X_strike_24 : decode c_X_strike 24 = .ok (.getfield 59, 3) := by decide +kernel
theorem d_X_strike_27 : decode c_X_strike 27 = .ok (.ifCond .eq 5, 3) := by decide +kernel
theorem d_X_strike_30 : decode c_X_strike 30 = .ok (.iconst 0, 1) := by decide +kernel
theorem d_X_strike_31 : decode c_X_strike 31 = .ok (.ireturn, 1) := by decide +kernel
theorem d_X_strike_32 : decode c_X_strike 32 = .ok (.aload_n 2, 1) := by decide +kernel
theorem d_X_strike_33 : decode c_X_strike 33 = .ok (.iconst 1, 1) := by decide +kernel
theorem d_X_strike_34 : decode c_X_strike 34 = .ok (.putfield 121, 3) := by decide +kernel
theorem d_X_strike_37 : decode c_X_strike 37 = .ok (.aload_n 2, 1) := by decide +kernel
theorem d_X_strike_38 : decode c_X_strike 38 = .ok (.getfield 124, 3) := by decide +kernel
theorem d_X_strike_41 : decode c_X_strike 41 = .ok (.aload_n 2, 1) := by decide +kernel
theorem d_X_strike_42 : decode c_X_strike 42 = .ok (.iconst (-1), 1) := by decide +kernel
theorem d_X_strike_43 : decode c_X_strike 43 = .ok (.invokevirtual 110, 3) := by decide +kernel
theorem d_X_strike_46 : decode c_X_strike 46 = .ok (.iconst 1, 1) := by decide +kernel
theorem d_X_strike_47 : decode c_X_strike 47 = .ok (.ireturn, 1) := by decide +kernel
theorem d_X_about_0 : decode c_X_about 0 = .ok (.aload_n 0, 1) := by decide +kernel
theorem d_X_about_1 : decode c_X_about 1 = .ok (.iload_n 1, 1) := by decide +kernel
theorem d_X_about_2 : decode c_X_about 2 = .ok (.invokevirtual 117, 3) := by decide +kernel
theorem d_X_about_5 : decode c_X_about 5 = .ok (.astore 4, 2) := by decide +kernel
theorem d_X_about_7 : decode c_X_about 7 = .ok (.aload 4, 2) := by decide +kernel
theorem d_X_about_9 : decode c_X_about 9 = .ok (.ifnull 12, 3) := by decide +kernel
theorem d_X_about_12 : decode c_X_about 12 = .ok (.iload_n 3, 1) := by decide +kernel
theorem d_X_about_13 : decode c_X_about 13 = .ok (.ifCond .lt 8, 3) := by decide +kernel
theorem d_X_about_16 : decode c_X_about 16 = .ok (.iload_n 3, 1) := by decide +kernel
theorem d_X_about_17 : decode c_X_about 17 = .ok (.iconst 2, 1) := by decide +kernel
theorem d_X_about_18 : decode c_X_about 18 = .ok (.if_icmp .le 7, 3) := by decide +kernel
theorem d_X_about_21 : decode c_X_about 21 = .ok (.ldc2_w 127, 3) := by decide +kernel
theorem d_X_about_24 : decode c_X_about 24 = .ok (.lreturn, 1) := by decide +kernel
theorem d_X_about_25 : decode c_X_about 25 = .ok (.iload_n 2, 1) := by decide +kernel
theorem d_X_about_26 : decode c_X_about 26 = .ok (.ifCond .lt 9, 3) := by decide +kernel
theorem d_X_about_29 : decode c_X_about 29 = .ok (.iload_n 2, 1) := by decide +kernel
theorem d_X_about_30 : decode c_X_about 30 = .ok (.bipush 12, 2) := by decide +kernel
theorem d_X_about_32 : decode c_X_about 32 = .ok (.if_icmp .lt 5, 3) := by decide +kernel
theorem d_X_about_35 : decode c_X_about 35 = .ok (.lconst 0, 1) := by decide +kernel
theorem d_X_about_36 : decode c_X_about 36 = .ok (.lreturn, 1) := by decide +kernel
theorem d_X_about_37 : decode c_X_about 37 = .ok (.iload_n 3, 1) := by decide +kernel
theorem d_X_about_38 : decode c_X_about 38 = .ok (.ifCond .ne 11, 3) := by decide +kernel
theorem d_X_about_41 : decode c_X_about 41 = .ok (.aload 4, 2) := by decide +kernel
theorem d_X_about_43 : decode c_X_about 43 = .ok (.getfield 129, 3) := by decide +kernel
theorem d_X_about_46 : decode c_X_about 46 = .ok (.iload_n 2, 1) := by decide +kernel
theorem d_X_about_47 : decode c_X_about 47 = .ok (.laload, 1) := by decide +kernel
theorem d_X_about_48 : decode c_X_about 48 = .ok (.lreturn, 1) := by decide +kernel
theorem d_X_about_49 : decode c_X_about 49 = .ok (.iload_n 3, 1) := by decide +kernel
theorem d_X_about_50 : decode c_X_about 50 = .ok (.iconst 1, 1) := by decide +kernel
theorem d_X_about_51 : decode c_X_about 51 = .ok (.if_icmp .ne 13, 3) := by decide +kernel
theorem d_X_about_54 : decode c_X_about 54 = .ok (.aload 4, 2) := by decide +kernel
theorem d_X_about_56 : decode c_X_about 56 = .ok (.getfield 132, 3) := by decide +kernel
theorem d_X_about_59 : decode c_X_about 59 = .ok (.iload_n 2, 1) := by decide +kernel
theorem d_X_about_60 : decode c_X_about 60 = .ok (.laload, 1) := by decide +kernel
theorem d_X_about_61 : decode c_X_about 61 = .ok (.goto 10, 3) := by decide +kernel
theorem d_X_about_64 : decode c_X_about 64 = .ok (.aload 4, 2) := by decide +kernel
theorem d_X_about_66 : decode c_X_about 66 = .ok (.getfield 135, 3) := by decide +kernel
theorem d_X_about_69 : decode c_X_about 69 = .ok (.iload_n 2, 1) := by decide +kernel
theorem d_X_about_70 : decode c_X_about 70 = .ok (.laload, 1) := by decide +kernel
theorem d_X_about_71 : decode c_X_about 71 = .ok (.lreturn, 1) := by decide +kernel
theorem d_X_total_0 : decode c_X_total 0 = .ok (.aload_n 0, 1) := by decide +kernel
theorem d_X_total_1 : decode c_X_total 1 = .ok (.iload_n 1, 1) := by decide +kernel
theorem d_X_total_2 : decode c_X_total 2 = .ok (.invokevirtual 117, 3) := by decide +kernel
theorem d_X_total_5 : decode c_X_total 5 = .ok (.astore_n 2, 1) := by decide +kernel
theorem d_X_total_6 : decode c_X_total 6 = .ok (.aload_n 2, 1) := by decide +kernel
theorem d_X_total_7 : decode c_X_total 7 = .ok (.ifnonnull 9, 3) := by decide +kernel
theorem d_X_total_10 : decode c_X_total 10 = .ok (.ldc2_w 127, 3) := by decide +kernel
theorem d_X_total_13 : decode c_X_total 13 = .ok (.goto 7, 3) := by decide +kernel
theorem d_X_total_16 : decode c_X_total 16 = .ok (.aload_n 2, 1) := by decide +kernel
theorem d_X_total_17 : decode c_X_total 17 = .ok (.getfield 138, 3) := by decide +kernel
theorem d_X_total_20 : decode c_X_total 20 = .ok (.lreturn, 1) := by decide +kernel
theorem d_X_balance_0 : decode c_X_balance 0 = .ok (.aload_n 0, 1) := by decide +kernel
theorem d_X_balance_1 : decode c_X_balance 1 = .ok (.iload_n 1, 1) := by decide +kernel
theorem d_X_balance_2 : decode c_X_balance 2 = .ok (.invokevirtual 40, 3) := by decide +kernel
theorem d_X_balance_5 : decode c_X_balance 5 = .ok (.astore_n 3, 1) := by decide +kernel
theorem d_X_balance_6 : decode c_X_balance 6 = .ok (.aload_n 3, 1) := by decide +kernel
theorem d_X_balance_7 : decode c_X_balance 7 = .ok (.ifnull 11, 3) := by decide +kernel
theorem d_X_balance_10 : decode c_X_balance 10 = .ok (.aload_n 3, 1) := by decide +kernel
theorem d_X_balance_11 : decode c_X_balance 11 = .ok (.iload_n 2, 1) := by decide +kernel
theorem d_X_balance_12 : decode c_X_balance 12 = .ok (.invokevirtual 142, 3) := by decide +kernel
theorem d_X_balance_15 : decode c_X_balance 15 = .ok (.ifCond .ne 7, 3) := by decide +kernel
theorem d_X_balance_18 : decode c_X_balance 18 = .ok (.lconst 0, 1) := by decide +kernel
theorem d_X_balance_19 : decode c_X_balance 19 = .ok (.goto 9, 3) := by decide +kernel
theorem d_X_balance_22 : decode c_X_balance 22 = .ok (.aload_n 3, 1) := by decide +kernel
theorem d_X_balance_23 : decode c_X_balance 23 = .ok (.getfield 51, 3) := by decide +kernel
theorem d_X_balance_26 : decode c_X_balance 26 = .ok (.iload_n 2, 1) := by decide +kernel
theorem d_X_balance_27 : decode c_X_balance 27 = .ok (.laload, 1) := by decide +kernel
theorem d_X_balance_28 : decode c_X_balance 28 = .ok (.lreturn, 1) := by decide +kernel
theorem d_X_drift_0 : decode c_X_drift 0 = .ok (.aload_n 0, 1) := by decide +kernel
theorem d_X_drift_1 : decode c_X_drift 1 = .ok (.iload_n 1, 1) := by decide +kernel
theorem d_X_drift_2 : decode c_X_drift 2 = .ok (.invokevirtual 40, 3) := by decide +kernel
theorem d_X_drift_5 : decode c_X_drift 5 = .ok (.astore_n 3, 1) := by decide +kernel
theorem d_X_drift_6 : decode c_X_drift 6 = .ok (.aload_n 3, 1) := by decide +kernel
theorem d_X_drift_7 : decode c_X_drift 7 = .ok (.ifnull 11, 3) := by decide +kernel
theorem d_X_drift_10 : decode c_X_drift 10 = .ok (.aload_n 3, 1) := by decide +kernel
theorem d_X_drift_11 : decode c_X_drift 11 = .ok (.iload_n 2, 1) := by decide +kernel
theorem d_X_drift_12 : decode c_X_drift 12 = .ok (.invokevirtual 142, 3) := by decide +kernel
theorem d_X_drift_15 : decode c_X_drift 15 = .ok (.ifCond .ne 7, 3) := by decide +kernel
theorem d_X_drift_18 : decode c_X_drift 18 = .ok (.lconst 0, 1) := by decide +kernel
theorem d_X_drift_19 : decode c_X_drift 19 = .ok (.goto 9, 3) := by decide +kernel
theorem d_X_drift_22 : decode c_X_drift 22 = .ok (.aload_n 3, 1) := by decide +kernel
theorem d_X_drift_23 : decode c_X_drift 23 = .ok (.getfield 145, 3) := by decide +kernel
theorem d_X_drift_26 : decode c_X_drift 26 = .ok (.iload_n 2, 1) := by decide +kernel
theorem d_X_drift_27 : decode c_X_drift 27 = .ok (.laload, 1) := by decide +kernel
theorem d_X_drift_28 : decode c_X_drift 28 = .ok (.lreturn, 1) := by decide +kernel
theorem d_X_settle_0 : decode c_X_settle 0 = .ok (.aload_n 0, 1) := by decide +kernel
theorem d_X_settle_1 : decode c_X_settle 1 = .ok (.iload_n 1, 1) := by decide +kernel
theorem d_X_settle_2 : decode c_X_settle 2 = .ok (.invokevirtual 40, 3) := by decide +kernel
theorem d_X_settle_5 : decode c_X_settle 5 = .ok (.astore_n 2, 1) := by decide +kernel
theorem d_X_settle_6 : decode c_X_settle 6 = .ok (.aload_n 2, 1) := by decide +kernel
theorem d_X_settle_7 : decode c_X_settle 7 = .ok (.ifnull 13, 3) := by decide +kernel
theorem d_X_settle_10 : decode c_X_settle 10 = .ok (.aload_n 2, 1) := by decide +kernel
theorem d_X_settle_11 : decode c_X_settle 11 = .ok (.getfield 55, 3) := by decide +kernel
theorem d_X_settle_14 : decode c_X_settle 14 = .ok (.getfield 59, 3) := by decide +kernel
theorem d_X_settle_17 : decode c_X_settle 17 = .ok (.ifCond .eq 5, 3) := by decide +kernel
theorem d_X_settle_20 : decode c_X_settle 20 = .ok (.iconst (-1), 1) := by decide +kernel
theorem d_X_settle_21 : decode c_X_settle 21 = .ok (.ireturn, 1) := by decide +kernel
theorem d_X_settle_22 : decode c_X_settle 22 = .ok (.aload_n 0, 1) := by decide +kernel
theorem d_X_settle_23 : decode c_X_settle 23 = .ok (.getfield 31, 3) := by decide +kernel
theorem d_X_settle_26 : decode c_X_settle 26 = .ok (.aload_n 2, 1) := by decide +kernel
theorem d_X_settle_27 : decode c_X_settle 27 = .ok (.getfield 55, 3) := by decide +kernel
theorem d_X_settle_30 : decode c_X_settle 30 = .ok (.aload_n 2, 1) := by decide +kernel
theorem d_X_settle_31 : decode c_X_settle 31 = .ok (.getfield 51, 3) := by decide +kernel
theorem d_X_settle_34 : decode c_X_settle 34 = .ok (.invokevirtual 146, 3) := by decide +kernel
theorem d_X_settle_37 : decode c_X_settle 37 = .ok (.aload_n 2, 1) := by decide +kernel
theorem d_X_settle_38 : decode c_X_settle 38 = .ok (.getfield 55, 3) := by decide +kernel
theorem d_X_settle_41 : decode c_X_settle 41 = .ok (.getfield 150, 3) := by decide +kernel
theorem d_X_settle_44 : decode c_X_settle 44 = .ok (.ireturn, 1) := by decide +kernel
theorem d_X_transfer_0 : decode c_X_transfer 0 = .ok (.aload_n 0, 1) := by decide +kernel
theorem d_X_transfer_1 : decode c_X_transfer 1 = .ok (.iload_n 1, 1) := by decide +kernel
theorem d_X_transfer_2 : decode c_X_transfer 2 = .ok (.invokevirtual 40, 3) := by decide +kernel
theorem d_X_transfer_5 : decode c_X_transfer 5 = .ok (.astore 4, 2) := by decide +kernel
theorem d_X_transfer_7 : decode c_X_transfer 7 = .ok (.aload 4, 2) := by decide +kernel
theorem d_X_transfer_9 : decode c_X_transfer 9 = .ok (.ifnull 15, 3) := by decide +kernel
theorem d_X_transfer_12 : decode c_X_transfer 12 = .ok (.aload 4, 2) := by decide +kernel
theorem d_X_transfer_14 : decode c_X_transfer 14 = .ok (.getfield 55, 3) := by decide +kernel
theorem d_X_transfer_17 : decode c_X_transfer 17 = .ok (.iload_n 2, 1) := by decide +kernel
theorem d_X_transfer_18 : decode c_X_transfer 18 = .ok (.invokevirtual 153, 3) := by decide +kernel
theorem d_X_transfer_21 : decode c_X_transfer 21 = .ok (.ifCond .ne 13, 3) := by decide +kernel
theorem d_X_transfer_24 : decode c_X_transfer 24 = .ok (.new 156, 3) := by decide +kernel
theorem d_X_transfer_27 : decode c_X_transfer 27 = .ok (.dup, 1) := by decide +kernel
theorem d_X_transfer_28 : decode c_X_transfer 28 = .ok (.ldc 158, 2) := by decide +kernel
theorem d_X_transfer_30 : decode c_X_transfer 30 = .ok (.invokespecial 160, 3) := by decide +kernel
theorem d_X_transfer_33 : decode c_X_transfer 33 = .ok (.athrow, 1) := by decide +kernel
theorem d_X_transfer_34 : decode c_X_transfer 34 = .ok (.iload_n 3, 1) := by decide +kernel
theorem d_X_transfer_35 : decode c_X_transfer 35 = .ok (.tableswitch 83 0 3 #[29, 41, 53, 64], 29) := by decide +kernel
theorem d_X_transfer_64 : decode c_X_transfer 64 = .ok (.aload 4, 2) := by decide +kernel
theorem d_X_transfer_66 : decode c_X_transfer 66 = .ok (.getfield 55, 3) := by decide +kernel
theorem d_X_transfer_69 : decode c_X_transfer 69 = .ok (.getfield 163, 3) := by decide +kernel
theorem d_X_transfer_72 : decode c_X_transfer 72 = .ok (.iload_n 2, 1) := by decide +kernel
theorem d_X_transfer_73 : decode c_X_transfer 73 = .ok (.iaload, 1) := by decide +kernel
theorem d_X_transfer_74 : decode c_X_transfer 74 = .ok (.i2l, 1) := by decide +kernel
theorem d_X_transfer_75 : decode c_X_transfer 75 = .ok (.lreturn, 1) := by decide +kernel
theorem d_X_transfer_76 : decode c_X_transfer 76 = .ok (.aload 4, 2) := by decide +kernel
theorem d_X_transfer_78 : decode c_X_transfer 78 = .ok (.getfield 55, 3) := by decide +kernel
theorem d_X_transfer_81 : decode c_X_transfer 81 = .ok (.getfield 167, 3) := by decide +kernel
theorem d_X_transfer_84 : decode c_X_transfer 84 = .ok (.iload_n 2, 1) := by decide +kernel
theorem d_X_transfer_85 : decode c_X_transfer 85 = .ok (.iaload, 1) := by decide +kernel
theorem d_X_transfer_86 : decode c_X_transfer 86 = .ok (.i2l, 1) := by decide +kernel
theorem d_X_transfer_87 : decode c_X_transfer 87 = .ok (.lreturn, 1) := by decide +kernel
theorem d_X_transfer_88 : decode c_X_transfer 88 = .ok (.aload 4, 2) := by decide +kernel
theorem d_X_transfer_90 : decode c_X_transfer 90 = .ok (.getfield 55, 3) := by decide +kernel
theorem d_X_transfer_93 : decode c_X_transfer 93 = .ok (.getfield 170, 3) := by decide +kernel
theorem d_X_transfer_96 : decode c_X_transfer 96 = .ok (.iload_n 2, 1) := by decide +kernel
theorem d_X_transfer_97 : decode c_X_transfer 97 = .ok (.laload, 1) := by decide +kernel
theorem d_X_transfer_98 : decode c_X_transfer 98 = .ok (.lreturn, 1) := by decide +kernel
theorem d_X_transfer_99 : decode c_X_transfer 99 = .ok (.aload 4, 2) := by decide +kernel
theorem d_X_transfer_101 : decode c_X_transfer 101 = .ok (.getfield 55, 3) := by decide +kernel
theorem d_X_transfer_104 : decode c_X_transfer 104 = .ok (.getfield 173, 3) := by decide +kernel
theorem d_X_transfer_107 : decode c_X_transfer 107 = .ok (.iload_n 2, 1) := by decide +kernel
theorem d_X_transfer_108 : decode c_X_transfer 108 = .ok (.baload, 1) := by decide +kernel
theorem d_X_transfer_109 : decode c_X_transfer 109 = .ok (.ifCond .eq 7, 3) := by decide +kernel
theorem d_X_transfer_112 : decode c_X_transfer 112 = .ok (.lconst 1, 1) := by decide +kernel
theorem d_X_transfer_113 : decode c_X_transfer 113 = .ok (.goto 4, 3) := by decide +kernel
theorem d_X_transfer_116 : decode c_X_transfer 116 = .ok (.lconst 0, 1) := by decide +kernel
theorem d_X_transfer_117 : decode c_X_transfer 117 = .ok (.lreturn, 1) := by decide +kernel
theorem d_X_transfer_118 : decode c_X_transfer 118 = .ok (.new 177, 3) := by decide +kernel
theorem d_X_transfer_121 : decode c_X_transfer 121 = .ok (.dup, 1) := by decide +kernel
theorem d_X_transfer_122 : decode c_X_transfer 122 = .ok (.ldc 179, 2) := by decide +kernel
theorem d_X_transfer_124 : decode c_X_transfer 124 = .ok (.invokespecial 181, 3) := by decide +kernel
theorem d_X_transfer_127 : decode c_X_transfer 127 = .ok (.athrow, 1) := by decide +kernel
theorem d_X_tick_0 : decode c_X_tick 0 = .ok (.aload_n 0, 1) := by decide +kernel
theorem d_X_tick_1 : decode c_X_tick 1 = .ok (.iload_n 1, 1) := by decide +kernel
theorem d_X_tick_2 : decode c_X_tick 2 = .ok (.invokevirtual 40, 3) := by decide +kernel
theorem d_X_tick_5 : decode c_X_tick 5 = .ok (.astore_n 3, 1) := by decide +kernel
theorem d_X_tick_6 : decode c_X_tick 6 = .ok (.aload_n 3, 1) := by decide +kernel
theorem d_X_tick_7 : decode c_X_tick 7 = .ok (.ifnull 26, 3) := by decide +kernel
theorem d_X_tick_10 : decode c_X_tick 10 = .ok (.aload_n 3, 1) := by decide +kernel
theorem d_X_tick_11 : decode c_X_tick 11 = .ok (.getfield 55, 3) := by decide +kernel
theorem d_X_tick_14 : decode c_X_tick 14 = .ok (.iload_n 2, 1) := by decide +kernel
theorem d_X_tick_15 : decode c_X_tick 15 = .ok (.invokevirtual 153, 3) := by decide +kernel
theorem d_X_tick_18 : decode c_X_tick 18 = .ok (.ifCond .eq 15, 3) := by decide +kernel
theorem d_X_tick_21 : decode c_X_tick 21 = .ok (.aload_n 3, 1) := by decide +kernel
theorem d_X_tick_22 : decode c_X_tick 22 = .ok (.getfield 55, 3) := by decide +kernel
theorem d_X_tick_25 : decode c_X_tick 25 = .ok (.getfield 173, 3) := by decide +kernel
theorem d_X_tick_28 : decode c_X_tick 28 = .ok (.iload_n 2, 1) := by decide +kernel
theorem d_X_tick_29 : decode c_X_tick 29 = .ok (.baload, 1) := by decide +kernel
theorem d_X_tick_30 : decode c_X_tick 30 = .ok (.ifCond .eq 5, 3) := by decide +kernel
theorem d_X_tick_33 : decode c_X_tick 33 = .ok (.iconst 0, 1) := by decide +kernel
theorem d_X_tick_34 : decode c_X_tick 34 = .ok (.ireturn, 1) := by decide +kernel
theorem d_X_tick_35 : decode c_X_tick 35 = .ok (.aload_n 3, 1) := by decide +kernel
theorem d_X_tick_36 : decode c_X_tick 36 = .ok (.iload_n 2, 1) := by decide +kernel
theorem d_X_tick_37 : decode c_X_tick 37 = .ok (.invokevirtual 182, 3) := by decide +kernel
theorem d_X_tick_40 : decode c_X_tick 40 = .ok (.iconst 1, 1) := by decide +kernel
theorem d_X_tick_41 : decode c_X_tick 41 = .ok (.ireturn, 1) := by decide +kernel
theorem d_X_giveUp_0 : decode c_X_giveUp 0 = .ok (.aload_n 0, 1) := by decide +kernel
theorem d_X_giveUp_1 : decode c_X_giveUp 1 = .ok (.iload_n 1, 1) := by decide +kernel
theorem d_X_giveUp_2 : decode c_X_giveUp 2 = .ok (.invokevirtual 40, 3) := by decide +kernel
theorem d_X_giveUp_5 : decode c_X_giveUp 5 = .ok (.astore_n 2, 1) := by decide +kernel
theorem d_X_giveUp_6 : decode c_X_giveUp 6 = .ok (.aload_n 2, 1) := by decide +kernel
theorem d_X_giveUp_7 : decode c_X_giveUp 7 = .ok (.ifnull 13, 3) := by decide +kernel
theorem d_X_giveUp_10 : decode c_X_giveUp 10 = .ok (.aload_n 2, 1) := by decide +kernel
theorem d_X_giveUp_11 : decode c_X_giveUp 11 = .ok (.getfield 55, 3) := by decide +kernel
theorem d_X_giveUp_14 : decode c_X_giveUp 14 = .ok (.getfield 59, 3) := by decide +kernel
theorem d_X_giveUp_17 : decode c_X_giveUp 17 = .ok (.ifCond .ne 5, 3) := by decide +kernel
theorem d_X_giveUp_20 : decode c_X_giveUp 20 = .ok (.iconst (-1), 1) := by decide +kernel
theorem d_X_giveUp_21 : decode c_X_giveUp 21 = .ok (.ireturn, 1) := by decide +kernel
theorem d_X_giveUp_22 : decode c_X_giveUp 22 = .ok (.aload_n 2, 1) := by decide +kernel
theorem d_X_giveUp_23 : decode c_X_giveUp 23 = .ok (.getfield 55, 3) := by decide +kernel
theorem d_X_giveUp_26 : decode c_X_giveUp 26 = .ok (.iconst 0, 1) := by decide +kernel
theorem d_X_giveUp_27 : decode c_X_giveUp 27 = .ok (.putfield 59, 3) := by decide +kernel
theorem d_X_giveUp_30 : decode c_X_giveUp 30 = .ok (.aload_n 2, 1) := by decide +kernel
theorem d_X_giveUp_31 : decode c_X_giveUp 31 = .ok (.getfield 55, 3) := by decide +kernel
theorem d_X_giveUp_34 : decode c_X_giveUp 34 = .ok (.getfield 186, 3) := by decide +kernel
theorem d_X_giveUp_37 : decode c_X_giveUp 37 = .ok (.ireturn, 1) := by decide +kernel
theorem d_X_close_0 : decode c_X_close 0 = .ok (.aload_n 0, 1) := by decide +kernel
theorem d_X_close_1 : decode c_X_close 1 = .ok (.iload_n 1, 1) := by decide +kernel
theorem d_X_close_2 : decode c_X_close 2 = .ok (.invokevirtual 40, 3) := by decide +kernel
theorem d_X_close_5 : decode c_X_close 5 = .ok (.astore_n 2, 1) := by decide +kernel
theorem d_X_close_6 : decode c_X_close 6 = .ok (.aload_n 2, 1) := by decide +kernel
theorem d_X_close_7 : decode c_X_close 7 = .ok (.ifnull 23, 3) := by decide +kernel
theorem d_X_close_10 : decode c_X_close 10 = .ok (.aload_n 2, 1) := by decide +kernel
theorem d_X_close_11 : decode c_X_close 11 = .ok (.getfield 55, 3) := by decide +kernel
theorem d_X_close_14 : decode c_X_close 14 = .ok (.getfield 59, 3) := by decide +kernel
theorem d_X_close_17 : decode c_X_close 17 = .ok (.ifCond .eq 13, 3) := by decide +kernel
theorem d_X_close_20 : decode c_X_close 20 = .ok (.aload_n 2, 1) := by decide +kernel
theorem d_X_close_21 : decode c_X_close 21 = .ok (.getfield 55, 3) := by decide +kernel
theorem d_X_close_24 : decode c_X_close 24 = .ok (.getfield 186, 3) := by decide +kernel
theorem d_X_close_27 : decode c_X_close 27 = .ok (.ifCond .eq 5, 3) := by decide +kernel
theorem d_X_close_30 : decode c_X_close 30 = .ok (.iconst 0, 1) := by decide +kernel
theorem d_X_close_31 : decode c_X_close 31 = .ok (.ireturn, 1) := by decide +kernel
theorem d_X_close_32 : decode c_X_close 32 = .ok (.aload_n 2, 1) := by decide +kernel
theorem d_X_close_33 : decode c_X_close 33 = .ok (.getfield 55, 3) := by decide +kernel
theorem d_X_close_36 : decode c_X_close 36 = .ok (.iconst 0, 1) := by decide +kernel
theorem d_X_close_37 : decode c_X_close 37 = .ok (.putfield 59, 3) := by decide +kernel
theorem d_X_close_40 : decode c_X_close 40 = .ok (.iconst 1, 1) := by decide +kernel
theorem d_X_close_41 : decode c_X_close 41 = .ok (.ireturn, 1) := by decide +kernel
theorem d_X_count_0 : decode c_X_count 0 = .ok (.aload_n 0, 1) := by decide +kernel
theorem d_X_count_1 : decode c_X_count 1 = .ok (.iload_n 1, 1) := by decide +kernel
theorem d_X_count_2 : decode c_X_count 2 = .ok (.invokevirtual 40, 3) := by decide +kernel
theorem d_X_count_5 : decode c_X_count 5 = .ok (.astore_n 3, 1) := by decide +kernel
theorem d_X_count_6 : decode c_X_count 6 = .ok (.aload_n 3, 1) := by decide +kernel
theorem d_X_count_7 : decode c_X_count 7 = .ok (.ifnonnull 5, 3) := by decide +kernel
theorem d_X_count_10 : decode c_X_count 10 = .ok (.iconst (-1), 1) := by decide +kernel
theorem d_X_count_11 : decode c_X_count 11 = .ok (.ireturn, 1) := by decide +kernel
theorem d_X_count_12 : decode c_X_count 12 = .ok (.iload_n 2, 1) := by decide +kernel
theorem d_X_count_13 : decode c_X_count 13 = .ok (.tableswitch 85 0 3 #[31, 36, 58, 80], 31) := by decide +kernel
theorem d_X_count_44 : decode c_X_count 44 = .ok (.aload_n 3, 1) := by decide +kernel
theorem d_X_count_45 : decode c_X_count 45 = .ok (.getfield 44, 3) := by decide +kernel
theorem d_X_count_48 : decode c_X_count 48 = .ok (.ireturn, 1) := by decide +kernel
theorem d_X_count_49 : decode c_X_count 49 = .ok (.aload_n 3, 1) := by decide +kernel
theorem d_X_count_50 : decode c_X_count 50 = .ok (.getfield 55, 3) := by decide +kernel
theorem d_X_count_53 : decode c_X_count 53 = .ok (.getfield 59, 3) := by decide +kernel
theorem d_X_count_56 : decode c_X_count 56 = .ok (.ifCond .eq 13, 3) := by decide +kernel
theorem d_X_count_59 : decode c_X_count 59 = .ok (.aload_n 3, 1) := by decide +kernel
theorem d_X_count_60 : decode c_X_count 60 = .ok (.getfield 55, 3) := by decide +kernel
theorem d_X_count_63 : decode c_X_count 63 = .ok (.getfield 189, 3) := by decide +kernel
theorem d_X_count_66 : decode c_X_count 66 = .ok (.goto 4, 3) := by decide +kernel
theorem d_X_count_69 : decode c_X_count 69 = .ok (.iconst (-1), 1) := by decide +kernel
theorem d_X_count_70 : decode c_X_count 70 = .ok (.ireturn, 1) := by decide +kernel
theorem d_X_count_71 : decode c_X_count 71 = .ok (.aload_n 3, 1) := by decide +kernel
theorem d_X_count_72 : decode c_X_count 72 = .ok (.getfield 55, 3) := by decide +kernel
theorem d_X_count_75 : decode c_X_count 75 = .ok (.getfield 59, 3) := by decide +kernel
theorem d_X_count_78 : decode c_X_count 78 = .ok (.ifCond .eq 13, 3) := by decide +kernel
theorem d_X_count_81 : decode c_X_count 81 = .ok (.aload_n 3, 1) := by decide +kernel
theorem d_X_count_82 : decode c_X_count 82 = .ok (.getfield 55, 3) := by decide +kernel
theorem d_X_count_85 : decode c_X_count 85 = .ok (.getfield 186, 3) := by decide +kernel
theorem d_X_count_88 : decode c_X_count 88 = .ok (.goto 4, 3) := by decide +kernel
theorem d_X_count_91 : decode c_X_count 91 = .ok (.iconst (-1), 1) := by decide +kernel
theorem d_X_count_92 : decode c_X_count 92 = .ok (.ireturn, 1) := by decide +kernel
theorem d_X_count_93 : decode c_X_count 93 = .ok (.aload_n 3, 1) := by decide +kernel
theorem d_X_count_94 : decode c_X_count 94 = .ok (.getfield 192, 3) := by decide +kernel
theorem d_X_count_97 : decode c_X_count 97 = .ok (.ireturn, 1) := by decide +kernel
theorem d_X_count_98 : decode c_X_count 98 = .ok (.iconst (-1), 1) := by decide +kernel
theorem d_X_count_99 : decode c_X_count 99 = .ok (.ireturn, 1) := by decide +kernel
theorem d_X_groupOf_0 : decode c_X_groupOf 0 = .ok (.aload_n 0, 1) := by decide +kernel
theorem d_X_groupOf_1 : decode c_X_groupOf 1 = .ok (.iload_n 1, 1) := by decide +kernel
theorem d_X_groupOf_2 : decode c_X_groupOf 2 = .ok (.invokevirtual 40, 3) := by decide +kernel
theorem d_X_groupOf_5 : decode c_X_groupOf 5 = .ok (.astore_n 3, 1) := by decide +kernel
theorem d_X_groupOf_6 : decode c_X_groupOf 6 = .ok (.aload_n 3, 1) := by decide +kernel
theorem d_X_groupOf_7 : decode c_X_groupOf 7 = .ok (.ifnull 21, 3) := by decide +kernel
theorem d_X_groupOf_10 : decode c_X_groupOf 10 = .ok (.aload_n 3, 1) := by decide +kernel
theorem d_X_groupOf_11 : decode c_X_groupOf 11 = .ok (.getfield 55, 3) := by decide +kernel
theorem d_X_groupOf_14 : decode c_X_groupOf 14 = .ok (.getfield 59, 3) := by decide +kernel
theorem d_X_groupOf_17 : decode c_X_groupOf 17 = .ok (.ifCond .eq 11, 3) := by decide +kernel
theorem d_X_groupOf_20 : decode c_X_groupOf 20 = .ok (.aload_n 3, 1) := by decide +kernel
theorem d_X_groupOf_21 : decode c_X_groupOf 21 = .ok (.iload_n 2, 1) := by decide +kernel
theorem d_X_groupOf_22 : decode c_X_groupOf 22 = .ok (.invokevirtual 142, 3) := by decide +kernel
theorem d_X_groupOf_25 : decode c_X_groupOf 25 = .ok (.ifCond .ne 5, 3) := by decide +kernel
theorem d_X_groupOf_28 : decode c_X_groupOf 28 = .ok (.iconst (-1), 1) := by decide +kernel
theorem d_X_groupOf_29 : decode c_X_groupOf 29 = .ok (.ireturn, 1) := by decide +kernel
theorem d_X_groupOf_30 : decode c_X_groupOf 30 = .ok (.aload_n 3, 1) := by decide +kernel
theorem d_X_groupOf_31 : decode c_X_groupOf 31 = .ok (.getfield 55, 3) := by decide +kernel
theorem d_X_groupOf_34 : decode c_X_groupOf 34 = .ok (.getfield 195, 3) := by decide +kernel
theorem d_X_groupOf_37 : decode c_X_groupOf 37 = .ok (.iload_n 2, 1) := by decide +kernel
theorem d_X_groupOf_38 : decode c_X_groupOf 38 = .ok (.iaload, 1) := by decide +kernel
theorem d_X_groupOf_39 : decode c_X_groupOf 39 = .ok (.ireturn, 1) := by decide +kernel
theorem d_X_clubAt_0 : decode c_X_clubAt 0 = .ok (.iload_n 1, 1) := by decide +kernel
theorem d_X_clubAt_1 : decode c_X_clubAt 1 = .ok (.ifCond .lt 11, 3) := by decide +kernel
theorem d_X_clubAt_4 : decode c_X_clubAt 4 = .ok (.iload_n 1, 1) := by decide +kernel
theorem d_X_clubAt_5 : decode c_X_clubAt 5 = .ok (.aload_n 0, 1) := by decide +kernel
theorem d_X_clubAt_6 : decode c_X_clubAt 6 = .ok (.getfield 35, 3) := by decide +kernel
theorem d_X_clubAt_9 : decode c_X_clubAt 9 = .ok (.if_icmp .lt 7, 3) := by decide +kernel
theorem d_X_clubAt_12 : decode c_X_clubAt 12 = .ok (.aconst_null, 1) := by decide +kernel
theorem d_X_clubAt_13 : decode c_X_clubAt 13 = .ok (.goto 9, 3) := by decide +kernel
theorem d_X_clubAt_16 : decode c_X_clubAt 16 = .ok (.aload_n 0, 1) := by decide +kernel
theorem d_X_clubAt_17 : decode c_X_clubAt 17 = .ok (.getfield 11, 3) := by decide +kernel
theorem d_X_clubAt_20 : decode c_X_clubAt 20 = .ok (.iload_n 1, 1) := by decide +kernel
theorem d_X_clubAt_21 : decode c_X_clubAt 21 = .ok (.aaload, 1) := by decide +kernel
theorem d_X_clubAt_22 : decode c_X_clubAt 22 = .ok (.areturn, 1) := by decide +kernel
theorem d_X_billAt_0 : decode c_X_billAt 0 = .ok (.iload_n 1, 1) := by decide +kernel
theorem d_X_billAt_1 : decode c_X_billAt 1 = .ok (.ifCond .lt 11, 3) := by decide +kernel
theorem d_X_billAt_4 : decode c_X_billAt 4 = .ok (.iload_n 1, 1) := by decide +kernel
theorem d_X_billAt_5 : decode c_X_billAt 5 = .ok (.aload_n 0, 1) := by decide +kernel
theorem d_X_billAt_6 : decode c_X_billAt 6 = .ok (.getfield 114, 3) := by decide +kernel
theorem d_X_billAt_9 : decode c_X_billAt 9 = .ok (.if_icmp .lt 7, 3) := by decide +kernel
theorem d_X_billAt_12 : decode c_X_billAt 12 = .ok (.aconst_null, 1) := by decide +kernel
theorem d_X_billAt_13 : decode c_X_billAt 13 = .ok (.goto 9, 3) := by decide +kernel
theorem d_X_billAt_16 : decode c_X_billAt 16 = .ok (.aload_n 0, 1) := by decide +kernel
theorem d_X_billAt_17 : decode c_X_billAt 17 = .ok (.getfield 17, 3) := by decide +kernel
theorem d_X_billAt_20 : decode c_X_billAt 20 = .ok (.iload_n 1, 1) := by decide +kernel
theorem d_X_billAt_21 : decode c_X_billAt 21 = .ok (.aaload, 1) := by decide +kernel
theorem d_X_billAt_22 : decode c_X_billAt 22 = .ok (.areturn, 1) := by decide +kernel
theorem d_X_refusalOfPost_0 : decode c_X_refusalOfPost 0 = .ok (.aload_n 1, 1) := by decide +kernel
theorem d_X_refusalOfPost_1 : decode c_X_refusalOfPost 1 = .ok (.getfield 55, 3) := by decide +kernel
theorem d_X_refusalOfPost_4 : decode c_X_refusalOfPost 4 = .ok (.getfield 59, 3) := by decide +kernel
theorem d_X_refusalOfPost_7 : decode c_X_refusalOfPost 7 = .ok (.ifCond .eq 6, 3) := by decide +kernel
theorem d_X_refusalOfPost_10 : decode c_X_refusalOfPost 10 = .ok (.bipush (-2), 2) := by decide +kernel
theorem d_X_refusalOfPost_12 : decode c_X_refusalOfPost 12 = .ok (.ireturn, 1) := by decide +kernel
theorem d_X_refusalOfPost_13 : decode c_X_refusalOfPost 13 = .ok (.aload_n 0, 1) := by decide +kernel
theorem d_X_refusalOfPost_14 : decode c_X_refusalOfPost 14 = .ok (.getfield 114, 3) := by decide +kernel
theorem d_X_refusalOfPost_17 : decode c_X_refusalOfPost 17 = .ok (.bipush 64, 2) := by decide +kernel
theorem d_X_refusalOfPost_19 : decode c_X_refusalOfPost 19 = .ok (.if_icmp .lt 6, 3) := by decide +kernel
theorem d_X_refusalOfPost_22 : decode c_X_refusalOfPost 22 = .ok (.bipush (-3), 2) := by decide +kernel
theorem d_X_refusalOfPost_24 : decode c_X_refusalOfPost 24 = .ok (.ireturn, 1) := by decide +kernel
theorem d_X_refusalOfPost_25 : decode c_X_refusalOfPost 25 = .ok (.aload_n 0, 1) := by decide +kernel
theorem d_X_refusalOfPost_26 : decode c_X_refusalOfPost 26 = .ok (.getfield 24, 3) := by decide +kernel
theorem d_X_refusalOfPost_29 : decode c_X_refusalOfPost 29 = .ok (.aload_n 1, 1) := by decide +kernel
theorem d_X_refusalOfPost_30 : decode c_X_refusalOfPost 30 = .ok (.invokevirtual 198, 3) := by decide +kernel
theorem d_X_refusalOfPost_33 : decode c_X_refusalOfPost 33 = .ok (.ireturn, 1) := by decide +kernel
theorem d_X_mostWeight_0 : decode c_X_mostWeight 0 = .ok (.iload_n 0, 1) := by decide +kernel
theorem d_X_mostWeight_1 : decode c_X_mostWeight 1 = .ok (.tableswitch 44 1 4 #[31, 33, 37, 40], 31) := by decide +kernel
theorem d_X_mostWeight_32 : decode c_X_mostWeight 32 = .ok (.iconst 1, 1) := by decide +kernel
theorem d_X_mostWeight_33 : decode c_X_mostWeight 33 = .ok (.ireturn, 1) := by decide +kernel
theorem d_X_mostWeight_34 : decode c_X_mostWeight 34 = .ok (.sipush 1000, 3) := by decide +kernel
theorem d_X_mostWeight_37 : decode c_X_mostWeight 37 = .ok (.ireturn, 1) := by decide +kernel
theorem d_X_mostWeight_38 : decode c_X_mostWeight 38 = .ok (.ldc 68, 2) := by decide +kernel
theorem d_X_mostWeight_40 : decode c_X_mostWeight 40 = .ok (.ireturn, 1) := by decide +kernel
theorem d_X_mostWeight_41 : decode c_X_mostWeight 41 = .ok (.sipush 10000, 3) := by decide +kernel
theorem d_X_mostWeight_44 : decode c_X_mostWeight 44 = .ok (.ireturn, 1) := by decide +kernel
theorem d_X_mostWeight_45 : decode c_X_mostWeight 45 = .ok (.iconst 0, 1) := by decide +kernel
theorem d_X_mostWeight_46 : decode c_X_mostWeight 46 = .ok (.ireturn, 1) := by decide +kernel
theorem d_X_sumOf_0 : decode c_X_sumOf 0 = .ok (.lconst 0, 1) := by decide +kernel
theorem d_X_sumOf_1 : decode c_X_sumOf 1 = .ok (.lstore_n 1, 1) := by decide +kernel
theorem d_X_sumOf_2 : decode c_X_sumOf 2 = .ok (.iconst 0, 1) := by decide +kernel
theorem d_X_sumOf_3 : decode c_X_sumOf 3 = .ok (.istore_n 3, 1) := by decide +kernel
theorem d_X_sumOf_4 : decode c_X_sumOf 4 = .ok (.iload_n 3, 1) := by decide +kernel
theorem d_X_sumOf_5 : decode c_X_sumOf 5 = .ok (.bipush 12, 2) := by decide +kernel
theorem d_X_sumOf_7 : decode c_X_sumOf 7 = .ok (.if_icmp .ge 15, 3) := by decide +kernel
theorem d_X_sumOf_10 : decode c_X_sumOf 10 = .ok (.lload_n 1, 1) := by decide +kernel
theorem d_X_sumOf_11 : decode c_X_sumOf 11 = .ok (.aload_n 0, 1) := by decide +kernel
theorem d_X_sumOf_12 : decode c_X_sumOf 12 = .ok (.iload_n 3, 1) := by decide +kernel
theorem d_X_sumOf_13 : decode c_X_sumOf 13 = .ok (.laload, 1) := by decide +kernel
theorem d_X_sumOf_14 : decode c_X_sumOf 14 = .ok (.ladd, 1) := by decide +kernel
theorem d_X_sumOf_15 : decode c_X_sumOf 15 = .ok (.lstore_n 1, 1) := by decide +kernel
theorem d_X_sumOf_16 : decode c_X_sumOf 16 = .ok (.iinc 3 1, 3) := by decide +kernel
theorem d_X_sumOf_19 : decode c_X_sumOf 19 = .ok (.goto (-15), 3) := by decide +kernel
theorem d_X_sumOf_22 : decode c_X_sumOf 22 = .ok (.lload_n 1, 1) := by decide +kernel
theorem d_X_sumOf_23 : decode c_X_sumOf 23 = .ok (.lreturn, 1) := by decide +kernel
theorem d_X_portion_0 : decode c_X_portion 0 = .ok (.lload 4, 2) := by decide +kernel
theorem d_X_portion_2 : decode c_X_portion 2 = .ok (.lconst 0, 1) := by decide +kernel
theorem d_X_portion_3 : decode c_X_portion 3 = .ok (.lcmp, 1) := by decide +kernel
theorem d_X_portion_4 : decode c_X_portion 4 = .ok (.ifCond .gt 5, 3) := by decide +kernel
theorem d_X_portion_7 : decode c_X_portion 7 = .ok (.lconst 0, 1) := by decide +kernel
theorem d_X_portion_8 : decode c_X_portion 8 = .ok (.lreturn, 1) := by decide +kernel
theorem d_X_portion_9 : decode c_X_portion 9 = .ok (.lconst 0, 1) := by decide +kernel
theorem d_X_portion_10 : decode c_X_portion 10 = .ok (.lstore 6, 2) := by decide +kernel
theorem d_X_portion_12 : decode c_X_portion 12 = .ok (.lconst 0, 1) := by decide +kernel
theorem d_X_portion_13 : decode c_X_portion 13 = .ok (.lstore 8, 2) := by decide +kernel
theorem d_X_portion_15 : decode c_X_portion 15 = .ok (.bipush 40, 2) := by decide +kernel
theorem d_X_portion_17 : decode c_X_portion 17 = .ok (.istore 10, 2) := by decide +kernel
theorem d_X_portion_19 : decode c_X_portion 19 = .ok (.iload 10, 2) := by decide +kernel
theorem d_X_portion_21 : decode c_X_portion 21 = .ok (.ifCond .lt 51, 3) := by decide +kernel
theorem d_X_portion_24 : decode c_X_portion 24 = .ok (.lload_n 0, 1) := by decide +kernel
theorem d_X_portion_25 : decode c_X_portion 25 = .ok (.iload 10, 2) := by decide +kernel
theorem d_X_portion_27 : decode c_X_portion 27 = .ok (.lshr, 1) := by decide +kernel
theorem d_X_portion_28 : decode c_X_portion 28 = .ok (.ldc2_w 201, 3) := by decide +kernel
theorem d_X_portion_31 : decode c_X_portion 31 = .ok (.land, 1) := by decide +kernel
theorem d_X_portion_32 : decode c_X_portion 32 = .ok (.lstore 11, 2) := by decide +kernel
theorem d_X_portion_34 : decode c_X_portion 34 = .ok (.lload 8, 2) := by decide +kernel
theorem d_X_portion_36 : decode c_X_portion 36 = .ok (.bipush 20, 2) := by decide +kernel
theorem d_X_portion_38 : decode c_X_portion 38 = .ok (.lshl, 1) := by decide +kernel
theorem d_X_portion_39 : decode c_X_portion 39 = .ok (.lload 11, 2) := by decide +kernel
theorem d_X_portion_41 : decode c_X_portion 41 = .ok (.lload_n 2, 1) := by decide +kernel
theorem d_X_portion_42 : decode c_X_portion 42 = .ok (.lmul, 1) := by decide +kernel
theorem d_X_portion_43 : decode c_X_portion 43 = .ok (.ladd, 1) := by decide +kernel
theorem d_X_portion_44 : decode c_X_portion 44 = .ok (.lstore 13, 2) := by decide +kernel
theorem d_X_portion_46 : decode c_X_portion 46 = .ok (.lload 6, 2) := by decide +kernel
theorem d_X_portion_48 : decode c_X_portion 48 = .ok (.bipush 20, 2) := by decide +kernel
theorem d_X_portion_50 : decode c_X_portion 50 = .ok (.lshl, 1) := by decide +kernel
theorem d_X_portion_51 : decode c_X_portion 51 = .ok (.lload 13, 2) := by decide +kernel
theorem d_X_portion_53 : decode c_X_portion 53 = .ok (.lload 4, 2) := by decide +kernel
theorem d_X_portion_55 : decode c_X_portion 55 = .ok (.ldiv, 1) := by decide +kernel
theorem d_X_portion_56 : decode c_X_portion 56 = .ok (.ladd, 1) := by decide +kernel
theorem d_X_portion_57 : decode c_X_portion 57 = .ok (.lstore 6, 2) := by decide +kernel
theorem d_X_portion_59 : decode c_X_portion 59 = .ok (.lload 13, 2) := by decide +kernel
theorem d_X_portion_61 : decode c_X_portion 61 = .ok (.lload 4, 2) := by decide +kernel
theorem d_X_portion_63 : decode c_X_portion 63 = .ok (.lrem, 1) := by decide +kernel
theorem d_X_portion_64 : decode c_X_portion 64 = .ok (.lstore 8, 2) := by decide +kernel
theorem d_X_portion_66 : decode c_X_portion 66 = .ok (.iinc 10 (-20), 3) := by decide +kernel
theorem d_X_portion_69 : decode c_X_portion 69 = .ok (.goto (-50), 3) := by decide +kernel
theorem d_X_portion_72 : decode c_X_portion 72 = .ok (.lload 6, 2) := by decide +kernel
theorem d_X_portion_74 : decode c_X_portion 74 = .ok (.lreturn, 1) := by decide +kernel
theorem d_X_cut_0 : decode c_X_cut 0 = .ok (.aload_n 2, 1) := by decide +kernel
theorem d_X_cut_1 : decode c_X_cut 1 = .ok (.invokestatic 203, 3) := by decide +kernel
theorem d_X_cut_4 : decode c_X_cut 4 = .ok (.lstore 5, 2) := by decide +kernel
theorem d_X_cut_6 : decode c_X_cut 6 = .ok (.lload_n 0, 1) := by decide +kernel
theorem d_X_cut_7 : decode c_X_cut 7 = .ok (.lstore 7, 2) := by decide +kernel
theorem d_X_cut_9 : decode c_X_cut 9 = .ok (.iconst 0, 1) := by decide +kernel
theorem d_X_cut_10 : decode c_X_cut 10 = .ok (.istore 9, 2) := by decide +kernel
theorem d_X_cut_12 : decode c_X_cut 12 = .ok (.iload 9, 2) := by decide +kernel
theorem d_X_cut_14 : decode c_X_cut 14 = .ok (.bipush 12, 2) := by decide +kernel
theorem d_X_cut_16 : decode c_X_cut 16 = .ok (.if_icmp .ge 34, 3) := by decide +kernel
theorem d_X_cut_19 : decode c_X_cut 19 = .ok (.aload 4, 2) := by decide +kernel
theorem d_X_cut_21 : decode c_X_cut 21 = .ok (.iload 9, 2) := by decide +kernel
theorem d_X_cut_23 : decode c_X_cut 23 = .ok (.lload_n 0, 1) := by decide +kernel
theorem d_X_cut_24 : decode c_X_cut 24 = .ok (.aload_n 2, 1) := by decide +kernel
theorem d_X_cut_25 : decode c_X_cut 25 = .ok (.iload 9, 2) := by decide +kernel
theorem d_X_cut_27 : decode c_X_cut 27 = .ok (.laload, 1) := by decide +kernel
theorem d_X_cut_28 : decode c_X_cut 28 = .ok (.lload 5, 2) := by decide +kernel
theorem d_X_cut_30 : decode c_X_cut 30 = .ok (.invokestatic 207, 3) := by decide +kernel
theorem d_X_cut_33 : decode c_X_cut 33 = .ok (.lastore, 1) := by decide +kernel
theorem d_X_cut_34 : decode c_X_cut 34 = .ok (.lload 7, 2) := by decide +kernel
theorem d_X_cut_36 : decode c_X_cut 36 = .ok (.aload 4, 2) := by decide +kernel
theorem d_X_cut_38 : decode c_X_cut 38 = .ok (.iload 9, 2) := by decide +kernel
theorem d_X_cut_40 : decode c_X_cut 40 = .ok (.laload, 1) := by decide +kernel
theorem d_X_cut_41 : decode c_X_cut 41 = .ok (.lsub, 1) := by decide +kernel
theorem d_X_cut_42 : decode c_X_cut 42 = .ok (.lstore 7, 2) := by decide +kernel
theorem d_X_cut_44 : decode c_X_cut 44 = .ok (.iinc 9 1, 3) := by decide +kernel
theorem d_X_cut_47 : decode c_X_cut 47 = .ok (.goto (-35), 3) := by decide +kernel
theorem d_X_cut_50 : decode c_X_cut 50 = .ok (.iload_n 3, 1) := by decide +kernel
theorem d_X_cut_51 : decode c_X_cut 51 = .ok (.istore 9, 2) := by decide +kernel
theorem d_X_cut_53 : decode c_X_cut 53 = .ok (.iconst 0, 1) := by decide +kernel
theorem d_X_cut_54 : decode c_X_cut 54 = .ok (.istore 10, 2) := by decide +kernel
theorem d_X_cut_56 : decode c_X_cut 56 = .ok (.iload 10, 2) := by decide +kernel
theorem d_X_cut_58 : decode c_X_cut 58 = .ok (.bipush 12, 2) := by decide +kernel
theorem d_X_cut_60 : decode c_X_cut 60 = .ok (.if_icmp .ge 58, 3) := by decide +kernel
theorem d_X_cut_63 : decode c_X_cut 63 = .ok (.iload_n 3, 1) := by decide +kernel
theorem d_X_cut_64 : decode c_X_cut 64 = .ok (.iload 10, 2) := by decide +kernel
theorem d_X_cut_66 : decode c_X_cut 66 = .ok (.iadd, 1) := by decide +kernel
theorem d_X_cut_67 : decode c_X_cut 67 = .ok (.bipush 12, 2) := by decide +kernel
theorem d_X_cut_69 : decode c_X_cut 69 = .ok (.irem, 1) := by decide +kernel
theorem d_X_cut_70 : decode c_X_cut 70 = .ok (.istore 11, 2) := by decide +kernel
theorem d_X_cut_72 : decode c_X_cut 72 = .ok (.lload 7, 2) := by decide +kernel
theorem d_X_cut_74 : decode c_X_cut 74 = .ok (.lconst 0, 1) := by decide +kernel
theorem d_X_cut_75 : decode c_X_cut 75 = .ok (.lcmp, 1) := by decide +kernel
theorem d_X_cut_76 : decode c_X_cut 76 = .ok (.ifCond .le 36, 3) := by decide +kernel
theorem d_X_cut_79 : decode c_X_cut 79 = .ok (.aload_n 2, 1) := by decide +kernel
theorem d_X_cut_80 : decode c_X_cut 80 = .ok (.iload 11, 2) := by decide +kernel
theorem d_X_cut_82 : decode c_X_cut 82 = .ok (.laload, 1) := by decide +kernel
theorem d_X_cut_83 : decode c_X_cut 83 = .ok (.lconst 0, 1) := by decide +kernel
theorem d_X_cut_84 : decode c_X_cut 84 = .ok (.lcmp, 1) := by decide +kernel
theorem d_X_cut_85 : decode c_X_cut 85 = .ok (.ifCond .le 27, 3) := by decide +kernel
theorem d_X_cut_88 : decode c_X_cut 88 = .ok (.aload 4, 2) := by decide +kernel
theorem d_X_cut_90 : decode c_X_cut 90 = .ok (.iload 11, 2) := by decide +kernel
theorem d_X_cut_92 : decode c_X_cut 92 = .ok (.dup2, 1) := by decide +kernel
theorem d_X_cut_93 : decode c_X_cut 93 = .ok (.laload, 1) := by decide +kernel
theorem d_X_cut_94 : decode c_X_cut 94 = .ok (.lconst 1, 1) := by decide +kernel
theorem d_X_cut_95 : decode c_X_cut 95 = .ok (.ladd, 1) := by decide +kernel
theorem d_X_cut_96 : decode c_X_cut 96 = .ok (.lastore, 1) := by decide +kernel
theorem d_X_cut_97 : decode c_X_cut 97 = .ok (.lload 7, 2) := by decide +kernel
theorem d_X_cut_99 : decode c_X_cut 99 = .ok (.lconst 1, 1) := by decide +kernel
theorem d_X_cut_100 : decode c_X_cut 100 = .ok (.lsub, 1) := by decide +kernel
theorem d_X_cut_101 : decode c_X_cut 101 = .ok (.lstore 7, 2) := by decide +kernel
theorem d_X_cut_103 : decode c_X_cut 103 = .ok (.iload 11, 2) := by decide +kernel
theorem d_X_cut_105 : decode c_X_cut 105 = .ok (.iconst 1, 1) := by decide +kernel
theorem d_X_cut_106 : decode c_X_cut 106 = .ok (.iadd, 1) := by decide +kernel
theorem d_X_cut_107 : decode c_X_cut 107 = .ok (.bipush 12, 2) := by decide +kernel
theorem d_X_cut_109 : decode c_X_cut 109 = .ok (.irem, 1) := by decide +kernel
theorem d_X_cut_110 : decode c_X_cut 110 = .ok (.istore 9, 2) := by decide +kernel
theorem d_X_cut_112 : decode c_X_cut 112 = .ok (.iinc 10 1, 3) := by decide +kernel
theorem d_X_cut_115 : decode c_X_cut 115 = .ok (.goto (-59), 3) := by decide +kernel
theorem d_X_cut_118 : decode c_X_cut 118 = .ok (.iload 9, 2) := by decide +kernel
theorem d_X_cut_120 : decode c_X_cut 120 = .ok (.ireturn, 1) := by decide +kernel
theorem d_B_init_0 : decode c_B_init 0 = .ok (.aload_n 0, 1) := by decide +kernel
theorem d_B_init_1 : decode c_B_init 1 = .ok (.invokespecial 3, 3) := by decide +kernel
theorem d_B_init_4 : decode c_B_init 4 = .ok (.aload_n 0, 1) := by decide +kernel
theorem d_B_init_5 : decode c_B_init 5 = .ok (.bipush 12, 2) := by decide +kernel
theorem d_B_init_7 : decode c_B_init 7 = .ok (.newarray .long, 2) := by decide +kernel
theorem d_B_init_9 : decode c_B_init 9 = .ok (.putfield 9, 3) := by decide +kernel
theorem d_B_init_12 : decode c_B_init 12 = .ok (.aload_n 0, 1) := by decide +kernel
theorem d_B_init_13 : decode c_B_init 13 = .ok (.bipush 12, 2) := by decide +kernel
theorem d_B_init_15 : decode c_B_init 15 = .ok (.newarray .long, 2) := by decide +kernel
theorem d_B_init_17 : decode c_B_init 17 = .ok (.putfield 15, 3) := by decide +kernel
theorem d_B_init_20 : decode c_B_init 20 = .ok (.aload_n 0, 1) := by decide +kernel
theorem d_B_init_21 : decode c_B_init 21 = .ok (.bipush 12, 2) := by decide +kernel
theorem d_B_init_23 : decode c_B_init 23 = .ok (.newarray .long, 2) := by decide +kernel
theorem d_B_init_25 : decode c_B_init 25 = .ok (.putfield 18, 3) := by decide +kernel
theorem d_B_init_28 : decode c_B_init 28 = .ok (.aload_n 0, 1) := by decide +kernel
theorem d_B_init_29 : decode c_B_init 29 = .ok (.aload_n 1, 1) := by decide +kernel
theorem d_B_init_30 : decode c_B_init 30 = .ok (.putfield 21, 3) := by decide +kernel
theorem d_B_init_33 : decode c_B_init 33 = .ok (.aload_n 0, 1) := by decide +kernel
theorem d_B_init_34 : decode c_B_init 34 = .ok (.lload_n 2, 1) := by decide +kernel
theorem d_B_init_35 : decode c_B_init 35 = .ok (.putfield 25, 3) := by decide +kernel
theorem d_B_init_38 : decode c_B_init 38 = .ok (.return_, 1) := by decide +kernel
theorem d_C_init_0 : decode c_C_init 0 = .ok (.aload_n 0, 1) := by decide +kernel
theorem d_C_init_1 : decode c_C_init 1 = .ok (.invokespecial 3, 3) := by decide +kernel
theorem d_C_init_4 : decode c_C_init 4 = .ok (.aload_n 0, 1) := by decide +kernel
theorem d_C_init_5 : decode c_C_init 5 = .ok (.bipush 12, 2) := by decide +kernel
theorem d_C_init_7 : decode c_C_init 7 = .ok (.newarray .long, 2) := by decide +kernel
theorem d_C_init_9 : decode c_C_init 9 = .ok (.putfield 9, 3) := by decide +kernel
theorem d_C_init_12 : decode c_C_init 12 = .ok (.aload_n 0, 1) := by decide +kernel
theorem d_C_init_13 : decode c_C_init 13 = .ok (.bipush 12, 2) := by decide +kernel
theorem d_C_init_15 : decode c_C_init 15 = .ok (.newarray .long, 2) := by decide +kernel
theorem d_C_init_17 : decode c_C_init 17 = .ok (.putfield 15, 3) := by decide +kernel
theorem d_C_init_20 : decode c_C_init 20 = .ok (.aload_n 0, 1) := by decide +kernel
theorem d_C_init_21 : decode c_C_init 21 = .ok (.new 18, 3) := by decide +kernel
theorem d_C_init_24 : decode c_C_init 24 = .ok (.dup, 1) := by decide +kernel
theorem d_C_init_25 : decode c_C_init 25 = .ok (.invokespecial 20, 3) := by decide +kernel
theorem d_C_init_28 : decode c_C_init 28 = .ok (.putfield 21, 3) := by decide +kernel
theorem d_C_init_31 : decode c_C_init 31 = .ok (.return_, 1) := by decide +kernel
theorem d_C_isMember_0 : decode c_C_isMember 0 = .ok (.iload_n 1, 1) := by decide +kernel
theorem d_C_isMember_1 : decode c_C_isMember 1 = .ok (.ifCond .lt 15, 3) := by decide +kernel
theorem d_C_isMember_4 : decode c_C_isMember 4 = .ok (.iload_n 1, 1) := by decide +kernel
theorem d_C_isMember_5 : decode c_C_isMember 5 = .ok (.aload_n 0, 1) := by decide +kernel
theorem d_C_isMember_6 : decode c_C_isMember 6 = .ok (.getfield 25, 3) := by decide +kernel
theorem d_C_isMember_9 : decode c_C_isMember 9 = .ok (.if_icmp .ge 7, 3) := by decide +kernel
theorem d_C_isMember_12 : decode c_C_isMember 12 = .ok (.iconst 1, 1) := by decide +kernel
theorem d_C_isMember_13 : decode c_C_isMember 13 = .ok (.goto 4, 3) := by decide +kernel
theorem d_C_isMember_16 : decode c_C_isMember 16 = .ok (.iconst 0, 1) := by decide +kernel
theorem d_C_isMember_17 : decode c_C_isMember 17 = .ok (.ireturn, 1) := by decide +kernel
theorem d_C_isPresent_0 : decode c_C_isPresent 0 = .ok (.aload_n 0, 1) := by decide +kernel
theorem d_C_isPresent_1 : decode c_C_isPresent 1 = .ok (.iload_n 1, 1) := by decide +kernel
theorem d_C_isPresent_2 : decode c_C_isPresent 2 = .ok (.invokevirtual 29, 3) := by decide +kernel
theorem d_C_isPresent_5 : decode c_C_isPresent 5 = .ok (.ifCond .eq 15, 3) := by decide +kernel
theorem d_C_isPresent_8 : decode c_C_isPresent 8 = .ok (.aload_n 0, 1) := by decide +kernel
theorem d_C_isPresent_9 : decode c_C_isPresent 9 = .ok (.iload_n 1, 1) := by decide +kernel
theorem d_C_isPresent_10 : decode c_C_isPresent 10 = .ok (.invokevirtual 33, 3) := by decide +kernel
theorem d_C_isPresent_13 : decode c_C_isPresent 13 = .ok (.ifCond .ne 7, 3) := by decide +kernel
theorem d_C_isPresent_16 : decode c_C_isPresent 16 = .ok (.iconst 1, 1) := by decide +kernel
theorem d_C_isPresent_17 : decode c_C_isPresent 17 = .ok (.goto 4, 3) := by decide +kernel
theorem d_C_isPresent_20 : decode c_C_isPresent 20 = .ok (.iconst 0, 1) := by decide +kernel
theorem d_C_isPresent_21 : decode c_C_isPresent 21 = .ok (.ireturn, 1) := by decide +kernel
theorem d_C_isGone_0 : decode c_C_isGone 0 = .ok (.aload_n 0, 1) := by decide +kernel
theorem d_C_isGone_1 : decode c_C_isGone 1 = .ok (.getfield 36, 3) := by decide +kernel
theorem d_C_isGone_4 : decode c_C_isGone 4 = .ok (.iload_n 1, 1) := by decide +kernel
theorem d_C_isGone_5 : decode c_C_isGone 5 = .ok (.ishr, 1) := by decide +kernel
theorem d_C_isGone_6 : decode c_C_isGone 6 = .ok (.iconst 1, 1) := by decide +kernel
theorem d_C_isGone_7 : decode c_C_isGone 7 = .ok (.iand, 1) := by decide +kernel
theorem d_C_isGone_8 : decode c_C_isGone 8 = .ok (.ifCond .eq 7, 3) := by decide +kernel
theorem d_C_isGone_11 : decode c_C_isGone 11 = .ok (.iconst 1, 1) := by decide +kernel
theorem d_C_isGone_12 : decode c_C_isGone 12 = .ok (.goto 4, 3) := by decide +kernel
theorem d_C_isGone_15 : decode c_C_isGone 15 = .ok (.iconst 0, 1) := by decide +kernel
theorem d_C_isGone_16 : decode c_C_isGone 16 = .ok (.ireturn, 1) := by decide +kernel
theorem d_C_presentSet_0 : decode c_C_presentSet 0 = .ok (.iconst 1, 1) := by decide +kernel
theorem d_C_presentSet_1 : decode c_C_presentSet 1 = .ok (.aload_n 0, 1) := by decide +kernel
theorem d_C_presentSet_2 : decode c_C_presentSet 2 = .ok (.getfield 25, 3) := by decide +kernel
theorem d_C_presentSet_5 : decode c_C_presentSet 5 = .ok (.ishl, 1) := by decide +kernel
theorem d_C_presentSet_6 : decode c_C_presentSet 6 = .ok (.iconst 1, 1) := by decide +kernel
theorem d_C_presentSet_7 : decode c_C_presentSet 7 = .ok (.isub, 1) := by decide +kernel
theorem d_C_presentSet_8 : decode c_C_presentSet 8 = .ok (.aload_n 0, 1) := by decide +kernel
theorem d_C_presentSet_9 : decode c_C_presentSet 9 = .ok (.getfield 36, 3) := by decide +kernel
theorem d_C_presentSet_12 : decode c_C_presentSet 12 = .ok (.iconst (-1), 1) := by decide +kernel
theorem d_C_presentSet_13 : decode c_C_presentSet 13 = .ok (.ixor, 1) := by decide +kernel
theorem d_C_presentSet_14 : decode c_C_presentSet 14 = .ok (.iand, 1) := by decide +kernel
theorem d_C_presentSet_15 : decode c_C_presentSet 15 = .ok (.ireturn, 1) := by decide +kernel
theorem d_C_book_0 : decode c_C_book 0 = .ok (.iconst 0, 1) := by decide +kernel
theorem d_C_book_1 : decode c_C_book 1 = .ok (.istore_n 3, 1) := by decide +kernel
theorem d_C_book_2 : decode c_C_book 2 = .ok (.iload_n 3, 1) := by decide +kernel
theorem d_C_book_3 : decode c_C_book 3 = .ok (.bipush 12, 2) := by decide +kernel
theorem d_C_book_5 : decode c_C_book 5 = .ok (.if_icmp .ge 52, 3) := by decide +kernel
theorem d_C_book_8 : decode c_C_book 8 = .ok (.aload_n 0, 1) := by decide +kernel
theorem d_C_book_9 : decode c_C_book 9 = .ok (.getfield 9, 3) := by decide +kernel
theorem d_C_book_12 : decode c_C_book 12 = .ok (.iload_n 3, 1) := by decide +kernel
theorem d_C_book_13 : decode c_C_book 13 = .ok (.dup2, 1) := by decide +kernel
theorem d_C_book_14 : decode c_C_book 14 = .ok (.laload, 1) := by decide +kernel
theorem d_C_book_15 : decode c_C_book 15 = .ok (.iload_n 2, 1) := by decide +kernel
theorem d_C_book_16 : decode c_C_book 16 = .ok (.i2l, 1) := by decide +kernel
theorem d_C_book_17 : decode c_C_book 17 = .ok (.aload_n 1, 1) := by decide +kernel
theorem d_C_book_18 : decode c_C_book 18 = .ok (.getfield 39, 3) := by decide +kernel
theorem d_C_book_21 : decode c_C_book 21 = .ok (.iload_n 3, 1) := by decide +kernel
theorem d_C_book_22 : decode c_C_book 22 = .ok (.laload, 1) := by decide +kernel
theorem d_C_book_23 : decode c_C_book 23 = .ok (.aload_n 1, 1) := by decide +kernel
theorem d_C_book_24 : decode c_C_book 24 = .ok (.getfield 44, 3) := by decide +kernel
theorem d_C_book_27 : decode c_C_book 27 = .ok (.iload_n 3, 1) := by decide +kernel
theorem d_C_book_28 : decode c_C_book 28 = .ok (.laload, 1) := by decide +kernel
theorem d_C_book_29 : decode c_C_book 29 = .ok (.lsub, 1) := by decide +kernel
theorem d_C_book_30 : decode c_C_book 30 = .ok (.lmul, 1) := by decide +kernel
theorem d_C_book_31 : decode c_C_book 31 = .ok (.ladd, 1) := by decide +kernel
theorem d_C_book_32 : decode c_C_book 32 = .ok (.lastore, 1) := by decide +kernel
theorem d_C_book_33 : decode c_C_book 33 = .ok (.aload_n 0, 1) := by decide +kernel
theorem d_C_book_34 : decode c_C_book 34 = .ok (.getfield 15, 3) := by decide +kernel
theorem d_C_book_37 : decode c_C_book 37 = .ok (.iload_n 3, 1) := by decide +kernel
theorem d_C_book_38 : decode c_C_book 38 = .ok (.dup2, 1) := by decide +kernel
theorem d_C_book_39 : decode c_C_book 39 = .ok (.laload, 1) := by decide +kernel
theorem d_C_book_40 : decode c_C_book 40 = .ok (.iload_n 2, 1) := by decide +kernel
theorem d_C_book_41 : decode c_C_book 41 = .ok (.i2l, 1) := by decide +kernel
theorem d_C_book_42 : decode c_C_book 42 = .ok (.aload_n 1, 1) := by decide +kernel
theorem d_C_book_43 : decode c_C_book 43 = .ok (.getfield 47, 3) := by decide +kernel
theorem d_C_book_46 : decode c_C_book 46 = .ok (.iload_n 3, 1) := by decide +kernel
theorem d_C_book_47 : decode c_C_book 47 = .ok (.laload, 1) := by decide +kernel
theorem d_C_book_48 : decode c_C_book 48 = .ok (.lmul, 1) := by decide +kernel
theorem d_C_book_49 : decode c_C_book 49 = .ok (.ladd, 1) := by decide +kernel
theorem d_C_book_50 : decode c_C_book 50 = .ok (.lastore, 1) := by decide +kernel
theorem d_C_book_51 : decode c_C_book 51 = .ok (.iinc 3 1, 3) := by decide +kernel
theorem d_C_book_54 : decode c_C_book 54 = .ok (.goto (-52), 3) := by decide +kernel
theorem d_C_book_57 : decode c_C_book 57 = .ok (.return_, 1) := by decide +kernel
theorem d_C_makeTransfer_0 : decode c_C_makeTransfer 0 = .ok (.aload_n 0, 1) := by decide +kernel
theorem d_C_makeTransfer_1 : decode c_C_makeTransfer 1 = .ok (.getfield 21, 3) := by decide +kernel
theorem d_C_makeTransfer_4 : decode c_C_makeTransfer 4 = .ok (.getfield 48, 3) := by decide +kernel
theorem d_C_makeTransfer_7 : decode c_C_makeTransfer 7 = .ok (.iload_n 1, 1) := by decide +kernel
theorem d_C_makeTransfer_8 : decode c_C_makeTransfer 8 = .ok (.iconst 1, 1) := by decide +kernel
theorem d_C_makeTransfer_9 : decode c_C_makeTransfer 9 = .ok (.bastore, 1) := by decide +kernel
theorem d_C_makeTransfer_10 : decode c_C_makeTransfer 10 = .ok (.aload_n 0, 1) := by decide +kernel
theorem d_C_makeTransfer_11 : decode c_C_makeTransfer 11 = .ok (.getfield 21, 3) := by decide +kernel
theorem d_C_makeTransfer_14 : decode c_C_makeTransfer 14 = .ok (.dup, 1) := by decide +kernel
theorem d_C_makeTransfer_15 : decode c_C_makeTransfer 15 = .ok (.getfield 52, 3) := by decide +kernel
theorem d_C_makeTransfer_18 : decode c_C_makeTransfer 18 = .ok (.iconst 1, 1) := by decide +kernel
theorem d_C_makeTransfer_19 : decode c_C_makeTransfer 19 = .ok (.isub, 1) := by decide +kernel
theorem d_C_makeTransfer_20 : decode c_C_makeTransfer 20 = .ok (.putfield 52, 3) := by decide +kernel
theorem d_C_makeTransfer_23 : decode c_C_makeTransfer 23 = .ok (.aload_n 0, 1) := by decide +kernel
theorem d_C_makeTransfer_24 : decode c_C_makeTransfer 24 = .ok (.getfield 9, 3) := by decide +kernel
theorem d_C_makeTransfer_27 : decode c_C_makeTransfer 27 = .ok (.aload_n 0, 1) := by decide +kernel
theorem d_C_makeTransfer_28 : decode c_C_makeTransfer 28 = .ok (.getfield 21, 3) := by decide +kernel
theorem d_C_makeTransfer_31 : decode c_C_makeTransfer 31 = .ok (.getfield 55, 3) := by decide +kernel
theorem d_C_makeTransfer_34 : decode c_C_makeTransfer 34 = .ok (.iload_n 1, 1) := by decide +kernel
theorem d_C_makeTransfer_35 : decode c_C_makeTransfer 35 = .ok (.iaload, 1) := by decide +kernel
theorem d_C_makeTransfer_36 : decode c_C_makeTransfer 36 = .ok (.dup2, 1) := by decide +kernel
theorem d_C_makeTransfer_37 : decode c_C_makeTransfer 37 = .ok (.laload, 1) := by decide +kernel
theorem d_C_makeTransfer_38 : decode c_C_makeTransfer 38 = .ok (.aload_n 0, 1) := by decide +kernel
theorem d_C_makeTransfer_39 : decode c_C_makeTransfer 39 = .ok (.getfield 21, 3) := by decide +kernel
theorem d_C_makeTransfer_42 : decode c_C_makeTransfer 42 = .ok (.getfield 59, 3) := by decide +kernel
theorem d_C_makeTransfer_45 : decode c_C_makeTransfer 45 = .ok (.iload_n 1, 1) := by decide +kernel
theorem d_C_makeTransfer_46 : decode c_C_makeTransfer 46 = .ok (.laload, 1) := by decide +kernel
theorem d_C_makeTransfer_47 : decode c_C_makeTransfer 47 = .ok (.ladd, 1) := by decide +kernel
theorem d_C_makeTransfer_48 : decode c_C_makeTransfer 48 = .ok (.lastore, 1) := by decide +kernel
theorem d_C_makeTransfer_49 : decode c_C_makeTransfer 49 = .ok (.aload_n 0, 1) := by decide +kernel
theorem d_C_makeTransfer_50 : decode c_C_makeTransfer 50 = .ok (.getfield 9, 3) := by decide +kernel
theorem d_C_makeTransfer_53 : decode c_C_makeTransfer 53 = .ok (.aload_n 0, 1) := by decide +kernel
theorem d_C_makeTransfer_54 : decode c_C_makeTransfer 54 = .ok (.getfield 21, 3) := by decide +kernel
theorem d_C_makeTransfer_57 : decode c_C_makeTransfer 57 = .ok (.getfield 62, 3) := by decide +kernel
theorem d_C_makeTransfer_60 : decode c_C_makeTransfer 60 = .ok (.iload_n 1, 1) := by decide +kernel
theorem d_C_makeTransfer_61 : decode c_C_makeTransfer 61 = .ok (.iaload, 1) := by decide +kernel
theorem d_C_makeTransfer_62 : decode c_C_makeTransfer 62 = .ok (.dup2, 1) := by decide +kernel
theorem d_C_makeTransfer_63 : decode c_C_makeTransfer 63 = .ok (.laload, 1) := by decide +kernel
theorem d_C_makeTransfer_64 : decode c_C_makeTransfer 64 = .ok (.aload_n 0, 1) := by decide +kernel
theorem d_C_makeTransfer_65 : decode c_C_makeTransfer 65 = .ok (.getfield 21, 3) := by decide +kernel
theorem d_C_makeTransfer_68 : decode c_C_makeTransfer 68 = .ok (.getfield 59, 3) := by decide +kernel
theorem d_C_makeTransfer_71 : decode c_C_makeTransfer 71 = .ok (.iload_n 1, 1) := by decide +kernel
theorem d_C_makeTransfer_72 : decode c_C_makeTransfer 72 = .ok (.laload, 1) := by decide +kernel
theorem d_C_makeTransfer_73 : decode c_C_makeTransfer 73 = .ok (.lsub, 1) := by decide +kernel
theorem d_C_makeTransfer_74 : decode c_C_makeTransfer 74 = .ok (.lastore, 1) := by decide +kernel
theorem d_C_makeTransfer_75 : decode c_C_makeTransfer 75 = .ok (.return_, 1) := by decide +kernel
theorem d_D_init_0 : decode c_D_init 0 = .ok (.aload_n 0, 1) := by decide +kernel
theorem d_D_init_1 : decode c_D_init 1 = .ok (.invokespecial 3, 3) := by decide +kernel
theorem d_D_init_4 : decode c_D_init 4 = .ok (.aload_n 0, 1) := by decide +kernel
theorem d_D_init_5 : decode c_D_init 5 = .ok (.bipush 12, 2) := by decide +kernel
theorem d_D_init_7 : decode c_D_init 7 = .ok (.newarray .long, 2) := by decide +kernel
theorem d_D_init_9 : decode c_D_init 9 = .ok (.putfield 9, 3) := by decide +kernel
theorem d_D_init_12 : decode c_D_init 12 = .ok (.aload_n 0, 1) := by decide +kernel
theorem d_D_init_13 : decode c_D_init 13 = .ok (.bipush 12, 2) := by decide +kernel
theorem d_D_init_15 : decode c_D_init 15 = .ok (.newarray .long, 2) := by decide +kernel
theorem d_D_init_17 : decode c_D_init 17 = .ok (.putfield 15, 3) := by decide +kernel
theorem d_D_init_20 : decode c_D_init 20 = .ok (.return_, 1) := by decide +kernel
theorem d_D_begin_0 : decode c_D_begin 0 = .ok (.aload_n 0, 1) := by decide +kernel
theorem d_D_begin_1 : decode c_D_begin 1 = .ok (.aload_n 1, 1) := by decide +kernel
theorem d_D_begin_2 : decode c_D_begin 2 = .ok (.putfield 18, 3) := by decide +kernel
theorem d_D_begin_5 : decode c_D_begin 5 = .ok (.aload_n 0, 1) := by decide +kernel
theorem d_D_begin_6 : decode c_D_begin 6 = .ok (.iload_n 2, 1) := by decide +kernel
theorem d_D_begin_7 : decode c_D_begin 7 = .ok (.putfield 22, 3) := by decide +kernel
theorem d_D_begin_10 : decode c_D_begin 10 = .ok (.aload_n 0, 1) := by decide +kernel
theorem d_D_begin_11 : decode c_D_begin 11 = .ok (.iload_n 3, 1) := by decide +kernel
theorem d_D_begin_12 : decode c_D_begin 12 = .ok (.putfield 26, 3) := by decide +kernel
theorem d_D_begin_15 : decode c_D_begin 15 = .ok (.aload_n 0, 1) := by decide +kernel
theorem d_D_begin_16 : decode c_D_begin 16 = .ok (.iload 4, 2) := by decide +kernel
theorem d_D_begin_18 : decode c_D_begin 18 = .ok (.putfield 29, 3) := by decide +kernel
theorem d_D_begin_21 : decode c_D_begin 21 = .ok (.aload_n 0, 1) := by decide +kernel
theorem d_D_begin_22 : decode c_D_begin 22 = .ok (.iconst 0, 1) := by decide +kernel
theorem d_D_begin_23 : decode c_D_begin 23 = .ok (.putfield 32, 3) := by decide +kernel
theorem d_D_begin_26 : decode c_D_begin 26 = .ok (.iconst 0, 1) := by decide +kernel
theorem d_D_begin_27 : decode c_D_begin 27 = .ok (.istore 5, 2) := by decide +kernel
theorem d_D_begin_29 : decode c_D_begin 29 = .ok (.iload 5, 2) := by decide +kernel
theorem d_D_begin_31 : decode c_D_begin 31 = .ok (.bipush 12, 2) := by decide +kernel
theorem d_D_begin_33 : decode c_D_begin 33 = .ok (.if_icmp .ge 25, 3) := by decide +kernel
theorem d_D_begin_36 : decode c_D_begin 36 = .ok (.aload_n 0, 1) := by decide +kernel
theorem d_D_begin_37 : decode c_D_begin 37 = .ok (.getfield 9, 3) := by decide +kernel
theorem d_D_begin_40 : decode c_D_begin 40 = .ok (.iload 5, 2) := by decide +kernel
theorem d_D_begin_42 : decode c_D_begin 42 = .ok (.lconst 0, 1) := by decide +kernel
theorem d_D_begin_43 : decode c_D_begin 43 = .ok (.lastore, 1) := by decide +kernel
theorem d_D_begin_44 : decode c_D_begin 44 = .ok (.aload_n 0, 1) := by decide +kernel
theorem d_D_begin_45 : decode c_D_begin 45 = .ok (.getfield 15, 3) := by decide +kernel
theorem d_D_begin_48 : decode c_D_begin 48 = .ok (.iload 5, 2) := by decide +kernel
theorem d_D_begin_50 : decode c_D_begin 50 = .ok (.lconst 0, 1) := by decide +kernel
theorem d_D_begin_51 : decode c_D_begin 51 = .ok (.lastore, 1) := by decide +kernel
theorem d_D_begin_52 : decode c_D_begin 52 = .ok (.iinc 5 1, 3) := by decide +kernel
theorem d_D_begin_55 : decode c_D_begin 55 = .ok (.goto (-26), 3) := by decide +kernel
theorem d_D_begin_58 : decode c_D_begin 58 = .ok (.return_, 1) := by decide +kernel
theorem d_D_addLine_0 : decode c_D_addLine 0 = .ok (.iload_n 2, 1) := by decide +kernel
theorem d_D_addLine_1 : decode c_D_addLine 1 = .ok (.invokestatic 35, 3) := by decide +kernel
theorem d_D_addLine_4 : decode c_D_addLine 4 = .ok (.istore_n 3, 1) := by decide +kernel
theorem d_D_addLine_5 : decode c_D_addLine 5 = .ok (.iload_n 3, 1) := by decide +kernel
theorem d_D_addLine_6 : decode c_D_addLine 6 = .ok (.ifCond .ne 4, 3) := by decide +kernel
theorem d_D_addLine_9 : decode c_D_addLine 9 = .ok (.return_, 1) := by decide +kernel
theorem d_D_addLine_10 : decode c_D_addLine 10 = .ok (.sipush 27720, 3) := by decide +kernel
theorem d_D_addLine_13 : decode c_D_addLine 13 = .ok (.iload_n 3, 1) := by decide +kernel
theorem d_D_addLine_14 : decode c_D_addLine 14 = .ok (.idiv, 1) := by decide +kernel
theorem d_D_addLine_15 : decode c_D_addLine 15 = .ok (.i2l, 1) := by decide +kernel
theorem d_D_addLine_16 : decode c_D_addLine 16 = .ok (.iload_n 1, 1) := by decide +kernel
theorem d_D_addLine_17 : decode c_D_addLine 17 = .ok (.i2l, 1) := by decide +kernel
theorem d_D_addLine_18 : decode c_D_addLine 18 = .ok (.lmul, 1) := by decide +kernel
theorem d_D_addLine_19 : decode c_D_addLine 19 = .ok (.lstore 4, 2) := by decide +kernel
theorem d_D_addLine_21 : decode c_D_addLine 21 = .ok (.iconst 0, 1) := by decide +kernel
theorem d_D_addLine_22 : decode c_D_addLine 22 = .ok (.istore 6, 2) := by decide +kernel
theorem d_D_addLine_24 : decode c_D_addLine 24 = .ok (.iload 6, 2) := by decide +kernel
theorem d_D_addLine_26 : decode c_D_addLine 26 = .ok (.bipush 12, 2) := by decide +kernel
theorem d_D_addLine_28 : decode c_D_addLine 28 = .ok (.if_icmp .ge 30, 3) := by decide +kernel
theorem d_D_addLine_31 : decode c_D_addLine 31 = .ok (.iload_n 2, 1) := by decide +kernel
theorem d_D_addLine_32 : decode c_D_addLine 32 = .ok (.iload 6, 2) := by decide +kernel
theorem d_D_addLine_34 : decode c_D_addLine 34 = .ok (.ishr, 1) := by decide +kernel
theorem d_D_addLine_35 : decode c_D_addLine 35 = .ok (.iconst 1, 1) := by decide +kernel
theorem d_D_addLine_36 : decode c_D_addLine 36 = .ok (.iand, 1) := by decide +kernel
theorem d_D_addLine_37 : decode c_D_addLine 37 = .ok (.ifCond .eq 15, 3) := by decide +kernel
theorem d_D_addLine_40 : decode c_D_addLine 40 = .ok (.aload_n 0, 1) := by decide +kernel
theorem d_D_addLine_41 : decode c_D_addLine 41 = .ok (.getfield 15, 3) := by decide +kernel
theorem d_D_addLine_44 : decode c_D_addLine 44 = .ok (.iload 6, 2) := by decide +kernel
theorem d_D_addLine_46 : decode c_D_addLine 46 = .ok (.dup2, 1) := by decide +kernel
theorem d_D_addLine_47 : decode c_D_addLine 47 = .ok (.laload, 1) := by decide +kernel
theorem d_D_addLine_48 : decode c_D_addLine 48 = .ok (.lload 4, 2) := by decide +kernel
theorem d_D_addLine_50 : decode c_D_addLine 50 = .ok (.ladd, 1) := by decide +kernel
theorem d_D_addLine_51 : decode c_D_addLine 51 = .ok (.lastore, 1) := by decide +kernel
theorem d_D_addLine_52 : decode c_D_addLine 52 = .ok (.iinc 6 1, 3) := by decide +kernel
theorem d_D_addLine_55 : decode c_D_addLine 55 = .ok (.goto (-31), 3) := by decide +kernel
theorem d_D_addLine_58 : decode c_D_addLine 58 = .ok (.aload_n 0, 1) := by decide +kernel
theorem d_D_addLine_59 : decode c_D_addLine 59 = .ok (.dup, 1) := by decide +kernel
theorem d_D_addLine_60 : decode c_D_addLine 60 = .ok (.getfield 32, 3) := by decide +kernel
theorem d_D_addLine_63 : decode c_D_addLine 63 = .ok (.iconst 1, 1) := by decide +kernel
theorem d_D_addLine_64 : decode c_D_addLine 64 = .ok (.iadd, 1) := by decide +kernel
theorem d_D_addLine_65 : decode c_D_addLine 65 = .ok (.putfield 32, 3) := by decide +kernel
theorem d_D_addLine_68 : decode c_D_addLine 68 = .ok (.return_, 1) := by decide +kernel
theorem d_D_refusalFor_0 : decode c_D_refusalFor 0 = .ok (.iconst 0, 1) := by decide +kernel
theorem d_D_refusalFor_1 : decode c_D_refusalFor 1 = .ok (.istore_n 2, 1) := by decide +kernel
theorem d_D_refusalFor_2 : decode c_D_refusalFor 2 = .ok (.iload_n 2, 1) := by decide +kernel
theorem d_D_refusalFor_3 : decode c_D_refusalFor 3 = .ok (.bipush 12, 2) := by decide +kernel
theorem d_D_refusalFor_5 : decode c_D_refusalFor 5 = .ok (.if_icmp .ge 42, 3) := by decide +kernel
theorem d_D_refusalFor_8 : decode c_D_refusalFor 8 = .ok (.aload_n 1, 1) := by decide +kernel
theorem d_D_refusalFor_9 : decode c_D_refusalFor 9 = .ok (.iload_n 2, 1) := by decide +kernel
theorem d_D_refusalFor_10 : decode c_D_refusalFor 10 = .ok (.invokevirtual 41, 3) := by decide +kernel
theorem d_D_refusalFor_13 : decode c_D_refusalFor 13 = .ok (.ifCond .eq 28, 3) := by decide +kernel
theorem d_D_refusalFor_16 : decode c_D_refusalFor 16 = .ok (.aload_n 0, 1) := by decide +kernel
theorem d_D_refusalFor_17 : decode c_D_refusalFor 17 = .ok (.getfield 9, 3) := by decide +kernel
theorem d_D_refusalFor_20 : decode c_D_refusalFor 20 = .ok (.iload_n 2, 1) := by decide +kernel
theorem d_D_refusalFor_21 : decode c_D_refusalFor 21 = .ok (.laload, 1) := by decide +kernel
theorem d_D_refusalFor_22 : decode c_D_refusalFor 22 = .ok (.lconst 0, 1) := by decide +kernel
theorem d_D_refusalFor_23 : decode c_D_refusalFor 23 = .ok (.lcmp, 1) := by decide +kernel
theorem d_D_refusalFor_24 : decode c_D_refusalFor 24 = .ok (.ifCond .gt 14, 3) := by decide +kernel
theorem d_D_refusalFor_27 : decode c_D_refusalFor 27 = .ok (.aload_n 0, 1) := by decide +kernel
theorem d_D_refusalFor_28 : decode c_D_refusalFor 28 = .ok (.getfield 15, 3) := by decide +kernel
theorem d_D_refusalFor_31 : decode c_D_refusalFor 31 = .ok (.iload_n 2, 1) := by decide +kernel
theorem d_D_refusalFor_32 : decode c_D_refusalFor 32 = .ok (.laload, 1) := by decide +kernel
theorem d_D_refusalFor_33 : decode c_D_refusalFor 33 = .ok (.lconst 0, 1) := by decide +kernel
theorem d_D_refusalFor_34 : decode c_D_refusalFor 34 = .ok (.lcmp, 1) := by decide +kernel
theorem d_D_refusalFor_35 : decode c_D_refusalFor 35 = .ok (.ifCond .le 6, 3) := by decide +kernel
theorem d_D_refusalFor_38 : decode c_D_refusalFor 38 = .ok (.bipush (-4), 2) := by decide +kernel
theorem d_D_refusalFor_40 : decode c_D_refusalFor 40 = .ok (.ireturn, 1) := by decide +kernel
theorem d_D_refusalFor_41 : decode c_D_refusalFor 41 = .ok (.iinc 2 1, 3) := by decide +kernel
theorem d_D_refusalFor_44 : decode c_D_refusalFor 44 = .ok (.goto (-42), 3) := by decide +kernel
theorem d_D_refusalFor_47 : decode c_D_refusalFor 47 = .ok (.aload_n 0, 1) := by decide +kernel
theorem d_D_refusalFor_48 : decode c_D_refusalFor 48 = .ok (.getfield 9, 3) := by decide +kernel
theorem d_D_refusalFor_51 : decode c_D_refusalFor 51 = .ok (.invokestatic 47, 3) := by decide +kernel
theorem d_D_refusalFor_54 : decode c_D_refusalFor 54 = .ok (.aload_n 0, 1) := by decide +kernel
theorem d_D_refusalFor_55 : decode c_D_refusalFor 55 = .ok (.getfield 26, 3) := by decide +kernel
theorem d_D_refusalFor_58 : decode c_D_refusalFor 58 = .ok (.i2l, 1) := by decide +kernel
theorem d_D_refusalFor_59 : decode c_D_refusalFor 59 = .ok (.lcmp, 1) := by decide +kernel
theorem d_D_refusalFor_60 : decode c_D_refusalFor 60 = .ok (.ifCond .eq 6, 3) := by decide +kernel
theorem d_D_refusalFor_63 : decode c_D_refusalFor 63 = .ok (.bipush (-5), 2) := by decide +kernel
theorem d_D_refusalFor_65 : decode c_D_refusalFor 65 = .ok (.ireturn, 1) := by decide +kernel
theorem d_D_refusalFor_66 : decode c_D_refusalFor 66 = .ok (.aload_n 0, 1) := by decide +kernel
theorem d_D_refusalFor_67 : decode c_D_refusalFor 67 = .ok (.getfield 15, 3) := by decide +kernel
theorem d_D_refusalFor_70 : decode c_D_refusalFor 70 = .ok (.invokestatic 47, 3) := by decide +kernel
theorem d_D_refusalFor_73 : decode c_D_refusalFor 73 = .ok (.lstore_n 2, 1) := by decide +kernel
theorem d_D_refusalFor_74 : decode c_D_refusalFor 74 = .ok (.lload_n 2, 1) := by decide +kernel
theorem d_D_refusalFor_75 : decode c_D_refusalFor 75 = .ok (.lconst 0, 1) := by decide +kernel
theorem d_D_refusalFor_76 : decode c_D_refusalFor 76 = .ok (.lcmp, 1) := by decide +kernel
theorem d_D_refusalFor_77 : decode c_D_refusalFor 77 = .ok (.ifCond .ne 6, 3) := by decide +kernel
theorem d_D_refusalFor_80 : decode c_D_refusalFor 80 = .ok (.bipush (-6), 2) := by decide +kernel
theorem d_D_refusalFor_82 : decode c_D_refusalFor 82 = .ok (.ireturn, 1) := by decide +kernel
theorem d_D_refusalFor_83 : decode c_D_refusalFor 83 = .ok (.lload_n 2, 1) := by decide +kernel
theorem d_D_refusalFor_84 : decode c_D_refusalFor 84 = .ok (.aload_n 0, 1) := by decide +kernel
theorem d_D_refusalFor_85 : decode c_D_refusalFor 85 = .ok (.lload_n 2, 1) := by decide +kernel
theorem d_D_refusalFor_86 : decode c_D_refusalFor 86 = .ok (.invokevirtual 51, 3) := by decide +kernel
theorem d_D_refusalFor_89 : decode c_D_refusalFor 89 = .ok (.lcmp, 1) := by decide +kernel
theorem d_D_refusalFor_90 : decode c_D_refusalFor 90 = .ok (.ifCond .ne 7, 3) := by decide +kernel
theorem d_D_refusalFor_93 : decode c_D_refusalFor 93 = .ok (.iconst 0, 1) := by decide +kernel
theorem d_D_refusalFor_94 : decode c_D_refusalFor 94 = .ok (.goto 5, 3) := by decide +kernel
theorem d_D_refusalFor_97 : decode c_D_refusalFor 97 = .ok (.bipush (-7), 2) := by decide +kernel
theorem d_D_refusalFor_99 : decode c_D_refusalFor 99 = .ok (.ireturn, 1) := by decide +kernel
theorem d_D_dueSum_0 : decode c_D_dueSum 0 = .ok (.aload_n 0, 1) := by decide +kernel
theorem d_D_dueSum_1 : decode c_D_dueSum 1 = .ok (.getfield 22, 3) := by decide +kernel
theorem d_D_dueSum_4 : decode c_D_dueSum 4 = .ok (.tableswitch 48 3 5 #[28, 34, 38], 28) := by decide +kernel
theorem d_D_dueSum_32 : decode c_D_dueSum 32 = .ok (.aload_n 0, 1) := by decide +kernel
theorem d_D_dueSum_33 : decode c_D_dueSum 33 = .ok (.getfield 26, 3) := by decide +kernel
theorem d_D_dueSum_36 : decode c_D_dueSum 36 = .ok (.i2l, 1) := by decide +kernel
theorem d_D_dueSum_37 : decode c_D_dueSum 37 = .ok (.lreturn, 1) := by decide +kernel
theorem d_D_dueSum_38 : decode c_D_dueSum 38 = .ok (.ldc2_w 55, 3) := by decide +kernel
theorem d_D_dueSum_41 : decode c_D_dueSum 41 = .ok (.lreturn, 1) := by decide +kernel
theorem d_D_dueSum_42 : decode c_D_dueSum 42 = .ok (.ldc2_w 57, 3) := by decide +kernel
theorem d_D_dueSum_45 : decode c_D_dueSum 45 = .ok (.aload_n 0, 1) := by decide +kernel
theorem d_D_dueSum_46 : decode c_D_dueSum 46 = .ok (.getfield 26, 3) := by decide +kernel
theorem d_D_dueSum_49 : decode c_D_dueSum 49 = .ok (.i2l, 1) := by decide +kernel
theorem d_D_dueSum_50 : decode c_D_dueSum 50 = .ok (.lmul, 1) := by decide +kernel
theorem d_D_dueSum_51 : decode c_D_dueSum 51 = .ok (.lreturn, 1) := by decide +kernel
theorem d_D_dueSum_52 : decode c_D_dueSum 52 = .ok (.lload_n 1, 1) := by decide +kernel
theorem d_D_dueSum_53 : decode c_D_dueSum 53 = .ok (.lreturn, 1) := by decide +kernel
theorem d_D_toBill_0 : decode c_D_toBill 0 = .ok (.new 59, 3) := by decide +kernel
theorem d_D_toBill_3 : decode c_D_toBill 3 = .ok (.dup, 1) := by decide +kernel
theorem d_D_toBill_4 : decode c_D_toBill 4 = .ok (.aload_n 1, 1) := by decide +kernel
theorem d_D_toBill_5 : decode c_D_toBill 5 = .ok (.aload_n 0, 1) := by decide +kernel
theorem d_D_toBill_6 : decode c_D_toBill 6 = .ok (.getfield 26, 3) := by decide +kernel
theorem d_D_toBill_9 : decode c_D_toBill 9 = .ok (.i2l, 1) := by decide +kernel
theorem d_D_toBill_10 : decode c_D_toBill 10 = .ok (.aload_n 0, 1) := by decide +kernel
theorem d_D_toBill_11 : decode c_D_toBill 11 = .ok (.getfield 29, 3) := by decide +kernel
theorem d_D_toBill_14 : decode c_D_toBill 14 = .ok (.i2l, 1) := by decide +kernel
theorem d_D_toBill_15 : decode c_D_toBill 15 = .ok (.lmul, 1) := by decide +kernel
theorem d_D_toBill_16 : decode c_D_toBill 16 = .ok (.ldc2_w 61, 3) := by decide +kernel
theorem d_D_toBill_19 : decode c_D_toBill 19 = .ok (.ladd, 1) := by decide +kernel
theorem d_D_toBill_20 : decode c_D_toBill 20 = .ok (.ldc2_w 63, 3) := by decide +kernel
theorem d_D_toBill_23 : decode c_D_toBill 23 = .ok (.ldiv, 1) := by decide +kernel
theorem d_D_toBill_24 : decode c_D_toBill 24 = .ok (.invokespecial 65, 3) := by decide +kernel
theorem d_D_toBill_27 : decode c_D_toBill 27 = .ok (.astore_n 2, 1) := by decide +kernel
theorem d_D_toBill_28 : decode c_D_toBill 28 = .ok (.aload_n 2, 1) := by decide +kernel
theorem d_D_toBill_29 : decode c_D_toBill 29 = .ok (.getfield 68, 3) := by decide +kernel
theorem d_D_toBill_32 : decode c_D_toBill 32 = .ok (.aload_n 0, 1) := by decide +kernel
theorem d_D_toBill_33 : decode c_D_toBill 33 = .ok (.getfield 9, 3) := by decide +kernel
theorem d_D_toBill_36 : decode c_D_toBill 36 = .ok (.iconst 0, 1) := by decide +kernel
theorem d_D_toBill_37 : decode c_D_toBill 37 = .ok (.aload_n 2, 1) := by decide +kernel
theorem d_D_toBill_38 : decode c_D_toBill 38 = .ok (.getfield 72, 3) := by decide +kernel
theorem d_D_toBill_41 : decode c_D_toBill 41 = .ok (.invokestatic 75, 3) := by decide +kernel
theorem d_D_toBill_44 : decode c_D_toBill 44 = .ok (.pop, 1) := by decide +kernel
theorem d_D_toBill_45 : decode c_D_toBill 45 = .ok (.aload_n 1, 1) := by decide +kernel
theorem d_D_toBill_46 : decode c_D_toBill 46 = .ok (.aload_n 2, 1) := by decide +kernel
theorem d_D_toBill_47 : decode c_D_toBill 47 = .ok (.getfield 68, 3) := by decide +kernel
theorem d_D_toBill_50 : decode c_D_toBill 50 = .ok (.aload_n 0, 1) := by decide +kernel
theorem d_D_toBill_51 : decode c_D_toBill 51 = .ok (.getfield 15, 3) := by decide +kernel
theorem d_D_toBill_54 : decode c_D_toBill 54 = .ok (.aload_n 1, 1) := by decide +kernel
theorem d_D_toBill_55 : decode c_D_toBill 55 = .ok (.getfield 79, 3) := by decide +kernel
theorem d_D_toBill_58 : decode c_D_toBill 58 = .ok (.aload_n 2, 1) := by decide +kernel
theorem d_D_toBill_59 : decode c_D_toBill 59 = .ok (.getfield 82, 3) := by decide +kernel
theorem d_D_toBill_62 : decode c_D_toBill 62 = .ok (.invokestatic 75, 3) := by decide +kernel
theorem d_D_toBill_65 : decode c_D_toBill 65 = .ok (.putfield 79, 3) := by decide +kernel
theorem d_D_toBill_68 : decode c_D_toBill 68 = .ok (.aload_n 0, 1) := by decide +kernel
theorem d_D_toBill_69 : decode c_D_toBill 69 = .ok (.getfield 15, 3) := by decide +kernel
theorem d_D_toBill_72 : decode c_D_toBill 72 = .ok (.invokestatic 47, 3) := by decide +kernel
theorem d_D_toBill_75 : decode c_D_toBill 75 = .ok (.lstore_n 3, 1) := by decide +kernel
theorem d_D_toBill_76 : decode c_D_toBill 76 = .ok (.iconst 0, 1) := by decide +kernel
theorem d_D_toBill_77 : decode c_D_toBill 77 = .ok (.istore 5, 2) := by decide +kernel
theorem d_D_toBill_79 : decode c_D_toBill 79 = .ok (.iload 5, 2) := by decide +kernel
theorem d_D_toBill_81 : decode c_D_toBill 81 = .ok (.bipush 12, 2) := by decide +kernel
theorem d_D_toBill_83 : decode c_D_toBill 83 = .ok (.if_icmp .ge 51, 3) := by decide +kernel
theorem d_D_toBill_86 : decode c_D_toBill 86 = .ok (.ldc2_w 85, 3) := by decide +kernel
theorem d_D_toBill_89 : decode c_D_toBill 89 = .ok (.aload_n 2, 1) := by decide +kernel
theorem d_D_toBill_90 : decode c_D_toBill 90 = .ok (.getfield 68, 3) := by decide +kernel
theorem d_D_toBill_93 : decode c_D_toBill 93 = .ok (.lmul, 1) := by decide +kernel
theorem d_D_toBill_94 : decode c_D_toBill 94 = .ok (.aload_n 0, 1) := by decide +kernel
theorem d_D_toBill_95 : decode c_D_toBill 95 = .ok (.getfield 15, 3) := by decide +kernel
theorem d_D_toBill_98 : decode c_D_toBill 98 = .ok (.iload 5, 2) := by decide +kernel
theorem d_D_toBill_100 : decode c_D_toBill 100 = .ok (.laload, 1) := by decide +kernel
theorem d_D_toBill_101 : decode c_D_toBill 101 = .ok (.lload_n 3, 1) := by decide +kernel
theorem d_D_toBill_102 : decode c_D_toBill 102 = .ok (.invokestatic 87, 3) := by decide +kernel
theorem d_D_toBill_105 : decode c_D_toBill 105 = .ok (.lstore 6, 2) := by decide +kernel
theorem d_D_toBill_107 : decode c_D_toBill 107 = .ok (.aload_n 2, 1) := by decide +kernel
theorem d_D_toBill_108 : decode c_D_toBill 108 = .ok (.getfield 91, 3) := by decide +kernel
theorem d_D_toBill_111 : decode c_D_toBill 111 = .ok (.iload 5, 2) := by decide +kernel
theorem d_D_toBill_113 : decode c_D_toBill 113 = .ok (.ldc2_w 85, 3) := by decide +kernel
theorem d_D_toBill_116 : decode c_D_toBill 116 = .ok (.aload_n 2, 1) := by decide +kernel
theorem d_D_toBill_117 : decode c_D_toBill 117 = .ok (.getfield 82, 3) := by decide +kernel
theorem d_D_toBill_120 : decode c_D_toBill 120 = .ok (.iload 5, 2) := by decide +kernel
theorem d_D_toBill_122 : decode c_D_toBill 122 = .ok (.laload, 1) := by decide +kernel
theorem d_D_toBill_123 : decode c_D_toBill 123 = .ok (.lmul, 1) := by decide +kernel
theorem d_D_toBill_124 : decode c_D_toBill 124 = .ok (.lload 6, 2) := by decide +kernel
theorem d_D_toBill_126 : decode c_D_toBill 126 = .ok (.lsub, 1) := by decide +kernel
theorem d_D_toBill_127 : decode c_D_toBill 127 = .ok (.lastore, 1) := by decide +kernel
theorem d_D_toBill_128 : decode c_D_toBill 128 = .ok (.iinc 5 1, 3) := by decide +kernel
theorem d_D_toBill_131 : decode c_D_toBill 131 = .ok (.goto (-52), 3) := by decide +kernel
theorem d_D_toBill_134 : decode c_D_toBill 134 = .ok (.aload_n 2, 1) := by decide +kernel
theorem d_D_toBill_135 : decode c_D_toBill 135 = .ok (.areturn, 1) := by decide +kernel
theorem d_G_init_0 : decode c_G_init 0 = .ok (.aload_n 0, 1) := by decide +kernel
theorem d_G_init_1 : decode c_G_init 1 = .ok (.invokespecial 3, 3) := by decide +kernel
theorem d_G_init_4 : decode c_G_init 4 = .ok (.aload_n 0, 1) := by decide +kernel
theorem d_G_init_5 : decode c_G_init 5 = .ok (.bipush 12, 2) := by decide +kernel
theorem d_G_init_7 : decode c_G_init 7 = .ok (.newarray .int, 2) := by decide +kernel
theorem d_G_init_9 : decode c_G_init 9 = .ok (.putfield 9, 3) := by decide +kernel
theorem d_G_init_12 : decode c_G_init 12 = .ok (.aload_n 0, 1) := by decide +kernel
theorem d_G_init_13 : decode c_G_init 13 = .ok (.bipush 12, 2) := by decide +kernel
theorem d_G_init_15 : decode c_G_init 15 = .ok (.newarray .long, 2) := by decide +kernel
theorem d_G_init_17 : decode c_G_init 17 = .ok (.putfield 15, 3) := by decide +kernel
theorem d_G_init_20 : decode c_G_init 20 = .ok (.aload_n 0, 1) := by decide +kernel
theorem d_G_init_21 : decode c_G_init 21 = .ok (.sipush 4096, 3) := by decide +kernel
theorem d_G_init_24 : decode c_G_init 24 = .ok (.newarray .int, 2) := by decide +kernel
theorem d_G_init_26 : decode c_G_init 26 = .ok (.putfield 19, 3) := by decide +kernel
theorem d_G_init_29 : decode c_G_init 29 = .ok (.return_, 1) := by decide +kernel
theorem d_G_fill_0 : decode c_G_fill 0 = .ok (.aload_n 0, 1) := by decide +kernel
theorem d_G_fill_1 : decode c_G_fill 1 = .ok (.aload_n 2, 1) := by decide +kernel
theorem d_G_fill_2 : decode c_G_fill 2 = .ok (.invokevirtual 22, 3) := by decide +kernel
theorem d_G_fill_5 : decode c_G_fill 5 = .ok (.aload_n 0, 1) := by decide +kernel
theorem d_G_fill_6 : decode c_G_fill 6 = .ok (.invokevirtual 26, 3) := by decide +kernel
theorem d_G_fill_9 : decode c_G_fill 9 = .ok (.aload_n 1, 1) := by decide +kernel
theorem d_G_fill_10 : decode c_G_fill 10 = .ok (.invokevirtual 29, 3) := by decide +kernel
theorem d_G_fill_13 : decode c_G_fill 13 = .ok (.iconst 1, 1) := by decide +kernel
theorem d_G_fill_14 : decode c_G_fill 14 = .ok (.aload_n 0, 1) := by decide +kernel
theorem d_G_fill_15 : decode c_G_fill 15 = .ok (.getfield 34, 3) := by decide +kernel
theorem d_G_fill_18 : decode c_G_fill 18 = .ok (.ishl, 1) := by decide +kernel
theorem d_G_fill_19 : decode c_G_fill 19 = .ok (.iconst 1, 1) := by decide +kernel
theorem d_G_fill_20 : decode c_G_fill 20 = .ok (.isub, 1) := by decide +kernel
theorem d_G_fill_21 : decode c_G_fill 21 = .ok (.istore_n 3, 1) := by decide +kernel
theorem d_G_fill_22 : decode c_G_fill 22 = .ok (.iconst 0, 1) := by decide +kernel
theorem d_G_fill_23 : decode c_G_fill 23 = .ok (.istore 4, 2) := by decide +kernel
theorem d_G_fill_25 : decode c_G_fill 25 = .ok (.iload 4, 2) := by decide +kernel
theorem d_G_fill_27 : decode c_G_fill 27 = .ok (.bipush 12, 2) := by decide +kernel
theorem d_G_fill_29 : decode c_G_fill 29 = .ok (.if_icmp .ge 34, 3) := by decide +kernel
theorem d_G_fill_32 : decode c_G_fill 32 = .ok (.iload_n 3, 1) := by decide +kernel
theorem d_G_fill_33 : decode c_G_fill 33 = .ok (.ifCond .eq 30, 3) := by decide +kernel
theorem d_G_fill_36 : decode c_G_fill 36 = .ok (.aload_n 0, 1) := by decide +kernel
theorem d_G_fill_37 : decode c_G_fill 37 = .ok (.iload_n 3, 1) := by decide +kernel
theorem d_G_fill_38 : decode c_G_fill 38 = .ok (.invokevirtual 38, 3) := by decide +kernel
theorem d_G_fill_41 : decode c_G_fill 41 = .ok (.istore 5, 2) := by decide +kernel
theorem d_G_fill_43 : decode c_G_fill 43 = .ok (.aload_n 0, 1) := by decide +kernel
theorem d_G_fill_44 : decode c_G_fill 44 = .ok (.aload_n 1, 1) := by decide +kernel
theorem d_G_fill_45 : decode c_G_fill 45 = .ok (.iload 5, 2) := by decide +kernel
theorem d_G_fill_47 : decode c_G_fill 47 = .ok (.invokevirtual 42, 3) := by decide +kernel
theorem d_G_fill_50 : decode c_G_fill 50 = .ok (.iload_n 3, 1) := by decide +kernel
theorem d_G_fill_51 : decode c_G_fill 51 = .ok (.iload 5, 2) := by decide +kernel
theorem d_G_fill_53 : decode c_G_fill 53 = .ok (.iconst (-1), 1) := by decide +kernel
theorem d_G_fill_54 : decode c_G_fill 54 = .ok (.ixor, 1) := by decide +kernel
theorem d_G_fill_55 : decode c_G_fill 55 = .ok (.iand, 1) := by decide +kernel
theorem d_G_fill_56 : decode c_G_fill 56 = .ok (.istore_n 3, 1) := by decide +kernel
theorem d_G_fill_57 : decode c_G_fill 57 = .ok (.iinc 4 1, 3) := by decide +kernel
theorem d_G_fill_60 : decode c_G_fill 60 = .ok (.goto (-35), 3) := by decide +kernel
theorem d_G_fill_63 : decode c_G_fill 63 = .ok (.return_, 1) := by decide +kernel
theorem d_G_gather_0 : decode c_G_gather 0 = .ok (.aload_n 0, 1) := by decide +kernel
theorem d_G_gather_1 : decode c_G_gather 1 = .ok (.iconst 0, 1) := by decide +kernel
theorem d_G_gather_2 : decode c_G_gather 2 = .ok (.putfield 34, 3) := by decide +kernel
theorem d_G_gather_5 : decode c_G_gather 5 = .ok (.iconst 0, 1) := by decide +kernel
theorem d_G_gather_6 : decode c_G_gather 6 = .ok (.istore_n 2, 1) := by decide +kernel
theorem d_G_gather_7 : decode c_G_gather 7 = .ok (.iload_n 2, 1) := by decide +kernel
theorem d_G_gather_8 : decode c_G_gather 8 = .ok (.bipush 12, 2) := by decide +kernel
theorem d_G_gather_10 : decode c_G_gather 10 = .ok (.if_icmp .ge 49, 3) := by decide +kernel
theorem d_G_gather_13 : decode c_G_gather 13 = .ok (.aload_n 1, 1) := by decide +kernel
theorem d_G_gather_14 : decode c_G_gather 14 = .ok (.iload_n 2, 1) := by decide +kernel
theorem d_G_gather_15 : decode c_G_gather 15 = .ok (.laload, 1) := by decide +kernel
theorem d_G_gather_16 : decode c_G_gather 16 = .ok (.lconst 0, 1) := by decide +kernel
theorem d_G_gather_17 : decode c_G_gather 17 = .ok (.lcmp, 1) := by decide +kernel
theorem d_G_gather_18 : decode c_G_gather 18 = .ok (.ifCond .eq 35, 3) := by decide +kernel
theorem d_G_gather_21 : decode c_G_gather 21 = .ok (.aload_n 0, 1) := by decide +kernel
theorem d_G_gather_22 : decode c_G_gather 22 = .ok (.getfield 9, 3) := by decide +kernel
theorem d_G_gather_25 : decode c_G_gather 25 = .ok (.aload_n 0, 1) := by decide +kernel
theorem d_G_gather_26 : decode c_G_gather 26 = .ok (.getfield 34, 3) := by decide +kernel
theorem d_G_gather_29 : decode c_G_gather 29 = .ok (.iload_n 2, 1) := by decide +kernel
theorem d_G_gather_30 : decode c_G_gather 30 = .ok (.iastore, 1) := by decide +kernel
theorem d_G_gather_31 : decode c_G_gather 31 = .ok (.aload_n 0, 1) := by decide +kernel
theorem d_G_gather_32 : decode c_G_gather 32 = .ok (.getfield 15, 3) := by decide +kernel
theorem d_G_gather_35 : decode c_G_gather 35 = .ok (.aload_n 0, 1) := by decide +kernel
theorem d_G_gather_36 : decode c_G_gather 36 = .ok (.getfield 34, 3) := by decide +kernel
theorem d_G_gather_39 : decode c_G_gather 39 = .ok (.aload_n 1, 1) := by decide +kernel
theorem d_G_gather_40 : decode c_G_gather 40 = .ok (.iload_n 2, 1) := by decide +kernel
theorem d_G_gather_41 : decode c_G_gather 41 = .ok (.laload, 1) := by decide +kernel
theorem d_G_gather_42 : decode c_G_gather 42 = .ok (.lastore, 1) := by decide +kernel
theorem d_G_gather_43 : decode c_G_gather 43 = .ok (.aload_n 0, 1) := by decide +kernel
theorem d_G_gather_44 : decode c_G_gather 44 = .ok (.dup, 1) := by decide +kernel
theorem d_G_gather_45 : decode c_G_gather 45 = .ok (.getfield 34, 3) := by decide +kernel
theorem d_G_gather_48 : decode c_G_gather 48 = .ok (.iconst 1, 1) := by decide +kernel
theorem d_G_gather_49 : decode c_G_gather 49 = .ok (.iadd, 1) := by decide +kernel
theorem d_G_gather_50 : decode c_G_gather 50 = .ok (.putfield 34, 3) := by decide +kernel
theorem d_G_gather_53 : decode c_G_gather 53 = .ok (.iinc 2 1, 3) := by decide +kernel
theorem d_G_gather_56 : decode c_G_gather 56 = .ok (.goto (-49), 3) := by decide +kernel
theorem d_G_gather_59 : decode c_G_gather 59 = .ok (.return_, 1) := by decide +kernel
theorem d_G_countMost_0 : decode c_G_countMost 0 = .ok (.aload_n 0, 1) := by decide +kernel
theorem d_G_countMost_1 : decode c_G_countMost 1 = .ok (.getfield 19, 3) := by decide +kernel
theorem d_G_countMost_4 : decode c_G_countMost 4 = .ok (.iconst 0, 1) := by decide +kernel
theorem d_G_countMost_5 : decode c_G_countMost 5 = .ok (.iconst 0, 1) := by decide +kernel
theorem d_G_countMost_6 : decode c_G_countMost 6 = .ok (.iastore, 1) := by decide +kernel
theorem d_G_countMost_7 : decode c_G_countMost 7 = .ok (.iconst 1, 1) := by decide +kernel
theorem d_G_countMost_8 : decode c_G_countMost 8 = .ok (.istore_n 1, 1) := by decide +kernel
theorem d_G_countMost_9 : decode c_G_countMost 9 = .ok (.iload_n 1, 1) := by decide +kernel
theorem d_G_countMost_10 : decode c_G_countMost 10 = .ok (.iconst 1, 1) := by decide +kernel
theorem d_G_countMost_11 : decode c_G_countMost 11 = .ok (.aload_n 0, 1) := by decide +kernel
theorem d_G_countMost_12 : decode c_G_countMost 12 = .ok (.getfield 34, 3) := by decide +kernel
theorem d_G_countMost_15 : decode c_G_countMost 15 = .ok (.ishl, 1) := by decide +kernel
theorem d_G_countMost_16 : decode c_G_countMost 16 = .ok (.if_icmp .ge 90, 3) := by decide +kernel
theorem d_G_countMost_19 : decode c_G_countMost 19 = .ok (.lconst 0, 1) := by decide +kernel
theorem d_G_countMost_20 : decode c_G_countMost 20 = .ok (.lstore_n 2, 1) := by decide +kernel
theorem d_G_countMost_21 : decode c_G_countMost 21 = .ok (.iconst 0, 1) := by decide +kernel
theorem d_G_countMost_22 : decode c_G_countMost 22 = .ok (.istore 4, 2) := by decide +kernel
theorem d_G_countMost_24 : decode c_G_countMost 24 = .ok (.iconst 0, 1) := by decide +kernel
theorem d_G_countMost_25 : decode c_G_countMost 25 = .ok (.istore 5, 2) := by decide +kernel
theorem d_G_countMost_27 : decode c_G_countMost 27 = .ok (.iload 5, 2) := by decide +kernel
theorem d_G_countMost_29 : decode c_G_countMost 29 = .ok (.aload_n 0, 1) := by decide +kernel
theorem d_G_countMost_30 : decode c_G_countMost 30 = .ok (.getfield 34, 3) := by decide +kernel
theorem d_G_countMost_33 : decode c_G_countMost 33 = .ok (.if_icmp .ge 46, 3) := by decide +kernel
theorem d_G_countMost_36 : decode c_G_countMost 36 = .ok (.iload_n 1, 1) := by decide +kernel
theorem d_G_countMost_37 : decode c_G_countMost 37 = .ok (.iload 5, 2) := by decide +kernel
theorem d_G_countMost_39 : decode c_G_countMost 39 = .ok (.ishr, 1) := by decide +kernel
theorem d_G_countMost_40 : decode c_G_countMost 40 = .ok (.iconst 1, 1) := by decide +kernel
theorem d_G_countMost_41 : decode c_G_countMost 41 = .ok (.iand, 1) := by decide +kernel
theorem d_G_countMost_42 : decode c_G_countMost 42 = .ok (.ifCond .eq 31, 3) := by decide +kernel
theorem d_G_countMost_45 : decode c_G_countMost 45 = .ok (.lload_n 2, 1) := by decide +kernel
theorem d_G_countMost_46 : decode c_G_countMost 46 = .ok (.aload_n 0, 1) := by decide +kernel
theorem d_G_countMost_47 : decode c_G_countMost 47 = .ok (.getfield 15, 3) := by decide +kernel
theorem d_G_countMost_50 : decode c_G_countMost 50 = .ok (.iload 5, 2) := by decide +kernel
theorem d_G_countMost_52 : decode c_G_countMost 52 = .ok (.laload, 1) := by decide +kernel
theorem d_G_countMost_53 : decode c_G_countMost 53 = .ok (.ladd, 1) := by decide +kernel
theorem d_G_countMost_54 : decode c_G_countMost 54 = .ok (.lstore_n 2, 1) := by decide +kernel
theorem d_G_countMost_55 : decode c_G_countMost 55 = .ok (.iload 4, 2) := by decide +kernel
theorem d_G_countMost_57 : decode c_G_countMost 57 = .ok (.aload_n 0, 1) := by decide +kernel
theorem d_G_countMost_58 : decode c_G_countMost 58 = .ok (.getfield 19, 3) := by decide +kernel
theorem d_G_countMost_61 : decode c_G_countMost 61 = .ok (.iload_n 1, 1) := by decide +kernel
theorem d_G_countMost_62 : decode c_G_countMost 62 = .ok (.iconst 1, 1) := by decide +kernel
theorem d_G_countMost_63 : decode c_G_countMost 63 = .ok (.iload 5, 2) := by decide +kernel
theorem d_G_countMost_65 : decode c_G_countMost 65 = .ok (.ishl, 1) := by decide +kernel
theorem d_G_countMost_66 : decode c_G_countMost 66 = .ok (.ixor, 1) := by decide +kernel
theorem d_G_countMost_67 : decode c_G_countMost 67 = .ok (.iaload, 1) := by decide +kernel
theorem d_G_countMost_68 : decode c_G_countMost 68 = .ok (.invokestatic 46, 3) := by decide +kernel
theorem d_G_countMost_71 : decode c_G_countMost 71 = .ok (.istore 4, 2) := by decide +kernel
theorem d_G_countMost_73 : decode c_G_countMost 73 = .ok (.iinc 5 1, 3) := by decide +kernel
theorem d_G_countMost_76 : decode c_G_countMost 76 = .ok (.goto (-49), 3) := by decide +kernel
theorem d_G_countMost_79 : decode c_G_countMost 79 = .ok (.aload_n 0, 1) := by decide +kernel
theorem d_G_countMost_80 : decode c_G_countMost 80 = .ok (.getfield 19, 3) := by decide +kernel
theorem d_G_countMost_83 : decode c_G_countMost 83 = .ok (.iload_n 1, 1) := by decide +kernel
theorem d_G_countMost_84 : decode c_G_countMost 84 = .ok (.lload_n 2, 1) := by decide +kernel
theorem d_G_countMost_85 : decode c_G_countMost 85 = .ok (.lconst 0, 1) := by decide +kernel
theorem d_G_countMost_86 : decode c_G_countMost 86 = .ok (.lcmp, 1) := by decide +kernel
theorem d_G_countMost_87 : decode c_G_countMost 87 = .ok (.ifCond .ne 10, 3) := by decide +kernel
theorem d_G_countMost_90 : decode c_G_countMost 90 = .ok (.iload 4, 2) := by decide +kernel
theorem d_G_countMost_92 : decode c_G_countMost 92 = .ok (.iconst 1, 1) := by decide +kernel
theorem d_G_countMost_93 : decode c_G_countMost 93 = .ok (.iadd, 1) := by decide +kernel
theorem d_G_countMost_94 : decode c_G_countMost 94 = .ok (.goto 5, 3) := by decide +kernel
theorem d_G_countMost_97 : decode c_G_countMost 97 = .ok (.iload 4, 2) := by decide +kernel
theorem d_G_countMost_99 : decode c_G_countMost 99 = .ok (.iastore, 1) := by decide +kernel
theorem d_G_countMost_100 : decode c_G_countMost 100 = .ok (.iinc 1 1, 3) := by decide +kernel
theorem d_G_countMost_103 : decode c_G_countMost 103 = .ok (.goto (-94), 3) := by decide +kernel
theorem d_G_countMost_106 : decode c_G_countMost 106 = .ok (.return_, 1) := by decide +kernel
theorem d_G_firstGroup_0 : decode c_G_firstGroup 0 = .ok (.iload_n 1, 1) := by decide +kernel
theorem d_G_firstGroup_1 : decode c_G_firstGroup 1 = .ok (.iload_n 1, 1) := by decide +kernel
theorem d_G_firstGroup_2 : decode c_G_firstGroup 2 = .ok (.ineg, 1) := by decide +kernel
theorem d_G_firstGroup_3 : decode c_G_firstGroup 3 = .ok (.iand, 1) := by decide +kernel
theorem d_G_firstGroup_4 : decode c_G_firstGroup 4 = .ok (.istore_n 2, 1) := by decide +kernel
theorem d_G_firstGroup_5 : decode c_G_firstGroup 5 = .ok (.iload_n 2, 1) := by decide +kernel
theorem d_G_firstGroup_6 : decode c_G_firstGroup 6 = .ok (.istore_n 3, 1) := by decide +kernel
theorem d_G_firstGroup_7 : decode c_G_firstGroup 7 = .ok (.iload_n 3, 1) := by decide +kernel
theorem d_G_firstGroup_8 : decode c_G_firstGroup 8 = .ok (.iload_n 1, 1) := by decide +kernel
theorem d_G_firstGroup_9 : decode c_G_firstGroup 9 = .ok (.if_icmp .ge 54, 3) := by decide +kernel
theorem d_G_firstGroup_12 : decode c_G_firstGroup 12 = .ok (.iload_n 3, 1) := by decide +kernel
theorem d_G_firstGroup_13 : decode c_G_firstGroup 13 = .ok (.iload_n 2, 1) := by decide +kernel
theorem d_G_firstGroup_14 : decode c_G_firstGroup 14 = .ok (.iand, 1) := by decide +kernel
theorem d_G_firstGroup_15 : decode c_G_firstGroup 15 = .ok (.ifCond .eq 42, 3) := by decide +kernel
theorem d_G_firstGroup_18 : decode c_G_firstGroup 18 = .ok (.iload_n 3, 1) := by decide +kernel
theorem d_G_firstGroup_19 : decode c_G_firstGroup 19 = .ok (.iload_n 1, 1) := by decide +kernel
theorem d_G_firstGroup_20 : decode c_G_firstGroup 20 = .ok (.iconst (-1), 1) := by decide +kernel
theorem d_G_firstGroup_21 : decode c_G_firstGroup 21 = .ok (.ixor, 1) := by decide +kernel
theorem d_G_firstGroup_22 : decode c_G_firstGroup 22 = .ok (.iand, 1) := by decide +kernel
theorem d_G_firstGroup_23 : decode c_G_firstGroup 23 = .ok (.ifCond .ne 34, 3) := by decide +kernel
theorem d_G_firstGroup_26 : decode c_G_firstGroup 26 = .ok (.aload_n 0, 1) := by decide +kernel
theorem d_G_firstGroup_27 : decode c_G_firstGroup 27 = .ok (.getfield 19, 3) := by decide +kernel
theorem d_G_firstGroup_30 : decode c_G_firstGroup 30 = .ok (.iload_n 1, 1) := by decide +kernel
theorem d_G_firstGroup_31 : decode c_G_firstGroup 31 = .ok (.iload_n 3, 1) := by decide +kernel
theorem d_G_firstGroup_32 : decode c_G_firstGroup 32 = .ok (.ixor, 1) := by decide +kernel
theorem d_G_firstGroup_33 : decode c_G_firstGroup 33 = .ok (.iaload, 1) := by decide +kernel
theorem d_G_firstGroup_34 : decode c_G_firstGroup 34 = .ok (.aload_n 0, 1) := by decide +kernel
theorem d_G_firstGroup_35 : decode c_G_firstGroup 35 = .ok (.getfield 19, 3) := by decide +kernel
theorem d_G_firstGroup_38 : decode c_G_firstGroup 38 = .ok (.iload_n 1, 1) := by decide +kernel
theorem d_G_firstGroup_39 : decode c_G_firstGroup 39 = .ok (.iaload, 1) := by decide +kernel
theorem d_G_firstGroup_40 : decode c_G_firstGroup 40 = .ok (.iconst 1, 1) := by decide +kernel
theorem d_G_firstGroup_41 : decode c_G_firstGroup 41 = .ok (.isub, 1) := by decide +kernel
theorem d_G_firstGroup_42 : decode c_G_firstGroup 42 = .ok (.if_icmp .ne 15, 3) := by decide +kernel
theorem d_G_firstGroup_45 : decode c_G_firstGroup 45 = .ok (.aload_n 0, 1) := by decide +kernel
theorem d_G_firstGroup_46 : decode c_G_firstGroup 46 = .ok (.iload_n 3, 1) := by decide +kernel
theorem d_G_firstGroup_47 : decode c_G_firstGroup 47 = .ok (.invokevirtual 52, 3) := by decide +kernel
theorem d_G_firstGroup_50 : decode c_G_firstGroup 50 = .ok (.lconst 0, 1) := by decide +kernel
theorem d_G_firstGroup_51 : decode c_G_firstGroup 51 = .ok (.lcmp, 1) := by decide +kernel
theorem d_G_firstGroup_52 : decode c_G_firstGroup 52 = .ok (.ifCond .ne 5, 3) := by decide +kernel
theorem d_G_firstGroup_55 : decode c_G_firstGroup 55 = .ok (.iload_n 3, 1) := by decide +kernel
theorem d_G_firstGroup_56 : decode c_G_firstGroup 56 = .ok (.ireturn, 1) := by decide +kernel
theorem d_G_firstGroup_57 : decode c_G_firstGroup 57 = .ok (.iinc 3 1, 3) := by decide +kernel
theorem d_G_firstGroup_60 : decode c_G_firstGroup 60 = .ok (.goto (-53), 3) := by decide +kernel
theorem d_G_firstGroup_63 : decode c_G_firstGroup 63 = .ok (.iload_n 1, 1) := by decide +kernel
theorem d_G_firstGroup_64 : decode c_G_firstGroup 64 = .ok (.ireturn, 1) := by decide +kernel
theorem d_G_sumOfSet_0 : decode c_G_sumOfSet 0 = .ok (.lconst 0, 1) := by decide +kernel
theorem d_G_sumOfSet_1 : decode c_G_sumOfSet 1 = .ok (.lstore_n 2, 1) := by decide +kernel
theorem d_G_sumOfSet_2 : decode c_G_sumOfSet 2 = .ok (.iconst 0, 1) := by decide +kernel
theorem d_G_sumOfSet_3 : decode c_G_sumOfSet 3 = .ok (.istore 4, 2) := by decide +kernel
theorem d_G_sumOfSet_5 : decode c_G_sumOfSet 5 = .ok (.iload 4, 2) := by decide +kernel
theorem d_G_sumOfSet_7 : decode c_G_sumOfSet 7 = .ok (.aload_n 0, 1) := by decide +kernel
theorem d_G_sumOfSet_8 : decode c_G_sumOfSet 8 = .ok (.getfield 34, 3) := by decide +kernel
theorem d_G_sumOfSet_11 : decode c_G_sumOfSet 11 = .ok (.if_icmp .ge 28, 3) := by decide +kernel
theorem d_G_sumOfSet_14 : decode c_G_sumOfSet 14 = .ok (.iload_n 1, 1) := by decide +kernel
theorem d_G_sumOfSet_15 : decode c_G_sumOfSet 15 = .ok (.iload 4, 2) := by decide +kernel
theorem d_G_sumOfSet_17 : decode c_G_sumOfSet 17 = .ok (.ishr, 1) := by decide +kernel
theorem d_G_sumOfSet_18 : decode c_G_sumOfSet 18 = .ok (.iconst 1, 1) := by decide +kernel
theorem d_G_sumOfSet_19 : decode c_G_sumOfSet 19 = .ok (.iand, 1) := by decide +kernel
theorem d_G_sumOfSet_20 : decode c_G_sumOfSet 20 = .ok (.ifCond .eq 13, 3) := by decide +kernel
theorem d_G_sumOfSet_23 : decode c_G_sumOfSet 23 = .ok (.lload_n 2, 1) := by decide +kernel
theorem d_G_sumOfSet_24 : decode c_G_sumOfSet 24 = .ok (.aload_n 0, 1) := by decide +kernel
theorem d_G_sumOfSet_25 : decode c_G_sumOfSet 25 = .ok (.getfield 15, 3) := by decide +kernel
theorem d_G_sumOfSet_28 : decode c_G_sumOfSet 28 = .ok (.iload 4, 2) := by decide +kernel
theorem d_G_sumOfSet_30 : decode c_G_sumOfSet 30 = .ok (.laload, 1) := by decide +kernel
theorem d_G_sumOfSet_31 : decode c_G_sumOfSet 31 = .ok (.ladd, 1) := by decide +kernel
theorem d_G_sumOfSet_32 : decode c_G_sumOfSet 32 = .ok (.lstore_n 2, 1) := by decide +kernel
theorem d_G_sumOfSet_33 : decode c_G_sumOfSet 33 = .ok (.iinc 4 1, 3) := by decide +kernel
theorem d_G_sumOfSet_36 : decode c_G_sumOfSet 36 = .ok (.goto (-31), 3) := by decide +kernel
theorem d_G_sumOfSet_39 : decode c_G_sumOfSet 39 = .ok (.lload_n 2, 1) := by decide +kernel
theorem d_G_sumOfSet_40 : decode c_G_sumOfSet 40 = .ok (.lreturn, 1) := by decide +kernel
theorem d_G_addGroup_0 : decode c_G_addGroup 0 = .ok (.lconst 0, 1) := by decide +kernel
theorem d_G_addGroup_1 : decode c_G_addGroup 1 = .ok (.lstore_n 3, 1) := by decide +kernel
theorem d_G_addGroup_2 : decode c_G_addGroup 2 = .ok (.iconst (-1), 1) := by decide +kernel
theorem d_G_addGroup_3 : decode c_G_addGroup 3 = .ok (.istore 5, 2) := by decide +kernel
theorem d_G_addGroup_5 : decode c_G_addGroup 5 = .ok (.iconst 0, 1) := by decide +kernel
theorem d_G_addGroup_6 : decode c_G_addGroup 6 = .ok (.istore 6, 2) := by decide +kernel
theorem d_G_addGroup_8 : decode c_G_addGroup 8 = .ok (.iload 6, 2) := by decide +kernel
theorem d_G_addGroup_10 : decode c_G_addGroup 10 = .ok (.aload_n 0, 1) := by decide +kernel
theorem d_G_addGroup_11 : decode c_G_addGroup 11 = .ok (.getfield 34, 3) := by decide +kernel
theorem d_G_addGroup_14 : decode c_G_addGroup 14 = .ok (.if_icmp .ge 73, 3) := by decide +kernel
theorem d_G_addGroup_17 : decode c_G_addGroup 17 = .ok (.iload_n 2, 1) := by decide +kernel
theorem d_G_addGroup_18 : decode c_G_addGroup 18 = .ok (.iload 6, 2) := by decide +kernel
theorem d_G_addGroup_20 : decode c_G_addGroup 20 = .ok (.ishr, 1) := by decide +kernel
theorem d_G_addGroup_21 : decode c_G_addGroup 21 = .ok (.iconst 1, 1) := by decide +kernel
theorem d_G_addGroup_22 : decode c_G_addGroup 22 = .ok (.iand, 1) := by decide +kernel
theorem d_G_addGroup_23 : decode c_G_addGroup 23 = .ok (.ifCond .eq 58, 3) := by decide +kernel
theorem d_G_addGroup_26 : decode c_G_addGroup 26 = .ok (.iload 5, 2) := by decide +kernel
theorem d_G_addGroup_28 : decode c_G_addGroup 28 = .ok (.iconst (-1), 1) := by decide +kernel
theorem d_G_addGroup_29 : decode c_G_addGroup 29 = .ok (.if_icmp .eq 17, 3) := by decide +kernel
theorem d_G_addGroup_32 : decode c_G_addGroup 32 = .ok (.aload_n 1, 1) := by decide +kernel
theorem d_G_addGroup_33 : decode c_G_addGroup 33 = .ok (.iload 5, 2) := by decide +kernel
theorem d_G_addGroup_35 : decode c_G_addGroup 35 = .ok (.aload_n 0, 1) := by decide +kernel
theorem d_G_addGroup_36 : decode c_G_addGroup 36 = .ok (.getfield 9, 3) := by decide +kernel
theorem d_G_addGroup_39 : decode c_G_addGroup 39 = .ok (.iload 6, 2) := by decide +kernel
theorem d_G_addGroup_41 : decode c_G_addGroup 41 = .ok (.iaload, 1) := by decide +kernel
theorem d_G_addGroup_42 : decode c_G_addGroup 42 = .ok (.lload_n 3, 1) := by decide +kernel
theorem d_G_addGroup_43 : decode c_G_addGroup 43 = .ok (.invokevirtual 56, 3) := by decide +kernel
theorem d_G_addGroup_46 : decode c_G_addGroup 46 = .ok (.aload_n 1, 1) := by decide +kernel
theorem d_G_addGroup_47 : decode c_G_addGroup 47 = .ok (.getfield 60, 3) := by decide +kernel
theorem d_G_addGroup_50 : decode c_G_addGroup 50 = .ok (.aload_n 0, 1) := by decide +kernel
theorem d_G_addGroup_51 : decode c_G_addGroup 51 = .ok (.getfield 9, 3) := by decide +kernel
theorem d_G_addGroup_54 : decode c_G_addGroup 54 = .ok (.iload 6, 2) := by decide +kernel
theorem d_G_addGroup_56 : decode c_G_addGroup 56 = .ok (.iaload, 1) := by decide +kernel
theorem d_G_addGroup_57 : decode c_G_addGroup 57 = .ok (.aload_n 1, 1) := by decide +kernel
theorem d_G_addGroup_58 : decode c_G_addGroup 58 = .ok (.getfield 63, 3) := by decide +kernel
theorem d_G_addGroup_61 : decode c_G_addGroup 61 = .ok (.iastore, 1) := by decide +kernel
theorem d_G_addGroup_62 : decode c_G_addGroup 62 = .ok (.aload_n 0, 1) := by decide +kernel
theorem d_G_addGroup_63 : decode c_G_addGroup 63 = .ok (.getfield 9, 3) := by decide +kernel
theorem d_G_addGroup_66 : decode c_G_addGroup 66 = .ok (.iload 6, 2) := by decide +kernel
theorem d_G_addGroup_68 : decode c_G_addGroup 68 = .ok (.iaload, 1) := by decide +kernel
theorem d_G_addGroup_69 : decode c_G_addGroup 69 = .ok (.istore 5, 2) := by decide +kernel
theorem d_G_addGroup_71 : decode c_G_addGroup 71 = .ok (.lload_n 3, 1) := by decide +kernel
theorem d_G_addGroup_72 : decode c_G_addGroup 72 = .ok (.aload_n 0, 1) := by decide +kernel
theorem d_G_addGroup_73 : decode c_G_addGroup 73 = .ok (.getfield 15, 3) := by decide +kernel
theorem d_G_addGroup_76 : decode c_G_addGroup 76 = .ok (.iload 6, 2) := by decide +kernel
theorem d_G_addGroup_78 : decode c_G_addGroup 78 = .ok (.laload, 1) := by decide +kernel
theorem d_G_addGroup_79 : decode c_G_addGroup 79 = .ok (.ladd, 1) := by decide +kernel
theorem d_G_addGroup_80 : decode c_G_addGroup 80 = .ok (.lstore_n 3, 1) := by decide +kernel
theorem d_G_addGroup_81 : decode c_G_addGroup 81 = .ok (.iinc 6 1, 3) := by decide +kernel
theorem d_G_addGroup_84 : decode c_G_addGroup 84 = .ok (.goto (-76), 3) := by decide +kernel
theorem d_G_addGroup_87 : decode c_G_addGroup 87 = .ok (.aload_n 1, 1) := by decide +kernel
theorem d_G_addGroup_88 : decode c_G_addGroup 88 = .ok (.dup, 1) := by decide +kernel
theorem d_G_addGroup_89 : decode c_G_addGroup 89 = .ok (.getfield 63, 3) := by decide +kernel
theorem d_G_addGroup_92 : decode c_G_addGroup 92 = .ok (.iconst 1, 1) := by decide +kernel
theorem d_G_addGroup_93 : decode c_G_addGroup 93 = .ok (.iadd, 1) := by decide +kernel
theorem d_G_addGroup_94 : decode c_G_addGroup 94 = .ok (.putfield 63, 3) := by decide +kernel
theorem d_G_addGroup_97 : decode c_G_addGroup 97 = .ok (.return_, 1) := by decide +kernel
theorem d_S_init_0 : decode c_S_init 0 = .ok (.aload_n 0, 1) := by decide +kernel
theorem d_S_init_1 : decode c_S_init 1 = .ok (.invokespecial 3, 3) := by decide +kernel
theorem d_S_init_4 : decode c_S_init 4 = .ok (.aload_n 0, 1) := by decide +kernel
theorem d_S_init_5 : decode c_S_init 5 = .ok (.bipush 12, 2) := by decide +kernel
theorem d_S_init_7 : decode c_S_init 7 = .ok (.newarray .int, 2) := by decide +kernel
theorem d_S_init_9 : decode c_S_init 9 = .ok (.putfield 9, 3) := by decide +kernel
theorem d_S_init_12 : decode c_S_init 12 = .ok (.aload_n 0, 1) := by decide +kernel
theorem d_S_init_13 : decode c_S_init 13 = .ok (.bipush 12, 2) := by decide +kernel
theorem d_S_init_15 : decode c_S_init 15 = .ok (.newarray .int, 2) := by decide +kernel
theorem d_S_init_17 : decode c_S_init 17 = .ok (.putfield 15, 3) := by decide +kernel
theorem d_S_init_20 : decode c_S_init 20 = .ok (.aload_n 0, 1) := by decide +kernel
theorem d_S_init_21 : decode c_S_init 21 = .ok (.bipush 12, 2) := by decide +kernel
theorem d_S_init_23 : decode c_S_init 23 = .ok (.newarray .int, 2) := by decide +kernel
theorem d_S_init_25 : decode c_S_init 25 = .ok (.putfield 18, 3) := by decide +kernel
theorem d_S_init_28 : decode c_S_init 28 = .ok (.aload_n 0, 1) := by decide +kernel
theorem d_S_init_29 : decode c_S_init 29 = .ok (.bipush 12, 2) := by decide +kernel
theorem d_S_init_31 : decode c_S_init 31 = .ok (.newarray .long, 2) := by decide +kernel
theorem d_S_init_33 : decode c_S_init 33 = .ok (.putfield 21, 3) := by decide +kernel
theorem d_S_init_36 : decode c_S_init 36 = .ok (.aload_n 0, 1) := by decide +kernel
theorem d_S_init_37 : decode c_S_init 37 = .ok (.bipush 12, 2) := by decide +kernel
theorem d_S_init_39 : decode c_S_init 39 = .ok (.newarray .boolean, 2) := by decide +kernel
theorem d_S_init_41 : decode c_S_init 41 = .ok (.putfield 25, 3) := by decide +kernel
theorem d_S_init_44 : decode c_S_init 44 = .ok (.return_, 1) := by decide +kernel
theorem d_S_begin_0 : decode c_S_begin 0 = .ok (.aload_n 0, 1) := by decide +kernel
theorem d_S_begin_1 : decode c_S_begin 1 = .ok (.iconst 1, 1) := by decide +kernel
theorem d_S_begin_2 : decode c_S_begin 2 = .ok (.putfield 29, 3) := by decide +kernel
theorem d_S_begin_5 : decode c_S_begin 5 = .ok (.aload_n 0, 1) := by decide +kernel
theorem d_S_begin_6 : decode c_S_begin 6 = .ok (.iconst 0, 1) := by decide +kernel
theorem d_S_begin_7 : decode c_S_begin 7 = .ok (.putfield 33, 3) := by decide +kernel
theorem d_S_begin_10 : decode c_S_begin 10 = .ok (.aload_n 0, 1) := by decide +kernel
theorem d_S_begin_11 : decode c_S_begin 11 = .ok (.iconst 0, 1) := by decide +kernel
theorem d_S_begin_12 : decode c_S_begin 12 = .ok (.putfield 37, 3) := by decide +kernel
theorem d_S_begin_15 : decode c_S_begin 15 = .ok (.aload_n 0, 1) := by decide +kernel
theorem d_S_begin_16 : decode c_S_begin 16 = .ok (.iconst 0, 1) := by decide +kernel
theorem d_S_begin_17 : decode c_S_begin 17 = .ok (.putfield 40, 3) := by decide +kernel
theorem d_S_begin_20 : decode c_S_begin 20 = .ok (.iconst 0, 1) := by decide +kernel
theorem d_S_begin_21 : decode c_S_begin 21 = .ok (.istore_n 1, 1) := by decide +kernel
theorem d_S_begin_22 : decode c_S_begin 22 = .ok (.iload_n 1, 1) := by decide +kernel
theorem d_S_begin_23 : decode c_S_begin 23 = .ok (.bipush 12, 2) := by decide +kernel
theorem d_S_begin_25 : decode c_S_begin 25 = .ok (.if_icmp .ge 16, 3) := by decide +kernel
theorem d_S_begin_28 : decode c_S_begin 28 = .ok (.aload_n 0, 1) := by decide +kernel
theorem d_S_begin_29 : decode c_S_begin 29 = .ok (.getfield 9, 3) := by decide +kernel
theorem d_S_begin_32 : decode c_S_begin 32 = .ok (.iload_n 1, 1) := by decide +kernel
theorem d_S_begin_33 : decode c_S_begin 33 = .ok (.iconst (-1), 1) := by decide +kernel
theorem d_S_begin_34 : decode c_S_begin 34 = .ok (.iastore, 1) := by decide +kernel
theorem d_S_begin_35 : decode c_S_begin 35 = .ok (.iinc 1 1, 3) := by decide +kernel
theorem d_S_begin_38 : decode c_S_begin 38 = .ok (.goto (-16), 3) := by decide +kernel
theorem d_S_begin_41 : decode c_S_begin 41 = .ok (.return_, 1) := by decide +kernel
theorem d_S_hasTransfer_0 : decode c_S_hasTransfer 0 = .ok (.aload_n 0, 1) := by decide +kernel
theorem d_S_hasTransfer_1 : decode c_S_hasTransfer 1 = .ok (.getfield 29, 3) := by decide +kernel
theorem d_S_hasTransfer_4 : decode c_S_hasTransfer 4 = .ok (.ifCond .eq 19, 3) := by decide +kernel
theorem d_S_hasTransfer_7 : decode c_S_hasTransfer 7 = .ok (.iload_n 1, 1) := by decide +kernel
theorem d_S_hasTransfer_8 : decode c_S_hasTransfer 8 = .ok (.ifCond .lt 15, 3) := by decide +kernel
theorem d_S_hasTransfer_11 : decode c_S_hasTransfer 11 = .ok (.iload_n 1, 1) := by decide +kernel
theorem d_S_hasTransfer_12 : decode c_S_hasTransfer 12 = .ok (.aload_n 0, 1) := by decide +kernel
theorem d_S_hasTransfer_13 : decode c_S_hasTransfer 13 = .ok (.getfield 37, 3) := by decide +kernel
theorem d_S_hasTransfer_16 : decode c_S_hasTransfer 16 = .ok (.if_icmp .ge 7, 3) := by decide +kernel
theorem d_S_hasTransfer_19 : decode c_S_hasTransfer 19 = .ok (.iconst 1, 1) := by decide +kernel
theorem d_S_hasTransfer_20 : decode c_S_hasTransfer 20 = .ok (.goto 4, 3) := by decide +kernel
theorem d_S_hasTransfer_23 : decode c_S_hasTransfer 23 = .ok (.iconst 0, 1) := by decide +kernel
theorem d_S_hasTransfer_24 : decode c_S_hasTransfer 24 = .ok (.ireturn, 1) := by decide +kernel
theorem d_S_addTransfer_0 : decode c_S_addTransfer 0 = .ok (.aload_n 0, 1) := by decide +kernel
theorem d_S_addTransfer_1 : decode c_S_addTransfer 1 = .ok (.getfield 37, 3) := by decide +kernel
theorem d_S_addTransfer_4 : decode c_S_addTransfer 4 = .ok (.bipush 12, 2) := by decide +kernel
theorem d_S_addTransfer_6 : decode c_S_addTransfer 6 = .ok (.if_icmp .lt 4, 3) := by decide +kernel
theorem d_S_addTransfer_9 : decode c_S_addTransfer 9 = .ok (.return_, 1) := by decide +kernel
theorem d_S_addTransfer_10 : decode c_S_addTransfer 10 = .ok (.aload_n 0, 1) := by decide +kernel
theorem d_S_addTransfer_11 : decode c_S_addTransfer 11 = .ok (.getfield 15, 3) := by decide +kernel
theorem d_S_addTransfer_14 : decode c_S_addTransfer 14 = .ok (.aload_n 0, 1) := by decide +kernel
theorem d_S_addTransfer_15 : decode c_S_addTransfer 15 = .ok (.getfield 37, 3) := by decide +kernel
theorem d_S_addTransfer_18 : decode c_S_addTransfer 18 = .ok (.lload_n 3, 1) := by decide +kernel
theorem d_S_addTransfer_19 : decode c_S_addTransfer 19 = .ok (.lconst 0, 1) := by decide +kernel
theorem d_S_addTransfer_20 : decode c_S_addTransfer 20 = .ok (.lcmp, 1) := by decide +kernel
theorem d_S_addTransfer_21 : decode c_S_addTransfer 21 = .ok (.ifCond .ge 7, 3) := by decide +kernel
theorem d_S_addTransfer_24 : decode c_S_addTransfer 24 = .ok (.iload_n 1, 1) := by decide +kernel
theorem d_S_addTransfer_25 : decode c_S_addTransfer 25 = .ok (.goto 4, 3) := by decide +kernel
theorem d_S_addTransfer_28 : decode c_S_addTransfer 28 = .ok (.iload_n 2, 1) := by decide +kernel
theorem d_S_addTransfer_29 : decode c_S_addTransfer 29 = .ok (.iastore, 1) := by decide +kernel
theorem d_S_addTransfer_30 : decode c_S_addTransfer 30 = .ok (.aload_n 0, 1) := by decide +kernel
theorem d_S_addTransfer_31 : decode c_S_addTransfer 31 = .ok (.getfield 18, 3) := by decide +kernel
theorem d_S_addTransfer_34 : decode c_S_addTransfer 34 = .ok (.aload_n 0, 1) := by decide +kernel
theorem d_S_addTransfer_35 : decode c_S_addTransfer 35 = .ok (.getfield 37, 3) := by decide +kernel
theorem d_S_addTransfer_38 : decode c_S_addTransfer 38 = .ok (.lload_n 3, 1) := by decide +kernel
theorem d_S_addTransfer_39 : decode c_S_addTransfer 39 = .ok (.lconst 0, 1) := by decide +kernel
theorem d_S_addTransfer_40 : decode c_S_addTransfer 40 = .ok (.lcmp, 1) := by decide +kernel
theorem d_S_addTransfer_41 : decode c_S_addTransfer 41 = .ok (.ifCond .ge 7, 3) := by decide +kernel
theorem d_S_addTransfer_44 : decode c_S_addTransfer 44 = .ok (.iload_n 2, 1) := by decide +kernel
theorem d_S_addTransfer_45 : decode c_S_addTransfer 45 = .ok (.goto 4, 3) := by decide +kernel
theorem d_S_addTransfer_48 : decode c_S_addTransfer 48 = .ok (.iload_n 1, 1) := by decide +kernel
theorem d_S_addTransfer_49 : decode c_S_addTransfer 49 = .ok (.iastore, 1) := by decide +kernel
theorem d_S_addTransfer_50 : decode c_S_addTransfer 50 = .ok (.aload_n 0, 1) := by decide +kernel
theorem d_S_addTransfer_51 : decode c_S_addTransfer 51 = .ok (.getfield 21, 3) := by decide +kernel
theorem d_S_addTransfer_54 : decode c_S_addTransfer 54 = .ok (.aload_n 0, 1) := by decide +kernel
theorem d_S_addTransfer_55 : decode c_S_addTransfer 55 = .ok (.getfield 37, 3) := by decide +kernel
theorem d_S_addTransfer_58 : decode c_S_addTransfer 58 = .ok (.lload_n 3, 1) := by decide +kernel
theorem d_S_addTransfer_59 : decode c_S_addTransfer 59 = .ok (.lconst 0, 1) := by decide +kernel
theorem d_S_addTransfer_60 : decode c_S_addTransfer 60 = .ok (.lcmp, 1) := by decide +kernel
theorem d_S_addTransfer_61 : decode c_S_addTransfer 61 = .ok (.ifCond .ge 8, 3) := by decide +kernel
theorem d_S_addTransfer_64 : decode c_S_addTransfer 64 = .ok (.lload_n 3, 1) := by decide +kernel
theorem d_S_addTransfer_65 : decode c_S_addTransfer 65 = .ok (.lneg, 1) := by decide +kernel
theorem d_S_addTransfer_66 : decode c_S_addTransfer 66 = .ok (.goto 4, 3) := by decide +kernel
theorem d_S_addTransfer_69 : decode c_S_addTransfer 69 = .ok (.lload_n 3, 1) := by decide +kernel
theorem d_S_addTransfer_70 : decode c_S_addTransfer 70 = .ok (.lastore, 1) := by decide +kernel
theorem d_S_addTransfer_71 : decode c_S_addTransfer 71 = .ok (.aload_n 0, 1) := by decide +kernel
theorem d_S_addTransfer_72 : decode c_S_addTransfer 72 = .ok (.getfield 25, 3) := by decide +kernel
theorem d_S_addTransfer_75 : decode c_S_addTransfer 75 = .ok (.aload_n 0, 1) := by decide +kernel
theorem d_S_addTransfer_76 : decode c_S_addTransfer 76 = .ok (.getfield 37, 3) := by decide +kernel
theorem d_S_addTransfer_79 : decode c_S_addTransfer 79 = .ok (.iconst 0, 1) := by decide +kernel
theorem d_S_addTransfer_80 : decode c_S_addTransfer 80 = .ok (.bastore, 1) := by decide +kernel
theorem d_S_addTransfer_81 : decode c_S_addTransfer 81 = .ok (.aload_n 0, 1) := by decide +kernel
theorem d_S_addTransfer_82 : decode c_S_addTransfer 82 = .ok (.dup, 1) := by decide +kernel
theorem d_S_addTransfer_83 : decode c_S_addTransfer 83 = .ok (.getfield 37, 3) := by decide +kernel
theorem d_S_addTransfer_86 : decode c_S_addTransfer 86 = .ok (.iconst 1, 1) := by decide +kernel
theorem d_S_addTransfer_87 : decode c_S_addTransfer 87 = .ok (.iadd, 1) := by decide +kernel
theorem d_S_addTransfer_88 : decode c_S_addTransfer 88 = .ok (.putfield 37, 3) := by decide +kernel
theorem d_S_addTransfer_91 : decode c_S_addTransfer 91 = .ok (.aload_n 0, 1) := by decide +kernel
theorem d_S_addTransfer_92 : decode c_S_addTransfer 92 = .ok (.dup, 1) := by decide +kernel
theorem d_S_addTransfer_93 : decode c_S_addTransfer 93 = .ok (.getfield 40, 3) := by decide +kernel
theorem d_S_addTransfer_96 : decode c_S_addTransfer 96 = .ok (.iconst 1, 1) := by decide +kernel
theorem d_S_addTransfer_97 : decode c_S_addTransfer 97 = .ok (.iadd, 1) := by decide +kernel
theorem d_S_addTransfer_98 : decode c_S_addTransfer 98 = .ok (.putfield 40, 3) := by decide +kernel
theorem d_S_addTransfer_101 : decode c_S_addTransfer 101 = .ok (.return_, 1) := by decide +kernel
