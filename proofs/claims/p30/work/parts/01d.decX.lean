theorem dX0_init_0 : decode cX0_init 0 = .ok (.aload_n 0, 1) := by decide +kernel
theorem dX0_init_1 : decode cX0_init 1 = .ok (.invokespecial 1, 3) := by decide +kernel
theorem dX0_init_4 : decode cX0_init 4 = .ok (.aload_n 0, 1) := by decide +kernel
theorem dX0_init_5 : decode cX0_init 5 = .ok (.iload_n 1, 1) := by decide +kernel
theorem dX0_init_6 : decode cX0_init 6 = .ok (.putfield 7, 3) := by decide +kernel
theorem dX0_init_9 : decode cX0_init 9 = .ok (.aload_n 0, 1) := by decide +kernel
theorem dX0_init_10 : decode cX0_init 10 = .ok (.aload_n 2, 1) := by decide +kernel
theorem dX0_init_11 : decode cX0_init 11 = .ok (.putfield 13, 3) := by decide +kernel
theorem dX0_init_14 : decode cX0_init 14 = .ok (.aload_n 0, 1) := by decide +kernel
theorem dX0_init_15 : decode cX0_init 15 = .ok (.iload_n 3, 1) := by decide +kernel
theorem dX0_init_16 : decode cX0_init 16 = .ok (.putfield 17, 3) := by decide +kernel
theorem dX0_init_19 : decode cX0_init 19 = .ok (.return_, 1) := by decide +kernel
theorem dX1_init_0 : decode cX1_init 0 = .ok (.aload_n 0, 1) := by decide +kernel
theorem dX1_init_1 : decode cX1_init 1 = .ok (.invokespecial 3, 3) := by decide +kernel
theorem dX1_init_4 : decode cX1_init 4 = .ok (.aload_n 0, 1) := by decide +kernel
theorem dX1_init_5 : decode cX1_init 5 = .ok (.iconst 4, 1) := by decide +kernel
theorem dX1_init_6 : decode cX1_init 6 = .ok (.putfield 9, 3) := by decide +kernel
theorem dX1_init_9 : decode cX1_init 9 = .ok (.aload_n 0, 1) := by decide +kernel
theorem dX1_init_10 : decode cX1_init 10 = .ok (.iconst 0, 1) := by decide +kernel
theorem dX1_init_11 : decode cX1_init 11 = .ok (.putfield 15, 3) := by decide +kernel
theorem dX1_init_14 : decode cX1_init 14 = .ok (.aload_n 0, 1) := by decide +kernel
theorem dX1_init_15 : decode cX1_init 15 = .ok (.aconst_null, 1) := by decide +kernel
theorem dX1_init_16 : decode cX1_init 16 = .ok (.putfield 18, 3) := by decide +kernel
theorem dX1_init_19 : decode cX1_init 19 = .ok (.aload_n 0, 1) := by decide +kernel
theorem dX1_init_20 : decode cX1_init 20 = .ok (.aconst_null, 1) := by decide +kernel
theorem dX1_init_21 : decode cX1_init 21 = .ok (.putfield 22, 3) := by decide +kernel
theorem dX1_init_24 : decode cX1_init 24 = .ok (.aload_n 0, 1) := by decide +kernel
theorem dX1_init_25 : decode cX1_init 25 = .ok (.iload_n 1, 1) := by decide +kernel
theorem dX1_init_26 : decode cX1_init 26 = .ok (.putfield 25, 3) := by decide +kernel
theorem dX1_init_29 : decode cX1_init 29 = .ok (.aload_n 0, 1) := by decide +kernel
theorem dX1_init_30 : decode cX1_init 30 = .ok (.iload_n 2, 1) := by decide +kernel
theorem dX1_init_31 : decode cX1_init 31 = .ok (.putfield 28, 3) := by decide +kernel
theorem dX1_init_34 : decode cX1_init 34 = .ok (.aload_n 0, 1) := by decide +kernel
theorem dX1_init_35 : decode cX1_init 35 = .ok (.aload_n 3, 1) := by decide +kernel
theorem dX1_init_36 : decode cX1_init 36 = .ok (.putfield 31, 3) := by decide +kernel
theorem dX1_init_39 : decode cX1_init 39 = .ok (.aload_n 0, 1) := by decide +kernel
theorem dX1_init_40 : decode cX1_init 40 = .ok (.aload 4, 2) := by decide +kernel
theorem dX1_init_42 : decode cX1_init 42 = .ok (.putfield 35, 3) := by decide +kernel
theorem dX1_init_45 : decode cX1_init 45 = .ok (.return_, 1) := by decide +kernel
theorem dX1_init__0 : decode cX1_init_ 0 = .ok (.aload_n 0, 1) := by decide +kernel
theorem dX1_init__1 : decode cX1_init_ 1 = .ok (.invokespecial 3, 3) := by decide +kernel
theorem dX1_init__4 : decode cX1_init_ 4 = .ok (.aload_n 0, 1) := by decide +kernel
theorem dX1_init__5 : decode cX1_init_ 5 = .ok (.iload_n 1, 1) := by decide +kernel
theorem dX1_init__6 : decode cX1_init_ 6 = .ok (.putfield 9, 3) := by decide +kernel
theorem dX1_init__9 : decode cX1_init_ 9 = .ok (.aload_n 0, 1) := by decide +kernel
theorem dX1_init__10 : decode cX1_init_ 10 = .ok (.iload_n 2, 1) := by decide +kernel
theorem dX1_init__11 : decode cX1_init_ 11 = .ok (.putfield 15, 3) := by decide +kernel
theorem dX1_init__14 : decode cX1_init_ 14 = .ok (.aload_n 0, 1) := by decide +kernel
theorem dX1_init__15 : decode cX1_init_ 15 = .ok (.aload_n 3, 1) := by decide +kernel
theorem dX1_init__16 : decode cX1_init_ 16 = .ok (.putfield 18, 3) := by decide +kernel
theorem dX1_init__19 : decode cX1_init_ 19 = .ok (.aload_n 0, 1) := by decide +kernel
theorem dX1_init__20 : decode cX1_init_ 20 = .ok (.aload 4, 2) := by decide +kernel
theorem dX1_init__22 : decode cX1_init_ 22 = .ok (.putfield 22, 3) := by decide +kernel
theorem dX1_init__25 : decode cX1_init_ 25 = .ok (.aload_n 0, 1) := by decide +kernel
theorem dX1_init__26 : decode cX1_init_ 26 = .ok (.iconst 1, 1) := by decide +kernel
theorem dX1_init__27 : decode cX1_init_ 27 = .ok (.aload_n 3, 1) := by decide +kernel
theorem dX1_init__28 : decode cX1_init_ 28 = .ok (.invokestatic 39, 3) := by decide +kernel
theorem dX1_init__31 : decode cX1_init_ 31 = .ok (.aload 4, 2) := by decide +kernel
theorem dX1_init__33 : decode cX1_init_ 33 = .ok (.invokestatic 39, 3) := by decide +kernel
theorem dX1_init__36 : decode cX1_init_ 36 = .ok (.invokestatic 43, 3) := by decide +kernel
theorem dX1_init__39 : decode cX1_init_ 39 = .ok (.iadd, 1) := by decide +kernel
theorem dX1_init__40 : decode cX1_init_ 40 = .ok (.putfield 25, 3) := by decide +kernel
theorem dX1_init__43 : decode cX1_init_ 43 = .ok (.aload_n 0, 1) := by decide +kernel
theorem dX1_init__44 : decode cX1_init_ 44 = .ok (.aload_n 3, 1) := by decide +kernel
theorem dX1_init__45 : decode cX1_init_ 45 = .ok (.invokestatic 49, 3) := by decide +kernel
theorem dX1_init__48 : decode cX1_init_ 48 = .ok (.aload 4, 2) := by decide +kernel
theorem dX1_init__50 : decode cX1_init_ 50 = .ok (.invokestatic 49, 3) := by decide +kernel
theorem dX1_init__53 : decode cX1_init_ 53 = .ok (.invokestatic 43, 3) := by decide +kernel
theorem dX1_init__56 : decode cX1_init_ 56 = .ok (.putfield 28, 3) := by decide +kernel
theorem dX1_init__59 : decode cX1_init_ 59 = .ok (.aload_n 0, 1) := by decide +kernel
theorem dX1_init__60 : decode cX1_init_ 60 = .ok (.aload 5, 2) := by decide +kernel
theorem dX1_init__62 : decode cX1_init_ 62 = .ok (.putfield 31, 3) := by decide +kernel
theorem dX1_init__65 : decode cX1_init_ 65 = .ok (.aload_n 0, 1) := by decide +kernel
theorem dX1_init__66 : decode cX1_init_ 66 = .ok (.bipush 20, 2) := by decide +kernel
theorem dX1_init__68 : decode cX1_init_ 68 = .ok (.newarray .long, 2) := by decide +kernel
theorem dX1_init__70 : decode cX1_init_ 70 = .ok (.putfield 35, 3) := by decide +kernel
theorem dX1_init__73 : decode cX1_init_ 73 = .ok (.return_, 1) := by decide +kernel
theorem dX1_levelOf_0 : decode cX1_levelOf 0 = .ok (.aload_n 0, 1) := by decide +kernel
theorem dX1_levelOf_1 : decode cX1_levelOf 1 = .ok (.ifnonnull 7, 3) := by decide +kernel
theorem dX1_levelOf_4 : decode cX1_levelOf 4 = .ok (.iconst 0, 1) := by decide +kernel
theorem dX1_levelOf_5 : decode cX1_levelOf 5 = .ok (.goto 7, 3) := by decide +kernel
theorem dX1_levelOf_8 : decode cX1_levelOf 8 = .ok (.aload_n 0, 1) := by decide +kernel
theorem dX1_levelOf_9 : decode cX1_levelOf 9 = .ok (.getfield 25, 3) := by decide +kernel
theorem dX1_levelOf_12 : decode cX1_levelOf 12 = .ok (.ireturn, 1) := by decide +kernel
theorem dX1_greatestTermOf_0 : decode cX1_greatestTermOf 0 = .ok (.aload_n 0, 1) := by decide +kernel
theorem dX1_greatestTermOf_1 : decode cX1_greatestTermOf 1 = .ok (.ifnonnull 7, 3) := by decide +kernel
theorem dX1_greatestTermOf_4 : decode cX1_greatestTermOf 4 = .ok (.iconst (-1), 1) := by decide +kernel
theorem dX1_greatestTermOf_5 : decode cX1_greatestTermOf 5 = .ok (.goto 7, 3) := by decide +kernel
theorem dX1_greatestTermOf_8 : decode cX1_greatestTermOf 8 = .ok (.aload_n 0, 1) := by decide +kernel
theorem dX1_greatestTermOf_9 : decode cX1_greatestTermOf 9 = .ok (.getfield 28, 3) := by decide +kernel
theorem dX1_greatestTermOf_12 : decode cX1_greatestTermOf 12 = .ok (.ireturn, 1) := by decide +kernel
theorem dX2_init_0 : decode cX2_init 0 = .ok (.aload_n 0, 1) := by decide +kernel
theorem dX2_init_1 : decode cX2_init 1 = .ok (.invokespecial 3, 3) := by decide +kernel
theorem dX2_init_4 : decode cX2_init 4 = .ok (.aload_n 0, 1) := by decide +kernel
theorem dX2_init_5 : decode cX2_init 5 = .ok (.aload_n 1, 1) := by decide +kernel
theorem dX2_init_6 : decode cX2_init 6 = .ok (.putfield 9, 3) := by decide +kernel
theorem dX2_init_9 : decode cX2_init 9 = .ok (.aload_n 0, 1) := by decide +kernel
theorem dX2_init_10 : decode cX2_init 10 = .ok (.aload_n 2, 1) := by decide +kernel
theorem dX2_init_11 : decode cX2_init 11 = .ok (.putfield 15, 3) := by decide +kernel
theorem dX2_init_14 : decode cX2_init 14 = .ok (.aload_n 0, 1) := by decide +kernel
theorem dX2_init_15 : decode cX2_init 15 = .ok (.bipush 20, 2) := by decide +kernel
theorem dX2_init_17 : decode cX2_init 17 = .ok (.newarray .int, 2) := by decide +kernel
theorem dX2_init_19 : decode cX2_init 19 = .ok (.putfield 18, 3) := by decide +kernel
theorem dX2_init_22 : decode cX2_init 22 = .ok (.aload_n 0, 1) := by decide +kernel
theorem dX2_init_23 : decode cX2_init 23 = .ok (.getfield 18, 3) := by decide +kernel
theorem dX2_init_26 : decode cX2_init 26 = .ok (.iconst (-1), 1) := by decide +kernel
theorem dX2_init_27 : decode cX2_init 27 = .ok (.invokestatic 22, 3) := by decide +kernel
theorem dX2_init_30 : decode cX2_init 30 = .ok (.aload_n 0, 1) := by decide +kernel
theorem dX2_init_31 : decode cX2_init 31 = .ok (.iconst (-1), 1) := by decide +kernel
theorem dX2_init_32 : decode cX2_init 32 = .ok (.putfield 28, 3) := by decide +kernel
theorem dX2_init_35 : decode cX2_init 35 = .ok (.aload_n 0, 1) := by decide +kernel
theorem dX2_init_36 : decode cX2_init 36 = .ok (.bipush 20, 2) := by decide +kernel
theorem dX2_init_38 : decode cX2_init 38 = .ok (.newarray .int, 2) := by decide +kernel
theorem dX2_init_40 : decode cX2_init 40 = .ok (.putfield 32, 3) := by decide +kernel
theorem dX2_init_43 : decode cX2_init 43 = .ok (.aload_n 0, 1) := by decide +kernel
theorem dX2_init_44 : decode cX2_init 44 = .ok (.bipush 20, 2) := by decide +kernel
theorem dX2_init_46 : decode cX2_init 46 = .ok (.newarray .boolean, 2) := by decide +kernel
theorem dX2_init_48 : decode cX2_init 48 = .ok (.putfield 35, 3) := by decide +kernel
theorem dX2_init_51 : decode cX2_init 51 = .ok (.return_, 1) := by decide +kernel
theorem dX3_init_0 : decode cX3_init 0 = .ok (.aload_n 0, 1) := by decide +kernel
theorem dX3_init_1 : decode cX3_init 1 = .ok (.invokespecial 3, 3) := by decide +kernel
theorem dX3_init_4 : decode cX3_init 4 = .ok (.aload_n 0, 1) := by decide +kernel
theorem dX3_init_5 : decode cX3_init 5 = .ok (.aload_n 1, 1) := by decide +kernel
theorem dX3_init_6 : decode cX3_init 6 = .ok (.getfield 9, 3) := by decide +kernel
theorem dX3_init_9 : decode cX3_init 9 = .ok (.putfield 15, 3) := by decide +kernel
theorem dX3_init_12 : decode cX3_init 12 = .ok (.aload_n 0, 1) := by decide +kernel
theorem dX3_init_13 : decode cX3_init 13 = .ok (.bipush 20, 2) := by decide +kernel
theorem dX3_init_15 : decode cX3_init 15 = .ok (.anewarray 10, 3) := by decide +kernel
theorem dX3_init_18 : decode cX3_init 18 = .ok (.putfield 18, 3) := by decide +kernel
theorem dX3_init_21 : decode cX3_init 21 = .ok (.aload_n 0, 1) := by decide +kernel
theorem dX3_init_22 : decode cX3_init 22 = .ok (.getfield 18, 3) := by decide +kernel
theorem dX3_init_25 : decode cX3_init 25 = .ok (.iconst 0, 1) := by decide +kernel
theorem dX3_init_26 : decode cX3_init 26 = .ok (.aload_n 1, 1) := by decide +kernel
theorem dX3_init_27 : decode cX3_init 27 = .ok (.aastore, 1) := by decide +kernel
theorem dX3_init_28 : decode cX3_init 28 = .ok (.aload_n 0, 1) := by decide +kernel
theorem dX3_init_29 : decode cX3_init 29 = .ok (.iconst 1, 1) := by decide +kernel
theorem dX3_init_30 : decode cX3_init 30 = .ok (.putfield 22, 3) := by decide +kernel
theorem dX3_init_33 : decode cX3_init 33 = .ok (.aload_n 0, 1) := by decide +kernel
theorem dX3_init_34 : decode cX3_init 34 = .ok (.bipush 20, 2) := by decide +kernel
theorem dX3_init_36 : decode cX3_init 36 = .ok (.newarray .long, 2) := by decide +kernel
theorem dX3_init_38 : decode cX3_init 38 = .ok (.putfield 25, 3) := by decide +kernel
theorem dX3_init_41 : decode cX3_init 41 = .ok (.return_, 1) := by decide +kernel
theorem dX4_init_0 : decode cX4_init 0 = .ok (.aload_n 0, 1) := by decide +kernel
theorem dX4_init_1 : decode cX4_init 1 = .ok (.invokespecial 1, 3) := by decide +kernel
theorem dX4_init_4 : decode cX4_init 4 = .ok (.aload_n 0, 1) := by decide +kernel
theorem dX4_init_5 : decode cX4_init 5 = .ok (.bipush 6, 2) := by decide +kernel
theorem dX4_init_7 : decode cX4_init 7 = .ok (.bipush 20, 2) := by decide +kernel
theorem dX4_init_9 : decode cX4_init 9 = .ok (.multianewarray 9 2, 4) := by decide +kernel
theorem dX4_init_13 : decode cX4_init 13 = .ok (.putfield 11, 3) := by decide +kernel
theorem dX4_init_16 : decode cX4_init 16 = .ok (.aload_n 0, 1) := by decide +kernel
theorem dX4_init_17 : decode cX4_init 17 = .ok (.new 14, 3) := by decide +kernel
theorem dX4_init_20 : decode cX4_init 20 = .ok (.dup, 1) := by decide +kernel
theorem dX4_init_21 : decode cX4_init 21 = .ok (.invokespecial 16, 3) := by decide +kernel
theorem dX4_init_24 : decode cX4_init 24 = .ok (.putfield 17, 3) := by decide +kernel
theorem dX4_init_27 : decode cX4_init 27 = .ok (.aload_n 0, 1) := by decide +kernel
theorem dX4_init_28 : decode cX4_init 28 = .ok (.new 14, 3) := by decide +kernel
theorem dX4_init_31 : decode cX4_init 31 = .ok (.dup, 1) := by decide +kernel
theorem dX4_init_32 : decode cX4_init 32 = .ok (.invokespecial 16, 3) := by decide +kernel
theorem dX4_init_35 : decode cX4_init 35 = .ok (.putfield 21, 3) := by decide +kernel
theorem dX4_init_38 : decode cX4_init 38 = .ok (.aload_n 0, 1) := by decide +kernel
theorem dX4_init_39 : decode cX4_init 39 = .ok (.new 14, 3) := by decide +kernel
theorem dX4_init_42 : decode cX4_init 42 = .ok (.dup, 1) := by decide +kernel
theorem dX4_init_43 : decode cX4_init 43 = .ok (.invokespecial 16, 3) := by decide +kernel
theorem dX4_init_46 : decode cX4_init 46 = .ok (.putfield 24, 3) := by decide +kernel
theorem dX4_init_49 : decode cX4_init 49 = .ok (.aload_n 0, 1) := by decide +kernel
theorem dX4_init_50 : decode cX4_init 50 = .ok (.new 14, 3) := by decide +kernel
theorem dX4_init_53 : decode cX4_init 53 = .ok (.dup, 1) := by decide +kernel
theorem dX4_init_54 : decode cX4_init 54 = .ok (.invokespecial 16, 3) := by decide +kernel
theorem dX4_init_57 : decode cX4_init 57 = .ok (.putfield 27, 3) := by decide +kernel
theorem dX4_init_60 : decode cX4_init 60 = .ok (.return_, 1) := by decide +kernel
theorem dX4_amount_0 : decode cX4_amount 0 = .ok (.iload_n 1, 1) := by decide +kernel
theorem dX4_amount_1 : decode cX4_amount 1 = .ok (.invokestatic 30, 3) := by decide +kernel
theorem dX4_amount_4 : decode cX4_amount 4 = .ok (.ifCond .eq 10, 3) := by decide +kernel
theorem dX4_amount_7 : decode cX4_amount 7 = .ok (.iload_n 2, 1) := by decide +kernel
theorem dX4_amount_8 : decode cX4_amount 8 = .ok (.invokestatic 34, 3) := by decide +kernel
theorem dX4_amount_11 : decode cX4_amount 11 = .ok (.ifCond .ne 13, 3) := by decide +kernel
theorem dX4_amount_14 : decode cX4_amount 14 = .ok (.new 37, 3) := by decide +kernel
theorem dX4_amount_17 : decode cX4_amount 17 = .ok (.dup, 1) := by decide +kernel
theorem dX4_amount_18 : decode cX4_amount 18 = .ok (.ldc 39, 2) := by decide +kernel
theorem dX4_amount_20 : decode cX4_amount 20 = .ok (.invokespecial 41, 3) := by decide +kernel
theorem dX4_amount_23 : decode cX4_amount 23 = .ok (.athrow, 1) := by decide +kernel
theorem dX4_amount_24 : decode cX4_amount 24 = .ok (.iload_n 3, 1) := by decide +kernel
theorem dX4_amount_25 : decode cX4_amount 25 = .ok (.ldc 44, 2) := by decide +kernel
theorem dX4_amount_27 : decode cX4_amount 27 = .ok (.ldc 45, 2) := by decide +kernel
theorem dX4_amount_29 : decode cX4_amount 29 = .ok (.invokestatic 46, 3) := by decide +kernel
theorem dX4_amount_32 : decode cX4_amount 32 = .ok (.ifCond .ne 13, 3) := by decide +kernel
theorem dX4_amount_35 : decode cX4_amount 35 = .ok (.new 50, 3) := by decide +kernel
theorem dX4_amount_38 : decode cX4_amount 38 = .ok (.dup, 1) := by decide +kernel
theorem dX4_amount_39 : decode cX4_amount 39 = .ok (.ldc 52, 2) := by decide +kernel
theorem dX4_amount_41 : decode cX4_amount 41 = .ok (.invokespecial 54, 3) := by decide +kernel
theorem dX4_amount_44 : decode cX4_amount 44 = .ok (.athrow, 1) := by decide +kernel
theorem dX4_amount_45 : decode cX4_amount 45 = .ok (.aload_n 0, 1) := by decide +kernel
theorem dX4_amount_46 : decode cX4_amount 46 = .ok (.getfield 11, 3) := by decide +kernel
theorem dX4_amount_49 : decode cX4_amount 49 = .ok (.iload_n 1, 1) := by decide +kernel
theorem dX4_amount_50 : decode cX4_amount 50 = .ok (.aaload, 1) := by decide +kernel
theorem dX4_amount_51 : decode cX4_amount 51 = .ok (.iload_n 2, 1) := by decide +kernel
theorem dX4_amount_52 : decode cX4_amount 52 = .ok (.laload, 1) := by decide +kernel
theorem dX4_amount_53 : decode cX4_amount 53 = .ok (.lstore 4, 2) := by decide +kernel
theorem dX4_amount_55 : decode cX4_amount 55 = .ok (.aload_n 0, 1) := by decide +kernel
theorem dX4_amount_56 : decode cX4_amount 56 = .ok (.getfield 11, 3) := by decide +kernel
theorem dX4_amount_59 : decode cX4_amount 59 = .ok (.iload_n 1, 1) := by decide +kernel
theorem dX4_amount_60 : decode cX4_amount 60 = .ok (.aaload, 1) := by decide +kernel
theorem dX4_amount_61 : decode cX4_amount 61 = .ok (.iload_n 2, 1) := by decide +kernel
theorem dX4_amount_62 : decode cX4_amount 62 = .ok (.iload_n 3, 1) := by decide +kernel
theorem dX4_amount_63 : decode cX4_amount 63 = .ok (.i2l, 1) := by decide +kernel
theorem dX4_amount_64 : decode cX4_amount 64 = .ok (.lastore, 1) := by decide +kernel
theorem dX4_amount_65 : decode cX4_amount 65 = .ok (.aload_n 0, 1) := by decide +kernel
theorem dX4_amount_66 : decode cX4_amount 66 = .ok (.invokevirtual 55, 3) := by decide +kernel
theorem dX4_amount_69 : decode cX4_amount 69 = .ok (.lload 4, 2) := by decide +kernel
theorem dX4_amount_71 : decode cX4_amount 71 = .ok (.l2i, 1) := by decide +kernel
theorem dX4_amount_72 : decode cX4_amount 72 = .ok (.ireturn, 1) := by decide +kernel
theorem dX4_account_0 : decode cX4_account 0 = .ok (.iload_n 1, 1) := by decide +kernel
theorem dX4_account_1 : decode cX4_account 1 = .ok (.invokestatic 30, 3) := by decide +kernel
theorem dX4_account_4 : decode cX4_account 4 = .ok (.ifCond .ne 13, 3) := by decide +kernel
theorem dX4_account_7 : decode cX4_account 7 = .ok (.new 37, 3) := by decide +kernel
theorem dX4_account_10 : decode cX4_account 10 = .ok (.dup, 1) := by decide +kernel
theorem dX4_account_11 : decode cX4_account 11 = .ok (.ldc 58, 2) := by decide +kernel
theorem dX4_account_13 : decode cX4_account 13 = .ok (.invokespecial 41, 3) := by decide +kernel
theorem dX4_account_16 : decode cX4_account 16 = .ok (.athrow, 1) := by decide +kernel
theorem dX4_account_17 : decode cX4_account 17 = .ok (.aload_n 0, 1) := by decide +kernel
theorem dX4_account_18 : decode cX4_account 18 = .ok (.getfield 17, 3) := by decide +kernel
theorem dX4_account_21 : decode cX4_account 21 = .ok (.invokevirtual 60, 3) := by decide +kernel
theorem dX4_account_24 : decode cX4_account 24 = .ok (.bipush 8, 2) := by decide +kernel
theorem dX4_account_26 : decode cX4_account 26 = .ok (.if_icmp .lt 13, 3) := by decide +kernel
theorem dX4_account_29 : decode cX4_account 29 = .ok (.new 64, 3) := by decide +kernel
theorem dX4_account_32 : decode cX4_account 32 = .ok (.dup, 1) := by decide +kernel
theorem dX4_account_33 : decode cX4_account 33 = .ok (.ldc 66, 2) := by decide +kernel
theorem dX4_account_35 : decode cX4_account 35 = .ok (.invokespecial 68, 3) := by decide +kernel
theorem dX4_account_38 : decode cX4_account 38 = .ok (.athrow, 1) := by decide +kernel
theorem dX4_account_39 : decode cX4_account 39 = .ok (.aload_n 0, 1) := by decide +kernel
theorem dX4_account_40 : decode cX4_account 40 = .ok (.new 69, 3) := by decide +kernel
theorem dX4_account_43 : decode cX4_account 43 = .ok (.dup, 1) := by decide +kernel
theorem dX4_account_44 : decode cX4_account 44 = .ok (.iconst 1, 1) := by decide +kernel
theorem dX4_account_45 : decode cX4_account 45 = .ok (.iconst (-1), 1) := by decide +kernel
theorem dX4_account_46 : decode cX4_account 46 = .ok (.ldc 71, 2) := by decide +kernel
theorem dX4_account_48 : decode cX4_account 48 = .ok (.iload_n 1, 1) := by decide +kernel
theorem dX4_account_49 : decode cX4_account 49 = .ok (.invokestatic 73, 3) := by decide +kernel
theorem dX4_account_52 : decode cX4_account 52 = .ok (.aload_n 0, 1) := by decide +kernel
theorem dX4_account_53 : decode cX4_account 53 = .ok (.getfield 11, 3) := by decide +kernel
theorem dX4_account_56 : decode cX4_account 56 = .ok (.iload_n 1, 1) := by decide +kernel
theorem dX4_account_57 : decode cX4_account 57 = .ok (.aaload, 1) := by decide +kernel
theorem dX4_account_58 : decode cX4_account 58 = .ok (.invokespecial 77, 3) := by decide +kernel
theorem dX4_account_61 : decode cX4_account 61 = .ok (.invokevirtual 80, 3) := by decide +kernel
theorem dX4_account_64 : decode cX4_account 64 = .ok (.ireturn, 1) := by decide +kernel
theorem dX4_number_0 : decode cX4_number 0 = .ok (.iload_n 1, 1) := by decide +kernel
theorem dX4_number_1 : decode cX4_number 1 = .ok (.iconst 0, 1) := by decide +kernel
theorem dX4_number_2 : decode cX4_number 2 = .ok (.ldc 45, 2) := by decide +kernel
theorem dX4_number_4 : decode cX4_number 4 = .ok (.invokestatic 46, 3) := by decide +kernel
theorem dX4_number_7 : decode cX4_number 7 = .ok (.ifCond .ne 13, 3) := by decide +kernel
theorem dX4_number_10 : decode cX4_number 10 = .ok (.new 50, 3) := by decide +kernel
theorem dX4_number_13 : decode cX4_number 13 = .ok (.dup, 1) := by decide +kernel
theorem dX4_number_14 : decode cX4_number 14 = .ok (.ldc 84, 2) := by decide +kernel
theorem dX4_number_16 : decode cX4_number 16 = .ok (.invokespecial 54, 3) := by decide +kernel
theorem dX4_number_19 : decode cX4_number 19 = .ok (.athrow, 1) := by decide +kernel
theorem dX4_number_20 : decode cX4_number 20 = .ok (.aload_n 0, 1) := by decide +kernel
theorem dX4_number_21 : decode cX4_number 21 = .ok (.getfield 17, 3) := by decide +kernel
theorem dX4_number_24 : decode cX4_number 24 = .ok (.invokevirtual 60, 3) := by decide +kernel
theorem dX4_number_27 : decode cX4_number 27 = .ok (.bipush 8, 2) := by decide +kernel
theorem dX4_number_29 : decode cX4_number 29 = .ok (.if_icmp .lt 13, 3) := by decide +kernel
theorem dX4_number_32 : decode cX4_number 32 = .ok (.new 64, 3) := by decide +kernel
theorem dX4_number_35 : decode cX4_number 35 = .ok (.dup, 1) := by decide +kernel
theorem dX4_number_36 : decode cX4_number 36 = .ok (.ldc 66, 2) := by decide +kernel
theorem dX4_number_38 : decode cX4_number 38 = .ok (.invokespecial 68, 3) := by decide +kernel
theorem dX4_number_41 : decode cX4_number 41 = .ok (.athrow, 1) := by decide +kernel
theorem dX4_number_42 : decode cX4_number 42 = .ok (.bipush 20, 2) := by decide +kernel
theorem dX4_number_44 : decode cX4_number 44 = .ok (.newarray .long, 2) := by decide +kernel
theorem dX4_number_46 : decode cX4_number 46 = .ok (.astore_n 2, 1) := by decide +kernel
theorem dX4_number_47 : decode cX4_number 47 = .ok (.aload_n 2, 1) := by decide +kernel
theorem dX4_number_48 : decode cX4_number 48 = .ok (.iload_n 1, 1) := by decide +kernel
theorem dX4_number_49 : decode cX4_number 49 = .ok (.i2l, 1) := by decide +kernel
theorem dX4_number_50 : decode cX4_number 50 = .ok (.invokestatic 86, 3) := by decide +kernel
theorem dX4_number_53 : decode cX4_number 53 = .ok (.aload_n 0, 1) := by decide +kernel
theorem dX4_number_54 : decode cX4_number 54 = .ok (.new 69, 3) := by decide +kernel
theorem dX4_number_57 : decode cX4_number 57 = .ok (.dup, 1) := by decide +kernel
theorem dX4_number_58 : decode cX4_number 58 = .ok (.iconst 1, 1) := by decide +kernel
theorem dX4_number_59 : decode cX4_number 59 = .ok (.iconst (-1), 1) := by decide +kernel
theorem dX4_number_60 : decode cX4_number 60 = .ok (.ldc 92, 2) := by decide +kernel
theorem dX4_number_62 : decode cX4_number 62 = .ok (.iload_n 1, 1) := by decide +kernel
theorem dX4_number_63 : decode cX4_number 63 = .ok (.invokestatic 73, 3) := by decide +kernel
theorem dX4_number_66 : decode cX4_number 66 = .ok (.aload_n 2, 1) := by decide +kernel
theorem dX4_number_67 : decode cX4_number 67 = .ok (.invokespecial 77, 3) := by decide +kernel
theorem dX4_number_70 : decode cX4_number 70 = .ok (.invokevirtual 80, 3) := by decide +kernel
theorem dX4_number_73 : decode cX4_number 73 = .ok (.ireturn, 1) := by decide +kernel
theorem dX4_term_0 : decode cX4_term 0 = .ok (.aload_n 0, 1) := by decide +kernel
theorem dX4_term_1 : decode cX4_term 1 = .ok (.iload_n 1, 1) := by decide +kernel
theorem dX4_term_2 : decode cX4_term 2 = .ok (.invokevirtual 94, 3) := by decide +kernel
theorem dX4_term_5 : decode cX4_term 5 = .ok (.ifCond .ne 13, 3) := by decide +kernel
theorem dX4_term_8 : decode cX4_term 8 = .ok (.new 37, 3) := by decide +kernel
theorem dX4_term_11 : decode cX4_term 11 = .ok (.dup, 1) := by decide +kernel
theorem dX4_term_12 : decode cX4_term 12 = .ok (.ldc 97, 2) := by decide +kernel
theorem dX4_term_14 : decode cX4_term 14 = .ok (.invokespecial 41, 3) := by decide +kernel
theorem dX4_term_17 : decode cX4_term 17 = .ok (.athrow, 1) := by decide +kernel
theorem dX4_term_18 : decode cX4_term 18 = .ok (.aload_n 0, 1) := by decide +kernel
theorem dX4_term_19 : decode cX4_term 19 = .ok (.getfield 21, 3) := by decide +kernel
theorem dX4_term_22 : decode cX4_term 22 = .ok (.iload_n 1, 1) := by decide +kernel
theorem dX4_term_23 : decode cX4_term 23 = .ok (.invokevirtual 99, 3) := by decide +kernel
theorem dX4_term_26 : decode cX4_term 26 = .ok (.checkcast 103, 3) := by decide +kernel
theorem dX4_term_29 : decode cX4_term 29 = .ok (.astore_n 2, 1) := by decide +kernel
theorem dX4_term_30 : decode cX4_term 30 = .ok (.aload_n 0, 1) := by decide +kernel
theorem dX4_term_31 : decode cX4_term 31 = .ok (.getfield 17, 3) := by decide +kernel
theorem dX4_term_34 : decode cX4_term 34 = .ok (.invokevirtual 60, 3) := by decide +kernel
theorem dX4_term_37 : decode cX4_term 37 = .ok (.bipush 8, 2) := by decide +kernel
theorem dX4_term_39 : decode cX4_term 39 = .ok (.if_icmp .ge 12, 3) := by decide +kernel
theorem dX4_term_42 : decode cX4_term 42 = .ok (.aload_n 2, 1) := by decide +kernel
theorem dX4_term_43 : decode cX4_term 43 = .ok (.getfield 105, 3) := by decide +kernel
theorem dX4_term_46 : decode cX4_term 46 = .ok (.bipush 6, 2) := by decide +kernel
theorem dX4_term_48 : decode cX4_term 48 = .ok (.if_icmp .lt 13, 3) := by decide +kernel
theorem dX4_term_51 : decode cX4_term 51 = .ok (.new 64, 3) := by decide +kernel
theorem dX4_term_54 : decode cX4_term 54 = .ok (.dup, 1) := by decide +kernel
theorem dX4_term_55 : decode cX4_term 55 = .ok (.ldc 109, 2) := by decide +kernel
theorem dX4_term_57 : decode cX4_term 57 = .ok (.invokespecial 68, 3) := by decide +kernel
theorem dX4_term_60 : decode cX4_term 60 = .ok (.athrow, 1) := by decide +kernel
theorem dX4_term_61 : decode cX4_term 61 = .ok (.aload_n 0, 1) := by decide +kernel
theorem dX4_term_62 : decode cX4_term 62 = .ok (.new 69, 3) := by decide +kernel
theorem dX4_term_65 : decode cX4_term 65 = .ok (.dup, 1) := by decide +kernel
theorem dX4_term_66 : decode cX4_term 66 = .ok (.aload_n 2, 1) := by decide +kernel
theorem dX4_term_67 : decode cX4_term 67 = .ok (.getfield 105, 3) := by decide +kernel
theorem dX4_term_70 : decode cX4_term 70 = .ok (.iconst 1, 1) := by decide +kernel
theorem dX4_term_71 : decode cX4_term 71 = .ok (.iadd, 1) := by decide +kernel
theorem dX4_term_72 : decode cX4_term 72 = .ok (.iload_n 1, 1) := by decide +kernel
theorem dX4_term_73 : decode cX4_term 73 = .ok (.ldc 111, 2) := by decide +kernel
theorem dX4_term_75 : decode cX4_term 75 = .ok (.iload_n 1, 1) := by decide +kernel
theorem dX4_term_76 : decode cX4_term 76 = .ok (.invokestatic 73, 3) := by decide +kernel
theorem dX4_term_79 : decode cX4_term 79 = .ok (.aload_n 2, 1) := by decide +kernel
theorem dX4_term_80 : decode cX4_term 80 = .ok (.getfield 113, 3) := by decide +kernel
theorem dX4_term_83 : decode cX4_term 83 = .ok (.invokespecial 77, 3) := by decide +kernel
theorem dX4_term_86 : decode cX4_term 86 = .ok (.invokevirtual 80, 3) := by decide +kernel
theorem dX4_term_89 : decode cX4_term 89 = .ok (.ireturn, 1) := by decide +kernel
theorem dX4_join_0 : decode cX4_join 0 = .ok (.iload_n 1, 1) := by decide +kernel
theorem dX4_join_1 : decode cX4_join 1 = .ok (.iconst 0, 1) := by decide +kernel
theorem dX4_join_2 : decode cX4_join 2 = .ok (.iconst 3, 1) := by decide +kernel
theorem dX4_join_3 : decode cX4_join 3 = .ok (.invokestatic 46, 3) := by decide +kernel
theorem dX4_join_6 : decode cX4_join 6 = .ok (.ifCond .ne 13, 3) := by decide +kernel
theorem dX4_join_9 : decode cX4_join 9 = .ok (.new 50, 3) := by decide +kernel
theorem dX4_join_12 : decode cX4_join 12 = .ok (.dup, 1) := by decide +kernel
theorem dX4_join_13 : decode cX4_join 13 = .ok (.ldc 117, 2) := by decide +kernel
theorem dX4_join_15 : decode cX4_join 15 = .ok (.invokespecial 54, 3) := by decide +kernel
theorem dX4_join_18 : decode cX4_join 18 = .ok (.athrow, 1) := by decide +kernel
theorem dX4_join_19 : decode cX4_join 19 = .ok (.aload_n 0, 1) := by decide +kernel
theorem dX4_join_20 : decode cX4_join 20 = .ok (.getfield 17, 3) := by decide +kernel
theorem dX4_join_23 : decode cX4_join 23 = .ok (.invokevirtual 60, 3) := by decide +kernel
theorem dX4_join_26 : decode cX4_join 26 = .ok (.istore_n 2, 1) := by decide +kernel
theorem dX4_join_27 : decode cX4_join 27 = .ok (.iload_n 2, 1) := by decide +kernel
theorem dX4_join_28 : decode cX4_join 28 = .ok (.iconst 2, 1) := by decide +kernel
theorem dX4_join_29 : decode cX4_join 29 = .ok (.if_icmp .lt 41, 3) := by decide +kernel
theorem dX4_join_32 : decode cX4_join 32 = .ok (.aload_n 0, 1) := by decide +kernel
theorem dX4_join_33 : decode cX4_join 33 = .ok (.getfield 17, 3) := by decide +kernel
theorem dX4_join_36 : decode cX4_join 36 = .ok (.iload_n 2, 1) := by decide +kernel
theorem dX4_join_37 : decode cX4_join 37 = .ok (.iconst 2, 1) := by decide +kernel
theorem dX4_join_38 : decode cX4_join 38 = .ok (.isub, 1) := by decide +kernel
theorem dX4_join_39 : decode cX4_join 39 = .ok (.invokevirtual 99, 3) := by decide +kernel
theorem dX4_join_42 : decode cX4_join 42 = .ok (.checkcast 69, 3) := by decide +kernel
theorem dX4_join_45 : decode cX4_join 45 = .ok (.invokestatic 119, 3) := by decide +kernel
theorem dX4_join_48 : decode cX4_join 48 = .ok (.ifCond .eq 22, 3) := by decide +kernel
theorem dX4_join_51 : decode cX4_join 51 = .ok (.aload_n 0, 1) := by decide +kernel
theorem dX4_join_52 : decode cX4_join 52 = .ok (.getfield 17, 3) := by decide +kernel
theorem dX4_join_55 : decode cX4_join 55 = .ok (.iload_n 2, 1) := by decide +kernel
theorem dX4_join_56 : decode cX4_join 56 = .ok (.iconst 1, 1) := by decide +kernel
theorem dX4_join_57 : decode cX4_join 57 = .ok (.isub, 1) := by decide +kernel
theorem dX4_join_58 : decode cX4_join 58 = .ok (.invokevirtual 99, 3) := by decide +kernel
theorem dX4_join_61 : decode cX4_join 61 = .ok (.checkcast 69, 3) := by decide +kernel
theorem dX4_join_64 : decode cX4_join 64 = .ok (.invokestatic 119, 3) := by decide +kernel
theorem dX4_join_67 : decode cX4_join 67 = .ok (.ifCond .ne 13, 3) := by decide +kernel
theorem dX4_join_70 : decode cX4_join 70 = .ok (.new 64, 3) := by decide +kernel
theorem dX4_join_73 : decode cX4_join 73 = .ok (.dup, 1) := by decide +kernel
theorem dX4_join_74 : decode cX4_join 74 = .ok (.ldc 123, 2) := by decide +kernel
theorem dX4_join_76 : decode cX4_join 76 = .ok (.invokespecial 68, 3) := by decide +kernel
theorem dX4_join_79 : decode cX4_join 79 = .ok (.athrow, 1) := by decide +kernel
theorem dX4_join_80 : decode cX4_join 80 = .ok (.aload_n 0, 1) := by decide +kernel
theorem dX4_join_81 : decode cX4_join 81 = .ok (.getfield 17, 3) := by decide +kernel
theorem dX4_join_84 : decode cX4_join 84 = .ok (.iload_n 2, 1) := by decide +kernel
theorem dX4_join_85 : decode cX4_join 85 = .ok (.iconst 1, 1) := by decide +kernel
theorem dX4_join_86 : decode cX4_join 86 = .ok (.isub, 1) := by decide +kernel
theorem dX4_join_87 : decode cX4_join 87 = .ok (.invokevirtual 125, 3) := by decide +kernel
theorem dX4_join_90 : decode cX4_join 90 = .ok (.checkcast 69, 3) := by decide +kernel
theorem dX4_join_93 : decode cX4_join 93 = .ok (.astore_n 3, 1) := by decide +kernel
theorem dX4_join_94 : decode cX4_join 94 = .ok (.aload_n 0, 1) := by decide +kernel
theorem dX4_join_95 : decode cX4_join 95 = .ok (.getfield 17, 3) := by decide +kernel
theorem dX4_join_98 : decode cX4_join 98 = .ok (.iload_n 2, 1) := by decide +kernel
theorem dX4_join_99 : decode cX4_join 99 = .ok (.iconst 2, 1) := by decide +kernel
theorem dX4_join_100 : decode cX4_join 100 = .ok (.isub, 1) := by decide +kernel
theorem dX4_join_101 : decode cX4_join 101 = .ok (.invokevirtual 125, 3) := by decide +kernel
theorem dX4_join_104 : decode cX4_join 104 = .ok (.checkcast 69, 3) := by decide +kernel
theorem dX4_join_107 : decode cX4_join 107 = .ok (.astore 4, 2) := by decide +kernel
theorem dX4_join_109 : decode cX4_join 109 = .ok (.aload_n 0, 1) := by decide +kernel
theorem dX4_join_110 : decode cX4_join 110 = .ok (.new 69, 3) := by decide +kernel
theorem dX4_join_113 : decode cX4_join 113 = .ok (.dup, 1) := by decide +kernel
theorem dX4_join_114 : decode cX4_join 114 = .ok (.iload_n 1, 1) := by decide +kernel
theorem dX4_join_115 : decode cX4_join 115 = .ok (.iconst 0, 1) := by decide +kernel
theorem dX4_join_116 : decode cX4_join 116 = .ok (.aload 4, 2) := by decide +kernel
theorem dX4_join_118 : decode cX4_join 118 = .ok (.aload_n 3, 1) := by decide +kernel
theorem dX4_join_119 : decode cX4_join 119 = .ok (.iload_n 1, 1) := by decide +kernel
theorem dX4_join_120 : decode cX4_join 120 = .ok (.aload 4, 2) := by decide +kernel
theorem dX4_join_122 : decode cX4_join 122 = .ok (.getfield 128, 3) := by decide +kernel
theorem dX4_join_125 : decode cX4_join 125 = .ok (.aload_n 3, 1) := by decide +kernel
theorem dX4_join_126 : decode cX4_join 126 = .ok (.getfield 128, 3) := by decide +kernel
theorem dX4_join_129 : decode cX4_join 129 = .ok (.invokestatic 132, 3) := by decide +kernel
theorem dX4_join_132 : decode cX4_join 132 = .ok (.invokespecial 136, 3) := by decide +kernel
theorem dX4_join_135 : decode cX4_join 135 = .ok (.invokevirtual 80, 3) := by decide +kernel
theorem dX4_join_138 : decode cX4_join 138 = .ok (.ireturn, 1) := by decide +kernel
theorem dX4_share_0 : decode cX4_share 0 = .ok (.iload_n 1, 1) := by decide +kernel
theorem dX4_share_1 : decode cX4_share 1 = .ok (.iconst 0, 1) := by decide +kernel
theorem dX4_share_2 : decode cX4_share 2 = .ok (.bipush 100, 2) := by decide +kernel
theorem dX4_share_4 : decode cX4_share 4 = .ok (.invokestatic 46, 3) := by decide +kernel
theorem dX4_share_7 : decode cX4_share 7 = .ok (.ifCond .ne 13, 3) := by decide +kernel
theorem dX4_share_10 : decode cX4_share 10 = .ok (.new 50, 3) := by decide +kernel
theorem dX4_share_13 : decode cX4_share 13 = .ok (.dup, 1) := by decide +kernel
theorem dX4_share_14 : decode cX4_share 14 = .ok (.ldc 139, 2) := by decide +kernel
theorem dX4_share_16 : decode cX4_share 16 = .ok (.invokespecial 54, 3) := by decide +kernel
theorem dX4_share_19 : decode cX4_share 19 = .ok (.athrow, 1) := by decide +kernel
theorem dX4_share_20 : decode cX4_share 20 = .ok (.aload_n 0, 1) := by decide +kernel
theorem dX4_share_21 : decode cX4_share 21 = .ok (.getfield 17, 3) := by decide +kernel
theorem dX4_share_24 : decode cX4_share 24 = .ok (.invokevirtual 60, 3) := by decide +kernel
theorem dX4_share_27 : decode cX4_share 27 = .ok (.istore_n 2, 1) := by decide +kernel
theorem dX4_share_28 : decode cX4_share 28 = .ok (.iload_n 2, 1) := by decide +kernel
theorem dX4_share_29 : decode cX4_share 29 = .ok (.ifCond .eq 22, 3) := by decide +kernel
theorem dX4_share_32 : decode cX4_share 32 = .ok (.aload_n 0, 1) := by decide +kernel
theorem dX4_share_33 : decode cX4_share 33 = .ok (.getfield 17, 3) := by decide +kernel
theorem dX4_share_36 : decode cX4_share 36 = .ok (.iload_n 2, 1) := by decide +kernel
theorem dX4_share_37 : decode cX4_share 37 = .ok (.iconst 1, 1) := by decide +kernel
theorem dX4_share_38 : decode cX4_share 38 = .ok (.isub, 1) := by decide +kernel
theorem dX4_share_39 : decode cX4_share 39 = .ok (.invokevirtual 99, 3) := by decide +kernel
theorem dX4_share_42 : decode cX4_share 42 = .ok (.checkcast 69, 3) := by decide +kernel
theorem dX4_share_45 : decode cX4_share 45 = .ok (.invokestatic 119, 3) := by decide +kernel
theorem dX4_share_48 : decode cX4_share 48 = .ok (.ifCond .ne 13, 3) := by decide +kernel
theorem dX4_share_51 : decode cX4_share 51 = .ok (.new 64, 3) := by decide +kernel
theorem dX4_share_54 : decode cX4_share 54 = .ok (.dup, 1) := by decide +kernel
theorem dX4_share_55 : decode cX4_share 55 = .ok (.ldc 141, 2) := by decide +kernel
theorem dX4_share_57 : decode cX4_share 57 = .ok (.invokespecial 68, 3) := by decide +kernel
theorem dX4_share_60 : decode cX4_share 60 = .ok (.athrow, 1) := by decide +kernel
theorem dX4_share_61 : decode cX4_share 61 = .ok (.aload_n 0, 1) := by decide +kernel
theorem dX4_share_62 : decode cX4_share 62 = .ok (.getfield 17, 3) := by decide +kernel
theorem dX4_share_65 : decode cX4_share 65 = .ok (.iload_n 2, 1) := by decide +kernel
theorem dX4_share_66 : decode cX4_share 66 = .ok (.iconst 1, 1) := by decide +kernel
theorem dX4_share_67 : decode cX4_share 67 = .ok (.isub, 1) := by decide +kernel
theorem dX4_share_68 : decode cX4_share 68 = .ok (.invokevirtual 125, 3) := by decide +kernel
theorem dX4_share_71 : decode cX4_share 71 = .ok (.checkcast 69, 3) := by decide +kernel
theorem dX4_share_74 : decode cX4_share 74 = .ok (.astore_n 3, 1) := by decide +kernel
theorem dX4_share_75 : decode cX4_share 75 = .ok (.new 69, 3) := by decide +kernel
theorem dX4_share_78 : decode cX4_share 78 = .ok (.dup, 1) := by decide +kernel
theorem dX4_share_79 : decode cX4_share 79 = .ok (.iconst 5, 1) := by decide +kernel
theorem dX4_share_80 : decode cX4_share 80 = .ok (.iload_n 1, 1) := by decide +kernel
theorem dX4_share_81 : decode cX4_share 81 = .ok (.aload_n 3, 1) := by decide +kernel
theorem dX4_share_82 : decode cX4_share 82 = .ok (.aconst_null, 1) := by decide +kernel
theorem dX4_share_83 : decode cX4_share 83 = .ok (.iload_n 1, 1) := by decide +kernel
theorem dX4_share_84 : decode cX4_share 84 = .ok (.aload_n 3, 1) := by decide +kernel
theorem dX4_share_85 : decode cX4_share 85 = .ok (.getfield 128, 3) := by decide +kernel
theorem dX4_share_88 : decode cX4_share 88 = .ok (.invokestatic 143, 3) := by decide +kernel
theorem dX4_share_91 : decode cX4_share 91 = .ok (.invokespecial 136, 3) := by decide +kernel
theorem dX4_share_94 : decode cX4_share 94 = .ok (.astore 4, 2) := by decide +kernel
theorem dX4_share_96 : decode cX4_share 96 = .ok (.aload_n 0, 1) := by decide +kernel
theorem dX4_share_97 : decode cX4_share 97 = .ok (.aload 4, 2) := by decide +kernel
theorem dX4_share_99 : decode cX4_share 99 = .ok (.invokevirtual 80, 3) := by decide +kernel
theorem dX4_share_102 : decode cX4_share 102 = .ok (.pop, 1) := by decide +kernel
theorem dX4_share_103 : decode cX4_share 103 = .ok (.aload 4, 2) := by decide +kernel
theorem dX4_share_105 : decode cX4_share 105 = .ok (.getfield 147, 3) := by decide +kernel
theorem dX4_share_108 : decode cX4_share 108 = .ok (.ireturn, 1) := by decide +kernel
theorem dX4_year_0 : decode cX4_year 0 = .ok (.aload_n 0, 1) := by decide +kernel
theorem dX4_year_1 : decode cX4_year 1 = .ok (.getfield 17, 3) := by decide +kernel
theorem dX4_year_4 : decode cX4_year 4 = .ok (.invokevirtual 60, 3) := by decide +kernel
theorem dX4_year_7 : decode cX4_year 7 = .ok (.istore_n 1, 1) := by decide +kernel
theorem dX4_year_8 : decode cX4_year 8 = .ok (.iload_n 1, 1) := by decide +kernel
theorem dX4_year_9 : decode cX4_year 9 = .ok (.ifCond .eq 22, 3) := by decide +kernel
theorem dX4_year_12 : decode cX4_year 12 = .ok (.aload_n 0, 1) := by decide +kernel
theorem dX4_year_13 : decode cX4_year 13 = .ok (.getfield 17, 3) := by decide +kernel
theorem dX4_year_16 : decode cX4_year 16 = .ok (.iload_n 1, 1) := by decide +kernel
theorem dX4_year_17 : decode cX4_year 17 = .ok (.iconst 1, 1) := by decide +kernel
theorem dX4_year_18 : decode cX4_year 18 = .ok (.isub, 1) := by decide +kernel
theorem dX4_year_19 : decode cX4_year 19 = .ok (.invokevirtual 99, 3) := by decide +kernel
theorem dX4_year_22 : decode cX4_year 22 = .ok (.checkcast 69, 3) := by decide +kernel
theorem dX4_year_25 : decode cX4_year 25 = .ok (.invokestatic 119, 3) := by decide +kernel
theorem dX4_year_28 : decode cX4_year 28 = .ok (.ifCond .ne 13, 3) := by decide +kernel
theorem dX4_year_31 : decode cX4_year 31 = .ok (.new 64, 3) := by decide +kernel
theorem dX4_year_34 : decode cX4_year 34 = .ok (.dup, 1) := by decide +kernel
theorem dX4_year_35 : decode cX4_year 35 = .ok (.ldc 141, 2) := by decide +kernel
theorem dX4_year_37 : decode cX4_year 37 = .ok (.invokespecial 68, 3) := by decide +kernel
theorem dX4_year_40 : decode cX4_year 40 = .ok (.athrow, 1) := by decide +kernel
theorem dX4_year_41 : decode cX4_year 41 = .ok (.aload_n 0, 1) := by decide +kernel
theorem dX4_year_42 : decode cX4_year 42 = .ok (.getfield 17, 3) := by decide +kernel
theorem dX4_year_45 : decode cX4_year 45 = .ok (.iload_n 1, 1) := by decide +kernel
theorem dX4_year_46 : decode cX4_year 46 = .ok (.iconst 1, 1) := by decide +kernel
theorem dX4_year_47 : decode cX4_year 47 = .ok (.isub, 1) := by decide +kernel
theorem dX4_year_48 : decode cX4_year 48 = .ok (.invokevirtual 125, 3) := by decide +kernel
theorem dX4_year_51 : decode cX4_year 51 = .ok (.checkcast 69, 3) := by decide +kernel
theorem dX4_year_54 : decode cX4_year 54 = .ok (.astore_n 2, 1) := by decide +kernel
theorem dX4_year_55 : decode cX4_year 55 = .ok (.new 69, 3) := by decide +kernel
theorem dX4_year_58 : decode cX4_year 58 = .ok (.dup, 1) := by decide +kernel
theorem dX4_year_59 : decode cX4_year 59 = .ok (.bipush 6, 2) := by decide +kernel
theorem dX4_year_61 : decode cX4_year 61 = .ok (.iconst 0, 1) := by decide +kernel
theorem dX4_year_62 : decode cX4_year 62 = .ok (.aload_n 2, 1) := by decide +kernel
theorem dX4_year_63 : decode cX4_year 63 = .ok (.aconst_null, 1) := by decide +kernel
theorem dX4_year_64 : decode cX4_year 64 = .ok (.aload_n 2, 1) := by decide +kernel
theorem dX4_year_65 : decode cX4_year 65 = .ok (.getfield 128, 3) := by decide +kernel
theorem dX4_year_68 : decode cX4_year 68 = .ok (.invokestatic 148, 3) := by decide +kernel
theorem dX4_year_71 : decode cX4_year 71 = .ok (.invokespecial 136, 3) := by decide +kernel
theorem dX4_year_74 : decode cX4_year 74 = .ok (.astore_n 3, 1) := by decide +kernel
theorem dX4_year_75 : decode cX4_year 75 = .ok (.aload_n 0, 1) := by decide +kernel
theorem dX4_year_76 : decode cX4_year 76 = .ok (.aload_n 3, 1) := by decide +kernel
theorem dX4_year_77 : decode cX4_year 77 = .ok (.invokevirtual 80, 3) := by decide +kernel
theorem dX4_year_80 : decode cX4_year 80 = .ok (.pop, 1) := by decide +kernel
theorem dX4_year_81 : decode cX4_year 81 = .ok (.aload_n 3, 1) := by decide +kernel
theorem dX4_year_82 : decode cX4_year 82 = .ok (.getfield 147, 3) := by decide +kernel
theorem dX4_year_85 : decode cX4_year 85 = .ok (.ireturn, 1) := by decide +kernel
theorem dX4_push_0 : decode cX4_push 0 = .ok (.aload_n 0, 1) := by decide +kernel
theorem dX4_push_1 : decode cX4_push 1 = .ok (.getfield 17, 3) := by decide +kernel
theorem dX4_push_4 : decode cX4_push 4 = .ok (.aload_n 1, 1) := by decide +kernel
theorem dX4_push_5 : decode cX4_push 5 = .ok (.invokevirtual 155, 3) := by decide +kernel
theorem dX4_push_8 : decode cX4_push 8 = .ok (.pop, 1) := by decide +kernel
theorem dX4_push_9 : decode cX4_push 9 = .ok (.aload_n 0, 1) := by decide +kernel
theorem dX4_push_10 : decode cX4_push 10 = .ok (.getfield 17, 3) := by decide +kernel
theorem dX4_push_13 : decode cX4_push 13 = .ok (.invokevirtual 60, 3) := by decide +kernel
theorem dX4_push_16 : decode cX4_push 16 = .ok (.ireturn, 1) := by decide +kernel
theorem dX4_canGrow_0 : decode cX4_canGrow 0 = .ok (.aload_n 0, 1) := by decide +kernel
theorem dX4_canGrow_1 : decode cX4_canGrow 1 = .ok (.getfield 147, 3) := by decide +kernel
theorem dX4_canGrow_4 : decode cX4_canGrow 4 = .ok (.bipush 6, 2) := by decide +kernel
theorem dX4_canGrow_6 : decode cX4_canGrow 6 = .ok (.if_icmp .ge 7, 3) := by decide +kernel
theorem dX4_canGrow_9 : decode cX4_canGrow 9 = .ok (.iconst 1, 1) := by decide +kernel
theorem dX4_canGrow_10 : decode cX4_canGrow 10 = .ok (.goto 4, 3) := by decide +kernel
theorem dX4_canGrow_13 : decode cX4_canGrow 13 = .ok (.iconst 0, 1) := by decide +kernel
theorem dX4_canGrow_14 : decode cX4_canGrow 14 = .ok (.ireturn, 1) := by decide +kernel
theorem dX4_numbered_0 : decode cX4_numbered 0 = .ok (.new 159, 3) := by decide +kernel
theorem dX4_numbered_3 : decode cX4_numbered 3 = .ok (.dup, 1) := by decide +kernel
theorem dX4_numbered_4 : decode cX4_numbered 4 = .ok (.invokespecial 161, 3) := by decide +kernel
theorem dX4_numbered_7 : decode cX4_numbered 7 = .ok (.astore_n 2, 1) := by decide +kernel
theorem dX4_numbered_8 : decode cX4_numbered 8 = .ok (.aload_n 2, 1) := by decide +kernel
theorem dX4_numbered_9 : decode cX4_numbered 9 = .ok (.aload_n 0, 1) := by decide +kernel
theorem dX4_numbered_10 : decode cX4_numbered 10 = .ok (.invokevirtual 162, 3) := by decide +kernel
theorem dX4_numbered_13 : decode cX4_numbered 13 = .ok (.iload_n 1, 1) := by decide +kernel
theorem dX4_numbered_14 : decode cX4_numbered 14 = .ok (.invokevirtual 166, 3) := by decide +kernel
theorem dX4_numbered_17 : decode cX4_numbered 17 = .ok (.pop, 1) := by decide +kernel
theorem dX4_numbered_18 : decode cX4_numbered 18 = .ok (.aload_n 2, 1) := by decide +kernel
theorem dX4_numbered_19 : decode cX4_numbered 19 = .ok (.invokevirtual 169, 3) := by decide +kernel
theorem dX4_numbered_22 : decode cX4_numbered 22 = .ok (.areturn, 1) := by decide +kernel
theorem dX4_joinText_0 : decode cX4_joinText 0 = .ok (.new 159, 3) := by decide +kernel
theorem dX4_joinText_3 : decode cX4_joinText 3 = .ok (.dup, 1) := by decide +kernel
theorem dX4_joinText_4 : decode cX4_joinText 4 = .ok (.invokespecial 161, 3) := by decide +kernel
theorem dX4_joinText_7 : decode cX4_joinText 7 = .ok (.astore_n 3, 1) := by decide +kernel
theorem dX4_joinText_8 : decode cX4_joinText 8 = .ok (.iload_n 0, 1) := by decide +kernel
theorem dX4_joinText_9 : decode cX4_joinText 9 = .ok (.iconst 2, 1) := by decide +kernel
theorem dX4_joinText_10 : decode cX4_joinText 10 = .ok (.if_icmp .ne 13, 3) := by decide +kernel
theorem dX4_joinText_13 : decode cX4_joinText 13 = .ok (.aload_n 3, 1) := by decide +kernel
theorem dX4_joinText_14 : decode cX4_joinText 14 = .ok (.ldc 173, 2) := by decide +kernel
theorem dX4_joinText_16 : decode cX4_joinText 16 = .ok (.invokevirtual 162, 3) := by decide +kernel
theorem dX4_joinText_19 : decode cX4_joinText 19 = .ok (.pop, 1) := by decide +kernel
theorem dX4_joinText_20 : decode cX4_joinText 20 = .ok (.goto 15, 3) := by decide +kernel
theorem dX4_joinText_23 : decode cX4_joinText 23 = .ok (.iload_n 0, 1) := by decide +kernel
theorem dX4_joinText_24 : decode cX4_joinText 24 = .ok (.iconst 3, 1) := by decide +kernel
theorem dX4_joinText_25 : decode cX4_joinText 25 = .ok (.if_icmp .ne 10, 3) := by decide +kernel
theorem dX4_joinText_28 : decode cX4_joinText 28 = .ok (.aload_n 3, 1) := by decide +kernel
theorem dX4_joinText_29 : decode cX4_joinText 29 = .ok (.ldc 175, 2) := by decide +kernel
theorem dX4_joinText_31 : decode cX4_joinText 31 = .ok (.invokevirtual 162, 3) := by decide +kernel
theorem dX4_joinText_34 : decode cX4_joinText 34 = .ok (.pop, 1) := by decide +kernel
theorem dX4_joinText_35 : decode cX4_joinText 35 = .ok (.aload_n 3, 1) := by decide +kernel
theorem dX4_joinText_36 : decode cX4_joinText 36 = .ok (.bipush 40, 2) := by decide +kernel
theorem dX4_joinText_38 : decode cX4_joinText 38 = .ok (.invokevirtual 177, 3) := by decide +kernel
theorem dX4_joinText_41 : decode cX4_joinText 41 = .ok (.aload_n 1, 1) := by decide +kernel
theorem dX4_joinText_42 : decode cX4_joinText 42 = .ok (.invokevirtual 162, 3) := by decide +kernel
theorem dX4_joinText_45 : decode cX4_joinText 45 = .ok (.pop, 1) := by decide +kernel
theorem dX4_joinText_46 : decode cX4_joinText 46 = .ok (.iload_n 0, 1) := by decide +kernel
theorem dX4_joinText_47 : decode cX4_joinText 47 = .ok (.ifCond .ne 13, 3) := by decide +kernel
theorem dX4_joinText_50 : decode cX4_joinText 50 = .ok (.aload_n 3, 1) := by decide +kernel
theorem dX4_joinText_51 : decode cX4_joinText 51 = .ok (.ldc 180, 2) := by decide +kernel
theorem dX4_joinText_53 : decode cX4_joinText 53 = .ok (.invokevirtual 162, 3) := by decide +kernel
theorem dX4_joinText_56 : decode cX4_joinText 56 = .ok (.pop, 1) := by decide +kernel
theorem dX4_joinText_57 : decode cX4_joinText 57 = .ok (.goto 25, 3) := by decide +kernel
theorem dX4_joinText_60 : decode cX4_joinText 60 = .ok (.iload_n 0, 1) := by decide +kernel
theorem dX4_joinText_61 : decode cX4_joinText 61 = .ok (.iconst 1, 1) := by decide +kernel
theorem dX4_joinText_62 : decode cX4_joinText 62 = .ok (.if_icmp .ne 13, 3) := by decide +kernel
theorem dX4_joinText_65 : decode cX4_joinText 65 = .ok (.aload_n 3, 1) := by decide +kernel
theorem dX4_joinText_66 : decode cX4_joinText 66 = .ok (.ldc 182, 2) := by decide +kernel
theorem dX4_joinText_68 : decode cX4_joinText 68 = .ok (.invokevirtual 162, 3) := by decide +kernel
theorem dX4_joinText_71 : decode cX4_joinText 71 = .ok (.pop, 1) := by decide +kernel
theorem dX4_joinText_72 : decode cX4_joinText 72 = .ok (.goto 10, 3) := by decide +kernel
theorem dX4_joinText_75 : decode cX4_joinText 75 = .ok (.aload_n 3, 1) := by decide +kernel
theorem dX4_joinText_76 : decode cX4_joinText 76 = .ok (.ldc 184, 2) := by decide +kernel
theorem dX4_joinText_78 : decode cX4_joinText 78 = .ok (.invokevirtual 162, 3) := by decide +kernel
theorem dX4_joinText_81 : decode cX4_joinText 81 = .ok (.pop, 1) := by decide +kernel
theorem dX4_joinText_82 : decode cX4_joinText 82 = .ok (.aload_n 3, 1) := by decide +kernel
theorem dX4_joinText_83 : decode cX4_joinText 83 = .ok (.aload_n 2, 1) := by decide +kernel
theorem dX4_joinText_84 : decode cX4_joinText 84 = .ok (.invokevirtual 162, 3) := by decide +kernel
theorem dX4_joinText_87 : decode cX4_joinText 87 = .ok (.bipush 41, 2) := by decide +kernel
theorem dX4_joinText_89 : decode cX4_joinText 89 = .ok (.invokevirtual 177, 3) := by decide +kernel
theorem dX4_joinText_92 : decode cX4_joinText 92 = .ok (.pop, 1) := by decide +kernel
theorem dX4_joinText_93 : decode cX4_joinText 93 = .ok (.aload_n 3, 1) := by decide +kernel
theorem dX4_joinText_94 : decode cX4_joinText 94 = .ok (.invokevirtual 169, 3) := by decide +kernel
theorem dX4_joinText_97 : decode cX4_joinText 97 = .ok (.areturn, 1) := by decide +kernel
theorem dX4_shareText_0 : decode cX4_shareText 0 = .ok (.new 159, 3) := by decide +kernel
theorem dX4_shareText_3 : decode cX4_shareText 3 = .ok (.dup, 1) := by decide +kernel
theorem dX4_shareText_4 : decode cX4_shareText 4 = .ok (.invokespecial 161, 3) := by decide +kernel
theorem dX4_shareText_7 : decode cX4_shareText 7 = .ok (.astore_n 2, 1) := by decide +kernel
theorem dX4_shareText_8 : decode cX4_shareText 8 = .ok (.aload_n 2, 1) := by decide +kernel
theorem dX4_shareText_9 : decode cX4_shareText 9 = .ok (.iload_n 0, 1) := by decide +kernel
theorem dX4_shareText_10 : decode cX4_shareText 10 = .ok (.invokevirtual 166, 3) := by decide +kernel
theorem dX4_shareText_13 : decode cX4_shareText 13 = .ok (.ldc 186, 2) := by decide +kernel
theorem dX4_shareText_15 : decode cX4_shareText 15 = .ok (.invokevirtual 162, 3) := by decide +kernel
theorem dX4_shareText_18 : decode cX4_shareText 18 = .ok (.aload_n 1, 1) := by decide +kernel
theorem dX4_shareText_19 : decode cX4_shareText 19 = .ok (.invokevirtual 162, 3) := by decide +kernel
theorem dX4_shareText_22 : decode cX4_shareText 22 = .ok (.pop, 1) := by decide +kernel
theorem dX4_shareText_23 : decode cX4_shareText 23 = .ok (.aload_n 2, 1) := by decide +kernel
theorem dX4_shareText_24 : decode cX4_shareText 24 = .ok (.invokevirtual 169, 3) := by decide +kernel
theorem dX4_shareText_27 : decode cX4_shareText 27 = .ok (.areturn, 1) := by decide +kernel
theorem dX4_yearText_0 : decode cX4_yearText 0 = .ok (.new 159, 3) := by decide +kernel
theorem dX4_yearText_3 : decode cX4_yearText 3 = .ok (.dup, 1) := by decide +kernel
theorem dX4_yearText_4 : decode cX4_yearText 4 = .ok (.invokespecial 161, 3) := by decide +kernel
theorem dX4_yearText_7 : decode cX4_yearText 7 = .ok (.astore_n 1, 1) := by decide +kernel
theorem dX4_yearText_8 : decode cX4_yearText 8 = .ok (.aload_n 1, 1) := by decide +kernel
theorem dX4_yearText_9 : decode cX4_yearText 9 = .ok (.ldc 188, 2) := by decide +kernel
theorem dX4_yearText_11 : decode cX4_yearText 11 = .ok (.invokevirtual 162, 3) := by decide +kernel
theorem dX4_yearText_14 : decode cX4_yearText 14 = .ok (.aload_n 0, 1) := by decide +kernel
theorem dX4_yearText_15 : decode cX4_yearText 15 = .ok (.invokevirtual 162, 3) := by decide +kernel
theorem dX4_yearText_18 : decode cX4_yearText 18 = .ok (.bipush 41, 2) := by decide +kernel
theorem dX4_yearText_20 : decode cX4_yearText 20 = .ok (.invokevirtual 177, 3) := by decide +kernel
theorem dX4_yearText_23 : decode cX4_yearText 23 = .ok (.pop, 1) := by decide +kernel
theorem dX4_yearText_24 : decode cX4_yearText 24 = .ok (.aload_n 1, 1) := by decide +kernel
theorem dX4_yearText_25 : decode cX4_yearText 25 = .ok (.invokevirtual 169, 3) := by decide +kernel
theorem dX4_yearText_28 : decode cX4_yearText 28 = .ok (.areturn, 1) := by decide +kernel
theorem dX4_define_0 : decode cX4_define 0 = .ok (.aload_n 0, 1) := by decide +kernel
theorem dX4_define_1 : decode cX4_define 1 = .ok (.getfield 17, 3) := by decide +kernel
theorem dX4_define_4 : decode cX4_define 4 = .ok (.invokevirtual 60, 3) := by decide +kernel
theorem dX4_define_7 : decode cX4_define 7 = .ok (.istore_n 1, 1) := by decide +kernel
theorem dX4_define_8 : decode cX4_define 8 = .ok (.iload_n 1, 1) := by decide +kernel
theorem dX4_define_9 : decode cX4_define 9 = .ok (.ifCond .eq 15, 3) := by decide +kernel
theorem dX4_define_12 : decode cX4_define 12 = .ok (.aload_n 0, 1) := by decide +kernel
theorem dX4_define_13 : decode cX4_define 13 = .ok (.getfield 21, 3) := by decide +kernel
theorem dX4_define_16 : decode cX4_define 16 = .ok (.invokevirtual 60, 3) := by decide +kernel
theorem dX4_define_19 : decode cX4_define 19 = .ok (.bipush 10, 2) := by decide +kernel
theorem dX4_define_21 : decode cX4_define 21 = .ok (.if_icmp .lt 13, 3) := by decide +kernel
theorem dX4_define_24 : decode cX4_define 24 = .ok (.new 64, 3) := by decide +kernel
theorem dX4_define_27 : decode cX4_define 27 = .ok (.dup, 1) := by decide +kernel
theorem dX4_define_28 : decode cX4_define 28 = .ok (.ldc 190, 2) := by decide +kernel
theorem dX4_define_30 : decode cX4_define 30 = .ok (.invokespecial 68, 3) := by decide +kernel
theorem dX4_define_33 : decode cX4_define 33 = .ok (.athrow, 1) := by decide +kernel
theorem dX4_define_34 : decode cX4_define 34 = .ok (.aload_n 0, 1) := by decide +kernel
theorem dX4_define_35 : decode cX4_define 35 = .ok (.getfield 17, 3) := by decide +kernel
theorem dX4_define_38 : decode cX4_define 38 = .ok (.iload_n 1, 1) := by decide +kernel
theorem dX4_define_39 : decode cX4_define 39 = .ok (.iconst 1, 1) := by decide +kernel
theorem dX4_define_40 : decode cX4_define 40 = .ok (.isub, 1) := by decide +kernel
theorem dX4_define_41 : decode cX4_define 41 = .ok (.invokevirtual 125, 3) := by decide +kernel
theorem dX4_define_44 : decode cX4_define 44 = .ok (.checkcast 69, 3) := by decide +kernel
theorem dX4_define_47 : decode cX4_define 47 = .ok (.astore_n 2, 1) := by decide +kernel
theorem dX4_define_48 : decode cX4_define 48 = .ok (.aload_n 0, 1) := by decide +kernel
theorem dX4_define_49 : decode cX4_define 49 = .ok (.getfield 21, 3) := by decide +kernel
theorem dX4_define_52 : decode cX4_define 52 = .ok (.new 103, 3) := by decide +kernel
theorem dX4_define_55 : decode cX4_define 55 = .ok (.dup, 1) := by decide +kernel
theorem dX4_define_56 : decode cX4_define 56 = .ok (.aload_n 2, 1) := by decide +kernel
theorem dX4_define_57 : decode cX4_define 57 = .ok (.invokespecial 192, 3) := by decide +kernel
theorem dX4_define_60 : decode cX4_define 60 = .ok (.invokevirtual 155, 3) := by decide +kernel
theorem dX4_define_63 : decode cX4_define 63 = .ok (.pop, 1) := by decide +kernel
theorem dX4_define_64 : decode cX4_define 64 = .ok (.aload_n 0, 1) := by decide +kernel
theorem dX4_define_65 : decode cX4_define 65 = .ok (.invokevirtual 55, 3) := by decide +kernel
theorem dX4_define_68 : decode cX4_define 68 = .ok (.aload_n 0, 1) := by decide +kernel
theorem dX4_define_69 : decode cX4_define 69 = .ok (.getfield 21, 3) := by decide +kernel
theorem dX4_define_72 : decode cX4_define 72 = .ok (.invokevirtual 60, 3) := by decide +kernel
theorem dX4_define_75 : decode cX4_define 75 = .ok (.iconst 1, 1) := by decide +kernel
theorem dX4_define_76 : decode cX4_define 76 = .ok (.isub, 1) := by decide +kernel
theorem dX4_define_77 : decode cX4_define 77 = .ok (.ireturn, 1) := by decide +kernel
theorem dX4_amend_0 : decode cX4_amend 0 = .ok (.aload_n 0, 1) := by decide +kernel
theorem dX4_amend_1 : decode cX4_amend 1 = .ok (.iload_n 1, 1) := by decide +kernel
theorem dX4_amend_2 : decode cX4_amend 2 = .ok (.invokevirtual 94, 3) := by decide +kernel
theorem dX4_amend_5 : decode cX4_amend 5 = .ok (.ifCond .eq 10, 3) := by decide +kernel
theorem dX4_amend_8 : decode cX4_amend 8 = .ok (.iload_n 2, 1) := by decide +kernel
theorem dX4_amend_9 : decode cX4_amend 9 = .ok (.invokestatic 34, 3) := by decide +kernel
theorem dX4_amend_12 : decode cX4_amend 12 = .ok (.ifCond .ne 13, 3) := by decide +kernel
theorem dX4_amend_15 : decode cX4_amend 15 = .ok (.new 37, 3) := by decide +kernel
theorem dX4_amend_18 : decode cX4_amend 18 = .ok (.dup, 1) := by decide +kernel
theorem dX4_amend_19 : decode cX4_amend 19 = .ok (.ldc 195, 2) := by decide +kernel
theorem dX4_amend_21 : decode cX4_amend 21 = .ok (.invokespecial 41, 3) := by decide +kernel
theorem dX4_amend_24 : decode cX4_amend 24 = .ok (.athrow, 1) := by decide +kernel
theorem dX4_amend_25 : decode cX4_amend 25 = .ok (.aload_n 0, 1) := by decide +kernel
theorem dX4_amend_26 : decode cX4_amend 26 = .ok (.getfield 17, 3) := by decide +kernel
theorem dX4_amend_29 : decode cX4_amend 29 = .ok (.invokevirtual 60, 3) := by decide +kernel
theorem dX4_amend_32 : decode cX4_amend 32 = .ok (.istore_n 3, 1) := by decide +kernel
theorem dX4_amend_33 : decode cX4_amend 33 = .ok (.aload_n 0, 1) := by decide +kernel
theorem dX4_amend_34 : decode cX4_amend 34 = .ok (.getfield 21, 3) := by decide +kernel
theorem dX4_amend_37 : decode cX4_amend 37 = .ok (.iload_n 1, 1) := by decide +kernel
theorem dX4_amend_38 : decode cX4_amend 38 = .ok (.invokevirtual 99, 3) := by decide +kernel
theorem dX4_amend_41 : decode cX4_amend 41 = .ok (.checkcast 103, 3) := by decide +kernel
theorem dX4_amend_44 : decode cX4_amend 44 = .ok (.astore 4, 2) := by decide +kernel
theorem dX4_amend_46 : decode cX4_amend 46 = .ok (.iload_n 3, 1) := by decide +kernel
theorem dX4_amend_47 : decode cX4_amend 47 = .ok (.ifCond .eq 25, 3) := by decide +kernel
theorem dX4_amend_50 : decode cX4_amend 50 = .ok (.aload 4, 2) := by decide +kernel
theorem dX4_amend_52 : decode cX4_amend 52 = .ok (.iload_n 1, 1) := by decide +kernel
theorem dX4_amend_53 : decode cX4_amend 53 = .ok (.aload_n 0, 1) := by decide +kernel
theorem dX4_amend_54 : decode cX4_amend 54 = .ok (.getfield 17, 3) := by decide +kernel
theorem dX4_amend_57 : decode cX4_amend 57 = .ok (.iload_n 3, 1) := by decide +kernel
theorem dX4_amend_58 : decode cX4_amend 58 = .ok (.iconst 1, 1) := by decide +kernel
theorem dX4_amend_59 : decode cX4_amend 59 = .ok (.isub, 1) := by decide +kernel
theorem dX4_amend_60 : decode cX4_amend 60 = .ok (.invokevirtual 99, 3) := by decide +kernel
theorem dX4_amend_63 : decode cX4_amend 63 = .ok (.checkcast 69, 3) := by decide +kernel
theorem dX4_amend_66 : decode cX4_amend 66 = .ok (.invokestatic 197, 3) := by decide +kernel
theorem dX4_amend_69 : decode cX4_amend 69 = .ok (.ifCond .ne 13, 3) := by decide +kernel
theorem dX4_amend_72 : decode cX4_amend 72 = .ok (.new 64, 3) := by decide +kernel
theorem dX4_amend_75 : decode cX4_amend 75 = .ok (.dup, 1) := by decide +kernel
theorem dX4_amend_76 : decode cX4_amend 76 = .ok (.ldc 201, 2) := by decide +kernel
theorem dX4_amend_78 : decode cX4_amend 78 = .ok (.invokespecial 68, 3) := by decide +kernel
theorem dX4_amend_81 : decode cX4_amend 81 = .ok (.athrow, 1) := by decide +kernel
theorem dX4_amend_82 : decode cX4_amend 82 = .ok (.aload_n 0, 1) := by decide +kernel
theorem dX4_amend_83 : decode cX4_amend 83 = .ok (.getfield 17, 3) := by decide +kernel
theorem dX4_amend_86 : decode cX4_amend 86 = .ok (.iload_n 3, 1) := by decide +kernel
theorem dX4_amend_87 : decode cX4_amend 87 = .ok (.iconst 1, 1) := by decide +kernel
theorem dX4_amend_88 : decode cX4_amend 88 = .ok (.isub, 1) := by decide +kernel
theorem dX4_amend_89 : decode cX4_amend 89 = .ok (.invokevirtual 125, 3) := by decide +kernel
theorem dX4_amend_92 : decode cX4_amend 92 = .ok (.checkcast 69, 3) := by decide +kernel
theorem dX4_amend_95 : decode cX4_amend 95 = .ok (.astore 5, 2) := by decide +kernel
theorem dX4_amend_97 : decode cX4_amend 97 = .ok (.aload 4, 2) := by decide +kernel
theorem dX4_amend_99 : decode cX4_amend 99 = .ok (.getfield 203, 3) := by decide +kernel
theorem dX4_amend_102 : decode cX4_amend 102 = .ok (.iload_n 2, 1) := by decide +kernel
theorem dX4_amend_103 : decode cX4_amend 103 = .ok (.aaload, 1) := by decide +kernel
theorem dX4_amend_104 : decode cX4_amend 104 = .ok (.ifnonnull 14, 3) := by decide +kernel
theorem dX4_amend_107 : decode cX4_amend 107 = .ok (.aload 4, 2) := by decide +kernel
theorem dX4_amend_109 : decode cX4_amend 109 = .ok (.dup, 1) := by decide +kernel
theorem dX4_amend_110 : decode cX4_amend 110 = .ok (.getfield 207, 3) := by decide +kernel
theorem dX4_amend_113 : decode cX4_amend 113 = .ok (.iconst 1, 1) := by decide +kernel
theorem dX4_amend_114 : decode cX4_amend 114 = .ok (.iadd, 1) := by decide +kernel
theorem dX4_amend_115 : decode cX4_amend 115 = .ok (.putfield 207, 3) := by decide +kernel
theorem dX4_amend_118 : decode cX4_amend 118 = .ok (.aload 4, 2) := by decide +kernel
theorem dX4_amend_120 : decode cX4_amend 120 = .ok (.getfield 203, 3) := by decide +kernel
theorem dX4_amend_123 : decode cX4_amend 123 = .ok (.iload_n 2, 1) := by decide +kernel
theorem dX4_amend_124 : decode cX4_amend 124 = .ok (.aload 5, 2) := by decide +kernel
theorem dX4_amend_126 : decode cX4_amend 126 = .ok (.aastore, 1) := by decide +kernel
theorem dX4_amend_127 : decode cX4_amend 127 = .ok (.aload_n 0, 1) := by decide +kernel
theorem dX4_amend_128 : decode cX4_amend 128 = .ok (.invokevirtual 55, 3) := by decide +kernel
theorem dX4_amend_131 : decode cX4_amend 131 = .ok (.aload 4, 2) := by decide +kernel
theorem dX4_amend_133 : decode cX4_amend 133 = .ok (.getfield 207, 3) := by decide +kernel
theorem dX4_amend_136 : decode cX4_amend 136 = .ok (.ireturn, 1) := by decide +kernel
theorem dX4_terms_0 : decode cX4_terms 0 = .ok (.aload_n 0, 1) := by decide +kernel
theorem dX4_terms_1 : decode cX4_terms 1 = .ok (.getfield 21, 3) := by decide +kernel
theorem dX4_terms_4 : decode cX4_terms 4 = .ok (.invokevirtual 60, 3) := by decide +kernel
theorem dX4_terms_7 : decode cX4_terms 7 = .ok (.ireturn, 1) := by decide +kernel
theorem dX4_level_0 : decode cX4_level 0 = .ok (.aload_n 0, 1) := by decide +kernel
theorem dX4_level_1 : decode cX4_level 1 = .ok (.iload_n 1, 1) := by decide +kernel
theorem dX4_level_2 : decode cX4_level 2 = .ok (.invokevirtual 94, 3) := by decide +kernel
theorem dX4_level_5 : decode cX4_level 5 = .ok (.ifCond .ne 13, 3) := by decide +kernel
theorem dX4_level_8 : decode cX4_level 8 = .ok (.new 37, 3) := by decide +kernel
theorem dX4_level_11 : decode cX4_level 11 = .ok (.dup, 1) := by decide +kernel
theorem dX4_level_12 : decode cX4_level 12 = .ok (.ldc 97, 2) := by decide +kernel
theorem dX4_level_14 : decode cX4_level 14 = .ok (.invokespecial 41, 3) := by decide +kernel
theorem dX4_level_17 : decode cX4_level 17 = .ok (.athrow, 1) := by decide +kernel
theorem dX4_level_18 : decode cX4_level 18 = .ok (.aload_n 0, 1) := by decide +kernel
theorem dX4_level_19 : decode cX4_level 19 = .ok (.getfield 21, 3) := by decide +kernel
theorem dX4_level_22 : decode cX4_level 22 = .ok (.iload_n 1, 1) := by decide +kernel
theorem dX4_level_23 : decode cX4_level 23 = .ok (.invokevirtual 99, 3) := by decide +kernel
theorem dX4_level_26 : decode cX4_level 26 = .ok (.checkcast 103, 3) := by decide +kernel
theorem dX4_level_29 : decode cX4_level 29 = .ok (.getfield 105, 3) := by decide +kernel
theorem dX4_level_32 : decode cX4_level 32 = .ok (.ireturn, 1) := by decide +kernel
theorem dX4_value_0 : decode cX4_value 0 = .ok (.aload_n 0, 1) := by decide +kernel
theorem dX4_value_1 : decode cX4_value 1 = .ok (.iload_n 1, 1) := by decide +kernel
theorem dX4_value_2 : decode cX4_value 2 = .ok (.invokevirtual 94, 3) := by decide +kernel
theorem dX4_value_5 : decode cX4_value 5 = .ok (.ifCond .eq 10, 3) := by decide +kernel
theorem dX4_value_8 : decode cX4_value 8 = .ok (.iload_n 2, 1) := by decide +kernel
theorem dX4_value_9 : decode cX4_value 9 = .ok (.invokestatic 34, 3) := by decide +kernel
theorem dX4_value_12 : decode cX4_value 12 = .ok (.ifCond .ne 13, 3) := by decide +kernel
theorem dX4_value_15 : decode cX4_value 15 = .ok (.new 37, 3) := by decide +kernel
theorem dX4_value_18 : decode cX4_value 18 = .ok (.dup, 1) := by decide +kernel
theorem dX4_value_19 : decode cX4_value 19 = .ok (.ldc 195, 2) := by decide +kernel
theorem dX4_value_21 : decode cX4_value 21 = .ok (.invokespecial 41, 3) := by decide +kernel
theorem dX4_value_24 : decode cX4_value 24 = .ok (.athrow, 1) := by decide +kernel
theorem dX4_value_25 : decode cX4_value 25 = .ok (.aload_n 0, 1) := by decide +kernel
theorem dX4_value_26 : decode cX4_value 26 = .ok (.getfield 21, 3) := by decide +kernel
theorem dX4_value_29 : decode cX4_value 29 = .ok (.iload_n 1, 1) := by decide +kernel
theorem dX4_value_30 : decode cX4_value 30 = .ok (.invokevirtual 99, 3) := by decide +kernel
theorem dX4_value_33 : decode cX4_value 33 = .ok (.checkcast 103, 3) := by decide +kernel
theorem dX4_value_36 : decode cX4_value 36 = .ok (.getfield 113, 3) := by decide +kernel
theorem dX4_value_39 : decode cX4_value 39 = .ok (.iload_n 2, 1) := by decide +kernel
theorem dX4_value_40 : decode cX4_value 40 = .ok (.laload, 1) := by decide +kernel
theorem dX4_value_41 : decode cX4_value 41 = .ok (.lreturn, 1) := by decide +kernel
theorem dX4_textLength_0 : decode cX4_textLength 0 = .ok (.aload_n 0, 1) := by decide +kernel
theorem dX4_textLength_1 : decode cX4_textLength 1 = .ok (.iload_n 1, 1) := by decide +kernel
theorem dX4_textLength_2 : decode cX4_textLength 2 = .ok (.invokevirtual 94, 3) := by decide +kernel
theorem dX4_textLength_5 : decode cX4_textLength 5 = .ok (.ifCond .eq 10, 3) := by decide +kernel
theorem dX4_textLength_8 : decode cX4_textLength 8 = .ok (.iload_n 2, 1) := by decide +kernel
theorem dX4_textLength_9 : decode cX4_textLength 9 = .ok (.invokestatic 34, 3) := by decide +kernel
theorem dX4_textLength_12 : decode cX4_textLength 12 = .ok (.ifCond .ne 13, 3) := by decide +kernel
theorem dX4_textLength_15 : decode cX4_textLength 15 = .ok (.new 37, 3) := by decide +kernel
theorem dX4_textLength_18 : decode cX4_textLength 18 = .ok (.dup, 1) := by decide +kernel
theorem dX4_textLength_19 : decode cX4_textLength 19 = .ok (.ldc 195, 2) := by decide +kernel
theorem dX4_textLength_21 : decode cX4_textLength 21 = .ok (.invokespecial 41, 3) := by decide +kernel
theorem dX4_textLength_24 : decode cX4_textLength 24 = .ok (.athrow, 1) := by decide +kernel
theorem dX4_textLength_25 : decode cX4_textLength 25 = .ok (.aload_n 0, 1) := by decide +kernel
theorem dX4_textLength_26 : decode cX4_textLength 26 = .ok (.getfield 21, 3) := by decide +kernel
theorem dX4_textLength_29 : decode cX4_textLength 29 = .ok (.iload_n 1, 1) := by decide +kernel
theorem dX4_textLength_30 : decode cX4_textLength 30 = .ok (.invokevirtual 99, 3) := by decide +kernel
theorem dX4_textLength_33 : decode cX4_textLength 33 = .ok (.checkcast 103, 3) := by decide +kernel
theorem dX4_textLength_36 : decode cX4_textLength 36 = .ok (.iload_n 2, 1) := by decide +kernel
theorem dX4_textLength_37 : decode cX4_textLength 37 = .ok (.invokestatic 210, 3) := by decide +kernel
theorem dX4_textLength_40 : decode cX4_textLength 40 = .ok (.invokevirtual 214, 3) := by decide +kernel
theorem dX4_textLength_43 : decode cX4_textLength 43 = .ok (.ireturn, 1) := by decide +kernel
theorem dX4_textChar_0 : decode cX4_textChar 0 = .ok (.aload_n 0, 1) := by decide +kernel
theorem dX4_textChar_1 : decode cX4_textChar 1 = .ok (.iload_n 1, 1) := by decide +kernel
theorem dX4_textChar_2 : decode cX4_textChar 2 = .ok (.invokevirtual 94, 3) := by decide +kernel
theorem dX4_textChar_5 : decode cX4_textChar 5 = .ok (.ifCond .eq 10, 3) := by decide +kernel
theorem dX4_textChar_8 : decode cX4_textChar 8 = .ok (.iload_n 2, 1) := by decide +kernel
theorem dX4_textChar_9 : decode cX4_textChar 9 = .ok (.invokestatic 34, 3) := by decide +kernel
theorem dX4_textChar_12 : decode cX4_textChar 12 = .ok (.ifCond .ne 13, 3) := by decide +kernel
theorem dX4_textChar_15 : decode cX4_textChar 15 = .ok (.new 37, 3) := by decide +kernel
theorem dX4_textChar_18 : decode cX4_textChar 18 = .ok (.dup, 1) := by decide +kernel
theorem dX4_textChar_19 : decode cX4_textChar 19 = .ok (.ldc 195, 2) := by decide +kernel
theorem dX4_textChar_21 : decode cX4_textChar 21 = .ok (.invokespecial 41, 3) := by decide +kernel
theorem dX4_textChar_24 : decode cX4_textChar 24 = .ok (.athrow, 1) := by decide +kernel
theorem dX4_textChar_25 : decode cX4_textChar 25 = .ok (.aload_n 0, 1) := by decide +kernel
theorem dX4_textChar_26 : decode cX4_textChar 26 = .ok (.getfield 21, 3) := by decide +kernel
theorem dX4_textChar_29 : decode cX4_textChar 29 = .ok (.iload_n 1, 1) := by decide +kernel
theorem dX4_textChar_30 : decode cX4_textChar 30 = .ok (.invokevirtual 99, 3) := by decide +kernel
theorem dX4_textChar_33 : decode cX4_textChar 33 = .ok (.checkcast 103, 3) := by decide +kernel
theorem dX4_textChar_36 : decode cX4_textChar 36 = .ok (.iload_n 2, 1) := by decide +kernel
theorem dX4_textChar_37 : decode cX4_textChar 37 = .ok (.invokestatic 210, 3) := by decide +kernel
theorem dX4_textChar_40 : decode cX4_textChar 40 = .ok (.astore 4, 2) := by decide +kernel
theorem dX4_textChar_42 : decode cX4_textChar 42 = .ok (.iload_n 3, 1) := by decide +kernel
theorem dX4_textChar_43 : decode cX4_textChar 43 = .ok (.ifCond .lt 12, 3) := by decide +kernel
theorem dX4_textChar_46 : decode cX4_textChar 46 = .ok (.iload_n 3, 1) := by decide +kernel
theorem dX4_textChar_47 : decode cX4_textChar 47 = .ok (.aload 4, 2) := by decide +kernel
theorem dX4_textChar_49 : decode cX4_textChar 49 = .ok (.invokevirtual 214, 3) := by decide +kernel
theorem dX4_textChar_52 : decode cX4_textChar 52 = .ok (.if_icmp .lt 13, 3) := by decide +kernel
theorem dX4_textChar_55 : decode cX4_textChar 55 = .ok (.new 37, 3) := by decide +kernel
theorem dX4_textChar_58 : decode cX4_textChar 58 = .ok (.dup, 1) := by decide +kernel
theorem dX4_textChar_59 : decode cX4_textChar 59 = .ok (.ldc 219, 2) := by decide +kernel
theorem dX4_textChar_61 : decode cX4_textChar 61 = .ok (.invokespecial 41, 3) := by decide +kernel
theorem dX4_textChar_64 : decode cX4_textChar 64 = .ok (.athrow, 1) := by decide +kernel
theorem dX4_textChar_65 : decode cX4_textChar 65 = .ok (.aload 4, 2) := by decide +kernel
theorem dX4_textChar_67 : decode cX4_textChar 67 = .ok (.iload_n 3, 1) := by decide +kernel
theorem dX4_textChar_68 : decode cX4_textChar 68 = .ok (.invokevirtual 221, 3) := by decide +kernel
theorem dX4_textChar_71 : decode cX4_textChar 71 = .ok (.ireturn, 1) := by decide +kernel
theorem dX4_canAmend_0 : decode cX4_canAmend 0 = .ok (.aload_n 2, 1) := by decide +kernel
theorem dX4_canAmend_1 : decode cX4_canAmend 1 = .ok (.getfield 147, 3) := by decide +kernel
theorem dX4_canAmend_4 : decode cX4_canAmend 4 = .ok (.aload_n 0, 1) := by decide +kernel
theorem dX4_canAmend_5 : decode cX4_canAmend 5 = .ok (.getfield 105, 3) := by decide +kernel
theorem dX4_canAmend_8 : decode cX4_canAmend 8 = .ok (.if_icmp .gt 15, 3) := by decide +kernel
theorem dX4_canAmend_11 : decode cX4_canAmend 11 = .ok (.aload_n 2, 1) := by decide +kernel
theorem dX4_canAmend_12 : decode cX4_canAmend 12 = .ok (.getfield 225, 3) := by decide +kernel
theorem dX4_canAmend_15 : decode cX4_canAmend 15 = .ok (.iload_n 1, 1) := by decide +kernel
theorem dX4_canAmend_16 : decode cX4_canAmend 16 = .ok (.if_icmp .ge 7, 3) := by decide +kernel
theorem dX4_canAmend_19 : decode cX4_canAmend 19 = .ok (.iconst 1, 1) := by decide +kernel
theorem dX4_canAmend_20 : decode cX4_canAmend 20 = .ok (.goto 4, 3) := by decide +kernel
theorem dX4_canAmend_23 : decode cX4_canAmend 23 = .ok (.iconst 0, 1) := by decide +kernel
theorem dX4_canAmend_24 : decode cX4_canAmend 24 = .ok (.ireturn, 1) := by decide +kernel
theorem dX4_textIn_0 : decode cX4_textIn 0 = .ok (.iload_n 1, 1) := by decide +kernel
theorem dX4_textIn_1 : decode cX4_textIn 1 = .ok (.istore_n 2, 1) := by decide +kernel
theorem dX4_textIn_2 : decode cX4_textIn 2 = .ok (.iload_n 2, 1) := by decide +kernel
theorem dX4_textIn_3 : decode cX4_textIn 3 = .ok (.ifCond .lt 25, 3) := by decide +kernel
theorem dX4_textIn_6 : decode cX4_textIn 6 = .ok (.aload_n 0, 1) := by decide +kernel
theorem dX4_textIn_7 : decode cX4_textIn 7 = .ok (.getfield 203, 3) := by decide +kernel
theorem dX4_textIn_10 : decode cX4_textIn 10 = .ok (.iload_n 2, 1) := by decide +kernel
theorem dX4_textIn_11 : decode cX4_textIn 11 = .ok (.aaload, 1) := by decide +kernel
theorem dX4_textIn_12 : decode cX4_textIn 12 = .ok (.astore_n 3, 1) := by decide +kernel
theorem dX4_textIn_13 : decode cX4_textIn 13 = .ok (.aload_n 3, 1) := by decide +kernel
theorem dX4_textIn_14 : decode cX4_textIn 14 = .ok (.ifnull 8, 3) := by decide +kernel
theorem dX4_textIn_17 : decode cX4_textIn 17 = .ok (.aload_n 3, 1) := by decide +kernel
theorem dX4_textIn_18 : decode cX4_textIn 18 = .ok (.getfield 128, 3) := by decide +kernel
theorem dX4_textIn_21 : decode cX4_textIn 21 = .ok (.areturn, 1) := by decide +kernel
theorem dX4_textIn_22 : decode cX4_textIn 22 = .ok (.iinc 2 (-1), 3) := by decide +kernel
theorem dX4_textIn_25 : decode cX4_textIn 25 = .ok (.goto (-23), 3) := by decide +kernel
theorem dX4_textIn_28 : decode cX4_textIn 28 = .ok (.ldc 92, 2) := by decide +kernel
theorem dX4_textIn_30 : decode cX4_textIn 30 = .ok (.areturn, 1) := by decide +kernel
theorem dX4_settleTerms_0 : decode cX4_settleTerms 0 = .ok (.iconst 0, 1) := by decide +kernel
theorem dX4_settleTerms_1 : decode cX4_settleTerms 1 = .ok (.istore_n 1, 1) := by decide +kernel
theorem dX4_settleTerms_2 : decode cX4_settleTerms 2 = .ok (.iload_n 1, 1) := by decide +kernel
theorem dX4_settleTerms_3 : decode cX4_settleTerms 3 = .ok (.aload_n 0, 1) := by decide +kernel
theorem dX4_settleTerms_4 : decode cX4_settleTerms 4 = .ok (.getfield 21, 3) := by decide +kernel
theorem dX4_settleTerms_7 : decode cX4_settleTerms 7 = .ok (.invokevirtual 60, 3) := by decide +kernel
theorem dX4_settleTerms_10 : decode cX4_settleTerms 10 = .ok (.if_icmp .ge 23, 3) := by decide +kernel
theorem dX4_settleTerms_13 : decode cX4_settleTerms 13 = .ok (.aload_n 0, 1) := by decide +kernel
theorem dX4_settleTerms_14 : decode cX4_settleTerms 14 = .ok (.getfield 21, 3) := by decide +kernel
theorem dX4_settleTerms_17 : decode cX4_settleTerms 17 = .ok (.iload_n 1, 1) := by decide +kernel
theorem dX4_settleTerms_18 : decode cX4_settleTerms 18 = .ok (.invokevirtual 99, 3) := by decide +kernel
theorem dX4_settleTerms_21 : decode cX4_settleTerms 21 = .ok (.checkcast 103, 3) := by decide +kernel
theorem dX4_settleTerms_24 : decode cX4_settleTerms 24 = .ok (.invokestatic 228, 3) := by decide +kernel
theorem dX4_settleTerms_27 : decode cX4_settleTerms 27 = .ok (.iinc 1 1, 3) := by decide +kernel
theorem dX4_settleTerms_30 : decode cX4_settleTerms 30 = .ok (.goto (-28), 3) := by decide +kernel
theorem dX4_settleTerms_33 : decode cX4_settleTerms 33 = .ok (.return_, 1) := by decide +kernel
theorem dX4_settleTerm_0 : decode cX4_settleTerm 0 = .ok (.aconst_null, 1) := by decide +kernel
theorem dX4_settleTerm_1 : decode cX4_settleTerm 1 = .ok (.astore_n 1, 1) := by decide +kernel
theorem dX4_settleTerm_2 : decode cX4_settleTerm 2 = .ok (.iconst 0, 1) := by decide +kernel
theorem dX4_settleTerm_3 : decode cX4_settleTerm 3 = .ok (.istore_n 2, 1) := by decide +kernel
theorem dX4_settleTerm_4 : decode cX4_settleTerm 4 = .ok (.iload_n 2, 1) := by decide +kernel
theorem dX4_settleTerm_5 : decode cX4_settleTerm 5 = .ok (.bipush 20, 2) := by decide +kernel
theorem dX4_settleTerm_7 : decode cX4_settleTerm 7 = .ok (.if_icmp .ge 44, 3) := by decide +kernel
theorem dX4_settleTerm_10 : decode cX4_settleTerm 10 = .ok (.aload_n 0, 1) := by decide +kernel
theorem dX4_settleTerm_11 : decode cX4_settleTerm 11 = .ok (.getfield 203, 3) := by decide +kernel
theorem dX4_settleTerm_14 : decode cX4_settleTerm 14 = .ok (.iload_n 2, 1) := by decide +kernel
theorem dX4_settleTerm_15 : decode cX4_settleTerm 15 = .ok (.aaload, 1) := by decide +kernel
theorem dX4_settleTerm_16 : decode cX4_settleTerm 16 = .ok (.astore_n 3, 1) := by decide +kernel
theorem dX4_settleTerm_17 : decode cX4_settleTerm 17 = .ok (.aload_n 3, 1) := by decide +kernel
theorem dX4_settleTerm_18 : decode cX4_settleTerm 18 = .ok (.ifnull 11, 3) := by decide +kernel
theorem dX4_settleTerm_21 : decode cX4_settleTerm 21 = .ok (.aload_n 3, 1) := by decide +kernel
theorem dX4_settleTerm_22 : decode cX4_settleTerm 22 = .ok (.astore_n 1, 1) := by decide +kernel
theorem dX4_settleTerm_23 : decode cX4_settleTerm 23 = .ok (.aload_n 1, 1) := by decide +kernel
theorem dX4_settleTerm_24 : decode cX4_settleTerm 24 = .ok (.bipush 6, 2) := by decide +kernel
theorem dX4_settleTerm_26 : decode cX4_settleTerm 26 = .ok (.invokestatic 232, 3) := by decide +kernel
theorem dX4_settleTerm_29 : decode cX4_settleTerm 29 = .ok (.aload_n 1, 1) := by decide +kernel
theorem dX4_settleTerm_30 : decode cX4_settleTerm 30 = .ok (.ifnull 15, 3) := by decide +kernel
theorem dX4_settleTerm_33 : decode cX4_settleTerm 33 = .ok (.aload_n 0, 1) := by decide +kernel
theorem dX4_settleTerm_34 : decode cX4_settleTerm 34 = .ok (.getfield 113, 3) := by decide +kernel
theorem dX4_settleTerm_37 : decode cX4_settleTerm 37 = .ok (.iload_n 2, 1) := by decide +kernel
theorem dX4_settleTerm_38 : decode cX4_settleTerm 38 = .ok (.aload_n 1, 1) := by decide +kernel
theorem dX4_settleTerm_39 : decode cX4_settleTerm 39 = .ok (.getfield 236, 3) := by decide +kernel
theorem dX4_settleTerm_42 : decode cX4_settleTerm 42 = .ok (.iload_n 2, 1) := by decide +kernel
theorem dX4_settleTerm_43 : decode cX4_settleTerm 43 = .ok (.laload, 1) := by decide +kernel
theorem dX4_settleTerm_44 : decode cX4_settleTerm 44 = .ok (.lastore, 1) := by decide +kernel
theorem dX4_settleTerm_45 : decode cX4_settleTerm 45 = .ok (.iinc 2 1, 3) := by decide +kernel
theorem dX4_settleTerm_48 : decode cX4_settleTerm 48 = .ok (.goto (-44), 3) := by decide +kernel
theorem dX4_settleTerm_51 : decode cX4_settleTerm 51 = .ok (.return_, 1) := by decide +kernel
theorem dX4_settleFormula_0 : decode cX4_settleFormula 0 = .ok (.aload_n 0, 1) := by decide +kernel
theorem dX4_settleFormula_1 : decode cX4_settleFormula 1 = .ok (.ifnull 15, 3) := by decide +kernel
theorem dX4_settleFormula_4 : decode cX4_settleFormula 4 = .ok (.aload_n 0, 1) := by decide +kernel
theorem dX4_settleFormula_5 : decode cX4_settleFormula 5 = .ok (.getfield 237, 3) := by decide +kernel
theorem dX4_settleFormula_8 : decode cX4_settleFormula 8 = .ok (.iconst 4, 1) := by decide +kernel
theorem dX4_settleFormula_9 : decode cX4_settleFormula 9 = .ok (.if_icmp .eq 7, 3) := by decide +kernel
theorem dX4_settleFormula_12 : decode cX4_settleFormula 12 = .ok (.iload_n 1, 1) := by decide +kernel
theorem dX4_settleFormula_13 : decode cX4_settleFormula 13 = .ok (.ifCond .gt 4, 3) := by decide +kernel
theorem dX4_settleFormula_16 : decode cX4_settleFormula 16 = .ok (.return_, 1) := by decide +kernel
theorem dX4_settleFormula_17 : decode cX4_settleFormula 17 = .ok (.aload_n 0, 1) := by decide +kernel
theorem dX4_settleFormula_18 : decode cX4_settleFormula 18 = .ok (.getfield 240, 3) := by decide +kernel
theorem dX4_settleFormula_21 : decode cX4_settleFormula 21 = .ok (.iload_n 1, 1) := by decide +kernel
theorem dX4_settleFormula_22 : decode cX4_settleFormula 22 = .ok (.iconst 1, 1) := by decide +kernel
theorem dX4_settleFormula_23 : decode cX4_settleFormula 23 = .ok (.isub, 1) := by decide +kernel
theorem dX4_settleFormula_24 : decode cX4_settleFormula 24 = .ok (.invokestatic 232, 3) := by decide +kernel
theorem dX4_settleFormula_27 : decode cX4_settleFormula 27 = .ok (.aload_n 0, 1) := by decide +kernel
theorem dX4_settleFormula_28 : decode cX4_settleFormula 28 = .ok (.getfield 244, 3) := by decide +kernel
theorem dX4_settleFormula_31 : decode cX4_settleFormula 31 = .ok (.iload_n 1, 1) := by decide +kernel
theorem dX4_settleFormula_32 : decode cX4_settleFormula 32 = .ok (.iconst 1, 1) := by decide +kernel
theorem dX4_settleFormula_33 : decode cX4_settleFormula 33 = .ok (.isub, 1) := by decide +kernel
theorem dX4_settleFormula_34 : decode cX4_settleFormula 34 = .ok (.invokestatic 232, 3) := by decide +kernel
theorem dX4_settleFormula_37 : decode cX4_settleFormula 37 = .ok (.iconst 0, 1) := by decide +kernel
theorem dX4_settleFormula_38 : decode cX4_settleFormula 38 = .ok (.istore_n 2, 1) := by decide +kernel
theorem dX4_settleFormula_39 : decode cX4_settleFormula 39 = .ok (.iload_n 2, 1) := by decide +kernel
theorem dX4_settleFormula_40 : decode cX4_settleFormula 40 = .ok (.bipush 20, 2) := by decide +kernel
theorem dX4_settleFormula_42 : decode cX4_settleFormula 42 = .ok (.if_icmp .ge 20, 3) := by decide +kernel
theorem dX4_settleFormula_45 : decode cX4_settleFormula 45 = .ok (.aload_n 0, 1) := by decide +kernel
theorem dX4_settleFormula_46 : decode cX4_settleFormula 46 = .ok (.getfield 236, 3) := by decide +kernel
theorem dX4_settleFormula_49 : decode cX4_settleFormula 49 = .ok (.iload_n 2, 1) := by decide +kernel
theorem dX4_settleFormula_50 : decode cX4_settleFormula 50 = .ok (.aload_n 0, 1) := by decide +kernel
theorem dX4_settleFormula_51 : decode cX4_settleFormula 51 = .ok (.iload_n 2, 1) := by decide +kernel
theorem dX4_settleFormula_52 : decode cX4_settleFormula 52 = .ok (.invokestatic 247, 3) := by decide +kernel
theorem dX4_settleFormula_55 : decode cX4_settleFormula 55 = .ok (.lastore, 1) := by decide +kernel
theorem dX4_settleFormula_56 : decode cX4_settleFormula 56 = .ok (.iinc 2 1, 3) := by decide +kernel
theorem dX4_settleFormula_59 : decode cX4_settleFormula 59 = .ok (.goto (-20), 3) := by decide +kernel
theorem dX4_settleFormula_62 : decode cX4_settleFormula 62 = .ok (.return_, 1) := by decide +kernel
theorem dX4_valueMade_0 : decode cX4_valueMade 0 = .ok (.aload_n 0, 1) := by decide +kernel
theorem dX4_valueMade_1 : decode cX4_valueMade 1 = .ok (.getfield 240, 3) := by decide +kernel
theorem dX4_valueMade_4 : decode cX4_valueMade 4 = .ok (.astore_n 2, 1) := by decide +kernel
theorem dX4_valueMade_5 : decode cX4_valueMade 5 = .ok (.aload_n 2, 1) := by decide +kernel
theorem dX4_valueMade_6 : decode cX4_valueMade 6 = .ok (.ifnonnull 5, 3) := by decide +kernel
theorem dX4_valueMade_9 : decode cX4_valueMade 9 = .ok (.lconst 0, 1) := by decide +kernel
theorem dX4_valueMade_10 : decode cX4_valueMade 10 = .ok (.lreturn, 1) := by decide +kernel
theorem dX4_valueMade_11 : decode cX4_valueMade 11 = .ok (.aload_n 0, 1) := by decide +kernel
theorem dX4_valueMade_12 : decode cX4_valueMade 12 = .ok (.getfield 237, 3) := by decide +kernel
theorem dX4_valueMade_15 : decode cX4_valueMade 15 = .ok (.iconst 5, 1) := by decide +kernel
theorem dX4_valueMade_16 : decode cX4_valueMade 16 = .ok (.if_icmp .ne 17, 3) := by decide +kernel
theorem dX4_valueMade_19 : decode cX4_valueMade 19 = .ok (.aload_n 2, 1) := by decide +kernel
theorem dX4_valueMade_20 : decode cX4_valueMade 20 = .ok (.getfield 236, 3) := by decide +kernel
theorem dX4_valueMade_23 : decode cX4_valueMade 23 = .ok (.iload_n 1, 1) := by decide +kernel
theorem dX4_valueMade_24 : decode cX4_valueMade 24 = .ok (.laload, 1) := by decide +kernel
theorem dX4_valueMade_25 : decode cX4_valueMade 25 = .ok (.aload_n 0, 1) := by decide +kernel
theorem dX4_valueMade_26 : decode cX4_valueMade 26 = .ok (.getfield 251, 3) := by decide +kernel
theorem dX4_valueMade_29 : decode cX4_valueMade 29 = .ok (.invokestatic 254, 3) := by decide +kernel
theorem dX4_valueMade_32 : decode cX4_valueMade 32 = .ok (.lreturn, 1) := by decide +kernel
theorem dX4_valueMade_33 : decode cX4_valueMade 33 = .ok (.aload_n 0, 1) := by decide +kernel
theorem dX4_valueMade_34 : decode cX4_valueMade 34 = .ok (.getfield 237, 3) := by decide +kernel
theorem dX4_valueMade_37 : decode cX4_valueMade 37 = .ok (.bipush 6, 2) := by decide +kernel
theorem dX4_valueMade_39 : decode cX4_valueMade 39 = .ok (.if_icmp .ne 12, 3) := by decide +kernel
theorem dX4_valueMade_42 : decode cX4_valueMade 42 = .ok (.aload_n 2, 1) := by decide +kernel
theorem dX4_valueMade_43 : decode cX4_valueMade 43 = .ok (.getfield 236, 3) := by decide +kernel
theorem dX4_valueMade_46 : decode cX4_valueMade 46 = .ok (.iload_n 1, 1) := by decide +kernel
theorem dX4_valueMade_47 : decode cX4_valueMade 47 = .ok (.invokestatic 258, 3) := by decide +kernel
theorem dX4_valueMade_50 : decode cX4_valueMade 50 = .ok (.lreturn, 1) := by decide +kernel
theorem dX4_valueMade_51 : decode cX4_valueMade 51 = .ok (.aload_n 0, 1) := by decide +kernel
theorem dX4_valueMade_52 : decode cX4_valueMade 52 = .ok (.getfield 244, 3) := by decide +kernel
theorem dX4_valueMade_55 : decode cX4_valueMade 55 = .ok (.astore_n 3, 1) := by decide +kernel
theorem dX4_valueMade_56 : decode cX4_valueMade 56 = .ok (.aload_n 3, 1) := by decide +kernel
theorem dX4_valueMade_57 : decode cX4_valueMade 57 = .ok (.ifnonnull 5, 3) := by decide +kernel
theorem dX4_valueMade_60 : decode cX4_valueMade 60 = .ok (.lconst 0, 1) := by decide +kernel
theorem dX4_valueMade_61 : decode cX4_valueMade 61 = .ok (.lreturn, 1) := by decide +kernel
theorem dX4_valueMade_62 : decode cX4_valueMade 62 = .ok (.aload_n 0, 1) := by decide +kernel
theorem dX4_valueMade_63 : decode cX4_valueMade 63 = .ok (.getfield 237, 3) := by decide +kernel
theorem dX4_valueMade_66 : decode cX4_valueMade 66 = .ok (.aload_n 2, 1) := by decide +kernel
theorem dX4_valueMade_67 : decode cX4_valueMade 67 = .ok (.getfield 236, 3) := by decide +kernel
theorem dX4_valueMade_70 : decode cX4_valueMade 70 = .ok (.iload_n 1, 1) := by decide +kernel
theorem dX4_valueMade_71 : decode cX4_valueMade 71 = .ok (.laload, 1) := by decide +kernel
theorem dX4_valueMade_72 : decode cX4_valueMade 72 = .ok (.aload_n 3, 1) := by decide +kernel
theorem dX4_valueMade_73 : decode cX4_valueMade 73 = .ok (.getfield 236, 3) := by decide +kernel
theorem dX4_valueMade_76 : decode cX4_valueMade 76 = .ok (.iload_n 1, 1) := by decide +kernel
theorem dX4_valueMade_77 : decode cX4_valueMade 77 = .ok (.laload, 1) := by decide +kernel
theorem dX4_valueMade_78 : decode cX4_valueMade 78 = .ok (.invokestatic 262, 3) := by decide +kernel
theorem dX4_valueMade_81 : decode cX4_valueMade 81 = .ok (.lreturn, 1) := by decide +kernel
theorem dX4_joinOf_0 : decode cX4_joinOf 0 = .ok (.iload_n 0, 1) := by decide +kernel
theorem dX4_joinOf_1 : decode cX4_joinOf 1 = .ok (.tableswitch 41 0 2 #[27, 31, 35], 27) := by decide +kernel
theorem dX4_joinOf_28 : decode cX4_joinOf 28 = .ok (.lload_n 1, 1) := by decide +kernel
theorem dX4_joinOf_29 : decode cX4_joinOf 29 = .ok (.lload_n 3, 1) := by decide +kernel
theorem dX4_joinOf_30 : decode cX4_joinOf 30 = .ok (.ladd, 1) := by decide +kernel
theorem dX4_joinOf_31 : decode cX4_joinOf 31 = .ok (.lreturn, 1) := by decide +kernel
theorem dX4_joinOf_32 : decode cX4_joinOf 32 = .ok (.lload_n 1, 1) := by decide +kernel
theorem dX4_joinOf_33 : decode cX4_joinOf 33 = .ok (.lload_n 3, 1) := by decide +kernel
theorem dX4_joinOf_34 : decode cX4_joinOf 34 = .ok (.lsub, 1) := by decide +kernel
theorem dX4_joinOf_35 : decode cX4_joinOf 35 = .ok (.lreturn, 1) := by decide +kernel
theorem dX4_joinOf_36 : decode cX4_joinOf 36 = .ok (.lload_n 1, 1) := by decide +kernel
theorem dX4_joinOf_37 : decode cX4_joinOf 37 = .ok (.lload_n 3, 1) := by decide +kernel
theorem dX4_joinOf_38 : decode cX4_joinOf 38 = .ok (.invokestatic 266, 3) := by decide +kernel
theorem dX4_joinOf_41 : decode cX4_joinOf 41 = .ok (.lreturn, 1) := by decide +kernel
theorem dX4_joinOf_42 : decode cX4_joinOf 42 = .ok (.lload_n 1, 1) := by decide +kernel
theorem dX4_joinOf_43 : decode cX4_joinOf 43 = .ok (.lload_n 3, 1) := by decide +kernel
theorem dX4_joinOf_44 : decode cX4_joinOf 44 = .ok (.invokestatic 271, 3) := by decide +kernel
theorem dX4_joinOf_47 : decode cX4_joinOf 47 = .ok (.lreturn, 1) := by decide +kernel
theorem dX4_shareOf_0 : decode cX4_shareOf 0 = .ok (.lload_n 0, 1) := by decide +kernel
theorem dX4_shareOf_1 : decode cX4_shareOf 1 = .ok (.iload_n 2, 1) := by decide +kernel
theorem dX4_shareOf_2 : decode cX4_shareOf 2 = .ok (.i2l, 1) := by decide +kernel
theorem dX4_shareOf_3 : decode cX4_shareOf 3 = .ok (.lmul, 1) := by decide +kernel
theorem dX4_shareOf_4 : decode cX4_shareOf 4 = .ok (.ldc2_w 273, 3) := by decide +kernel
theorem dX4_shareOf_7 : decode cX4_shareOf 7 = .ok (.invokestatic 275, 3) := by decide +kernel
theorem dX4_shareOf_10 : decode cX4_shareOf 10 = .ok (.lreturn, 1) := by decide +kernel
theorem dX4_yearOf_0 : decode cX4_yearOf 0 = .ok (.lconst 0, 1) := by decide +kernel
theorem dX4_yearOf_1 : decode cX4_yearOf 1 = .ok (.lstore_n 2, 1) := by decide +kernel
theorem dX4_yearOf_2 : decode cX4_yearOf 2 = .ok (.iconst 0, 1) := by decide +kernel
theorem dX4_yearOf_3 : decode cX4_yearOf 3 = .ok (.istore 4, 2) := by decide +kernel
theorem dX4_yearOf_5 : decode cX4_yearOf 5 = .ok (.iload 4, 2) := by decide +kernel
theorem dX4_yearOf_7 : decode cX4_yearOf 7 = .ok (.iconst 4, 1) := by decide +kernel
theorem dX4_yearOf_8 : decode cX4_yearOf 8 = .ok (.if_icmp .ge 24, 3) := by decide +kernel
theorem dX4_yearOf_11 : decode cX4_yearOf 11 = .ok (.iload 4, 2) := by decide +kernel
theorem dX4_yearOf_13 : decode cX4_yearOf 13 = .ok (.iload_n 1, 1) := by decide +kernel
theorem dX4_yearOf_14 : decode cX4_yearOf 14 = .ok (.if_icmp .gt 18, 3) := by decide +kernel
theorem dX4_yearOf_17 : decode cX4_yearOf 17 = .ok (.lload_n 2, 1) := by decide +kernel
theorem dX4_yearOf_18 : decode cX4_yearOf 18 = .ok (.aload_n 0, 1) := by decide +kernel
theorem dX4_yearOf_19 : decode cX4_yearOf 19 = .ok (.iload_n 1, 1) := by decide +kernel
theorem dX4_yearOf_20 : decode cX4_yearOf 20 = .ok (.iload 4, 2) := by decide +kernel
theorem dX4_yearOf_22 : decode cX4_yearOf 22 = .ok (.isub, 1) := by decide +kernel
theorem dX4_yearOf_23 : decode cX4_yearOf 23 = .ok (.laload, 1) := by decide +kernel
theorem dX4_yearOf_24 : decode cX4_yearOf 24 = .ok (.ladd, 1) := by decide +kernel
theorem dX4_yearOf_25 : decode cX4_yearOf 25 = .ok (.lstore_n 2, 1) := by decide +kernel
theorem dX4_yearOf_26 : decode cX4_yearOf 26 = .ok (.iinc 4 1, 3) := by decide +kernel
theorem dX4_yearOf_29 : decode cX4_yearOf 29 = .ok (.goto (-24), 3) := by decide +kernel
theorem dX4_yearOf_32 : decode cX4_yearOf 32 = .ok (.lload_n 2, 1) := by decide +kernel
theorem dX4_yearOf_33 : decode cX4_yearOf 33 = .ok (.lreturn, 1) := by decide +kernel
theorem dX4_test_0 : decode cX4_test 0 = .ok (.aload_n 0, 1) := by decide +kernel
theorem dX4_test_1 : decode cX4_test 1 = .ok (.iload_n 1, 1) := by decide +kernel
theorem dX4_test_2 : decode cX4_test 2 = .ok (.invokevirtual 94, 3) := by decide +kernel
theorem dX4_test_5 : decode cX4_test 5 = .ok (.ifCond .eq 11, 3) := by decide +kernel
theorem dX4_test_8 : decode cX4_test 8 = .ok (.aload_n 0, 1) := by decide +kernel
theorem dX4_test_9 : decode cX4_test 9 = .ok (.iload_n 2, 1) := by decide +kernel
theorem dX4_test_10 : decode cX4_test 10 = .ok (.invokevirtual 94, 3) := by decide +kernel
theorem dX4_test_13 : decode cX4_test 13 = .ok (.ifCond .ne 13, 3) := by decide +kernel
theorem dX4_test_16 : decode cX4_test 16 = .ok (.new 37, 3) := by decide +kernel
theorem dX4_test_19 : decode cX4_test 19 = .ok (.dup, 1) := by decide +kernel
theorem dX4_test_20 : decode cX4_test 20 = .ok (.ldc 97, 2) := by decide +kernel
theorem dX4_test_22 : decode cX4_test 22 = .ok (.invokespecial 41, 3) := by decide +kernel
theorem dX4_test_25 : decode cX4_test 25 = .ok (.athrow, 1) := by decide +kernel
theorem dX4_test_26 : decode cX4_test 26 = .ok (.aload_n 0, 1) := by decide +kernel
theorem dX4_test_27 : decode cX4_test 27 = .ok (.getfield 24, 3) := by decide +kernel
theorem dX4_test_30 : decode cX4_test 30 = .ok (.invokevirtual 60, 3) := by decide +kernel
theorem dX4_test_33 : decode cX4_test 33 = .ok (.bipush 6, 2) := by decide +kernel
theorem dX4_test_35 : decode cX4_test 35 = .ok (.if_icmp .lt 14, 3) := by decide +kernel
theorem dX4_test_38 : decode cX4_test 38 = .ok (.new 64, 3) := by decide +kernel
theorem dX4_test_41 : decode cX4_test 41 = .ok (.dup, 1) := by decide +kernel
theorem dX4_test_42 : decode cX4_test 42 = .ok (.ldc_w 278, 3) := by decide +kernel
theorem dX4_test_45 : decode cX4_test 45 = .ok (.invokespecial 68, 3) := by decide +kernel
theorem dX4_test_48 : decode cX4_test 48 = .ok (.athrow, 1) := by decide +kernel
theorem dX4_test_49 : decode cX4_test 49 = .ok (.aload_n 0, 1) := by decide +kernel
theorem dX4_test_50 : decode cX4_test 50 = .ok (.getfield 24, 3) := by decide +kernel
theorem dX4_test_53 : decode cX4_test 53 = .ok (.new 280, 3) := by decide +kernel
theorem dX4_test_56 : decode cX4_test 56 = .ok (.dup, 1) := by decide +kernel
theorem dX4_test_57 : decode cX4_test 57 = .ok (.aload_n 0, 1) := by decide +kernel
theorem dX4_test_58 : decode cX4_test 58 = .ok (.getfield 21, 3) := by decide +kernel
theorem dX4_test_61 : decode cX4_test 61 = .ok (.iload_n 1, 1) := by decide +kernel
theorem dX4_test_62 : decode cX4_test 62 = .ok (.invokevirtual 99, 3) := by decide +kernel
theorem dX4_test_65 : decode cX4_test 65 = .ok (.checkcast 103, 3) := by decide +kernel
theorem dX4_test_68 : decode cX4_test 68 = .ok (.aload_n 0, 1) := by decide +kernel
theorem dX4_test_69 : decode cX4_test 69 = .ok (.getfield 21, 3) := by decide +kernel
theorem dX4_test_72 : decode cX4_test 72 = .ok (.iload_n 2, 1) := by decide +kernel
theorem dX4_test_73 : decode cX4_test 73 = .ok (.invokevirtual 99, 3) := by decide +kernel
theorem dX4_test_76 : decode cX4_test 76 = .ok (.checkcast 103, 3) := by decide +kernel
theorem dX4_test_79 : decode cX4_test 79 = .ok (.invokespecial 282, 3) := by decide +kernel
theorem dX4_test_82 : decode cX4_test 82 = .ok (.invokevirtual 155, 3) := by decide +kernel
theorem dX4_test_85 : decode cX4_test 85 = .ok (.pop, 1) := by decide +kernel
theorem dX4_test_86 : decode cX4_test 86 = .ok (.aload_n 0, 1) := by decide +kernel
theorem dX4_test_87 : decode cX4_test 87 = .ok (.getfield 24, 3) := by decide +kernel
theorem dX4_test_90 : decode cX4_test 90 = .ok (.invokevirtual 60, 3) := by decide +kernel
theorem dX4_test_93 : decode cX4_test 93 = .ok (.iconst 1, 1) := by decide +kernel
theorem dX4_test_94 : decode cX4_test 94 = .ok (.isub, 1) := by decide +kernel
theorem dX4_test_95 : decode cX4_test 95 = .ok (.ireturn, 1) := by decide +kernel
theorem dX4_limit_0 : decode cX4_limit 0 = .ok (.aload_n 0, 1) := by decide +kernel
theorem dX4_limit_1 : decode cX4_limit 1 = .ok (.iload_n 1, 1) := by decide +kernel
theorem dX4_limit_2 : decode cX4_limit 2 = .ok (.invokevirtual 285, 3) := by decide +kernel
theorem dX4_limit_5 : decode cX4_limit 5 = .ok (.ifCond .eq 10, 3) := by decide +kernel
theorem dX4_limit_8 : decode cX4_limit 8 = .ok (.iload_n 2, 1) := by decide +kernel
theorem dX4_limit_9 : decode cX4_limit 9 = .ok (.invokestatic 34, 3) := by decide +kernel
theorem dX4_limit_12 : decode cX4_limit 12 = .ok (.ifCond .ne 14, 3) := by decide +kernel
theorem dX4_limit_15 : decode cX4_limit 15 = .ok (.new 37, 3) := by decide +kernel
theorem dX4_limit_18 : decode cX4_limit 18 = .ok (.dup, 1) := by decide +kernel
theorem dX4_limit_19 : decode cX4_limit 19 = .ok (.ldc_w 288, 3) := by decide +kernel
theorem dX4_limit_22 : decode cX4_limit 22 = .ok (.invokespecial 41, 3) := by decide +kernel
theorem dX4_limit_25 : decode cX4_limit 25 = .ok (.athrow, 1) := by decide +kernel
theorem dX4_limit_26 : decode cX4_limit 26 = .ok (.iload_n 3, 1) := by decide +kernel
theorem dX4_limit_27 : decode cX4_limit 27 = .ok (.iconst 0, 1) := by decide +kernel
theorem dX4_limit_28 : decode cX4_limit 28 = .ok (.sipush 10000, 3) := by decide +kernel
theorem dX4_limit_31 : decode cX4_limit 31 = .ok (.invokestatic 46, 3) := by decide +kernel
theorem dX4_limit_34 : decode cX4_limit 34 = .ok (.ifCond .ne 14, 3) := by decide +kernel
theorem dX4_limit_37 : decode cX4_limit 37 = .ok (.new 50, 3) := by decide +kernel
theorem dX4_limit_40 : decode cX4_limit 40 = .ok (.dup, 1) := by decide +kernel
theorem dX4_limit_41 : decode cX4_limit 41 = .ok (.ldc_w 290, 3) := by decide +kernel
theorem dX4_limit_44 : decode cX4_limit 44 = .ok (.invokespecial 54, 3) := by decide +kernel
theorem dX4_limit_47 : decode cX4_limit 47 = .ok (.athrow, 1) := by decide +kernel
theorem dX4_limit_48 : decode cX4_limit 48 = .ok (.aload_n 0, 1) := by decide +kernel
theorem dX4_limit_49 : decode cX4_limit 49 = .ok (.getfield 24, 3) := by decide +kernel
theorem dX4_limit_52 : decode cX4_limit 52 = .ok (.iload_n 1, 1) := by decide +kernel
theorem dX4_limit_53 : decode cX4_limit 53 = .ok (.invokevirtual 99, 3) := by decide +kernel
theorem dX4_limit_56 : decode cX4_limit 56 = .ok (.checkcast 280, 3) := by decide +kernel
theorem dX4_limit_59 : decode cX4_limit 59 = .ok (.astore 4, 2) := by decide +kernel
theorem dX4_limit_61 : decode cX4_limit 61 = .ok (.aload 4, 2) := by decide +kernel
theorem dX4_limit_63 : decode cX4_limit 63 = .ok (.getfield 292, 3) := by decide +kernel
theorem dX4_limit_66 : decode cX4_limit 66 = .ok (.iload_n 2, 1) := by decide +kernel
theorem dX4_limit_67 : decode cX4_limit 67 = .ok (.iaload, 1) := by decide +kernel
theorem dX4_limit_68 : decode cX4_limit 68 = .ok (.iconst (-1), 1) := by decide +kernel
theorem dX4_limit_69 : decode cX4_limit 69 = .ok (.if_icmp .ne 14, 3) := by decide +kernel
theorem dX4_limit_72 : decode cX4_limit 72 = .ok (.aload 4, 2) := by decide +kernel
theorem dX4_limit_74 : decode cX4_limit 74 = .ok (.dup, 1) := by decide +kernel
theorem dX4_limit_75 : decode cX4_limit 75 = .ok (.getfield 296, 3) := by decide +kernel
theorem dX4_limit_78 : decode cX4_limit 78 = .ok (.iconst 1, 1) := by decide +kernel
theorem dX4_limit_79 : decode cX4_limit 79 = .ok (.iadd, 1) := by decide +kernel
theorem dX4_limit_80 : decode cX4_limit 80 = .ok (.putfield 296, 3) := by decide +kernel
theorem dX4_limit_83 : decode cX4_limit 83 = .ok (.aload 4, 2) := by decide +kernel
theorem dX4_limit_85 : decode cX4_limit 85 = .ok (.getfield 292, 3) := by decide +kernel
theorem dX4_limit_88 : decode cX4_limit 88 = .ok (.iload_n 2, 1) := by decide +kernel
theorem dX4_limit_89 : decode cX4_limit 89 = .ok (.iload_n 3, 1) := by decide +kernel
theorem dX4_limit_90 : decode cX4_limit 90 = .ok (.iastore, 1) := by decide +kernel
theorem dX4_limit_91 : decode cX4_limit 91 = .ok (.aload 4, 2) := by decide +kernel
theorem dX4_limit_93 : decode cX4_limit 93 = .ok (.getfield 296, 3) := by decide +kernel
theorem dX4_limit_96 : decode cX4_limit 96 = .ok (.ireturn, 1) := by decide +kernel
theorem dX4_wake_0 : decode cX4_wake 0 = .ok (.aload_n 0, 1) := by decide +kernel
theorem dX4_wake_1 : decode cX4_wake 1 = .ok (.iload_n 1, 1) := by decide +kernel
theorem dX4_wake_2 : decode cX4_wake 2 = .ok (.invokevirtual 285, 3) := by decide +kernel
theorem dX4_wake_5 : decode cX4_wake 5 = .ok (.ifCond .eq 15, 3) := by decide +kernel
theorem dX4_wake_8 : decode cX4_wake 8 = .ok (.iload_n 2, 1) := by decide +kernel
theorem dX4_wake_9 : decode cX4_wake 9 = .ok (.iconst (-1), 1) := by decide +kernel
theorem dX4_wake_10 : decode cX4_wake 10 = .ok (.if_icmp .eq 21, 3) := by decide +kernel
theorem dX4_wake_13 : decode cX4_wake 13 = .ok (.iload_n 2, 1) := by decide +kernel
theorem dX4_wake_14 : decode cX4_wake 14 = .ok (.invokestatic 30, 3) := by decide +kernel
theorem dX4_wake_17 : decode cX4_wake 17 = .ok (.ifCond .ne 14, 3) := by decide +kernel
theorem dX4_wake_20 : decode cX4_wake 20 = .ok (.new 37, 3) := by decide +kernel
theorem dX4_wake_23 : decode cX4_wake 23 = .ok (.dup, 1) := by decide +kernel
theorem dX4_wake_24 : decode cX4_wake 24 = .ok (.ldc_w 299, 3) := by decide +kernel
theorem dX4_wake_27 : decode cX4_wake 27 = .ok (.invokespecial 41, 3) := by decide +kernel
theorem dX4_wake_30 : decode cX4_wake 30 = .ok (.athrow, 1) := by decide +kernel
theorem dX4_wake_31 : decode cX4_wake 31 = .ok (.iload_n 3, 1) := by decide +kernel
theorem dX4_wake_32 : decode cX4_wake 32 = .ok (.ldc 44, 2) := by decide +kernel
theorem dX4_wake_34 : decode cX4_wake 34 = .ok (.ldc 45, 2) := by decide +kernel
theorem dX4_wake_36 : decode cX4_wake 36 = .ok (.invokestatic 46, 3) := by decide +kernel
theorem dX4_wake_39 : decode cX4_wake 39 = .ok (.ifCond .ne 14, 3) := by decide +kernel
theorem dX4_wake_42 : decode cX4_wake 42 = .ok (.new 50, 3) := by decide +kernel
theorem dX4_wake_45 : decode cX4_wake 45 = .ok (.dup, 1) := by decide +kernel
theorem dX4_wake_46 : decode cX4_wake 46 = .ok (.ldc_w 301, 3) := by decide +kernel
theorem dX4_wake_49 : decode cX4_wake 49 = .ok (.invokespecial 54, 3) := by decide +kernel
theorem dX4_wake_52 : decode cX4_wake 52 = .ok (.athrow, 1) := by decide +kernel
theorem dX4_wake_53 : decode cX4_wake 53 = .ok (.aload_n 0, 1) := by decide +kernel
theorem dX4_wake_54 : decode cX4_wake 54 = .ok (.getfield 24, 3) := by decide +kernel
theorem dX4_wake_57 : decode cX4_wake 57 = .ok (.iload_n 1, 1) := by decide +kernel
theorem dX4_wake_58 : decode cX4_wake 58 = .ok (.invokevirtual 99, 3) := by decide +kernel
theorem dX4_wake_61 : decode cX4_wake 61 = .ok (.checkcast 280, 3) := by decide +kernel
theorem dX4_wake_64 : decode cX4_wake 64 = .ok (.astore 4, 2) := by decide +kernel
theorem dX4_wake_66 : decode cX4_wake 66 = .ok (.aload 4, 2) := by decide +kernel
theorem dX4_wake_68 : decode cX4_wake 68 = .ok (.getfield 303, 3) := by decide +kernel
theorem dX4_wake_71 : decode cX4_wake 71 = .ok (.istore 5, 2) := by decide +kernel
theorem dX4_wake_73 : decode cX4_wake 73 = .ok (.aload 4, 2) := by decide +kernel
theorem dX4_wake_75 : decode cX4_wake 75 = .ok (.iload_n 2, 1) := by decide +kernel
theorem dX4_wake_76 : decode cX4_wake 76 = .ok (.putfield 303, 3) := by decide +kernel
theorem dX4_wake_79 : decode cX4_wake 79 = .ok (.aload 4, 2) := by decide +kernel
theorem dX4_wake_81 : decode cX4_wake 81 = .ok (.iload_n 3, 1) := by decide +kernel
theorem dX4_wake_82 : decode cX4_wake 82 = .ok (.putfield 306, 3) := by decide +kernel
theorem dX4_wake_85 : decode cX4_wake 85 = .ok (.iload 5, 2) := by decide +kernel
theorem dX4_wake_87 : decode cX4_wake 87 = .ok (.ireturn, 1) := by decide +kernel
theorem dX4_cure_0 : decode cX4_cure 0 = .ok (.aload_n 0, 1) := by decide +kernel
theorem dX4_cure_1 : decode cX4_cure 1 = .ok (.iload_n 1, 1) := by decide +kernel
theorem dX4_cure_2 : decode cX4_cure 2 = .ok (.invokevirtual 285, 3) := by decide +kernel
theorem dX4_cure_5 : decode cX4_cure 5 = .ok (.ifCond .eq 10, 3) := by decide +kernel
theorem dX4_cure_8 : decode cX4_cure 8 = .ok (.iload_n 2, 1) := by decide +kernel
theorem dX4_cure_9 : decode cX4_cure 9 = .ok (.invokestatic 34, 3) := by decide +kernel
theorem dX4_cure_12 : decode cX4_cure 12 = .ok (.ifCond .ne 14, 3) := by decide +kernel
theorem dX4_cure_15 : decode cX4_cure 15 = .ok (.new 37, 3) := by decide +kernel
theorem dX4_cure_18 : decode cX4_cure 18 = .ok (.dup, 1) := by decide +kernel
theorem dX4_cure_19 : decode cX4_cure 19 = .ok (.ldc_w 288, 3) := by decide +kernel
theorem dX4_cure_22 : decode cX4_cure 22 = .ok (.invokespecial 41, 3) := by decide +kernel
theorem dX4_cure_25 : decode cX4_cure 25 = .ok (.athrow, 1) := by decide +kernel
theorem dX4_cure_26 : decode cX4_cure 26 = .ok (.iload_n 3, 1) := by decide +kernel
theorem dX4_cure_27 : decode cX4_cure 27 = .ok (.iconst 1, 1) := by decide +kernel
theorem dX4_cure_28 : decode cX4_cure 28 = .ok (.ldc 45, 2) := by decide +kernel
theorem dX4_cure_30 : decode cX4_cure 30 = .ok (.invokestatic 46, 3) := by decide +kernel
theorem dX4_cure_33 : decode cX4_cure 33 = .ok (.ifCond .ne 14, 3) := by decide +kernel
theorem dX4_cure_36 : decode cX4_cure 36 = .ok (.new 50, 3) := by decide +kernel
theorem dX4_cure_39 : decode cX4_cure 39 = .ok (.dup, 1) := by decide +kernel
theorem dX4_cure_40 : decode cX4_cure 40 = .ok (.ldc_w 309, 3) := by decide +kernel
theorem dX4_cure_43 : decode cX4_cure 43 = .ok (.invokespecial 54, 3) := by decide +kernel
theorem dX4_cure_46 : decode cX4_cure 46 = .ok (.athrow, 1) := by decide +kernel
theorem dX4_cure_47 : decode cX4_cure 47 = .ok (.aload_n 0, 1) := by decide +kernel
theorem dX4_cure_48 : decode cX4_cure 48 = .ok (.getfield 24, 3) := by decide +kernel
theorem dX4_cure_51 : decode cX4_cure 51 = .ok (.iload_n 1, 1) := by decide +kernel
theorem dX4_cure_52 : decode cX4_cure 52 = .ok (.invokevirtual 99, 3) := by decide +kernel
theorem dX4_cure_55 : decode cX4_cure 55 = .ok (.checkcast 280, 3) := by decide +kernel
theorem dX4_cure_58 : decode cX4_cure 58 = .ok (.astore 4, 2) := by decide +kernel
theorem dX4_cure_60 : decode cX4_cure 60 = .ok (.aload 4, 2) := by decide +kernel
theorem dX4_cure_62 : decode cX4_cure 62 = .ok (.getfield 311, 3) := by decide +kernel
theorem dX4_cure_65 : decode cX4_cure 65 = .ok (.iload_n 2, 1) := by decide +kernel
theorem dX4_cure_66 : decode cX4_cure 66 = .ok (.iaload, 1) := by decide +kernel
theorem dX4_cure_67 : decode cX4_cure 67 = .ok (.ifCond .ne 15, 3) := by decide +kernel
theorem dX4_cure_70 : decode cX4_cure 70 = .ok (.aload 4, 2) := by decide +kernel
theorem dX4_cure_72 : decode cX4_cure 72 = .ok (.getfield 311, 3) := by decide +kernel
theorem dX4_cure_75 : decode cX4_cure 75 = .ok (.iload_n 2, 1) := by decide +kernel
theorem dX4_cure_76 : decode cX4_cure 76 = .ok (.invokestatic 314, 3) := by decide +kernel
theorem dX4_cure_79 : decode cX4_cure 79 = .ok (.ifCond .ne 14, 3) := by decide +kernel
theorem dX4_cure_82 : decode cX4_cure 82 = .ok (.new 64, 3) := by decide +kernel
theorem dX4_cure_85 : decode cX4_cure 85 = .ok (.dup, 1) := by decide +kernel
theorem dX4_cure_86 : decode cX4_cure 86 = .ok (.ldc_w 318, 3) := by decide +kernel
theorem dX4_cure_89 : decode cX4_cure 89 = .ok (.invokespecial 68, 3) := by decide +kernel
theorem dX4_cure_92 : decode cX4_cure 92 = .ok (.athrow, 1) := by decide +kernel
theorem dX4_cure_93 : decode cX4_cure 93 = .ok (.aload 4, 2) := by decide +kernel
theorem dX4_cure_95 : decode cX4_cure 95 = .ok (.getfield 311, 3) := by decide +kernel
theorem dX4_cure_98 : decode cX4_cure 98 = .ok (.iload_n 2, 1) := by decide +kernel
theorem dX4_cure_99 : decode cX4_cure 99 = .ok (.iload_n 3, 1) := by decide +kernel
theorem dX4_cure_100 : decode cX4_cure 100 = .ok (.iastore, 1) := by decide +kernel
theorem dX4_cure_101 : decode cX4_cure 101 = .ok (.aload 4, 2) := by decide +kernel
theorem dX4_cure_103 : decode cX4_cure 103 = .ok (.dup, 1) := by decide +kernel
theorem dX4_cure_104 : decode cX4_cure 104 = .ok (.getfield 320, 3) := by decide +kernel
theorem dX4_cure_107 : decode cX4_cure 107 = .ok (.iconst 1, 1) := by decide +kernel
theorem dX4_cure_108 : decode cX4_cure 108 = .ok (.iadd, 1) := by decide +kernel
theorem dX4_cure_109 : decode cX4_cure 109 = .ok (.putfield 320, 3) := by decide +kernel
theorem dX4_cure_112 : decode cX4_cure 112 = .ok (.aload 4, 2) := by decide +kernel
theorem dX4_cure_114 : decode cX4_cure 114 = .ok (.getfield 320, 3) := by decide +kernel
theorem dX4_cure_117 : decode cX4_cure 117 = .ok (.ireturn, 1) := by decide +kernel
theorem dX4_waive_0 : decode cX4_waive 0 = .ok (.aload_n 0, 1) := by decide +kernel
theorem dX4_waive_1 : decode cX4_waive 1 = .ok (.iload_n 1, 1) := by decide +kernel
theorem dX4_waive_2 : decode cX4_waive 2 = .ok (.invokevirtual 285, 3) := by decide +kernel
theorem dX4_waive_5 : decode cX4_waive 5 = .ok (.ifCond .eq 10, 3) := by decide +kernel
theorem dX4_waive_8 : decode cX4_waive 8 = .ok (.iload_n 2, 1) := by decide +kernel
theorem dX4_waive_9 : decode cX4_waive 9 = .ok (.invokestatic 34, 3) := by decide +kernel
theorem dX4_waive_12 : decode cX4_waive 12 = .ok (.ifCond .ne 14, 3) := by decide +kernel
theorem dX4_waive_15 : decode cX4_waive 15 = .ok (.new 37, 3) := by decide +kernel
theorem dX4_waive_18 : decode cX4_waive 18 = .ok (.dup, 1) := by decide +kernel
theorem dX4_waive_19 : decode cX4_waive 19 = .ok (.ldc_w 288, 3) := by decide +kernel
theorem dX4_waive_22 : decode cX4_waive 22 = .ok (.invokespecial 41, 3) := by decide +kernel
theorem dX4_waive_25 : decode cX4_waive 25 = .ok (.athrow, 1) := by decide +kernel
theorem dX4_waive_26 : decode cX4_waive 26 = .ok (.aload_n 0, 1) := by decide +kernel
theorem dX4_waive_27 : decode cX4_waive 27 = .ok (.getfield 24, 3) := by decide +kernel
theorem dX4_waive_30 : decode cX4_waive 30 = .ok (.iload_n 1, 1) := by decide +kernel
theorem dX4_waive_31 : decode cX4_waive 31 = .ok (.invokevirtual 99, 3) := by decide +kernel
theorem dX4_waive_34 : decode cX4_waive 34 = .ok (.checkcast 280, 3) := by decide +kernel
theorem dX4_waive_37 : decode cX4_waive 37 = .ok (.astore_n 3, 1) := by decide +kernel
theorem dX4_waive_38 : decode cX4_waive 38 = .ok (.aload_n 3, 1) := by decide +kernel
theorem dX4_waive_39 : decode cX4_waive 39 = .ok (.getfield 323, 3) := by decide +kernel
theorem dX4_waive_42 : decode cX4_waive 42 = .ok (.iload_n 2, 1) := by decide +kernel
theorem dX4_waive_43 : decode cX4_waive 43 = .ok (.aload_n 3, 1) := by decide +kernel
theorem dX4_waive_44 : decode cX4_waive 44 = .ok (.getfield 323, 3) := by decide +kernel
theorem dX4_waive_47 : decode cX4_waive 47 = .ok (.iload_n 2, 1) := by decide +kernel
theorem dX4_waive_48 : decode cX4_waive 48 = .ok (.baload, 1) := by decide +kernel
theorem dX4_waive_49 : decode cX4_waive 49 = .ok (.ifCond .ne 7, 3) := by decide +kernel
theorem dX4_waive_52 : decode cX4_waive 52 = .ok (.iconst 1, 1) := by decide +kernel
theorem dX4_waive_53 : decode cX4_waive 53 = .ok (.goto 4, 3) := by decide +kernel
theorem dX4_waive_56 : decode cX4_waive 56 = .ok (.iconst 0, 1) := by decide +kernel
theorem dX4_waive_57 : decode cX4_waive 57 = .ok (.bastore, 1) := by decide +kernel
theorem dX4_waive_58 : decode cX4_waive 58 = .ok (.aload_n 3, 1) := by decide +kernel
theorem dX4_waive_59 : decode cX4_waive 59 = .ok (.getfield 323, 3) := by decide +kernel
theorem dX4_waive_62 : decode cX4_waive 62 = .ok (.iload_n 2, 1) := by decide +kernel
theorem dX4_waive_63 : decode cX4_waive 63 = .ok (.baload, 1) := by decide +kernel
theorem dX4_waive_64 : decode cX4_waive 64 = .ok (.ireturn, 1) := by decide +kernel
theorem dX4_state_0 : decode cX4_state 0 = .ok (.aload_n 0, 1) := by decide +kernel
theorem dX4_state_1 : decode cX4_state 1 = .ok (.iload_n 1, 1) := by decide +kernel
theorem dX4_state_2 : decode cX4_state 2 = .ok (.invokevirtual 285, 3) := by decide +kernel
theorem dX4_state_5 : decode cX4_state 5 = .ok (.ifCond .eq 10, 3) := by decide +kernel
theorem dX4_state_8 : decode cX4_state 8 = .ok (.iload_n 2, 1) := by decide +kernel
theorem dX4_state_9 : decode cX4_state 9 = .ok (.invokestatic 34, 3) := by decide +kernel
theorem dX4_state_12 : decode cX4_state 12 = .ok (.ifCond .ne 14, 3) := by decide +kernel
theorem dX4_state_15 : decode cX4_state 15 = .ok (.new 37, 3) := by decide +kernel
theorem dX4_state_18 : decode cX4_state 18 = .ok (.dup, 1) := by decide +kernel
theorem dX4_state_19 : decode cX4_state 19 = .ok (.ldc_w 288, 3) := by decide +kernel
theorem dX4_state_22 : decode cX4_state 22 = .ok (.invokespecial 41, 3) := by decide +kernel
theorem dX4_state_25 : decode cX4_state 25 = .ok (.athrow, 1) := by decide +kernel
theorem dX4_state_26 : decode cX4_state 26 = .ok (.aload_n 0, 1) := by decide +kernel
theorem dX4_state_27 : decode cX4_state 27 = .ok (.aload_n 0, 1) := by decide +kernel
theorem dX4_state_28 : decode cX4_state 28 = .ok (.getfield 24, 3) := by decide +kernel
theorem dX4_state_31 : decode cX4_state 31 = .ok (.iload_n 1, 1) := by decide +kernel
theorem dX4_state_32 : decode cX4_state 32 = .ok (.invokevirtual 99, 3) := by decide +kernel
theorem dX4_state_35 : decode cX4_state 35 = .ok (.checkcast 280, 3) := by decide +kernel
theorem dX4_state_38 : decode cX4_state 38 = .ok (.iload_n 2, 1) := by decide +kernel
theorem dX4_state_39 : decode cX4_state 39 = .ok (.invokevirtual 327, 3) := by decide +kernel
theorem dX4_state_42 : decode cX4_state 42 = .ok (.ireturn, 1) := by decide +kernel
theorem dX4_room_0 : decode cX4_room 0 = .ok (.aload_n 0, 1) := by decide +kernel
theorem dX4_room_1 : decode cX4_room 1 = .ok (.iload_n 1, 1) := by decide +kernel
theorem dX4_room_2 : decode cX4_room 2 = .ok (.invokevirtual 285, 3) := by decide +kernel
theorem dX4_room_5 : decode cX4_room 5 = .ok (.ifCond .eq 10, 3) := by decide +kernel
theorem dX4_room_8 : decode cX4_room 8 = .ok (.iload_n 2, 1) := by decide +kernel
theorem dX4_room_9 : decode cX4_room 9 = .ok (.invokestatic 34, 3) := by decide +kernel
theorem dX4_room_12 : decode cX4_room 12 = .ok (.ifCond .ne 14, 3) := by decide +kernel
theorem dX4_room_15 : decode cX4_room 15 = .ok (.new 37, 3) := by decide +kernel
theorem dX4_room_18 : decode cX4_room 18 = .ok (.dup, 1) := by decide +kernel
theorem dX4_room_19 : decode cX4_room 19 = .ok (.ldc_w 288, 3) := by decide +kernel
theorem dX4_room_22 : decode cX4_room 22 = .ok (.invokespecial 41, 3) := by decide +kernel
theorem dX4_room_25 : decode cX4_room 25 = .ok (.athrow, 1) := by decide +kernel
theorem dX4_room_26 : decode cX4_room 26 = .ok (.aload_n 0, 1) := by decide +kernel
theorem dX4_room_27 : decode cX4_room 27 = .ok (.getfield 24, 3) := by decide +kernel
theorem dX4_room_30 : decode cX4_room 30 = .ok (.iload_n 1, 1) := by decide +kernel
theorem dX4_room_31 : decode cX4_room 31 = .ok (.invokevirtual 99, 3) := by decide +kernel
theorem dX4_room_34 : decode cX4_room 34 = .ok (.checkcast 280, 3) := by decide +kernel
theorem dX4_room_37 : decode cX4_room 37 = .ok (.astore_n 3, 1) := by decide +kernel
theorem dX4_room_38 : decode cX4_room 38 = .ok (.aload_n 3, 1) := by decide +kernel
theorem dX4_room_39 : decode cX4_room 39 = .ok (.iload_n 2, 1) := by decide +kernel
theorem dX4_room_40 : decode cX4_room 40 = .ok (.invokestatic 331, 3) := by decide +kernel
theorem dX4_room_43 : decode cX4_room 43 = .ok (.istore 4, 2) := by decide +kernel
theorem dX4_room_45 : decode cX4_room 45 = .ok (.aload_n 3, 1) := by decide +kernel
theorem dX4_room_46 : decode cX4_room 46 = .ok (.getfield 334, 3) := by decide +kernel
theorem dX4_room_49 : decode cX4_room 49 = .ok (.getfield 113, 3) := by decide +kernel
theorem dX4_room_52 : decode cX4_room 52 = .ok (.iload_n 2, 1) := by decide +kernel
theorem dX4_room_53 : decode cX4_room 53 = .ok (.laload, 1) := by decide +kernel
theorem dX4_room_54 : decode cX4_room 54 = .ok (.aload_n 3, 1) := by decide +kernel
theorem dX4_room_55 : decode cX4_room 55 = .ok (.getfield 311, 3) := by decide +kernel
theorem dX4_room_58 : decode cX4_room 58 = .ok (.iload_n 2, 1) := by decide +kernel
theorem dX4_room_59 : decode cX4_room 59 = .ok (.iaload, 1) := by decide +kernel
theorem dX4_room_60 : decode cX4_room 60 = .ok (.i2l, 1) := by decide +kernel
theorem dX4_room_61 : decode cX4_room 61 = .ok (.ladd, 1) := by decide +kernel
theorem dX4_room_62 : decode cX4_room 62 = .ok (.lstore 5, 2) := by decide +kernel
theorem dX4_room_64 : decode cX4_room 64 = .ok (.iload 4, 2) := by decide +kernel
theorem dX4_room_66 : decode cX4_room 66 = .ok (.iconst (-1), 1) := by decide +kernel
theorem dX4_room_67 : decode cX4_room 67 = .ok (.if_icmp .eq 10, 3) := by decide +kernel
theorem dX4_room_70 : decode cX4_room 70 = .ok (.lload 5, 2) := by decide +kernel
theorem dX4_room_72 : decode cX4_room 72 = .ok (.lconst 0, 1) := by decide +kernel
theorem dX4_room_73 : decode cX4_room 73 = .ok (.lcmp, 1) := by decide +kernel
theorem dX4_room_74 : decode cX4_room 74 = .ok (.ifCond .gt 14, 3) := by decide +kernel
theorem dX4_room_77 : decode cX4_room 77 = .ok (.new 64, 3) := by decide +kernel
theorem dX4_room_80 : decode cX4_room 80 = .ok (.dup, 1) := by decide +kernel
theorem dX4_room_81 : decode cX4_room 81 = .ok (.ldc_w 338, 3) := by decide +kernel
theorem dX4_room_84 : decode cX4_room 84 = .ok (.invokespecial 68, 3) := by decide +kernel
theorem dX4_room_87 : decode cX4_room 87 = .ok (.athrow, 1) := by decide +kernel
theorem dX4_room_88 : decode cX4_room 88 = .ok (.iload 4, 2) := by decide +kernel
theorem dX4_room_90 : decode cX4_room 90 = .ok (.i2l, 1) := by decide +kernel
theorem dX4_room_91 : decode cX4_room 91 = .ok (.lload 5, 2) := by decide +kernel
theorem dX4_room_93 : decode cX4_room 93 = .ok (.lmul, 1) := by decide +kernel
theorem dX4_room_94 : decode cX4_room 94 = .ok (.ldc2_w 273, 3) := by decide +kernel
theorem dX4_room_97 : decode cX4_room 97 = .ok (.invokestatic 275, 3) := by decide +kernel
theorem dX4_room_100 : decode cX4_room 100 = .ok (.aload_n 3, 1) := by decide +kernel
theorem dX4_room_101 : decode cX4_room 101 = .ok (.getfield 340, 3) := by decide +kernel
theorem dX4_room_104 : decode cX4_room 104 = .ok (.getfield 113, 3) := by decide +kernel
theorem dX4_room_107 : decode cX4_room 107 = .ok (.iload_n 2, 1) := by decide +kernel
theorem dX4_room_108 : decode cX4_room 108 = .ok (.laload, 1) := by decide +kernel
theorem dX4_room_109 : decode cX4_room 109 = .ok (.lsub, 1) := by decide +kernel
theorem dX4_room_110 : decode cX4_room 110 = .ok (.lreturn, 1) := by decide +kernel
theorem dX4_broken_0 : decode cX4_broken 0 = .ok (.iconst 0, 1) := by decide +kernel
theorem dX4_broken_1 : decode cX4_broken 1 = .ok (.istore_n 1, 1) := by decide +kernel
theorem dX4_broken_2 : decode cX4_broken 2 = .ok (.iconst 0, 1) := by decide +kernel
theorem dX4_broken_3 : decode cX4_broken 3 = .ok (.istore_n 2, 1) := by decide +kernel
theorem dX4_broken_4 : decode cX4_broken 4 = .ok (.iload_n 2, 1) := by decide +kernel
theorem dX4_broken_5 : decode cX4_broken 5 = .ok (.aload_n 0, 1) := by decide +kernel
theorem dX4_broken_6 : decode cX4_broken 6 = .ok (.getfield 24, 3) := by decide +kernel
theorem dX4_broken_9 : decode cX4_broken 9 = .ok (.invokevirtual 60, 3) := by decide +kernel
theorem dX4_broken_12 : decode cX4_broken 12 = .ok (.if_icmp .ge 46, 3) := by decide +kernel
theorem dX4_broken_15 : decode cX4_broken 15 = .ok (.iconst 0, 1) := by decide +kernel
theorem dX4_broken_16 : decode cX4_broken 16 = .ok (.istore_n 3, 1) := by decide +kernel
theorem dX4_broken_17 : decode cX4_broken 17 = .ok (.iload_n 3, 1) := by decide +kernel
theorem dX4_broken_18 : decode cX4_broken 18 = .ok (.bipush 20, 2) := by decide +kernel
theorem dX4_broken_20 : decode cX4_broken 20 = .ok (.if_icmp .ge 32, 3) := by decide +kernel
theorem dX4_broken_23 : decode cX4_broken 23 = .ok (.aload_n 0, 1) := by decide +kernel
theorem dX4_broken_24 : decode cX4_broken 24 = .ok (.aload_n 0, 1) := by decide +kernel
theorem dX4_broken_25 : decode cX4_broken 25 = .ok (.getfield 24, 3) := by decide +kernel
theorem dX4_broken_28 : decode cX4_broken 28 = .ok (.iload_n 2, 1) := by decide +kernel
theorem dX4_broken_29 : decode cX4_broken 29 = .ok (.invokevirtual 99, 3) := by decide +kernel
theorem dX4_broken_32 : decode cX4_broken 32 = .ok (.checkcast 280, 3) := by decide +kernel
theorem dX4_broken_35 : decode cX4_broken 35 = .ok (.iload_n 3, 1) := by decide +kernel
theorem dX4_broken_36 : decode cX4_broken 36 = .ok (.invokevirtual 327, 3) := by decide +kernel
theorem dX4_broken_39 : decode cX4_broken 39 = .ok (.iconst 4, 1) := by decide +kernel
theorem dX4_broken_40 : decode cX4_broken 40 = .ok (.if_icmp .ne 6, 3) := by decide +kernel
theorem dX4_broken_43 : decode cX4_broken 43 = .ok (.iinc 1 1, 3) := by decide +kernel
theorem dX4_broken_46 : decode cX4_broken 46 = .ok (.iinc 3 1, 3) := by decide +kernel
theorem dX4_broken_49 : decode cX4_broken 49 = .ok (.goto (-32), 3) := by decide +kernel
theorem dX4_broken_52 : decode cX4_broken 52 = .ok (.iinc 2 1, 3) := by decide +kernel
theorem dX4_broken_55 : decode cX4_broken 55 = .ok (.goto (-51), 3) := by decide +kernel
theorem dX4_broken_58 : decode cX4_broken 58 = .ok (.iload_n 1, 1) := by decide +kernel
theorem dX4_broken_59 : decode cX4_broken 59 = .ok (.ireturn, 1) := by decide +kernel
theorem dX4_stateIn_0 : decode cX4_stateIn 0 = .ok (.aload_n 1, 1) := by decide +kernel
theorem dX4_stateIn_1 : decode cX4_stateIn 1 = .ok (.iload_n 2, 1) := by decide +kernel
theorem dX4_stateIn_2 : decode cX4_stateIn 2 = .ok (.invokestatic 331, 3) := by decide +kernel
theorem dX4_stateIn_5 : decode cX4_stateIn 5 = .ok (.istore_n 3, 1) := by decide +kernel
theorem dX4_stateIn_6 : decode cX4_stateIn 6 = .ok (.iload_n 3, 1) := by decide +kernel
theorem dX4_stateIn_7 : decode cX4_stateIn 7 = .ok (.iconst (-1), 1) := by decide +kernel
theorem dX4_stateIn_8 : decode cX4_stateIn 8 = .ok (.if_icmp .eq 12, 3) := by decide +kernel
theorem dX4_stateIn_11 : decode cX4_stateIn 11 = .ok (.aload_n 0, 1) := by decide +kernel
theorem dX4_stateIn_12 : decode cX4_stateIn 12 = .ok (.aload_n 1, 1) := by decide +kernel
theorem dX4_stateIn_13 : decode cX4_stateIn 13 = .ok (.iload_n 2, 1) := by decide +kernel
theorem dX4_stateIn_14 : decode cX4_stateIn 14 = .ok (.invokevirtual 343, 3) := by decide +kernel
theorem dX4_stateIn_17 : decode cX4_stateIn 17 = .ok (.ifCond .eq 5, 3) := by decide +kernel
theorem dX4_stateIn_20 : decode cX4_stateIn 20 = .ok (.iconst 0, 1) := by decide +kernel
theorem dX4_stateIn_21 : decode cX4_stateIn 21 = .ok (.ireturn, 1) := by decide +kernel
theorem dX4_stateIn_22 : decode cX4_stateIn 22 = .ok (.aload_n 1, 1) := by decide +kernel
theorem dX4_stateIn_23 : decode cX4_stateIn 23 = .ok (.getfield 340, 3) := by decide +kernel
theorem dX4_stateIn_26 : decode cX4_stateIn 26 = .ok (.getfield 113, 3) := by decide +kernel
theorem dX4_stateIn_29 : decode cX4_stateIn 29 = .ok (.iload_n 2, 1) := by decide +kernel
theorem dX4_stateIn_30 : decode cX4_stateIn 30 = .ok (.laload, 1) := by decide +kernel
theorem dX4_stateIn_31 : decode cX4_stateIn 31 = .ok (.lstore 4, 2) := by decide +kernel
theorem dX4_stateIn_33 : decode cX4_stateIn 33 = .ok (.aload_n 1, 1) := by decide +kernel
theorem dX4_stateIn_34 : decode cX4_stateIn 34 = .ok (.getfield 334, 3) := by decide +kernel
theorem dX4_stateIn_37 : decode cX4_stateIn 37 = .ok (.getfield 113, 3) := by decide +kernel
theorem dX4_stateIn_40 : decode cX4_stateIn 40 = .ok (.iload_n 2, 1) := by decide +kernel
theorem dX4_stateIn_41 : decode cX4_stateIn 41 = .ok (.laload, 1) := by decide +kernel
theorem dX4_stateIn_42 : decode cX4_stateIn 42 = .ok (.lstore 6, 2) := by decide +kernel
theorem dX4_stateIn_44 : decode cX4_stateIn 44 = .ok (.lload 4, 2) := by decide +kernel
theorem dX4_stateIn_46 : decode cX4_stateIn 46 = .ok (.lload 6, 2) := by decide +kernel
theorem dX4_stateIn_48 : decode cX4_stateIn 48 = .ok (.iload_n 3, 1) := by decide +kernel
theorem dX4_stateIn_49 : decode cX4_stateIn 49 = .ok (.invokestatic 347, 3) := by decide +kernel
theorem dX4_stateIn_52 : decode cX4_stateIn 52 = .ok (.ifCond .eq 5, 3) := by decide +kernel
theorem dX4_stateIn_55 : decode cX4_stateIn 55 = .ok (.iconst 1, 1) := by decide +kernel
theorem dX4_stateIn_56 : decode cX4_stateIn 56 = .ok (.ireturn, 1) := by decide +kernel
theorem dX4_stateIn_57 : decode cX4_stateIn 57 = .ok (.lload 4, 2) := by decide +kernel
theorem dX4_stateIn_59 : decode cX4_stateIn 59 = .ok (.lload 6, 2) := by decide +kernel
theorem dX4_stateIn_61 : decode cX4_stateIn 61 = .ok (.aload_n 1, 1) := by decide +kernel
theorem dX4_stateIn_62 : decode cX4_stateIn 62 = .ok (.getfield 311, 3) := by decide +kernel
theorem dX4_stateIn_65 : decode cX4_stateIn 65 = .ok (.iload_n 2, 1) := by decide +kernel
theorem dX4_stateIn_66 : decode cX4_stateIn 66 = .ok (.iaload, 1) := by decide +kernel
theorem dX4_stateIn_67 : decode cX4_stateIn 67 = .ok (.i2l, 1) := by decide +kernel
theorem dX4_stateIn_68 : decode cX4_stateIn 68 = .ok (.ladd, 1) := by decide +kernel
theorem dX4_stateIn_69 : decode cX4_stateIn 69 = .ok (.iload_n 3, 1) := by decide +kernel
theorem dX4_stateIn_70 : decode cX4_stateIn 70 = .ok (.invokestatic 347, 3) := by decide +kernel
theorem dX4_stateIn_73 : decode cX4_stateIn 73 = .ok (.ifCond .eq 5, 3) := by decide +kernel
theorem dX4_stateIn_76 : decode cX4_stateIn 76 = .ok (.iconst 2, 1) := by decide +kernel
theorem dX4_stateIn_77 : decode cX4_stateIn 77 = .ok (.ireturn, 1) := by decide +kernel
theorem dX4_stateIn_78 : decode cX4_stateIn 78 = .ok (.aload_n 1, 1) := by decide +kernel
theorem dX4_stateIn_79 : decode cX4_stateIn 79 = .ok (.getfield 323, 3) := by decide +kernel
theorem dX4_stateIn_82 : decode cX4_stateIn 82 = .ok (.iload_n 2, 1) := by decide +kernel
theorem dX4_stateIn_83 : decode cX4_stateIn 83 = .ok (.baload, 1) := by decide +kernel
theorem dX4_stateIn_84 : decode cX4_stateIn 84 = .ok (.ifCond .eq 7, 3) := by decide +kernel
theorem dX4_stateIn_87 : decode cX4_stateIn 87 = .ok (.iconst 3, 1) := by decide +kernel
theorem dX4_stateIn_88 : decode cX4_stateIn 88 = .ok (.goto 4, 3) := by decide +kernel
theorem dX4_stateIn_91 : decode cX4_stateIn 91 = .ok (.iconst 4, 1) := by decide +kernel
theorem dX4_stateIn_92 : decode cX4_stateIn 92 = .ok (.ireturn, 1) := by decide +kernel
theorem dX4_isBelowWake_0 : decode cX4_isBelowWake 0 = .ok (.aload_n 1, 1) := by decide +kernel
theorem dX4_isBelowWake_1 : decode cX4_isBelowWake 1 = .ok (.getfield 303, 3) := by decide +kernel
theorem dX4_isBelowWake_4 : decode cX4_isBelowWake 4 = .ok (.istore_n 3, 1) := by decide +kernel
theorem dX4_isBelowWake_5 : decode cX4_isBelowWake 5 = .ok (.iload_n 3, 1) := by decide +kernel
theorem dX4_isBelowWake_6 : decode cX4_isBelowWake 6 = .ok (.invokestatic 30, 3) := by decide +kernel
theorem dX4_isBelowWake_9 : decode cX4_isBelowWake 9 = .ok (.ifCond .eq 24, 3) := by decide +kernel
theorem dX4_isBelowWake_12 : decode cX4_isBelowWake 12 = .ok (.aload_n 0, 1) := by decide +kernel
theorem dX4_isBelowWake_13 : decode cX4_isBelowWake 13 = .ok (.getfield 11, 3) := by decide +kernel
theorem dX4_isBelowWake_16 : decode cX4_isBelowWake 16 = .ok (.iload_n 3, 1) := by decide +kernel
theorem dX4_isBelowWake_17 : decode cX4_isBelowWake 17 = .ok (.aaload, 1) := by decide +kernel
theorem dX4_isBelowWake_18 : decode cX4_isBelowWake 18 = .ok (.iload_n 2, 1) := by decide +kernel
theorem dX4_isBelowWake_19 : decode cX4_isBelowWake 19 = .ok (.laload, 1) := by decide +kernel
theorem dX4_isBelowWake_20 : decode cX4_isBelowWake 20 = .ok (.aload_n 1, 1) := by decide +kernel
theorem dX4_isBelowWake_21 : decode cX4_isBelowWake 21 = .ok (.getfield 306, 3) := by decide +kernel
theorem dX4_isBelowWake_24 : decode cX4_isBelowWake 24 = .ok (.i2l, 1) := by decide +kernel
theorem dX4_isBelowWake_25 : decode cX4_isBelowWake 25 = .ok (.lcmp, 1) := by decide +kernel
theorem dX4_isBelowWake_26 : decode cX4_isBelowWake 26 = .ok (.ifCond .ge 7, 3) := by decide +kernel
theorem dX4_isBelowWake_29 : decode cX4_isBelowWake 29 = .ok (.iconst 1, 1) := by decide +kernel
theorem dX4_isBelowWake_30 : decode cX4_isBelowWake 30 = .ok (.goto 4, 3) := by decide +kernel
theorem dX4_isBelowWake_33 : decode cX4_isBelowWake 33 = .ok (.iconst 0, 1) := by decide +kernel
theorem dX4_isBelowWake_34 : decode cX4_isBelowWake 34 = .ok (.ireturn, 1) := by decide +kernel
theorem dX4_isKept_0 : decode cX4_isKept 0 = .ok (.lload_n 2, 1) := by decide +kernel
theorem dX4_isKept_1 : decode cX4_isKept 1 = .ok (.lconst 0, 1) := by decide +kernel
theorem dX4_isKept_2 : decode cX4_isKept 2 = .ok (.lcmp, 1) := by decide +kernel
theorem dX4_isKept_3 : decode cX4_isKept 3 = .ok (.ifCond .le 21, 3) := by decide +kernel
theorem dX4_isKept_6 : decode cX4_isKept 6 = .ok (.ldc2_w 273, 3) := by decide +kernel
theorem dX4_isKept_9 : decode cX4_isKept 9 = .ok (.lload_n 0, 1) := by decide +kernel
theorem dX4_isKept_10 : decode cX4_isKept 10 = .ok (.lmul, 1) := by decide +kernel
theorem dX4_isKept_11 : decode cX4_isKept 11 = .ok (.iload 4, 2) := by decide +kernel
theorem dX4_isKept_13 : decode cX4_isKept 13 = .ok (.i2l, 1) := by decide +kernel
theorem dX4_isKept_14 : decode cX4_isKept 14 = .ok (.lload_n 2, 1) := by decide +kernel
theorem dX4_isKept_15 : decode cX4_isKept 15 = .ok (.lmul, 1) := by decide +kernel
theorem dX4_isKept_16 : decode cX4_isKept 16 = .ok (.lcmp, 1) := by decide +kernel
theorem dX4_isKept_17 : decode cX4_isKept 17 = .ok (.ifCond .gt 7, 3) := by decide +kernel
theorem dX4_isKept_20 : decode cX4_isKept 20 = .ok (.iconst 1, 1) := by decide +kernel
theorem dX4_isKept_21 : decode cX4_isKept 21 = .ok (.goto 4, 3) := by decide +kernel
theorem dX4_isKept_24 : decode cX4_isKept 24 = .ok (.iconst 0, 1) := by decide +kernel
theorem dX4_isKept_25 : decode cX4_isKept 25 = .ok (.ireturn, 1) := by decide +kernel
theorem dX4_limitIn_0 : decode cX4_limitIn 0 = .ok (.iload_n 1, 1) := by decide +kernel
theorem dX4_limitIn_1 : decode cX4_limitIn 1 = .ok (.istore_n 2, 1) := by decide +kernel
theorem dX4_limitIn_2 : decode cX4_limitIn 2 = .ok (.iload_n 2, 1) := by decide +kernel
theorem dX4_limitIn_3 : decode cX4_limitIn 3 = .ok (.ifCond .lt 26, 3) := by decide +kernel
theorem dX4_limitIn_6 : decode cX4_limitIn 6 = .ok (.aload_n 0, 1) := by decide +kernel
theorem dX4_limitIn_7 : decode cX4_limitIn 7 = .ok (.getfield 292, 3) := by decide +kernel
theorem dX4_limitIn_10 : decode cX4_limitIn 10 = .ok (.iload_n 2, 1) := by decide +kernel
theorem dX4_limitIn_11 : decode cX4_limitIn 11 = .ok (.iaload, 1) := by decide +kernel
theorem dX4_limitIn_12 : decode cX4_limitIn 12 = .ok (.iconst (-1), 1) := by decide +kernel
theorem dX4_limitIn_13 : decode cX4_limitIn 13 = .ok (.if_icmp .eq 10, 3) := by decide +kernel
theorem dX4_limitIn_16 : decode cX4_limitIn 16 = .ok (.aload_n 0, 1) := by decide +kernel
theorem dX4_limitIn_17 : decode cX4_limitIn 17 = .ok (.getfield 292, 3) := by decide +kernel
theorem dX4_limitIn_20 : decode cX4_limitIn 20 = .ok (.iload_n 2, 1) := by decide +kernel
theorem dX4_limitIn_21 : decode cX4_limitIn 21 = .ok (.iaload, 1) := by decide +kernel
theorem dX4_limitIn_22 : decode cX4_limitIn 22 = .ok (.ireturn, 1) := by decide +kernel
theorem dX4_limitIn_23 : decode cX4_limitIn 23 = .ok (.iinc 2 (-1), 3) := by decide +kernel
theorem dX4_limitIn_26 : decode cX4_limitIn 26 = .ok (.goto (-24), 3) := by decide +kernel
theorem dX4_limitIn_29 : decode cX4_limitIn 29 = .ok (.iconst (-1), 1) := by decide +kernel
theorem dX4_limitIn_30 : decode cX4_limitIn 30 = .ok (.ireturn, 1) := by decide +kernel
theorem dX4_hasCureLeft_0 : decode cX4_hasCureLeft 0 = .ok (.iload_n 1, 1) := by decide +kernel
theorem dX4_hasCureLeft_1 : decode cX4_hasCureLeft 1 = .ok (.iconst 4, 1) := by decide +kernel
theorem dX4_hasCureLeft_2 : decode cX4_hasCureLeft 2 = .ok (.isub, 1) := by decide +kernel
theorem dX4_hasCureLeft_3 : decode cX4_hasCureLeft 3 = .ok (.iconst 1, 1) := by decide +kernel
theorem dX4_hasCureLeft_4 : decode cX4_hasCureLeft 4 = .ok (.iadd, 1) := by decide +kernel
theorem dX4_hasCureLeft_5 : decode cX4_hasCureLeft 5 = .ok (.istore_n 2, 1) := by decide +kernel
theorem dX4_hasCureLeft_6 : decode cX4_hasCureLeft 6 = .ok (.iload_n 2, 1) := by decide +kernel
theorem dX4_hasCureLeft_7 : decode cX4_hasCureLeft 7 = .ok (.iload_n 1, 1) := by decide +kernel
theorem dX4_hasCureLeft_8 : decode cX4_hasCureLeft 8 = .ok (.if_icmp .gt 20, 3) := by decide +kernel
theorem dX4_hasCureLeft_11 : decode cX4_hasCureLeft 11 = .ok (.aload_n 0, 1) := by decide +kernel
theorem dX4_hasCureLeft_12 : decode cX4_hasCureLeft 12 = .ok (.iload_n 2, 1) := by decide +kernel
theorem dX4_hasCureLeft_13 : decode cX4_hasCureLeft 13 = .ok (.invokestatic 351, 3) := by decide +kernel
theorem dX4_hasCureLeft_16 : decode cX4_hasCureLeft 16 = .ok (.iconst 2, 1) := by decide +kernel
theorem dX4_hasCureLeft_17 : decode cX4_hasCureLeft 17 = .ok (.if_icmp .lt 5, 3) := by decide +kernel
theorem dX4_hasCureLeft_20 : decode cX4_hasCureLeft 20 = .ok (.iconst 0, 1) := by decide +kernel
theorem dX4_hasCureLeft_21 : decode cX4_hasCureLeft 21 = .ok (.ireturn, 1) := by decide +kernel
theorem dX4_hasCureLeft_22 : decode cX4_hasCureLeft 22 = .ok (.iinc 2 1, 3) := by decide +kernel
theorem dX4_hasCureLeft_25 : decode cX4_hasCureLeft 25 = .ok (.goto (-19), 3) := by decide +kernel
theorem dX4_hasCureLeft_28 : decode cX4_hasCureLeft 28 = .ok (.iconst 1, 1) := by decide +kernel
theorem dX4_hasCureLeft_29 : decode cX4_hasCureLeft 29 = .ok (.ireturn, 1) := by decide +kernel
theorem dX4_curesFrom_0 : decode cX4_curesFrom 0 = .ok (.iconst 0, 1) := by decide +kernel
theorem dX4_curesFrom_1 : decode cX4_curesFrom 1 = .ok (.istore_n 2, 1) := by decide +kernel
theorem dX4_curesFrom_2 : decode cX4_curesFrom 2 = .ok (.iload_n 1, 1) := by decide +kernel
theorem dX4_curesFrom_3 : decode cX4_curesFrom 3 = .ok (.istore_n 3, 1) := by decide +kernel
theorem dX4_curesFrom_4 : decode cX4_curesFrom 4 = .ok (.iload_n 3, 1) := by decide +kernel
theorem dX4_curesFrom_5 : decode cX4_curesFrom 5 = .ok (.iload_n 1, 1) := by decide +kernel
theorem dX4_curesFrom_6 : decode cX4_curesFrom 6 = .ok (.iconst 4, 1) := by decide +kernel
theorem dX4_curesFrom_7 : decode cX4_curesFrom 7 = .ok (.iadd, 1) := by decide +kernel
theorem dX4_curesFrom_8 : decode cX4_curesFrom 8 = .ok (.if_icmp .ge 25, 3) := by decide +kernel
theorem dX4_curesFrom_11 : decode cX4_curesFrom 11 = .ok (.iload_n 3, 1) := by decide +kernel
theorem dX4_curesFrom_12 : decode cX4_curesFrom 12 = .ok (.invokestatic 34, 3) := by decide +kernel
theorem dX4_curesFrom_15 : decode cX4_curesFrom 15 = .ok (.ifCond .eq 12, 3) := by decide +kernel
theorem dX4_curesFrom_18 : decode cX4_curesFrom 18 = .ok (.aload_n 0, 1) := by decide +kernel
theorem dX4_curesFrom_19 : decode cX4_curesFrom 19 = .ok (.iload_n 3, 1) := by decide +kernel
theorem dX4_curesFrom_20 : decode cX4_curesFrom 20 = .ok (.iaload, 1) := by decide +kernel
theorem dX4_curesFrom_21 : decode cX4_curesFrom 21 = .ok (.ifCond .eq 6, 3) := by decide +kernel
theorem dX4_curesFrom_24 : decode cX4_curesFrom 24 = .ok (.iinc 2 1, 3) := by decide +kernel
theorem dX4_curesFrom_27 : decode cX4_curesFrom 27 = .ok (.iinc 3 1, 3) := by decide +kernel
theorem dX4_curesFrom_30 : decode cX4_curesFrom 30 = .ok (.goto (-26), 3) := by decide +kernel
theorem dX4_curesFrom_33 : decode cX4_curesFrom 33 = .ok (.iload_n 2, 1) := by decide +kernel
theorem dX4_curesFrom_34 : decode cX4_curesFrom 34 = .ok (.ireturn, 1) := by decide +kernel
theorem dX4_basket_0 : decode cX4_basket 0 = .ok (.iload_n 1, 1) := by decide +kernel
theorem dX4_basket_1 : decode cX4_basket 1 = .ok (.iconst 0, 1) := by decide +kernel
theorem dX4_basket_2 : decode cX4_basket 2 = .ok (.ldc 45, 2) := by decide +kernel
theorem dX4_basket_4 : decode cX4_basket 4 = .ok (.invokestatic 46, 3) := by decide +kernel
theorem dX4_basket_7 : decode cX4_basket 7 = .ok (.ifCond .eq 13, 3) := by decide +kernel
theorem dX4_basket_10 : decode cX4_basket 10 = .ok (.iload_n 3, 1) := by decide +kernel
theorem dX4_basket_11 : decode cX4_basket 11 = .ok (.iconst 0, 1) := by decide +kernel
theorem dX4_basket_12 : decode cX4_basket 12 = .ok (.bipush 100, 2) := by decide +kernel
theorem dX4_basket_14 : decode cX4_basket 14 = .ok (.invokestatic 46, 3) := by decide +kernel
theorem dX4_basket_17 : decode cX4_basket 17 = .ok (.ifCond .ne 14, 3) := by decide +kernel
theorem dX4_basket_20 : decode cX4_basket 20 = .ok (.new 50, 3) := by decide +kernel
theorem dX4_basket_23 : decode cX4_basket 23 = .ok (.dup, 1) := by decide +kernel
theorem dX4_basket_24 : decode cX4_basket 24 = .ok (.ldc_w 355, 3) := by decide +kernel
theorem dX4_basket_27 : decode cX4_basket 27 = .ok (.invokespecial 54, 3) := by decide +kernel
theorem dX4_basket_30 : decode cX4_basket 30 = .ok (.athrow, 1) := by decide +kernel
theorem dX4_basket_31 : decode cX4_basket 31 = .ok (.aload_n 0, 1) := by decide +kernel
theorem dX4_basket_32 : decode cX4_basket 32 = .ok (.iload_n 2, 1) := by decide +kernel
theorem dX4_basket_33 : decode cX4_basket 33 = .ok (.invokevirtual 94, 3) := by decide +kernel
theorem dX4_basket_36 : decode cX4_basket 36 = .ok (.ifCond .ne 13, 3) := by decide +kernel
theorem dX4_basket_39 : decode cX4_basket 39 = .ok (.new 37, 3) := by decide +kernel
theorem dX4_basket_42 : decode cX4_basket 42 = .ok (.dup, 1) := by decide +kernel
theorem dX4_basket_43 : decode cX4_basket 43 = .ok (.ldc 97, 2) := by decide +kernel
theorem dX4_basket_45 : decode cX4_basket 45 = .ok (.invokespecial 41, 3) := by decide +kernel
theorem dX4_basket_48 : decode cX4_basket 48 = .ok (.athrow, 1) := by decide +kernel
theorem dX4_basket_49 : decode cX4_basket 49 = .ok (.aload_n 0, 1) := by decide +kernel
theorem dX4_basket_50 : decode cX4_basket 50 = .ok (.getfield 27, 3) := by decide +kernel
theorem dX4_basket_53 : decode cX4_basket 53 = .ok (.invokevirtual 60, 3) := by decide +kernel
theorem dX4_basket_56 : decode cX4_basket 56 = .ok (.bipush 6, 2) := by decide +kernel
theorem dX4_basket_58 : decode cX4_basket 58 = .ok (.if_icmp .lt 14, 3) := by decide +kernel
theorem dX4_basket_61 : decode cX4_basket 61 = .ok (.new 64, 3) := by decide +kernel
theorem dX4_basket_64 : decode cX4_basket 64 = .ok (.dup, 1) := by decide +kernel
theorem dX4_basket_65 : decode cX4_basket 65 = .ok (.ldc_w 357, 3) := by decide +kernel
theorem dX4_basket_68 : decode cX4_basket 68 = .ok (.invokespecial 68, 3) := by decide +kernel
theorem dX4_basket_71 : decode cX4_basket 71 = .ok (.athrow, 1) := by decide +kernel
theorem dX4_basket_72 : decode cX4_basket 72 = .ok (.aload_n 0, 1) := by decide +kernel
theorem dX4_basket_73 : decode cX4_basket 73 = .ok (.getfield 27, 3) := by decide +kernel
theorem dX4_basket_76 : decode cX4_basket 76 = .ok (.new 359, 3) := by decide +kernel
theorem dX4_basket_79 : decode cX4_basket 79 = .ok (.dup, 1) := by decide +kernel
theorem dX4_basket_80 : decode cX4_basket 80 = .ok (.iload_n 1, 1) := by decide +kernel
theorem dX4_basket_81 : decode cX4_basket 81 = .ok (.aload_n 0, 1) := by decide +kernel
theorem dX4_basket_82 : decode cX4_basket 82 = .ok (.getfield 21, 3) := by decide +kernel
theorem dX4_basket_85 : decode cX4_basket 85 = .ok (.iload_n 2, 1) := by decide +kernel
theorem dX4_basket_86 : decode cX4_basket 86 = .ok (.invokevirtual 99, 3) := by decide +kernel
theorem dX4_basket_89 : decode cX4_basket 89 = .ok (.checkcast 103, 3) := by decide +kernel
theorem dX4_basket_92 : decode cX4_basket 92 = .ok (.iload_n 3, 1) := by decide +kernel
theorem dX4_basket_93 : decode cX4_basket 93 = .ok (.invokespecial 361, 3) := by decide +kernel
theorem dX4_basket_96 : decode cX4_basket 96 = .ok (.invokevirtual 155, 3) := by decide +kernel
theorem dX4_basket_99 : decode cX4_basket 99 = .ok (.pop, 1) := by decide +kernel
theorem dX4_basket_100 : decode cX4_basket 100 = .ok (.aload_n 0, 1) := by decide +kernel
theorem dX4_basket_101 : decode cX4_basket 101 = .ok (.getfield 27, 3) := by decide +kernel
theorem dX4_basket_104 : decode cX4_basket 104 = .ok (.invokevirtual 60, 3) := by decide +kernel
theorem dX4_basket_107 : decode cX4_basket 107 = .ok (.iconst 1, 1) := by decide +kernel
theorem dX4_basket_108 : decode cX4_basket 108 = .ok (.isub, 1) := by decide +kernel
theorem dX4_basket_109 : decode cX4_basket 109 = .ok (.ireturn, 1) := by decide +kernel
theorem dX4_size_0 : decode cX4_size 0 = .ok (.aload_n 0, 1) := by decide +kernel
theorem dX4_size_1 : decode cX4_size 1 = .ok (.iload_n 1, 1) := by decide +kernel
theorem dX4_size_2 : decode cX4_size 2 = .ok (.invokevirtual 364, 3) := by decide +kernel
theorem dX4_size_5 : decode cX4_size 5 = .ok (.ifCond .eq 10, 3) := by decide +kernel
theorem dX4_size_8 : decode cX4_size 8 = .ok (.iload_n 2, 1) := by decide +kernel
theorem dX4_size_9 : decode cX4_size 9 = .ok (.invokestatic 34, 3) := by decide +kernel
theorem dX4_size_12 : decode cX4_size 12 = .ok (.ifCond .ne 14, 3) := by decide +kernel
theorem dX4_size_15 : decode cX4_size 15 = .ok (.new 37, 3) := by decide +kernel
theorem dX4_size_18 : decode cX4_size 18 = .ok (.dup, 1) := by decide +kernel
theorem dX4_size_19 : decode cX4_size 19 = .ok (.ldc_w 367, 3) := by decide +kernel
theorem dX4_size_22 : decode cX4_size 22 = .ok (.invokespecial 41, 3) := by decide +kernel
theorem dX4_size_25 : decode cX4_size 25 = .ok (.athrow, 1) := by decide +kernel
theorem dX4_size_26 : decode cX4_size 26 = .ok (.aload_n 0, 1) := by decide +kernel
theorem dX4_size_27 : decode cX4_size 27 = .ok (.getfield 27, 3) := by decide +kernel
theorem dX4_size_30 : decode cX4_size 30 = .ok (.iload_n 1, 1) := by decide +kernel
theorem dX4_size_31 : decode cX4_size 31 = .ok (.invokevirtual 99, 3) := by decide +kernel
theorem dX4_size_34 : decode cX4_size 34 = .ok (.checkcast 359, 3) := by decide +kernel
theorem dX4_size_37 : decode cX4_size 37 = .ok (.iload_n 2, 1) := by decide +kernel
theorem dX4_size_38 : decode cX4_size 38 = .ok (.invokestatic 369, 3) := by decide +kernel
theorem dX4_size_41 : decode cX4_size 41 = .ok (.lreturn, 1) := by decide +kernel
theorem dX4_use_0 : decode cX4_use 0 = .ok (.aload_n 0, 1) := by decide +kernel
theorem dX4_use_1 : decode cX4_use 1 = .ok (.iload_n 1, 1) := by decide +kernel
theorem dX4_use_2 : decode cX4_use 2 = .ok (.invokevirtual 364, 3) := by decide +kernel
theorem dX4_use_5 : decode cX4_use 5 = .ok (.ifCond .eq 10, 3) := by decide +kernel
theorem dX4_use_8 : decode cX4_use 8 = .ok (.iload_n 2, 1) := by decide +kernel
theorem dX4_use_9 : decode cX4_use 9 = .ok (.invokestatic 34, 3) := by decide +kernel
theorem dX4_use_12 : decode cX4_use 12 = .ok (.ifCond .ne 14, 3) := by decide +kernel
theorem dX4_use_15 : decode cX4_use 15 = .ok (.new 37, 3) := by decide +kernel
theorem dX4_use_18 : decode cX4_use 18 = .ok (.dup, 1) := by decide +kernel
theorem dX4_use_19 : decode cX4_use 19 = .ok (.ldc_w 367, 3) := by decide +kernel
theorem dX4_use_22 : decode cX4_use 22 = .ok (.invokespecial 41, 3) := by decide +kernel
theorem dX4_use_25 : decode cX4_use 25 = .ok (.athrow, 1) := by decide +kernel
theorem dX4_use_26 : decode cX4_use 26 = .ok (.iload_n 3, 1) := by decide +kernel
theorem dX4_use_27 : decode cX4_use 27 = .ok (.iconst 1, 1) := by decide +kernel
theorem dX4_use_28 : decode cX4_use 28 = .ok (.ldc 45, 2) := by decide +kernel
theorem dX4_use_30 : decode cX4_use 30 = .ok (.invokestatic 46, 3) := by decide +kernel
theorem dX4_use_33 : decode cX4_use 33 = .ok (.ifCond .ne 13, 3) := by decide +kernel
theorem dX4_use_36 : decode cX4_use 36 = .ok (.new 50, 3) := by decide +kernel
theorem dX4_use_39 : decode cX4_use 39 = .ok (.dup, 1) := by decide +kernel
theorem dX4_use_40 : decode cX4_use 40 = .ok (.ldc 52, 2) := by decide +kernel
theorem dX4_use_42 : decode cX4_use 42 = .ok (.invokespecial 54, 3) := by decide +kernel
theorem dX4_use_45 : decode cX4_use 45 = .ok (.athrow, 1) := by decide +kernel
theorem dX4_use_46 : decode cX4_use 46 = .ok (.aload_n 0, 1) := by decide +kernel
theorem dX4_use_47 : decode cX4_use 47 = .ok (.getfield 27, 3) := by decide +kernel
theorem dX4_use_50 : decode cX4_use 50 = .ok (.iload_n 1, 1) := by decide +kernel
theorem dX4_use_51 : decode cX4_use 51 = .ok (.invokevirtual 99, 3) := by decide +kernel
theorem dX4_use_54 : decode cX4_use 54 = .ok (.checkcast 359, 3) := by decide +kernel
theorem dX4_use_57 : decode cX4_use 57 = .ok (.astore 4, 2) := by decide +kernel
theorem dX4_use_59 : decode cX4_use 59 = .ok (.aload 4, 2) := by decide +kernel
theorem dX4_use_61 : decode cX4_use 61 = .ok (.getfield 373, 3) := by decide +kernel
theorem dX4_use_64 : decode cX4_use 64 = .ok (.iload_n 3, 1) := by decide +kernel
theorem dX4_use_65 : decode cX4_use 65 = .ok (.i2l, 1) := by decide +kernel
theorem dX4_use_66 : decode cX4_use 66 = .ok (.ladd, 1) := by decide +kernel
theorem dX4_use_67 : decode cX4_use 67 = .ok (.aload 4, 2) := by decide +kernel
theorem dX4_use_69 : decode cX4_use 69 = .ok (.iload_n 2, 1) := by decide +kernel
theorem dX4_use_70 : decode cX4_use 70 = .ok (.invokestatic 369, 3) := by decide +kernel
theorem dX4_use_73 : decode cX4_use 73 = .ok (.lcmp, 1) := by decide +kernel
theorem dX4_use_74 : decode cX4_use 74 = .ok (.ifCond .le 14, 3) := by decide +kernel
theorem dX4_use_77 : decode cX4_use 77 = .ok (.new 64, 3) := by decide +kernel
theorem dX4_use_80 : decode cX4_use 80 = .ok (.dup, 1) := by decide +kernel
theorem dX4_use_81 : decode cX4_use 81 = .ok (.ldc_w 377, 3) := by decide +kernel
theorem dX4_use_84 : decode cX4_use 84 = .ok (.invokespecial 68, 3) := by decide +kernel
theorem dX4_use_87 : decode cX4_use 87 = .ok (.athrow, 1) := by decide +kernel
theorem dX4_use_88 : decode cX4_use 88 = .ok (.aload 4, 2) := by decide +kernel
theorem dX4_use_90 : decode cX4_use 90 = .ok (.dup, 1) := by decide +kernel
theorem dX4_use_91 : decode cX4_use 91 = .ok (.getfield 373, 3) := by decide +kernel
theorem dX4_use_94 : decode cX4_use 94 = .ok (.iload_n 3, 1) := by decide +kernel
theorem dX4_use_95 : decode cX4_use 95 = .ok (.i2l, 1) := by decide +kernel
theorem dX4_use_96 : decode cX4_use 96 = .ok (.ladd, 1) := by decide +kernel
theorem dX4_use_97 : decode cX4_use 97 = .ok (.putfield 373, 3) := by decide +kernel
theorem dX4_use_100 : decode cX4_use 100 = .ok (.aload 4, 2) := by decide +kernel
theorem dX4_use_102 : decode cX4_use 102 = .ok (.getfield 373, 3) := by decide +kernel
theorem dX4_use_105 : decode cX4_use 105 = .ok (.lreturn, 1) := by decide +kernel
theorem dX4_refill_0 : decode cX4_refill 0 = .ok (.aload_n 0, 1) := by decide +kernel
theorem dX4_refill_1 : decode cX4_refill 1 = .ok (.iload_n 1, 1) := by decide +kernel
theorem dX4_refill_2 : decode cX4_refill 2 = .ok (.invokevirtual 364, 3) := by decide +kernel
theorem dX4_refill_5 : decode cX4_refill 5 = .ok (.ifCond .ne 14, 3) := by decide +kernel
theorem dX4_refill_8 : decode cX4_refill 8 = .ok (.new 37, 3) := by decide +kernel
theorem dX4_refill_11 : decode cX4_refill 11 = .ok (.dup, 1) := by decide +kernel
theorem dX4_refill_12 : decode cX4_refill 12 = .ok (.ldc_w 379, 3) := by decide +kernel
theorem dX4_refill_15 : decode cX4_refill 15 = .ok (.invokespecial 41, 3) := by decide +kernel
theorem dX4_refill_18 : decode cX4_refill 18 = .ok (.athrow, 1) := by decide +kernel
theorem dX4_refill_19 : decode cX4_refill 19 = .ok (.iload_n 2, 1) := by decide +kernel
theorem dX4_refill_20 : decode cX4_refill 20 = .ok (.iconst 1, 1) := by decide +kernel
theorem dX4_refill_21 : decode cX4_refill 21 = .ok (.ldc 45, 2) := by decide +kernel
theorem dX4_refill_23 : decode cX4_refill 23 = .ok (.invokestatic 46, 3) := by decide +kernel
theorem dX4_refill_26 : decode cX4_refill 26 = .ok (.ifCond .ne 13, 3) := by decide +kernel
theorem dX4_refill_29 : decode cX4_refill 29 = .ok (.new 50, 3) := by decide +kernel
theorem dX4_refill_32 : decode cX4_refill 32 = .ok (.dup, 1) := by decide +kernel
theorem dX4_refill_33 : decode cX4_refill 33 = .ok (.ldc 52, 2) := by decide +kernel
theorem dX4_refill_35 : decode cX4_refill 35 = .ok (.invokespecial 54, 3) := by decide +kernel
theorem dX4_refill_38 : decode cX4_refill 38 = .ok (.athrow, 1) := by decide +kernel
theorem dX4_refill_39 : decode cX4_refill 39 = .ok (.aload_n 0, 1) := by decide +kernel
theorem dX4_refill_40 : decode cX4_refill 40 = .ok (.getfield 27, 3) := by decide +kernel
theorem dX4_refill_43 : decode cX4_refill 43 = .ok (.iload_n 1, 1) := by decide +kernel
theorem dX4_refill_44 : decode cX4_refill 44 = .ok (.invokevirtual 99, 3) := by decide +kernel
theorem dX4_refill_47 : decode cX4_refill 47 = .ok (.checkcast 359, 3) := by decide +kernel
theorem dX4_refill_50 : decode cX4_refill 50 = .ok (.astore_n 3, 1) := by decide +kernel
theorem dX4_refill_51 : decode cX4_refill 51 = .ok (.aload_n 3, 1) := by decide +kernel
theorem dX4_refill_52 : decode cX4_refill 52 = .ok (.getfield 373, 3) := by decide +kernel
theorem dX4_refill_55 : decode cX4_refill 55 = .ok (.iload_n 2, 1) := by decide +kernel
theorem dX4_refill_56 : decode cX4_refill 56 = .ok (.i2l, 1) := by decide +kernel
theorem dX4_refill_57 : decode cX4_refill 57 = .ok (.lcmp, 1) := by decide +kernel
theorem dX4_refill_58 : decode cX4_refill 58 = .ok (.ifCond .ge 14, 3) := by decide +kernel
theorem dX4_refill_61 : decode cX4_refill 61 = .ok (.new 64, 3) := by decide +kernel
theorem dX4_refill_64 : decode cX4_refill 64 = .ok (.dup, 1) := by decide +kernel
theorem dX4_refill_65 : decode cX4_refill 65 = .ok (.ldc_w 381, 3) := by decide +kernel
theorem dX4_refill_68 : decode cX4_refill 68 = .ok (.invokespecial 68, 3) := by decide +kernel
theorem dX4_refill_71 : decode cX4_refill 71 = .ok (.athrow, 1) := by decide +kernel
theorem dX4_refill_72 : decode cX4_refill 72 = .ok (.aload_n 3, 1) := by decide +kernel
theorem dX4_refill_73 : decode cX4_refill 73 = .ok (.dup, 1) := by decide +kernel
theorem dX4_refill_74 : decode cX4_refill 74 = .ok (.getfield 373, 3) := by decide +kernel
theorem dX4_refill_77 : decode cX4_refill 77 = .ok (.iload_n 2, 1) := by decide +kernel
theorem dX4_refill_78 : decode cX4_refill 78 = .ok (.i2l, 1) := by decide +kernel
theorem dX4_refill_79 : decode cX4_refill 79 = .ok (.lsub, 1) := by decide +kernel
theorem dX4_refill_80 : decode cX4_refill 80 = .ok (.putfield 373, 3) := by decide +kernel
theorem dX4_refill_83 : decode cX4_refill 83 = .ok (.aload_n 3, 1) := by decide +kernel
theorem dX4_refill_84 : decode cX4_refill 84 = .ok (.getfield 373, 3) := by decide +kernel
theorem dX4_refill_87 : decode cX4_refill 87 = .ok (.lreturn, 1) := by decide +kernel
theorem dX4_sizeIn_0 : decode cX4_sizeIn 0 = .ok (.aload_n 0, 1) := by decide +kernel
theorem dX4_sizeIn_1 : decode cX4_sizeIn 1 = .ok (.getfield 383, 3) := by decide +kernel
theorem dX4_sizeIn_4 : decode cX4_sizeIn 4 = .ok (.getfield 113, 3) := by decide +kernel
theorem dX4_sizeIn_7 : decode cX4_sizeIn 7 = .ok (.iload_n 1, 1) := by decide +kernel
theorem dX4_sizeIn_8 : decode cX4_sizeIn 8 = .ok (.laload, 1) := by decide +kernel
theorem dX4_sizeIn_9 : decode cX4_sizeIn 9 = .ok (.lstore_n 2, 1) := by decide +kernel
theorem dX4_sizeIn_10 : decode cX4_sizeIn 10 = .ok (.lload_n 2, 1) := by decide +kernel
theorem dX4_sizeIn_11 : decode cX4_sizeIn 11 = .ok (.lconst 0, 1) := by decide +kernel
theorem dX4_sizeIn_12 : decode cX4_sizeIn 12 = .ok (.lcmp, 1) := by decide +kernel
theorem dX4_sizeIn_13 : decode cX4_sizeIn 13 = .ok (.ifCond .le 20, 3) := by decide +kernel
theorem dX4_sizeIn_16 : decode cX4_sizeIn 16 = .ok (.aload_n 0, 1) := by decide +kernel
theorem dX4_sizeIn_17 : decode cX4_sizeIn 17 = .ok (.getfield 386, 3) := by decide +kernel
theorem dX4_sizeIn_20 : decode cX4_sizeIn 20 = .ok (.i2l, 1) := by decide +kernel
theorem dX4_sizeIn_21 : decode cX4_sizeIn 21 = .ok (.lload_n 2, 1) := by decide +kernel
theorem dX4_sizeIn_22 : decode cX4_sizeIn 22 = .ok (.aload_n 0, 1) := by decide +kernel
theorem dX4_sizeIn_23 : decode cX4_sizeIn 23 = .ok (.getfield 389, 3) := by decide +kernel
theorem dX4_sizeIn_26 : decode cX4_sizeIn 26 = .ok (.invokestatic 254, 3) := by decide +kernel
theorem dX4_sizeIn_29 : decode cX4_sizeIn 29 = .ok (.ladd, 1) := by decide +kernel
theorem dX4_sizeIn_30 : decode cX4_sizeIn 30 = .ok (.goto 8, 3) := by decide +kernel
theorem dX4_sizeIn_33 : decode cX4_sizeIn 33 = .ok (.aload_n 0, 1) := by decide +kernel
theorem dX4_sizeIn_34 : decode cX4_sizeIn 34 = .ok (.getfield 386, 3) := by decide +kernel
theorem dX4_sizeIn_37 : decode cX4_sizeIn 37 = .ok (.i2l, 1) := by decide +kernel
theorem dX4_sizeIn_38 : decode cX4_sizeIn 38 = .ok (.lreturn, 1) := by decide +kernel
theorem dX4_isWithin_0 : decode cX4_isWithin 0 = .ok (.iload_n 0, 1) := by decide +kernel
theorem dX4_isWithin_1 : decode cX4_isWithin 1 = .ok (.iload_n 1, 1) := by decide +kernel
theorem dX4_isWithin_2 : decode cX4_isWithin 2 = .ok (.if_icmp .lt 12, 3) := by decide +kernel
theorem dX4_isWithin_5 : decode cX4_isWithin 5 = .ok (.iload_n 0, 1) := by decide +kernel
theorem dX4_isWithin_6 : decode cX4_isWithin 6 = .ok (.iload_n 2, 1) := by decide +kernel
theorem dX4_isWithin_7 : decode cX4_isWithin 7 = .ok (.if_icmp .gt 7, 3) := by decide +kernel
theorem dX4_isWithin_10 : decode cX4_isWithin 10 = .ok (.iconst 1, 1) := by decide +kernel
theorem dX4_isWithin_11 : decode cX4_isWithin 11 = .ok (.goto 4, 3) := by decide +kernel
theorem dX4_isWithin_14 : decode cX4_isWithin 14 = .ok (.iconst 0, 1) := by decide +kernel
theorem dX4_isWithin_15 : decode cX4_isWithin 15 = .ok (.ireturn, 1) := by decide +kernel
theorem dX4_isAccount_0 : decode cX4_isAccount 0 = .ok (.iload_n 0, 1) := by decide +kernel
theorem dX4_isAccount_1 : decode cX4_isAccount 1 = .ok (.ifCond .lt 13, 3) := by decide +kernel
theorem dX4_isAccount_4 : decode cX4_isAccount 4 = .ok (.iload_n 0, 1) := by decide +kernel
theorem dX4_isAccount_5 : decode cX4_isAccount 5 = .ok (.bipush 6, 2) := by decide +kernel
theorem dX4_isAccount_7 : decode cX4_isAccount 7 = .ok (.if_icmp .ge 7, 3) := by decide +kernel
theorem dX4_isAccount_10 : decode cX4_isAccount 10 = .ok (.iconst 1, 1) := by decide +kernel
theorem dX4_isAccount_11 : decode cX4_isAccount 11 = .ok (.goto 4, 3) := by decide +kernel
theorem dX4_isAccount_14 : decode cX4_isAccount 14 = .ok (.iconst 0, 1) := by decide +kernel
theorem dX4_isAccount_15 : decode cX4_isAccount 15 = .ok (.ireturn, 1) := by decide +kernel
theorem dX4_isQuarter_0 : decode cX4_isQuarter 0 = .ok (.iload_n 0, 1) := by decide +kernel
theorem dX4_isQuarter_1 : decode cX4_isQuarter 1 = .ok (.ifCond .lt 13, 3) := by decide +kernel
theorem dX4_isQuarter_4 : decode cX4_isQuarter 4 = .ok (.iload_n 0, 1) := by decide +kernel
theorem dX4_isQuarter_5 : decode cX4_isQuarter 5 = .ok (.bipush 20, 2) := by decide +kernel
theorem dX4_isQuarter_7 : decode cX4_isQuarter 7 = .ok (.if_icmp .ge 7, 3) := by decide +kernel
theorem dX4_isQuarter_10 : decode cX4_isQuarter 10 = .ok (.iconst 1, 1) := by decide +kernel
theorem dX4_isQuarter_11 : decode cX4_isQuarter 11 = .ok (.goto 4, 3) := by decide +kernel
theorem dX4_isQuarter_14 : decode cX4_isQuarter 14 = .ok (.iconst 0, 1) := by decide +kernel
theorem dX4_isQuarter_15 : decode cX4_isQuarter 15 = .ok (.ireturn, 1) := by decide +kernel
theorem dX4_isTerm_0 : decode cX4_isTerm 0 = .ok (.iload_n 1, 1) := by decide +kernel
theorem dX4_isTerm_1 : decode cX4_isTerm 1 = .ok (.ifCond .lt 18, 3) := by decide +kernel
theorem dX4_isTerm_4 : decode cX4_isTerm 4 = .ok (.iload_n 1, 1) := by decide +kernel
theorem dX4_isTerm_5 : decode cX4_isTerm 5 = .ok (.aload_n 0, 1) := by decide +kernel
theorem dX4_isTerm_6 : decode cX4_isTerm 6 = .ok (.getfield 21, 3) := by decide +kernel
theorem dX4_isTerm_9 : decode cX4_isTerm 9 = .ok (.invokevirtual 60, 3) := by decide +kernel
theorem dX4_isTerm_12 : decode cX4_isTerm 12 = .ok (.if_icmp .ge 7, 3) := by decide +kernel
theorem dX4_isTerm_15 : decode cX4_isTerm 15 = .ok (.iconst 1, 1) := by decide +kernel
theorem dX4_isTerm_16 : decode cX4_isTerm 16 = .ok (.goto 4, 3) := by decide +kernel
theorem dX4_isTerm_19 : decode cX4_isTerm 19 = .ok (.iconst 0, 1) := by decide +kernel
theorem dX4_isTerm_20 : decode cX4_isTerm 20 = .ok (.ireturn, 1) := by decide +kernel
theorem dX4_isTest_0 : decode cX4_isTest 0 = .ok (.iload_n 1, 1) := by decide +kernel
theorem dX4_isTest_1 : decode cX4_isTest 1 = .ok (.ifCond .lt 18, 3) := by decide +kernel
theorem dX4_isTest_4 : decode cX4_isTest 4 = .ok (.iload_n 1, 1) := by decide +kernel
theorem dX4_isTest_5 : decode cX4_isTest 5 = .ok (.aload_n 0, 1) := by decide +kernel
theorem dX4_isTest_6 : decode cX4_isTest 6 = .ok (.getfield 24, 3) := by decide +kernel
theorem dX4_isTest_9 : decode cX4_isTest 9 = .ok (.invokevirtual 60, 3) := by decide +kernel
theorem dX4_isTest_12 : decode cX4_isTest 12 = .ok (.if_icmp .ge 7, 3) := by decide +kernel
theorem dX4_isTest_15 : decode cX4_isTest 15 = .ok (.iconst 1, 1) := by decide +kernel
theorem dX4_isTest_16 : decode cX4_isTest 16 = .ok (.goto 4, 3) := by decide +kernel
theorem dX4_isTest_19 : decode cX4_isTest 19 = .ok (.iconst 0, 1) := by decide +kernel
theorem dX4_isTest_20 : decode cX4_isTest 20 = .ok (.ireturn, 1) := by decide +kernel
theorem dX4_isBasket_0 : decode cX4_isBasket 0 = .ok (.iload_n 1, 1) := by decide +kernel
theorem dX4_isBasket_1 : decode cX4_isBasket 1 = .ok (.ifCond .lt 18, 3) := by decide +kernel
theorem dX4_isBasket_4 : decode cX4_isBasket 4 = .ok (.iload_n 1, 1) := by decide +kernel
theorem dX4_isBasket_5 : decode cX4_isBasket 5 = .ok (.aload_n 0, 1) := by decide +kernel
theorem dX4_isBasket_6 : decode cX4_isBasket 6 = .ok (.getfield 27, 3) := by decide +kernel
theorem dX4_isBasket_9 : decode cX4_isBasket 9 = .ok (.invokevirtual 60, 3) := by decide +kernel
theorem dX4_isBasket_12 : decode cX4_isBasket 12 = .ok (.if_icmp .ge 7, 3) := by decide +kernel
theorem dX4_isBasket_15 : decode cX4_isBasket 15 = .ok (.iconst 1, 1) := by decide +kernel
theorem dX4_isBasket_16 : decode cX4_isBasket 16 = .ok (.goto 4, 3) := by decide +kernel
theorem dX4_isBasket_19 : decode cX4_isBasket 19 = .ok (.iconst 0, 1) := by decide +kernel
theorem dX4_isBasket_20 : decode cX4_isBasket 20 = .ok (.ireturn, 1) := by decide +kernel
