theorem dX11_takenBy_6 : decode cX11_takenBy 6 = .ok (.invokevirtual 67, 3) := by decide +kernel
theorem dX11_takenBy_9 : decode cX11_takenBy 9 = .ok (.iconst 1, 1) := by decide +kernel
theorem dX11_takenBy_10 : decode cX11_takenBy 10 = .ok (.isub, 1) := by decide +kernel
theorem dX11_takenBy_11 : decode cX11_takenBy 11 = .ok (.invokestatic 59, 3) := by decide +kernel
theorem dX11_takenBy_14 : decode cX11_takenBy 14 = .ok (.ifCond .eq 14, 3) := by decide +kernel
theorem dX11_takenBy_17 : decode cX11_takenBy 17 = .ok (.iload_n 2, 1) := by decide +kernel
theorem dX11_takenBy_18 : decode cX11_takenBy 18 = .ok (.invokestatic 141, 3) := by decide +kernel
theorem dX11_takenBy_21 : decode cX11_takenBy 21 = .ok (.ifCond .eq 7, 3) := by decide +kernel
theorem dX11_takenBy_24 : decode cX11_takenBy 24 = .ok (.iconst 1, 1) := by decide +kernel
theorem dX11_takenBy_25 : decode cX11_takenBy 25 = .ok (.goto 4, 3) := by decide +kernel
theorem dX11_takenBy_28 : decode cX11_takenBy 28 = .ok (.iconst 0, 1) := by decide +kernel
theorem dX11_takenBy_29 : decode cX11_takenBy 29 = .ok (.invokestatic 55, 3) := by decide +kernel
theorem dX11_takenBy_32 : decode cX11_takenBy 32 = .ok (.aload_n 0, 1) := by decide +kernel
theorem dX11_takenBy_33 : decode cX11_takenBy 33 = .ok (.getfield 35, 3) := by decide +kernel
theorem dX11_takenBy_36 : decode cX11_takenBy 36 = .ok (.iload_n 1, 1) := by decide +kernel
theorem dX11_takenBy_37 : decode cX11_takenBy 37 = .ok (.invokevirtual 107, 3) := by decide +kernel
theorem dX11_takenBy_40 : decode cX11_takenBy 40 = .ok (.checkcast 282, 3) := by decide +kernel
theorem dX11_takenBy_43 : decode cX11_takenBy 43 = .ok (.astore_n 3, 1) := by decide +kernel
theorem dX11_takenBy_44 : decode cX11_takenBy 44 = .ok (.aload_n 0, 1) := by decide +kernel
theorem dX11_takenBy_45 : decode cX11_takenBy 45 = .ok (.aload_n 3, 1) := by decide +kernel
theorem dX11_takenBy_46 : decode cX11_takenBy 46 = .ok (.getfield 291, 3) := by decide +kernel
theorem dX11_takenBy_49 : decode cX11_takenBy 49 = .ok (.invokevirtual 144, 3) := by decide +kernel
theorem dX11_takenBy_52 : decode cX11_takenBy 52 = .ok (.pop, 1) := by decide +kernel
theorem dX11_takenBy_53 : decode cX11_takenBy 53 = .ok (.aload_n 3, 1) := by decide +kernel
theorem dX11_takenBy_54 : decode cX11_takenBy 54 = .ok (.getfield 292, 3) := by decide +kernel
theorem dX11_takenBy_57 : decode cX11_takenBy 57 = .ok (.iload_n 2, 1) := by decide +kernel
theorem dX11_takenBy_58 : decode cX11_takenBy 58 = .ok (.laload, 1) := by decide +kernel
theorem dX11_takenBy_59 : decode cX11_takenBy 59 = .ok (.lreturn, 1) := by decide +kernel
theorem dX11_advance_0 : decode cX11_advance 0 = .ok (.iload_n 1, 1) := by decide +kernel
theorem dX11_advance_1 : decode cX11_advance 1 = .ok (.invokestatic 45, 3) := by decide +kernel
theorem dX11_advance_4 : decode cX11_advance 4 = .ok (.invokestatic 55, 3) := by decide +kernel
theorem dX11_advance_7 : decode cX11_advance 7 = .ok (.iload_n 2, 1) := by decide +kernel
theorem dX11_advance_8 : decode cX11_advance 8 = .ok (.iconst 1, 1) := by decide +kernel
theorem dX11_advance_9 : decode cX11_advance 9 = .ok (.ldc 63, 2) := by decide +kernel
theorem dX11_advance_11 : decode cX11_advance 11 = .ok (.invokestatic 59, 3) := by decide +kernel
theorem dX11_advance_14 : decode cX11_advance 14 = .ok (.invokestatic 64, 3) := by decide +kernel
theorem dX11_advance_17 : decode cX11_advance 17 = .ok (.aload_n 0, 1) := by decide +kernel
theorem dX11_advance_18 : decode cX11_advance 18 = .ok (.getfield 295, 3) := by decide +kernel
theorem dX11_advance_21 : decode cX11_advance 21 = .ok (.invokestatic 141, 3) := by decide +kernel
theorem dX11_advance_24 : decode cX11_advance 24 = .ok (.invokestatic 71, 3) := by decide +kernel
theorem dX11_advance_27 : decode cX11_advance 27 = .ok (.aload_n 0, 1) := by decide +kernel
theorem dX11_advance_28 : decode cX11_advance 28 = .ok (.getfield 18, 3) := by decide +kernel
theorem dX11_advance_31 : decode cX11_advance 31 = .ok (.iload_n 1, 1) := by decide +kernel
theorem dX11_advance_32 : decode cX11_advance 32 = .ok (.aaload, 1) := by decide +kernel
theorem dX11_advance_33 : decode cX11_advance 33 = .ok (.astore_n 3, 1) := by decide +kernel
theorem dX11_advance_34 : decode cX11_advance 34 = .ok (.aload_n 3, 1) := by decide +kernel
theorem dX11_advance_35 : decode cX11_advance 35 = .ok (.getfield 298, 3) := by decide +kernel
theorem dX11_advance_38 : decode cX11_advance 38 = .ok (.aload_n 0, 1) := by decide +kernel
theorem dX11_advance_39 : decode cX11_advance 39 = .ok (.getfield 295, 3) := by decide +kernel
theorem dX11_advance_42 : decode cX11_advance 42 = .ok (.dup2, 1) := by decide +kernel
theorem dX11_advance_43 : decode cX11_advance 43 = .ok (.laload, 1) := by decide +kernel
theorem dX11_advance_44 : decode cX11_advance 44 = .ok (.iload_n 2, 1) := by decide +kernel
theorem dX11_advance_45 : decode cX11_advance 45 = .ok (.i2l, 1) := by decide +kernel
theorem dX11_advance_46 : decode cX11_advance 46 = .ok (.ladd, 1) := by decide +kernel
theorem dX11_advance_47 : decode cX11_advance 47 = .ok (.lastore, 1) := by decide +kernel
theorem dX11_advance_48 : decode cX11_advance 48 = .ok (.aload_n 3, 1) := by decide +kernel
theorem dX11_advance_49 : decode cX11_advance 49 = .ok (.dup, 1) := by decide +kernel
theorem dX11_advance_50 : decode cX11_advance 50 = .ok (.getfield 301, 3) := by decide +kernel
theorem dX11_advance_53 : decode cX11_advance 53 = .ok (.iload_n 2, 1) := by decide +kernel
theorem dX11_advance_54 : decode cX11_advance 54 = .ok (.i2l, 1) := by decide +kernel
theorem dX11_advance_55 : decode cX11_advance 55 = .ok (.ladd, 1) := by decide +kernel
theorem dX11_advance_56 : decode cX11_advance 56 = .ok (.putfield 301, 3) := by decide +kernel
theorem dX11_advance_59 : decode cX11_advance 59 = .ok (.aload_n 3, 1) := by decide +kernel
theorem dX11_advance_60 : decode cX11_advance 60 = .ok (.getfield 94, 3) := by decide +kernel
theorem dX11_advance_63 : decode cX11_advance 63 = .ok (.iconst 1, 1) := by decide +kernel
theorem dX11_advance_64 : decode cX11_advance 64 = .ok (.putfield 98, 3) := by decide +kernel
theorem dX11_advance_67 : decode cX11_advance 67 = .ok (.aload_n 3, 1) := by decide +kernel
theorem dX11_advance_68 : decode cX11_advance 68 = .ok (.getfield 301, 3) := by decide +kernel
theorem dX11_advance_71 : decode cX11_advance 71 = .ok (.lreturn, 1) := by decide +kernel
theorem dX11_open_0 : decode cX11_open 0 = .ok (.aload_n 0, 1) := by decide +kernel
theorem dX11_open_1 : decode cX11_open 1 = .ok (.getfield 295, 3) := by decide +kernel
theorem dX11_open_4 : decode cX11_open 4 = .ok (.ireturn, 1) := by decide +kernel
theorem dX11_close_0 : decode cX11_close 0 = .ok (.aload_n 0, 1) := by decide +kernel
theorem dX11_close_1 : decode cX11_close 1 = .ok (.getfield 295, 3) := by decide +kernel
theorem dX11_close_4 : decode cX11_close 4 = .ok (.invokestatic 141, 3) := by decide +kernel
theorem dX11_close_7 : decode cX11_close 7 = .ok (.invokestatic 71, 3) := by decide +kernel
theorem dX11_close_10 : decode cX11_close 10 = .ok (.aload_n 0, 1) := by decide +kernel
theorem dX11_close_11 : decode cX11_close 11 = .ok (.getfield 38, 3) := by decide +kernel
theorem dX11_close_14 : decode cX11_close 14 = .ok (.invokevirtual 67, 3) := by decide +kernel
theorem dX11_close_17 : decode cX11_close 17 = .ok (.istore_n 1, 1) := by decide +kernel
theorem dX11_close_18 : decode cX11_close 18 = .ok (.iconst 0, 1) := by decide +kernel
theorem dX11_close_19 : decode cX11_close 19 = .ok (.istore_n 2, 1) := by decide +kernel
theorem dX11_close_20 : decode cX11_close 20 = .ok (.iload_n 2, 1) := by decide +kernel
theorem dX11_close_21 : decode cX11_close 21 = .ok (.bipush 6, 2) := by decide +kernel
theorem dX11_close_23 : decode cX11_close 23 = .ok (.if_icmp .ge 25, 3) := by decide +kernel
theorem dX11_close_26 : decode cX11_close 26 = .ok (.aload_n 0, 1) := by decide +kernel
theorem dX11_close_27 : decode cX11_close 27 = .ok (.iload_n 2, 1) := by decide +kernel
theorem dX11_close_28 : decode cX11_close 28 = .ok (.invokevirtual 144, 3) := by decide +kernel
theorem dX11_close_31 : decode cX11_close 31 = .ok (.pop, 1) := by decide +kernel
theorem dX11_close_32 : decode cX11_close 32 = .ok (.aload_n 0, 1) := by decide +kernel
theorem dX11_close_33 : decode cX11_close 33 = .ok (.aload_n 0, 1) := by decide +kernel
theorem dX11_close_34 : decode cX11_close 34 = .ok (.getfield 18, 3) := by decide +kernel
theorem dX11_close_37 : decode cX11_close 37 = .ok (.iload_n 2, 1) := by decide +kernel
theorem dX11_close_38 : decode cX11_close 38 = .ok (.aaload, 1) := by decide +kernel
theorem dX11_close_39 : decode cX11_close 39 = .ok (.invokevirtual 305, 3) := by decide +kernel
theorem dX11_close_42 : decode cX11_close 42 = .ok (.iinc 2 1, 3) := by decide +kernel
theorem dX11_close_45 : decode cX11_close 45 = .ok (.goto (-25), 3) := by decide +kernel
theorem dX11_close_48 : decode cX11_close 48 = .ok (.iconst 0, 1) := by decide +kernel
theorem dX11_close_49 : decode cX11_close 49 = .ok (.istore_n 2, 1) := by decide +kernel
theorem dX11_close_50 : decode cX11_close 50 = .ok (.iload_n 2, 1) := by decide +kernel
theorem dX11_close_51 : decode cX11_close 51 = .ok (.iconst 3, 1) := by decide +kernel
theorem dX11_close_52 : decode cX11_close 52 = .ok (.if_icmp .ge 31, 3) := by decide +kernel
theorem dX11_close_55 : decode cX11_close 55 = .ok (.iconst 0, 1) := by decide +kernel
theorem dX11_close_56 : decode cX11_close 56 = .ok (.istore_n 3, 1) := by decide +kernel
theorem dX11_close_57 : decode cX11_close 57 = .ok (.iload_n 3, 1) := by decide +kernel
theorem dX11_close_58 : decode cX11_close 58 = .ok (.aload_n 0, 1) := by decide +kernel
theorem dX11_close_59 : decode cX11_close 59 = .ok (.getfield 295, 3) := by decide +kernel
theorem dX11_close_62 : decode cX11_close 62 = .ok (.if_icmp .gt 15, 3) := by decide +kernel
theorem dX11_close_65 : decode cX11_close 65 = .ok (.aload_n 0, 1) := by decide +kernel
theorem dX11_close_66 : decode cX11_close 66 = .ok (.iload_n 2, 1) := by decide +kernel
theorem dX11_close_67 : decode cX11_close 67 = .ok (.iload_n 3, 1) := by decide +kernel
theorem dX11_close_68 : decode cX11_close 68 = .ok (.invokevirtual 309, 3) := by decide +kernel
theorem dX11_close_71 : decode cX11_close 71 = .ok (.iinc 3 1, 3) := by decide +kernel
theorem dX11_close_74 : decode cX11_close 74 = .ok (.goto (-17), 3) := by decide +kernel
theorem dX11_close_77 : decode cX11_close 77 = .ok (.iinc 2 1, 3) := by decide +kernel
theorem dX11_close_80 : decode cX11_close 80 = .ok (.goto (-30), 3) := by decide +kernel
theorem dX11_close_83 : decode cX11_close 83 = .ok (.aload_n 0, 1) := by decide +kernel
theorem dX11_close_84 : decode cX11_close 84 = .ok (.dup, 1) := by decide +kernel
theorem dX11_close_85 : decode cX11_close 85 = .ok (.getfield 295, 3) := by decide +kernel
theorem dX11_close_88 : decode cX11_close 88 = .ok (.iconst 1, 1) := by decide +kernel
theorem dX11_close_89 : decode cX11_close 89 = .ok (.iadd, 1) := by decide +kernel
theorem dX11_close_90 : decode cX11_close 90 = .ok (.putfield 295, 3) := by decide +kernel
theorem dX11_close_93 : decode cX11_close 93 = .ok (.aload_n 0, 1) := by decide +kernel
theorem dX11_close_94 : decode cX11_close 94 = .ok (.getfield 38, 3) := by decide +kernel
theorem dX11_close_97 : decode cX11_close 97 = .ok (.invokevirtual 67, 3) := by decide +kernel
theorem dX11_close_100 : decode cX11_close 100 = .ok (.iload_n 1, 1) := by decide +kernel
theorem dX11_close_101 : decode cX11_close 101 = .ok (.isub, 1) := by decide +kernel
theorem dX11_close_102 : decode cX11_close 102 = .ok (.ireturn, 1) := by decide +kernel
theorem dX11_payments_0 : decode cX11_payments 0 = .ok (.aload_n 0, 1) := by decide +kernel
theorem dX11_payments_1 : decode cX11_payments 1 = .ok (.getfield 38, 3) := by decide +kernel
theorem dX11_payments_4 : decode cX11_payments 4 = .ok (.invokevirtual 67, 3) := by decide +kernel
theorem dX11_payments_7 : decode cX11_payments 7 = .ok (.ireturn, 1) := by decide +kernel
theorem dX11_payment_0 : decode cX11_payment 0 = .ok (.aload_n 0, 1) := by decide +kernel
theorem dX11_payment_1 : decode cX11_payment 1 = .ok (.iload_n 1, 1) := by decide +kernel
theorem dX11_payment_2 : decode cX11_payment 2 = .ok (.invokevirtual 312, 3) := by decide +kernel
theorem dX11_payment_5 : decode cX11_payment 5 = .ok (.invokestatic 55, 3) := by decide +kernel
theorem dX11_payment_8 : decode cX11_payment 8 = .ok (.iload_n 2, 1) := by decide +kernel
theorem dX11_payment_9 : decode cX11_payment 9 = .ok (.iconst 0, 1) := by decide +kernel
theorem dX11_payment_10 : decode cX11_payment 10 = .ok (.iconst 3, 1) := by decide +kernel
theorem dX11_payment_11 : decode cX11_payment 11 = .ok (.invokestatic 59, 3) := by decide +kernel
theorem dX11_payment_14 : decode cX11_payment 14 = .ok (.invokestatic 64, 3) := by decide +kernel
theorem dX11_payment_17 : decode cX11_payment 17 = .ok (.aload_n 0, 1) := by decide +kernel
theorem dX11_payment_18 : decode cX11_payment 18 = .ok (.getfield 38, 3) := by decide +kernel
theorem dX11_payment_21 : decode cX11_payment 21 = .ok (.iload_n 1, 1) := by decide +kernel
theorem dX11_payment_22 : decode cX11_payment 22 = .ok (.invokevirtual 107, 3) := by decide +kernel
theorem dX11_payment_25 : decode cX11_payment 25 = .ok (.checkcast 315, 3) := by decide +kernel
theorem dX11_payment_28 : decode cX11_payment 28 = .ok (.astore_n 3, 1) := by decide +kernel
theorem dX11_payment_29 : decode cX11_payment 29 = .ok (.iload_n 2, 1) := by decide +kernel
theorem dX11_payment_30 : decode cX11_payment 30 = .ok (.tableswitch 43 0 2 #[26, 32, 38], 26) := by decide +kernel
theorem dX11_payment_56 : decode cX11_payment 56 = .ok (.aload_n 3, 1) := by decide +kernel
theorem dX11_payment_57 : decode cX11_payment 57 = .ok (.getfield 317, 3) := by decide +kernel
theorem dX11_payment_60 : decode cX11_payment 60 = .ok (.i2l, 1) := by decide +kernel
theorem dX11_payment_61 : decode cX11_payment 61 = .ok (.lreturn, 1) := by decide +kernel
theorem dX11_payment_62 : decode cX11_payment 62 = .ok (.aload_n 3, 1) := by decide +kernel
theorem dX11_payment_63 : decode cX11_payment 63 = .ok (.getfield 318, 3) := by decide +kernel
theorem dX11_payment_66 : decode cX11_payment 66 = .ok (.i2l, 1) := by decide +kernel
theorem dX11_payment_67 : decode cX11_payment 67 = .ok (.lreturn, 1) := by decide +kernel
theorem dX11_payment_68 : decode cX11_payment 68 = .ok (.aload_n 3, 1) := by decide +kernel
theorem dX11_payment_69 : decode cX11_payment 69 = .ok (.getfield 321, 3) := by decide +kernel
theorem dX11_payment_72 : decode cX11_payment 72 = .ok (.lreturn, 1) := by decide +kernel
theorem dX11_payment_73 : decode cX11_payment 73 = .ok (.aload_n 3, 1) := by decide +kernel
theorem dX11_payment_74 : decode cX11_payment 74 = .ok (.getfield 324, 3) := by decide +kernel
theorem dX11_payment_77 : decode cX11_payment 77 = .ok (.ifCond .eq 7, 3) := by decide +kernel
theorem dX11_payment_80 : decode cX11_payment 80 = .ok (.lconst 1, 1) := by decide +kernel
theorem dX11_payment_81 : decode cX11_payment 81 = .ok (.goto 4, 3) := by decide +kernel
theorem dX11_payment_84 : decode cX11_payment 84 = .ok (.lconst 0, 1) := by decide +kernel
theorem dX11_payment_85 : decode cX11_payment 85 = .ok (.lreturn, 1) := by decide +kernel
theorem dX11_comeBack_0 : decode cX11_comeBack 0 = .ok (.aload_n 0, 1) := by decide +kernel
theorem dX11_comeBack_1 : decode cX11_comeBack 1 = .ok (.iload_n 1, 1) := by decide +kernel
theorem dX11_comeBack_2 : decode cX11_comeBack 2 = .ok (.invokevirtual 312, 3) := by decide +kernel
theorem dX11_comeBack_5 : decode cX11_comeBack 5 = .ok (.invokestatic 55, 3) := by decide +kernel
theorem dX11_comeBack_8 : decode cX11_comeBack 8 = .ok (.aload_n 0, 1) := by decide +kernel
theorem dX11_comeBack_9 : decode cX11_comeBack 9 = .ok (.getfield 38, 3) := by decide +kernel
theorem dX11_comeBack_12 : decode cX11_comeBack 12 = .ok (.iload_n 1, 1) := by decide +kernel
theorem dX11_comeBack_13 : decode cX11_comeBack 13 = .ok (.invokevirtual 107, 3) := by decide +kernel
theorem dX11_comeBack_16 : decode cX11_comeBack 16 = .ok (.checkcast 315, 3) := by decide +kernel
theorem dX11_comeBack_19 : decode cX11_comeBack 19 = .ok (.astore_n 2, 1) := by decide +kernel
theorem dX11_comeBack_20 : decode cX11_comeBack 20 = .ok (.aload_n 2, 1) := by decide +kernel
theorem dX11_comeBack_21 : decode cX11_comeBack 21 = .ok (.getfield 324, 3) := by decide +kernel
theorem dX11_comeBack_24 : decode cX11_comeBack 24 = .ok (.ifCond .ne 7, 3) := by decide +kernel
theorem dX11_comeBack_27 : decode cX11_comeBack 27 = .ok (.iconst 1, 1) := by decide +kernel
theorem dX11_comeBack_28 : decode cX11_comeBack 28 = .ok (.goto 4, 3) := by decide +kernel
theorem dX11_comeBack_31 : decode cX11_comeBack 31 = .ok (.iconst 0, 1) := by decide +kernel
theorem dX11_comeBack_32 : decode cX11_comeBack 32 = .ok (.invokestatic 71, 3) := by decide +kernel
theorem dX11_comeBack_35 : decode cX11_comeBack 35 = .ok (.aload_n 2, 1) := by decide +kernel
theorem dX11_comeBack_36 : decode cX11_comeBack 36 = .ok (.iconst 1, 1) := by decide +kernel
theorem dX11_comeBack_37 : decode cX11_comeBack 37 = .ok (.putfield 324, 3) := by decide +kernel
theorem dX11_comeBack_40 : decode cX11_comeBack 40 = .ok (.aload_n 0, 1) := by decide +kernel
theorem dX11_comeBack_41 : decode cX11_comeBack 41 = .ok (.getfield 18, 3) := by decide +kernel
theorem dX11_comeBack_44 : decode cX11_comeBack 44 = .ok (.aload_n 2, 1) := by decide +kernel
theorem dX11_comeBack_45 : decode cX11_comeBack 45 = .ok (.getfield 317, 3) := by decide +kernel
theorem dX11_comeBack_48 : decode cX11_comeBack 48 = .ok (.aaload, 1) := by decide +kernel
theorem dX11_comeBack_49 : decode cX11_comeBack 49 = .ok (.dup, 1) := by decide +kernel
theorem dX11_comeBack_50 : decode cX11_comeBack 50 = .ok (.getfield 327, 3) := by decide +kernel
theorem dX11_comeBack_53 : decode cX11_comeBack 53 = .ok (.aload_n 2, 1) := by decide +kernel
theorem dX11_comeBack_54 : decode cX11_comeBack 54 = .ok (.getfield 321, 3) := by decide +kernel
theorem dX11_comeBack_57 : decode cX11_comeBack 57 = .ok (.lsub, 1) := by decide +kernel
theorem dX11_comeBack_58 : decode cX11_comeBack 58 = .ok (.putfield 327, 3) := by decide +kernel
theorem dX11_comeBack_61 : decode cX11_comeBack 61 = .ok (.aload_n 2, 1) := by decide +kernel
theorem dX11_comeBack_62 : decode cX11_comeBack 62 = .ok (.getfield 321, 3) := by decide +kernel
theorem dX11_comeBack_65 : decode cX11_comeBack 65 = .ok (.lreturn, 1) := by decide +kernel
theorem dX11_owed_0 : decode cX11_owed 0 = .ok (.iload_n 1, 1) := by decide +kernel
theorem dX11_owed_1 : decode cX11_owed 1 = .ok (.invokestatic 45, 3) := by decide +kernel
theorem dX11_owed_4 : decode cX11_owed 4 = .ok (.invokestatic 55, 3) := by decide +kernel
theorem dX11_owed_7 : decode cX11_owed 7 = .ok (.aload_n 0, 1) := by decide +kernel
theorem dX11_owed_8 : decode cX11_owed 8 = .ok (.iload_n 1, 1) := by decide +kernel
theorem dX11_owed_9 : decode cX11_owed 9 = .ok (.invokevirtual 144, 3) := by decide +kernel
theorem dX11_owed_12 : decode cX11_owed 12 = .ok (.pop, 1) := by decide +kernel
theorem dX11_owed_13 : decode cX11_owed 13 = .ok (.aload_n 0, 1) := by decide +kernel
theorem dX11_owed_14 : decode cX11_owed 14 = .ok (.aload_n 0, 1) := by decide +kernel
theorem dX11_owed_15 : decode cX11_owed 15 = .ok (.getfield 18, 3) := by decide +kernel
theorem dX11_owed_18 : decode cX11_owed 18 = .ok (.iload_n 1, 1) := by decide +kernel
theorem dX11_owed_19 : decode cX11_owed 19 = .ok (.aaload, 1) := by decide +kernel
theorem dX11_owed_20 : decode cX11_owed 20 = .ok (.invokevirtual 330, 3) := by decide +kernel
theorem dX11_owed_23 : decode cX11_owed 23 = .ok (.lreturn, 1) := by decide +kernel
theorem dX11_filed_0 : decode cX11_filed 0 = .ok (.iload_n 1, 1) := by decide +kernel
theorem dX11_filed_1 : decode cX11_filed 1 = .ok (.invokestatic 49, 3) := by decide +kernel
theorem dX11_filed_4 : decode cX11_filed 4 = .ok (.ifCond .eq 14, 3) := by decide +kernel
theorem dX11_filed_7 : decode cX11_filed 7 = .ok (.iload_n 2, 1) := by decide +kernel
theorem dX11_filed_8 : decode cX11_filed 8 = .ok (.invokestatic 141, 3) := by decide +kernel
theorem dX11_filed_11 : decode cX11_filed 11 = .ok (.ifCond .eq 7, 3) := by decide +kernel
theorem dX11_filed_14 : decode cX11_filed 14 = .ok (.iconst 1, 1) := by decide +kernel
theorem dX11_filed_15 : decode cX11_filed 15 = .ok (.goto 4, 3) := by decide +kernel
theorem dX11_filed_18 : decode cX11_filed 18 = .ok (.iconst 0, 1) := by decide +kernel
theorem dX11_filed_19 : decode cX11_filed 19 = .ok (.invokestatic 55, 3) := by decide +kernel
theorem dX11_filed_22 : decode cX11_filed 22 = .ok (.iload_n 3, 1) := by decide +kernel
theorem dX11_filed_23 : decode cX11_filed 23 = .ok (.ifCond .eq 17, 3) := by decide +kernel
theorem dX11_filed_26 : decode cX11_filed 26 = .ok (.aload_n 0, 1) := by decide +kernel
theorem dX11_filed_27 : decode cX11_filed 27 = .ok (.getfield 24, 3) := by decide +kernel
theorem dX11_filed_30 : decode cX11_filed 30 = .ok (.iload_n 1, 1) := by decide +kernel
theorem dX11_filed_31 : decode cX11_filed 31 = .ok (.aaload, 1) := by decide +kernel
theorem dX11_filed_32 : decode cX11_filed 32 = .ok (.getfield 334, 3) := by decide +kernel
theorem dX11_filed_35 : decode cX11_filed 35 = .ok (.iload_n 2, 1) := by decide +kernel
theorem dX11_filed_36 : decode cX11_filed 36 = .ok (.laload, 1) := by decide +kernel
theorem dX11_filed_37 : decode cX11_filed 37 = .ok (.goto 14, 3) := by decide +kernel
theorem dX11_filed_40 : decode cX11_filed 40 = .ok (.aload_n 0, 1) := by decide +kernel
theorem dX11_filed_41 : decode cX11_filed 41 = .ok (.getfield 24, 3) := by decide +kernel
theorem dX11_filed_44 : decode cX11_filed 44 = .ok (.iload_n 1, 1) := by decide +kernel
theorem dX11_filed_45 : decode cX11_filed 45 = .ok (.aaload, 1) := by decide +kernel
theorem dX11_filed_46 : decode cX11_filed 46 = .ok (.getfield 337, 3) := by decide +kernel
theorem dX11_filed_49 : decode cX11_filed 49 = .ok (.iload_n 2, 1) := by decide +kernel
theorem dX11_filed_50 : decode cX11_filed 50 = .ok (.laload, 1) := by decide +kernel
theorem dX11_filed_51 : decode cX11_filed 51 = .ok (.lreturn, 1) := by decide +kernel
theorem dX11_payOut_0 : decode cX11_payOut 0 = .ok (.aload_n 0, 1) := by decide +kernel
theorem dX11_payOut_1 : decode cX11_payOut 1 = .ok (.aload_n 1, 1) := by decide +kernel
theorem dX11_payOut_2 : decode cX11_payOut 2 = .ok (.invokevirtual 330, 3) := by decide +kernel
theorem dX11_payOut_5 : decode cX11_payOut 5 = .ok (.lstore_n 2, 1) := by decide +kernel
theorem dX11_payOut_6 : decode cX11_payOut 6 = .ok (.lload_n 2, 1) := by decide +kernel
theorem dX11_payOut_7 : decode cX11_payOut 7 = .ok (.lconst 0, 1) := by decide +kernel
theorem dX11_payOut_8 : decode cX11_payOut 8 = .ok (.lcmp, 1) := by decide +kernel
theorem dX11_payOut_9 : decode cX11_payOut 9 = .ok (.ifCond .le 37, 3) := by decide +kernel
theorem dX11_payOut_12 : decode cX11_payOut 12 = .ok (.aload_n 0, 1) := by decide +kernel
theorem dX11_payOut_13 : decode cX11_payOut 13 = .ok (.getfield 38, 3) := by decide +kernel
theorem dX11_payOut_16 : decode cX11_payOut 16 = .ok (.new 315, 3) := by decide +kernel
theorem dX11_payOut_19 : decode cX11_payOut 19 = .ok (.dup, 1) := by decide +kernel
theorem dX11_payOut_20 : decode cX11_payOut 20 = .ok (.aload_n 1, 1) := by decide +kernel
theorem dX11_payOut_21 : decode cX11_payOut 21 = .ok (.getfield 343, 3) := by decide +kernel
theorem dX11_payOut_24 : decode cX11_payOut 24 = .ok (.aload_n 0, 1) := by decide +kernel
theorem dX11_payOut_25 : decode cX11_payOut 25 = .ok (.getfield 295, 3) := by decide +kernel
theorem dX11_payOut_28 : decode cX11_payOut 28 = .ok (.lload_n 2, 1) := by decide +kernel
theorem dX11_payOut_29 : decode cX11_payOut 29 = .ok (.invokespecial 346, 3) := by decide +kernel
theorem dX11_payOut_32 : decode cX11_payOut 32 = .ok (.invokevirtual 89, 3) := by decide +kernel
theorem dX11_payOut_35 : decode cX11_payOut 35 = .ok (.pop, 1) := by decide +kernel
theorem dX11_payOut_36 : decode cX11_payOut 36 = .ok (.aload_n 1, 1) := by decide +kernel
theorem dX11_payOut_37 : decode cX11_payOut 37 = .ok (.dup, 1) := by decide +kernel
theorem dX11_payOut_38 : decode cX11_payOut 38 = .ok (.getfield 327, 3) := by decide +kernel
theorem dX11_payOut_41 : decode cX11_payOut 41 = .ok (.lload_n 2, 1) := by decide +kernel
theorem dX11_payOut_42 : decode cX11_payOut 42 = .ok (.ladd, 1) := by decide +kernel
theorem dX11_payOut_43 : decode cX11_payOut 43 = .ok (.putfield 327, 3) := by decide +kernel
theorem dX11_payOut_46 : decode cX11_payOut 46 = .ok (.return_, 1) := by decide +kernel
theorem dX11_unpaid_0 : decode cX11_unpaid 0 = .ok (.lconst 0, 1) := by decide +kernel
theorem dX11_unpaid_1 : decode cX11_unpaid 1 = .ok (.lstore_n 2, 1) := by decide +kernel
theorem dX11_unpaid_2 : decode cX11_unpaid 2 = .ok (.iconst 0, 1) := by decide +kernel
theorem dX11_unpaid_3 : decode cX11_unpaid 3 = .ok (.istore 4, 2) := by decide +kernel
theorem dX11_unpaid_5 : decode cX11_unpaid 5 = .ok (.iload 4, 2) := by decide +kernel
theorem dX11_unpaid_7 : decode cX11_unpaid 7 = .ok (.aload_n 0, 1) := by decide +kernel
theorem dX11_unpaid_8 : decode cX11_unpaid 8 = .ok (.getfield 295, 3) := by decide +kernel
theorem dX11_unpaid_11 : decode cX11_unpaid 11 = .ok (.if_icmp .gt 29, 3) := by decide +kernel
theorem dX11_unpaid_14 : decode cX11_unpaid 14 = .ok (.iload 4, 2) := by decide +kernel
theorem dX11_unpaid_16 : decode cX11_unpaid 16 = .ok (.bipush 24, 2) := by decide +kernel
theorem dX11_unpaid_18 : decode cX11_unpaid 18 = .ok (.if_icmp .ge 22, 3) := by decide +kernel
theorem dX11_unpaid_21 : decode cX11_unpaid 21 = .ok (.lload_n 2, 1) := by decide +kernel
theorem dX11_unpaid_22 : decode cX11_unpaid 22 = .ok (.aload_n 1, 1) := by decide +kernel
theorem dX11_unpaid_23 : decode cX11_unpaid 23 = .ok (.getfield 94, 3) := by decide +kernel
theorem dX11_unpaid_26 : decode cX11_unpaid 26 = .ok (.getfield 349, 3) := by decide +kernel
theorem dX11_unpaid_29 : decode cX11_unpaid 29 = .ok (.iload 4, 2) := by decide +kernel
theorem dX11_unpaid_31 : decode cX11_unpaid 31 = .ok (.laload, 1) := by decide +kernel
theorem dX11_unpaid_32 : decode cX11_unpaid 32 = .ok (.ladd, 1) := by decide +kernel
theorem dX11_unpaid_33 : decode cX11_unpaid 33 = .ok (.lstore_n 2, 1) := by decide +kernel
theorem dX11_unpaid_34 : decode cX11_unpaid 34 = .ok (.iinc 4 1, 3) := by decide +kernel
theorem dX11_unpaid_37 : decode cX11_unpaid 37 = .ok (.goto (-32), 3) := by decide +kernel
theorem dX11_unpaid_40 : decode cX11_unpaid 40 = .ok (.lload_n 2, 1) := by decide +kernel
theorem dX11_unpaid_41 : decode cX11_unpaid 41 = .ok (.aload_n 1, 1) := by decide +kernel
theorem dX11_unpaid_42 : decode cX11_unpaid 42 = .ok (.getfield 327, 3) := by decide +kernel
theorem dX11_unpaid_45 : decode cX11_unpaid 45 = .ok (.lsub, 1) := by decide +kernel
theorem dX11_unpaid_46 : decode cX11_unpaid 46 = .ok (.lreturn, 1) := by decide +kernel
theorem dX11_fileMonth_0 : decode cX11_fileMonth 0 = .ok (.lconst 0, 1) := by decide +kernel
theorem dX11_fileMonth_1 : decode cX11_fileMonth 1 = .ok (.lstore_n 3, 1) := by decide +kernel
theorem dX11_fileMonth_2 : decode cX11_fileMonth 2 = .ok (.lconst 0, 1) := by decide +kernel
theorem dX11_fileMonth_3 : decode cX11_fileMonth 3 = .ok (.lstore 5, 2) := by decide +kernel
theorem dX11_fileMonth_5 : decode cX11_fileMonth 5 = .ok (.iconst 0, 1) := by decide +kernel
theorem dX11_fileMonth_6 : decode cX11_fileMonth 6 = .ok (.istore 7, 2) := by decide +kernel
theorem dX11_fileMonth_8 : decode cX11_fileMonth 8 = .ok (.iload 7, 2) := by decide +kernel
theorem dX11_fileMonth_10 : decode cX11_fileMonth 10 = .ok (.bipush 6, 2) := by decide +kernel
theorem dX11_fileMonth_12 : decode cX11_fileMonth 12 = .ok (.if_icmp .ge 47, 3) := by decide +kernel
theorem dX11_fileMonth_15 : decode cX11_fileMonth 15 = .ok (.aload_n 0, 1) := by decide +kernel
theorem dX11_fileMonth_16 : decode cX11_fileMonth 16 = .ok (.getfield 18, 3) := by decide +kernel
theorem dX11_fileMonth_19 : decode cX11_fileMonth 19 = .ok (.iload 7, 2) := by decide +kernel
theorem dX11_fileMonth_21 : decode cX11_fileMonth 21 = .ok (.aaload, 1) := by decide +kernel
theorem dX11_fileMonth_22 : decode cX11_fileMonth 22 = .ok (.getfield 94, 3) := by decide +kernel
theorem dX11_fileMonth_25 : decode cX11_fileMonth 25 = .ok (.astore 8, 2) := by decide +kernel
theorem dX11_fileMonth_27 : decode cX11_fileMonth 27 = .ok (.lload_n 3, 1) := by decide +kernel
theorem dX11_fileMonth_28 : decode cX11_fileMonth 28 = .ok (.aload 8, 2) := by decide +kernel
theorem dX11_fileMonth_30 : decode cX11_fileMonth 30 = .ok (.getfield 352, 3) := by decide +kernel
theorem dX11_fileMonth_33 : decode cX11_fileMonth 33 = .ok (.iload_n 1, 1) := by decide +kernel
theorem dX11_fileMonth_34 : decode cX11_fileMonth 34 = .ok (.aaload, 1) := by decide +kernel
theorem dX11_fileMonth_35 : decode cX11_fileMonth 35 = .ok (.iload_n 2, 1) := by decide +kernel
theorem dX11_fileMonth_36 : decode cX11_fileMonth 36 = .ok (.laload, 1) := by decide +kernel
theorem dX11_fileMonth_37 : decode cX11_fileMonth 37 = .ok (.ladd, 1) := by decide +kernel
theorem dX11_fileMonth_38 : decode cX11_fileMonth 38 = .ok (.lstore_n 3, 1) := by decide +kernel
theorem dX11_fileMonth_39 : decode cX11_fileMonth 39 = .ok (.lload 5, 2) := by decide +kernel
theorem dX11_fileMonth_41 : decode cX11_fileMonth 41 = .ok (.aload 8, 2) := by decide +kernel
theorem dX11_fileMonth_43 : decode cX11_fileMonth 43 = .ok (.getfield 355, 3) := by decide +kernel
theorem dX11_fileMonth_46 : decode cX11_fileMonth 46 = .ok (.iload_n 1, 1) := by decide +kernel
theorem dX11_fileMonth_47 : decode cX11_fileMonth 47 = .ok (.aaload, 1) := by decide +kernel
theorem dX11_fileMonth_48 : decode cX11_fileMonth 48 = .ok (.iload_n 2, 1) := by decide +kernel
theorem dX11_fileMonth_49 : decode cX11_fileMonth 49 = .ok (.laload, 1) := by decide +kernel
theorem dX11_fileMonth_50 : decode cX11_fileMonth 50 = .ok (.ladd, 1) := by decide +kernel
theorem dX11_fileMonth_51 : decode cX11_fileMonth 51 = .ok (.lstore 5, 2) := by decide +kernel
theorem dX11_fileMonth_53 : decode cX11_fileMonth 53 = .ok (.iinc 7 1, 3) := by decide +kernel
theorem dX11_fileMonth_56 : decode cX11_fileMonth 56 = .ok (.goto (-48), 3) := by decide +kernel
theorem dX11_fileMonth_59 : decode cX11_fileMonth 59 = .ok (.aload_n 0, 1) := by decide +kernel
theorem dX11_fileMonth_60 : decode cX11_fileMonth 60 = .ok (.getfield 24, 3) := by decide +kernel
theorem dX11_fileMonth_63 : decode cX11_fileMonth 63 = .ok (.iload_n 1, 1) := by decide +kernel
theorem dX11_fileMonth_64 : decode cX11_fileMonth 64 = .ok (.aaload, 1) := by decide +kernel
theorem dX11_fileMonth_65 : decode cX11_fileMonth 65 = .ok (.iload_n 2, 1) := by decide +kernel
theorem dX11_fileMonth_66 : decode cX11_fileMonth 66 = .ok (.lload_n 3, 1) := by decide +kernel
theorem dX11_fileMonth_67 : decode cX11_fileMonth 67 = .ok (.lload 5, 2) := by decide +kernel
theorem dX11_fileMonth_69 : decode cX11_fileMonth 69 = .ok (.iload_n 2, 1) := by decide +kernel
theorem dX11_fileMonth_70 : decode cX11_fileMonth 70 = .ok (.aload_n 0, 1) := by decide +kernel
theorem dX11_fileMonth_71 : decode cX11_fileMonth 71 = .ok (.getfield 295, 3) := by decide +kernel
theorem dX11_fileMonth_74 : decode cX11_fileMonth 74 = .ok (.if_icmp .ge 7, 3) := by decide +kernel
theorem dX11_fileMonth_77 : decode cX11_fileMonth 77 = .ok (.iconst 1, 1) := by decide +kernel
theorem dX11_fileMonth_78 : decode cX11_fileMonth 78 = .ok (.goto 4, 3) := by decide +kernel
theorem dX11_fileMonth_81 : decode cX11_fileMonth 81 = .ok (.iconst 0, 1) := by decide +kernel
theorem dX11_fileMonth_82 : decode cX11_fileMonth 82 = .ok (.invokevirtual 358, 3) := by decide +kernel
theorem dX11_fileMonth_85 : decode cX11_fileMonth 85 = .ok (.return_, 1) := by decide +kernel
theorem dX11_bookOf_0 : decode cX11_bookOf 0 = .ok (.aload_n 0, 1) := by decide +kernel
theorem dX11_bookOf_1 : decode cX11_bookOf 1 = .ok (.getfield 18, 3) := by decide +kernel
theorem dX11_bookOf_4 : decode cX11_bookOf 4 = .ok (.iload_n 1, 1) := by decide +kernel
theorem dX11_bookOf_5 : decode cX11_bookOf 5 = .ok (.aaload, 1) := by decide +kernel
theorem dX11_bookOf_6 : decode cX11_bookOf 6 = .ok (.astore_n 2, 1) := by decide +kernel
theorem dX11_bookOf_7 : decode cX11_bookOf 7 = .ok (.aload_n 2, 1) := by decide +kernel
theorem dX11_bookOf_8 : decode cX11_bookOf 8 = .ok (.getfield 94, 3) := by decide +kernel
theorem dX11_bookOf_11 : decode cX11_bookOf 11 = .ok (.astore_n 3, 1) := by decide +kernel
theorem dX11_bookOf_12 : decode cX11_bookOf 12 = .ok (.aload_n 3, 1) := by decide +kernel
theorem dX11_bookOf_13 : decode cX11_bookOf 13 = .ok (.getfield 98, 3) := by decide +kernel
theorem dX11_bookOf_16 : decode cX11_bookOf 16 = .ok (.ifCond .eq 75, 3) := by decide +kernel
theorem dX11_bookOf_19 : decode cX11_bookOf 19 = .ok (.aload_n 2, 1) := by decide +kernel
theorem dX11_bookOf_20 : decode cX11_bookOf 20 = .ok (.sipush 720, 3) := by decide +kernel
theorem dX11_bookOf_23 : decode cX11_bookOf 23 = .ok (.aload_n 0, 1) := by decide +kernel
theorem dX11_bookOf_24 : decode cX11_bookOf 24 = .ok (.getfield 152, 3) := by decide +kernel
theorem dX11_bookOf_27 : decode cX11_bookOf 27 = .ok (.aload_n 0, 1) := by decide +kernel
theorem dX11_bookOf_28 : decode cX11_bookOf 28 = .ok (.getfield 155, 3) := by decide +kernel
theorem dX11_bookOf_31 : decode cX11_bookOf 31 = .ok (.aload_n 0, 1) := by decide +kernel
theorem dX11_bookOf_32 : decode cX11_bookOf 32 = .ok (.getfield 158, 3) := by decide +kernel
theorem dX11_bookOf_35 : decode cX11_bookOf 35 = .ok (.invokevirtual 176, 3) := by decide +kernel
theorem dX11_bookOf_38 : decode cX11_bookOf 38 = .ok (.pop, 1) := by decide +kernel
theorem dX11_bookOf_39 : decode cX11_bookOf 39 = .ok (.aload_n 2, 1) := by decide +kernel
theorem dX11_bookOf_40 : decode cX11_bookOf 40 = .ok (.invokevirtual 362, 3) := by decide +kernel
theorem dX11_bookOf_43 : decode cX11_bookOf 43 = .ok (.iconst 0, 1) := by decide +kernel
theorem dX11_bookOf_44 : decode cX11_bookOf 44 = .ok (.istore 4, 2) := by decide +kernel
theorem dX11_bookOf_46 : decode cX11_bookOf 46 = .ok (.iload 4, 2) := by decide +kernel
theorem dX11_bookOf_48 : decode cX11_bookOf 48 = .ok (.bipush 24, 2) := by decide +kernel
theorem dX11_bookOf_50 : decode cX11_bookOf 50 = .ok (.if_icmp .ge 31, 3) := by decide +kernel
theorem dX11_bookOf_53 : decode cX11_bookOf 53 = .ok (.aload_n 3, 1) := by decide +kernel
theorem dX11_bookOf_54 : decode cX11_bookOf 54 = .ok (.iload 4, 2) := by decide +kernel
theorem dX11_bookOf_56 : decode cX11_bookOf 56 = .ok (.aload_n 2, 1) := by decide +kernel
theorem dX11_bookOf_57 : decode cX11_bookOf 57 = .ok (.aload_n 0, 1) := by decide +kernel
theorem dX11_bookOf_58 : decode cX11_bookOf 58 = .ok (.getfield 31, 3) := by decide +kernel
theorem dX11_bookOf_61 : decode cX11_bookOf 61 = .ok (.invokevirtual 365, 3) := by decide +kernel
theorem dX11_bookOf_64 : decode cX11_bookOf 64 = .ok (.aload_n 3, 1) := by decide +kernel
theorem dX11_bookOf_65 : decode cX11_bookOf 65 = .ok (.iload 4, 2) := by decide +kernel
theorem dX11_bookOf_67 : decode cX11_bookOf 67 = .ok (.aload_n 2, 1) := by decide +kernel
theorem dX11_bookOf_68 : decode cX11_bookOf 68 = .ok (.aload_n 0, 1) := by decide +kernel
theorem dX11_bookOf_69 : decode cX11_bookOf 69 = .ok (.getfield 24, 3) := by decide +kernel
theorem dX11_bookOf_72 : decode cX11_bookOf 72 = .ok (.invokevirtual 278, 3) := by decide +kernel
theorem dX11_bookOf_75 : decode cX11_bookOf 75 = .ok (.iinc 4 1, 3) := by decide +kernel
theorem dX11_bookOf_78 : decode cX11_bookOf 78 = .ok (.goto (-32), 3) := by decide +kernel
theorem dX11_bookOf_81 : decode cX11_bookOf 81 = .ok (.aload_n 3, 1) := by decide +kernel
theorem dX11_bookOf_82 : decode cX11_bookOf 82 = .ok (.aload_n 2, 1) := by decide +kernel
theorem dX11_bookOf_83 : decode cX11_bookOf 83 = .ok (.invokevirtual 369, 3) := by decide +kernel
theorem dX11_bookOf_86 : decode cX11_bookOf 86 = .ok (.aload_n 3, 1) := by decide +kernel
theorem dX11_bookOf_87 : decode cX11_bookOf 87 = .ok (.iconst 0, 1) := by decide +kernel
theorem dX11_bookOf_88 : decode cX11_bookOf 88 = .ok (.putfield 98, 3) := by decide +kernel
theorem dX11_bookOf_91 : decode cX11_bookOf 91 = .ok (.aload_n 3, 1) := by decide +kernel
theorem dX11_bookOf_92 : decode cX11_bookOf 92 = .ok (.areturn, 1) := by decide +kernel
theorem dX11_makeAllStale_0 : decode cX11_makeAllStale 0 = .ok (.iconst 0, 1) := by decide +kernel
theorem dX11_makeAllStale_1 : decode cX11_makeAllStale 1 = .ok (.istore_n 1, 1) := by decide +kernel
theorem dX11_makeAllStale_2 : decode cX11_makeAllStale 2 = .ok (.iload_n 1, 1) := by decide +kernel
theorem dX11_makeAllStale_3 : decode cX11_makeAllStale 3 = .ok (.bipush 6, 2) := by decide +kernel
theorem dX11_makeAllStale_5 : decode cX11_makeAllStale 5 = .ok (.if_icmp .ge 22, 3) := by decide +kernel
theorem dX11_makeAllStale_8 : decode cX11_makeAllStale 8 = .ok (.aload_n 0, 1) := by decide +kernel
theorem dX11_makeAllStale_9 : decode cX11_makeAllStale 9 = .ok (.getfield 18, 3) := by decide +kernel
theorem dX11_makeAllStale_12 : decode cX11_makeAllStale 12 = .ok (.iload_n 1, 1) := by decide +kernel
theorem dX11_makeAllStale_13 : decode cX11_makeAllStale 13 = .ok (.aaload, 1) := by decide +kernel
theorem dX11_makeAllStale_14 : decode cX11_makeAllStale 14 = .ok (.getfield 94, 3) := by decide +kernel
theorem dX11_makeAllStale_17 : decode cX11_makeAllStale 17 = .ok (.iconst 1, 1) := by decide +kernel
theorem dX11_makeAllStale_18 : decode cX11_makeAllStale 18 = .ok (.putfield 98, 3) := by decide +kernel
theorem dX11_makeAllStale_21 : decode cX11_makeAllStale 21 = .ok (.iinc 1 1, 3) := by decide +kernel
theorem dX11_makeAllStale_24 : decode cX11_makeAllStale 24 = .ok (.goto (-22), 3) := by decide +kernel
theorem dX11_makeAllStale_27 : decode cX11_makeAllStale 27 = .ok (.return_, 1) := by decide +kernel
theorem dX11_isContract_0 : decode cX11_isContract 0 = .ok (.iload_n 1, 1) := by decide +kernel
theorem dX11_isContract_1 : decode cX11_isContract 1 = .ok (.ifCond .lt 18, 3) := by decide +kernel
theorem dX11_isContract_4 : decode cX11_isContract 4 = .ok (.iload_n 1, 1) := by decide +kernel
theorem dX11_isContract_5 : decode cX11_isContract 5 = .ok (.aload_n 0, 1) := by decide +kernel
theorem dX11_isContract_6 : decode cX11_isContract 6 = .ok (.getfield 10, 3) := by decide +kernel
theorem dX11_isContract_9 : decode cX11_isContract 9 = .ok (.invokevirtual 67, 3) := by decide +kernel
theorem dX11_isContract_12 : decode cX11_isContract 12 = .ok (.if_icmp .ge 7, 3) := by decide +kernel
theorem dX11_isContract_15 : decode cX11_isContract 15 = .ok (.iconst 1, 1) := by decide +kernel
theorem dX11_isContract_16 : decode cX11_isContract 16 = .ok (.goto 4, 3) := by decide +kernel
theorem dX11_isContract_19 : decode cX11_isContract 19 = .ok (.iconst 0, 1) := by decide +kernel
theorem dX11_isContract_20 : decode cX11_isContract 20 = .ok (.ireturn, 1) := by decide +kernel
theorem dX11_isPayment_0 : decode cX11_isPayment 0 = .ok (.iload_n 1, 1) := by decide +kernel
theorem dX11_isPayment_1 : decode cX11_isPayment 1 = .ok (.ifCond .lt 18, 3) := by decide +kernel
theorem dX11_isPayment_4 : decode cX11_isPayment 4 = .ok (.iload_n 1, 1) := by decide +kernel
theorem dX11_isPayment_5 : decode cX11_isPayment 5 = .ok (.aload_n 0, 1) := by decide +kernel
theorem dX11_isPayment_6 : decode cX11_isPayment 6 = .ok (.getfield 38, 3) := by decide +kernel
theorem dX11_isPayment_9 : decode cX11_isPayment 9 = .ok (.invokevirtual 67, 3) := by decide +kernel
theorem dX11_isPayment_12 : decode cX11_isPayment 12 = .ok (.if_icmp .ge 7, 3) := by decide +kernel
theorem dX11_isPayment_15 : decode cX11_isPayment 15 = .ok (.iconst 1, 1) := by decide +kernel
theorem dX11_isPayment_16 : decode cX11_isPayment 16 = .ok (.goto 4, 3) := by decide +kernel
theorem dX11_isPayment_19 : decode cX11_isPayment 19 = .ok (.iconst 0, 1) := by decide +kernel
theorem dX11_isPayment_20 : decode cX11_isPayment 20 = .ok (.ireturn, 1) := by decide +kernel
theorem dX11_isPerson_0 : decode cX11_isPerson 0 = .ok (.iload_n 0, 1) := by decide +kernel
theorem dX11_isPerson_1 : decode cX11_isPerson 1 = .ok (.ifCond .lt 13, 3) := by decide +kernel
theorem dX11_isPerson_4 : decode cX11_isPerson 4 = .ok (.iload_n 0, 1) := by decide +kernel
theorem dX11_isPerson_5 : decode cX11_isPerson 5 = .ok (.bipush 6, 2) := by decide +kernel
theorem dX11_isPerson_7 : decode cX11_isPerson 7 = .ok (.if_icmp .ge 7, 3) := by decide +kernel
theorem dX11_isPerson_10 : decode cX11_isPerson 10 = .ok (.iconst 1, 1) := by decide +kernel
theorem dX11_isPerson_11 : decode cX11_isPerson 11 = .ok (.goto 4, 3) := by decide +kernel
theorem dX11_isPerson_14 : decode cX11_isPerson 14 = .ok (.iconst 0, 1) := by decide +kernel
theorem dX11_isPerson_15 : decode cX11_isPerson 15 = .ok (.ireturn, 1) := by decide +kernel
theorem dX11_isPlace_0 : decode cX11_isPlace 0 = .ok (.iload_n 0, 1) := by decide +kernel
theorem dX11_isPlace_1 : decode cX11_isPlace 1 = .ok (.ifCond .lt 12, 3) := by decide +kernel
theorem dX11_isPlace_4 : decode cX11_isPlace 4 = .ok (.iload_n 0, 1) := by decide +kernel
theorem dX11_isPlace_5 : decode cX11_isPlace 5 = .ok (.iconst 3, 1) := by decide +kernel
theorem dX11_isPlace_6 : decode cX11_isPlace 6 = .ok (.if_icmp .ge 7, 3) := by decide +kernel
theorem dX11_isPlace_9 : decode cX11_isPlace 9 = .ok (.iconst 1, 1) := by decide +kernel
theorem dX11_isPlace_10 : decode cX11_isPlace 10 = .ok (.goto 4, 3) := by decide +kernel
theorem dX11_isPlace_13 : decode cX11_isPlace 13 = .ok (.iconst 0, 1) := by decide +kernel
theorem dX11_isPlace_14 : decode cX11_isPlace 14 = .ok (.ireturn, 1) := by decide +kernel
theorem dX11_isState_0 : decode cX11_isState 0 = .ok (.iload_n 0, 1) := by decide +kernel
theorem dX11_isState_1 : decode cX11_isState 1 = .ok (.ifCond .lt 12, 3) := by decide +kernel
theorem dX11_isState_4 : decode cX11_isState 4 = .ok (.iload_n 0, 1) := by decide +kernel
theorem dX11_isState_5 : decode cX11_isState 5 = .ok (.iconst 2, 1) := by decide +kernel
theorem dX11_isState_6 : decode cX11_isState 6 = .ok (.if_icmp .ge 7, 3) := by decide +kernel
theorem dX11_isState_9 : decode cX11_isState 9 = .ok (.iconst 1, 1) := by decide +kernel
theorem dX11_isState_10 : decode cX11_isState 10 = .ok (.goto 4, 3) := by decide +kernel
theorem dX11_isState_13 : decode cX11_isState 13 = .ok (.iconst 0, 1) := by decide +kernel
theorem dX11_isState_14 : decode cX11_isState 14 = .ok (.ireturn, 1) := by decide +kernel
theorem dX11_isMonth_0 : decode cX11_isMonth 0 = .ok (.iload_n 0, 1) := by decide +kernel
theorem dX11_isMonth_1 : decode cX11_isMonth 1 = .ok (.ifCond .lt 13, 3) := by decide +kernel
theorem dX11_isMonth_4 : decode cX11_isMonth 4 = .ok (.iload_n 0, 1) := by decide +kernel
theorem dX11_isMonth_5 : decode cX11_isMonth 5 = .ok (.bipush 24, 2) := by decide +kernel
theorem dX11_isMonth_7 : decode cX11_isMonth 7 = .ok (.if_icmp .ge 7, 3) := by decide +kernel
theorem dX11_isMonth_10 : decode cX11_isMonth 10 = .ok (.iconst 1, 1) := by decide +kernel
theorem dX11_isMonth_11 : decode cX11_isMonth 11 = .ok (.goto 4, 3) := by decide +kernel
theorem dX11_isMonth_14 : decode cX11_isMonth 14 = .ok (.iconst 0, 1) := by decide +kernel
theorem dX11_isMonth_15 : decode cX11_isMonth 15 = .ok (.ireturn, 1) := by decide +kernel
theorem dX11_isDay_0 : decode cX11_isDay 0 = .ok (.iload_n 0, 1) := by decide +kernel
theorem dX11_isDay_1 : decode cX11_isDay 1 = .ok (.ifCond .lt 14, 3) := by decide +kernel
theorem dX11_isDay_4 : decode cX11_isDay 4 = .ok (.iload_n 0, 1) := by decide +kernel
theorem dX11_isDay_5 : decode cX11_isDay 5 = .ok (.sipush 720, 3) := by decide +kernel
theorem dX11_isDay_8 : decode cX11_isDay 8 = .ok (.if_icmp .ge 7, 3) := by decide +kernel
theorem dX11_isDay_11 : decode cX11_isDay 11 = .ok (.iconst 1, 1) := by decide +kernel
theorem dX11_isDay_12 : decode cX11_isDay 12 = .ok (.goto 4, 3) := by decide +kernel
theorem dX11_isDay_15 : decode cX11_isDay 15 = .ok (.iconst 0, 1) := by decide +kernel
theorem dX11_isDay_16 : decode cX11_isDay 16 = .ok (.ireturn, 1) := by decide +kernel
theorem dX11_isWithin_0 : decode cX11_isWithin 0 = .ok (.iload_n 0, 1) := by decide +kernel
theorem dX11_isWithin_1 : decode cX11_isWithin 1 = .ok (.iload_n 1, 1) := by decide +kernel
theorem dX11_isWithin_2 : decode cX11_isWithin 2 = .ok (.if_icmp .lt 12, 3) := by decide +kernel
theorem dX11_isWithin_5 : decode cX11_isWithin 5 = .ok (.iload_n 0, 1) := by decide +kernel
theorem dX11_isWithin_6 : decode cX11_isWithin 6 = .ok (.iload_n 2, 1) := by decide +kernel
theorem dX11_isWithin_7 : decode cX11_isWithin 7 = .ok (.if_icmp .gt 7, 3) := by decide +kernel
theorem dX11_isWithin_10 : decode cX11_isWithin 10 = .ok (.iconst 1, 1) := by decide +kernel
theorem dX11_isWithin_11 : decode cX11_isWithin 11 = .ok (.goto 4, 3) := by decide +kernel
theorem dX11_isWithin_14 : decode cX11_isWithin 14 = .ok (.iconst 0, 1) := by decide +kernel
theorem dX11_isWithin_15 : decode cX11_isWithin 15 = .ok (.ireturn, 1) := by decide +kernel
theorem dX11_needThere_0 : decode cX11_needThere 0 = .ok (.iload_n 0, 1) := by decide +kernel
theorem dX11_needThere_1 : decode cX11_needThere 1 = .ok (.ifCond .ne 14, 3) := by decide +kernel
theorem dX11_needThere_4 : decode cX11_needThere 4 = .ok (.new 372, 3) := by decide +kernel
theorem dX11_needThere_7 : decode cX11_needThere 7 = .ok (.dup, 1) := by decide +kernel
theorem dX11_needThere_8 : decode cX11_needThere 8 = .ok (.ldc_w 374, 3) := by decide +kernel
theorem dX11_needThere_11 : decode cX11_needThere 11 = .ok (.invokespecial 376, 3) := by decide +kernel
theorem dX11_needThere_14 : decode cX11_needThere 14 = .ok (.athrow, 1) := by decide +kernel
theorem dX11_needThere_15 : decode cX11_needThere 15 = .ok (.return_, 1) := by decide +kernel
theorem dX11_needFitting_0 : decode cX11_needFitting 0 = .ok (.iload_n 0, 1) := by decide +kernel
theorem dX11_needFitting_1 : decode cX11_needFitting 1 = .ok (.ifCond .ne 14, 3) := by decide +kernel
theorem dX11_needFitting_4 : decode cX11_needFitting 4 = .ok (.new 379, 3) := by decide +kernel
theorem dX11_needFitting_7 : decode cX11_needFitting 7 = .ok (.dup, 1) := by decide +kernel
theorem dX11_needFitting_8 : decode cX11_needFitting 8 = .ok (.ldc_w 381, 3) := by decide +kernel
theorem dX11_needFitting_11 : decode cX11_needFitting 11 = .ok (.invokespecial 383, 3) := by decide +kernel
theorem dX11_needFitting_14 : decode cX11_needFitting 14 = .ok (.athrow, 1) := by decide +kernel
theorem dX11_needFitting_15 : decode cX11_needFitting 15 = .ok (.return_, 1) := by decide +kernel
theorem dX11_needAllowed_0 : decode cX11_needAllowed 0 = .ok (.iload_n 0, 1) := by decide +kernel
theorem dX11_needAllowed_1 : decode cX11_needAllowed 1 = .ok (.ifCond .ne 14, 3) := by decide +kernel
theorem dX11_needAllowed_4 : decode cX11_needAllowed 4 = .ok (.new 384, 3) := by decide +kernel
theorem dX11_needAllowed_7 : decode cX11_needAllowed 7 = .ok (.dup, 1) := by decide +kernel
theorem dX11_needAllowed_8 : decode cX11_needAllowed 8 = .ok (.ldc_w 386, 3) := by decide +kernel
theorem dX11_needAllowed_11 : decode cX11_needAllowed 11 = .ok (.invokespecial 388, 3) := by decide +kernel
theorem dX11_needAllowed_14 : decode cX11_needAllowed 14 = .ok (.athrow, 1) := by decide +kernel
theorem dX11_needAllowed_15 : decode cX11_needAllowed 15 = .ok (.return_, 1) := by decide +kernel
theorem dJ5_init_d00df_0 : decode cJ5_init_d00df 0 = .ok (.aload_n 0, 1) := by decide +kernel
theorem dJ5_init_d00df_1 : decode cJ5_init_d00df 1 = .ok (.invokespecial 3, 3) := by decide +kernel
theorem dJ5_init_d00df_4 : decode cJ5_init_d00df 4 = .ok (.getstatic 18, 3) := by decide +kernel
theorem dJ5_init_d00df_7 : decode cJ5_init_d00df 7 = .ok (.ifCond .eq 18, 3) := by decide +kernel
theorem dJ5_init_d00df_10 : decode cJ5_init_d00df 10 = .ok (.aload_n 0, 1) := by decide +kernel
theorem dJ5_init_d00df_11 : decode cJ5_init_d00df 11 = .ok (.iload_n 1, 1) := by decide +kernel
theorem dJ5_init_d00df_12 : decode cJ5_init_d00df 12 = .ok (.newarray .byte, 2) := by decide +kernel
theorem dJ5_init_d00df_14 : decode cJ5_init_d00df 14 = .ok (.putfield 15, 3) := by decide +kernel
theorem dJ5_init_d00df_17 : decode cJ5_init_d00df 17 = .ok (.aload_n 0, 1) := by decide +kernel
theorem dJ5_init_d00df_18 : decode cJ5_init_d00df 18 = .ok (.iconst 0, 1) := by decide +kernel
theorem dJ5_init_d00df_19 : decode cJ5_init_d00df 19 = .ok (.putfield 22, 3) := by decide +kernel
theorem dJ5_init_d00df_22 : decode cJ5_init_d00df 22 = .ok (.goto 16, 3) := by decide +kernel
theorem dJ5_init_d00df_25 : decode cJ5_init_d00df 25 = .ok (.aload_n 0, 1) := by decide +kernel
theorem dJ5_init_d00df_26 : decode cJ5_init_d00df 26 = .ok (.iload_n 1, 1) := by decide +kernel
theorem dJ5_init_d00df_27 : decode cJ5_init_d00df 27 = .ok (.invokestatic 26, 3) := by decide +kernel
theorem dJ5_init_d00df_30 : decode cJ5_init_d00df 30 = .ok (.putfield 15, 3) := by decide +kernel
theorem dJ5_init_d00df_33 : decode cJ5_init_d00df 33 = .ok (.aload_n 0, 1) := by decide +kernel
theorem dJ5_init_d00df_34 : decode cJ5_init_d00df 34 = .ok (.iconst 1, 1) := by decide +kernel
theorem dJ5_init_d00df_35 : decode cJ5_init_d00df 35 = .ok (.putfield 22, 3) := by decide +kernel
theorem dJ5_init_d00df_38 : decode cJ5_init_d00df 38 = .ok (.return_, 1) := by decide +kernel
theorem dJ5_length_8abf5_0 : decode cJ5_length_8abf5 0 = .ok (.aload_n 0, 1) := by decide +kernel
theorem dJ5_length_8abf5_1 : decode cJ5_length_8abf5 1 = .ok (.getfield 79, 3) := by decide +kernel
theorem dJ5_length_8abf5_4 : decode cJ5_length_8abf5 4 = .ok (.ireturn, 1) := by decide +kernel
theorem dJ5_ensureCapacityInternal_d00df_0 : decode cJ5_ensureCapacityInternal_d00df 0 = .ok (.aload_n 0, 1) := by decide +kernel
theorem dJ5_ensureCapacityInternal_d00df_1 : decode cJ5_ensureCapacityInternal_d00df 1 = .ok (.getfield 15, 3) := by decide +kernel
theorem dJ5_ensureCapacityInternal_d00df_4 : decode cJ5_ensureCapacityInternal_d00df 4 = .ok (.arraylength, 1) := by decide +kernel
theorem dJ5_ensureCapacityInternal_d00df_5 : decode cJ5_ensureCapacityInternal_d00df 5 = .ok (.aload_n 0, 1) := by decide +kernel
theorem dJ5_ensureCapacityInternal_d00df_6 : decode cJ5_ensureCapacityInternal_d00df 6 = .ok (.getfield 22, 3) := by decide +kernel
theorem dJ5_ensureCapacityInternal_d00df_9 : decode cJ5_ensureCapacityInternal_d00df 9 = .ok (.ishr, 1) := by decide +kernel
theorem dJ5_ensureCapacityInternal_d00df_10 : decode cJ5_ensureCapacityInternal_d00df 10 = .ok (.istore_n 2, 1) := by decide +kernel
theorem dJ5_ensureCapacityInternal_d00df_11 : decode cJ5_ensureCapacityInternal_d00df 11 = .ok (.iload_n 1, 1) := by decide +kernel
theorem dJ5_ensureCapacityInternal_d00df_12 : decode cJ5_ensureCapacityInternal_d00df 12 = .ok (.iload_n 2, 1) := by decide +kernel
theorem dJ5_ensureCapacityInternal_d00df_13 : decode cJ5_ensureCapacityInternal_d00df 13 = .ok (.isub, 1) := by decide +kernel
theorem dJ5_ensureCapacityInternal_d00df_14 : decode cJ5_ensureCapacityInternal_d00df 14 = .ok (.ifCond .le 24, 3) := by decide +kernel
theorem dJ5_ensureCapacityInternal_d00df_17 : decode cJ5_ensureCapacityInternal_d00df 17 = .ok (.aload_n 0, 1) := by decide +kernel
theorem dJ5_ensureCapacityInternal_d00df_18 : decode cJ5_ensureCapacityInternal_d00df 18 = .ok (.aload_n 0, 1) := by decide +kernel
theorem dJ5_ensureCapacityInternal_d00df_19 : decode cJ5_ensureCapacityInternal_d00df 19 = .ok (.getfield 15, 3) := by decide +kernel
theorem dJ5_ensureCapacityInternal_d00df_22 : decode cJ5_ensureCapacityInternal_d00df 22 = .ok (.aload_n 0, 1) := by decide +kernel
theorem dJ5_ensureCapacityInternal_d00df_23 : decode cJ5_ensureCapacityInternal_d00df 23 = .ok (.iload_n 1, 1) := by decide +kernel
theorem dJ5_ensureCapacityInternal_d00df_24 : decode cJ5_ensureCapacityInternal_d00df 24 = .ok (.invokevirtual 104, 3) := by decide +kernel
theorem dJ5_ensureCapacityInternal_d00df_27 : decode cJ5_ensureCapacityInternal_d00df 27 = .ok (.aload_n 0, 1) := by decide +kernel
theorem dJ5_ensureCapacityInternal_d00df_28 : decode cJ5_ensureCapacityInternal_d00df 28 = .ok (.getfield 22, 3) := by decide +kernel
theorem dJ5_ensureCapacityInternal_d00df_31 : decode cJ5_ensureCapacityInternal_d00df 31 = .ok (.ishl, 1) := by decide +kernel
theorem dJ5_ensureCapacityInternal_d00df_32 : decode cJ5_ensureCapacityInternal_d00df 32 = .ok (.invokestatic 108, 3) := by decide +kernel
theorem dJ5_ensureCapacityInternal_d00df_35 : decode cJ5_ensureCapacityInternal_d00df 35 = .ok (.putfield 15, 3) := by decide +kernel
theorem dJ5_ensureCapacityInternal_d00df_38 : decode cJ5_ensureCapacityInternal_d00df 38 = .ok (.return_, 1) := by decide +kernel
theorem dJ5_newCapacity_0f7a4_0 : decode cJ5_newCapacity_0f7a4 0 = .ok (.aload_n 0, 1) := by decide +kernel
theorem dJ5_newCapacity_0f7a4_1 : decode cJ5_newCapacity_0f7a4 1 = .ok (.getfield 15, 3) := by decide +kernel
theorem dJ5_newCapacity_0f7a4_4 : decode cJ5_newCapacity_0f7a4 4 = .ok (.arraylength, 1) := by decide +kernel
theorem dJ5_newCapacity_0f7a4_5 : decode cJ5_newCapacity_0f7a4 5 = .ok (.istore_n 2, 1) := by decide +kernel
theorem dJ5_newCapacity_0f7a4_6 : decode cJ5_newCapacity_0f7a4 6 = .ok (.iload_n 1, 1) := by decide +kernel
theorem dJ5_newCapacity_0f7a4_7 : decode cJ5_newCapacity_0f7a4 7 = .ok (.aload_n 0, 1) := by decide +kernel
theorem dJ5_newCapacity_0f7a4_8 : decode cJ5_newCapacity_0f7a4 8 = .ok (.getfield 22, 3) := by decide +kernel
theorem dJ5_newCapacity_0f7a4_11 : decode cJ5_newCapacity_0f7a4 11 = .ok (.ishl, 1) := by decide +kernel
theorem dJ5_newCapacity_0f7a4_12 : decode cJ5_newCapacity_0f7a4 12 = .ok (.istore_n 3, 1) := by decide +kernel
theorem dJ5_newCapacity_0f7a4_13 : decode cJ5_newCapacity_0f7a4 13 = .ok (.iload_n 3, 1) := by decide +kernel
theorem dJ5_newCapacity_0f7a4_14 : decode cJ5_newCapacity_0f7a4 14 = .ok (.iload_n 2, 1) := by decide +kernel
theorem dJ5_newCapacity_0f7a4_15 : decode cJ5_newCapacity_0f7a4 15 = .ok (.isub, 1) := by decide +kernel
theorem dJ5_newCapacity_0f7a4_16 : decode cJ5_newCapacity_0f7a4 16 = .ok (.istore 4, 2) := by decide +kernel
theorem dJ5_newCapacity_0f7a4_18 : decode cJ5_newCapacity_0f7a4 18 = .ok (.iload_n 2, 1) := by decide +kernel
theorem dJ5_newCapacity_0f7a4_19 : decode cJ5_newCapacity_0f7a4 19 = .ok (.iload 4, 2) := by decide +kernel
theorem dJ5_newCapacity_0f7a4_21 : decode cJ5_newCapacity_0f7a4 21 = .ok (.iload_n 2, 1) := by decide +kernel
theorem dJ5_newCapacity_0f7a4_22 : decode cJ5_newCapacity_0f7a4 22 = .ok (.iconst 2, 1) := by decide +kernel
theorem dJ5_newCapacity_0f7a4_23 : decode cJ5_newCapacity_0f7a4 23 = .ok (.aload_n 0, 1) := by decide +kernel
theorem dJ5_newCapacity_0f7a4_24 : decode cJ5_newCapacity_0f7a4 24 = .ok (.getfield 22, 3) := by decide +kernel
theorem dJ5_newCapacity_0f7a4_27 : decode cJ5_newCapacity_0f7a4 27 = .ok (.ishl, 1) := by decide +kernel
theorem dJ5_newCapacity_0f7a4_28 : decode cJ5_newCapacity_0f7a4 28 = .ok (.iadd, 1) := by decide +kernel
theorem dJ5_newCapacity_0f7a4_29 : decode cJ5_newCapacity_0f7a4 29 = .ok (.invokestatic 114, 3) := by decide +kernel
theorem dJ5_newCapacity_0f7a4_32 : decode cJ5_newCapacity_0f7a4 32 = .ok (.istore 5, 2) := by decide +kernel
theorem dJ5_newCapacity_0f7a4_34 : decode cJ5_newCapacity_0f7a4 34 = .ok (.iload 5, 2) := by decide +kernel
theorem dJ5_newCapacity_0f7a4_36 : decode cJ5_newCapacity_0f7a4 36 = .ok (.ldc 39, 2) := by decide +kernel
theorem dJ5_newCapacity_0f7a4_38 : decode cJ5_newCapacity_0f7a4 38 = .ok (.if_icmp .ne 13, 3) := by decide +kernel
theorem dJ5_newCapacity_0f7a4_41 : decode cJ5_newCapacity_0f7a4 41 = .ok (.new 120, 3) := by decide +kernel
theorem dJ5_newCapacity_0f7a4_44 : decode cJ5_newCapacity_0f7a4 44 = .ok (.dup, 1) := by decide +kernel
theorem dJ5_newCapacity_0f7a4_45 : decode cJ5_newCapacity_0f7a4 45 = .ok (.ldc 122, 2) := by decide +kernel
theorem dJ5_newCapacity_0f7a4_47 : decode cJ5_newCapacity_0f7a4 47 = .ok (.invokespecial 124, 3) := by decide +kernel
theorem dJ5_newCapacity_0f7a4_50 : decode cJ5_newCapacity_0f7a4 50 = .ok (.athrow, 1) := by decide +kernel
theorem dJ5_newCapacity_0f7a4_51 : decode cJ5_newCapacity_0f7a4 51 = .ok (.iload 5, 2) := by decide +kernel
theorem dJ5_newCapacity_0f7a4_53 : decode cJ5_newCapacity_0f7a4 53 = .ok (.aload_n 0, 1) := by decide +kernel
theorem dJ5_newCapacity_0f7a4_54 : decode cJ5_newCapacity_0f7a4 54 = .ok (.getfield 22, 3) := by decide +kernel
theorem dJ5_newCapacity_0f7a4_57 : decode cJ5_newCapacity_0f7a4 57 = .ok (.ishr, 1) := by decide +kernel
theorem dJ5_newCapacity_0f7a4_58 : decode cJ5_newCapacity_0f7a4 58 = .ok (.ireturn, 1) := by decide +kernel
theorem dJ5_inflate_da8c8_0 : decode cJ5_inflate_da8c8 0 = .ok (.aload_n 0, 1) := by decide +kernel
theorem dJ5_inflate_da8c8_1 : decode cJ5_inflate_da8c8 1 = .ok (.invokevirtual 83, 3) := by decide +kernel
theorem dJ5_inflate_da8c8_4 : decode cJ5_inflate_da8c8 4 = .ok (.ifCond .ne 4, 3) := by decide +kernel
theorem dJ5_inflate_da8c8_7 : decode cJ5_inflate_da8c8 7 = .ok (.return_, 1) := by decide +kernel
theorem dJ5_inflate_da8c8_8 : decode cJ5_inflate_da8c8 8 = .ok (.aload_n 0, 1) := by decide +kernel
theorem dJ5_inflate_da8c8_9 : decode cJ5_inflate_da8c8 9 = .ok (.getfield 15, 3) := by decide +kernel
theorem dJ5_inflate_da8c8_12 : decode cJ5_inflate_da8c8 12 = .ok (.arraylength, 1) := by decide +kernel
theorem dJ5_inflate_da8c8_13 : decode cJ5_inflate_da8c8 13 = .ok (.invokestatic 26, 3) := by decide +kernel
theorem dJ5_inflate_da8c8_16 : decode cJ5_inflate_da8c8 16 = .ok (.astore_n 1, 1) := by decide +kernel
theorem dJ5_inflate_da8c8_17 : decode cJ5_inflate_da8c8 17 = .ok (.aload_n 0, 1) := by decide +kernel
theorem dJ5_inflate_da8c8_18 : decode cJ5_inflate_da8c8 18 = .ok (.getfield 15, 3) := by decide +kernel
theorem dJ5_inflate_da8c8_21 : decode cJ5_inflate_da8c8 21 = .ok (.iconst 0, 1) := by decide +kernel
theorem dJ5_inflate_da8c8_22 : decode cJ5_inflate_da8c8 22 = .ok (.aload_n 1, 1) := by decide +kernel
theorem dJ5_inflate_da8c8_23 : decode cJ5_inflate_da8c8 23 = .ok (.iconst 0, 1) := by decide +kernel
theorem dJ5_inflate_da8c8_24 : decode cJ5_inflate_da8c8 24 = .ok (.aload_n 0, 1) := by decide +kernel
theorem dJ5_inflate_da8c8_25 : decode cJ5_inflate_da8c8 25 = .ok (.getfield 79, 3) := by decide +kernel
theorem dJ5_inflate_da8c8_28 : decode cJ5_inflate_da8c8 28 = .ok (.invokestatic 125, 3) := by decide +kernel
theorem dJ5_inflate_da8c8_31 : decode cJ5_inflate_da8c8 31 = .ok (.aload_n 0, 1) := by decide +kernel
theorem dJ5_inflate_da8c8_32 : decode cJ5_inflate_da8c8 32 = .ok (.aload_n 1, 1) := by decide +kernel
theorem dJ5_inflate_da8c8_33 : decode cJ5_inflate_da8c8 33 = .ok (.putfield 15, 3) := by decide +kernel
theorem dJ5_inflate_da8c8_36 : decode cJ5_inflate_da8c8 36 = .ok (.aload_n 0, 1) := by decide +kernel
theorem dJ5_inflate_da8c8_37 : decode cJ5_inflate_da8c8 37 = .ok (.iconst 1, 1) := by decide +kernel
theorem dJ5_inflate_da8c8_38 : decode cJ5_inflate_da8c8 38 = .ok (.putfield 22, 3) := by decide +kernel
theorem dJ5_inflate_da8c8_41 : decode cJ5_inflate_da8c8 41 = .ok (.return_, 1) := by decide +kernel
theorem dJ5_append_cf1ce_0 : decode cJ5_append_cf1ce 0 = .ok (.aload_n 1, 1) := by decide +kernel
theorem dJ5_append_cf1ce_1 : decode cJ5_append_cf1ce 1 = .ok (.ifnonnull 8, 3) := by decide +kernel
theorem dJ5_append_cf1ce_4 : decode cJ5_append_cf1ce 4 = .ok (.aload_n 0, 1) := by decide +kernel
theorem dJ5_append_cf1ce_5 : decode cJ5_append_cf1ce 5 = .ok (.invokevirtual 204, 3) := by decide +kernel
theorem dJ5_append_cf1ce_8 : decode cJ5_append_cf1ce 8 = .ok (.areturn, 1) := by decide +kernel
theorem dJ5_append_cf1ce_9 : decode cJ5_append_cf1ce 9 = .ok (.aload_n 1, 1) := by decide +kernel
theorem dJ5_append_cf1ce_10 : decode cJ5_append_cf1ce 10 = .ok (.invokevirtual 32, 3) := by decide +kernel
theorem dJ5_append_cf1ce_13 : decode cJ5_append_cf1ce 13 = .ok (.istore_n 2, 1) := by decide +kernel
theorem dJ5_append_cf1ce_14 : decode cJ5_append_cf1ce 14 = .ok (.aload_n 0, 1) := by decide +kernel
theorem dJ5_append_cf1ce_15 : decode cJ5_append_cf1ce 15 = .ok (.aload_n 0, 1) := by decide +kernel
theorem dJ5_append_cf1ce_16 : decode cJ5_append_cf1ce 16 = .ok (.getfield 79, 3) := by decide +kernel
theorem dJ5_append_cf1ce_19 : decode cJ5_append_cf1ce 19 = .ok (.iload_n 2, 1) := by decide +kernel
theorem dJ5_append_cf1ce_20 : decode cJ5_append_cf1ce 20 = .ok (.iadd, 1) := by decide +kernel
theorem dJ5_append_cf1ce_21 : decode cJ5_append_cf1ce 21 = .ok (.invokevirtual 100, 3) := by decide +kernel
theorem dJ5_append_cf1ce_24 : decode cJ5_append_cf1ce 24 = .ok (.aload_n 0, 1) := by decide +kernel
theorem dJ5_append_cf1ce_25 : decode cJ5_append_cf1ce 25 = .ok (.aload_n 0, 1) := by decide +kernel
theorem dJ5_append_cf1ce_26 : decode cJ5_append_cf1ce 26 = .ok (.getfield 79, 3) := by decide +kernel
theorem dJ5_append_cf1ce_29 : decode cJ5_append_cf1ce 29 = .ok (.aload_n 1, 1) := by decide +kernel
theorem dJ5_append_cf1ce_30 : decode cJ5_append_cf1ce 30 = .ok (.invokevirtual 208, 3) := by decide +kernel
theorem dJ5_append_cf1ce_33 : decode cJ5_append_cf1ce 33 = .ok (.aload_n 0, 1) := by decide +kernel
theorem dJ5_append_cf1ce_34 : decode cJ5_append_cf1ce 34 = .ok (.dup, 1) := by decide +kernel
theorem dJ5_append_cf1ce_35 : decode cJ5_append_cf1ce 35 = .ok (.getfield 79, 3) := by decide +kernel
theorem dJ5_append_cf1ce_38 : decode cJ5_append_cf1ce 38 = .ok (.iload_n 2, 1) := by decide +kernel
theorem dJ5_append_cf1ce_39 : decode cJ5_append_cf1ce 39 = .ok (.iadd, 1) := by decide +kernel
theorem dJ5_append_cf1ce_40 : decode cJ5_append_cf1ce 40 = .ok (.putfield 79, 3) := by decide +kernel
theorem dJ5_append_cf1ce_43 : decode cJ5_append_cf1ce 43 = .ok (.aload_n 0, 1) := by decide +kernel
theorem dJ5_append_cf1ce_44 : decode cJ5_append_cf1ce 44 = .ok (.areturn, 1) := by decide +kernel
theorem dJ5_appendNull_278bc_0 : decode cJ5_appendNull_278bc 0 = .ok (.aload_n 0, 1) := by decide +kernel
theorem dJ5_appendNull_278bc_1 : decode cJ5_appendNull_278bc 1 = .ok (.aload_n 0, 1) := by decide +kernel
theorem dJ5_appendNull_278bc_2 : decode cJ5_appendNull_278bc 2 = .ok (.getfield 79, 3) := by decide +kernel
theorem dJ5_appendNull_278bc_5 : decode cJ5_appendNull_278bc 5 = .ok (.iconst 4, 1) := by decide +kernel
theorem dJ5_appendNull_278bc_6 : decode cJ5_appendNull_278bc 6 = .ok (.iadd, 1) := by decide +kernel
theorem dJ5_appendNull_278bc_7 : decode cJ5_appendNull_278bc 7 = .ok (.invokevirtual 100, 3) := by decide +kernel
theorem dJ5_appendNull_278bc_10 : decode cJ5_appendNull_278bc 10 = .ok (.aload_n 0, 1) := by decide +kernel
theorem dJ5_appendNull_278bc_11 : decode cJ5_appendNull_278bc 11 = .ok (.getfield 79, 3) := by decide +kernel
theorem dJ5_appendNull_278bc_14 : decode cJ5_appendNull_278bc 14 = .ok (.istore_n 1, 1) := by decide +kernel
theorem dJ5_appendNull_278bc_15 : decode cJ5_appendNull_278bc 15 = .ok (.aload_n 0, 1) := by decide +kernel
theorem dJ5_appendNull_278bc_16 : decode cJ5_appendNull_278bc 16 = .ok (.getfield 15, 3) := by decide +kernel
theorem dJ5_appendNull_278bc_19 : decode cJ5_appendNull_278bc 19 = .ok (.astore_n 2, 1) := by decide +kernel
theorem dJ5_appendNull_278bc_20 : decode cJ5_appendNull_278bc 20 = .ok (.aload_n 0, 1) := by decide +kernel
theorem dJ5_appendNull_278bc_21 : decode cJ5_appendNull_278bc 21 = .ok (.invokevirtual 83, 3) := by decide +kernel
theorem dJ5_appendNull_278bc_24 : decode cJ5_appendNull_278bc 24 = .ok (.ifCond .eq 38, 3) := by decide +kernel
theorem dJ5_appendNull_278bc_27 : decode cJ5_appendNull_278bc 27 = .ok (.aload_n 2, 1) := by decide +kernel
theorem dJ5_appendNull_278bc_28 : decode cJ5_appendNull_278bc 28 = .ok (.iload_n 1, 1) := by decide +kernel
theorem dJ5_appendNull_278bc_29 : decode cJ5_appendNull_278bc 29 = .ok (.iinc 1 1, 3) := by decide +kernel
theorem dJ5_appendNull_278bc_32 : decode cJ5_appendNull_278bc 32 = .ok (.bipush 110, 2) := by decide +kernel
theorem dJ5_appendNull_278bc_34 : decode cJ5_appendNull_278bc 34 = .ok (.bastore, 1) := by decide +kernel
theorem dJ5_appendNull_278bc_35 : decode cJ5_appendNull_278bc 35 = .ok (.aload_n 2, 1) := by decide +kernel
theorem dJ5_appendNull_278bc_36 : decode cJ5_appendNull_278bc 36 = .ok (.iload_n 1, 1) := by decide +kernel
theorem dJ5_appendNull_278bc_37 : decode cJ5_appendNull_278bc 37 = .ok (.iinc 1 1, 3) := by decide +kernel
theorem dJ5_appendNull_278bc_40 : decode cJ5_appendNull_278bc 40 = .ok (.bipush 117, 2) := by decide +kernel
theorem dJ5_appendNull_278bc_42 : decode cJ5_appendNull_278bc 42 = .ok (.bastore, 1) := by decide +kernel
theorem dJ5_appendNull_278bc_43 : decode cJ5_appendNull_278bc 43 = .ok (.aload_n 2, 1) := by decide +kernel
theorem dJ5_appendNull_278bc_44 : decode cJ5_appendNull_278bc 44 = .ok (.iload_n 1, 1) := by decide +kernel
theorem dJ5_appendNull_278bc_45 : decode cJ5_appendNull_278bc 45 = .ok (.iinc 1 1, 3) := by decide +kernel
theorem dJ5_appendNull_278bc_48 : decode cJ5_appendNull_278bc 48 = .ok (.bipush 108, 2) := by decide +kernel
theorem dJ5_appendNull_278bc_50 : decode cJ5_appendNull_278bc 50 = .ok (.bastore, 1) := by decide +kernel
theorem dJ5_appendNull_278bc_51 : decode cJ5_appendNull_278bc 51 = .ok (.aload_n 2, 1) := by decide +kernel
theorem dJ5_appendNull_278bc_52 : decode cJ5_appendNull_278bc 52 = .ok (.iload_n 1, 1) := by decide +kernel
theorem dJ5_appendNull_278bc_53 : decode cJ5_appendNull_278bc 53 = .ok (.iinc 1 1, 3) := by decide +kernel
theorem dJ5_appendNull_278bc_56 : decode cJ5_appendNull_278bc 56 = .ok (.bipush 108, 2) := by decide +kernel
theorem dJ5_appendNull_278bc_58 : decode cJ5_appendNull_278bc 58 = .ok (.bastore, 1) := by decide +kernel
theorem dJ5_appendNull_278bc_59 : decode cJ5_appendNull_278bc 59 = .ok (.goto 17, 3) := by decide +kernel
theorem dJ5_appendNull_278bc_62 : decode cJ5_appendNull_278bc 62 = .ok (.aload_n 2, 1) := by decide +kernel
theorem dJ5_appendNull_278bc_63 : decode cJ5_appendNull_278bc 63 = .ok (.iload_n 1, 1) := by decide +kernel
theorem dJ5_appendNull_278bc_64 : decode cJ5_appendNull_278bc 64 = .ok (.bipush 110, 2) := by decide +kernel
theorem dJ5_appendNull_278bc_66 : decode cJ5_appendNull_278bc 66 = .ok (.bipush 117, 2) := by decide +kernel
theorem dJ5_appendNull_278bc_68 : decode cJ5_appendNull_278bc 68 = .ok (.bipush 108, 2) := by decide +kernel
theorem dJ5_appendNull_278bc_70 : decode cJ5_appendNull_278bc 70 = .ok (.bipush 108, 2) := by decide +kernel
theorem dJ5_appendNull_278bc_72 : decode cJ5_appendNull_278bc 72 = .ok (.invokestatic 226, 3) := by decide +kernel
theorem dJ5_appendNull_278bc_75 : decode cJ5_appendNull_278bc 75 = .ok (.istore_n 1, 1) := by decide +kernel
theorem dJ5_appendNull_278bc_76 : decode cJ5_appendNull_278bc 76 = .ok (.aload_n 0, 1) := by decide +kernel
theorem dJ5_appendNull_278bc_77 : decode cJ5_appendNull_278bc 77 = .ok (.iload_n 1, 1) := by decide +kernel
theorem dJ5_appendNull_278bc_78 : decode cJ5_appendNull_278bc 78 = .ok (.putfield 79, 3) := by decide +kernel
theorem dJ5_appendNull_278bc_81 : decode cJ5_appendNull_278bc 81 = .ok (.aload_n 0, 1) := by decide +kernel
theorem dJ5_appendNull_278bc_82 : decode cJ5_appendNull_278bc 82 = .ok (.areturn, 1) := by decide +kernel
theorem dJ5_append_c97b9_0 : decode cJ5_append_c97b9 0 = .ok (.aload_n 0, 1) := by decide +kernel
theorem dJ5_append_c97b9_1 : decode cJ5_append_c97b9 1 = .ok (.getfield 79, 3) := by decide +kernel
theorem dJ5_append_c97b9_4 : decode cJ5_append_c97b9 4 = .ok (.istore_n 2, 1) := by decide +kernel
theorem dJ5_append_c97b9_5 : decode cJ5_append_c97b9 5 = .ok (.iload_n 2, 1) := by decide +kernel
theorem dJ5_append_c97b9_6 : decode cJ5_append_c97b9 6 = .ok (.iload_n 1, 1) := by decide +kernel
theorem dJ5_append_c97b9_7 : decode cJ5_append_c97b9 7 = .ok (.invokestatic 245, 3) := by decide +kernel
theorem dJ5_append_c97b9_10 : decode cJ5_append_c97b9 10 = .ok (.iadd, 1) := by decide +kernel
theorem dJ5_append_c97b9_11 : decode cJ5_append_c97b9 11 = .ok (.istore_n 3, 1) := by decide +kernel
theorem dJ5_append_c97b9_12 : decode cJ5_append_c97b9 12 = .ok (.aload_n 0, 1) := by decide +kernel
theorem dJ5_append_c97b9_13 : decode cJ5_append_c97b9 13 = .ok (.iload_n 3, 1) := by decide +kernel
theorem dJ5_append_c97b9_14 : decode cJ5_append_c97b9 14 = .ok (.invokevirtual 100, 3) := by decide +kernel
theorem dJ5_append_c97b9_17 : decode cJ5_append_c97b9 17 = .ok (.aload_n 0, 1) := by decide +kernel
theorem dJ5_append_c97b9_18 : decode cJ5_append_c97b9 18 = .ok (.invokevirtual 83, 3) := by decide +kernel
theorem dJ5_append_c97b9_21 : decode cJ5_append_c97b9 21 = .ok (.ifCond .eq 16, 3) := by decide +kernel
theorem dJ5_append_c97b9_24 : decode cJ5_append_c97b9 24 = .ok (.iload_n 1, 1) := by decide +kernel
theorem dJ5_append_c97b9_25 : decode cJ5_append_c97b9 25 = .ok (.iload_n 3, 1) := by decide +kernel
theorem dJ5_append_c97b9_26 : decode cJ5_append_c97b9 26 = .ok (.aload_n 0, 1) := by decide +kernel
theorem dJ5_append_c97b9_27 : decode cJ5_append_c97b9 27 = .ok (.getfield 15, 3) := by decide +kernel
theorem dJ5_append_c97b9_30 : decode cJ5_append_c97b9 30 = .ok (.invokestatic 248, 3) := by decide +kernel
theorem dJ5_append_c97b9_33 : decode cJ5_append_c97b9 33 = .ok (.pop, 1) := by decide +kernel
theorem dJ5_append_c97b9_34 : decode cJ5_append_c97b9 34 = .ok (.goto 14, 3) := by decide +kernel
theorem dJ5_append_c97b9_37 : decode cJ5_append_c97b9 37 = .ok (.iload_n 1, 1) := by decide +kernel
theorem dJ5_append_c97b9_38 : decode cJ5_append_c97b9 38 = .ok (.iload_n 2, 1) := by decide +kernel
theorem dJ5_append_c97b9_39 : decode cJ5_append_c97b9 39 = .ok (.iload_n 3, 1) := by decide +kernel
theorem dJ5_append_c97b9_40 : decode cJ5_append_c97b9 40 = .ok (.aload_n 0, 1) := by decide +kernel
theorem dJ5_append_c97b9_41 : decode cJ5_append_c97b9 41 = .ok (.getfield 15, 3) := by decide +kernel
theorem dJ5_append_c97b9_44 : decode cJ5_append_c97b9 44 = .ok (.invokestatic 251, 3) := by decide +kernel
theorem dJ5_append_c97b9_47 : decode cJ5_append_c97b9 47 = .ok (.pop, 1) := by decide +kernel
theorem dJ5_append_c97b9_48 : decode cJ5_append_c97b9 48 = .ok (.aload_n 0, 1) := by decide +kernel
theorem dJ5_append_c97b9_49 : decode cJ5_append_c97b9 49 = .ok (.iload_n 3, 1) := by decide +kernel
theorem dJ5_append_c97b9_50 : decode cJ5_append_c97b9 50 = .ok (.putfield 79, 3) := by decide +kernel
theorem dJ5_append_c97b9_53 : decode cJ5_append_c97b9 53 = .ok (.aload_n 0, 1) := by decide +kernel
theorem dJ5_append_c97b9_54 : decode cJ5_append_c97b9 54 = .ok (.areturn, 1) := by decide +kernel
theorem dJ5_getValue_6d5f1_0 : decode cJ5_getValue_6d5f1 0 = .ok (.aload_n 0, 1) := by decide +kernel
theorem dJ5_getValue_6d5f1_1 : decode cJ5_getValue_6d5f1 1 = .ok (.getfield 15, 3) := by decide +kernel
theorem dJ5_getValue_6d5f1_4 : decode cJ5_getValue_6d5f1 4 = .ok (.areturn, 1) := by decide +kernel
theorem dJ5_isLatin1_aae02_0 : decode cJ5_isLatin1_aae02 0 = .ok (.getstatic 18, 3) := by decide +kernel
theorem dJ5_isLatin1_aae02_3 : decode cJ5_isLatin1_aae02 3 = .ok (.ifCond .eq 14, 3) := by decide +kernel
theorem dJ5_isLatin1_aae02_6 : decode cJ5_isLatin1_aae02 6 = .ok (.aload_n 0, 1) := by decide +kernel
theorem dJ5_isLatin1_aae02_7 : decode cJ5_isLatin1_aae02 7 = .ok (.getfield 22, 3) := by decide +kernel
theorem dJ5_isLatin1_aae02_10 : decode cJ5_isLatin1_aae02 10 = .ok (.ifCond .ne 7, 3) := by decide +kernel
theorem dJ5_isLatin1_aae02_13 : decode cJ5_isLatin1_aae02 13 = .ok (.iconst 1, 1) := by decide +kernel
theorem dJ5_isLatin1_aae02_14 : decode cJ5_isLatin1_aae02 14 = .ok (.goto 4, 3) := by decide +kernel
theorem dJ5_isLatin1_aae02_17 : decode cJ5_isLatin1_aae02 17 = .ok (.iconst 0, 1) := by decide +kernel
theorem dJ5_isLatin1_aae02_18 : decode cJ5_isLatin1_aae02 18 = .ok (.ireturn, 1) := by decide +kernel
theorem dJ5_inflateIfNeededFor_a7421_0 : decode cJ5_inflateIfNeededFor_a7421 0 = .ok (.getstatic 18, 3) := by decide +kernel
theorem dJ5_inflateIfNeededFor_a7421_3 : decode cJ5_inflateIfNeededFor_a7421 3 = .ok (.ifCond .eq 18, 3) := by decide +kernel
theorem dJ5_inflateIfNeededFor_a7421_6 : decode cJ5_inflateIfNeededFor_a7421 6 = .ok (.aload_n 0, 1) := by decide +kernel
theorem dJ5_inflateIfNeededFor_a7421_7 : decode cJ5_inflateIfNeededFor_a7421 7 = .ok (.getfield 22, 3) := by decide +kernel
theorem dJ5_inflateIfNeededFor_a7421_10 : decode cJ5_inflateIfNeededFor_a7421 10 = .ok (.aload_n 1, 1) := by decide +kernel
theorem dJ5_inflateIfNeededFor_a7421_11 : decode cJ5_inflateIfNeededFor_a7421 11 = .ok (.invokevirtual 40, 3) := by decide +kernel
theorem dJ5_inflateIfNeededFor_a7421_14 : decode cJ5_inflateIfNeededFor_a7421 14 = .ok (.if_icmp .eq 7, 3) := by decide +kernel
theorem dJ5_inflateIfNeededFor_a7421_17 : decode cJ5_inflateIfNeededFor_a7421 17 = .ok (.aload_n 0, 1) := by decide +kernel
theorem dJ5_inflateIfNeededFor_a7421_18 : decode cJ5_inflateIfNeededFor_a7421 18 = .ok (.invokevirtual 195, 3) := by decide +kernel
theorem dJ5_inflateIfNeededFor_a7421_21 : decode cJ5_inflateIfNeededFor_a7421 21 = .ok (.return_, 1) := by decide +kernel
theorem dJ5_putStringAt_47b60_0 : decode cJ5_putStringAt_47b60 0 = .ok (.aload_n 0, 1) := by decide +kernel
theorem dJ5_putStringAt_47b60_1 : decode cJ5_putStringAt_47b60 1 = .ok (.aload_n 2, 1) := by decide +kernel
theorem dJ5_putStringAt_47b60_2 : decode cJ5_putStringAt_47b60 2 = .ok (.invokevirtual 397, 3) := by decide +kernel
theorem dJ5_putStringAt_47b60_5 : decode cJ5_putStringAt_47b60 5 = .ok (.aload_n 2, 1) := by decide +kernel
theorem dJ5_putStringAt_47b60_6 : decode cJ5_putStringAt_47b60 6 = .ok (.aload_n 0, 1) := by decide +kernel
theorem dJ5_putStringAt_47b60_7 : decode cJ5_putStringAt_47b60 7 = .ok (.getfield 15, 3) := by decide +kernel
theorem dJ5_putStringAt_47b60_10 : decode cJ5_putStringAt_47b60 10 = .ok (.iload_n 1, 1) := by decide +kernel
theorem dJ5_putStringAt_47b60_11 : decode cJ5_putStringAt_47b60 11 = .ok (.aload_n 0, 1) := by decide +kernel
theorem dJ5_putStringAt_47b60_12 : decode cJ5_putStringAt_47b60 12 = .ok (.getfield 22, 3) := by decide +kernel
theorem dJ5_putStringAt_47b60_15 : decode cJ5_putStringAt_47b60 15 = .ok (.invokevirtual 399, 3) := by decide +kernel
theorem dJ5_putStringAt_47b60_18 : decode cJ5_putStringAt_47b60 18 = .ok (.return_, 1) := by decide +kernel
theorem dJ6_getChars_ba4f3_0 : decode cJ6_getChars_ba4f3 0 = .ok (.iload_n 1, 1) := by decide +kernel
theorem dJ6_getChars_ba4f3_1 : decode cJ6_getChars_ba4f3 1 = .ok (.istore 5, 2) := by decide +kernel
theorem dJ6_getChars_ba4f3_3 : decode cJ6_getChars_ba4f3 3 = .ok (.iload_n 0, 1) := by decide +kernel
theorem dJ6_getChars_ba4f3_4 : decode cJ6_getChars_ba4f3 4 = .ok (.ifCond .ge 7, 3) := by decide +kernel
theorem dJ6_getChars_ba4f3_7 : decode cJ6_getChars_ba4f3 7 = .ok (.iconst 1, 1) := by decide +kernel
theorem dJ6_getChars_ba4f3_8 : decode cJ6_getChars_ba4f3 8 = .ok (.goto 4, 3) := by decide +kernel
theorem dJ6_getChars_ba4f3_11 : decode cJ6_getChars_ba4f3 11 = .ok (.iconst 0, 1) := by decide +kernel
theorem dJ6_getChars_ba4f3_12 : decode cJ6_getChars_ba4f3 12 = .ok (.istore 6, 2) := by decide +kernel
theorem dJ6_getChars_ba4f3_14 : decode cJ6_getChars_ba4f3 14 = .ok (.iload 6, 2) := by decide +kernel
theorem dJ6_getChars_ba4f3_16 : decode cJ6_getChars_ba4f3 16 = .ok (.ifCond .ne 6, 3) := by decide +kernel
theorem dJ6_getChars_ba4f3_19 : decode cJ6_getChars_ba4f3 19 = .ok (.iload_n 0, 1) := by decide +kernel
theorem dJ6_getChars_ba4f3_20 : decode cJ6_getChars_ba4f3 20 = .ok (.ineg, 1) := by decide +kernel
theorem dJ6_getChars_ba4f3_21 : decode cJ6_getChars_ba4f3 21 = .ok (.istore_n 0, 1) := by decide +kernel
theorem dJ6_getChars_ba4f3_22 : decode cJ6_getChars_ba4f3 22 = .ok (.iload_n 0, 1) := by decide +kernel
theorem dJ6_getChars_ba4f3_23 : decode cJ6_getChars_ba4f3 23 = .ok (.bipush (-100), 2) := by decide +kernel
theorem dJ6_getChars_ba4f3_25 : decode cJ6_getChars_ba4f3 25 = .ok (.if_icmp .gt 47, 3) := by decide +kernel
theorem dJ6_getChars_ba4f3_28 : decode cJ6_getChars_ba4f3 28 = .ok (.iload_n 0, 1) := by decide +kernel
theorem dJ6_getChars_ba4f3_29 : decode cJ6_getChars_ba4f3 29 = .ok (.bipush 100, 2) := by decide +kernel
theorem dJ6_getChars_ba4f3_31 : decode cJ6_getChars_ba4f3 31 = .ok (.idiv, 1) := by decide +kernel
theorem dJ6_getChars_ba4f3_32 : decode cJ6_getChars_ba4f3 32 = .ok (.istore_n 3, 1) := by decide +kernel
theorem dJ6_getChars_ba4f3_33 : decode cJ6_getChars_ba4f3 33 = .ok (.iload_n 3, 1) := by decide +kernel
theorem dJ6_getChars_ba4f3_34 : decode cJ6_getChars_ba4f3 34 = .ok (.bipush 100, 2) := by decide +kernel
theorem dJ6_getChars_ba4f3_36 : decode cJ6_getChars_ba4f3 36 = .ok (.imul, 1) := by decide +kernel
theorem dJ6_getChars_ba4f3_37 : decode cJ6_getChars_ba4f3 37 = .ok (.iload_n 0, 1) := by decide +kernel
theorem dJ6_getChars_ba4f3_38 : decode cJ6_getChars_ba4f3 38 = .ok (.isub, 1) := by decide +kernel
theorem dJ6_getChars_ba4f3_39 : decode cJ6_getChars_ba4f3 39 = .ok (.istore 4, 2) := by decide +kernel
theorem dJ6_getChars_ba4f3_41 : decode cJ6_getChars_ba4f3 41 = .ok (.iload_n 3, 1) := by decide +kernel
theorem dJ6_getChars_ba4f3_42 : decode cJ6_getChars_ba4f3 42 = .ok (.istore_n 0, 1) := by decide +kernel
theorem dJ6_getChars_ba4f3_43 : decode cJ6_getChars_ba4f3 43 = .ok (.aload_n 2, 1) := by decide +kernel
theorem dJ6_getChars_ba4f3_44 : decode cJ6_getChars_ba4f3 44 = .ok (.iinc 5 (-1), 3) := by decide +kernel
theorem dJ6_getChars_ba4f3_47 : decode cJ6_getChars_ba4f3 47 = .ok (.iload 5, 2) := by decide +kernel
theorem dJ6_getChars_ba4f3_49 : decode cJ6_getChars_ba4f3 49 = .ok (.getstatic 83, 3) := by decide +kernel
theorem dJ6_getChars_ba4f3_52 : decode cJ6_getChars_ba4f3 52 = .ok (.iload 4, 2) := by decide +kernel
theorem dJ6_getChars_ba4f3_54 : decode cJ6_getChars_ba4f3 54 = .ok (.baload, 1) := by decide +kernel
theorem dJ6_getChars_ba4f3_55 : decode cJ6_getChars_ba4f3 55 = .ok (.bastore, 1) := by decide +kernel
theorem dJ6_getChars_ba4f3_56 : decode cJ6_getChars_ba4f3 56 = .ok (.aload_n 2, 1) := by decide +kernel
theorem dJ6_getChars_ba4f3_57 : decode cJ6_getChars_ba4f3 57 = .ok (.iinc 5 (-1), 3) := by decide +kernel
theorem dJ6_getChars_ba4f3_60 : decode cJ6_getChars_ba4f3 60 = .ok (.iload 5, 2) := by decide +kernel
theorem dJ6_getChars_ba4f3_62 : decode cJ6_getChars_ba4f3 62 = .ok (.getstatic 87, 3) := by decide +kernel
theorem dJ6_getChars_ba4f3_65 : decode cJ6_getChars_ba4f3 65 = .ok (.iload 4, 2) := by decide +kernel
theorem dJ6_getChars_ba4f3_67 : decode cJ6_getChars_ba4f3 67 = .ok (.baload, 1) := by decide +kernel
theorem dJ6_getChars_ba4f3_68 : decode cJ6_getChars_ba4f3 68 = .ok (.bastore, 1) := by decide +kernel
theorem dJ6_getChars_ba4f3_69 : decode cJ6_getChars_ba4f3 69 = .ok (.goto (-47), 3) := by decide +kernel
theorem dJ6_getChars_ba4f3_72 : decode cJ6_getChars_ba4f3 72 = .ok (.aload_n 2, 1) := by decide +kernel
theorem dJ6_getChars_ba4f3_73 : decode cJ6_getChars_ba4f3 73 = .ok (.iinc 5 (-1), 3) := by decide +kernel
theorem dJ6_getChars_ba4f3_76 : decode cJ6_getChars_ba4f3 76 = .ok (.iload 5, 2) := by decide +kernel
theorem dJ6_getChars_ba4f3_78 : decode cJ6_getChars_ba4f3 78 = .ok (.getstatic 83, 3) := by decide +kernel
theorem dJ6_getChars_ba4f3_81 : decode cJ6_getChars_ba4f3 81 = .ok (.iload_n 0, 1) := by decide +kernel
theorem dJ6_getChars_ba4f3_82 : decode cJ6_getChars_ba4f3 82 = .ok (.ineg, 1) := by decide +kernel
theorem dJ6_getChars_ba4f3_83 : decode cJ6_getChars_ba4f3 83 = .ok (.baload, 1) := by decide +kernel
theorem dJ6_getChars_ba4f3_84 : decode cJ6_getChars_ba4f3 84 = .ok (.bastore, 1) := by decide +kernel
theorem dJ6_getChars_ba4f3_85 : decode cJ6_getChars_ba4f3 85 = .ok (.iload_n 0, 1) := by decide +kernel
theorem dJ6_getChars_ba4f3_86 : decode cJ6_getChars_ba4f3 86 = .ok (.bipush (-9), 2) := by decide +kernel
theorem dJ6_getChars_ba4f3_88 : decode cJ6_getChars_ba4f3 88 = .ok (.if_icmp .ge 16, 3) := by decide +kernel
theorem dJ6_getChars_ba4f3_91 : decode cJ6_getChars_ba4f3 91 = .ok (.aload_n 2, 1) := by decide +kernel
theorem dJ6_getChars_ba4f3_92 : decode cJ6_getChars_ba4f3 92 = .ok (.iinc 5 (-1), 3) := by decide +kernel
theorem dJ6_getChars_ba4f3_95 : decode cJ6_getChars_ba4f3 95 = .ok (.iload 5, 2) := by decide +kernel
theorem dJ6_getChars_ba4f3_97 : decode cJ6_getChars_ba4f3 97 = .ok (.getstatic 87, 3) := by decide +kernel
theorem dJ6_getChars_ba4f3_100 : decode cJ6_getChars_ba4f3 100 = .ok (.iload_n 0, 1) := by decide +kernel
theorem dJ6_getChars_ba4f3_101 : decode cJ6_getChars_ba4f3 101 = .ok (.ineg, 1) := by decide +kernel
theorem dJ6_getChars_ba4f3_102 : decode cJ6_getChars_ba4f3 102 = .ok (.baload, 1) := by decide +kernel
theorem dJ6_getChars_ba4f3_103 : decode cJ6_getChars_ba4f3 103 = .ok (.bastore, 1) := by decide +kernel
theorem dJ6_getChars_ba4f3_104 : decode cJ6_getChars_ba4f3 104 = .ok (.iload 6, 2) := by decide +kernel
theorem dJ6_getChars_ba4f3_106 : decode cJ6_getChars_ba4f3 106 = .ok (.ifCond .eq 12, 3) := by decide +kernel
theorem dJ6_getChars_ba4f3_109 : decode cJ6_getChars_ba4f3 109 = .ok (.aload_n 2, 1) := by decide +kernel
theorem dJ6_getChars_ba4f3_110 : decode cJ6_getChars_ba4f3 110 = .ok (.iinc 5 (-1), 3) := by decide +kernel
theorem dJ6_getChars_ba4f3_113 : decode cJ6_getChars_ba4f3 113 = .ok (.iload 5, 2) := by decide +kernel
theorem dJ6_getChars_ba4f3_115 : decode cJ6_getChars_ba4f3 115 = .ok (.bipush 45, 2) := by decide +kernel
theorem dJ6_getChars_ba4f3_117 : decode cJ6_getChars_ba4f3 117 = .ok (.bastore, 1) := by decide +kernel
theorem dJ6_getChars_ba4f3_118 : decode cJ6_getChars_ba4f3 118 = .ok (.iload 5, 2) := by decide +kernel
theorem dJ6_getChars_ba4f3_120 : decode cJ6_getChars_ba4f3 120 = .ok (.ireturn, 1) := by decide +kernel
theorem dJ6_stringSize_0f7a4_0 : decode cJ6_stringSize_0f7a4 0 = .ok (.iconst 1, 1) := by decide +kernel
theorem dJ6_stringSize_0f7a4_1 : decode cJ6_stringSize_0f7a4 1 = .ok (.istore_n 1, 1) := by decide +kernel
theorem dJ6_stringSize_0f7a4_2 : decode cJ6_stringSize_0f7a4 2 = .ok (.iload_n 0, 1) := by decide +kernel
theorem dJ6_stringSize_0f7a4_3 : decode cJ6_stringSize_0f7a4 3 = .ok (.ifCond .lt 8, 3) := by decide +kernel
theorem dJ6_stringSize_0f7a4_6 : decode cJ6_stringSize_0f7a4 6 = .ok (.iconst 0, 1) := by decide +kernel
theorem dJ6_stringSize_0f7a4_7 : decode cJ6_stringSize_0f7a4 7 = .ok (.istore_n 1, 1) := by decide +kernel
theorem dJ6_stringSize_0f7a4_8 : decode cJ6_stringSize_0f7a4 8 = .ok (.iload_n 0, 1) := by decide +kernel
theorem dJ6_stringSize_0f7a4_9 : decode cJ6_stringSize_0f7a4 9 = .ok (.ineg, 1) := by decide +kernel
theorem dJ6_stringSize_0f7a4_10 : decode cJ6_stringSize_0f7a4 10 = .ok (.istore_n 0, 1) := by decide +kernel
theorem dJ6_stringSize_0f7a4_11 : decode cJ6_stringSize_0f7a4 11 = .ok (.bipush (-10), 2) := by decide +kernel
theorem dJ6_stringSize_0f7a4_13 : decode cJ6_stringSize_0f7a4 13 = .ok (.istore_n 2, 1) := by decide +kernel
theorem dJ6_stringSize_0f7a4_14 : decode cJ6_stringSize_0f7a4 14 = .ok (.iconst 1, 1) := by decide +kernel
theorem dJ6_stringSize_0f7a4_15 : decode cJ6_stringSize_0f7a4 15 = .ok (.istore_n 3, 1) := by decide +kernel
theorem dJ6_stringSize_0f7a4_16 : decode cJ6_stringSize_0f7a4 16 = .ok (.iload_n 3, 1) := by decide +kernel
theorem dJ6_stringSize_0f7a4_17 : decode cJ6_stringSize_0f7a4 17 = .ok (.bipush 10, 2) := by decide +kernel
theorem dJ6_stringSize_0f7a4_19 : decode cJ6_stringSize_0f7a4 19 = .ok (.if_icmp .ge 23, 3) := by decide +kernel
theorem dJ6_stringSize_0f7a4_22 : decode cJ6_stringSize_0f7a4 22 = .ok (.iload_n 0, 1) := by decide +kernel
theorem dJ6_stringSize_0f7a4_23 : decode cJ6_stringSize_0f7a4 23 = .ok (.iload_n 2, 1) := by decide +kernel
theorem dJ6_stringSize_0f7a4_24 : decode cJ6_stringSize_0f7a4 24 = .ok (.if_icmp .le 7, 3) := by decide +kernel
theorem dJ6_stringSize_0f7a4_27 : decode cJ6_stringSize_0f7a4 27 = .ok (.iload_n 3, 1) := by decide +kernel
theorem dJ6_stringSize_0f7a4_28 : decode cJ6_stringSize_0f7a4 28 = .ok (.iload_n 1, 1) := by decide +kernel
theorem dJ6_stringSize_0f7a4_29 : decode cJ6_stringSize_0f7a4 29 = .ok (.iadd, 1) := by decide +kernel
theorem dJ6_stringSize_0f7a4_30 : decode cJ6_stringSize_0f7a4 30 = .ok (.ireturn, 1) := by decide +kernel
theorem dJ6_stringSize_0f7a4_31 : decode cJ6_stringSize_0f7a4 31 = .ok (.bipush 10, 2) := by decide +kernel
theorem dJ6_stringSize_0f7a4_33 : decode cJ6_stringSize_0f7a4 33 = .ok (.iload_n 2, 1) := by decide +kernel
theorem dJ6_stringSize_0f7a4_34 : decode cJ6_stringSize_0f7a4 34 = .ok (.imul, 1) := by decide +kernel
theorem dJ6_stringSize_0f7a4_35 : decode cJ6_stringSize_0f7a4 35 = .ok (.istore_n 2, 1) := by decide +kernel
theorem dJ6_stringSize_0f7a4_36 : decode cJ6_stringSize_0f7a4 36 = .ok (.iinc 3 1, 3) := by decide +kernel
theorem dJ6_stringSize_0f7a4_39 : decode cJ6_stringSize_0f7a4 39 = .ok (.goto (-23), 3) := by decide +kernel
theorem dJ6_stringSize_0f7a4_42 : decode cJ6_stringSize_0f7a4 42 = .ok (.bipush 10, 2) := by decide +kernel
theorem dJ6_stringSize_0f7a4_44 : decode cJ6_stringSize_0f7a4 44 = .ok (.iload_n 1, 1) := by decide +kernel
theorem dJ6_stringSize_0f7a4_45 : decode cJ6_stringSize_0f7a4 45 = .ok (.iadd, 1) := by decide +kernel
theorem dJ6_stringSize_0f7a4_46 : decode cJ6_stringSize_0f7a4 46 = .ok (.ireturn, 1) := by decide +kernel
theorem dJ9_floorDiv_f86c9_0 : decode cJ9_floorDiv_f86c9 0 = .ok (.lload_n 0, 1) := by decide +kernel
theorem dJ9_floorDiv_f86c9_1 : decode cJ9_floorDiv_f86c9 1 = .ok (.lload_n 2, 1) := by decide +kernel
theorem dJ9_floorDiv_f86c9_2 : decode cJ9_floorDiv_f86c9 2 = .ok (.ldiv, 1) := by decide +kernel
theorem dJ9_floorDiv_f86c9_3 : decode cJ9_floorDiv_f86c9 3 = .ok (.lstore 4, 2) := by decide +kernel
theorem dJ9_floorDiv_f86c9_5 : decode cJ9_floorDiv_f86c9 5 = .ok (.lload_n 0, 1) := by decide +kernel
theorem dJ9_floorDiv_f86c9_6 : decode cJ9_floorDiv_f86c9 6 = .ok (.lload_n 2, 1) := by decide +kernel
theorem dJ9_floorDiv_f86c9_7 : decode cJ9_floorDiv_f86c9 7 = .ok (.lxor, 1) := by decide +kernel
theorem dJ9_floorDiv_f86c9_8 : decode cJ9_floorDiv_f86c9 8 = .ok (.lconst 0, 1) := by decide +kernel
theorem dJ9_floorDiv_f86c9_9 : decode cJ9_floorDiv_f86c9 9 = .ok (.lcmp, 1) := by decide +kernel
theorem dJ9_floorDiv_f86c9_10 : decode cJ9_floorDiv_f86c9 10 = .ok (.ifCond .ge 17, 3) := by decide +kernel
theorem dJ9_floorDiv_f86c9_13 : decode cJ9_floorDiv_f86c9 13 = .ok (.lload 4, 2) := by decide +kernel
theorem dJ9_floorDiv_f86c9_15 : decode cJ9_floorDiv_f86c9 15 = .ok (.lload_n 2, 1) := by decide +kernel
theorem dJ9_floorDiv_f86c9_16 : decode cJ9_floorDiv_f86c9 16 = .ok (.lmul, 1) := by decide +kernel
theorem dJ9_floorDiv_f86c9_17 : decode cJ9_floorDiv_f86c9 17 = .ok (.lload_n 0, 1) := by decide +kernel
theorem dJ9_floorDiv_f86c9_18 : decode cJ9_floorDiv_f86c9 18 = .ok (.lcmp, 1) := by decide +kernel
theorem dJ9_floorDiv_f86c9_19 : decode cJ9_floorDiv_f86c9 19 = .ok (.ifCond .eq 8, 3) := by decide +kernel
theorem dJ9_floorDiv_f86c9_22 : decode cJ9_floorDiv_f86c9 22 = .ok (.lload 4, 2) := by decide +kernel
theorem dJ9_floorDiv_f86c9_24 : decode cJ9_floorDiv_f86c9 24 = .ok (.lconst 1, 1) := by decide +kernel
theorem dJ9_floorDiv_f86c9_25 : decode cJ9_floorDiv_f86c9 25 = .ok (.lsub, 1) := by decide +kernel
theorem dJ9_floorDiv_f86c9_26 : decode cJ9_floorDiv_f86c9 26 = .ok (.lreturn, 1) := by decide +kernel
theorem dJ9_floorDiv_f86c9_27 : decode cJ9_floorDiv_f86c9 27 = .ok (.lload 4, 2) := by decide +kernel
theorem dJ9_floorDiv_f86c9_29 : decode cJ9_floorDiv_f86c9 29 = .ok (.lreturn, 1) := by decide +kernel
theorem dJ9_max_7cf53_0 : decode cJ9_max_7cf53 0 = .ok (.iload_n 0, 1) := by decide +kernel
theorem dJ9_max_7cf53_1 : decode cJ9_max_7cf53 1 = .ok (.iload_n 1, 1) := by decide +kernel
theorem dJ9_max_7cf53_2 : decode cJ9_max_7cf53 2 = .ok (.if_icmp .lt 7, 3) := by decide +kernel
theorem dJ9_max_7cf53_5 : decode cJ9_max_7cf53 5 = .ok (.iload_n 0, 1) := by decide +kernel
theorem dJ9_max_7cf53_6 : decode cJ9_max_7cf53 6 = .ok (.goto 4, 3) := by decide +kernel
theorem dJ9_max_7cf53_9 : decode cJ9_max_7cf53 9 = .ok (.iload_n 1, 1) := by decide +kernel
theorem dJ9_max_7cf53_10 : decode cJ9_max_7cf53 10 = .ok (.ireturn, 1) := by decide +kernel
theorem dJ9_max_f86c9_0 : decode cJ9_max_f86c9 0 = .ok (.lload_n 0, 1) := by decide +kernel
theorem dJ9_max_f86c9_1 : decode cJ9_max_f86c9 1 = .ok (.lload_n 2, 1) := by decide +kernel
theorem dJ9_max_f86c9_2 : decode cJ9_max_f86c9 2 = .ok (.lcmp, 1) := by decide +kernel
theorem dJ9_max_f86c9_3 : decode cJ9_max_f86c9 3 = .ok (.ifCond .lt 7, 3) := by decide +kernel
theorem dJ9_max_f86c9_6 : decode cJ9_max_f86c9 6 = .ok (.lload_n 0, 1) := by decide +kernel
theorem dJ9_max_f86c9_7 : decode cJ9_max_f86c9 7 = .ok (.goto 4, 3) := by decide +kernel
theorem dJ9_max_f86c9_10 : decode cJ9_max_f86c9 10 = .ok (.lload_n 2, 1) := by decide +kernel
theorem dJ9_max_f86c9_11 : decode cJ9_max_f86c9 11 = .ok (.lreturn, 1) := by decide +kernel
theorem dJ9_min_7cf53_0 : decode cJ9_min_7cf53 0 = .ok (.iload_n 0, 1) := by decide +kernel
theorem dJ9_min_7cf53_1 : decode cJ9_min_7cf53 1 = .ok (.iload_n 1, 1) := by decide +kernel
theorem dJ9_min_7cf53_2 : decode cJ9_min_7cf53 2 = .ok (.if_icmp .gt 7, 3) := by decide +kernel
theorem dJ9_min_7cf53_5 : decode cJ9_min_7cf53 5 = .ok (.iload_n 0, 1) := by decide +kernel
theorem dJ9_min_7cf53_6 : decode cJ9_min_7cf53 6 = .ok (.goto 4, 3) := by decide +kernel
theorem dJ9_min_7cf53_9 : decode cJ9_min_7cf53 9 = .ok (.iload_n 1, 1) := by decide +kernel
theorem dJ9_min_7cf53_10 : decode cJ9_min_7cf53 10 = .ok (.ireturn, 1) := by decide +kernel
theorem dJ9_min_f86c9_0 : decode cJ9_min_f86c9 0 = .ok (.lload_n 0, 1) := by decide +kernel
theorem dJ9_min_f86c9_1 : decode cJ9_min_f86c9 1 = .ok (.lload_n 2, 1) := by decide +kernel
theorem dJ9_min_f86c9_2 : decode cJ9_min_f86c9 2 = .ok (.lcmp, 1) := by decide +kernel
theorem dJ9_min_f86c9_3 : decode cJ9_min_f86c9 3 = .ok (.ifCond .gt 7, 3) := by decide +kernel
theorem dJ9_min_f86c9_6 : decode cJ9_min_f86c9 6 = .ok (.lload_n 0, 1) := by decide +kernel
theorem dJ9_min_f86c9_7 : decode cJ9_min_f86c9 7 = .ok (.goto 4, 3) := by decide +kernel
theorem dJ9_min_f86c9_10 : decode cJ9_min_f86c9 10 = .ok (.lload_n 2, 1) := by decide +kernel
theorem dJ9_min_f86c9_11 : decode cJ9_min_f86c9 11 = .ok (.lreturn, 1) := by decide +kernel
theorem dJ0_init_81219_0 : decode cJ0_init_81219 0 = .ok (.aload_n 0, 1) := by decide +kernel
theorem dJ0_init_81219_1 : decode cJ0_init_81219 1 = .ok (.aload_n 1, 1) := by decide +kernel
theorem dJ0_init_81219_2 : decode cJ0_init_81219 2 = .ok (.aconst_null, 1) := by decide +kernel
theorem dJ0_init_81219_3 : decode cJ0_init_81219 3 = .ok (.invokespecial 489, 3) := by decide +kernel
theorem dJ0_init_81219_6 : decode cJ0_init_81219 6 = .ok (.return_, 1) := by decide +kernel
theorem dJ0_length_8abf5_0 : decode cJ0_length_8abf5 0 = .ok (.aload_n 0, 1) := by decide +kernel
theorem dJ0_length_8abf5_1 : decode cJ0_length_8abf5 1 = .ok (.getfield 9, 3) := by decide +kernel
theorem dJ0_length_8abf5_4 : decode cJ0_length_8abf5 4 = .ok (.arraylength, 1) := by decide +kernel
theorem dJ0_length_8abf5_5 : decode cJ0_length_8abf5 5 = .ok (.aload_n 0, 1) := by decide +kernel
theorem dJ0_length_8abf5_6 : decode cJ0_length_8abf5 6 = .ok (.invokevirtual 335, 3) := by decide +kernel
theorem dJ0_length_8abf5_9 : decode cJ0_length_8abf5 9 = .ok (.ishr, 1) := by decide +kernel
theorem dJ0_length_8abf5_10 : decode cJ0_length_8abf5 10 = .ok (.ireturn, 1) := by decide +kernel
theorem dJ0_getBytes_840e7_0 : decode cJ0_getBytes_840e7 0 = .ok (.aload_n 0, 1) := by decide +kernel
theorem dJ0_getBytes_840e7_1 : decode cJ0_getBytes_840e7 1 = .ok (.invokevirtual 335, 3) := by decide +kernel
theorem dJ0_getBytes_840e7_4 : decode cJ0_getBytes_840e7 4 = .ok (.iload_n 3, 1) := by decide +kernel
theorem dJ0_getBytes_840e7_5 : decode cJ0_getBytes_840e7 5 = .ok (.if_icmp .ne 23, 3) := by decide +kernel
theorem dJ0_getBytes_840e7_8 : decode cJ0_getBytes_840e7 8 = .ok (.aload_n 0, 1) := by decide +kernel
theorem dJ0_getBytes_840e7_9 : decode cJ0_getBytes_840e7 9 = .ok (.getfield 9, 3) := by decide +kernel
theorem dJ0_getBytes_840e7_12 : decode cJ0_getBytes_840e7 12 = .ok (.iconst 0, 1) := by decide +kernel
theorem dJ0_getBytes_840e7_13 : decode cJ0_getBytes_840e7 13 = .ok (.aload_n 1, 1) := by decide +kernel
theorem dJ0_getBytes_840e7_14 : decode cJ0_getBytes_840e7 14 = .ok (.iload_n 2, 1) := by decide +kernel
theorem dJ0_getBytes_840e7_15 : decode cJ0_getBytes_840e7 15 = .ok (.iload_n 3, 1) := by decide +kernel
theorem dJ0_getBytes_840e7_16 : decode cJ0_getBytes_840e7 16 = .ok (.ishl, 1) := by decide +kernel
theorem dJ0_getBytes_840e7_17 : decode cJ0_getBytes_840e7 17 = .ok (.aload_n 0, 1) := by decide +kernel
theorem dJ0_getBytes_840e7_18 : decode cJ0_getBytes_840e7 18 = .ok (.getfield 9, 3) := by decide +kernel
theorem dJ0_getBytes_840e7_21 : decode cJ0_getBytes_840e7 21 = .ok (.arraylength, 1) := by decide +kernel
theorem dJ0_getBytes_840e7_22 : decode cJ0_getBytes_840e7 22 = .ok (.invokestatic 212, 3) := by decide +kernel
theorem dJ0_getBytes_840e7_25 : decode cJ0_getBytes_840e7 25 = .ok (.goto 18, 3) := by decide +kernel
theorem dJ0_getBytes_840e7_28 : decode cJ0_getBytes_840e7 28 = .ok (.aload_n 0, 1) := by decide +kernel
theorem dJ0_getBytes_840e7_29 : decode cJ0_getBytes_840e7 29 = .ok (.getfield 9, 3) := by decide +kernel
theorem dJ0_getBytes_840e7_32 : decode cJ0_getBytes_840e7 32 = .ok (.iconst 0, 1) := by decide +kernel
theorem dJ0_getBytes_840e7_33 : decode cJ0_getBytes_840e7 33 = .ok (.aload_n 1, 1) := by decide +kernel
theorem dJ0_getBytes_840e7_34 : decode cJ0_getBytes_840e7 34 = .ok (.iload_n 2, 1) := by decide +kernel
theorem dJ0_getBytes_840e7_35 : decode cJ0_getBytes_840e7 35 = .ok (.aload_n 0, 1) := by decide +kernel
theorem dJ0_getBytes_840e7_36 : decode cJ0_getBytes_840e7 36 = .ok (.getfield 9, 3) := by decide +kernel
theorem dJ0_getBytes_840e7_39 : decode cJ0_getBytes_840e7 39 = .ok (.arraylength, 1) := by decide +kernel
theorem dJ0_getBytes_840e7_40 : decode cJ0_getBytes_840e7 40 = .ok (.invokestatic 106, 3) := by decide +kernel
theorem dJ0_getBytes_840e7_43 : decode cJ0_getBytes_840e7 43 = .ok (.return_, 1) := by decide +kernel
theorem dJ0_init_db425_0 : decode cJ0_init_db425 0 = .ok (.aload_n 0, 1) := by decide +kernel
theorem dJ0_init_db425_1 : decode cJ0_init_db425 1 = .ok (.invokespecial 1, 3) := by decide +kernel
theorem dJ0_init_db425_4 : decode cJ0_init_db425 4 = .ok (.aload_n 1, 1) := by decide +kernel
theorem dJ0_init_db425_5 : decode cJ0_init_db425 5 = .ok (.invokevirtual 552, 3) := by decide +kernel
theorem dJ0_init_db425_8 : decode cJ0_init_db425 8 = .ok (.astore_n 3, 1) := by decide +kernel
theorem dJ0_init_db425_9 : decode cJ0_init_db425 9 = .ok (.aload_n 1, 1) := by decide +kernel
theorem dJ0_init_db425_10 : decode cJ0_init_db425 10 = .ok (.invokevirtual 549, 3) := by decide +kernel
theorem dJ0_init_db425_13 : decode cJ0_init_db425 13 = .ok (.istore 4, 2) := by decide +kernel
theorem dJ0_init_db425_15 : decode cJ0_init_db425 15 = .ok (.aload_n 1, 1) := by decide +kernel
theorem dJ0_init_db425_16 : decode cJ0_init_db425 16 = .ok (.invokevirtual 1047, 3) := by decide +kernel
theorem dJ0_init_db425_19 : decode cJ0_init_db425 19 = .ok (.ifCond .eq 22, 3) := by decide +kernel
theorem dJ0_init_db425_22 : decode cJ0_init_db425 22 = .ok (.aload_n 0, 1) := by decide +kernel
theorem dJ0_init_db425_23 : decode cJ0_init_db425 23 = .ok (.iconst 0, 1) := by decide +kernel
theorem dJ0_init_db425_24 : decode cJ0_init_db425 24 = .ok (.putfield 15, 3) := by decide +kernel
theorem dJ0_init_db425_27 : decode cJ0_init_db425 27 = .ok (.aload_n 0, 1) := by decide +kernel
theorem dJ0_init_db425_28 : decode cJ0_init_db425 28 = .ok (.aload_n 3, 1) := by decide +kernel
theorem dJ0_init_db425_29 : decode cJ0_init_db425 29 = .ok (.iconst 0, 1) := by decide +kernel
theorem dJ0_init_db425_30 : decode cJ0_init_db425 30 = .ok (.iload 4, 2) := by decide +kernel
theorem dJ0_init_db425_32 : decode cJ0_init_db425 32 = .ok (.invokestatic 54, 3) := by decide +kernel
theorem dJ0_init_db425_35 : decode cJ0_init_db425 35 = .ok (.putfield 9, 3) := by decide +kernel
theorem dJ0_init_db425_38 : decode cJ0_init_db425 38 = .ok (.goto 59, 3) := by decide +kernel
theorem dJ0_init_db425_41 : decode cJ0_init_db425 41 = .ok (.getstatic 38, 3) := by decide +kernel
theorem dJ0_init_db425_44 : decode cJ0_init_db425 44 = .ok (.ifCond .eq 35, 3) := by decide +kernel
theorem dJ0_init_db425_47 : decode cJ0_init_db425 47 = .ok (.aload_n 1, 1) := by decide +kernel
theorem dJ0_init_db425_48 : decode cJ0_init_db425 48 = .ok (.getfield 1048, 3) := by decide +kernel
theorem dJ0_init_db425_51 : decode cJ0_init_db425 51 = .ok (.ifCond .eq 28, 3) := by decide +kernel
theorem dJ0_init_db425_54 : decode cJ0_init_db425 54 = .ok (.aload_n 0, 1) := by decide +kernel
theorem dJ0_init_db425_55 : decode cJ0_init_db425 55 = .ok (.aload_n 3, 1) := by decide +kernel
theorem dJ0_init_db425_56 : decode cJ0_init_db425 56 = .ok (.iconst 0, 1) := by decide +kernel
theorem dJ0_init_db425_57 : decode cJ0_init_db425 57 = .ok (.iload 4, 2) := by decide +kernel
theorem dJ0_init_db425_59 : decode cJ0_init_db425 59 = .ok (.invokestatic 1051, 3) := by decide +kernel
theorem dJ0_init_db425_62 : decode cJ0_init_db425 62 = .ok (.putfield 9, 3) := by decide +kernel
theorem dJ0_init_db425_65 : decode cJ0_init_db425 65 = .ok (.aload_n 0, 1) := by decide +kernel
theorem dJ0_init_db425_66 : decode cJ0_init_db425 66 = .ok (.aload_n 0, 1) := by decide +kernel
theorem dJ0_init_db425_67 : decode cJ0_init_db425 67 = .ok (.getfield 9, 3) := by decide +kernel
theorem dJ0_init_db425_70 : decode cJ0_init_db425 70 = .ok (.iload 4, 2) := by decide +kernel
theorem dJ0_init_db425_72 : decode cJ0_init_db425 72 = .ok (.invokestatic 47, 3) := by decide +kernel
theorem dJ0_init_db425_75 : decode cJ0_init_db425 75 = .ok (.putfield 15, 3) := by decide +kernel
theorem dJ0_init_db425_78 : decode cJ0_init_db425 78 = .ok (.return_, 1) := by decide +kernel
theorem dJ0_init_db425_79 : decode cJ0_init_db425 79 = .ok (.aload_n 0, 1) := by decide +kernel
theorem dJ0_init_db425_80 : decode cJ0_init_db425 80 = .ok (.iconst 1, 1) := by decide +kernel
theorem dJ0_init_db425_81 : decode cJ0_init_db425 81 = .ok (.putfield 15, 3) := by decide +kernel
theorem dJ0_init_db425_84 : decode cJ0_init_db425 84 = .ok (.aload_n 0, 1) := by decide +kernel
theorem dJ0_init_db425_85 : decode cJ0_init_db425 85 = .ok (.aload_n 3, 1) := by decide +kernel
theorem dJ0_init_db425_86 : decode cJ0_init_db425 86 = .ok (.iconst 0, 1) := by decide +kernel
theorem dJ0_init_db425_87 : decode cJ0_init_db425 87 = .ok (.iload 4, 2) := by decide +kernel
theorem dJ0_init_db425_89 : decode cJ0_init_db425 89 = .ok (.iconst 1, 1) := by decide +kernel
theorem dJ0_init_db425_90 : decode cJ0_init_db425 90 = .ok (.ishl, 1) := by decide +kernel
theorem dJ0_init_db425_91 : decode cJ0_init_db425 91 = .ok (.invokestatic 54, 3) := by decide +kernel
theorem dJ0_init_db425_94 : decode cJ0_init_db425 94 = .ok (.putfield 9, 3) := by decide +kernel
theorem dJ0_init_db425_97 : decode cJ0_init_db425 97 = .ok (.return_, 1) := by decide +kernel
theorem dJ0_coder_7d493_0 : decode cJ0_coder_7d493 0 = .ok (.getstatic 38, 3) := by decide +kernel
theorem dJ0_coder_7d493_3 : decode cJ0_coder_7d493 3 = .ok (.ifCond .eq 10, 3) := by decide +kernel
theorem dJ0_coder_7d493_6 : decode cJ0_coder_7d493 6 = .ok (.aload_n 0, 1) := by decide +kernel
theorem dJ0_coder_7d493_7 : decode cJ0_coder_7d493 7 = .ok (.getfield 15, 3) := by decide +kernel
theorem dJ0_coder_7d493_10 : decode cJ0_coder_7d493 10 = .ok (.goto 4, 3) := by decide +kernel
theorem dJ0_coder_7d493_13 : decode cJ0_coder_7d493 13 = .ok (.iconst 1, 1) := by decide +kernel
theorem dJ0_coder_7d493_14 : decode cJ0_coder_7d493 14 = .ok (.ireturn, 1) := by decide +kernel
theorem dJ0_checkBoundsOffCount_cabcc_0 : decode cJ0_checkBoundsOffCount_cabcc 0 = .ok (.iload_n 0, 1) := by decide +kernel
theorem dJ0_checkBoundsOffCount_cabcc_1 : decode cJ0_checkBoundsOffCount_cabcc 1 = .ok (.iload_n 1, 1) := by decide +kernel
theorem dJ0_checkBoundsOffCount_cabcc_2 : decode cJ0_checkBoundsOffCount_cabcc 2 = .ok (.iload_n 2, 1) := by decide +kernel
theorem dJ0_checkBoundsOffCount_cabcc_3 : decode cJ0_checkBoundsOffCount_cabcc 3 = .ok (.getstatic 1053, 3) := by decide +kernel
theorem dJ0_checkBoundsOffCount_cabcc_6 : decode cJ0_checkBoundsOffCount_cabcc 6 = .ok (.invokestatic 1065, 3) := by decide +kernel
theorem dJ0_checkBoundsOffCount_cabcc_9 : decode cJ0_checkBoundsOffCount_cabcc 9 = .ok (.ireturn, 1) := by decide +kernel
theorem dJ0_checkBoundsBeginEnd_23922_0 : decode cJ0_checkBoundsBeginEnd_23922 0 = .ok (.iload_n 0, 1) := by decide +kernel
theorem dJ0_checkBoundsBeginEnd_23922_1 : decode cJ0_checkBoundsBeginEnd_23922 1 = .ok (.iload_n 1, 1) := by decide +kernel
theorem dJ0_checkBoundsBeginEnd_23922_2 : decode cJ0_checkBoundsBeginEnd_23922 2 = .ok (.iload_n 2, 1) := by decide +kernel
theorem dJ0_checkBoundsBeginEnd_23922_3 : decode cJ0_checkBoundsBeginEnd_23922 3 = .ok (.getstatic 1053, 3) := by decide +kernel
theorem dJ0_checkBoundsBeginEnd_23922_6 : decode cJ0_checkBoundsBeginEnd_23922 6 = .ok (.invokestatic 1062, 3) := by decide +kernel
theorem dJ0_checkBoundsBeginEnd_23922_9 : decode cJ0_checkBoundsBeginEnd_23922 9 = .ok (.pop, 1) := by decide +kernel
theorem dJ0_checkBoundsBeginEnd_23922_10 : decode cJ0_checkBoundsBeginEnd_23922 10 = .ok (.return_, 1) := by decide +kernel
theorem dJ4_init_da8c8_0 : decode cJ4_init_da8c8 0 = .ok (.aload_n 0, 1) := by decide +kernel
theorem dJ4_init_da8c8_1 : decode cJ4_init_da8c8 1 = .ok (.bipush 16, 2) := by decide +kernel
theorem dJ4_init_da8c8_3 : decode cJ4_init_da8c8 3 = .ok (.invokespecial 1, 3) := by decide +kernel
theorem dJ4_init_da8c8_6 : decode cJ4_init_da8c8 6 = .ok (.return_, 1) := by decide +kernel
theorem dJ4_append_15ec4_0 : decode cJ4_append_15ec4 0 = .ok (.aload_n 0, 1) := by decide +kernel
theorem dJ4_append_15ec4_1 : decode cJ4_append_15ec4 1 = .ok (.aload_n 1, 1) := by decide +kernel
theorem dJ4_append_15ec4_2 : decode cJ4_append_15ec4 2 = .ok (.invokespecial 29, 3) := by decide +kernel
theorem dJ4_append_15ec4_5 : decode cJ4_append_15ec4 5 = .ok (.pop, 1) := by decide +kernel
theorem dJ4_append_15ec4_6 : decode cJ4_append_15ec4 6 = .ok (.aload_n 0, 1) := by decide +kernel
theorem dJ4_append_15ec4_7 : decode cJ4_append_15ec4 7 = .ok (.areturn, 1) := by decide +kernel
theorem dJ4_append_bf812_0 : decode cJ4_append_bf812 0 = .ok (.aload_n 0, 1) := by decide +kernel
theorem dJ4_append_bf812_1 : decode cJ4_append_bf812 1 = .ok (.iload_n 1, 1) := by decide +kernel
theorem dJ4_append_bf812_2 : decode cJ4_append_bf812 2 = .ok (.invokespecial 53, 3) := by decide +kernel
theorem dJ4_append_bf812_5 : decode cJ4_append_bf812 5 = .ok (.pop, 1) := by decide +kernel
theorem dJ4_append_bf812_6 : decode cJ4_append_bf812 6 = .ok (.aload_n 0, 1) := by decide +kernel
theorem dJ4_append_bf812_7 : decode cJ4_append_bf812 7 = .ok (.areturn, 1) := by decide +kernel
theorem dJ4_toString_0e30d_0 : decode cJ4_toString_0e30d 0 = .ok (.new 18, 3) := by decide +kernel
theorem dJ4_toString_0e30d_3 : decode cJ4_toString_0e30d 3 = .ok (.dup, 1) := by decide +kernel
theorem dJ4_toString_0e30d_4 : decode cJ4_toString_0e30d 4 = .ok (.aload_n 0, 1) := by decide +kernel
theorem dJ4_toString_0e30d_5 : decode cJ4_toString_0e30d 5 = .ok (.invokespecial 137, 3) := by decide +kernel
theorem dJ4_toString_0e30d_8 : decode cJ4_toString_0e30d 8 = .ok (.areturn, 1) := by decide +kernel
theorem dJ4_length_8abf5_0 : decode cJ4_length_8abf5 0 = .ok (.aload_n 0, 1) := by decide +kernel
theorem dJ4_length_8abf5_1 : decode cJ4_length_8abf5 1 = .ok (.invokespecial 343, 3) := by decide +kernel
theorem dJ4_length_8abf5_4 : decode cJ4_length_8abf5 4 = .ok (.ireturn, 1) := by decide +kernel
theorem dJ1_inflate_0e8fd_0 : decode cJ1_inflate_0e8fd 0 = .ok (.aload_n 0, 1) := by decide +kernel
theorem dJ1_inflate_0e8fd_1 : decode cJ1_inflate_0e8fd 1 = .ok (.iload_n 1, 1) := by decide +kernel
theorem dJ1_inflate_0e8fd_2 : decode cJ1_inflate_0e8fd 2 = .ok (.aload_n 2, 1) := by decide +kernel
theorem dJ1_inflate_0e8fd_3 : decode cJ1_inflate_0e8fd 3 = .ok (.iload_n 3, 1) := by decide +kernel
theorem dJ1_inflate_0e8fd_4 : decode cJ1_inflate_0e8fd 4 = .ok (.iload 4, 2) := by decide +kernel
theorem dJ1_inflate_0e8fd_6 : decode cJ1_inflate_0e8fd 6 = .ok (.invokestatic 240, 3) := by decide +kernel
theorem dJ1_inflate_0e8fd_9 : decode cJ1_inflate_0e8fd 9 = .ok (.return_, 1) := by decide +kernel
theorem dJ2_newBytesFor_77867_0 : decode cJ2_newBytesFor_77867 0 = .ok (.iload_n 0, 1) := by decide +kernel
theorem dJ2_newBytesFor_77867_1 : decode cJ2_newBytesFor_77867 1 = .ok (.invokestatic 11, 3) := by decide +kernel
theorem dJ2_newBytesFor_77867_4 : decode cJ2_newBytesFor_77867 4 = .ok (.newarray .byte, 2) := by decide +kernel
theorem dJ2_newBytesFor_77867_6 : decode cJ2_newBytesFor_77867 6 = .ok (.areturn, 1) := by decide +kernel
theorem dJ2_newBytesLength_0f7a4_0 : decode cJ2_newBytesLength_0f7a4 0 = .ok (.iload_n 0, 1) := by decide +kernel
theorem dJ2_newBytesLength_0f7a4_1 : decode cJ2_newBytesLength_0f7a4 1 = .ok (.ifCond .ge 11, 3) := by decide +kernel
theorem dJ2_newBytesLength_0f7a4_4 : decode cJ2_newBytesLength_0f7a4 4 = .ok (.new 17, 3) := by decide +kernel
theorem dJ2_newBytesLength_0f7a4_7 : decode cJ2_newBytesLength_0f7a4 7 = .ok (.dup, 1) := by decide +kernel
theorem dJ2_newBytesLength_0f7a4_8 : decode cJ2_newBytesLength_0f7a4 8 = .ok (.invokespecial 19, 3) := by decide +kernel
theorem dJ2_newBytesLength_0f7a4_11 : decode cJ2_newBytesLength_0f7a4 11 = .ok (.athrow, 1) := by decide +kernel
theorem dJ2_newBytesLength_0f7a4_12 : decode cJ2_newBytesLength_0f7a4 12 = .ok (.iload_n 0, 1) := by decide +kernel
theorem dJ2_newBytesLength_0f7a4_13 : decode cJ2_newBytesLength_0f7a4 13 = .ok (.ldc 20, 2) := by decide +kernel
theorem dJ2_newBytesLength_0f7a4_15 : decode cJ2_newBytesLength_0f7a4 15 = .ok (.if_icmp .lt 40, 3) := by decide +kernel
theorem dJ2_newBytesLength_0f7a4_18 : decode cJ2_newBytesLength_0f7a4 18 = .ok (.new 21, 3) := by decide +kernel
theorem dJ2_newBytesLength_0f7a4_21 : decode cJ2_newBytesLength_0f7a4 21 = .ok (.dup, 1) := by decide +kernel
theorem dJ2_newBytesLength_0f7a4_22 : decode cJ2_newBytesLength_0f7a4 22 = .ok (.new 23, 3) := by decide +kernel
theorem dJ2_newBytesLength_0f7a4_25 : decode cJ2_newBytesLength_0f7a4 25 = .ok (.dup, 1) := by decide +kernel
theorem dJ2_newBytesLength_0f7a4_26 : decode cJ2_newBytesLength_0f7a4 26 = .ok (.invokespecial 25, 3) := by decide +kernel
theorem dJ2_newBytesLength_0f7a4_29 : decode cJ2_newBytesLength_0f7a4 29 = .ok (.ldc 26, 2) := by decide +kernel
theorem dJ2_newBytesLength_0f7a4_31 : decode cJ2_newBytesLength_0f7a4 31 = .ok (.invokevirtual 28, 3) := by decide +kernel
theorem dJ2_newBytesLength_0f7a4_34 : decode cJ2_newBytesLength_0f7a4 34 = .ok (.iload_n 0, 1) := by decide +kernel
theorem dJ2_newBytesLength_0f7a4_35 : decode cJ2_newBytesLength_0f7a4 35 = .ok (.invokevirtual 32, 3) := by decide +kernel
theorem dJ2_newBytesLength_0f7a4_38 : decode cJ2_newBytesLength_0f7a4 38 = .ok (.ldc 35, 2) := by decide +kernel
theorem dJ2_newBytesLength_0f7a4_40 : decode cJ2_newBytesLength_0f7a4 40 = .ok (.invokevirtual 28, 3) := by decide +kernel
theorem dJ2_newBytesLength_0f7a4_43 : decode cJ2_newBytesLength_0f7a4 43 = .ok (.ldc 20, 2) := by decide +kernel
theorem dJ2_newBytesLength_0f7a4_45 : decode cJ2_newBytesLength_0f7a4 45 = .ok (.invokevirtual 32, 3) := by decide +kernel
theorem dJ2_newBytesLength_0f7a4_48 : decode cJ2_newBytesLength_0f7a4 48 = .ok (.invokevirtual 37, 3) := by decide +kernel
theorem dJ2_newBytesLength_0f7a4_51 : decode cJ2_newBytesLength_0f7a4 51 = .ok (.invokespecial 41, 3) := by decide +kernel
theorem dJ2_newBytesLength_0f7a4_54 : decode cJ2_newBytesLength_0f7a4 54 = .ok (.athrow, 1) := by decide +kernel
theorem dJ2_newBytesLength_0f7a4_55 : decode cJ2_newBytesLength_0f7a4 55 = .ok (.iload_n 0, 1) := by decide +kernel
theorem dJ2_newBytesLength_0f7a4_56 : decode cJ2_newBytesLength_0f7a4 56 = .ok (.iconst 1, 1) := by decide +kernel
theorem dJ2_newBytesLength_0f7a4_57 : decode cJ2_newBytesLength_0f7a4 57 = .ok (.ishl, 1) := by decide +kernel
theorem dJ2_newBytesLength_0f7a4_58 : decode cJ2_newBytesLength_0f7a4 58 = .ok (.ireturn, 1) := by decide +kernel
theorem dJ2_putChar_b72d1_0 : decode cJ2_putChar_b72d1 0 = .ok (.getstatic 44, 3) := by decide +kernel
theorem dJ2_putChar_b72d1_3 : decode cJ2_putChar_b72d1 3 = .ok (.ifCond .ne 25, 3) := by decide +kernel
theorem dJ2_putChar_b72d1_6 : decode cJ2_putChar_b72d1 6 = .ok (.iload_n 1, 1) := by decide +kernel
theorem dJ2_putChar_b72d1_7 : decode cJ2_putChar_b72d1 7 = .ok (.ifCond .lt 11, 3) := by decide +kernel
theorem dJ2_putChar_b72d1_10 : decode cJ2_putChar_b72d1 10 = .ok (.iload_n 1, 1) := by decide +kernel
theorem dJ2_putChar_b72d1_11 : decode cJ2_putChar_b72d1 11 = .ok (.aload_n 0, 1) := by decide +kernel
theorem dJ2_putChar_b72d1_12 : decode cJ2_putChar_b72d1 12 = .ok (.invokestatic 48, 3) := by decide +kernel
theorem dJ2_putChar_b72d1_15 : decode cJ2_putChar_b72d1 15 = .ok (.if_icmp .lt 13, 3) := by decide +kernel
theorem dJ2_putChar_b72d1_18 : decode cJ2_putChar_b72d1 18 = .ok (.new 52, 3) := by decide +kernel
theorem dJ2_putChar_b72d1_21 : decode cJ2_putChar_b72d1 21 = .ok (.dup, 1) := by decide +kernel
theorem dJ2_putChar_b72d1_22 : decode cJ2_putChar_b72d1 22 = .ok (.ldc 54, 2) := by decide +kernel
theorem dJ2_putChar_b72d1_24 : decode cJ2_putChar_b72d1 24 = .ok (.invokespecial 56, 3) := by decide +kernel
theorem dJ2_putChar_b72d1_27 : decode cJ2_putChar_b72d1 27 = .ok (.athrow, 1) := by decide +kernel
theorem dJ2_putChar_b72d1_28 : decode cJ2_putChar_b72d1 28 = .ok (.iload_n 1, 1) := by decide +kernel
theorem dJ2_putChar_b72d1_29 : decode cJ2_putChar_b72d1 29 = .ok (.iconst 1, 1) := by decide +kernel
theorem dJ2_putChar_b72d1_30 : decode cJ2_putChar_b72d1 30 = .ok (.ishl, 1) := by decide +kernel
theorem dJ2_putChar_b72d1_31 : decode cJ2_putChar_b72d1 31 = .ok (.istore_n 1, 1) := by decide +kernel
theorem dJ2_putChar_b72d1_32 : decode cJ2_putChar_b72d1 32 = .ok (.aload_n 0, 1) := by decide +kernel
theorem dJ2_putChar_b72d1_33 : decode cJ2_putChar_b72d1 33 = .ok (.iload_n 1, 1) := by decide +kernel
theorem dJ2_putChar_b72d1_34 : decode cJ2_putChar_b72d1 34 = .ok (.iinc 1 1, 3) := by decide +kernel
theorem dJ2_putChar_b72d1_37 : decode cJ2_putChar_b72d1 37 = .ok (.iload_n 2, 1) := by decide +kernel
theorem dJ2_putChar_b72d1_38 : decode cJ2_putChar_b72d1 38 = .ok (.getstatic 59, 3) := by decide +kernel
theorem dJ2_putChar_b72d1_41 : decode cJ2_putChar_b72d1 41 = .ok (.ishr, 1) := by decide +kernel
theorem dJ2_putChar_b72d1_42 : decode cJ2_putChar_b72d1 42 = .ok (.i2b, 1) := by decide +kernel
theorem dJ2_putChar_b72d1_43 : decode cJ2_putChar_b72d1 43 = .ok (.bastore, 1) := by decide +kernel
theorem dJ2_putChar_b72d1_44 : decode cJ2_putChar_b72d1 44 = .ok (.aload_n 0, 1) := by decide +kernel
theorem dJ2_putChar_b72d1_45 : decode cJ2_putChar_b72d1 45 = .ok (.iload_n 1, 1) := by decide +kernel
theorem dJ2_putChar_b72d1_46 : decode cJ2_putChar_b72d1 46 = .ok (.iload_n 2, 1) := by decide +kernel
theorem dJ2_putChar_b72d1_47 : decode cJ2_putChar_b72d1 47 = .ok (.getstatic 63, 3) := by decide +kernel
theorem dJ2_putChar_b72d1_50 : decode cJ2_putChar_b72d1 50 = .ok (.ishr, 1) := by decide +kernel
theorem dJ2_putChar_b72d1_51 : decode cJ2_putChar_b72d1 51 = .ok (.i2b, 1) := by decide +kernel
theorem dJ2_putChar_b72d1_52 : decode cJ2_putChar_b72d1 52 = .ok (.bastore, 1) := by decide +kernel
theorem dJ2_putChar_b72d1_53 : decode cJ2_putChar_b72d1 53 = .ok (.return_, 1) := by decide +kernel
theorem dJ2_getChar_3b067_0 : decode cJ2_getChar_3b067 0 = .ok (.getstatic 44, 3) := by decide +kernel
theorem dJ2_getChar_3b067_3 : decode cJ2_getChar_3b067 3 = .ok (.ifCond .ne 25, 3) := by decide +kernel
theorem dJ2_getChar_3b067_6 : decode cJ2_getChar_3b067 6 = .ok (.iload_n 1, 1) := by decide +kernel
theorem dJ2_getChar_3b067_7 : decode cJ2_getChar_3b067 7 = .ok (.ifCond .lt 11, 3) := by decide +kernel
theorem dJ2_getChar_3b067_10 : decode cJ2_getChar_3b067 10 = .ok (.iload_n 1, 1) := by decide +kernel
theorem dJ2_getChar_3b067_11 : decode cJ2_getChar_3b067 11 = .ok (.aload_n 0, 1) := by decide +kernel
theorem dJ2_getChar_3b067_12 : decode cJ2_getChar_3b067 12 = .ok (.invokestatic 48, 3) := by decide +kernel
theorem dJ2_getChar_3b067_15 : decode cJ2_getChar_3b067 15 = .ok (.if_icmp .lt 13, 3) := by decide +kernel
theorem dJ2_getChar_3b067_18 : decode cJ2_getChar_3b067 18 = .ok (.new 52, 3) := by decide +kernel
theorem dJ2_getChar_3b067_21 : decode cJ2_getChar_3b067 21 = .ok (.dup, 1) := by decide +kernel
theorem dJ2_getChar_3b067_22 : decode cJ2_getChar_3b067 22 = .ok (.ldc 54, 2) := by decide +kernel
theorem dJ2_getChar_3b067_24 : decode cJ2_getChar_3b067 24 = .ok (.invokespecial 56, 3) := by decide +kernel
theorem dJ2_getChar_3b067_27 : decode cJ2_getChar_3b067 27 = .ok (.athrow, 1) := by decide +kernel
theorem dJ2_getChar_3b067_28 : decode cJ2_getChar_3b067 28 = .ok (.iload_n 1, 1) := by decide +kernel
theorem dJ2_getChar_3b067_29 : decode cJ2_getChar_3b067 29 = .ok (.iconst 1, 1) := by decide +kernel
theorem dJ2_getChar_3b067_30 : decode cJ2_getChar_3b067 30 = .ok (.ishl, 1) := by decide +kernel
theorem dJ2_getChar_3b067_31 : decode cJ2_getChar_3b067 31 = .ok (.istore_n 1, 1) := by decide +kernel
theorem dJ2_getChar_3b067_32 : decode cJ2_getChar_3b067 32 = .ok (.aload_n 0, 1) := by decide +kernel
theorem dJ2_getChar_3b067_33 : decode cJ2_getChar_3b067 33 = .ok (.iload_n 1, 1) := by decide +kernel
theorem dJ2_getChar_3b067_34 : decode cJ2_getChar_3b067 34 = .ok (.iinc 1 1, 3) := by decide +kernel
theorem dJ2_getChar_3b067_37 : decode cJ2_getChar_3b067 37 = .ok (.baload, 1) := by decide +kernel
theorem dJ2_getChar_3b067_38 : decode cJ2_getChar_3b067 38 = .ok (.sipush 255, 3) := by decide +kernel
theorem dJ2_getChar_3b067_41 : decode cJ2_getChar_3b067 41 = .ok (.iand, 1) := by decide +kernel
theorem dJ2_getChar_3b067_42 : decode cJ2_getChar_3b067 42 = .ok (.getstatic 59, 3) := by decide +kernel
theorem dJ2_getChar_3b067_45 : decode cJ2_getChar_3b067 45 = .ok (.ishl, 1) := by decide +kernel
theorem dJ2_getChar_3b067_46 : decode cJ2_getChar_3b067 46 = .ok (.aload_n 0, 1) := by decide +kernel
theorem dJ2_getChar_3b067_47 : decode cJ2_getChar_3b067 47 = .ok (.iload_n 1, 1) := by decide +kernel
theorem dJ2_getChar_3b067_48 : decode cJ2_getChar_3b067 48 = .ok (.baload, 1) := by decide +kernel
theorem dJ2_getChar_3b067_49 : decode cJ2_getChar_3b067 49 = .ok (.sipush 255, 3) := by decide +kernel
theorem dJ2_getChar_3b067_52 : decode cJ2_getChar_3b067 52 = .ok (.iand, 1) := by decide +kernel
theorem dJ2_getChar_3b067_53 : decode cJ2_getChar_3b067 53 = .ok (.getstatic 63, 3) := by decide +kernel
theorem dJ2_getChar_3b067_56 : decode cJ2_getChar_3b067 56 = .ok (.ishl, 1) := by decide +kernel
theorem dJ2_getChar_3b067_57 : decode cJ2_getChar_3b067 57 = .ok (.ior, 1) := by decide +kernel
theorem dJ2_getChar_3b067_58 : decode cJ2_getChar_3b067 58 = .ok (.i2c, 1) := by decide +kernel
theorem dJ2_getChar_3b067_59 : decode cJ2_getChar_3b067 59 = .ok (.ireturn, 1) := by decide +kernel
theorem dJ2_length_9d52b_0 : decode cJ2_length_9d52b 0 = .ok (.aload_n 0, 1) := by decide +kernel
theorem dJ2_length_9d52b_1 : decode cJ2_length_9d52b 1 = .ok (.arraylength, 1) := by decide +kernel
theorem dJ2_length_9d52b_2 : decode cJ2_length_9d52b 2 = .ok (.iconst 1, 1) := by decide +kernel
theorem dJ2_length_9d52b_3 : decode cJ2_length_9d52b 3 = .ok (.ishr, 1) := by decide +kernel
theorem dJ2_length_9d52b_4 : decode cJ2_length_9d52b 4 = .ok (.ireturn, 1) := by decide +kernel
theorem dJ2_coderFromArrayLen_85cad_0 : decode cJ2_coderFromArrayLen_85cad 0 = .ok (.iload_n 1, 1) := by decide +kernel
theorem dJ2_coderFromArrayLen_85cad_1 : decode cJ2_coderFromArrayLen_85cad 1 = .ok (.aload_n 0, 1) := by decide +kernel
theorem dJ2_coderFromArrayLen_85cad_2 : decode cJ2_coderFromArrayLen_85cad 2 = .ok (.arraylength, 1) := by decide +kernel
theorem dJ2_coderFromArrayLen_85cad_3 : decode cJ2_coderFromArrayLen_85cad 3 = .ok (.isub, 1) := by decide +kernel
theorem dJ2_coderFromArrayLen_85cad_4 : decode cJ2_coderFromArrayLen_85cad 4 = .ok (.bipush 31, 2) := by decide +kernel
theorem dJ2_coderFromArrayLen_85cad_6 : decode cJ2_coderFromArrayLen_85cad 6 = .ok (.iushr, 1) := by decide +kernel
theorem dJ2_coderFromArrayLen_85cad_7 : decode cJ2_coderFromArrayLen_85cad 7 = .ok (.i2b, 1) := by decide +kernel
theorem dJ2_coderFromArrayLen_85cad_8 : decode cJ2_coderFromArrayLen_85cad 8 = .ok (.ireturn, 1) := by decide +kernel
theorem dJ2_compress_39247_0 : decode cJ2_compress_39247 0 = .ok (.iload_n 2, 1) := by decide +kernel
theorem dJ2_compress_39247_1 : decode cJ2_compress_39247 1 = .ok (.newarray .byte, 2) := by decide +kernel
theorem dJ2_compress_39247_3 : decode cJ2_compress_39247 3 = .ok (.astore_n 3, 1) := by decide +kernel
theorem dJ2_compress_39247_4 : decode cJ2_compress_39247 4 = .ok (.aload_n 0, 1) := by decide +kernel
theorem dJ2_compress_39247_5 : decode cJ2_compress_39247 5 = .ok (.iload_n 1, 1) := by decide +kernel
theorem dJ2_compress_39247_6 : decode cJ2_compress_39247 6 = .ok (.aload_n 3, 1) := by decide +kernel
theorem dJ2_compress_39247_7 : decode cJ2_compress_39247 7 = .ok (.iconst 0, 1) := by decide +kernel
theorem dJ2_compress_39247_8 : decode cJ2_compress_39247 8 = .ok (.iload_n 2, 1) := by decide +kernel
theorem dJ2_compress_39247_9 : decode cJ2_compress_39247 9 = .ok (.invokestatic 123, 3) := by decide +kernel
theorem dJ2_compress_39247_12 : decode cJ2_compress_39247 12 = .ok (.istore 4, 2) := by decide +kernel
theorem dJ2_compress_39247_14 : decode cJ2_compress_39247 14 = .ok (.iload 4, 2) := by decide +kernel
theorem dJ2_compress_39247_16 : decode cJ2_compress_39247 16 = .ok (.iload_n 2, 1) := by decide +kernel
theorem dJ2_compress_39247_17 : decode cJ2_compress_39247 17 = .ok (.if_icmp .eq 47, 3) := by decide +kernel
theorem dJ2_compress_39247_20 : decode cJ2_compress_39247 20 = .ok (.aload_n 0, 1) := by decide +kernel
theorem dJ2_compress_39247_21 : decode cJ2_compress_39247 21 = .ok (.iload_n 1, 1) := by decide +kernel
theorem dJ2_compress_39247_22 : decode cJ2_compress_39247 22 = .ok (.iconst 1, 1) := by decide +kernel
theorem dJ2_compress_39247_23 : decode cJ2_compress_39247 23 = .ok (.ishl, 1) := by decide +kernel
theorem dJ2_compress_39247_24 : decode cJ2_compress_39247 24 = .ok (.iload_n 1, 1) := by decide +kernel
theorem dJ2_compress_39247_25 : decode cJ2_compress_39247 25 = .ok (.iload_n 2, 1) := by decide +kernel
theorem dJ2_compress_39247_26 : decode cJ2_compress_39247 26 = .ok (.iadd, 1) := by decide +kernel
theorem dJ2_compress_39247_27 : decode cJ2_compress_39247 27 = .ok (.invokestatic 11, 3) := by decide +kernel
theorem dJ2_compress_39247_30 : decode cJ2_compress_39247 30 = .ok (.invokestatic 126, 3) := by decide +kernel
theorem dJ2_compress_39247_33 : decode cJ2_compress_39247 33 = .ok (.astore 5, 2) := by decide +kernel
theorem dJ2_compress_39247_35 : decode cJ2_compress_39247 35 = .ok (.aload 5, 2) := by decide +kernel
theorem dJ2_compress_39247_37 : decode cJ2_compress_39247 37 = .ok (.iload 4, 2) := by decide +kernel
theorem dJ2_compress_39247_39 : decode cJ2_compress_39247 39 = .ok (.invokestatic 71, 3) := by decide +kernel
theorem dJ2_compress_39247_42 : decode cJ2_compress_39247 42 = .ok (.sipush 255, 3) := by decide +kernel
theorem dJ2_compress_39247_45 : decode cJ2_compress_39247 45 = .ok (.if_icmp .gt 16, 3) := by decide +kernel
theorem dJ2_compress_39247_48 : decode cJ2_compress_39247 48 = .ok (.aload 5, 2) := by decide +kernel
theorem dJ2_compress_39247_50 : decode cJ2_compress_39247 50 = .ok (.iconst 0, 1) := by decide +kernel
theorem dJ2_compress_39247_51 : decode cJ2_compress_39247 51 = .ok (.aload_n 3, 1) := by decide +kernel
theorem dJ2_compress_39247_52 : decode cJ2_compress_39247 52 = .ok (.iconst 0, 1) := by decide +kernel
theorem dJ2_compress_39247_53 : decode cJ2_compress_39247 53 = .ok (.iload_n 2, 1) := by decide +kernel
theorem dJ2_compress_39247_54 : decode cJ2_compress_39247 54 = .ok (.invokestatic 123, 3) := by decide +kernel
theorem dJ2_compress_39247_57 : decode cJ2_compress_39247 57 = .ok (.iload_n 2, 1) := by decide +kernel
theorem dJ2_compress_39247_58 : decode cJ2_compress_39247 58 = .ok (.if_icmp .eq 6, 3) := by decide +kernel
theorem dJ2_compress_39247_61 : decode cJ2_compress_39247 61 = .ok (.aload 5, 2) := by decide +kernel
theorem dJ2_compress_39247_63 : decode cJ2_compress_39247 63 = .ok (.areturn, 1) := by decide +kernel
theorem dJ2_compress_39247_64 : decode cJ2_compress_39247 64 = .ok (.aload_n 3, 1) := by decide +kernel
theorem dJ2_compress_39247_65 : decode cJ2_compress_39247 65 = .ok (.areturn, 1) := by decide +kernel
theorem dJ2_compress_5af95_0 : decode cJ2_compress_5af95 0 = .ok (.iload_n 1, 1) := by decide +kernel
theorem dJ2_compress_5af95_1 : decode cJ2_compress_5af95 1 = .ok (.iload 4, 2) := by decide +kernel
theorem dJ2_compress_5af95_3 : decode cJ2_compress_5af95 3 = .ok (.aload_n 0, 1) := by decide +kernel
theorem dJ2_compress_5af95_4 : decode cJ2_compress_5af95 4 = .ok (.invokestatic 173, 3) := by decide +kernel
theorem dJ2_compress_5af95_7 : decode cJ2_compress_5af95 7 = .ok (.iconst 0, 1) := by decide +kernel
theorem dJ2_compress_5af95_8 : decode cJ2_compress_5af95 8 = .ok (.istore 5, 2) := by decide +kernel
theorem dJ2_compress_5af95_10 : decode cJ2_compress_5af95 10 = .ok (.iload 5, 2) := by decide +kernel
theorem dJ2_compress_5af95_12 : decode cJ2_compress_5af95 12 = .ok (.iload 4, 2) := by decide +kernel
theorem dJ2_compress_5af95_14 : decode cJ2_compress_5af95 14 = .ok (.if_icmp .ge 39, 3) := by decide +kernel
theorem dJ2_compress_5af95_17 : decode cJ2_compress_5af95 17 = .ok (.aload_n 0, 1) := by decide +kernel
theorem dJ2_compress_5af95_18 : decode cJ2_compress_5af95 18 = .ok (.iload_n 1, 1) := by decide +kernel
theorem dJ2_compress_5af95_19 : decode cJ2_compress_5af95 19 = .ok (.invokestatic 71, 3) := by decide +kernel
theorem dJ2_compress_5af95_22 : decode cJ2_compress_5af95 22 = .ok (.istore 6, 2) := by decide +kernel
theorem dJ2_compress_5af95_24 : decode cJ2_compress_5af95 24 = .ok (.iload 6, 2) := by decide +kernel
theorem dJ2_compress_5af95_26 : decode cJ2_compress_5af95 26 = .ok (.sipush 255, 3) := by decide +kernel
theorem dJ2_compress_5af95_29 : decode cJ2_compress_5af95 29 = .ok (.if_icmp .le 6, 3) := by decide +kernel
theorem dJ2_compress_5af95_32 : decode cJ2_compress_5af95 32 = .ok (.iload 5, 2) := by decide +kernel
theorem dJ2_compress_5af95_34 : decode cJ2_compress_5af95 34 = .ok (.ireturn, 1) := by decide +kernel
theorem dJ2_compress_5af95_35 : decode cJ2_compress_5af95 35 = .ok (.aload_n 2, 1) := by decide +kernel
theorem dJ2_compress_5af95_36 : decode cJ2_compress_5af95 36 = .ok (.iload_n 3, 1) := by decide +kernel
theorem dJ2_compress_5af95_37 : decode cJ2_compress_5af95 37 = .ok (.iload 6, 2) := by decide +kernel
theorem dJ2_compress_5af95_39 : decode cJ2_compress_5af95 39 = .ok (.i2b, 1) := by decide +kernel
theorem dJ2_compress_5af95_40 : decode cJ2_compress_5af95 40 = .ok (.bastore, 1) := by decide +kernel
theorem dJ2_compress_5af95_41 : decode cJ2_compress_5af95 41 = .ok (.iinc 1 1, 3) := by decide +kernel
theorem dJ2_compress_5af95_44 : decode cJ2_compress_5af95 44 = .ok (.iinc 3 1, 3) := by decide +kernel
theorem dJ2_compress_5af95_47 : decode cJ2_compress_5af95 47 = .ok (.iinc 5 1, 3) := by decide +kernel
theorem dJ2_compress_5af95_50 : decode cJ2_compress_5af95 50 = .ok (.goto (-40), 3) := by decide +kernel
theorem dJ2_compress_5af95_53 : decode cJ2_compress_5af95 53 = .ok (.iload 4, 2) := by decide +kernel
theorem dJ2_compress_5af95_55 : decode cJ2_compress_5af95 55 = .ok (.ireturn, 1) := by decide +kernel
theorem dJ2_getChars_46870_0 : decode cJ2_getChars_46870 0 = .ok (.iload_n 1, 1) := by decide +kernel
theorem dJ2_getChars_46870_1 : decode cJ2_getChars_46870 1 = .ok (.iload_n 2, 1) := by decide +kernel
theorem dJ2_getChars_46870_2 : decode cJ2_getChars_46870 2 = .ok (.aload_n 3, 1) := by decide +kernel
theorem dJ2_getChars_46870_3 : decode cJ2_getChars_46870 3 = .ok (.invokestatic 96, 3) := by decide +kernel
theorem dJ2_getChars_46870_6 : decode cJ2_getChars_46870 6 = .ok (.iload_n 0, 1) := by decide +kernel
theorem dJ2_getChars_46870_7 : decode cJ2_getChars_46870 7 = .ok (.iload_n 2, 1) := by decide +kernel
theorem dJ2_getChars_46870_8 : decode cJ2_getChars_46870 8 = .ok (.aload_n 3, 1) := by decide +kernel
theorem dJ2_getChars_46870_9 : decode cJ2_getChars_46870 9 = .ok (.invokestatic 393, 3) := by decide +kernel
theorem dJ2_getChars_46870_12 : decode cJ2_getChars_46870 12 = .ok (.istore 4, 2) := by decide +kernel
theorem dJ2_getChars_46870_14 : decode cJ2_getChars_46870 14 = .ok (.getstatic 44, 3) := by decide +kernel
theorem dJ2_getChars_46870_17 : decode cJ2_getChars_46870 17 = .ok (.ifCond .ne 17, 3) := by decide +kernel
theorem dJ2_getChars_46870_20 : decode cJ2_getChars_46870 20 = .ok (.iload_n 1, 1) := by decide +kernel
theorem dJ2_getChars_46870_21 : decode cJ2_getChars_46870 21 = .ok (.iload 4, 2) := by decide +kernel
theorem dJ2_getChars_46870_23 : decode cJ2_getChars_46870 23 = .ok (.if_icmp .eq 11, 3) := by decide +kernel
theorem dJ2_getChars_46870_26 : decode cJ2_getChars_46870 26 = .ok (.new 52, 3) := by decide +kernel
theorem dJ2_getChars_46870_29 : decode cJ2_getChars_46870 29 = .ok (.dup, 1) := by decide +kernel
theorem dJ2_getChars_46870_30 : decode cJ2_getChars_46870 30 = .ok (.invokespecial 66, 3) := by decide +kernel
theorem dJ2_getChars_46870_33 : decode cJ2_getChars_46870 33 = .ok (.athrow, 1) := by decide +kernel
theorem dJ2_getChars_46870_34 : decode cJ2_getChars_46870 34 = .ok (.iload 4, 2) := by decide +kernel
theorem dJ2_getChars_46870_36 : decode cJ2_getChars_46870 36 = .ok (.ireturn, 1) := by decide +kernel
theorem dJ2_putCharsAt_cd4e5_0 : decode cJ2_putCharsAt_cd4e5 0 = .ok (.iload_n 1, 1) := by decide +kernel
theorem dJ2_putCharsAt_cd4e5_1 : decode cJ2_putCharsAt_cd4e5 1 = .ok (.iconst 4, 1) := by decide +kernel
theorem dJ2_putCharsAt_cd4e5_2 : decode cJ2_putCharsAt_cd4e5 2 = .ok (.iadd, 1) := by decide +kernel
theorem dJ2_putCharsAt_cd4e5_3 : decode cJ2_putCharsAt_cd4e5 3 = .ok (.istore 6, 2) := by decide +kernel
theorem dJ2_putCharsAt_cd4e5_5 : decode cJ2_putCharsAt_cd4e5 5 = .ok (.iload_n 1, 1) := by decide +kernel
theorem dJ2_putCharsAt_cd4e5_6 : decode cJ2_putCharsAt_cd4e5 6 = .ok (.iload 6, 2) := by decide +kernel
theorem dJ2_putCharsAt_cd4e5_8 : decode cJ2_putCharsAt_cd4e5 8 = .ok (.aload_n 0, 1) := by decide +kernel
theorem dJ2_putCharsAt_cd4e5_9 : decode cJ2_putCharsAt_cd4e5 9 = .ok (.invokestatic 96, 3) := by decide +kernel
theorem dJ2_putCharsAt_cd4e5_12 : decode cJ2_putCharsAt_cd4e5 12 = .ok (.aload_n 0, 1) := by decide +kernel
theorem dJ2_putCharsAt_cd4e5_13 : decode cJ2_putCharsAt_cd4e5 13 = .ok (.iload_n 1, 1) := by decide +kernel
theorem dJ2_putCharsAt_cd4e5_14 : decode cJ2_putCharsAt_cd4e5 14 = .ok (.iinc 1 1, 3) := by decide +kernel
theorem dJ2_putCharsAt_cd4e5_17 : decode cJ2_putCharsAt_cd4e5 17 = .ok (.iload_n 2, 1) := by decide +kernel
theorem dJ2_putCharsAt_cd4e5_18 : decode cJ2_putCharsAt_cd4e5 18 = .ok (.invokestatic 111, 3) := by decide +kernel
theorem dJ2_putCharsAt_cd4e5_21 : decode cJ2_putCharsAt_cd4e5 21 = .ok (.aload_n 0, 1) := by decide +kernel
theorem dJ2_putCharsAt_cd4e5_22 : decode cJ2_putCharsAt_cd4e5 22 = .ok (.iload_n 1, 1) := by decide +kernel
theorem dJ2_putCharsAt_cd4e5_23 : decode cJ2_putCharsAt_cd4e5 23 = .ok (.iinc 1 1, 3) := by decide +kernel
theorem dJ2_putCharsAt_cd4e5_26 : decode cJ2_putCharsAt_cd4e5 26 = .ok (.iload_n 3, 1) := by decide +kernel
theorem dJ2_putCharsAt_cd4e5_27 : decode cJ2_putCharsAt_cd4e5 27 = .ok (.invokestatic 111, 3) := by decide +kernel
theorem dJ2_putCharsAt_cd4e5_30 : decode cJ2_putCharsAt_cd4e5 30 = .ok (.aload_n 0, 1) := by decide +kernel
theorem dJ2_putCharsAt_cd4e5_31 : decode cJ2_putCharsAt_cd4e5 31 = .ok (.iload_n 1, 1) := by decide +kernel
theorem dJ2_putCharsAt_cd4e5_32 : decode cJ2_putCharsAt_cd4e5 32 = .ok (.iinc 1 1, 3) := by decide +kernel
theorem dJ2_putCharsAt_cd4e5_35 : decode cJ2_putCharsAt_cd4e5 35 = .ok (.iload 4, 2) := by decide +kernel
theorem dJ2_putCharsAt_cd4e5_37 : decode cJ2_putCharsAt_cd4e5 37 = .ok (.invokestatic 111, 3) := by decide +kernel
theorem dJ2_putCharsAt_cd4e5_40 : decode cJ2_putCharsAt_cd4e5 40 = .ok (.aload_n 0, 1) := by decide +kernel
theorem dJ2_putCharsAt_cd4e5_41 : decode cJ2_putCharsAt_cd4e5 41 = .ok (.iload_n 1, 1) := by decide +kernel
theorem dJ2_putCharsAt_cd4e5_42 : decode cJ2_putCharsAt_cd4e5 42 = .ok (.iinc 1 1, 3) := by decide +kernel
theorem dJ2_putCharsAt_cd4e5_45 : decode cJ2_putCharsAt_cd4e5 45 = .ok (.iload 5, 2) := by decide +kernel
theorem dJ2_putCharsAt_cd4e5_47 : decode cJ2_putCharsAt_cd4e5 47 = .ok (.invokestatic 111, 3) := by decide +kernel
theorem dJ2_putCharsAt_cd4e5_50 : decode cJ2_putCharsAt_cd4e5 50 = .ok (.getstatic 44, 3) := by decide +kernel
theorem dJ2_putCharsAt_cd4e5_53 : decode cJ2_putCharsAt_cd4e5 53 = .ok (.ifCond .ne 17, 3) := by decide +kernel
theorem dJ2_putCharsAt_cd4e5_56 : decode cJ2_putCharsAt_cd4e5 56 = .ok (.iload_n 1, 1) := by decide +kernel
theorem dJ2_putCharsAt_cd4e5_57 : decode cJ2_putCharsAt_cd4e5 57 = .ok (.iload 6, 2) := by decide +kernel
theorem dJ2_putCharsAt_cd4e5_59 : decode cJ2_putCharsAt_cd4e5 59 = .ok (.if_icmp .eq 11, 3) := by decide +kernel
theorem dJ2_putCharsAt_cd4e5_62 : decode cJ2_putCharsAt_cd4e5 62 = .ok (.new 52, 3) := by decide +kernel
theorem dJ2_putCharsAt_cd4e5_65 : decode cJ2_putCharsAt_cd4e5 65 = .ok (.dup, 1) := by decide +kernel
theorem dJ2_putCharsAt_cd4e5_66 : decode cJ2_putCharsAt_cd4e5 66 = .ok (.invokespecial 66, 3) := by decide +kernel
theorem dJ2_putCharsAt_cd4e5_69 : decode cJ2_putCharsAt_cd4e5 69 = .ok (.athrow, 1) := by decide +kernel
theorem dJ2_putCharsAt_cd4e5_70 : decode cJ2_putCharsAt_cd4e5 70 = .ok (.iload 6, 2) := by decide +kernel
theorem dJ2_putCharsAt_cd4e5_72 : decode cJ2_putCharsAt_cd4e5 72 = .ok (.ireturn, 1) := by decide +kernel
theorem dJ2_inflate_0e8fd_0 : decode cJ2_inflate_0e8fd 0 = .ok (.iload_n 3, 1) := by decide +kernel
theorem dJ2_inflate_0e8fd_1 : decode cJ2_inflate_0e8fd 1 = .ok (.iload 4, 2) := by decide +kernel
theorem dJ2_inflate_0e8fd_3 : decode cJ2_inflate_0e8fd 3 = .ok (.aload_n 2, 1) := by decide +kernel
theorem dJ2_inflate_0e8fd_4 : decode cJ2_inflate_0e8fd 4 = .ok (.invokestatic 173, 3) := by decide +kernel
theorem dJ2_inflate_0e8fd_7 : decode cJ2_inflate_0e8fd 7 = .ok (.iconst 0, 1) := by decide +kernel
theorem dJ2_inflate_0e8fd_8 : decode cJ2_inflate_0e8fd 8 = .ok (.istore 5, 2) := by decide +kernel
theorem dJ2_inflate_0e8fd_10 : decode cJ2_inflate_0e8fd 10 = .ok (.iload 5, 2) := by decide +kernel
theorem dJ2_inflate_0e8fd_12 : decode cJ2_inflate_0e8fd 12 = .ok (.iload 4, 2) := by decide +kernel
theorem dJ2_inflate_0e8fd_14 : decode cJ2_inflate_0e8fd 14 = .ok (.if_icmp .ge 27, 3) := by decide +kernel
theorem dJ2_inflate_0e8fd_17 : decode cJ2_inflate_0e8fd 17 = .ok (.aload_n 2, 1) := by decide +kernel
theorem dJ2_inflate_0e8fd_18 : decode cJ2_inflate_0e8fd 18 = .ok (.iload_n 3, 1) := by decide +kernel
theorem dJ2_inflate_0e8fd_19 : decode cJ2_inflate_0e8fd 19 = .ok (.iinc 3 1, 3) := by decide +kernel
theorem dJ2_inflate_0e8fd_22 : decode cJ2_inflate_0e8fd 22 = .ok (.aload_n 0, 1) := by decide +kernel
theorem dJ2_inflate_0e8fd_23 : decode cJ2_inflate_0e8fd 23 = .ok (.iload_n 1, 1) := by decide +kernel
theorem dJ2_inflate_0e8fd_24 : decode cJ2_inflate_0e8fd 24 = .ok (.iinc 1 1, 3) := by decide +kernel
theorem dJ2_inflate_0e8fd_27 : decode cJ2_inflate_0e8fd 27 = .ok (.baload, 1) := by decide +kernel
theorem dJ2_inflate_0e8fd_28 : decode cJ2_inflate_0e8fd 28 = .ok (.sipush 255, 3) := by decide +kernel
theorem dJ2_inflate_0e8fd_31 : decode cJ2_inflate_0e8fd 31 = .ok (.iand, 1) := by decide +kernel
theorem dJ2_inflate_0e8fd_32 : decode cJ2_inflate_0e8fd 32 = .ok (.invokestatic 111, 3) := by decide +kernel
theorem dJ2_inflate_0e8fd_35 : decode cJ2_inflate_0e8fd 35 = .ok (.iinc 5 1, 3) := by decide +kernel
theorem dJ2_inflate_0e8fd_38 : decode cJ2_inflate_0e8fd 38 = .ok (.goto (-28), 3) := by decide +kernel
theorem dJ2_inflate_0e8fd_41 : decode cJ2_inflate_0e8fd 41 = .ok (.return_, 1) := by decide +kernel
theorem dJ2_getChars_ba4f3_0 : decode cJ2_getChars_ba4f3 0 = .ok (.iload_n 1, 1) := by decide +kernel
theorem dJ2_getChars_ba4f3_1 : decode cJ2_getChars_ba4f3 1 = .ok (.istore 5, 2) := by decide +kernel
theorem dJ2_getChars_ba4f3_3 : decode cJ2_getChars_ba4f3 3 = .ok (.iload_n 0, 1) := by decide +kernel
theorem dJ2_getChars_ba4f3_4 : decode cJ2_getChars_ba4f3 4 = .ok (.ifCond .ge 7, 3) := by decide +kernel
theorem dJ2_getChars_ba4f3_7 : decode cJ2_getChars_ba4f3 7 = .ok (.iconst 1, 1) := by decide +kernel
theorem dJ2_getChars_ba4f3_8 : decode cJ2_getChars_ba4f3 8 = .ok (.goto 4, 3) := by decide +kernel
theorem dJ2_getChars_ba4f3_11 : decode cJ2_getChars_ba4f3 11 = .ok (.iconst 0, 1) := by decide +kernel
theorem dJ2_getChars_ba4f3_12 : decode cJ2_getChars_ba4f3 12 = .ok (.istore 6, 2) := by decide +kernel
theorem dJ2_getChars_ba4f3_14 : decode cJ2_getChars_ba4f3 14 = .ok (.iload 6, 2) := by decide +kernel
theorem dJ2_getChars_ba4f3_16 : decode cJ2_getChars_ba4f3 16 = .ok (.ifCond .ne 6, 3) := by decide +kernel
theorem dJ2_getChars_ba4f3_19 : decode cJ2_getChars_ba4f3 19 = .ok (.iload_n 0, 1) := by decide +kernel
theorem dJ2_getChars_ba4f3_20 : decode cJ2_getChars_ba4f3 20 = .ok (.ineg, 1) := by decide +kernel
theorem dJ2_getChars_ba4f3_21 : decode cJ2_getChars_ba4f3 21 = .ok (.istore_n 0, 1) := by decide +kernel
theorem dJ2_getChars_ba4f3_22 : decode cJ2_getChars_ba4f3 22 = .ok (.iload_n 0, 1) := by decide +kernel
theorem dJ2_getChars_ba4f3_23 : decode cJ2_getChars_ba4f3 23 = .ok (.bipush (-100), 2) := by decide +kernel
theorem dJ2_getChars_ba4f3_25 : decode cJ2_getChars_ba4f3 25 = .ok (.if_icmp .gt 51, 3) := by decide +kernel
theorem dJ2_getChars_ba4f3_28 : decode cJ2_getChars_ba4f3 28 = .ok (.iload_n 0, 1) := by decide +kernel
theorem dJ2_getChars_ba4f3_29 : decode cJ2_getChars_ba4f3 29 = .ok (.bipush 100, 2) := by decide +kernel
theorem dJ2_getChars_ba4f3_31 : decode cJ2_getChars_ba4f3 31 = .ok (.idiv, 1) := by decide +kernel
theorem dJ2_getChars_ba4f3_32 : decode cJ2_getChars_ba4f3 32 = .ok (.istore_n 3, 1) := by decide +kernel
theorem dJ2_getChars_ba4f3_33 : decode cJ2_getChars_ba4f3 33 = .ok (.iload_n 3, 1) := by decide +kernel
theorem dJ2_getChars_ba4f3_34 : decode cJ2_getChars_ba4f3 34 = .ok (.bipush 100, 2) := by decide +kernel
theorem dJ2_getChars_ba4f3_36 : decode cJ2_getChars_ba4f3 36 = .ok (.imul, 1) := by decide +kernel
theorem dJ2_getChars_ba4f3_37 : decode cJ2_getChars_ba4f3 37 = .ok (.iload_n 0, 1) := by decide +kernel
theorem dJ2_getChars_ba4f3_38 : decode cJ2_getChars_ba4f3 38 = .ok (.isub, 1) := by decide +kernel
theorem dJ2_getChars_ba4f3_39 : decode cJ2_getChars_ba4f3 39 = .ok (.istore 4, 2) := by decide +kernel
theorem dJ2_getChars_ba4f3_41 : decode cJ2_getChars_ba4f3 41 = .ok (.iload_n 3, 1) := by decide +kernel
theorem dJ2_getChars_ba4f3_42 : decode cJ2_getChars_ba4f3 42 = .ok (.istore_n 0, 1) := by decide +kernel
theorem dJ2_getChars_ba4f3_43 : decode cJ2_getChars_ba4f3 43 = .ok (.aload_n 2, 1) := by decide +kernel
theorem dJ2_getChars_ba4f3_44 : decode cJ2_getChars_ba4f3 44 = .ok (.iinc 5 (-1), 3) := by decide +kernel
theorem dJ2_getChars_ba4f3_47 : decode cJ2_getChars_ba4f3 47 = .ok (.iload 5, 2) := by decide +kernel
theorem dJ2_getChars_ba4f3_49 : decode cJ2_getChars_ba4f3 49 = .ok (.getstatic 403, 3) := by decide +kernel
theorem dJ2_getChars_ba4f3_52 : decode cJ2_getChars_ba4f3 52 = .ok (.iload 4, 2) := by decide +kernel
theorem dJ2_getChars_ba4f3_54 : decode cJ2_getChars_ba4f3 54 = .ok (.baload, 1) := by decide +kernel
theorem dJ2_getChars_ba4f3_55 : decode cJ2_getChars_ba4f3 55 = .ok (.invokestatic 111, 3) := by decide +kernel
theorem dJ2_getChars_ba4f3_58 : decode cJ2_getChars_ba4f3 58 = .ok (.aload_n 2, 1) := by decide +kernel
theorem dJ2_getChars_ba4f3_59 : decode cJ2_getChars_ba4f3 59 = .ok (.iinc 5 (-1), 3) := by decide +kernel
theorem dJ2_getChars_ba4f3_62 : decode cJ2_getChars_ba4f3 62 = .ok (.iload 5, 2) := by decide +kernel
theorem dJ2_getChars_ba4f3_64 : decode cJ2_getChars_ba4f3 64 = .ok (.getstatic 407, 3) := by decide +kernel
theorem dJ2_getChars_ba4f3_67 : decode cJ2_getChars_ba4f3 67 = .ok (.iload 4, 2) := by decide +kernel
theorem dJ2_getChars_ba4f3_69 : decode cJ2_getChars_ba4f3 69 = .ok (.baload, 1) := by decide +kernel
theorem dJ2_getChars_ba4f3_70 : decode cJ2_getChars_ba4f3 70 = .ok (.invokestatic 111, 3) := by decide +kernel
theorem dJ2_getChars_ba4f3_73 : decode cJ2_getChars_ba4f3 73 = .ok (.goto (-51), 3) := by decide +kernel
theorem dJ2_getChars_ba4f3_76 : decode cJ2_getChars_ba4f3 76 = .ok (.aload_n 2, 1) := by decide +kernel
theorem dJ2_getChars_ba4f3_77 : decode cJ2_getChars_ba4f3 77 = .ok (.iinc 5 (-1), 3) := by decide +kernel
theorem dJ2_getChars_ba4f3_80 : decode cJ2_getChars_ba4f3 80 = .ok (.iload 5, 2) := by decide +kernel
theorem dJ2_getChars_ba4f3_82 : decode cJ2_getChars_ba4f3 82 = .ok (.getstatic 403, 3) := by decide +kernel
theorem dJ2_getChars_ba4f3_85 : decode cJ2_getChars_ba4f3 85 = .ok (.iload_n 0, 1) := by decide +kernel
theorem dJ2_getChars_ba4f3_86 : decode cJ2_getChars_ba4f3 86 = .ok (.ineg, 1) := by decide +kernel
theorem dJ2_getChars_ba4f3_87 : decode cJ2_getChars_ba4f3 87 = .ok (.baload, 1) := by decide +kernel
theorem dJ2_getChars_ba4f3_88 : decode cJ2_getChars_ba4f3 88 = .ok (.invokestatic 111, 3) := by decide +kernel
theorem dJ2_getChars_ba4f3_91 : decode cJ2_getChars_ba4f3 91 = .ok (.iload_n 0, 1) := by decide +kernel
theorem dJ2_getChars_ba4f3_92 : decode cJ2_getChars_ba4f3 92 = .ok (.bipush (-9), 2) := by decide +kernel
theorem dJ2_getChars_ba4f3_94 : decode cJ2_getChars_ba4f3 94 = .ok (.if_icmp .ge 18, 3) := by decide +kernel
theorem dJ2_getChars_ba4f3_97 : decode cJ2_getChars_ba4f3 97 = .ok (.aload_n 2, 1) := by decide +kernel
theorem dJ2_getChars_ba4f3_98 : decode cJ2_getChars_ba4f3 98 = .ok (.iinc 5 (-1), 3) := by decide +kernel
theorem dJ2_getChars_ba4f3_101 : decode cJ2_getChars_ba4f3 101 = .ok (.iload 5, 2) := by decide +kernel
theorem dJ2_getChars_ba4f3_103 : decode cJ2_getChars_ba4f3 103 = .ok (.getstatic 407, 3) := by decide +kernel
theorem dJ2_getChars_ba4f3_106 : decode cJ2_getChars_ba4f3 106 = .ok (.iload_n 0, 1) := by decide +kernel
theorem dJ2_getChars_ba4f3_107 : decode cJ2_getChars_ba4f3 107 = .ok (.ineg, 1) := by decide +kernel
theorem dJ2_getChars_ba4f3_108 : decode cJ2_getChars_ba4f3 108 = .ok (.baload, 1) := by decide +kernel
theorem dJ2_getChars_ba4f3_109 : decode cJ2_getChars_ba4f3 109 = .ok (.invokestatic 111, 3) := by decide +kernel
theorem dJ2_getChars_ba4f3_112 : decode cJ2_getChars_ba4f3 112 = .ok (.iload 6, 2) := by decide +kernel
theorem dJ2_getChars_ba4f3_114 : decode cJ2_getChars_ba4f3 114 = .ok (.ifCond .eq 14, 3) := by decide +kernel
theorem dJ2_getChars_ba4f3_117 : decode cJ2_getChars_ba4f3 117 = .ok (.aload_n 2, 1) := by decide +kernel
theorem dJ2_getChars_ba4f3_118 : decode cJ2_getChars_ba4f3 118 = .ok (.iinc 5 (-1), 3) := by decide +kernel
theorem dJ2_getChars_ba4f3_121 : decode cJ2_getChars_ba4f3 121 = .ok (.iload 5, 2) := by decide +kernel
theorem dJ2_getChars_ba4f3_123 : decode cJ2_getChars_ba4f3 123 = .ok (.bipush 45, 2) := by decide +kernel
theorem dJ2_getChars_ba4f3_125 : decode cJ2_getChars_ba4f3 125 = .ok (.invokestatic 111, 3) := by decide +kernel
theorem dJ2_getChars_ba4f3_128 : decode cJ2_getChars_ba4f3 128 = .ok (.iload 5, 2) := by decide +kernel
theorem dJ2_getChars_ba4f3_130 : decode cJ2_getChars_ba4f3 130 = .ok (.ireturn, 1) := by decide +kernel
theorem dJ2_checkBoundsBeginEnd_d044e_0 : decode cJ2_checkBoundsBeginEnd_d044e 0 = .ok (.iload_n 0, 1) := by decide +kernel
theorem dJ2_checkBoundsBeginEnd_d044e_1 : decode cJ2_checkBoundsBeginEnd_d044e 1 = .ok (.iload_n 1, 1) := by decide +kernel
theorem dJ2_checkBoundsBeginEnd_d044e_2 : decode cJ2_checkBoundsBeginEnd_d044e 2 = .ok (.aload_n 2, 1) := by decide +kernel
theorem dJ2_checkBoundsBeginEnd_d044e_3 : decode cJ2_checkBoundsBeginEnd_d044e 3 = .ok (.invokestatic 48, 3) := by decide +kernel
theorem dJ2_checkBoundsBeginEnd_d044e_6 : decode cJ2_checkBoundsBeginEnd_d044e 6 = .ok (.invokestatic 241, 3) := by decide +kernel
theorem dJ2_checkBoundsBeginEnd_d044e_9 : decode cJ2_checkBoundsBeginEnd_d044e 9 = .ok (.return_, 1) := by decide +kernel
theorem dJ2_checkBoundsOffCount_d044e_0 : decode cJ2_checkBoundsOffCount_d044e 0 = .ok (.iload_n 0, 1) := by decide +kernel
theorem dJ2_checkBoundsOffCount_d044e_1 : decode cJ2_checkBoundsOffCount_d044e 1 = .ok (.iload_n 1, 1) := by decide +kernel
theorem dJ2_checkBoundsOffCount_d044e_2 : decode cJ2_checkBoundsOffCount_d044e 2 = .ok (.aload_n 2, 1) := by decide +kernel
theorem dJ2_checkBoundsOffCount_d044e_3 : decode cJ2_checkBoundsOffCount_d044e 3 = .ok (.invokestatic 48, 3) := by decide +kernel
theorem dJ2_checkBoundsOffCount_d044e_6 : decode cJ2_checkBoundsOffCount_d044e 6 = .ok (.invokestatic 419, 3) := by decide +kernel
theorem dJ2_checkBoundsOffCount_d044e_9 : decode cJ2_checkBoundsOffCount_d044e 9 = .ok (.pop, 1) := by decide +kernel
theorem dJ2_checkBoundsOffCount_d044e_10 : decode cJ2_checkBoundsOffCount_d044e 10 = .ok (.return_, 1) := by decide +kernel
theorem dJxa1e45_init_da8c8_0 : decode cJxa1e45_init_da8c8 0 = .ok (.aload_n 0, 1) := by decide +kernel
theorem dJxa1e45_init_da8c8_1 : decode cJxa1e45_init_da8c8 1 = .ok (.invokespecial 1, 3) := by decide +kernel
theorem dJxa1e45_init_da8c8_4 : decode cJxa1e45_init_da8c8 4 = .ok (.return_, 1) := by decide +kernel
theorem dJxc12de_init_da8c8_0 : decode cJxc12de_init_da8c8 0 = .ok (.aload_n 0, 1) := by decide +kernel
theorem dJxc12de_init_da8c8_1 : decode cJxc12de_init_da8c8 1 = .ok (.invokespecial 1, 3) := by decide +kernel
theorem dJxc12de_init_da8c8_4 : decode cJxc12de_init_da8c8 4 = .ok (.aload_n 0, 1) := by decide +kernel
theorem dJxc12de_init_da8c8_5 : decode cJxc12de_init_da8c8 5 = .ok (.iconst 0, 1) := by decide +kernel
theorem dJxc12de_init_da8c8_6 : decode cJxc12de_init_da8c8 6 = .ok (.putfield 7, 3) := by decide +kernel
theorem dJxc12de_init_da8c8_9 : decode cJxc12de_init_da8c8 9 = .ok (.return_, 1) := by decide +kernel
theorem dJx4a65c_init_da8c8_0 : decode cJx4a65c_init_da8c8 0 = .ok (.aload_n 0, 1) := by decide +kernel
theorem dJx4a65c_init_da8c8_1 : decode cJx4a65c_init_da8c8 1 = .ok (.invokespecial 1, 3) := by decide +kernel
theorem dJx4a65c_init_da8c8_4 : decode cJx4a65c_init_da8c8 4 = .ok (.aload_n 0, 1) := by decide +kernel
theorem dJx4a65c_init_da8c8_5 : decode cJx4a65c_init_da8c8 5 = .ok (.getstatic 39, 3) := by decide +kernel
theorem dJx4a65c_init_da8c8_8 : decode cJx4a65c_init_da8c8 8 = .ok (.putfield 9, 3) := by decide +kernel
theorem dJx4a65c_init_da8c8_11 : decode cJx4a65c_init_da8c8 11 = .ok (.return_, 1) := by decide +kernel
theorem dJx4a65c_grow_92f84_0 : decode cJx4a65c_grow_92f84 0 = .ok (.aload_n 0, 1) := by decide +kernel
theorem dJx4a65c_grow_92f84_1 : decode cJx4a65c_grow_92f84 1 = .ok (.getfield 9, 3) := by decide +kernel
theorem dJx4a65c_grow_92f84_4 : decode cJx4a65c_grow_92f84 4 = .ok (.arraylength, 1) := by decide +kernel
theorem dJx4a65c_grow_92f84_5 : decode cJx4a65c_grow_92f84 5 = .ok (.istore_n 2, 1) := by decide +kernel
theorem dJx4a65c_grow_92f84_6 : decode cJx4a65c_grow_92f84 6 = .ok (.iload_n 2, 1) := by decide +kernel
theorem dJx4a65c_grow_92f84_7 : decode cJx4a65c_grow_92f84 7 = .ok (.ifCond .gt 13, 3) := by decide +kernel
theorem dJx4a65c_grow_92f84_10 : decode cJx4a65c_grow_92f84 10 = .ok (.aload_n 0, 1) := by decide +kernel
theorem dJx4a65c_grow_92f84_11 : decode cJx4a65c_grow_92f84 11 = .ok (.getfield 9, 3) := by decide +kernel
theorem dJx4a65c_grow_92f84_14 : decode cJx4a65c_grow_92f84 14 = .ok (.getstatic 39, 3) := by decide +kernel
theorem dJx4a65c_grow_92f84_17 : decode cJx4a65c_grow_92f84 17 = .ok (.if_acmp .eq 28, 3) := by decide +kernel
theorem dJx4a65c_grow_92f84_20 : decode cJx4a65c_grow_92f84 20 = .ok (.iload_n 2, 1) := by decide +kernel
theorem dJx4a65c_grow_92f84_21 : decode cJx4a65c_grow_92f84 21 = .ok (.iload_n 1, 1) := by decide +kernel
theorem dJx4a65c_grow_92f84_22 : decode cJx4a65c_grow_92f84 22 = .ok (.iload_n 2, 1) := by decide +kernel
theorem dJx4a65c_grow_92f84_23 : decode cJx4a65c_grow_92f84 23 = .ok (.isub, 1) := by decide +kernel
theorem dJx4a65c_grow_92f84_24 : decode cJx4a65c_grow_92f84 24 = .ok (.iload_n 2, 1) := by decide +kernel
theorem dJx4a65c_grow_92f84_25 : decode cJx4a65c_grow_92f84 25 = .ok (.iconst 1, 1) := by decide +kernel
theorem dJx4a65c_grow_92f84_26 : decode cJx4a65c_grow_92f84 26 = .ok (.ishr, 1) := by decide +kernel
theorem dJx4a65c_grow_92f84_27 : decode cJx4a65c_grow_92f84 27 = .ok (.invokestatic 73, 3) := by decide +kernel
theorem dJx4a65c_grow_92f84_30 : decode cJx4a65c_grow_92f84 30 = .ok (.istore_n 3, 1) := by decide +kernel
theorem dJx4a65c_grow_92f84_31 : decode cJx4a65c_grow_92f84 31 = .ok (.aload_n 0, 1) := by decide +kernel
theorem dJx4a65c_grow_92f84_32 : decode cJx4a65c_grow_92f84 32 = .ok (.aload_n 0, 1) := by decide +kernel
theorem dJx4a65c_grow_92f84_33 : decode cJx4a65c_grow_92f84 33 = .ok (.getfield 9, 3) := by decide +kernel
theorem dJx4a65c_grow_92f84_36 : decode cJx4a65c_grow_92f84 36 = .ok (.iload_n 3, 1) := by decide +kernel
theorem dJx4a65c_grow_92f84_37 : decode cJx4a65c_grow_92f84 37 = .ok (.invokestatic 66, 3) := by decide +kernel
theorem dJx4a65c_grow_92f84_40 : decode cJx4a65c_grow_92f84 40 = .ok (.dup_x1, 1) := by decide +kernel
theorem dJx4a65c_grow_92f84_41 : decode cJx4a65c_grow_92f84 41 = .ok (.putfield 9, 3) := by decide +kernel
theorem dJx4a65c_grow_92f84_44 : decode cJx4a65c_grow_92f84 44 = .ok (.areturn, 1) := by decide +kernel
theorem dJx4a65c_grow_92f84_45 : decode cJx4a65c_grow_92f84 45 = .ok (.aload_n 0, 1) := by decide +kernel
theorem dJx4a65c_grow_92f84_46 : decode cJx4a65c_grow_92f84 46 = .ok (.bipush 10, 2) := by decide +kernel
theorem dJx4a65c_grow_92f84_48 : decode cJx4a65c_grow_92f84 48 = .ok (.iload_n 1, 1) := by decide +kernel
theorem dJx4a65c_grow_92f84_49 : decode cJx4a65c_grow_92f84 49 = .ok (.invokestatic 79, 3) := by decide +kernel
theorem dJx4a65c_grow_92f84_52 : decode cJx4a65c_grow_92f84 52 = .ok (.anewarray 7, 3) := by decide +kernel
theorem dJx4a65c_grow_92f84_55 : decode cJx4a65c_grow_92f84 55 = .ok (.dup_x1, 1) := by decide +kernel
theorem dJx4a65c_grow_92f84_56 : decode cJx4a65c_grow_92f84 56 = .ok (.putfield 9, 3) := by decide +kernel
theorem dJx4a65c_grow_92f84_59 : decode cJx4a65c_grow_92f84 59 = .ok (.areturn, 1) := by decide +kernel
theorem dJx4a65c_grow_d5877_0 : decode cJx4a65c_grow_d5877 0 = .ok (.aload_n 0, 1) := by decide +kernel
theorem dJx4a65c_grow_d5877_1 : decode cJx4a65c_grow_d5877 1 = .ok (.aload_n 0, 1) := by decide +kernel
theorem dJx4a65c_grow_d5877_2 : decode cJx4a65c_grow_d5877 2 = .ok (.getfield 48, 3) := by decide +kernel
theorem dJx4a65c_grow_d5877_5 : decode cJx4a65c_grow_d5877 5 = .ok (.iconst 1, 1) := by decide +kernel
theorem dJx4a65c_grow_d5877_6 : decode cJx4a65c_grow_d5877 6 = .ok (.iadd, 1) := by decide +kernel
theorem dJx4a65c_grow_d5877_7 : decode cJx4a65c_grow_d5877 7 = .ok (.invokevirtual 69, 3) := by decide +kernel
theorem dJx4a65c_grow_d5877_10 : decode cJx4a65c_grow_d5877 10 = .ok (.areturn, 1) := by decide +kernel
theorem dJx4a65c_size_8abf5_0 : decode cJx4a65c_size_8abf5 0 = .ok (.aload_n 0, 1) := by decide +kernel
theorem dJx4a65c_size_8abf5_1 : decode cJx4a65c_size_8abf5 1 = .ok (.getfield 48, 3) := by decide +kernel
theorem dJx4a65c_size_8abf5_4 : decode cJx4a65c_size_8abf5 4 = .ok (.ireturn, 1) := by decide +kernel
theorem dJx4a65c_elementData_915e3_0 : decode cJx4a65c_elementData_915e3 0 = .ok (.aload_n 0, 1) := by decide +kernel
theorem dJx4a65c_elementData_915e3_1 : decode cJx4a65c_elementData_915e3 1 = .ok (.getfield 9, 3) := by decide +kernel
theorem dJx4a65c_elementData_915e3_4 : decode cJx4a65c_elementData_915e3 4 = .ok (.iload_n 1, 1) := by decide +kernel
theorem dJx4a65c_elementData_915e3_5 : decode cJx4a65c_elementData_915e3 5 = .ok (.aaload, 1) := by decide +kernel
theorem dJx4a65c_elementData_915e3_6 : decode cJx4a65c_elementData_915e3 6 = .ok (.areturn, 1) := by decide +kernel
theorem dJx4a65c_get_915e3_0 : decode cJx4a65c_get_915e3 0 = .ok (.iload_n 1, 1) := by decide +kernel
theorem dJx4a65c_get_915e3_1 : decode cJx4a65c_get_915e3 1 = .ok (.aload_n 0, 1) := by decide +kernel
theorem dJx4a65c_get_915e3_2 : decode cJx4a65c_get_915e3 2 = .ok (.getfield 48, 3) := by decide +kernel
theorem dJx4a65c_get_915e3_5 : decode cJx4a65c_get_915e3 5 = .ok (.invokestatic 118, 3) := by decide +kernel
theorem dJx4a65c_get_915e3_8 : decode cJx4a65c_get_915e3 8 = .ok (.pop, 1) := by decide +kernel
theorem dJx4a65c_get_915e3_9 : decode cJx4a65c_get_915e3 9 = .ok (.aload_n 0, 1) := by decide +kernel
theorem dJx4a65c_get_915e3_10 : decode cJx4a65c_get_915e3 10 = .ok (.iload_n 1, 1) := by decide +kernel
theorem dJx4a65c_get_915e3_11 : decode cJx4a65c_get_915e3 11 = .ok (.invokevirtual 123, 3) := by decide +kernel
theorem dJx4a65c_get_915e3_14 : decode cJx4a65c_get_915e3 14 = .ok (.areturn, 1) := by decide +kernel
theorem dJx4a65c_add_72be8_0 : decode cJx4a65c_add_72be8 0 = .ok (.iload_n 3, 1) := by decide +kernel
theorem dJx4a65c_add_72be8_1 : decode cJx4a65c_add_72be8 1 = .ok (.aload_n 2, 1) := by decide +kernel
theorem dJx4a65c_add_72be8_2 : decode cJx4a65c_add_72be8 2 = .ok (.arraylength, 1) := by decide +kernel
theorem dJx4a65c_add_72be8_3 : decode cJx4a65c_add_72be8 3 = .ok (.if_icmp .ne 8, 3) := by decide +kernel
theorem dJx4a65c_add_72be8_6 : decode cJx4a65c_add_72be8 6 = .ok (.aload_n 0, 1) := by decide +kernel
theorem dJx4a65c_add_72be8_7 : decode cJx4a65c_add_72be8 7 = .ok (.invokevirtual 129, 3) := by decide +kernel
theorem dJx4a65c_add_72be8_10 : decode cJx4a65c_add_72be8 10 = .ok (.astore_n 2, 1) := by decide +kernel
theorem dJx4a65c_add_72be8_11 : decode cJx4a65c_add_72be8 11 = .ok (.aload_n 2, 1) := by decide +kernel
theorem dJx4a65c_add_72be8_12 : decode cJx4a65c_add_72be8 12 = .ok (.iload_n 3, 1) := by decide +kernel
theorem dJx4a65c_add_72be8_13 : decode cJx4a65c_add_72be8 13 = .ok (.aload_n 1, 1) := by decide +kernel
theorem dJx4a65c_add_72be8_14 : decode cJx4a65c_add_72be8 14 = .ok (.aastore, 1) := by decide +kernel
theorem dJx4a65c_add_72be8_15 : decode cJx4a65c_add_72be8 15 = .ok (.aload_n 0, 1) := by decide +kernel
theorem dJx4a65c_add_72be8_16 : decode cJx4a65c_add_72be8 16 = .ok (.iload_n 3, 1) := by decide +kernel
theorem dJx4a65c_add_72be8_17 : decode cJx4a65c_add_72be8 17 = .ok (.iconst 1, 1) := by decide +kernel
theorem dJx4a65c_add_72be8_18 : decode cJx4a65c_add_72be8 18 = .ok (.iadd, 1) := by decide +kernel
theorem dJx4a65c_add_72be8_19 : decode cJx4a65c_add_72be8 19 = .ok (.putfield 48, 3) := by decide +kernel
theorem dJx4a65c_add_72be8_22 : decode cJx4a65c_add_72be8 22 = .ok (.return_, 1) := by decide +kernel
theorem dJx4a65c_add_9ea2d_0 : decode cJx4a65c_add_9ea2d 0 = .ok (.aload_n 0, 1) := by decide +kernel
theorem dJx4a65c_add_9ea2d_1 : decode cJx4a65c_add_9ea2d 1 = .ok (.dup, 1) := by decide +kernel
theorem dJx4a65c_add_9ea2d_2 : decode cJx4a65c_add_9ea2d 2 = .ok (.getfield 63, 3) := by decide +kernel
theorem dJx4a65c_add_9ea2d_5 : decode cJx4a65c_add_9ea2d 5 = .ok (.iconst 1, 1) := by decide +kernel
theorem dJx4a65c_add_9ea2d_6 : decode cJx4a65c_add_9ea2d 6 = .ok (.iadd, 1) := by decide +kernel
theorem dJx4a65c_add_9ea2d_7 : decode cJx4a65c_add_9ea2d 7 = .ok (.putfield 63, 3) := by decide +kernel
theorem dJx4a65c_add_9ea2d_10 : decode cJx4a65c_add_9ea2d 10 = .ok (.aload_n 0, 1) := by decide +kernel
theorem dJx4a65c_add_9ea2d_11 : decode cJx4a65c_add_9ea2d 11 = .ok (.aload_n 1, 1) := by decide +kernel
theorem dJx4a65c_add_9ea2d_12 : decode cJx4a65c_add_9ea2d 12 = .ok (.aload_n 0, 1) := by decide +kernel
theorem dJx4a65c_add_9ea2d_13 : decode cJx4a65c_add_9ea2d 13 = .ok (.getfield 9, 3) := by decide +kernel
theorem dJx4a65c_add_9ea2d_16 : decode cJx4a65c_add_9ea2d 16 = .ok (.aload_n 0, 1) := by decide +kernel
theorem dJx4a65c_add_9ea2d_17 : decode cJx4a65c_add_9ea2d 17 = .ok (.getfield 48, 3) := by decide +kernel
theorem dJx4a65c_add_9ea2d_20 : decode cJx4a65c_add_9ea2d 20 = .ok (.invokevirtual 131, 3) := by decide +kernel
theorem dJx4a65c_add_9ea2d_23 : decode cJx4a65c_add_9ea2d 23 = .ok (.iconst 1, 1) := by decide +kernel
theorem dJx4a65c_add_9ea2d_24 : decode cJx4a65c_add_9ea2d 24 = .ok (.ireturn, 1) := by decide +kernel
theorem dJx4a65c_add_7a177_0 : decode cJx4a65c_add_7a177 0 = .ok (.aload_n 0, 1) := by decide +kernel
theorem dJx4a65c_add_7a177_1 : decode cJx4a65c_add_7a177 1 = .ok (.iload_n 1, 1) := by decide +kernel
theorem dJx4a65c_add_7a177_2 : decode cJx4a65c_add_7a177 2 = .ok (.invokevirtual 135, 3) := by decide +kernel
theorem dJx4a65c_add_7a177_5 : decode cJx4a65c_add_7a177 5 = .ok (.aload_n 0, 1) := by decide +kernel
theorem dJx4a65c_add_7a177_6 : decode cJx4a65c_add_7a177 6 = .ok (.dup, 1) := by decide +kernel
theorem dJx4a65c_add_7a177_7 : decode cJx4a65c_add_7a177 7 = .ok (.getfield 63, 3) := by decide +kernel
theorem dJx4a65c_add_7a177_10 : decode cJx4a65c_add_7a177 10 = .ok (.iconst 1, 1) := by decide +kernel
theorem dJx4a65c_add_7a177_11 : decode cJx4a65c_add_7a177 11 = .ok (.iadd, 1) := by decide +kernel
theorem dJx4a65c_add_7a177_12 : decode cJx4a65c_add_7a177 12 = .ok (.putfield 63, 3) := by decide +kernel
theorem dJx4a65c_add_7a177_15 : decode cJx4a65c_add_7a177 15 = .ok (.aload_n 0, 1) := by decide +kernel
theorem dJx4a65c_add_7a177_16 : decode cJx4a65c_add_7a177 16 = .ok (.getfield 48, 3) := by decide +kernel
theorem dJx4a65c_add_7a177_19 : decode cJx4a65c_add_7a177 19 = .ok (.dup, 1) := by decide +kernel
theorem dJx4a65c_add_7a177_20 : decode cJx4a65c_add_7a177 20 = .ok (.istore_n 3, 1) := by decide +kernel
theorem dJx4a65c_add_7a177_21 : decode cJx4a65c_add_7a177 21 = .ok (.aload_n 0, 1) := by decide +kernel
theorem dJx4a65c_add_7a177_22 : decode cJx4a65c_add_7a177 22 = .ok (.getfield 9, 3) := by decide +kernel
theorem dJx4a65c_add_7a177_25 : decode cJx4a65c_add_7a177 25 = .ok (.dup, 1) := by decide +kernel
theorem dJx4a65c_add_7a177_26 : decode cJx4a65c_add_7a177 26 = .ok (.astore 4, 2) := by decide +kernel
theorem dJx4a65c_add_7a177_28 : decode cJx4a65c_add_7a177 28 = .ok (.arraylength, 1) := by decide +kernel
theorem dJx4a65c_add_7a177_29 : decode cJx4a65c_add_7a177 29 = .ok (.if_icmp .ne 9, 3) := by decide +kernel
theorem dJx4a65c_add_7a177_32 : decode cJx4a65c_add_7a177 32 = .ok (.aload_n 0, 1) := by decide +kernel
theorem dJx4a65c_add_7a177_33 : decode cJx4a65c_add_7a177 33 = .ok (.invokevirtual 129, 3) := by decide +kernel
theorem dJx4a65c_add_7a177_36 : decode cJx4a65c_add_7a177 36 = .ok (.astore 4, 2) := by decide +kernel
theorem dJx4a65c_add_7a177_38 : decode cJx4a65c_add_7a177 38 = .ok (.aload 4, 2) := by decide +kernel
theorem dJx4a65c_add_7a177_40 : decode cJx4a65c_add_7a177 40 = .ok (.iload_n 1, 1) := by decide +kernel
theorem dJx4a65c_add_7a177_41 : decode cJx4a65c_add_7a177 41 = .ok (.aload 4, 2) := by decide +kernel
theorem dJx4a65c_add_7a177_43 : decode cJx4a65c_add_7a177 43 = .ok (.iload_n 1, 1) := by decide +kernel
theorem dJx4a65c_add_7a177_44 : decode cJx4a65c_add_7a177 44 = .ok (.iconst 1, 1) := by decide +kernel
theorem dJx4a65c_add_7a177_45 : decode cJx4a65c_add_7a177 45 = .ok (.iadd, 1) := by decide +kernel
theorem dJx4a65c_add_7a177_46 : decode cJx4a65c_add_7a177 46 = .ok (.iload_n 3, 1) := by decide +kernel
theorem dJx4a65c_add_7a177_47 : decode cJx4a65c_add_7a177 47 = .ok (.iload_n 1, 1) := by decide +kernel
theorem dJx4a65c_add_7a177_48 : decode cJx4a65c_add_7a177 48 = .ok (.isub, 1) := by decide +kernel
theorem dJx4a65c_add_7a177_49 : decode cJx4a65c_add_7a177 49 = .ok (.invokestatic 112, 3) := by decide +kernel
theorem dJx4a65c_add_7a177_52 : decode cJx4a65c_add_7a177 52 = .ok (.aload 4, 2) := by decide +kernel
theorem dJx4a65c_add_7a177_54 : decode cJx4a65c_add_7a177 54 = .ok (.iload_n 1, 1) := by decide +kernel
theorem dJx4a65c_add_7a177_55 : decode cJx4a65c_add_7a177 55 = .ok (.aload_n 2, 1) := by decide +kernel
theorem dJx4a65c_add_7a177_56 : decode cJx4a65c_add_7a177 56 = .ok (.aastore, 1) := by decide +kernel
theorem dJx4a65c_add_7a177_57 : decode cJx4a65c_add_7a177 57 = .ok (.aload_n 0, 1) := by decide +kernel
theorem dJx4a65c_add_7a177_58 : decode cJx4a65c_add_7a177 58 = .ok (.iload_n 3, 1) := by decide +kernel
theorem dJx4a65c_add_7a177_59 : decode cJx4a65c_add_7a177 59 = .ok (.iconst 1, 1) := by decide +kernel
theorem dJx4a65c_add_7a177_60 : decode cJx4a65c_add_7a177 60 = .ok (.iadd, 1) := by decide +kernel
theorem dJx4a65c_add_7a177_61 : decode cJx4a65c_add_7a177 61 = .ok (.putfield 48, 3) := by decide +kernel
theorem dJx4a65c_add_7a177_64 : decode cJx4a65c_add_7a177 64 = .ok (.return_, 1) := by decide +kernel
theorem dJx4a65c_rangeCheckForAdd_d00df_0 : decode cJx4a65c_rangeCheckForAdd_d00df 0 = .ok (.iload_n 1, 1) := by decide +kernel
theorem dJx4a65c_rangeCheckForAdd_d00df_1 : decode cJx4a65c_rangeCheckForAdd_d00df 1 = .ok (.aload_n 0, 1) := by decide +kernel
theorem dJx4a65c_rangeCheckForAdd_d00df_2 : decode cJx4a65c_rangeCheckForAdd_d00df 2 = .ok (.getfield 48, 3) := by decide +kernel
theorem dJx4a65c_rangeCheckForAdd_d00df_5 : decode cJx4a65c_rangeCheckForAdd_d00df 5 = .ok (.if_icmp .gt 7, 3) := by decide +kernel
theorem dJx4a65c_rangeCheckForAdd_d00df_8 : decode cJx4a65c_rangeCheckForAdd_d00df 8 = .ok (.iload_n 1, 1) := by decide +kernel
theorem dJx4a65c_rangeCheckForAdd_d00df_9 : decode cJx4a65c_rangeCheckForAdd_d00df 9 = .ok (.ifCond .ge 16, 3) := by decide +kernel
theorem dJx4a65c_rangeCheckForAdd_d00df_12 : decode cJx4a65c_rangeCheckForAdd_d00df 12 = .ok (.new 187, 3) := by decide +kernel
theorem dJx4a65c_rangeCheckForAdd_d00df_15 : decode cJx4a65c_rangeCheckForAdd_d00df 15 = .ok (.dup, 1) := by decide +kernel
theorem dJx4a65c_rangeCheckForAdd_d00df_16 : decode cJx4a65c_rangeCheckForAdd_d00df 16 = .ok (.aload_n 0, 1) := by decide +kernel
theorem dJx4a65c_rangeCheckForAdd_d00df_17 : decode cJx4a65c_rangeCheckForAdd_d00df 17 = .ok (.iload_n 1, 1) := by decide +kernel
theorem dJx4a65c_rangeCheckForAdd_d00df_18 : decode cJx4a65c_rangeCheckForAdd_d00df 18 = .ok (.invokevirtual 198, 3) := by decide +kernel
theorem dJx4a65c_rangeCheckForAdd_d00df_21 : decode cJx4a65c_rangeCheckForAdd_d00df 21 = .ok (.invokespecial 193, 3) := by decide +kernel
theorem dJx4a65c_rangeCheckForAdd_d00df_24 : decode cJx4a65c_rangeCheckForAdd_d00df 24 = .ok (.athrow, 1) := by decide +kernel
theorem dJx4a65c_rangeCheckForAdd_d00df_25 : decode cJx4a65c_rangeCheckForAdd_d00df 25 = .ok (.return_, 1) := by decide +kernel
theorem dJx4a65c_outOfBoundsMsg_b52d3_0 : decode cJx4a65c_outOfBoundsMsg_b52d3 0 = .ok (.new 20, 3) := by decide +kernel
theorem dJx4a65c_outOfBoundsMsg_b52d3_3 : decode cJx4a65c_outOfBoundsMsg_b52d3 3 = .ok (.dup, 1) := by decide +kernel
theorem dJx4a65c_outOfBoundsMsg_b52d3_4 : decode cJx4a65c_outOfBoundsMsg_b52d3 4 = .ok (.invokespecial 22, 3) := by decide +kernel
theorem dJx4a65c_outOfBoundsMsg_b52d3_7 : decode cJx4a65c_outOfBoundsMsg_b52d3 7 = .ok (.ldc 201, 2) := by decide +kernel
theorem dJx4a65c_outOfBoundsMsg_b52d3_9 : decode cJx4a65c_outOfBoundsMsg_b52d3 9 = .ok (.invokevirtual 25, 3) := by decide +kernel
theorem dJx4a65c_outOfBoundsMsg_b52d3_12 : decode cJx4a65c_outOfBoundsMsg_b52d3 12 = .ok (.iload_n 1, 1) := by decide +kernel
theorem dJx4a65c_outOfBoundsMsg_b52d3_13 : decode cJx4a65c_outOfBoundsMsg_b52d3 13 = .ok (.invokevirtual 29, 3) := by decide +kernel
theorem dJx4a65c_outOfBoundsMsg_b52d3_16 : decode cJx4a65c_outOfBoundsMsg_b52d3 16 = .ok (.ldc 203, 2) := by decide +kernel
theorem dJx4a65c_outOfBoundsMsg_b52d3_18 : decode cJx4a65c_outOfBoundsMsg_b52d3 18 = .ok (.invokevirtual 25, 3) := by decide +kernel
theorem dJx4a65c_outOfBoundsMsg_b52d3_21 : decode cJx4a65c_outOfBoundsMsg_b52d3 21 = .ok (.aload_n 0, 1) := by decide +kernel
theorem dJx4a65c_outOfBoundsMsg_b52d3_22 : decode cJx4a65c_outOfBoundsMsg_b52d3 22 = .ok (.getfield 48, 3) := by decide +kernel
theorem dJx4a65c_outOfBoundsMsg_b52d3_25 : decode cJx4a65c_outOfBoundsMsg_b52d3 25 = .ok (.invokevirtual 29, 3) := by decide +kernel
theorem dJx4a65c_outOfBoundsMsg_b52d3_28 : decode cJx4a65c_outOfBoundsMsg_b52d3 28 = .ok (.invokevirtual 32, 3) := by decide +kernel
theorem dJx4a65c_outOfBoundsMsg_b52d3_31 : decode cJx4a65c_outOfBoundsMsg_b52d3 31 = .ok (.areturn, 1) := by decide +kernel
theorem dJ7_copyOf_1904c_0 : decode cJ7_copyOf_1904c 0 = .ok (.aload_n 0, 1) := by decide +kernel
theorem dJ7_copyOf_1904c_1 : decode cJ7_copyOf_1904c 1 = .ok (.iload_n 1, 1) := by decide +kernel
theorem dJ7_copyOf_1904c_2 : decode cJ7_copyOf_1904c 2 = .ok (.aload_n 0, 1) := by decide +kernel
theorem dJ7_copyOf_1904c_3 : decode cJ7_copyOf_1904c 3 = .ok (.invokevirtual 86, 3) := by decide +kernel
theorem dJ7_copyOf_1904c_6 : decode cJ7_copyOf_1904c 6 = .ok (.invokestatic 300, 3) := by decide +kernel
theorem dJ7_copyOf_1904c_9 : decode cJ7_copyOf_1904c 9 = .ok (.areturn, 1) := by decide +kernel
theorem dJ7_copyOf_6403c_0 : decode cJ7_copyOf_6403c 0 = .ok (.aload_n 2, 1) := by decide +kernel
theorem dJ7_copyOf_6403c_1 : decode cJ7_copyOf_6403c 1 = .ok (.ldc 110, 2) := by decide +kernel
theorem dJ7_copyOf_6403c_3 : decode cJ7_copyOf_6403c 3 = .ok (.if_acmp .ne 10, 3) := by decide +kernel
theorem dJ7_copyOf_6403c_6 : decode cJ7_copyOf_6403c 6 = .ok (.iload_n 1, 1) := by decide +kernel
theorem dJ7_copyOf_6403c_7 : decode cJ7_copyOf_6403c 7 = .ok (.anewarray 2, 3) := by decide +kernel
theorem dJ7_copyOf_6403c_10 : decode cJ7_copyOf_6403c 10 = .ok (.goto 14, 3) := by decide +kernel
theorem dJ7_copyOf_6403c_13 : decode cJ7_copyOf_6403c 13 = .ok (.aload_n 2, 1) := by decide +kernel
theorem dJ7_copyOf_6403c_14 : decode cJ7_copyOf_6403c 14 = .ok (.invokevirtual 90, 3) := by decide +kernel
theorem dJ7_copyOf_6403c_17 : decode cJ7_copyOf_6403c 17 = .ok (.iload_n 1, 1) := by decide +kernel
theorem dJ7_copyOf_6403c_18 : decode cJ7_copyOf_6403c 18 = .ok (.invokestatic 95, 3) := by decide +kernel
theorem dJ7_copyOf_6403c_21 : decode cJ7_copyOf_6403c 21 = .ok (.checkcast 110, 3) := by decide +kernel
theorem dJ7_copyOf_6403c_24 : decode cJ7_copyOf_6403c 24 = .ok (.astore_n 3, 1) := by decide +kernel
theorem dJ7_copyOf_6403c_25 : decode cJ7_copyOf_6403c 25 = .ok (.aload_n 0, 1) := by decide +kernel
theorem dJ7_copyOf_6403c_26 : decode cJ7_copyOf_6403c 26 = .ok (.iconst 0, 1) := by decide +kernel
theorem dJ7_copyOf_6403c_27 : decode cJ7_copyOf_6403c 27 = .ok (.aload_n 3, 1) := by decide +kernel
theorem dJ7_copyOf_6403c_28 : decode cJ7_copyOf_6403c 28 = .ok (.iconst 0, 1) := by decide +kernel
theorem dJ7_copyOf_6403c_29 : decode cJ7_copyOf_6403c 29 = .ok (.aload_n 0, 1) := by decide +kernel
theorem dJ7_copyOf_6403c_30 : decode cJ7_copyOf_6403c 30 = .ok (.arraylength, 1) := by decide +kernel
theorem dJ7_copyOf_6403c_31 : decode cJ7_copyOf_6403c 31 = .ok (.iload_n 1, 1) := by decide +kernel
theorem dJ7_copyOf_6403c_32 : decode cJ7_copyOf_6403c 32 = .ok (.invokestatic 304, 3) := by decide +kernel
theorem dJ7_copyOf_6403c_35 : decode cJ7_copyOf_6403c 35 = .ok (.invokestatic 150, 3) := by decide +kernel
theorem dJ7_copyOf_6403c_38 : decode cJ7_copyOf_6403c 38 = .ok (.aload_n 3, 1) := by decide +kernel
theorem dJ7_copyOf_6403c_39 : decode cJ7_copyOf_6403c 39 = .ok (.areturn, 1) := by decide +kernel
theorem dJ7_copyOf_9075b_0 : decode cJ7_copyOf_9075b 0 = .ok (.iload_n 1, 1) := by decide +kernel
theorem dJ7_copyOf_9075b_1 : decode cJ7_copyOf_9075b 1 = .ok (.aload_n 0, 1) := by decide +kernel
theorem dJ7_copyOf_9075b_2 : decode cJ7_copyOf_9075b 2 = .ok (.arraylength, 1) := by decide +kernel
theorem dJ7_copyOf_9075b_3 : decode cJ7_copyOf_9075b 3 = .ok (.if_icmp .ne 11, 3) := by decide +kernel
theorem dJ7_copyOf_9075b_6 : decode cJ7_copyOf_9075b 6 = .ok (.aload_n 0, 1) := by decide +kernel
theorem dJ7_copyOf_9075b_7 : decode cJ7_copyOf_9075b 7 = .ok (.invokevirtual 310, 3) := by decide +kernel
theorem dJ7_copyOf_9075b_10 : decode cJ7_copyOf_9075b 10 = .ok (.checkcast 311, 3) := by decide +kernel
theorem dJ7_copyOf_9075b_13 : decode cJ7_copyOf_9075b 13 = .ok (.areturn, 1) := by decide +kernel
theorem dJ7_copyOf_9075b_14 : decode cJ7_copyOf_9075b 14 = .ok (.iload_n 1, 1) := by decide +kernel
theorem dJ7_copyOf_9075b_15 : decode cJ7_copyOf_9075b 15 = .ok (.newarray .byte, 2) := by decide +kernel
theorem dJ7_copyOf_9075b_17 : decode cJ7_copyOf_9075b 17 = .ok (.astore_n 2, 1) := by decide +kernel
theorem dJ7_copyOf_9075b_18 : decode cJ7_copyOf_9075b 18 = .ok (.aload_n 0, 1) := by decide +kernel
theorem dJ7_copyOf_9075b_19 : decode cJ7_copyOf_9075b 19 = .ok (.iconst 0, 1) := by decide +kernel
theorem dJ7_copyOf_9075b_20 : decode cJ7_copyOf_9075b 20 = .ok (.aload_n 2, 1) := by decide +kernel
theorem dJ7_copyOf_9075b_21 : decode cJ7_copyOf_9075b 21 = .ok (.iconst 0, 1) := by decide +kernel
theorem dJ7_copyOf_9075b_22 : decode cJ7_copyOf_9075b 22 = .ok (.aload_n 0, 1) := by decide +kernel
theorem dJ7_copyOf_9075b_23 : decode cJ7_copyOf_9075b 23 = .ok (.arraylength, 1) := by decide +kernel
theorem dJ7_copyOf_9075b_24 : decode cJ7_copyOf_9075b 24 = .ok (.iload_n 1, 1) := by decide +kernel
theorem dJ7_copyOf_9075b_25 : decode cJ7_copyOf_9075b 25 = .ok (.invokestatic 304, 3) := by decide +kernel
theorem dJ7_copyOf_9075b_28 : decode cJ7_copyOf_9075b 28 = .ok (.invokestatic 150, 3) := by decide +kernel
theorem dJ7_copyOf_9075b_31 : decode cJ7_copyOf_9075b 31 = .ok (.aload_n 2, 1) := by decide +kernel
theorem dJ7_copyOf_9075b_32 : decode cJ7_copyOf_9075b 32 = .ok (.areturn, 1) := by decide +kernel
theorem dJ7_checkLength_df160_0 : decode cJ7_checkLength_df160 0 = .ok (.iload_n 1, 1) := by decide +kernel
theorem dJ7_checkLength_df160_1 : decode cJ7_checkLength_df160 1 = .ok (.iload_n 0, 1) := by decide +kernel
theorem dJ7_checkLength_df160_2 : decode cJ7_checkLength_df160 2 = .ok (.if_icmp .ge 35, 3) := by decide +kernel
theorem dJ7_checkLength_df160_5 : decode cJ7_checkLength_df160 5 = .ok (.new 43, 3) := by decide +kernel
theorem dJ7_checkLength_df160_8 : decode cJ7_checkLength_df160 8 = .ok (.dup, 1) := by decide +kernel
theorem dJ7_checkLength_df160_9 : decode cJ7_checkLength_df160 9 = .ok (.new 45, 3) := by decide +kernel
theorem dJ7_checkLength_df160_12 : decode cJ7_checkLength_df160 12 = .ok (.dup, 1) := by decide +kernel
theorem dJ7_checkLength_df160_13 : decode cJ7_checkLength_df160 13 = .ok (.invokespecial 47, 3) := by decide +kernel
theorem dJ7_checkLength_df160_16 : decode cJ7_checkLength_df160 16 = .ok (.iload_n 0, 1) := by decide +kernel
theorem dJ7_checkLength_df160_17 : decode cJ7_checkLength_df160 17 = .ok (.invokevirtual 54, 3) := by decide +kernel
theorem dJ7_checkLength_df160_20 : decode cJ7_checkLength_df160 20 = .ok (.ldc_w 337, 3) := by decide +kernel
theorem dJ7_checkLength_df160_23 : decode cJ7_checkLength_df160 23 = .ok (.invokevirtual 50, 3) := by decide +kernel
theorem dJ7_checkLength_df160_26 : decode cJ7_checkLength_df160 26 = .ok (.iload_n 1, 1) := by decide +kernel
theorem dJ7_checkLength_df160_27 : decode cJ7_checkLength_df160 27 = .ok (.invokevirtual 54, 3) := by decide +kernel
theorem dJ7_checkLength_df160_30 : decode cJ7_checkLength_df160 30 = .ok (.invokevirtual 61, 3) := by decide +kernel
theorem dJ7_checkLength_df160_33 : decode cJ7_checkLength_df160 33 = .ok (.invokespecial 65, 3) := by decide +kernel
theorem dJ7_checkLength_df160_36 : decode cJ7_checkLength_df160 36 = .ok (.athrow, 1) := by decide +kernel
theorem dJ7_checkLength_df160_37 : decode cJ7_checkLength_df160 37 = .ok (.return_, 1) := by decide +kernel
theorem dJ7_copyOfRange_39247_0 : decode cJ7_copyOfRange_39247 0 = .ok (.iload_n 1, 1) := by decide +kernel
theorem dJ7_copyOfRange_39247_1 : decode cJ7_copyOfRange_39247 1 = .ok (.ifCond .ne 9, 3) := by decide +kernel
theorem dJ7_copyOfRange_39247_4 : decode cJ7_copyOfRange_39247 4 = .ok (.iload_n 2, 1) := by decide +kernel
theorem dJ7_copyOfRange_39247_5 : decode cJ7_copyOfRange_39247 5 = .ok (.aload_n 0, 1) := by decide +kernel
theorem dJ7_copyOfRange_39247_6 : decode cJ7_copyOfRange_39247 6 = .ok (.arraylength, 1) := by decide +kernel
theorem dJ7_copyOfRange_39247_7 : decode cJ7_copyOfRange_39247 7 = .ok (.if_icmp .eq 10, 3) := by decide +kernel
theorem dJ7_copyOfRange_39247_10 : decode cJ7_copyOfRange_39247 10 = .ok (.aload_n 0, 1) := by decide +kernel
theorem dJ7_copyOfRange_39247_11 : decode cJ7_copyOfRange_39247 11 = .ok (.iload_n 1, 1) := by decide +kernel
theorem dJ7_copyOfRange_39247_12 : decode cJ7_copyOfRange_39247 12 = .ok (.iload_n 2, 1) := by decide +kernel
theorem dJ7_copyOfRange_39247_13 : decode cJ7_copyOfRange_39247 13 = .ok (.invokestatic 339, 3) := by decide +kernel
theorem dJ7_copyOfRange_39247_16 : decode cJ7_copyOfRange_39247 16 = .ok (.areturn, 1) := by decide +kernel
theorem dJ7_copyOfRange_39247_17 : decode cJ7_copyOfRange_39247 17 = .ok (.aload_n 0, 1) := by decide +kernel
theorem dJ7_copyOfRange_39247_18 : decode cJ7_copyOfRange_39247 18 = .ok (.invokevirtual 310, 3) := by decide +kernel
theorem dJ7_copyOfRange_39247_21 : decode cJ7_copyOfRange_39247 21 = .ok (.checkcast 311, 3) := by decide +kernel
theorem dJ7_copyOfRange_39247_24 : decode cJ7_copyOfRange_39247 24 = .ok (.areturn, 1) := by decide +kernel
theorem dJ7_copyOfRangeByte_39247_0 : decode cJ7_copyOfRangeByte_39247 0 = .ok (.iload_n 1, 1) := by decide +kernel
theorem dJ7_copyOfRangeByte_39247_1 : decode cJ7_copyOfRangeByte_39247 1 = .ok (.iload_n 2, 1) := by decide +kernel
theorem dJ7_copyOfRangeByte_39247_2 : decode cJ7_copyOfRangeByte_39247 2 = .ok (.invokestatic 343, 3) := by decide +kernel
theorem dJ7_copyOfRangeByte_39247_5 : decode cJ7_copyOfRangeByte_39247 5 = .ok (.iload_n 2, 1) := by decide +kernel
theorem dJ7_copyOfRangeByte_39247_6 : decode cJ7_copyOfRangeByte_39247 6 = .ok (.iload_n 1, 1) := by decide +kernel
theorem dJ7_copyOfRangeByte_39247_7 : decode cJ7_copyOfRangeByte_39247 7 = .ok (.isub, 1) := by decide +kernel
theorem dJ7_copyOfRangeByte_39247_8 : decode cJ7_copyOfRangeByte_39247 8 = .ok (.istore_n 3, 1) := by decide +kernel
theorem dJ7_copyOfRangeByte_39247_9 : decode cJ7_copyOfRangeByte_39247 9 = .ok (.iload_n 3, 1) := by decide +kernel
theorem dJ7_copyOfRangeByte_39247_10 : decode cJ7_copyOfRangeByte_39247 10 = .ok (.newarray .byte, 2) := by decide +kernel
theorem dJ7_copyOfRangeByte_39247_12 : decode cJ7_copyOfRangeByte_39247 12 = .ok (.astore 4, 2) := by decide +kernel
theorem dJ7_copyOfRangeByte_39247_14 : decode cJ7_copyOfRangeByte_39247 14 = .ok (.aload_n 0, 1) := by decide +kernel
theorem dJ7_copyOfRangeByte_39247_15 : decode cJ7_copyOfRangeByte_39247 15 = .ok (.iload_n 1, 1) := by decide +kernel
theorem dJ7_copyOfRangeByte_39247_16 : decode cJ7_copyOfRangeByte_39247 16 = .ok (.aload 4, 2) := by decide +kernel
theorem dJ7_copyOfRangeByte_39247_18 : decode cJ7_copyOfRangeByte_39247 18 = .ok (.iconst 0, 1) := by decide +kernel
theorem dJ7_copyOfRangeByte_39247_19 : decode cJ7_copyOfRangeByte_39247 19 = .ok (.aload_n 0, 1) := by decide +kernel
theorem dJ7_copyOfRangeByte_39247_20 : decode cJ7_copyOfRangeByte_39247 20 = .ok (.arraylength, 1) := by decide +kernel
theorem dJ7_copyOfRangeByte_39247_21 : decode cJ7_copyOfRangeByte_39247 21 = .ok (.iload_n 1, 1) := by decide +kernel
theorem dJ7_copyOfRangeByte_39247_22 : decode cJ7_copyOfRangeByte_39247 22 = .ok (.isub, 1) := by decide +kernel
theorem dJ7_copyOfRangeByte_39247_23 : decode cJ7_copyOfRangeByte_39247 23 = .ok (.iload_n 3, 1) := by decide +kernel
theorem dJ7_copyOfRangeByte_39247_24 : decode cJ7_copyOfRangeByte_39247 24 = .ok (.invokestatic 304, 3) := by decide +kernel
theorem dJ7_copyOfRangeByte_39247_27 : decode cJ7_copyOfRangeByte_39247 27 = .ok (.invokestatic 150, 3) := by decide +kernel
theorem dJ7_copyOfRangeByte_39247_30 : decode cJ7_copyOfRangeByte_39247 30 = .ok (.aload 4, 2) := by decide +kernel
theorem dJ7_copyOfRangeByte_39247_32 : decode cJ7_copyOfRangeByte_39247 32 = .ok (.areturn, 1) := by decide +kernel
theorem dJ15_checkIndex_7cf53_0 : decode cJ15_checkIndex_7cf53 0 = .ok (.iload_n 0, 1) := by decide +kernel
theorem dJ15_checkIndex_7cf53_1 : decode cJ15_checkIndex_7cf53 1 = .ok (.iload_n 1, 1) := by decide +kernel
theorem dJ15_checkIndex_7cf53_2 : decode cJ15_checkIndex_7cf53 2 = .ok (.aconst_null, 1) := by decide +kernel
theorem dJ15_checkIndex_7cf53_3 : decode cJ15_checkIndex_7cf53 3 = .ok (.invokestatic 105, 3) := by decide +kernel
theorem dJ15_checkIndex_7cf53_6 : decode cJ15_checkIndex_7cf53 6 = .ok (.ireturn, 1) := by decide +kernel
theorem dJ8_newLength_cabcc_0 : decode cJ8_newLength_cabcc 0 = .ok (.iload_n 0, 1) := by decide +kernel
theorem dJ8_newLength_cabcc_1 : decode cJ8_newLength_cabcc 1 = .ok (.iload_n 1, 1) := by decide +kernel
theorem dJ8_newLength_cabcc_2 : decode cJ8_newLength_cabcc 2 = .ok (.iload_n 2, 1) := by decide +kernel
theorem dJ8_newLength_cabcc_3 : decode cJ8_newLength_cabcc 3 = .ok (.invokestatic 194, 3) := by decide +kernel
theorem dJ8_newLength_cabcc_6 : decode cJ8_newLength_cabcc 6 = .ok (.iadd, 1) := by decide +kernel
theorem dJ8_newLength_cabcc_7 : decode cJ8_newLength_cabcc 7 = .ok (.istore_n 3, 1) := by decide +kernel
theorem dJ8_newLength_cabcc_8 : decode cJ8_newLength_cabcc 8 = .ok (.iconst 0, 1) := by decide +kernel
theorem dJ8_newLength_cabcc_9 : decode cJ8_newLength_cabcc 9 = .ok (.iload_n 3, 1) := by decide +kernel
theorem dJ8_newLength_cabcc_10 : decode cJ8_newLength_cabcc 10 = .ok (.if_icmp .ge 11, 3) := by decide +kernel
theorem dJ8_newLength_cabcc_13 : decode cJ8_newLength_cabcc 13 = .ok (.iload_n 3, 1) := by decide +kernel
theorem dJ8_newLength_cabcc_14 : decode cJ8_newLength_cabcc 14 = .ok (.ldc 200, 2) := by decide +kernel
theorem dJ8_newLength_cabcc_16 : decode cJ8_newLength_cabcc 16 = .ok (.if_icmp .gt 5, 3) := by decide +kernel
theorem dJ8_newLength_cabcc_19 : decode cJ8_newLength_cabcc 19 = .ok (.iload_n 3, 1) := by decide +kernel
theorem dJ8_newLength_cabcc_20 : decode cJ8_newLength_cabcc 20 = .ok (.ireturn, 1) := by decide +kernel
theorem dJ8_newLength_cabcc_21 : decode cJ8_newLength_cabcc 21 = .ok (.iload_n 0, 1) := by decide +kernel
theorem dJ8_newLength_cabcc_22 : decode cJ8_newLength_cabcc 22 = .ok (.iload_n 1, 1) := by decide +kernel
theorem dJ8_newLength_cabcc_23 : decode cJ8_newLength_cabcc 23 = .ok (.invokestatic 201, 3) := by decide +kernel
theorem dJ8_newLength_cabcc_26 : decode cJ8_newLength_cabcc 26 = .ok (.ireturn, 1) := by decide +kernel
theorem dJ8_hugeLength_7cf53_0 : decode cJ8_hugeLength_7cf53 0 = .ok (.iload_n 0, 1) := by decide +kernel
theorem dJ8_hugeLength_7cf53_1 : decode cJ8_hugeLength_7cf53 1 = .ok (.iload_n 1, 1) := by decide +kernel
theorem dJ8_hugeLength_7cf53_2 : decode cJ8_hugeLength_7cf53 2 = .ok (.iadd, 1) := by decide +kernel
theorem dJ8_hugeLength_7cf53_3 : decode cJ8_hugeLength_7cf53 3 = .ok (.istore_n 2, 1) := by decide +kernel
theorem dJ8_hugeLength_7cf53_4 : decode cJ8_hugeLength_7cf53 4 = .ok (.iload_n 2, 1) := by decide +kernel
theorem dJ8_hugeLength_7cf53_5 : decode cJ8_hugeLength_7cf53 5 = .ok (.ifCond .ge 44, 3) := by decide +kernel
theorem dJ8_hugeLength_7cf53_8 : decode cJ8_hugeLength_7cf53 8 = .ok (.new 204, 3) := by decide +kernel
theorem dJ8_hugeLength_7cf53_11 : decode cJ8_hugeLength_7cf53 11 = .ok (.dup, 1) := by decide +kernel
theorem dJ8_hugeLength_7cf53_12 : decode cJ8_hugeLength_7cf53 12 = .ok (.new 89, 3) := by decide +kernel
theorem dJ8_hugeLength_7cf53_15 : decode cJ8_hugeLength_7cf53 15 = .ok (.dup, 1) := by decide +kernel
theorem dJ8_hugeLength_7cf53_16 : decode cJ8_hugeLength_7cf53 16 = .ok (.invokespecial 91, 3) := by decide +kernel
theorem dJ8_hugeLength_7cf53_19 : decode cJ8_hugeLength_7cf53 19 = .ok (.ldc 206, 2) := by decide +kernel
theorem dJ8_hugeLength_7cf53_21 : decode cJ8_hugeLength_7cf53 21 = .ok (.invokevirtual 94, 3) := by decide +kernel
theorem dJ8_hugeLength_7cf53_24 : decode cJ8_hugeLength_7cf53 24 = .ok (.iload_n 0, 1) := by decide +kernel
theorem dJ8_hugeLength_7cf53_25 : decode cJ8_hugeLength_7cf53 25 = .ok (.invokevirtual 98, 3) := by decide +kernel
theorem dJ8_hugeLength_7cf53_28 : decode cJ8_hugeLength_7cf53 28 = .ok (.ldc 208, 2) := by decide +kernel
theorem dJ8_hugeLength_7cf53_30 : decode cJ8_hugeLength_7cf53 30 = .ok (.invokevirtual 94, 3) := by decide +kernel
theorem dJ8_hugeLength_7cf53_33 : decode cJ8_hugeLength_7cf53 33 = .ok (.iload_n 1, 1) := by decide +kernel
theorem dJ8_hugeLength_7cf53_34 : decode cJ8_hugeLength_7cf53 34 = .ok (.invokevirtual 98, 3) := by decide +kernel
theorem dJ8_hugeLength_7cf53_37 : decode cJ8_hugeLength_7cf53 37 = .ok (.ldc 210, 2) := by decide +kernel
theorem dJ8_hugeLength_7cf53_39 : decode cJ8_hugeLength_7cf53 39 = .ok (.invokevirtual 94, 3) := by decide +kernel
theorem dJ8_hugeLength_7cf53_42 : decode cJ8_hugeLength_7cf53 42 = .ok (.invokevirtual 101, 3) := by decide +kernel
theorem dJ8_hugeLength_7cf53_45 : decode cJ8_hugeLength_7cf53 45 = .ok (.invokespecial 212, 3) := by decide +kernel
theorem dJ8_hugeLength_7cf53_48 : decode cJ8_hugeLength_7cf53 48 = .ok (.athrow, 1) := by decide +kernel
theorem dJ8_hugeLength_7cf53_49 : decode cJ8_hugeLength_7cf53 49 = .ok (.iload_n 2, 1) := by decide +kernel
theorem dJ8_hugeLength_7cf53_50 : decode cJ8_hugeLength_7cf53 50 = .ok (.ldc 200, 2) := by decide +kernel
theorem dJ8_hugeLength_7cf53_52 : decode cJ8_hugeLength_7cf53 52 = .ok (.if_icmp .gt 6, 3) := by decide +kernel
theorem dJ8_hugeLength_7cf53_55 : decode cJ8_hugeLength_7cf53 55 = .ok (.ldc 200, 2) := by decide +kernel
theorem dJ8_hugeLength_7cf53_57 : decode cJ8_hugeLength_7cf53 57 = .ok (.ireturn, 1) := by decide +kernel
theorem dJ8_hugeLength_7cf53_58 : decode cJ8_hugeLength_7cf53 58 = .ok (.iload_n 2, 1) := by decide +kernel
theorem dJ8_hugeLength_7cf53_59 : decode cJ8_hugeLength_7cf53 59 = .ok (.ireturn, 1) := by decide +kernel
theorem dJ3_checkIndex_8e157_0 : decode cJ3_checkIndex_8e157 0 = .ok (.iload_n 0, 1) := by decide +kernel
theorem dJ3_checkIndex_8e157_1 : decode cJ3_checkIndex_8e157 1 = .ok (.ifCond .lt 8, 3) := by decide +kernel
theorem dJ3_checkIndex_8e157_4 : decode cJ3_checkIndex_8e157 4 = .ok (.iload_n 0, 1) := by decide +kernel
theorem dJ3_checkIndex_8e157_5 : decode cJ3_checkIndex_8e157 5 = .ok (.iload_n 1, 1) := by decide +kernel
theorem dJ3_checkIndex_8e157_6 : decode cJ3_checkIndex_8e157 6 = .ok (.if_icmp .lt 10, 3) := by decide +kernel
theorem dJ3_checkIndex_8e157_9 : decode cJ3_checkIndex_8e157 9 = .ok (.aload_n 2, 1) := by decide +kernel
theorem dJ3_checkIndex_8e157_10 : decode cJ3_checkIndex_8e157 10 = .ok (.iload_n 0, 1) := by decide +kernel
theorem dJ3_checkIndex_8e157_11 : decode cJ3_checkIndex_8e157 11 = .ok (.iload_n 1, 1) := by decide +kernel
theorem dJ3_checkIndex_8e157_12 : decode cJ3_checkIndex_8e157 12 = .ok (.invokestatic 95, 3) := by decide +kernel
theorem dJ3_checkIndex_8e157_15 : decode cJ3_checkIndex_8e157 15 = .ok (.athrow, 1) := by decide +kernel
theorem dJ3_checkIndex_8e157_16 : decode cJ3_checkIndex_8e157 16 = .ok (.iload_n 0, 1) := by decide +kernel
theorem dJ3_checkIndex_8e157_17 : decode cJ3_checkIndex_8e157 17 = .ok (.ireturn, 1) := by decide +kernel
theorem dJ3_checkFromToIndex_8c36e_0 : decode cJ3_checkFromToIndex_8c36e 0 = .ok (.iload_n 0, 1) := by decide +kernel
theorem dJ3_checkFromToIndex_8c36e_1 : decode cJ3_checkFromToIndex_8c36e 1 = .ok (.ifCond .lt 13, 3) := by decide +kernel
theorem dJ3_checkFromToIndex_8c36e_4 : decode cJ3_checkFromToIndex_8c36e 4 = .ok (.iload_n 0, 1) := by decide +kernel
theorem dJ3_checkFromToIndex_8c36e_5 : decode cJ3_checkFromToIndex_8c36e 5 = .ok (.iload_n 1, 1) := by decide +kernel
theorem dJ3_checkFromToIndex_8c36e_6 : decode cJ3_checkFromToIndex_8c36e 6 = .ok (.if_icmp .gt 8, 3) := by decide +kernel
theorem dJ3_checkFromToIndex_8c36e_9 : decode cJ3_checkFromToIndex_8c36e 9 = .ok (.iload_n 1, 1) := by decide +kernel
theorem dJ3_checkFromToIndex_8c36e_10 : decode cJ3_checkFromToIndex_8c36e 10 = .ok (.iload_n 2, 1) := by decide +kernel
theorem dJ3_checkFromToIndex_8c36e_11 : decode cJ3_checkFromToIndex_8c36e 11 = .ok (.if_icmp .le 11, 3) := by decide +kernel
theorem dJ3_checkFromToIndex_8c36e_14 : decode cJ3_checkFromToIndex_8c36e 14 = .ok (.aload_n 3, 1) := by decide +kernel
theorem dJ3_checkFromToIndex_8c36e_15 : decode cJ3_checkFromToIndex_8c36e 15 = .ok (.iload_n 0, 1) := by decide +kernel
theorem dJ3_checkFromToIndex_8c36e_16 : decode cJ3_checkFromToIndex_8c36e 16 = .ok (.iload_n 1, 1) := by decide +kernel
theorem dJ3_checkFromToIndex_8c36e_17 : decode cJ3_checkFromToIndex_8c36e 17 = .ok (.iload_n 2, 1) := by decide +kernel
theorem dJ3_checkFromToIndex_8c36e_18 : decode cJ3_checkFromToIndex_8c36e 18 = .ok (.invokestatic 99, 3) := by decide +kernel
theorem dJ3_checkFromToIndex_8c36e_21 : decode cJ3_checkFromToIndex_8c36e 21 = .ok (.athrow, 1) := by decide +kernel
theorem dJ3_checkFromToIndex_8c36e_22 : decode cJ3_checkFromToIndex_8c36e 22 = .ok (.iload_n 0, 1) := by decide +kernel
theorem dJ3_checkFromToIndex_8c36e_23 : decode cJ3_checkFromToIndex_8c36e 23 = .ok (.ireturn, 1) := by decide +kernel
theorem dJ3_checkFromIndexSize_8c36e_0 : decode cJ3_checkFromIndexSize_8c36e 0 = .ok (.iload_n 2, 1) := by decide +kernel
theorem dJ3_checkFromIndexSize_8c36e_1 : decode cJ3_checkFromIndexSize_8c36e 1 = .ok (.iload_n 0, 1) := by decide +kernel
theorem dJ3_checkFromIndexSize_8c36e_2 : decode cJ3_checkFromIndexSize_8c36e 2 = .ok (.ior, 1) := by decide +kernel
theorem dJ3_checkFromIndexSize_8c36e_3 : decode cJ3_checkFromIndexSize_8c36e 3 = .ok (.iload_n 1, 1) := by decide +kernel
theorem dJ3_checkFromIndexSize_8c36e_4 : decode cJ3_checkFromIndexSize_8c36e 4 = .ok (.ior, 1) := by decide +kernel
theorem dJ3_checkFromIndexSize_8c36e_5 : decode cJ3_checkFromIndexSize_8c36e 5 = .ok (.ifCond .lt 10, 3) := by decide +kernel
theorem dJ3_checkFromIndexSize_8c36e_8 : decode cJ3_checkFromIndexSize_8c36e 8 = .ok (.iload_n 1, 1) := by decide +kernel
theorem dJ3_checkFromIndexSize_8c36e_9 : decode cJ3_checkFromIndexSize_8c36e 9 = .ok (.iload_n 2, 1) := by decide +kernel
theorem dJ3_checkFromIndexSize_8c36e_10 : decode cJ3_checkFromIndexSize_8c36e 10 = .ok (.iload_n 0, 1) := by decide +kernel
theorem dJ3_checkFromIndexSize_8c36e_11 : decode cJ3_checkFromIndexSize_8c36e 11 = .ok (.isub, 1) := by decide +kernel
theorem dJ3_checkFromIndexSize_8c36e_12 : decode cJ3_checkFromIndexSize_8c36e 12 = .ok (.if_icmp .le 11, 3) := by decide +kernel
theorem dJ3_checkFromIndexSize_8c36e_15 : decode cJ3_checkFromIndexSize_8c36e 15 = .ok (.aload_n 3, 1) := by decide +kernel
theorem dJ3_checkFromIndexSize_8c36e_16 : decode cJ3_checkFromIndexSize_8c36e 16 = .ok (.iload_n 0, 1) := by decide +kernel
theorem dJ3_checkFromIndexSize_8c36e_17 : decode cJ3_checkFromIndexSize_8c36e 17 = .ok (.iload_n 1, 1) := by decide +kernel
theorem dJ3_checkFromIndexSize_8c36e_18 : decode cJ3_checkFromIndexSize_8c36e 18 = .ok (.iload_n 2, 1) := by decide +kernel
theorem dJ3_checkFromIndexSize_8c36e_19 : decode cJ3_checkFromIndexSize_8c36e 19 = .ok (.invokestatic 103, 3) := by decide +kernel
theorem dJ3_checkFromIndexSize_8c36e_22 : decode cJ3_checkFromIndexSize_8c36e 22 = .ok (.athrow, 1) := by decide +kernel
theorem dJ3_checkFromIndexSize_8c36e_23 : decode cJ3_checkFromIndexSize_8c36e 23 = .ok (.iload_n 0, 1) := by decide +kernel
theorem dJ3_checkFromIndexSize_8c36e_24 : decode cJ3_checkFromIndexSize_8c36e 24 = .ok (.ireturn, 1) := by decide +kernel
theorem dL_cell_0 : decode cL_cell 0 = .ok (.iload_n 1, 1) := by decide +kernel
theorem dL_cell_1 : decode cL_cell 1 = .ok (.aload_n 0, 1) := by decide +kernel
theorem dL_cell_2 : decode cL_cell 2 = .ok (.arraylength, 1) := by decide +kernel
theorem dL_cell_3 : decode cL_cell 3 = .ok (.if_icmp .ge 9, 3) := by decide +kernel
theorem dL_cell_6 : decode cL_cell 6 = .ok (.aload_n 0, 1) := by decide +kernel
theorem dL_cell_7 : decode cL_cell 7 = .ok (.iload_n 1, 1) := by decide +kernel
theorem dL_cell_8 : decode cL_cell 8 = .ok (.iaload, 1) := by decide +kernel
theorem dL_cell_9 : decode cL_cell 9 = .ok (.goto 11, 3) := by decide +kernel
theorem dL_cell_12 : decode cL_cell 12 = .ok (.ldc 7, 2) := by decide +kernel
theorem dL_cell_14 : decode cL_cell 14 = .ok (.iload_n 1, 1) := by decide +kernel
theorem dL_cell_15 : decode cL_cell 15 = .ok (.imul, 1) := by decide +kernel
theorem dL_cell_16 : decode cL_cell 16 = .ok (.sipush 2111, 3) := by decide +kernel
theorem dL_cell_19 : decode cL_cell 19 = .ok (.iadd, 1) := by decide +kernel
theorem dL_cell_20 : decode cL_cell 20 = .ok (.ireturn, 1) := by decide +kernel
theorem dL_low_0 : decode cL_low 0 = .ok (.iload_n 0, 1) := by decide +kernel
theorem dL_low_1 : decode cL_low 1 = .ok (.ldc 8, 2) := by decide +kernel
theorem dL_low_3 : decode cL_low 3 = .ok (.iand, 1) := by decide +kernel
theorem dL_low_4 : decode cL_low 4 = .ok (.iload_n 1, 1) := by decide +kernel
theorem dL_low_5 : decode cL_low 5 = .ok (.irem, 1) := by decide +kernel
theorem dL_low_6 : decode cL_low 6 = .ok (.ireturn, 1) := by decide +kernel
theorem dL_contracts_0 : decode cL_contracts 0 = .ok (.aload_n 0, 1) := by decide +kernel
theorem dL_contracts_1 : decode cL_contracts 1 = .ok (.iload_n 1, 1) := by decide +kernel
theorem dL_contracts_2 : decode cL_contracts 2 = .ok (.iload_n 2, 1) := by decide +kernel
theorem dL_contracts_3 : decode cL_contracts 3 = .ok (.iload_n 3, 1) := by decide +kernel
theorem dL_contracts_4 : decode cL_contracts 4 = .ok (.iload 4, 2) := by decide +kernel
theorem dL_contracts_6 : decode cL_contracts 6 = .ok (.iload 5, 2) := by decide +kernel
theorem dL_contracts_8 : decode cL_contracts 8 = .ok (.iload 6, 2) := by decide +kernel
theorem dL_contracts_10 : decode cL_contracts 10 = .ok (.iload 7, 2) := by decide +kernel
theorem dL_contracts_12 : decode cL_contracts 12 = .ok (.invokevirtual 9, 3) := by decide +kernel
theorem dL_contracts_15 : decode cL_contracts 15 = .ok (.ireturn, 1) := by decide +kernel
theorem dL_contracts_16 : decode cL_contracts 16 = .ok (.astore 8, 2) := by decide +kernel
theorem dL_contracts_18 : decode cL_contracts 18 = .ok (.bipush (-2), 2) := by decide +kernel
theorem dL_contracts_20 : decode cL_contracts 20 = .ok (.ireturn, 1) := by decide +kernel
theorem dL_contracts_21 : decode cL_contracts 21 = .ok (.astore 8, 2) := by decide +kernel
theorem dL_contracts_23 : decode cL_contracts 23 = .ok (.bipush (-3), 2) := by decide +kernel
theorem dL_contracts_25 : decode cL_contracts 25 = .ok (.ireturn, 1) := by decide +kernel
theorem dL_contracts_26 : decode cL_contracts 26 = .ok (.astore 8, 2) := by decide +kernel
theorem dL_contracts_28 : decode cL_contracts 28 = .ok (.bipush (-4), 2) := by decide +kernel
theorem dL_contracts_30 : decode cL_contracts 30 = .ok (.ireturn, 1) := by decide +kernel
theorem dL_shifts_0 : decode cL_shifts 0 = .ok (.aload_n 0, 1) := by decide +kernel
theorem dL_shifts_1 : decode cL_shifts 1 = .ok (.iload_n 1, 1) := by decide +kernel
theorem dL_shifts_2 : decode cL_shifts 2 = .ok (.iload_n 2, 1) := by decide +kernel
theorem dL_shifts_3 : decode cL_shifts 3 = .ok (.iload_n 3, 1) := by decide +kernel
theorem dL_shifts_4 : decode cL_shifts 4 = .ok (.iload 4, 2) := by decide +kernel
theorem dL_shifts_6 : decode cL_shifts 6 = .ok (.invokevirtual 21, 3) := by decide +kernel
theorem dL_shifts_9 : decode cL_shifts 9 = .ok (.ireturn, 1) := by decide +kernel
theorem dL_shifts_10 : decode cL_shifts 10 = .ok (.astore 5, 2) := by decide +kernel
theorem dL_shifts_12 : decode cL_shifts 12 = .ok (.bipush (-2), 2) := by decide +kernel
theorem dL_shifts_14 : decode cL_shifts 14 = .ok (.ireturn, 1) := by decide +kernel
theorem dL_shifts_15 : decode cL_shifts 15 = .ok (.astore 5, 2) := by decide +kernel
theorem dL_shifts_17 : decode cL_shifts 17 = .ok (.bipush (-3), 2) := by decide +kernel
theorem dL_shifts_19 : decode cL_shifts 19 = .ok (.ireturn, 1) := by decide +kernel
theorem dL_shifts_20 : decode cL_shifts 20 = .ok (.astore 5, 2) := by decide +kernel
theorem dL_shifts_22 : decode cL_shifts 22 = .ok (.bipush (-4), 2) := by decide +kernel
theorem dL_shifts_24 : decode cL_shifts 24 = .ok (.ireturn, 1) := by decide +kernel
theorem dL_leaves_0 : decode cL_leaves 0 = .ok (.aload_n 0, 1) := by decide +kernel
theorem dL_leaves_1 : decode cL_leaves 1 = .ok (.iload_n 1, 1) := by decide +kernel
theorem dL_leaves_2 : decode cL_leaves 2 = .ok (.iload_n 2, 1) := by decide +kernel
theorem dL_leaves_3 : decode cL_leaves 3 = .ok (.invokevirtual 25, 3) := by decide +kernel
theorem dL_leaves_6 : decode cL_leaves 6 = .ok (.ifCond .eq 7, 3) := by decide +kernel
theorem dL_leaves_9 : decode cL_leaves 9 = .ok (.iconst 1, 1) := by decide +kernel
theorem dL_leaves_10 : decode cL_leaves 10 = .ok (.goto 4, 3) := by decide +kernel
theorem dL_leaves_13 : decode cL_leaves 13 = .ok (.iconst 0, 1) := by decide +kernel
theorem dL_leaves_14 : decode cL_leaves 14 = .ok (.ireturn, 1) := by decide +kernel
theorem dL_leaves_15 : decode cL_leaves 15 = .ok (.astore_n 3, 1) := by decide +kernel
theorem dL_leaves_16 : decode cL_leaves 16 = .ok (.bipush (-2), 2) := by decide +kernel
theorem dL_leaves_18 : decode cL_leaves 18 = .ok (.ireturn, 1) := by decide +kernel
theorem dL_leaves_19 : decode cL_leaves 19 = .ok (.astore_n 3, 1) := by decide +kernel
theorem dL_leaves_20 : decode cL_leaves 20 = .ok (.bipush (-4), 2) := by decide +kernel
theorem dL_leaves_22 : decode cL_leaves 22 = .ok (.ireturn, 1) := by decide +kernel
theorem dL_words_0 : decode cL_words 0 = .ok (.aload_n 0, 1) := by decide +kernel
theorem dL_words_1 : decode cL_words 1 = .ok (.iload_n 1, 1) := by decide +kernel
theorem dL_words_2 : decode cL_words 2 = .ok (.iload_n 2, 1) := by decide +kernel
theorem dL_words_3 : decode cL_words 3 = .ok (.invokevirtual 29, 3) := by decide +kernel
theorem dL_words_6 : decode cL_words 6 = .ok (.ireturn, 1) := by decide +kernel
theorem dL_words_7 : decode cL_words 7 = .ok (.astore_n 3, 1) := by decide +kernel
theorem dL_words_8 : decode cL_words 8 = .ok (.bipush (-3), 2) := by decide +kernel
theorem dL_words_10 : decode cL_words 10 = .ok (.ireturn, 1) := by decide +kernel
theorem dL_words_11 : decode cL_words 11 = .ok (.astore_n 3, 1) := by decide +kernel
theorem dL_words_12 : decode cL_words 12 = .ok (.bipush (-4), 2) := by decide +kernel
theorem dL_words_14 : decode cL_words 14 = .ok (.ireturn, 1) := by decide +kernel
theorem dL_elements_0 : decode cL_elements 0 = .ok (.aload_n 0, 1) := by decide +kernel
theorem dL_elements_1 : decode cL_elements 1 = .ok (.iload_n 1, 1) := by decide +kernel
theorem dL_elements_2 : decode cL_elements 2 = .ok (.iload_n 2, 1) := by decide +kernel
theorem dL_elements_3 : decode cL_elements 3 = .ok (.invokevirtual 33, 3) := by decide +kernel
theorem dL_elements_6 : decode cL_elements 6 = .ok (.ireturn, 1) := by decide +kernel
theorem dL_elements_7 : decode cL_elements 7 = .ok (.astore_n 3, 1) := by decide +kernel
theorem dL_elements_8 : decode cL_elements 8 = .ok (.bipush (-2), 2) := by decide +kernel
theorem dL_elements_10 : decode cL_elements 10 = .ok (.ireturn, 1) := by decide +kernel
theorem dL_elements_11 : decode cL_elements 11 = .ok (.astore_n 3, 1) := by decide +kernel
theorem dL_elements_12 : decode cL_elements 12 = .ok (.bipush (-3), 2) := by decide +kernel
theorem dL_elements_14 : decode cL_elements 14 = .ok (.ireturn, 1) := by decide +kernel
theorem dL_elements_15 : decode cL_elements 15 = .ok (.astore_n 3, 1) := by decide +kernel
theorem dL_elements_16 : decode cL_elements 16 = .ok (.bipush (-4), 2) := by decide +kernel
theorem dL_elements_18 : decode cL_elements 18 = .ok (.ireturn, 1) := by decide +kernel
theorem dL_brackets_0 : decode cL_brackets 0 = .ok (.aload_n 0, 1) := by decide +kernel
theorem dL_brackets_1 : decode cL_brackets 1 = .ok (.iload_n 1, 1) := by decide +kernel
theorem dL_brackets_2 : decode cL_brackets 2 = .ok (.iload_n 2, 1) := by decide +kernel
theorem dL_brackets_3 : decode cL_brackets 3 = .ok (.iload_n 3, 1) := by decide +kernel
theorem dL_brackets_4 : decode cL_brackets 4 = .ok (.iload 4, 2) := by decide +kernel
theorem dL_brackets_6 : decode cL_brackets 6 = .ok (.iload 5, 2) := by decide +kernel
theorem dL_brackets_8 : decode cL_brackets 8 = .ok (.invokevirtual 36, 3) := by decide +kernel
theorem dL_brackets_11 : decode cL_brackets 11 = .ok (.ireturn, 1) := by decide +kernel
theorem dL_brackets_12 : decode cL_brackets 12 = .ok (.astore 6, 2) := by decide +kernel
theorem dL_brackets_14 : decode cL_brackets 14 = .ok (.bipush (-2), 2) := by decide +kernel
theorem dL_brackets_16 : decode cL_brackets 16 = .ok (.ireturn, 1) := by decide +kernel
theorem dL_brackets_17 : decode cL_brackets 17 = .ok (.astore 6, 2) := by decide +kernel
theorem dL_brackets_19 : decode cL_brackets 19 = .ok (.bipush (-3), 2) := by decide +kernel
theorem dL_brackets_21 : decode cL_brackets 21 = .ok (.ireturn, 1) := by decide +kernel
theorem dL_brackets_22 : decode cL_brackets 22 = .ok (.astore 6, 2) := by decide +kernel
theorem dL_brackets_24 : decode cL_brackets 24 = .ok (.bipush (-4), 2) := by decide +kernel
theorem dL_brackets_26 : decode cL_brackets 26 = .ok (.ireturn, 1) := by decide +kernel
theorem dL_garnishes_0 : decode cL_garnishes 0 = .ok (.aload_n 0, 1) := by decide +kernel
theorem dL_garnishes_1 : decode cL_garnishes 1 = .ok (.iload_n 1, 1) := by decide +kernel
theorem dL_garnishes_2 : decode cL_garnishes 2 = .ok (.iload_n 2, 1) := by decide +kernel
theorem dL_garnishes_3 : decode cL_garnishes 3 = .ok (.iload_n 3, 1) := by decide +kernel
theorem dL_garnishes_4 : decode cL_garnishes 4 = .ok (.iload 4, 2) := by decide +kernel
theorem dL_garnishes_6 : decode cL_garnishes 6 = .ok (.iload 5, 2) := by decide +kernel
theorem dL_garnishes_8 : decode cL_garnishes 8 = .ok (.iload 6, 2) := by decide +kernel
theorem dL_garnishes_10 : decode cL_garnishes 10 = .ok (.invokevirtual 40, 3) := by decide +kernel
theorem dL_garnishes_13 : decode cL_garnishes 13 = .ok (.ireturn, 1) := by decide +kernel
theorem dL_garnishes_14 : decode cL_garnishes 14 = .ok (.astore 7, 2) := by decide +kernel
theorem dL_garnishes_16 : decode cL_garnishes 16 = .ok (.bipush (-2), 2) := by decide +kernel
theorem dL_garnishes_18 : decode cL_garnishes 18 = .ok (.ireturn, 1) := by decide +kernel
theorem dL_garnishes_19 : decode cL_garnishes 19 = .ok (.astore 7, 2) := by decide +kernel
theorem dL_garnishes_21 : decode cL_garnishes 21 = .ok (.bipush (-3), 2) := by decide +kernel
theorem dL_garnishes_23 : decode cL_garnishes 23 = .ok (.ireturn, 1) := by decide +kernel
theorem dL_garnishes_24 : decode cL_garnishes 24 = .ok (.astore 7, 2) := by decide +kernel
theorem dL_garnishes_26 : decode cL_garnishes 26 = .ok (.bipush (-4), 2) := by decide +kernel
theorem dL_garnishes_28 : decode cL_garnishes 28 = .ok (.ireturn, 1) := by decide +kernel
theorem dL_advances_0 : decode cL_advances 0 = .ok (.aload_n 0, 1) := by decide +kernel
theorem dL_advances_1 : decode cL_advances 1 = .ok (.iload_n 1, 1) := by decide +kernel
theorem dL_advances_2 : decode cL_advances 2 = .ok (.iload_n 2, 1) := by decide +kernel
theorem dL_advances_3 : decode cL_advances 3 = .ok (.invokevirtual 44, 3) := by decide +kernel
theorem dL_advances_6 : decode cL_advances 6 = .ok (.lreturn, 1) := by decide +kernel
theorem dL_advances_7 : decode cL_advances 7 = .ok (.astore_n 3, 1) := by decide +kernel
theorem dL_advances_8 : decode cL_advances 8 = .ok (.ldc2_w 48, 3) := by decide +kernel
theorem dL_advances_11 : decode cL_advances 11 = .ok (.lreturn, 1) := by decide +kernel
theorem dL_advances_12 : decode cL_advances 12 = .ok (.astore_n 3, 1) := by decide +kernel
theorem dL_advances_13 : decode cL_advances 13 = .ok (.ldc2_w 50, 3) := by decide +kernel
theorem dL_advances_16 : decode cL_advances 16 = .ok (.lreturn, 1) := by decide +kernel
theorem dL_advances_17 : decode cL_advances 17 = .ok (.astore_n 3, 1) := by decide +kernel
theorem dL_advances_18 : decode cL_advances 18 = .ok (.ldc2_w 52, 3) := by decide +kernel
theorem dL_advances_21 : decode cL_advances 21 = .ok (.lreturn, 1) := by decide +kernel
theorem dL_back_0 : decode cL_back 0 = .ok (.aload_n 0, 1) := by decide +kernel
theorem dL_back_1 : decode cL_back 1 = .ok (.iload_n 1, 1) := by decide +kernel
theorem dL_back_2 : decode cL_back 2 = .ok (.invokevirtual 54, 3) := by decide +kernel
theorem dL_back_5 : decode cL_back 5 = .ok (.lreturn, 1) := by decide +kernel
theorem dL_back_6 : decode cL_back 6 = .ok (.astore_n 2, 1) := by decide +kernel
theorem dL_back_7 : decode cL_back 7 = .ok (.ldc2_w 48, 3) := by decide +kernel
theorem dL_back_10 : decode cL_back 10 = .ok (.lreturn, 1) := by decide +kernel
theorem dL_back_11 : decode cL_back 11 = .ok (.astore_n 2, 1) := by decide +kernel
theorem dL_back_12 : decode cL_back 12 = .ok (.ldc2_w 52, 3) := by decide +kernel
theorem dL_back_15 : decode cL_back 15 = .ok (.lreturn, 1) := by decide +kernel
theorem dL_tell_0 : decode cL_tell 0 = .ok (.bipush 24, 2) := by decide +kernel
theorem dL_tell_2 : decode cL_tell 2 = .ok (.newarray .int, 2) := by decide +kernel
theorem dL_tell_4 : decode cL_tell 4 = .ok (.astore_n 1, 1) := by decide +kernel
theorem dL_tell_5 : decode cL_tell 5 = .ok (.iconst 0, 1) := by decide +kernel
theorem dL_tell_6 : decode cL_tell 6 = .ok (.istore_n 2, 1) := by decide +kernel
theorem dL_tell_7 : decode cL_tell 7 = .ok (.iload_n 2, 1) := by decide +kernel
theorem dL_tell_8 : decode cL_tell 8 = .ok (.iconst 3, 1) := by decide +kernel
theorem dL_tell_9 : decode cL_tell 9 = .ok (.if_icmp .ge 75, 3) := by decide +kernel
theorem dL_tell_12 : decode cL_tell 12 = .ok (.aload_n 1, 1) := by decide +kernel
theorem dL_tell_13 : decode cL_tell 13 = .ok (.iload_n 2, 1) := by decide +kernel
theorem dL_tell_14 : decode cL_tell 14 = .ok (.aload_n 0, 1) := by decide +kernel
theorem dL_tell_15 : decode cL_tell 15 = .ok (.iload_n 2, 1) := by decide +kernel
theorem dL_tell_16 : decode cL_tell 16 = .ok (.invokevirtual 58, 3) := by decide +kernel
theorem dL_tell_19 : decode cL_tell 19 = .ok (.l2i, 1) := by decide +kernel
theorem dL_tell_20 : decode cL_tell 20 = .ok (.iastore, 1) := by decide +kernel
theorem dL_tell_21 : decode cL_tell 21 = .ok (.aload_n 1, 1) := by decide +kernel
theorem dL_tell_22 : decode cL_tell 22 = .ok (.iconst 3, 1) := by decide +kernel
theorem dL_tell_23 : decode cL_tell 23 = .ok (.iload_n 2, 1) := by decide +kernel
theorem dL_tell_24 : decode cL_tell 24 = .ok (.iadd, 1) := by decide +kernel
theorem dL_tell_25 : decode cL_tell 25 = .ok (.aload_n 0, 1) := by decide +kernel
theorem dL_tell_26 : decode cL_tell 26 = .ok (.iload_n 2, 1) := by decide +kernel
theorem dL_tell_27 : decode cL_tell 27 = .ok (.iconst 3, 1) := by decide +kernel
theorem dL_tell_28 : decode cL_tell 28 = .ok (.iconst 4, 1) := by decide +kernel
theorem dL_tell_29 : decode cL_tell 29 = .ok (.invokevirtual 61, 3) := by decide +kernel
theorem dL_tell_32 : decode cL_tell 32 = .ok (.l2i, 1) := by decide +kernel
theorem dL_tell_33 : decode cL_tell 33 = .ok (.iastore, 1) := by decide +kernel
theorem dL_tell_34 : decode cL_tell 34 = .ok (.aload_n 1, 1) := by decide +kernel
theorem dL_tell_35 : decode cL_tell 35 = .ok (.bipush 6, 2) := by decide +kernel
theorem dL_tell_37 : decode cL_tell 37 = .ok (.iload_n 2, 1) := by decide +kernel
theorem dL_tell_38 : decode cL_tell 38 = .ok (.iadd, 1) := by decide +kernel
theorem dL_tell_39 : decode cL_tell 39 = .ok (.aload_n 0, 1) := by decide +kernel
theorem dL_tell_40 : decode cL_tell 40 = .ok (.iload_n 2, 1) := by decide +kernel
theorem dL_tell_41 : decode cL_tell 41 = .ok (.sipush 400, 3) := by decide +kernel
theorem dL_tell_44 : decode cL_tell 44 = .ok (.invokevirtual 65, 3) := by decide +kernel
theorem dL_tell_47 : decode cL_tell 47 = .ok (.iastore, 1) := by decide +kernel
theorem dL_tell_48 : decode cL_tell 48 = .ok (.aload_n 1, 1) := by decide +kernel
theorem dL_tell_49 : decode cL_tell 49 = .ok (.bipush 9, 2) := by decide +kernel
theorem dL_tell_51 : decode cL_tell 51 = .ok (.iload_n 2, 1) := by decide +kernel
theorem dL_tell_52 : decode cL_tell 52 = .ok (.iadd, 1) := by decide +kernel
theorem dL_tell_53 : decode cL_tell 53 = .ok (.aload_n 0, 1) := by decide +kernel
theorem dL_tell_54 : decode cL_tell 54 = .ok (.iload_n 2, 1) := by decide +kernel
theorem dL_tell_55 : decode cL_tell 55 = .ok (.iconst 1, 1) := by decide +kernel
theorem dL_tell_56 : decode cL_tell 56 = .ok (.iconst 1, 1) := by decide +kernel
theorem dL_tell_57 : decode cL_tell 57 = .ok (.invokevirtual 68, 3) := by decide +kernel
theorem dL_tell_60 : decode cL_tell 60 = .ok (.l2i, 1) := by decide +kernel
theorem dL_tell_61 : decode cL_tell 61 = .ok (.iastore, 1) := by decide +kernel
theorem dL_tell_62 : decode cL_tell 62 = .ok (.aload_n 1, 1) := by decide +kernel
theorem dL_tell_63 : decode cL_tell 63 = .ok (.bipush 12, 2) := by decide +kernel
theorem dL_tell_65 : decode cL_tell 65 = .ok (.iload_n 2, 1) := by decide +kernel
theorem dL_tell_66 : decode cL_tell 66 = .ok (.iadd, 1) := by decide +kernel
theorem dL_tell_67 : decode cL_tell 67 = .ok (.aload_n 0, 1) := by decide +kernel
theorem dL_tell_68 : decode cL_tell 68 = .ok (.iload_n 2, 1) := by decide +kernel
theorem dL_tell_69 : decode cL_tell 69 = .ok (.bipush 13, 2) := by decide +kernel
theorem dL_tell_71 : decode cL_tell 71 = .ok (.bipush 6, 2) := by decide +kernel
theorem dL_tell_73 : decode cL_tell 73 = .ok (.invokevirtual 61, 3) := by decide +kernel
theorem dL_tell_76 : decode cL_tell 76 = .ok (.l2i, 1) := by decide +kernel
theorem dL_tell_77 : decode cL_tell 77 = .ok (.iastore, 1) := by decide +kernel
theorem dL_tell_78 : decode cL_tell 78 = .ok (.iinc 2 1, 3) := by decide +kernel
theorem dL_tell_81 : decode cL_tell 81 = .ok (.goto (-74), 3) := by decide +kernel
theorem dL_tell_84 : decode cL_tell 84 = .ok (.aload_n 1, 1) := by decide +kernel
theorem dL_tell_85 : decode cL_tell 85 = .ok (.bipush 15, 2) := by decide +kernel
theorem dL_tell_87 : decode cL_tell 87 = .ok (.aload_n 0, 1) := by decide +kernel
theorem dL_tell_88 : decode cL_tell 88 = .ok (.invokevirtual 72, 3) := by decide +kernel
theorem dL_tell_91 : decode cL_tell 91 = .ok (.iastore, 1) := by decide +kernel
theorem dL_tell_92 : decode cL_tell 92 = .ok (.aload_n 1, 1) := by decide +kernel
theorem dL_tell_93 : decode cL_tell 93 = .ok (.bipush 16, 2) := by decide +kernel
theorem dL_tell_95 : decode cL_tell 95 = .ok (.aload_n 0, 1) := by decide +kernel
theorem dL_tell_96 : decode cL_tell 96 = .ok (.invokevirtual 76, 3) := by decide +kernel
theorem dL_tell_99 : decode cL_tell 99 = .ok (.iastore, 1) := by decide +kernel
theorem dL_tell_100 : decode cL_tell 100 = .ok (.aload_n 1, 1) := by decide +kernel
theorem dL_tell_101 : decode cL_tell 101 = .ok (.areturn, 1) := by decide +kernel
theorem dL_same_0 : decode cL_same 0 = .ok (.iconst 0, 1) := by decide +kernel
theorem dL_same_1 : decode cL_same 1 = .ok (.istore_n 2, 1) := by decide +kernel
theorem dL_same_2 : decode cL_same 2 = .ok (.iload_n 2, 1) := by decide +kernel
theorem dL_same_3 : decode cL_same 3 = .ok (.bipush 24, 2) := by decide +kernel
theorem dL_same_5 : decode cL_same 5 = .ok (.if_icmp .ge 20, 3) := by decide +kernel
theorem dL_same_8 : decode cL_same 8 = .ok (.aload_n 0, 1) := by decide +kernel
theorem dL_same_9 : decode cL_same 9 = .ok (.iload_n 2, 1) := by decide +kernel
theorem dL_same_10 : decode cL_same 10 = .ok (.iaload, 1) := by decide +kernel
theorem dL_same_11 : decode cL_same 11 = .ok (.aload_n 1, 1) := by decide +kernel
theorem dL_same_12 : decode cL_same 12 = .ok (.iload_n 2, 1) := by decide +kernel
theorem dL_same_13 : decode cL_same 13 = .ok (.iaload, 1) := by decide +kernel
theorem dL_same_14 : decode cL_same 14 = .ok (.if_icmp .eq 5, 3) := by decide +kernel
theorem dL_same_17 : decode cL_same 17 = .ok (.iconst 0, 1) := by decide +kernel
theorem dL_same_18 : decode cL_same 18 = .ok (.ireturn, 1) := by decide +kernel
theorem dL_same_19 : decode cL_same 19 = .ok (.iinc 2 1, 3) := by decide +kernel
theorem dL_same_22 : decode cL_same 22 = .ok (.goto (-20), 3) := by decide +kernel
theorem dL_same_25 : decode cL_same 25 = .ok (.iconst 1, 1) := by decide +kernel
theorem dL_same_26 : decode cL_same 26 = .ok (.ireturn, 1) := by decide +kernel
theorem dL_asks_0 : decode cL_asks 0 = .ok (.lconst 0, 1) := by decide +kernel
theorem dL_asks_1 : decode cL_asks 1 = .ok (.lstore_n 3, 1) := by decide +kernel
theorem dL_asks_2 : decode cL_asks 2 = .ok (.iconst 0, 1) := by decide +kernel
theorem dL_asks_3 : decode cL_asks 3 = .ok (.istore 5, 2) := by decide +kernel
theorem dL_asks_5 : decode cL_asks 5 = .ok (.iload 5, 2) := by decide +kernel
theorem dL_asks_7 : decode cL_asks 7 = .ok (.iconst 3, 1) := by decide +kernel
theorem dL_asks_8 : decode cL_asks 8 = .ok (.if_icmp .ge 510, 3) := by decide +kernel
theorem dL_asks_11 : decode cL_asks 11 = .ok (.lconst 0, 1) := by decide +kernel
theorem dL_asks_12 : decode cL_asks 12 = .ok (.lstore 6, 2) := by decide +kernel
theorem dL_asks_14 : decode cL_asks 14 = .ok (.iload_n 1, 1) := by decide +kernel
theorem dL_asks_15 : decode cL_asks 15 = .ok (.iconst 2, 1) := by decide +kernel
theorem dL_asks_16 : decode cL_asks 16 = .ok (.iload 5, 2) := by decide +kernel
theorem dL_asks_18 : decode cL_asks 18 = .ok (.imul, 1) := by decide +kernel
theorem dL_asks_19 : decode cL_asks 19 = .ok (.ishr, 1) := by decide +kernel
theorem dL_asks_20 : decode cL_asks 20 = .ok (.bipush 24, 2) := by decide +kernel
theorem dL_asks_22 : decode cL_asks 22 = .ok (.invokestatic 79, 3) := by decide +kernel
theorem dL_asks_25 : decode cL_asks 25 = .ok (.istore 8, 2) := by decide +kernel
theorem dL_asks_27 : decode cL_asks 27 = .ok (.aload_n 0, 1) := by decide +kernel
theorem dL_asks_28 : decode cL_asks 28 = .ok (.iload 5, 2) := by decide +kernel
theorem dL_asks_30 : decode cL_asks 30 = .ok (.iload 8, 2) := by decide +kernel
theorem dL_asks_32 : decode cL_asks 32 = .ok (.iconst 0, 1) := by decide +kernel
theorem dL_asks_33 : decode cL_asks 33 = .ok (.iconst 0, 1) := by decide +kernel
theorem dL_asks_34 : decode cL_asks 34 = .ok (.invokevirtual 84, 3) := by decide +kernel
theorem dL_asks_37 : decode cL_asks 37 = .ok (.aload_n 0, 1) := by decide +kernel
theorem dL_asks_38 : decode cL_asks 38 = .ok (.iload 5, 2) := by decide +kernel
theorem dL_asks_40 : decode cL_asks 40 = .ok (.iload 8, 2) := by decide +kernel
theorem dL_asks_42 : decode cL_asks 42 = .ok (.iconst 1, 1) := by decide +kernel
theorem dL_asks_43 : decode cL_asks 43 = .ok (.iconst 0, 1) := by decide +kernel
theorem dL_asks_44 : decode cL_asks 44 = .ok (.invokevirtual 84, 3) := by decide +kernel
theorem dL_asks_47 : decode cL_asks 47 = .ok (.ladd, 1) := by decide +kernel
theorem dL_asks_48 : decode cL_asks 48 = .ok (.aload_n 0, 1) := by decide +kernel
theorem dL_asks_49 : decode cL_asks 49 = .ok (.iload 5, 2) := by decide +kernel
theorem dL_asks_51 : decode cL_asks 51 = .ok (.iload 8, 2) := by decide +kernel
theorem dL_asks_53 : decode cL_asks 53 = .ok (.iconst 2, 1) := by decide +kernel
theorem dL_asks_54 : decode cL_asks 54 = .ok (.iconst 0, 1) := by decide +kernel
theorem dL_asks_55 : decode cL_asks 55 = .ok (.invokevirtual 84, 3) := by decide +kernel
theorem dL_asks_58 : decode cL_asks 58 = .ok (.ladd, 1) := by decide +kernel
theorem dL_asks_59 : decode cL_asks 59 = .ok (.lstore 9, 2) := by decide +kernel
theorem dL_asks_61 : decode cL_asks 61 = .ok (.aload_n 0, 1) := by decide +kernel
theorem dL_asks_62 : decode cL_asks 62 = .ok (.iload 5, 2) := by decide +kernel
theorem dL_asks_64 : decode cL_asks 64 = .ok (.iload 8, 2) := by decide +kernel
theorem dL_asks_66 : decode cL_asks 66 = .ok (.iconst 0, 1) := by decide +kernel
theorem dL_asks_67 : decode cL_asks 67 = .ok (.iconst 1, 1) := by decide +kernel
theorem dL_asks_68 : decode cL_asks 68 = .ok (.invokevirtual 84, 3) := by decide +kernel
theorem dL_asks_71 : decode cL_asks 71 = .ok (.aload_n 0, 1) := by decide +kernel
theorem dL_asks_72 : decode cL_asks 72 = .ok (.iload 5, 2) := by decide +kernel
theorem dL_asks_74 : decode cL_asks 74 = .ok (.iload 8, 2) := by decide +kernel
theorem dL_asks_76 : decode cL_asks 76 = .ok (.iconst 1, 1) := by decide +kernel
theorem dL_asks_77 : decode cL_asks 77 = .ok (.iconst 1, 1) := by decide +kernel
theorem dL_asks_78 : decode cL_asks 78 = .ok (.invokevirtual 84, 3) := by decide +kernel
theorem dL_asks_81 : decode cL_asks 81 = .ok (.ladd, 1) := by decide +kernel
theorem dL_asks_82 : decode cL_asks 82 = .ok (.aload_n 0, 1) := by decide +kernel
theorem dL_asks_83 : decode cL_asks 83 = .ok (.iload 5, 2) := by decide +kernel
theorem dL_asks_85 : decode cL_asks 85 = .ok (.iload 8, 2) := by decide +kernel
theorem dL_asks_87 : decode cL_asks 87 = .ok (.iconst 2, 1) := by decide +kernel
theorem dL_asks_88 : decode cL_asks 88 = .ok (.iconst 1, 1) := by decide +kernel
theorem dL_asks_89 : decode cL_asks 89 = .ok (.invokevirtual 84, 3) := by decide +kernel
theorem dL_asks_92 : decode cL_asks 92 = .ok (.ladd, 1) := by decide +kernel
theorem dL_asks_93 : decode cL_asks 93 = .ok (.lstore 11, 2) := by decide +kernel
theorem dL_asks_95 : decode cL_asks 95 = .ok (.aload_n 0, 1) := by decide +kernel
theorem dL_asks_96 : decode cL_asks 96 = .ok (.iload 5, 2) := by decide +kernel
theorem dL_asks_98 : decode cL_asks 98 = .ok (.iload 8, 2) := by decide +kernel
theorem dL_asks_100 : decode cL_asks 100 = .ok (.iconst 0, 1) := by decide +kernel
theorem dL_asks_101 : decode cL_asks 101 = .ok (.iconst 3, 1) := by decide +kernel
theorem dL_asks_102 : decode cL_asks 102 = .ok (.invokevirtual 84, 3) := by decide +kernel
theorem dL_asks_105 : decode cL_asks 105 = .ok (.aload_n 0, 1) := by decide +kernel
theorem dL_asks_106 : decode cL_asks 106 = .ok (.iload 5, 2) := by decide +kernel
theorem dL_asks_108 : decode cL_asks 108 = .ok (.iload 8, 2) := by decide +kernel
theorem dL_asks_110 : decode cL_asks 110 = .ok (.iconst 1, 1) := by decide +kernel
theorem dL_asks_111 : decode cL_asks 111 = .ok (.iconst 3, 1) := by decide +kernel
theorem dL_asks_112 : decode cL_asks 112 = .ok (.invokevirtual 84, 3) := by decide +kernel
theorem dL_asks_115 : decode cL_asks 115 = .ok (.ladd, 1) := by decide +kernel
theorem dL_asks_116 : decode cL_asks 116 = .ok (.aload_n 0, 1) := by decide +kernel
theorem dL_asks_117 : decode cL_asks 117 = .ok (.iload 5, 2) := by decide +kernel
theorem dL_asks_119 : decode cL_asks 119 = .ok (.iload 8, 2) := by decide +kernel
theorem dL_asks_121 : decode cL_asks 121 = .ok (.iconst 2, 1) := by decide +kernel
theorem dL_asks_122 : decode cL_asks 122 = .ok (.iconst 3, 1) := by decide +kernel
theorem dL_asks_123 : decode cL_asks 123 = .ok (.invokevirtual 84, 3) := by decide +kernel
theorem dL_asks_126 : decode cL_asks 126 = .ok (.ladd, 1) := by decide +kernel
theorem dL_asks_127 : decode cL_asks 127 = .ok (.lstore 13, 2) := by decide +kernel
theorem dL_asks_129 : decode cL_asks 129 = .ok (.aload_n 0, 1) := by decide +kernel
theorem dL_asks_130 : decode cL_asks 130 = .ok (.iload 5, 2) := by decide +kernel
theorem dL_asks_132 : decode cL_asks 132 = .ok (.iload 8, 2) := by decide +kernel
theorem dL_asks_134 : decode cL_asks 134 = .ok (.iconst 4, 1) := by decide +kernel
theorem dL_asks_135 : decode cL_asks 135 = .ok (.invokevirtual 61, 3) := by decide +kernel
theorem dL_asks_138 : decode cL_asks 138 = .ok (.lstore 15, 2) := by decide +kernel
theorem dL_asks_140 : decode cL_asks 140 = .ok (.lload 9, 2) := by decide +kernel
theorem dL_asks_142 : decode cL_asks 142 = .ok (.aload_n 0, 1) := by decide +kernel
theorem dL_asks_143 : decode cL_asks 143 = .ok (.iload 5, 2) := by decide +kernel
theorem dL_asks_145 : decode cL_asks 145 = .ok (.iload 8, 2) := by decide +kernel
theorem dL_asks_147 : decode cL_asks 147 = .ok (.iconst 0, 1) := by decide +kernel
theorem dL_asks_148 : decode cL_asks 148 = .ok (.invokevirtual 61, 3) := by decide +kernel
theorem dL_asks_151 : decode cL_asks 151 = .ok (.lcmp, 1) := by decide +kernel
theorem dL_asks_152 : decode cL_asks 152 = .ok (.ifCond .ne 57, 3) := by decide +kernel
theorem dL_asks_155 : decode cL_asks 155 = .ok (.lload 11, 2) := by decide +kernel
theorem dL_asks_157 : decode cL_asks 157 = .ok (.aload_n 0, 1) := by decide +kernel
theorem dL_asks_158 : decode cL_asks 158 = .ok (.iload 5, 2) := by decide +kernel
theorem dL_asks_160 : decode cL_asks 160 = .ok (.iload 8, 2) := by decide +kernel
theorem dL_asks_162 : decode cL_asks 162 = .ok (.iconst 1, 1) := by decide +kernel
theorem dL_asks_163 : decode cL_asks 163 = .ok (.invokevirtual 61, 3) := by decide +kernel
theorem dL_asks_166 : decode cL_asks 166 = .ok (.lcmp, 1) := by decide +kernel
theorem dL_asks_167 : decode cL_asks 167 = .ok (.ifCond .ne 42, 3) := by decide +kernel
theorem dL_asks_170 : decode cL_asks 170 = .ok (.lload 13, 2) := by decide +kernel
theorem dL_asks_172 : decode cL_asks 172 = .ok (.aload_n 0, 1) := by decide +kernel
theorem dL_asks_173 : decode cL_asks 173 = .ok (.iload 5, 2) := by decide +kernel
theorem dL_asks_175 : decode cL_asks 175 = .ok (.iload 8, 2) := by decide +kernel
theorem dL_asks_177 : decode cL_asks 177 = .ok (.iconst 3, 1) := by decide +kernel
theorem dL_asks_178 : decode cL_asks 178 = .ok (.invokevirtual 61, 3) := by decide +kernel
theorem dL_asks_181 : decode cL_asks 181 = .ok (.lcmp, 1) := by decide +kernel
theorem dL_asks_182 : decode cL_asks 182 = .ok (.ifCond .ne 27, 3) := by decide +kernel
theorem dL_asks_185 : decode cL_asks 185 = .ok (.lload 15, 2) := by decide +kernel
theorem dL_asks_187 : decode cL_asks 187 = .ok (.lload 9, 2) := by decide +kernel
theorem dL_asks_189 : decode cL_asks 189 = .ok (.lload 11, 2) := by decide +kernel
theorem dL_asks_191 : decode cL_asks 191 = .ok (.lsub, 1) := by decide +kernel
theorem dL_asks_192 : decode cL_asks 192 = .ok (.lload 13, 2) := by decide +kernel
theorem dL_asks_194 : decode cL_asks 194 = .ok (.lsub, 1) := by decide +kernel
theorem dL_asks_195 : decode cL_asks 195 = .ok (.aload_n 0, 1) := by decide +kernel
theorem dL_asks_196 : decode cL_asks 196 = .ok (.iload 5, 2) := by decide +kernel
theorem dL_asks_198 : decode cL_asks 198 = .ok (.iload 8, 2) := by decide +kernel
theorem dL_asks_200 : decode cL_asks 200 = .ok (.iconst 2, 1) := by decide +kernel
theorem dL_asks_201 : decode cL_asks 201 = .ok (.invokevirtual 61, 3) := by decide +kernel
theorem dL_asks_204 : decode cL_asks 204 = .ok (.lsub, 1) := by decide +kernel
theorem dL_asks_205 : decode cL_asks 205 = .ok (.lcmp, 1) := by decide +kernel
theorem dL_asks_206 : decode cL_asks 206 = .ok (.ifCond .eq 5, 3) := by decide +kernel
theorem dL_asks_209 : decode cL_asks 209 = .ok (.iconst 0, 1) := by decide +kernel
theorem dL_asks_210 : decode cL_asks 210 = .ok (.ireturn, 1) := by decide +kernel
theorem dL_asks_211 : decode cL_asks 211 = .ok (.aload_n 0, 1) := by decide +kernel
theorem dL_asks_212 : decode cL_asks 212 = .ok (.iload 5, 2) := by decide +kernel
theorem dL_asks_214 : decode cL_asks 214 = .ok (.iload 8, 2) := by decide +kernel
theorem dL_asks_216 : decode cL_asks 216 = .ok (.iconst 5, 1) := by decide +kernel
theorem dL_asks_217 : decode cL_asks 217 = .ok (.invokevirtual 61, 3) := by decide +kernel
theorem dL_asks_220 : decode cL_asks 220 = .ok (.lstore 17, 2) := by decide +kernel
theorem dL_asks_222 : decode cL_asks 222 = .ok (.lload 17, 2) := by decide +kernel
theorem dL_asks_224 : decode cL_asks 224 = .ok (.lconst 0, 1) := by decide +kernel
theorem dL_asks_225 : decode cL_asks 225 = .ok (.lcmp, 1) := by decide +kernel
theorem dL_asks_226 : decode cL_asks 226 = .ok (.ifCond .lt 81, 3) := by decide +kernel
theorem dL_asks_229 : decode cL_asks 229 = .ok (.lload 17, 2) := by decide +kernel
theorem dL_asks_231 : decode cL_asks 231 = .ok (.lconst 0, 1) := by decide +kernel
theorem dL_asks_232 : decode cL_asks 232 = .ok (.lcmp, 1) := by decide +kernel
theorem dL_asks_233 : decode cL_asks 233 = .ok (.ifCond .le 11, 3) := by decide +kernel
theorem dL_asks_236 : decode cL_asks 236 = .ok (.lload 17, 2) := by decide +kernel
theorem dL_asks_238 : decode cL_asks 238 = .ok (.lload 15, 2) := by decide +kernel
theorem dL_asks_240 : decode cL_asks 240 = .ok (.lcmp, 1) := by decide +kernel
theorem dL_asks_241 : decode cL_asks 241 = .ok (.ifCond .gt 66, 3) := by decide +kernel
theorem dL_asks_244 : decode cL_asks 244 = .ok (.aload_n 0, 1) := by decide +kernel
theorem dL_asks_245 : decode cL_asks 245 = .ok (.iload 5, 2) := by decide +kernel
theorem dL_asks_247 : decode cL_asks 247 = .ok (.iload 8, 2) := by decide +kernel
theorem dL_asks_249 : decode cL_asks 249 = .ok (.bipush 6, 2) := by decide +kernel
theorem dL_asks_251 : decode cL_asks 251 = .ok (.invokevirtual 61, 3) := by decide +kernel
theorem dL_asks_254 : decode cL_asks 254 = .ok (.lload 15, 2) := by decide +kernel
theorem dL_asks_256 : decode cL_asks 256 = .ok (.lload 17, 2) := by decide +kernel
theorem dL_asks_258 : decode cL_asks 258 = .ok (.lsub, 1) := by decide +kernel
theorem dL_asks_259 : decode cL_asks 259 = .ok (.lcmp, 1) := by decide +kernel
theorem dL_asks_260 : decode cL_asks 260 = .ok (.ifCond .gt 47, 3) := by decide +kernel
theorem dL_asks_263 : decode cL_asks 263 = .ok (.lload 11, 2) := by decide +kernel
theorem dL_asks_265 : decode cL_asks 265 = .ok (.lconst 0, 1) := by decide +kernel
theorem dL_asks_266 : decode cL_asks 266 = .ok (.lcmp, 1) := by decide +kernel
theorem dL_asks_267 : decode cL_asks 267 = .ok (.ifCond .lt 40, 3) := by decide +kernel
theorem dL_asks_270 : decode cL_asks 270 = .ok (.aload_n 0, 1) := by decide +kernel
theorem dL_asks_271 : decode cL_asks 271 = .ok (.iload 5, 2) := by decide +kernel
theorem dL_asks_273 : decode cL_asks 273 = .ok (.iload 8, 2) := by decide +kernel
theorem dL_asks_275 : decode cL_asks 275 = .ok (.iconst 2, 1) := by decide +kernel
theorem dL_asks_276 : decode cL_asks 276 = .ok (.invokevirtual 61, 3) := by decide +kernel
theorem dL_asks_279 : decode cL_asks 279 = .ok (.lconst 0, 1) := by decide +kernel
theorem dL_asks_280 : decode cL_asks 280 = .ok (.lcmp, 1) := by decide +kernel
theorem dL_asks_281 : decode cL_asks 281 = .ok (.ifCond .lt 26, 3) := by decide +kernel
theorem dL_asks_284 : decode cL_asks 284 = .ok (.aload_n 0, 1) := by decide +kernel
theorem dL_asks_285 : decode cL_asks 285 = .ok (.iload 5, 2) := by decide +kernel
theorem dL_asks_287 : decode cL_asks 287 = .ok (.iload 8, 2) := by decide +kernel
theorem dL_asks_289 : decode cL_asks 289 = .ok (.bipush 7, 2) := by decide +kernel
theorem dL_asks_291 : decode cL_asks 291 = .ok (.invokevirtual 61, 3) := by decide +kernel
theorem dL_asks_294 : decode cL_asks 294 = .ok (.aload_n 0, 1) := by decide +kernel
theorem dL_asks_295 : decode cL_asks 295 = .ok (.iload 5, 2) := by decide +kernel
theorem dL_asks_297 : decode cL_asks 297 = .ok (.iload 8, 2) := by decide +kernel
theorem dL_asks_299 : decode cL_asks 299 = .ok (.iconst 2, 1) := by decide +kernel
theorem dL_asks_300 : decode cL_asks 300 = .ok (.invokevirtual 61, 3) := by decide +kernel
theorem dL_asks_303 : decode cL_asks 303 = .ok (.lcmp, 1) := by decide +kernel
theorem dL_asks_304 : decode cL_asks 304 = .ok (.ifCond .le 5, 3) := by decide +kernel
theorem dL_asks_307 : decode cL_asks 307 = .ok (.iconst 0, 1) := by decide +kernel
theorem dL_asks_308 : decode cL_asks 308 = .ok (.ireturn, 1) := by decide +kernel
theorem dL_asks_309 : decode cL_asks 309 = .ok (.aload_n 0, 1) := by decide +kernel
theorem dL_asks_310 : decode cL_asks 310 = .ok (.invokevirtual 72, 3) := by decide +kernel
theorem dL_asks_313 : decode cL_asks 313 = .ok (.bipush 24, 2) := by decide +kernel
theorem dL_asks_315 : decode cL_asks 315 = .ok (.if_icmp .ge 10, 3) := by decide +kernel
theorem dL_asks_318 : decode cL_asks 318 = .ok (.aload_n 0, 1) := by decide +kernel
theorem dL_asks_319 : decode cL_asks 319 = .ok (.invokevirtual 72, 3) := by decide +kernel
theorem dL_asks_322 : decode cL_asks 322 = .ok (.goto 5, 3) := by decide +kernel
theorem dL_asks_325 : decode cL_asks 325 = .ok (.bipush 23, 2) := by decide +kernel
theorem dL_asks_327 : decode cL_asks 327 = .ok (.istore 19, 2) := by decide +kernel
theorem dL_asks_329 : decode cL_asks 329 = .ok (.iconst 0, 1) := by decide +kernel
theorem dL_asks_330 : decode cL_asks 330 = .ok (.istore 20, 2) := by decide +kernel
theorem dL_asks_332 : decode cL_asks 332 = .ok (.iload 20, 2) := by decide +kernel
theorem dL_asks_334 : decode cL_asks 334 = .ok (.iload 19, 2) := by decide +kernel
theorem dL_asks_336 : decode cL_asks 336 = .ok (.if_icmp .gt 24, 3) := by decide +kernel
theorem dL_asks_339 : decode cL_asks 339 = .ok (.lload 6, 2) := by decide +kernel
theorem dL_asks_341 : decode cL_asks 341 = .ok (.aload_n 0, 1) := by decide +kernel
theorem dL_asks_342 : decode cL_asks 342 = .ok (.iload 5, 2) := by decide +kernel
theorem dL_asks_344 : decode cL_asks 344 = .ok (.iload 20, 2) := by decide +kernel
theorem dL_asks_346 : decode cL_asks 346 = .ok (.bipush 6, 2) := by decide +kernel
theorem dL_asks_348 : decode cL_asks 348 = .ok (.invokevirtual 61, 3) := by decide +kernel
theorem dL_asks_351 : decode cL_asks 351 = .ok (.ladd, 1) := by decide +kernel
theorem dL_asks_352 : decode cL_asks 352 = .ok (.lstore 6, 2) := by decide +kernel
theorem dL_asks_354 : decode cL_asks 354 = .ok (.iinc 20 1, 3) := by decide +kernel
theorem dL_asks_357 : decode cL_asks 357 = .ok (.goto (-25), 3) := by decide +kernel
theorem dL_asks_360 : decode cL_asks 360 = .ok (.iconst 0, 1) := by decide +kernel
theorem dL_asks_361 : decode cL_asks 361 = .ok (.istore 20, 2) := by decide +kernel
theorem dL_asks_363 : decode cL_asks 363 = .ok (.iload 20, 2) := by decide +kernel
theorem dL_asks_365 : decode cL_asks 365 = .ok (.aload_n 0, 1) := by decide +kernel
theorem dL_asks_366 : decode cL_asks 366 = .ok (.invokevirtual 76, 3) := by decide +kernel
theorem dL_asks_369 : decode cL_asks 369 = .ok (.if_icmp .ge 51, 3) := by decide +kernel
theorem dL_asks_372 : decode cL_asks 372 = .ok (.lload 6, 2) := by decide +kernel
theorem dL_asks_374 : decode cL_asks 374 = .ok (.aload_n 0, 1) := by decide +kernel
theorem dL_asks_375 : decode cL_asks 375 = .ok (.iload 20, 2) := by decide +kernel
theorem dL_asks_377 : decode cL_asks 377 = .ok (.iconst 0, 1) := by decide +kernel
theorem dL_asks_378 : decode cL_asks 378 = .ok (.invokevirtual 88, 3) := by decide +kernel
theorem dL_asks_381 : decode cL_asks 381 = .ok (.iload 5, 2) := by decide +kernel
theorem dL_asks_383 : decode cL_asks 383 = .ok (.i2l, 1) := by decide +kernel
theorem dL_asks_384 : decode cL_asks 384 = .ok (.lcmp, 1) := by decide +kernel
theorem dL_asks_385 : decode cL_asks 385 = .ok (.ifCond .ne 25, 3) := by decide +kernel
theorem dL_asks_388 : decode cL_asks 388 = .ok (.aload_n 0, 1) := by decide +kernel
theorem dL_asks_389 : decode cL_asks 389 = .ok (.iload 20, 2) := by decide +kernel
theorem dL_asks_391 : decode cL_asks 391 = .ok (.iconst 3, 1) := by decide +kernel
theorem dL_asks_392 : decode cL_asks 392 = .ok (.invokevirtual 88, 3) := by decide +kernel
theorem dL_asks_395 : decode cL_asks 395 = .ok (.lconst 0, 1) := by decide +kernel
theorem dL_asks_396 : decode cL_asks 396 = .ok (.lcmp, 1) := by decide +kernel
theorem dL_asks_397 : decode cL_asks 397 = .ok (.ifCond .ne 13, 3) := by decide +kernel
theorem dL_asks_400 : decode cL_asks 400 = .ok (.aload_n 0, 1) := by decide +kernel
theorem dL_asks_401 : decode cL_asks 401 = .ok (.iload 20, 2) := by decide +kernel
theorem dL_asks_403 : decode cL_asks 403 = .ok (.iconst 2, 1) := by decide +kernel
theorem dL_asks_404 : decode cL_asks 404 = .ok (.invokevirtual 88, 3) := by decide +kernel
theorem dL_asks_407 : decode cL_asks 407 = .ok (.goto 4, 3) := by decide +kernel
theorem dL_asks_410 : decode cL_asks 410 = .ok (.lconst 0, 1) := by decide +kernel
theorem dL_asks_411 : decode cL_asks 411 = .ok (.lsub, 1) := by decide +kernel
theorem dL_asks_412 : decode cL_asks 412 = .ok (.lstore 6, 2) := by decide +kernel
theorem dL_asks_414 : decode cL_asks 414 = .ok (.iinc 20 1, 3) := by decide +kernel
theorem dL_asks_417 : decode cL_asks 417 = .ok (.goto (-54), 3) := by decide +kernel
theorem dL_asks_420 : decode cL_asks 420 = .ok (.lload 6, 2) := by decide +kernel
theorem dL_asks_422 : decode cL_asks 422 = .ok (.aload_n 0, 1) := by decide +kernel
theorem dL_asks_423 : decode cL_asks 423 = .ok (.iload 5, 2) := by decide +kernel
theorem dL_asks_425 : decode cL_asks 425 = .ok (.invokevirtual 58, 3) := by decide +kernel
theorem dL_asks_428 : decode cL_asks 428 = .ok (.lcmp, 1) := by decide +kernel
theorem dL_asks_429 : decode cL_asks 429 = .ok (.ifCond .eq 5, 3) := by decide +kernel
theorem dL_asks_432 : decode cL_asks 432 = .ok (.iconst 0, 1) := by decide +kernel
theorem dL_asks_433 : decode cL_asks 433 = .ok (.ireturn, 1) := by decide +kernel
theorem dL_asks_434 : decode cL_asks 434 = .ok (.iconst 0, 1) := by decide +kernel
theorem dL_asks_435 : decode cL_asks 435 = .ok (.istore 20, 2) := by decide +kernel
theorem dL_asks_437 : decode cL_asks 437 = .ok (.iload 20, 2) := by decide +kernel
theorem dL_asks_439 : decode cL_asks 439 = .ok (.bipush 24, 2) := by decide +kernel
theorem dL_asks_441 : decode cL_asks 441 = .ok (.if_icmp .ge 21, 3) := by decide +kernel
theorem dL_asks_444 : decode cL_asks 444 = .ok (.lload_n 3, 1) := by decide +kernel
theorem dL_asks_445 : decode cL_asks 445 = .ok (.aload_n 0, 1) := by decide +kernel
theorem dL_asks_446 : decode cL_asks 446 = .ok (.iload 5, 2) := by decide +kernel
theorem dL_asks_448 : decode cL_asks 448 = .ok (.iload 20, 2) := by decide +kernel
theorem dL_asks_450 : decode cL_asks 450 = .ok (.iconst 5, 1) := by decide +kernel
theorem dL_asks_451 : decode cL_asks 451 = .ok (.invokevirtual 61, 3) := by decide +kernel
theorem dL_asks_454 : decode cL_asks 454 = .ok (.ladd, 1) := by decide +kernel
theorem dL_asks_455 : decode cL_asks 455 = .ok (.lstore_n 3, 1) := by decide +kernel
theorem dL_asks_456 : decode cL_asks 456 = .ok (.iinc 20 1, 3) := by decide +kernel
theorem dL_asks_459 : decode cL_asks 459 = .ok (.goto (-22), 3) := by decide +kernel
theorem dL_asks_462 : decode cL_asks 462 = .ok (.iload 5, 2) := by decide +kernel
theorem dL_asks_464 : decode cL_asks 464 = .ok (.ifCond .ne 18, 3) := by decide +kernel
theorem dL_asks_467 : decode cL_asks 467 = .ok (.aload_n 0, 1) := by decide +kernel
theorem dL_asks_468 : decode cL_asks 468 = .ok (.iload 5, 2) := by decide +kernel
theorem dL_asks_470 : decode cL_asks 470 = .ok (.iconst 0, 1) := by decide +kernel
theorem dL_asks_471 : decode cL_asks 471 = .ok (.iload 8, 2) := by decide +kernel
theorem dL_asks_473 : decode cL_asks 473 = .ok (.lconst 0, 1) := by decide +kernel
theorem dL_asks_474 : decode cL_asks 474 = .ok (.invokevirtual 91, 3) := by decide +kernel
theorem dL_asks_477 : decode cL_asks 477 = .ok (.lconst 0, 1) := by decide +kernel
theorem dL_asks_478 : decode cL_asks 478 = .ok (.lcmp, 1) := by decide +kernel
theorem dL_asks_479 : decode cL_asks 479 = .ok (.ifCond .ne 31, 3) := by decide +kernel
theorem dL_asks_482 : decode cL_asks 482 = .ok (.aload_n 0, 1) := by decide +kernel
theorem dL_asks_483 : decode cL_asks 483 = .ok (.iload 5, 2) := by decide +kernel
theorem dL_asks_485 : decode cL_asks 485 = .ok (.iconst 1, 1) := by decide +kernel
theorem dL_asks_486 : decode cL_asks 486 = .ok (.iload 8, 2) := by decide +kernel
theorem dL_asks_488 : decode cL_asks 488 = .ok (.ldc2_w 95, 3) := by decide +kernel
theorem dL_asks_491 : decode cL_asks 491 = .ok (.invokevirtual 91, 3) := by decide +kernel
theorem dL_asks_494 : decode cL_asks 494 = .ok (.aload_n 0, 1) := by decide +kernel
theorem dL_asks_495 : decode cL_asks 495 = .ok (.iload 5, 2) := by decide +kernel
theorem dL_asks_497 : decode cL_asks 497 = .ok (.iconst 1, 1) := by decide +kernel
theorem dL_asks_498 : decode cL_asks 498 = .ok (.iload 8, 2) := by decide +kernel
theorem dL_asks_500 : decode cL_asks 500 = .ok (.ldc2_w 97, 3) := by decide +kernel
theorem dL_asks_503 : decode cL_asks 503 = .ok (.invokevirtual 91, 3) := by decide +kernel
theorem dL_asks_506 : decode cL_asks 506 = .ok (.lcmp, 1) := by decide +kernel
theorem dL_asks_507 : decode cL_asks 507 = .ok (.ifCond .le 5, 3) := by decide +kernel
theorem dL_asks_510 : decode cL_asks 510 = .ok (.iconst 0, 1) := by decide +kernel
theorem dL_asks_511 : decode cL_asks 511 = .ok (.ireturn, 1) := by decide +kernel
theorem dL_asks_512 : decode cL_asks 512 = .ok (.iinc 5 1, 3) := by decide +kernel
theorem dL_asks_515 : decode cL_asks 515 = .ok (.goto (-510), 3) := by decide +kernel
theorem dL_asks_518 : decode cL_asks 518 = .ok (.lconst 0, 1) := by decide +kernel
theorem dL_asks_519 : decode cL_asks 519 = .ok (.lstore 5, 2) := by decide +kernel
theorem dL_asks_521 : decode cL_asks 521 = .ok (.iconst 0, 1) := by decide +kernel
theorem dL_asks_522 : decode cL_asks 522 = .ok (.istore 7, 2) := by decide +kernel
theorem dL_asks_524 : decode cL_asks 524 = .ok (.iload 7, 2) := by decide +kernel
theorem dL_asks_526 : decode cL_asks 526 = .ok (.iload_n 2, 1) := by decide +kernel
theorem dL_asks_527 : decode cL_asks 527 = .ok (.if_icmp .ge 22, 3) := by decide +kernel
theorem dL_asks_530 : decode cL_asks 530 = .ok (.lload 5, 2) := by decide +kernel
theorem dL_asks_532 : decode cL_asks 532 = .ok (.aload_n 0, 1) := by decide +kernel
theorem dL_asks_533 : decode cL_asks 533 = .ok (.iload 7, 2) := by decide +kernel
theorem dL_asks_535 : decode cL_asks 535 = .ok (.bipush 23, 2) := by decide +kernel
theorem dL_asks_537 : decode cL_asks 537 = .ok (.invokevirtual 99, 3) := by decide +kernel
theorem dL_asks_540 : decode cL_asks 540 = .ok (.ladd, 1) := by decide +kernel
theorem dL_asks_541 : decode cL_asks 541 = .ok (.lstore 5, 2) := by decide +kernel
theorem dL_asks_543 : decode cL_asks 543 = .ok (.iinc 7 1, 3) := by decide +kernel
theorem dL_asks_546 : decode cL_asks 546 = .ok (.goto (-22), 3) := by decide +kernel
theorem dL_asks_549 : decode cL_asks 549 = .ok (.lload 5, 2) := by decide +kernel
theorem dL_asks_551 : decode cL_asks 551 = .ok (.lload_n 3, 1) := by decide +kernel
theorem dL_asks_552 : decode cL_asks 552 = .ok (.lcmp, 1) := by decide +kernel
theorem dL_asks_553 : decode cL_asks 553 = .ok (.ifCond .ne 7, 3) := by decide +kernel
theorem dL_asks_556 : decode cL_asks 556 = .ok (.iconst 1, 1) := by decide +kernel
theorem dL_asks_557 : decode cL_asks 557 = .ok (.goto 4, 3) := by decide +kernel
theorem dL_asks_560 : decode cL_asks 560 = .ok (.iconst 0, 1) := by decide +kernel
theorem dL_asks_561 : decode cL_asks 561 = .ok (.ireturn, 1) := by decide +kernel
theorem dL_act_0 : decode cL_act 0 = .ok (.iload_n 2, 1) := by decide +kernel
theorem dL_act_1 : decode cL_act 1 = .ok (.iconst 3, 1) := by decide +kernel
theorem dL_act_2 : decode cL_act 2 = .ok (.invokestatic 79, 3) := by decide +kernel
theorem dL_act_5 : decode cL_act 5 = .ok (.istore 4, 2) := by decide +kernel
theorem dL_act_7 : decode cL_act 7 = .ok (.iload_n 2, 1) := by decide +kernel
theorem dL_act_8 : decode cL_act 8 = .ok (.iconst 2, 1) := by decide +kernel
theorem dL_act_9 : decode cL_act 9 = .ok (.ishr, 1) := by decide +kernel
theorem dL_act_10 : decode cL_act 10 = .ok (.bipush 25, 2) := by decide +kernel
theorem dL_act_12 : decode cL_act 12 = .ok (.invokestatic 79, 3) := by decide +kernel
theorem dL_act_15 : decode cL_act 15 = .ok (.istore 5, 2) := by decide +kernel
theorem dL_act_17 : decode cL_act 17 = .ok (.iload_n 3, 1) := by decide +kernel
theorem dL_act_18 : decode cL_act 18 = .ok (.tableswitch 550 0 12 #[66, 173, 173, 216, 239, 258, 305, 342, 419, 440, 456, 475, 519], 66) := by decide +kernel
theorem dL_act_84 : decode cL_act 84 = .ok (.aload_n 1, 1) := by decide +kernel
theorem dL_act_85 : decode cL_act 85 = .ok (.iconst 0, 1) := by decide +kernel
theorem dL_act_86 : decode cL_act 86 = .ok (.iaload, 1) := by decide +kernel
theorem dL_act_87 : decode cL_act 87 = .ok (.bipush 6, 2) := by decide +kernel
theorem dL_act_89 : decode cL_act 89 = .ok (.if_icmp .ne 8, 3) := by decide +kernel
theorem dL_act_92 : decode cL_act 92 = .ok (.bipush (-9), 2) := by decide +kernel
theorem dL_act_94 : decode cL_act 94 = .ok (.goto 76, 3) := by decide +kernel
theorem dL_act_97 : decode cL_act 97 = .ok (.aload_n 0, 1) := by decide +kernel
theorem dL_act_98 : decode cL_act 98 = .ok (.iload_n 2, 1) := by decide +kernel
theorem dL_act_99 : decode cL_act 99 = .ok (.bipush 8, 2) := by decide +kernel
theorem dL_act_101 : decode cL_act 101 = .ok (.invokestatic 79, 3) := by decide +kernel
theorem dL_act_104 : decode cL_act 104 = .ok (.iload_n 2, 1) := by decide +kernel
theorem dL_act_105 : decode cL_act 105 = .ok (.iconst 3, 1) := by decide +kernel
theorem dL_act_106 : decode cL_act 106 = .ok (.ishr, 1) := by decide +kernel
theorem dL_act_107 : decode cL_act 107 = .ok (.iconst 4, 1) := by decide +kernel
theorem dL_act_108 : decode cL_act 108 = .ok (.invokestatic 79, 3) := by decide +kernel
theorem dL_act_111 : decode cL_act 111 = .ok (.iload_n 2, 1) := by decide +kernel
theorem dL_act_112 : decode cL_act 112 = .ok (.iconst 4, 1) := by decide +kernel
theorem dL_act_113 : decode cL_act 113 = .ok (.ishr, 1) := by decide +kernel
theorem dL_act_114 : decode cL_act 114 = .ok (.sipush 400, 3) := by decide +kernel
theorem dL_act_117 : decode cL_act 117 = .ok (.invokestatic 79, 3) := by decide +kernel
theorem dL_act_120 : decode cL_act 120 = .ok (.iload_n 2, 1) := by decide +kernel
theorem dL_act_121 : decode cL_act 121 = .ok (.bipush 6, 2) := by decide +kernel
theorem dL_act_123 : decode cL_act 123 = .ok (.ishr, 1) := by decide +kernel
theorem dL_act_124 : decode cL_act 124 = .ok (.sipush 722, 3) := by decide +kernel
theorem dL_act_127 : decode cL_act 127 = .ok (.invokestatic 79, 3) := by decide +kernel
theorem dL_act_130 : decode cL_act 130 = .ok (.iload_n 2, 1) := by decide +kernel
theorem dL_act_131 : decode cL_act 131 = .ok (.iconst 2, 1) := by decide +kernel
theorem dL_act_132 : decode cL_act 132 = .ok (.ishr, 1) := by decide +kernel
theorem dL_act_133 : decode cL_act 133 = .ok (.iconst 2, 1) := by decide +kernel
theorem dL_act_134 : decode cL_act 134 = .ok (.invokestatic 79, 3) := by decide +kernel
theorem dL_act_137 : decode cL_act 137 = .ok (.ifCond .ne 7, 3) := by decide +kernel
theorem dL_act_140 : decode cL_act 140 = .ok (.iconst 1, 1) := by decide +kernel
theorem dL_act_141 : decode cL_act 141 = .ok (.goto 4, 3) := by decide +kernel
theorem dL_act_144 : decode cL_act 144 = .ok (.iconst 0, 1) := by decide +kernel
theorem dL_act_145 : decode cL_act 145 = .ok (.bipush 50, 2) := by decide +kernel
theorem dL_act_147 : decode cL_act 147 = .ok (.iload_n 2, 1) := by decide +kernel
theorem dL_act_148 : decode cL_act 148 = .ok (.bipush 8, 2) := by decide +kernel
theorem dL_act_150 : decode cL_act 150 = .ok (.ishr, 1) := by decide +kernel
theorem dL_act_151 : decode cL_act 151 = .ok (.sipush 500, 3) := by decide +kernel
theorem dL_act_154 : decode cL_act 154 = .ok (.invokestatic 79, 3) := by decide +kernel
theorem dL_act_157 : decode cL_act 157 = .ok (.iadd, 1) := by decide +kernel
theorem dL_act_158 : decode cL_act 158 = .ok (.iload_n 2, 1) := by decide +kernel
theorem dL_act_159 : decode cL_act 159 = .ok (.iconst 5, 1) := by decide +kernel
theorem dL_act_160 : decode cL_act 160 = .ok (.ishr, 1) := by decide +kernel
theorem dL_act_161 : decode cL_act 161 = .ok (.sipush 5000, 3) := by decide +kernel
theorem dL_act_164 : decode cL_act 164 = .ok (.invokestatic 79, 3) := by decide +kernel
theorem dL_act_167 : decode cL_act 167 = .ok (.invokestatic 102, 3) := by decide +kernel
theorem dL_act_170 : decode cL_act 170 = .ok (.istore 6, 2) := by decide +kernel
theorem dL_act_172 : decode cL_act 172 = .ok (.aload_n 1, 1) := by decide +kernel
theorem dL_act_173 : decode cL_act 173 = .ok (.iconst 0, 1) := by decide +kernel
theorem dL_act_174 : decode cL_act 174 = .ok (.dup2, 1) := by decide +kernel
theorem dL_act_175 : decode cL_act 175 = .ok (.iaload, 1) := by decide +kernel
theorem dL_act_176 : decode cL_act 176 = .ok (.iload 6, 2) := by decide +kernel
theorem dL_act_178 : decode cL_act 178 = .ok (.ifCond .ge 7, 3) := by decide +kernel
theorem dL_act_181 : decode cL_act 181 = .ok (.iconst 0, 1) := by decide +kernel
theorem dL_act_182 : decode cL_act 182 = .ok (.goto 4, 3) := by decide +kernel
theorem dL_act_185 : decode cL_act 185 = .ok (.iconst 1, 1) := by decide +kernel
theorem dL_act_186 : decode cL_act 186 = .ok (.iadd, 1) := by decide +kernel
theorem dL_act_187 : decode cL_act 187 = .ok (.iastore, 1) := by decide +kernel
theorem dL_act_188 : decode cL_act 188 = .ok (.iload 6, 2) := by decide +kernel
theorem dL_act_190 : decode cL_act 190 = .ok (.ireturn, 1) := by decide +kernel
theorem dL_act_191 : decode cL_act 191 = .ok (.aload_n 0, 1) := by decide +kernel
theorem dL_act_192 : decode cL_act 192 = .ok (.iload_n 2, 1) := by decide +kernel
theorem dL_act_193 : decode cL_act 193 = .ok (.aload_n 1, 1) := by decide +kernel
theorem dL_act_194 : decode cL_act 194 = .ok (.iconst 0, 1) := by decide +kernel
theorem dL_act_195 : decode cL_act 195 = .ok (.iaload, 1) := by decide +kernel
theorem dL_act_196 : decode cL_act 196 = .ok (.iconst 1, 1) := by decide +kernel
theorem dL_act_197 : decode cL_act 197 = .ok (.iadd, 1) := by decide +kernel
theorem dL_act_198 : decode cL_act 198 = .ok (.invokestatic 79, 3) := by decide +kernel
theorem dL_act_201 : decode cL_act 201 = .ok (.iload_n 2, 1) := by decide +kernel
theorem dL_act_202 : decode cL_act 202 = .ok (.iconst 3, 1) := by decide +kernel
theorem dL_act_203 : decode cL_act 203 = .ok (.ishr, 1) := by decide +kernel
theorem dL_act_204 : decode cL_act 204 = .ok (.sipush 500, 3) := by decide +kernel
theorem dL_act_207 : decode cL_act 207 = .ok (.invokestatic 79, 3) := by decide +kernel
theorem dL_act_210 : decode cL_act 210 = .ok (.iload_n 2, 1) := by decide +kernel
theorem dL_act_211 : decode cL_act 211 = .ok (.bipush 6, 2) := by decide +kernel
theorem dL_act_213 : decode cL_act 213 = .ok (.ishr, 1) := by decide +kernel
theorem dL_act_214 : decode cL_act 214 = .ok (.sipush 1450, 3) := by decide +kernel
theorem dL_act_217 : decode cL_act 217 = .ok (.invokestatic 79, 3) := by decide +kernel
theorem dL_act_220 : decode cL_act 220 = .ok (.iload_n 2, 1) := by decide +kernel
theorem dL_act_221 : decode cL_act 221 = .ok (.bipush 9, 2) := by decide +kernel
theorem dL_act_223 : decode cL_act 223 = .ok (.ishr, 1) := by decide +kernel
theorem dL_act_224 : decode cL_act 224 = .ok (.sipush 1450, 3) := by decide +kernel
theorem dL_act_227 : decode cL_act 227 = .ok (.invokestatic 79, 3) := by decide +kernel
theorem dL_act_230 : decode cL_act 230 = .ok (.invokestatic 106, 3) := by decide +kernel
theorem dL_act_233 : decode cL_act 233 = .ok (.ireturn, 1) := by decide +kernel
theorem dL_act_234 : decode cL_act 234 = .ok (.aload_n 0, 1) := by decide +kernel
theorem dL_act_235 : decode cL_act 235 = .ok (.iload_n 2, 1) := by decide +kernel
theorem dL_act_236 : decode cL_act 236 = .ok (.aload_n 1, 1) := by decide +kernel
theorem dL_act_237 : decode cL_act 237 = .ok (.iconst 0, 1) := by decide +kernel
theorem dL_act_238 : decode cL_act 238 = .ok (.iaload, 1) := by decide +kernel
theorem dL_act_239 : decode cL_act 239 = .ok (.iconst 1, 1) := by decide +kernel
theorem dL_act_240 : decode cL_act 240 = .ok (.iadd, 1) := by decide +kernel
theorem dL_act_241 : decode cL_act 241 = .ok (.invokestatic 79, 3) := by decide +kernel
theorem dL_act_244 : decode cL_act 244 = .ok (.iload_n 2, 1) := by decide +kernel
theorem dL_act_245 : decode cL_act 245 = .ok (.iconst 3, 1) := by decide +kernel
theorem dL_act_246 : decode cL_act 246 = .ok (.ishr, 1) := by decide +kernel
theorem dL_act_247 : decode cL_act 247 = .ok (.sipush 700, 3) := by decide +kernel
theorem dL_act_250 : decode cL_act 250 = .ok (.invokestatic 79, 3) := by decide +kernel
theorem dL_act_253 : decode cL_act 253 = .ok (.invokestatic 110, 3) := by decide +kernel
theorem dL_act_256 : decode cL_act 256 = .ok (.ireturn, 1) := by decide +kernel
theorem dL_act_257 : decode cL_act 257 = .ok (.aload_n 0, 1) := by decide +kernel
theorem dL_act_258 : decode cL_act 258 = .ok (.iload_n 2, 1) := by decide +kernel
theorem dL_act_259 : decode cL_act 259 = .ok (.bipush 11, 2) := by decide +kernel
theorem dL_act_261 : decode cL_act 261 = .ok (.invokestatic 79, 3) := by decide +kernel
theorem dL_act_264 : decode cL_act 264 = .ok (.iload_n 2, 1) := by decide +kernel
theorem dL_act_265 : decode cL_act 265 = .ok (.iconst 4, 1) := by decide +kernel
theorem dL_act_266 : decode cL_act 266 = .ok (.ishr, 1) := by decide +kernel
theorem dL_act_267 : decode cL_act 267 = .ok (.bipush 7, 2) := by decide +kernel
theorem dL_act_269 : decode cL_act 269 = .ok (.invokestatic 79, 3) := by decide +kernel
theorem dL_act_272 : decode cL_act 272 = .ok (.invokestatic 114, 3) := by decide +kernel
theorem dL_act_275 : decode cL_act 275 = .ok (.ireturn, 1) := by decide +kernel
theorem dL_act_276 : decode cL_act 276 = .ok (.aload_n 0, 1) := by decide +kernel
theorem dL_act_277 : decode cL_act 277 = .ok (.iload_n 2, 1) := by decide +kernel
theorem dL_act_278 : decode cL_act 278 = .ok (.aload_n 1, 1) := by decide +kernel
theorem dL_act_279 : decode cL_act 279 = .ok (.iconst 1, 1) := by decide +kernel
theorem dL_act_280 : decode cL_act 280 = .ok (.iaload, 1) := by decide +kernel
theorem dL_act_281 : decode cL_act 281 = .ok (.iconst 2, 1) := by decide +kernel
theorem dL_act_282 : decode cL_act 282 = .ok (.iadd, 1) := by decide +kernel
theorem dL_act_283 : decode cL_act 283 = .ok (.invokestatic 79, 3) := by decide +kernel
theorem dL_act_286 : decode cL_act 286 = .ok (.iload_n 2, 1) := by decide +kernel
theorem dL_act_287 : decode cL_act 287 = .ok (.iconst 3, 1) := by decide +kernel
theorem dL_act_288 : decode cL_act 288 = .ok (.ishr, 1) := by decide +kernel
theorem dL_act_289 : decode cL_act 289 = .ok (.bipush 65, 2) := by decide +kernel
theorem dL_act_291 : decode cL_act 291 = .ok (.invokestatic 79, 3) := by decide +kernel
theorem dL_act_294 : decode cL_act 294 = .ok (.invokestatic 117, 3) := by decide +kernel
theorem dL_act_297 : decode cL_act 297 = .ok (.istore 6, 2) := by decide +kernel
theorem dL_act_299 : decode cL_act 299 = .ok (.aload_n 1, 1) := by decide +kernel
theorem dL_act_300 : decode cL_act 300 = .ok (.iconst 1, 1) := by decide +kernel
theorem dL_act_301 : decode cL_act 301 = .ok (.dup2, 1) := by decide +kernel
theorem dL_act_302 : decode cL_act 302 = .ok (.iaload, 1) := by decide +kernel
theorem dL_act_303 : decode cL_act 303 = .ok (.iload 6, 2) := by decide +kernel
theorem dL_act_305 : decode cL_act 305 = .ok (.aload_n 1, 1) := by decide +kernel
theorem dL_act_306 : decode cL_act 306 = .ok (.iconst 1, 1) := by decide +kernel
theorem dL_act_307 : decode cL_act 307 = .ok (.iaload, 1) := by decide +kernel
theorem dL_act_308 : decode cL_act 308 = .ok (.iconst 1, 1) := by decide +kernel
theorem dL_act_309 : decode cL_act 309 = .ok (.iadd, 1) := by decide +kernel
theorem dL_act_310 : decode cL_act 310 = .ok (.if_icmp .ne 7, 3) := by decide +kernel
theorem dL_act_313 : decode cL_act 313 = .ok (.iconst 1, 1) := by decide +kernel
theorem dL_act_314 : decode cL_act 314 = .ok (.goto 4, 3) := by decide +kernel
theorem dL_act_317 : decode cL_act 317 = .ok (.iconst 0, 1) := by decide +kernel
theorem dL_act_318 : decode cL_act 318 = .ok (.iadd, 1) := by decide +kernel
theorem dL_act_319 : decode cL_act 319 = .ok (.iastore, 1) := by decide +kernel
theorem dL_act_320 : decode cL_act 320 = .ok (.iload 6, 2) := by decide +kernel
theorem dL_act_322 : decode cL_act 322 = .ok (.ireturn, 1) := by decide +kernel
theorem dL_act_323 : decode cL_act 323 = .ok (.aload_n 0, 1) := by decide +kernel
theorem dL_act_324 : decode cL_act 324 = .ok (.iload_n 2, 1) := by decide +kernel
theorem dL_act_325 : decode cL_act 325 = .ok (.iconst 4, 1) := by decide +kernel
theorem dL_act_326 : decode cL_act 326 = .ok (.invokestatic 79, 3) := by decide +kernel
theorem dL_act_329 : decode cL_act 329 = .ok (.iload_n 2, 1) := by decide +kernel
theorem dL_act_330 : decode cL_act 330 = .ok (.iconst 2, 1) := by decide +kernel
theorem dL_act_331 : decode cL_act 331 = .ok (.ishr, 1) := by decide +kernel
theorem dL_act_332 : decode cL_act 332 = .ok (.iconst 3, 1) := by decide +kernel
theorem dL_act_333 : decode cL_act 333 = .ok (.invokestatic 79, 3) := by decide +kernel
theorem dL_act_336 : decode cL_act 336 = .ok (.iload 5, 2) := by decide +kernel
theorem dL_act_338 : decode cL_act 338 = .ok (.iload_n 2, 1) := by decide +kernel
theorem dL_act_339 : decode cL_act 339 = .ok (.iconst 4, 1) := by decide +kernel
theorem dL_act_340 : decode cL_act 340 = .ok (.ishr, 1) := by decide +kernel
theorem dL_act_341 : decode cL_act 341 = .ok (.ldc 120, 2) := by decide +kernel
theorem dL_act_343 : decode cL_act 343 = .ok (.invokestatic 79, 3) := by decide +kernel
theorem dL_act_346 : decode cL_act 346 = .ok (.iload_n 2, 1) := by decide +kernel
theorem dL_act_347 : decode cL_act 347 = .ok (.bipush 6, 2) := by decide +kernel
theorem dL_act_349 : decode cL_act 349 = .ok (.ishr, 1) := by decide +kernel
theorem dL_act_350 : decode cL_act 350 = .ok (.sipush 901, 3) := by decide +kernel
theorem dL_act_353 : decode cL_act 353 = .ok (.invokestatic 79, 3) := by decide +kernel
theorem dL_act_356 : decode cL_act 356 = .ok (.invokestatic 121, 3) := by decide +kernel
theorem dL_act_359 : decode cL_act 359 = .ok (.ireturn, 1) := by decide +kernel
theorem dL_act_360 : decode cL_act 360 = .ok (.aload_n 1, 1) := by decide +kernel
theorem dL_act_361 : decode cL_act 361 = .ok (.iconst 2, 1) := by decide +kernel
theorem dL_act_362 : decode cL_act 362 = .ok (.iaload, 1) := by decide +kernel
theorem dL_act_363 : decode cL_act 363 = .ok (.iconst 5, 1) := by decide +kernel
theorem dL_act_364 : decode cL_act 364 = .ok (.if_icmp .ne 8, 3) := by decide +kernel
theorem dL_act_367 : decode cL_act 367 = .ok (.bipush (-9), 2) := by decide +kernel
theorem dL_act_369 : decode cL_act 369 = .ok (.goto 47, 3) := by decide +kernel
theorem dL_act_372 : decode cL_act 372 = .ok (.aload_n 0, 1) := by decide +kernel
theorem dL_act_373 : decode cL_act 373 = .ok (.iload 4, 2) := by decide +kernel
theorem dL_act_375 : decode cL_act 375 = .ok (.iload 5, 2) := by decide +kernel
theorem dL_act_377 : decode cL_act 377 = .ok (.iload_n 2, 1) := by decide +kernel
theorem dL_act_378 : decode cL_act 378 = .ok (.iconst 5, 1) := by decide +kernel
theorem dL_act_379 : decode cL_act 379 = .ok (.ishr, 1) := by decide +kernel
theorem dL_act_380 : decode cL_act 380 = .ok (.bipush 11, 2) := by decide +kernel
theorem dL_act_382 : decode cL_act 382 = .ok (.invokestatic 79, 3) := by decide +kernel
theorem dL_act_385 : decode cL_act 385 = .ok (.iload_n 2, 1) := by decide +kernel
theorem dL_act_386 : decode cL_act 386 = .ok (.bipush 6, 2) := by decide +kernel
theorem dL_act_388 : decode cL_act 388 = .ok (.ishr, 1) := by decide +kernel
theorem dL_act_389 : decode cL_act 389 = .ok (.ldc 125, 2) := by decide +kernel
theorem dL_act_391 : decode cL_act 391 = .ok (.invokestatic 79, 3) := by decide +kernel
theorem dL_act_394 : decode cL_act 394 = .ok (.iload_n 2, 1) := by decide +kernel
theorem dL_act_395 : decode cL_act 395 = .ok (.bipush 8, 2) := by decide +kernel
theorem dL_act_397 : decode cL_act 397 = .ok (.ishr, 1) := by decide +kernel
theorem dL_act_398 : decode cL_act 398 = .ok (.sipush 1002, 3) := by decide +kernel
theorem dL_act_401 : decode cL_act 401 = .ok (.invokestatic 79, 3) := by decide +kernel
theorem dL_act_404 : decode cL_act 404 = .ok (.iload_n 2, 1) := by decide +kernel
theorem dL_act_405 : decode cL_act 405 = .ok (.iconst 3, 1) := by decide +kernel
theorem dL_act_406 : decode cL_act 406 = .ok (.ishr, 1) := by decide +kernel
theorem dL_act_407 : decode cL_act 407 = .ok (.sipush 900, 3) := by decide +kernel
theorem dL_act_410 : decode cL_act 410 = .ok (.invokestatic 79, 3) := by decide +kernel
theorem dL_act_413 : decode cL_act 413 = .ok (.invokestatic 126, 3) := by decide +kernel
theorem dL_act_416 : decode cL_act 416 = .ok (.istore 6, 2) := by decide +kernel
theorem dL_act_418 : decode cL_act 418 = .ok (.aload_n 1, 1) := by decide +kernel
theorem dL_act_419 : decode cL_act 419 = .ok (.iconst 2, 1) := by decide +kernel
theorem dL_act_420 : decode cL_act 420 = .ok (.dup2, 1) := by decide +kernel
theorem dL_act_421 : decode cL_act 421 = .ok (.iaload, 1) := by decide +kernel
theorem dL_act_422 : decode cL_act 422 = .ok (.iload 6, 2) := by decide +kernel
theorem dL_act_424 : decode cL_act 424 = .ok (.ifCond .ge 7, 3) := by decide +kernel
theorem dL_act_427 : decode cL_act 427 = .ok (.iconst 0, 1) := by decide +kernel
theorem dL_act_428 : decode cL_act 428 = .ok (.goto 4, 3) := by decide +kernel
theorem dL_act_431 : decode cL_act 431 = .ok (.iconst 1, 1) := by decide +kernel
theorem dL_act_432 : decode cL_act 432 = .ok (.iadd, 1) := by decide +kernel
theorem dL_act_433 : decode cL_act 433 = .ok (.iastore, 1) := by decide +kernel
theorem dL_act_434 : decode cL_act 434 = .ok (.iload 6, 2) := by decide +kernel
theorem dL_act_436 : decode cL_act 436 = .ok (.ireturn, 1) := by decide +kernel
theorem dL_act_437 : decode cL_act 437 = .ok (.aload_n 0, 1) := by decide +kernel
theorem dL_act_438 : decode cL_act 438 = .ok (.iload_n 2, 1) := by decide +kernel
theorem dL_act_439 : decode cL_act 439 = .ok (.bipush 7, 2) := by decide +kernel
theorem dL_act_441 : decode cL_act 441 = .ok (.invokestatic 79, 3) := by decide +kernel
theorem dL_act_444 : decode cL_act 444 = .ok (.iload_n 2, 1) := by decide +kernel
theorem dL_act_445 : decode cL_act 445 = .ok (.iconst 4, 1) := by decide +kernel
theorem dL_act_446 : decode cL_act 446 = .ok (.ishr, 1) := by decide +kernel
theorem dL_act_447 : decode cL_act 447 = .ok (.sipush 9000, 3) := by decide +kernel
theorem dL_act_450 : decode cL_act 450 = .ok (.invokestatic 79, 3) := by decide +kernel
theorem dL_act_453 : decode cL_act 453 = .ok (.invokestatic 130, 3) := by decide +kernel
theorem dL_act_456 : decode cL_act 456 = .ok (.l2i, 1) := by decide +kernel
theorem dL_act_457 : decode cL_act 457 = .ok (.ireturn, 1) := by decide +kernel
theorem dL_act_458 : decode cL_act 458 = .ok (.aload_n 0, 1) := by decide +kernel
theorem dL_act_459 : decode cL_act 459 = .ok (.iload_n 2, 1) := by decide +kernel
theorem dL_act_460 : decode cL_act 460 = .ok (.aload_n 0, 1) := by decide +kernel
theorem dL_act_461 : decode cL_act 461 = .ok (.invokevirtual 76, 3) := by decide +kernel
theorem dL_act_464 : decode cL_act 464 = .ok (.iconst 1, 1) := by decide +kernel
theorem dL_act_465 : decode cL_act 465 = .ok (.iadd, 1) := by decide +kernel
theorem dL_act_466 : decode cL_act 466 = .ok (.invokestatic 79, 3) := by decide +kernel
theorem dL_act_469 : decode cL_act 469 = .ok (.invokestatic 134, 3) := by decide +kernel
theorem dL_act_472 : decode cL_act 472 = .ok (.l2i, 1) := by decide +kernel
theorem dL_act_473 : decode cL_act 473 = .ok (.ireturn, 1) := by decide +kernel
theorem dL_act_474 : decode cL_act 474 = .ok (.aload_n 0, 1) := by decide +kernel
theorem dL_act_475 : decode cL_act 475 = .ok (.invokevirtual 72, 3) := by decide +kernel
theorem dL_act_478 : decode cL_act 478 = .ok (.bipush 24, 2) := by decide +kernel
theorem dL_act_480 : decode cL_act 480 = .ok (.if_icmp .ge 10, 3) := by decide +kernel
theorem dL_act_483 : decode cL_act 483 = .ok (.aload_n 0, 1) := by decide +kernel
theorem dL_act_484 : decode cL_act 484 = .ok (.invokevirtual 138, 3) := by decide +kernel
theorem dL_act_487 : decode cL_act 487 = .ok (.goto 5, 3) := by decide +kernel
theorem dL_act_490 : decode cL_act 490 = .ok (.bipush (-9), 2) := by decide +kernel
theorem dL_act_492 : decode cL_act 492 = .ok (.ireturn, 1) := by decide +kernel
theorem dL_act_493 : decode cL_act 493 = .ok (.iload 5, 2) := by decide +kernel
theorem dL_act_495 : decode cL_act 495 = .ok (.bipush 24, 2) := by decide +kernel
theorem dL_act_497 : decode cL_act 497 = .ok (.if_icmp .ge 37, 3) := by decide +kernel
theorem dL_act_500 : decode cL_act 500 = .ok (.aload_n 0, 1) := by decide +kernel
theorem dL_act_501 : decode cL_act 501 = .ok (.iload 4, 2) := by decide +kernel
theorem dL_act_503 : decode cL_act 503 = .ok (.iload 5, 2) := by decide +kernel
theorem dL_act_505 : decode cL_act 505 = .ok (.iload_n 2, 1) := by decide +kernel
theorem dL_act_506 : decode cL_act 506 = .ok (.bipush 6, 2) := by decide +kernel
theorem dL_act_508 : decode cL_act 508 = .ok (.ishr, 1) := by decide +kernel
theorem dL_act_509 : decode cL_act 509 = .ok (.iconst 3, 1) := by decide +kernel
theorem dL_act_510 : decode cL_act 510 = .ok (.invokestatic 79, 3) := by decide +kernel
theorem dL_act_513 : decode cL_act 513 = .ok (.iload_n 2, 1) := by decide +kernel
theorem dL_act_514 : decode cL_act 514 = .ok (.bipush 7, 2) := by decide +kernel
theorem dL_act_516 : decode cL_act 516 = .ok (.ishr, 1) := by decide +kernel
theorem dL_act_517 : decode cL_act 517 = .ok (.ldc 125, 2) := by decide +kernel
theorem dL_act_519 : decode cL_act 519 = .ok (.invokestatic 79, 3) := by decide +kernel
theorem dL_act_522 : decode cL_act 522 = .ok (.sipush 20000, 3) := by decide +kernel
theorem dL_act_525 : decode cL_act 525 = .ok (.isub, 1) := by decide +kernel
theorem dL_act_526 : decode cL_act 526 = .ok (.invokevirtual 141, 3) := by decide +kernel
theorem dL_act_529 : decode cL_act 529 = .ok (.iconst 0, 1) := by decide +kernel
theorem dL_act_530 : decode cL_act 530 = .ok (.imul, 1) := by decide +kernel
theorem dL_act_531 : decode cL_act 531 = .ok (.goto 5, 3) := by decide +kernel
theorem dL_act_534 : decode cL_act 534 = .ok (.bipush (-9), 2) := by decide +kernel
theorem dL_act_536 : decode cL_act 536 = .ok (.ireturn, 1) := by decide +kernel
theorem dL_act_537 : decode cL_act 537 = .ok (.aload_n 0, 1) := by decide +kernel
theorem dL_act_538 : decode cL_act 538 = .ok (.iload_n 2, 1) := by decide +kernel
theorem dL_act_539 : decode cL_act 539 = .ok (.bipush 51, 2) := by decide +kernel
theorem dL_act_541 : decode cL_act 541 = .ok (.invokestatic 79, 3) := by decide +kernel
theorem dL_act_544 : decode cL_act 544 = .ok (.iload_n 2, 1) := by decide +kernel
theorem dL_act_545 : decode cL_act 545 = .ok (.iconst 3, 1) := by decide +kernel
theorem dL_act_546 : decode cL_act 546 = .ok (.ishr, 1) := by decide +kernel
theorem dL_act_547 : decode cL_act 547 = .ok (.sipush 501, 3) := by decide +kernel
theorem dL_act_550 : decode cL_act 550 = .ok (.invokestatic 79, 3) := by decide +kernel
theorem dL_act_553 : decode cL_act 553 = .ok (.iconst 1, 1) := by decide +kernel
theorem dL_act_554 : decode cL_act 554 = .ok (.iload_n 2, 1) := by decide +kernel
theorem dL_act_555 : decode cL_act 555 = .ok (.iconst 5, 1) := by decide +kernel
theorem dL_act_556 : decode cL_act 556 = .ok (.ishr, 1) := by decide +kernel
theorem dL_act_557 : decode cL_act 557 = .ok (.bipush 12, 2) := by decide +kernel
theorem dL_act_559 : decode cL_act 559 = .ok (.invokestatic 79, 3) := by decide +kernel
theorem dL_act_562 : decode cL_act 562 = .ok (.iadd, 1) := by decide +kernel
theorem dL_act_563 : decode cL_act 563 = .ok (.invokevirtual 144, 3) := by decide +kernel
theorem dL_act_566 : decode cL_act 566 = .ok (.iconst 0, 1) := by decide +kernel
theorem dL_act_567 : decode cL_act 567 = .ok (.ireturn, 1) := by decide +kernel
theorem dL_act_568 : decode cL_act 568 = .ok (.iload 5, 2) := by decide +kernel
theorem dL_act_570 : decode cL_act 570 = .ok (.bipush 24, 2) := by decide +kernel
theorem dL_act_572 : decode cL_act 572 = .ok (.if_icmp .ge 62, 3) := by decide +kernel
theorem dL_act_575 : decode cL_act 575 = .ok (.aload_n 0, 1) := by decide +kernel
theorem dL_act_576 : decode cL_act 576 = .ok (.iload 4, 2) := by decide +kernel
theorem dL_act_578 : decode cL_act 578 = .ok (.iload 5, 2) := by decide +kernel
theorem dL_act_580 : decode cL_act 580 = .ok (.iload_n 2, 1) := by decide +kernel
theorem dL_act_581 : decode cL_act 581 = .ok (.bipush 6, 2) := by decide +kernel
theorem dL_act_583 : decode cL_act 583 = .ok (.ishr, 1) := by decide +kernel
theorem dL_act_584 : decode cL_act 584 = .ok (.sipush 501, 3) := by decide +kernel
theorem dL_act_587 : decode cL_act 587 = .ok (.invokestatic 79, 3) := by decide +kernel
theorem dL_act_590 : decode cL_act 590 = .ok (.iload_n 2, 1) := by decide +kernel
theorem dL_act_591 : decode cL_act 591 = .ok (.iconst 4, 1) := by decide +kernel
theorem dL_act_592 : decode cL_act 592 = .ok (.ishr, 1) := by decide +kernel
theorem dL_act_593 : decode cL_act 593 = .ok (.ldc 120, 2) := by decide +kernel
theorem dL_act_595 : decode cL_act 595 = .ok (.invokestatic 79, 3) := by decide +kernel
theorem dL_act_598 : decode cL_act 598 = .ok (.invokevirtual 148, 3) := by decide +kernel
theorem dL_act_601 : decode cL_act 601 = .ok (.aload_n 0, 1) := by decide +kernel
theorem dL_act_602 : decode cL_act 602 = .ok (.iload 4, 2) := by decide +kernel
theorem dL_act_604 : decode cL_act 604 = .ok (.iload 5, 2) := by decide +kernel
theorem dL_act_606 : decode cL_act 606 = .ok (.iload_n 2, 1) := by decide +kernel
theorem dL_act_607 : decode cL_act 607 = .ok (.iconst 5, 1) := by decide +kernel
theorem dL_act_608 : decode cL_act 608 = .ok (.ishr, 1) := by decide +kernel
theorem dL_act_609 : decode cL_act 609 = .ok (.sipush 201, 3) := by decide +kernel
theorem dL_act_612 : decode cL_act 612 = .ok (.invokestatic 79, 3) := by decide +kernel
theorem dL_act_615 : decode cL_act 615 = .ok (.invokevirtual 152, 3) := by decide +kernel
theorem dL_act_618 : decode cL_act 618 = .ok (.aload_n 0, 1) := by decide +kernel
theorem dL_act_619 : decode cL_act 619 = .ok (.iload 4, 2) := by decide +kernel
theorem dL_act_621 : decode cL_act 621 = .ok (.iload 5, 2) := by decide +kernel
theorem dL_act_623 : decode cL_act 623 = .ok (.iload_n 2, 1) := by decide +kernel
theorem dL_act_624 : decode cL_act 624 = .ok (.bipush 8, 2) := by decide +kernel
theorem dL_act_626 : decode cL_act 626 = .ok (.ishr, 1) := by decide +kernel
theorem dL_act_627 : decode cL_act 627 = .ok (.iconst 2, 1) := by decide +kernel
theorem dL_act_628 : decode cL_act 628 = .ok (.invokestatic 79, 3) := by decide +kernel
theorem dL_act_631 : decode cL_act 631 = .ok (.invokevirtual 155, 3) := by decide +kernel
theorem dL_act_634 : decode cL_act 634 = .ok (.iconst 0, 1) := by decide +kernel
theorem dL_act_635 : decode cL_act 635 = .ok (.ireturn, 1) := by decide +kernel
theorem dL_law_0 : decode cL_law 0 = .ok (.new 10, 3) := by decide +kernel
theorem dL_law_3 : decode cL_law 3 = .ok (.dup, 1) := by decide +kernel
theorem dL_law_4 : decode cL_law 4 = .ok (.invokespecial 158, 3) := by decide +kernel
theorem dL_law_7 : decode cL_law 7 = .ok (.astore_n 1, 1) := by decide +kernel
theorem dL_law_8 : decode cL_law 8 = .ok (.iconst 3, 1) := by decide +kernel
theorem dL_law_9 : decode cL_law 9 = .ok (.newarray .int, 2) := by decide +kernel
theorem dL_law_11 : decode cL_law 11 = .ok (.astore_n 2, 1) := by decide +kernel
theorem dL_law_12 : decode cL_law 12 = .ok (.iconst 0, 1) := by decide +kernel
theorem dL_law_13 : decode cL_law 13 = .ok (.istore_n 3, 1) := by decide +kernel
theorem dL_law_14 : decode cL_law 14 = .ok (.iload_n 3, 1) := by decide +kernel
theorem dL_law_15 : decode cL_law 15 = .ok (.iconst 3, 1) := by decide +kernel
theorem dL_law_16 : decode cL_law 16 = .ok (.if_icmp .ge 111, 3) := by decide +kernel
theorem dL_law_19 : decode cL_law 19 = .ok (.aload_n 0, 1) := by decide +kernel
theorem dL_law_20 : decode cL_law 20 = .ok (.iload_n 3, 1) := by decide +kernel
theorem dL_law_21 : decode cL_law 21 = .ok (.invokestatic 159, 3) := by decide +kernel
theorem dL_law_24 : decode cL_law 24 = .ok (.istore 4, 2) := by decide +kernel
theorem dL_law_26 : decode cL_law 26 = .ok (.aload_n 2, 1) := by decide +kernel
theorem dL_law_27 : decode cL_law 27 = .ok (.iconst 0, 1) := by decide +kernel
theorem dL_law_28 : decode cL_law 28 = .ok (.dup2, 1) := by decide +kernel
theorem dL_law_29 : decode cL_law 29 = .ok (.iaload, 1) := by decide +kernel
theorem dL_law_30 : decode cL_law 30 = .ok (.aload_n 1, 1) := by decide +kernel
theorem dL_law_31 : decode cL_law 31 = .ok (.iload_n 3, 1) := by decide +kernel
theorem dL_law_32 : decode cL_law 32 = .ok (.iload 4, 2) := by decide +kernel
theorem dL_law_34 : decode cL_law 34 = .ok (.iconst 3, 1) := by decide +kernel
theorem dL_law_35 : decode cL_law 35 = .ok (.invokestatic 79, 3) := by decide +kernel
theorem dL_law_38 : decode cL_law 38 = .ok (.iload 4, 2) := by decide +kernel
theorem dL_law_40 : decode cL_law 40 = .ok (.iconst 2, 1) := by decide +kernel
theorem dL_law_41 : decode cL_law 41 = .ok (.ishr, 1) := by decide +kernel
theorem dL_law_42 : decode cL_law 42 = .ok (.bipush 60, 2) := by decide +kernel
theorem dL_law_44 : decode cL_law 44 = .ok (.invokestatic 79, 3) := by decide +kernel
theorem dL_law_47 : decode cL_law 47 = .ok (.sipush 300, 3) := by decide +kernel
theorem dL_law_50 : decode cL_law 50 = .ok (.iload 4, 2) := by decide +kernel
theorem dL_law_52 : decode cL_law 52 = .ok (.iconst 4, 1) := by decide +kernel
theorem dL_law_53 : decode cL_law 53 = .ok (.ishr, 1) := by decide +kernel
theorem dL_law_54 : decode cL_law 54 = .ok (.sipush 400, 3) := by decide +kernel
theorem dL_law_57 : decode cL_law 57 = .ok (.invokestatic 79, 3) := by decide +kernel
theorem dL_law_60 : decode cL_law 60 = .ok (.iadd, 1) := by decide +kernel
theorem dL_law_61 : decode cL_law 61 = .ok (.iload 4, 2) := by decide +kernel
theorem dL_law_63 : decode cL_law 63 = .ok (.bipush 6, 2) := by decide +kernel
theorem dL_law_65 : decode cL_law 65 = .ok (.ishr, 1) := by decide +kernel
theorem dL_law_66 : decode cL_law 66 = .ok (.iconst 2, 1) := by decide +kernel
theorem dL_law_67 : decode cL_law 67 = .ok (.invokestatic 79, 3) := by decide +kernel
theorem dL_law_70 : decode cL_law 70 = .ok (.ifCond .ne 7, 3) := by decide +kernel
theorem dL_law_73 : decode cL_law 73 = .ok (.iconst 1, 1) := by decide +kernel
theorem dL_law_74 : decode cL_law 74 = .ok (.goto 4, 3) := by decide +kernel
theorem dL_law_77 : decode cL_law 77 = .ok (.iconst 0, 1) := by decide +kernel
theorem dL_law_78 : decode cL_law 78 = .ok (.sipush 300, 3) := by decide +kernel
theorem dL_law_81 : decode cL_law 81 = .ok (.iload 4, 2) := by decide +kernel
theorem dL_law_83 : decode cL_law 83 = .ok (.bipush 7, 2) := by decide +kernel
theorem dL_law_85 : decode cL_law 85 = .ok (.ishr, 1) := by decide +kernel
theorem dL_law_86 : decode cL_law 86 = .ok (.sipush 200, 3) := by decide +kernel
theorem dL_law_89 : decode cL_law 89 = .ok (.invokestatic 79, 3) := by decide +kernel
theorem dL_law_92 : decode cL_law 92 = .ok (.iadd, 1) := by decide +kernel
theorem dL_law_93 : decode cL_law 93 = .ok (.sipush 1000, 3) := by decide +kernel
theorem dL_law_96 : decode cL_law 96 = .ok (.iload 4, 2) := by decide +kernel
theorem dL_law_98 : decode cL_law 98 = .ok (.iconst 3, 1) := by decide +kernel
theorem dL_law_99 : decode cL_law 99 = .ok (.ishr, 1) := by decide +kernel
theorem dL_law_100 : decode cL_law 100 = .ok (.sipush 3000, 3) := by decide +kernel
theorem dL_law_103 : decode cL_law 103 = .ok (.invokestatic 79, 3) := by decide +kernel
theorem dL_law_106 : decode cL_law 106 = .ok (.iadd, 1) := by decide +kernel
theorem dL_law_107 : decode cL_law 107 = .ok (.invokestatic 102, 3) := by decide +kernel
theorem dL_law_110 : decode cL_law 110 = .ok (.iload_n 3, 1) := by decide +kernel
theorem dL_law_111 : decode cL_law 111 = .ok (.if_icmp .ne 7, 3) := by decide +kernel
theorem dL_law_114 : decode cL_law 114 = .ok (.iconst 1, 1) := by decide +kernel
theorem dL_law_115 : decode cL_law 115 = .ok (.goto 4, 3) := by decide +kernel
theorem dL_law_118 : decode cL_law 118 = .ok (.iconst 0, 1) := by decide +kernel
theorem dL_law_119 : decode cL_law 119 = .ok (.iadd, 1) := by decide +kernel
theorem dL_law_120 : decode cL_law 120 = .ok (.iastore, 1) := by decide +kernel
theorem dL_law_121 : decode cL_law 121 = .ok (.iinc 3 1, 3) := by decide +kernel
theorem dL_law_124 : decode cL_law 124 = .ok (.goto (-110), 3) := by decide +kernel
theorem dL_law_127 : decode cL_law 127 = .ok (.iconst 0, 1) := by decide +kernel
theorem dL_law_128 : decode cL_law 128 = .ok (.istore_n 3, 1) := by decide +kernel
theorem dL_law_129 : decode cL_law 129 = .ok (.iload_n 3, 1) := by decide +kernel
theorem dL_law_130 : decode cL_law 130 = .ok (.bipush 24, 2) := by decide +kernel
theorem dL_law_132 : decode cL_law 132 = .ok (.if_icmp .ge 105, 3) := by decide +kernel
theorem dL_law_135 : decode cL_law 135 = .ok (.aload_n 0, 1) := by decide +kernel
theorem dL_law_136 : decode cL_law 136 = .ok (.iconst 3, 1) := by decide +kernel
theorem dL_law_137 : decode cL_law 137 = .ok (.iconst 2, 1) := by decide +kernel
theorem dL_law_138 : decode cL_law 138 = .ok (.iload_n 3, 1) := by decide +kernel
theorem dL_law_139 : decode cL_law 139 = .ok (.imul, 1) := by decide +kernel
theorem dL_law_140 : decode cL_law 140 = .ok (.iadd, 1) := by decide +kernel
theorem dL_law_141 : decode cL_law 141 = .ok (.invokestatic 159, 3) := by decide +kernel
theorem dL_law_144 : decode cL_law 144 = .ok (.istore 4, 2) := by decide +kernel
theorem dL_law_146 : decode cL_law 146 = .ok (.aload_n 0, 1) := by decide +kernel
theorem dL_law_147 : decode cL_law 147 = .ok (.iconst 4, 1) := by decide +kernel
theorem dL_law_148 : decode cL_law 148 = .ok (.iconst 2, 1) := by decide +kernel
theorem dL_law_149 : decode cL_law 149 = .ok (.iload_n 3, 1) := by decide +kernel
theorem dL_law_150 : decode cL_law 150 = .ok (.imul, 1) := by decide +kernel
theorem dL_law_151 : decode cL_law 151 = .ok (.iadd, 1) := by decide +kernel
theorem dL_law_152 : decode cL_law 152 = .ok (.invokestatic 159, 3) := by decide +kernel
theorem dL_law_155 : decode cL_law 155 = .ok (.istore 5, 2) := by decide +kernel
theorem dL_law_157 : decode cL_law 157 = .ok (.aload_n 1, 1) := by decide +kernel
theorem dL_law_158 : decode cL_law 158 = .ok (.invokestatic 163, 3) := by decide +kernel
theorem dL_law_161 : decode cL_law 161 = .ok (.astore 6, 2) := by decide +kernel
theorem dL_law_163 : decode cL_law 163 = .ok (.aload_n 1, 1) := by decide +kernel
theorem dL_law_164 : decode cL_law 164 = .ok (.aload_n 2, 1) := by decide +kernel
theorem dL_law_165 : decode cL_law 165 = .ok (.iload 5, 2) := by decide +kernel
theorem dL_law_167 : decode cL_law 167 = .ok (.iload 4, 2) := by decide +kernel
theorem dL_law_169 : decode cL_law 169 = .ok (.iconst 3, 1) := by decide +kernel
theorem dL_law_170 : decode cL_law 170 = .ok (.ishr, 1) := by decide +kernel
theorem dL_law_171 : decode cL_law 171 = .ok (.bipush 14, 2) := by decide +kernel
theorem dL_law_173 : decode cL_law 173 = .ok (.invokestatic 79, 3) := by decide +kernel
theorem dL_law_176 : decode cL_law 176 = .ok (.invokestatic 167, 3) := by decide +kernel
theorem dL_law_179 : decode cL_law 179 = .ok (.istore 7, 2) := by decide +kernel
theorem dL_law_181 : decode cL_law 181 = .ok (.iload 7, 2) := by decide +kernel
theorem dL_law_183 : decode cL_law 183 = .ok (.iconst (-1), 1) := by decide +kernel
theorem dL_law_184 : decode cL_law 184 = .ok (.if_icmp .ge 24, 3) := by decide +kernel
theorem dL_law_187 : decode cL_law 187 = .ok (.iload 7, 2) := by decide +kernel
theorem dL_law_189 : decode cL_law 189 = .ok (.bipush (-9), 2) := by decide +kernel
theorem dL_law_191 : decode cL_law 191 = .ok (.if_icmp .le 17, 3) := by decide +kernel
theorem dL_law_194 : decode cL_law 194 = .ok (.aload 6, 2) := by decide +kernel
theorem dL_law_196 : decode cL_law 196 = .ok (.aload_n 1, 1) := by decide +kernel
theorem dL_law_197 : decode cL_law 197 = .ok (.invokestatic 163, 3) := by decide +kernel
theorem dL_law_200 : decode cL_law 200 = .ok (.invokestatic 171, 3) := by decide +kernel
theorem dL_law_203 : decode cL_law 203 = .ok (.ifCond .ne 5, 3) := by decide +kernel
theorem dL_law_206 : decode cL_law 206 = .ok (.iconst 0, 1) := by decide +kernel
theorem dL_law_207 : decode cL_law 207 = .ok (.ireturn, 1) := by decide +kernel
theorem dL_law_208 : decode cL_law 208 = .ok (.iload 4, 2) := by decide +kernel
theorem dL_law_210 : decode cL_law 210 = .ok (.iconst 5, 1) := by decide +kernel
theorem dL_law_211 : decode cL_law 211 = .ok (.invokestatic 79, 3) := by decide +kernel
theorem dL_law_214 : decode cL_law 214 = .ok (.ifCond .ne 17, 3) := by decide +kernel
theorem dL_law_217 : decode cL_law 217 = .ok (.aload_n 1, 1) := by decide +kernel
theorem dL_law_218 : decode cL_law 218 = .ok (.iload 5, 2) := by decide +kernel
theorem dL_law_220 : decode cL_law 220 = .ok (.aload_n 2, 1) := by decide +kernel
theorem dL_law_221 : decode cL_law 221 = .ok (.iconst 2, 1) := by decide +kernel
theorem dL_law_222 : decode cL_law 222 = .ok (.iaload, 1) := by decide +kernel
theorem dL_law_223 : decode cL_law 223 = .ok (.invokestatic 175, 3) := by decide +kernel
theorem dL_law_226 : decode cL_law 226 = .ok (.ifCond .ne 5, 3) := by decide +kernel
theorem dL_law_229 : decode cL_law 229 = .ok (.iconst 0, 1) := by decide +kernel
theorem dL_law_230 : decode cL_law 230 = .ok (.ireturn, 1) := by decide +kernel
theorem dL_law_231 : decode cL_law 231 = .ok (.iinc 3 1, 3) := by decide +kernel
theorem dL_law_234 : decode cL_law 234 = .ok (.goto (-105), 3) := by decide +kernel
theorem dL_law_237 : decode cL_law 237 = .ok (.aload_n 2, 1) := by decide +kernel
theorem dL_law_238 : decode cL_law 238 = .ok (.iconst 0, 1) := by decide +kernel
theorem dL_law_239 : decode cL_law 239 = .ok (.iaload, 1) := by decide +kernel
theorem dL_law_240 : decode cL_law 240 = .ok (.iconst 3, 1) := by decide +kernel
theorem dL_law_241 : decode cL_law 241 = .ok (.if_icmp .lt 118, 3) := by decide +kernel
theorem dL_law_244 : decode cL_law 244 = .ok (.aload_n 1, 1) := by decide +kernel
theorem dL_law_245 : decode cL_law 245 = .ok (.aload_n 0, 1) := by decide +kernel
theorem dL_law_246 : decode cL_law 246 = .ok (.iconst 2, 1) := by decide +kernel
theorem dL_law_247 : decode cL_law 247 = .ok (.invokestatic 159, 3) := by decide +kernel
theorem dL_law_250 : decode cL_law 250 = .ok (.aload_n 2, 1) := by decide +kernel
theorem dL_law_251 : decode cL_law 251 = .ok (.iconst 2, 1) := by decide +kernel
theorem dL_law_252 : decode cL_law 252 = .ok (.iaload, 1) := by decide +kernel
theorem dL_law_253 : decode cL_law 253 = .ok (.invokestatic 175, 3) := by decide +kernel
theorem dL_law_256 : decode cL_law 256 = .ok (.ifCond .eq 103, 3) := by decide +kernel
theorem dL_law_259 : decode cL_law 259 = .ok (.aload_n 1, 1) := by decide +kernel
theorem dL_law_260 : decode cL_law 260 = .ok (.bipush 6, 2) := by decide +kernel
theorem dL_law_262 : decode cL_law 262 = .ok (.iconst 0, 1) := by decide +kernel
theorem dL_law_263 : decode cL_law 263 = .ok (.iconst 0, 1) := by decide +kernel
theorem dL_law_264 : decode cL_law 264 = .ok (.iconst 0, 1) := by decide +kernel
theorem dL_law_265 : decode cL_law 265 = .ok (.iconst 1, 1) := by decide +kernel
theorem dL_law_266 : decode cL_law 266 = .ok (.bipush 60, 2) := by decide +kernel
theorem dL_law_268 : decode cL_law 268 = .ok (.iconst 0, 1) := by decide +kernel
theorem dL_law_269 : decode cL_law 269 = .ok (.invokestatic 102, 3) := by decide +kernel
theorem dL_law_272 : decode cL_law 272 = .ok (.bipush (-2), 2) := by decide +kernel
theorem dL_law_274 : decode cL_law 274 = .ok (.if_icmp .ne 85, 3) := by decide +kernel
theorem dL_law_277 : decode cL_law 277 = .ok (.aload_n 1, 1) := by decide +kernel
theorem dL_law_278 : decode cL_law 278 = .ok (.iconst (-1), 1) := by decide +kernel
theorem dL_law_279 : decode cL_law 279 = .ok (.iconst 0, 1) := by decide +kernel
theorem dL_law_280 : decode cL_law 280 = .ok (.invokestatic 110, 3) := by decide +kernel
theorem dL_law_283 : decode cL_law 283 = .ok (.bipush (-2), 2) := by decide +kernel
theorem dL_law_285 : decode cL_law 285 = .ok (.if_icmp .ne 74, 3) := by decide +kernel
theorem dL_law_288 : decode cL_law 288 = .ok (.aload_n 1, 1) := by decide +kernel
theorem dL_law_289 : decode cL_law 289 = .ok (.iconst (-1), 1) := by decide +kernel
theorem dL_law_290 : decode cL_law 290 = .ok (.iconst 0, 1) := by decide +kernel
theorem dL_law_291 : decode cL_law 291 = .ok (.invokestatic 114, 3) := by decide +kernel
theorem dL_law_294 : decode cL_law 294 = .ok (.bipush (-3), 2) := by decide +kernel
theorem dL_law_296 : decode cL_law 296 = .ok (.if_icmp .ne 63, 3) := by decide +kernel
theorem dL_law_299 : decode cL_law 299 = .ok (.aload_n 1, 1) := by decide +kernel
theorem dL_law_300 : decode cL_law 300 = .ok (.bipush 6, 2) := by decide +kernel
theorem dL_law_302 : decode cL_law 302 = .ok (.iconst 0, 1) := by decide +kernel
theorem dL_law_303 : decode cL_law 303 = .ok (.invokestatic 117, 3) := by decide +kernel
theorem dL_law_306 : decode cL_law 306 = .ok (.bipush (-2), 2) := by decide +kernel
theorem dL_law_308 : decode cL_law 308 = .ok (.if_icmp .ne 51, 3) := by decide +kernel
theorem dL_law_311 : decode cL_law 311 = .ok (.aload_n 1, 1) := by decide +kernel
theorem dL_law_312 : decode cL_law 312 = .ok (.bipush 6, 2) := by decide +kernel
theorem dL_law_314 : decode cL_law 314 = .ok (.iconst 0, 1) := by decide +kernel
theorem dL_law_315 : decode cL_law 315 = .ok (.iconst 0, 1) := by decide +kernel
theorem dL_law_316 : decode cL_law 316 = .ok (.iconst 1, 1) := by decide +kernel
theorem dL_law_317 : decode cL_law 317 = .ok (.iconst 1, 1) := by decide +kernel
theorem dL_law_318 : decode cL_law 318 = .ok (.iconst 0, 1) := by decide +kernel
theorem dL_law_319 : decode cL_law 319 = .ok (.invokestatic 126, 3) := by decide +kernel
theorem dL_law_322 : decode cL_law 322 = .ok (.bipush (-2), 2) := by decide +kernel
theorem dL_law_324 : decode cL_law 324 = .ok (.if_icmp .ne 35, 3) := by decide +kernel
theorem dL_law_327 : decode cL_law 327 = .ok (.aload_n 1, 1) := by decide +kernel
theorem dL_law_328 : decode cL_law 328 = .ok (.aload_n 1, 1) := by decide +kernel
theorem dL_law_329 : decode cL_law 329 = .ok (.invokevirtual 76, 3) := by decide +kernel
theorem dL_law_332 : decode cL_law 332 = .ok (.invokestatic 134, 3) := by decide +kernel
theorem dL_law_335 : decode cL_law 335 = .ok (.ldc2_w 48, 3) := by decide +kernel
theorem dL_law_338 : decode cL_law 338 = .ok (.lcmp, 1) := by decide +kernel
theorem dL_law_339 : decode cL_law 339 = .ok (.ifCond .ne 20, 3) := by decide +kernel
theorem dL_law_342 : decode cL_law 342 = .ok (.aload_n 1, 1) := by decide +kernel
theorem dL_law_343 : decode cL_law 343 = .ok (.iconst 0, 1) := by decide +kernel
theorem dL_law_344 : decode cL_law 344 = .ok (.iconst 0, 1) := by decide +kernel
theorem dL_law_345 : decode cL_law 345 = .ok (.invokestatic 130, 3) := by decide +kernel
theorem dL_law_348 : decode cL_law 348 = .ok (.ldc2_w 50, 3) := by decide +kernel
theorem dL_law_351 : decode cL_law 351 = .ok (.lcmp, 1) := by decide +kernel
theorem dL_law_352 : decode cL_law 352 = .ok (.ifCond .ne 7, 3) := by decide +kernel
theorem dL_law_355 : decode cL_law 355 = .ok (.iconst 1, 1) := by decide +kernel
theorem dL_law_356 : decode cL_law 356 = .ok (.goto 4, 3) := by decide +kernel
theorem dL_law_359 : decode cL_law 359 = .ok (.iconst 0, 1) := by decide +kernel
theorem dL_law_360 : decode cL_law 360 = .ok (.ireturn, 1) := by decide +kernel
