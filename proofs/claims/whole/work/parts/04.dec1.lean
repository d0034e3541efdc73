theorem dX11_pension_38 : decode cX11_pension 38 = .ok (.aaload, 1) := by decide +kernel
theorem dX11_pension_39 : decode cX11_pension 39 = .ok (.getfield 247, 3) := by decide +kernel
theorem dX11_pension_42 : decode cX11_pension 42 = .ok (.iload_n 2, 1) := by decide +kernel
theorem dX11_pension_43 : decode cX11_pension 43 = .ok (.iload_n 3, 1) := by decide +kernel
theorem dX11_pension_44 : decode cX11_pension 44 = .ok (.invokevirtual 83, 3) := by decide +kernel
theorem dX11_pension_47 : decode cX11_pension 47 = .ok (.aload_n 0, 1) := by decide +kernel
theorem dX11_pension_48 : decode cX11_pension 48 = .ok (.getfield 18, 3) := by decide +kernel
theorem dX11_pension_51 : decode cX11_pension 51 = .ok (.iload_n 1, 1) := by decide +kernel
theorem dX11_pension_52 : decode cX11_pension 52 = .ok (.aaload, 1) := by decide +kernel
theorem dX11_pension_53 : decode cX11_pension 53 = .ok (.getfield 94, 3) := by decide +kernel
theorem dX11_pension_56 : decode cX11_pension 56 = .ok (.iconst 1, 1) := by decide +kernel
theorem dX11_pension_57 : decode cX11_pension 57 = .ok (.putfield 98, 3) := by decide +kernel
theorem dX11_pension_60 : decode cX11_pension 60 = .ok (.return_, 1) := by decide +kernel
theorem dX11_yearTax_0 : decode cX11_yearTax 0 = .ok (.iload_n 1, 1) := by decide +kernel
theorem dX11_yearTax_1 : decode cX11_yearTax 1 = .ok (.invokestatic 49, 3) := by decide +kernel
theorem dX11_yearTax_4 : decode cX11_yearTax 4 = .ok (.ifCond .eq 14, 3) := by decide +kernel
theorem dX11_yearTax_7 : decode cX11_yearTax 7 = .ok (.iload_n 3, 1) := by decide +kernel
theorem dX11_yearTax_8 : decode cX11_yearTax 8 = .ok (.invokestatic 141, 3) := by decide +kernel
theorem dX11_yearTax_11 : decode cX11_yearTax 11 = .ok (.ifCond .eq 7, 3) := by decide +kernel
theorem dX11_yearTax_14 : decode cX11_yearTax 14 = .ok (.iconst 1, 1) := by decide +kernel
theorem dX11_yearTax_15 : decode cX11_yearTax 15 = .ok (.goto 4, 3) := by decide +kernel
theorem dX11_yearTax_18 : decode cX11_yearTax 18 = .ok (.iconst 0, 1) := by decide +kernel
theorem dX11_yearTax_19 : decode cX11_yearTax 19 = .ok (.invokestatic 55, 3) := by decide +kernel
theorem dX11_yearTax_22 : decode cX11_yearTax 22 = .ok (.iload_n 2, 1) := by decide +kernel
theorem dX11_yearTax_23 : decode cX11_yearTax 23 = .ok (.invokestatic 226, 3) := by decide +kernel
theorem dX11_yearTax_26 : decode cX11_yearTax 26 = .ok (.ifCond .eq 23, 3) := by decide +kernel
theorem dX11_yearTax_29 : decode cX11_yearTax 29 = .ok (.lload 4, 2) := by decide +kernel
theorem dX11_yearTax_31 : decode cX11_yearTax 31 = .ok (.lconst 0, 1) := by decide +kernel
theorem dX11_yearTax_32 : decode cX11_yearTax 32 = .ok (.lcmp, 1) := by decide +kernel
theorem dX11_yearTax_33 : decode cX11_yearTax 33 = .ok (.ifCond .lt 16, 3) := by decide +kernel
theorem dX11_yearTax_36 : decode cX11_yearTax 36 = .ok (.lload 4, 2) := by decide +kernel
theorem dX11_yearTax_38 : decode cX11_yearTax 38 = .ok (.ldc2_w 250, 3) := by decide +kernel
theorem dX11_yearTax_41 : decode cX11_yearTax 41 = .ok (.lcmp, 1) := by decide +kernel
theorem dX11_yearTax_42 : decode cX11_yearTax 42 = .ok (.ifCond .gt 7, 3) := by decide +kernel
theorem dX11_yearTax_45 : decode cX11_yearTax 45 = .ok (.iconst 1, 1) := by decide +kernel
theorem dX11_yearTax_46 : decode cX11_yearTax 46 = .ok (.goto 4, 3) := by decide +kernel
theorem dX11_yearTax_49 : decode cX11_yearTax 49 = .ok (.iconst 0, 1) := by decide +kernel
theorem dX11_yearTax_50 : decode cX11_yearTax 50 = .ok (.invokestatic 64, 3) := by decide +kernel
theorem dX11_yearTax_53 : decode cX11_yearTax 53 = .ok (.aload_n 0, 1) := by decide +kernel
theorem dX11_yearTax_54 : decode cX11_yearTax 54 = .ok (.getfield 24, 3) := by decide +kernel
theorem dX11_yearTax_57 : decode cX11_yearTax 57 = .ok (.iload_n 1, 1) := by decide +kernel
theorem dX11_yearTax_58 : decode cX11_yearTax 58 = .ok (.aaload, 1) := by decide +kernel
theorem dX11_yearTax_59 : decode cX11_yearTax 59 = .ok (.getfield 230, 3) := by decide +kernel
theorem dX11_yearTax_62 : decode cX11_yearTax 62 = .ok (.iload_n 2, 1) := by decide +kernel
theorem dX11_yearTax_63 : decode cX11_yearTax 63 = .ok (.aaload, 1) := by decide +kernel
theorem dX11_yearTax_64 : decode cX11_yearTax 64 = .ok (.lload 4, 2) := by decide +kernel
theorem dX11_yearTax_66 : decode cX11_yearTax 66 = .ok (.iload_n 3, 1) := by decide +kernel
theorem dX11_yearTax_67 : decode cX11_yearTax 67 = .ok (.invokevirtual 252, 3) := by decide +kernel
theorem dX11_yearTax_70 : decode cX11_yearTax 70 = .ok (.lreturn, 1) := by decide +kernel
theorem dX11_slip_0 : decode cX11_slip 0 = .ok (.iload_n 1, 1) := by decide +kernel
theorem dX11_slip_1 : decode cX11_slip 1 = .ok (.invokestatic 45, 3) := by decide +kernel
theorem dX11_slip_4 : decode cX11_slip 4 = .ok (.ifCond .eq 14, 3) := by decide +kernel
theorem dX11_slip_7 : decode cX11_slip 7 = .ok (.iload_n 2, 1) := by decide +kernel
theorem dX11_slip_8 : decode cX11_slip 8 = .ok (.invokestatic 141, 3) := by decide +kernel
theorem dX11_slip_11 : decode cX11_slip 11 = .ok (.ifCond .eq 7, 3) := by decide +kernel
theorem dX11_slip_14 : decode cX11_slip 14 = .ok (.iconst 1, 1) := by decide +kernel
theorem dX11_slip_15 : decode cX11_slip 15 = .ok (.goto 4, 3) := by decide +kernel
theorem dX11_slip_18 : decode cX11_slip 18 = .ok (.iconst 0, 1) := by decide +kernel
theorem dX11_slip_19 : decode cX11_slip 19 = .ok (.invokestatic 55, 3) := by decide +kernel
theorem dX11_slip_22 : decode cX11_slip 22 = .ok (.iload_n 3, 1) := by decide +kernel
theorem dX11_slip_23 : decode cX11_slip 23 = .ok (.iconst 0, 1) := by decide +kernel
theorem dX11_slip_24 : decode cX11_slip 24 = .ok (.bipush 7, 2) := by decide +kernel
theorem dX11_slip_26 : decode cX11_slip 26 = .ok (.invokestatic 59, 3) := by decide +kernel
theorem dX11_slip_29 : decode cX11_slip 29 = .ok (.invokestatic 64, 3) := by decide +kernel
theorem dX11_slip_32 : decode cX11_slip 32 = .ok (.aload_n 0, 1) := by decide +kernel
theorem dX11_slip_33 : decode cX11_slip 33 = .ok (.iload_n 1, 1) := by decide +kernel
theorem dX11_slip_34 : decode cX11_slip 34 = .ok (.invokevirtual 144, 3) := by decide +kernel
theorem dX11_slip_37 : decode cX11_slip 37 = .ok (.iload_n 2, 1) := by decide +kernel
theorem dX11_slip_38 : decode cX11_slip 38 = .ok (.iload_n 3, 1) := by decide +kernel
theorem dX11_slip_39 : decode cX11_slip 39 = .ok (.invokevirtual 256, 3) := by decide +kernel
theorem dX11_slip_42 : decode cX11_slip 42 = .ok (.lreturn, 1) := by decide +kernel
theorem dX11_slipIn_0 : decode cX11_slipIn 0 = .ok (.iload_n 1, 1) := by decide +kernel
theorem dX11_slipIn_1 : decode cX11_slipIn 1 = .ok (.invokestatic 45, 3) := by decide +kernel
theorem dX11_slipIn_4 : decode cX11_slipIn 4 = .ok (.ifCond .eq 21, 3) := by decide +kernel
theorem dX11_slipIn_7 : decode cX11_slipIn 7 = .ok (.iload_n 2, 1) := by decide +kernel
theorem dX11_slipIn_8 : decode cX11_slipIn 8 = .ok (.invokestatic 141, 3) := by decide +kernel
theorem dX11_slipIn_11 : decode cX11_slipIn 11 = .ok (.ifCond .eq 14, 3) := by decide +kernel
theorem dX11_slipIn_14 : decode cX11_slipIn 14 = .ok (.iload_n 3, 1) := by decide +kernel
theorem dX11_slipIn_15 : decode cX11_slipIn 15 = .ok (.invokestatic 49, 3) := by decide +kernel
theorem dX11_slipIn_18 : decode cX11_slipIn 18 = .ok (.ifCond .eq 7, 3) := by decide +kernel
theorem dX11_slipIn_21 : decode cX11_slipIn 21 = .ok (.iconst 1, 1) := by decide +kernel
theorem dX11_slipIn_22 : decode cX11_slipIn 22 = .ok (.goto 4, 3) := by decide +kernel
theorem dX11_slipIn_25 : decode cX11_slipIn 25 = .ok (.iconst 0, 1) := by decide +kernel
theorem dX11_slipIn_26 : decode cX11_slipIn 26 = .ok (.invokestatic 55, 3) := by decide +kernel
theorem dX11_slipIn_29 : decode cX11_slipIn 29 = .ok (.iload 4, 2) := by decide +kernel
theorem dX11_slipIn_31 : decode cX11_slipIn 31 = .ok (.ifCond .eq 15, 3) := by decide +kernel
theorem dX11_slipIn_34 : decode cX11_slipIn 34 = .ok (.iload 4, 2) := by decide +kernel
theorem dX11_slipIn_36 : decode cX11_slipIn 36 = .ok (.iconst 1, 1) := by decide +kernel
theorem dX11_slipIn_37 : decode cX11_slipIn 37 = .ok (.if_icmp .eq 9, 3) := by decide +kernel
theorem dX11_slipIn_40 : decode cX11_slipIn 40 = .ok (.iload 4, 2) := by decide +kernel
theorem dX11_slipIn_42 : decode cX11_slipIn 42 = .ok (.iconst 3, 1) := by decide +kernel
theorem dX11_slipIn_43 : decode cX11_slipIn 43 = .ok (.if_icmp .ne 7, 3) := by decide +kernel
theorem dX11_slipIn_46 : decode cX11_slipIn 46 = .ok (.iconst 1, 1) := by decide +kernel
theorem dX11_slipIn_47 : decode cX11_slipIn 47 = .ok (.goto 4, 3) := by decide +kernel
theorem dX11_slipIn_50 : decode cX11_slipIn 50 = .ok (.iconst 0, 1) := by decide +kernel
theorem dX11_slipIn_51 : decode cX11_slipIn 51 = .ok (.invokestatic 64, 3) := by decide +kernel
theorem dX11_slipIn_54 : decode cX11_slipIn 54 = .ok (.aload_n 0, 1) := by decide +kernel
theorem dX11_slipIn_55 : decode cX11_slipIn 55 = .ok (.iload_n 1, 1) := by decide +kernel
theorem dX11_slipIn_56 : decode cX11_slipIn 56 = .ok (.invokevirtual 144, 3) := by decide +kernel
theorem dX11_slipIn_59 : decode cX11_slipIn 59 = .ok (.iload_n 2, 1) := by decide +kernel
theorem dX11_slipIn_60 : decode cX11_slipIn 60 = .ok (.iload_n 3, 1) := by decide +kernel
theorem dX11_slipIn_61 : decode cX11_slipIn 61 = .ok (.iload 4, 2) := by decide +kernel
theorem dX11_slipIn_63 : decode cX11_slipIn 63 = .ok (.invokevirtual 260, 3) := by decide +kernel
theorem dX11_slipIn_66 : decode cX11_slipIn 66 = .ok (.lreturn, 1) := by decide +kernel
theorem dX11_elementOf_0 : decode cX11_elementOf 0 = .ok (.aload_n 0, 1) := by decide +kernel
theorem dX11_elementOf_1 : decode cX11_elementOf 1 = .ok (.iload_n 1, 1) := by decide +kernel
theorem dX11_elementOf_2 : decode cX11_elementOf 2 = .ok (.invokevirtual 207, 3) := by decide +kernel
theorem dX11_elementOf_5 : decode cX11_elementOf 5 = .ok (.ifCond .eq 21, 3) := by decide +kernel
theorem dX11_elementOf_8 : decode cX11_elementOf 8 = .ok (.iload_n 2, 1) := by decide +kernel
theorem dX11_elementOf_9 : decode cX11_elementOf 9 = .ok (.invokestatic 45, 3) := by decide +kernel
theorem dX11_elementOf_12 : decode cX11_elementOf 12 = .ok (.ifCond .eq 14, 3) := by decide +kernel
theorem dX11_elementOf_15 : decode cX11_elementOf 15 = .ok (.iload_n 3, 1) := by decide +kernel
theorem dX11_elementOf_16 : decode cX11_elementOf 16 = .ok (.invokestatic 141, 3) := by decide +kernel
theorem dX11_elementOf_19 : decode cX11_elementOf 19 = .ok (.ifCond .eq 7, 3) := by decide +kernel
theorem dX11_elementOf_22 : decode cX11_elementOf 22 = .ok (.iconst 1, 1) := by decide +kernel
theorem dX11_elementOf_23 : decode cX11_elementOf 23 = .ok (.goto 4, 3) := by decide +kernel
theorem dX11_elementOf_26 : decode cX11_elementOf 26 = .ok (.iconst 0, 1) := by decide +kernel
theorem dX11_elementOf_27 : decode cX11_elementOf 27 = .ok (.invokestatic 55, 3) := by decide +kernel
theorem dX11_elementOf_30 : decode cX11_elementOf 30 = .ok (.aload_n 0, 1) := by decide +kernel
theorem dX11_elementOf_31 : decode cX11_elementOf 31 = .ok (.iload_n 2, 1) := by decide +kernel
theorem dX11_elementOf_32 : decode cX11_elementOf 32 = .ok (.invokevirtual 144, 3) := by decide +kernel
theorem dX11_elementOf_35 : decode cX11_elementOf 35 = .ok (.getfield 264, 3) := by decide +kernel
theorem dX11_elementOf_38 : decode cX11_elementOf 38 = .ok (.iload_n 1, 1) := by decide +kernel
theorem dX11_elementOf_39 : decode cX11_elementOf 39 = .ok (.aaload, 1) := by decide +kernel
theorem dX11_elementOf_40 : decode cX11_elementOf 40 = .ok (.iload_n 3, 1) := by decide +kernel
theorem dX11_elementOf_41 : decode cX11_elementOf 41 = .ok (.laload, 1) := by decide +kernel
theorem dX11_elementOf_42 : decode cX11_elementOf 42 = .ok (.lreturn, 1) := by decide +kernel
theorem dX11_pensionOf_0 : decode cX11_pensionOf 0 = .ok (.iload_n 1, 1) := by decide +kernel
theorem dX11_pensionOf_1 : decode cX11_pensionOf 1 = .ok (.invokestatic 45, 3) := by decide +kernel
theorem dX11_pensionOf_4 : decode cX11_pensionOf 4 = .ok (.ifCond .eq 14, 3) := by decide +kernel
theorem dX11_pensionOf_7 : decode cX11_pensionOf 7 = .ok (.iload_n 2, 1) := by decide +kernel
theorem dX11_pensionOf_8 : decode cX11_pensionOf 8 = .ok (.invokestatic 141, 3) := by decide +kernel
theorem dX11_pensionOf_11 : decode cX11_pensionOf 11 = .ok (.ifCond .eq 7, 3) := by decide +kernel
theorem dX11_pensionOf_14 : decode cX11_pensionOf 14 = .ok (.iconst 1, 1) := by decide +kernel
theorem dX11_pensionOf_15 : decode cX11_pensionOf 15 = .ok (.goto 4, 3) := by decide +kernel
theorem dX11_pensionOf_18 : decode cX11_pensionOf 18 = .ok (.iconst 0, 1) := by decide +kernel
theorem dX11_pensionOf_19 : decode cX11_pensionOf 19 = .ok (.invokestatic 55, 3) := by decide +kernel
theorem dX11_pensionOf_22 : decode cX11_pensionOf 22 = .ok (.aload_n 0, 1) := by decide +kernel
theorem dX11_pensionOf_23 : decode cX11_pensionOf 23 = .ok (.iload_n 1, 1) := by decide +kernel
theorem dX11_pensionOf_24 : decode cX11_pensionOf 24 = .ok (.invokevirtual 144, 3) := by decide +kernel
theorem dX11_pensionOf_27 : decode cX11_pensionOf 27 = .ok (.iload_n 2, 1) := by decide +kernel
theorem dX11_pensionOf_28 : decode cX11_pensionOf 28 = .ok (.invokevirtual 268, 3) := by decide +kernel
theorem dX11_pensionOf_31 : decode cX11_pensionOf 31 = .ok (.lreturn, 1) := by decide +kernel
theorem dX11_grossFor_0 : decode cX11_grossFor 0 = .ok (.iload_n 1, 1) := by decide +kernel
theorem dX11_grossFor_1 : decode cX11_grossFor 1 = .ok (.invokestatic 45, 3) := by decide +kernel
theorem dX11_grossFor_4 : decode cX11_grossFor 4 = .ok (.ifCond .eq 21, 3) := by decide +kernel
theorem dX11_grossFor_7 : decode cX11_grossFor 7 = .ok (.iload_n 2, 1) := by decide +kernel
theorem dX11_grossFor_8 : decode cX11_grossFor 8 = .ok (.invokestatic 141, 3) := by decide +kernel
theorem dX11_grossFor_11 : decode cX11_grossFor 11 = .ok (.ifCond .eq 14, 3) := by decide +kernel
theorem dX11_grossFor_14 : decode cX11_grossFor 14 = .ok (.iload_n 3, 1) := by decide +kernel
theorem dX11_grossFor_15 : decode cX11_grossFor 15 = .ok (.invokestatic 49, 3) := by decide +kernel
theorem dX11_grossFor_18 : decode cX11_grossFor 18 = .ok (.ifCond .eq 7, 3) := by decide +kernel
theorem dX11_grossFor_21 : decode cX11_grossFor 21 = .ok (.iconst 1, 1) := by decide +kernel
theorem dX11_grossFor_22 : decode cX11_grossFor 22 = .ok (.goto 4, 3) := by decide +kernel
theorem dX11_grossFor_25 : decode cX11_grossFor 25 = .ok (.iconst 0, 1) := by decide +kernel
theorem dX11_grossFor_26 : decode cX11_grossFor 26 = .ok (.invokestatic 55, 3) := by decide +kernel
theorem dX11_grossFor_29 : decode cX11_grossFor 29 = .ok (.iload 4, 2) := by decide +kernel
theorem dX11_grossFor_31 : decode cX11_grossFor 31 = .ok (.iconst 1, 1) := by decide +kernel
theorem dX11_grossFor_32 : decode cX11_grossFor 32 = .ok (.ldc 63, 2) := by decide +kernel
theorem dX11_grossFor_34 : decode cX11_grossFor 34 = .ok (.invokestatic 59, 3) := by decide +kernel
theorem dX11_grossFor_37 : decode cX11_grossFor 37 = .ok (.invokestatic 64, 3) := by decide +kernel
theorem dX11_grossFor_40 : decode cX11_grossFor 40 = .ok (.aload_n 0, 1) := by decide +kernel
theorem dX11_grossFor_41 : decode cX11_grossFor 41 = .ok (.iload_n 1, 1) := by decide +kernel
theorem dX11_grossFor_42 : decode cX11_grossFor 42 = .ok (.invokevirtual 144, 3) := by decide +kernel
theorem dX11_grossFor_45 : decode cX11_grossFor 45 = .ok (.astore 5, 2) := by decide +kernel
theorem dX11_grossFor_47 : decode cX11_grossFor 47 = .ok (.aload 5, 2) := by decide +kernel
theorem dX11_grossFor_49 : decode cX11_grossFor 49 = .ok (.getfield 271, 3) := by decide +kernel
theorem dX11_grossFor_52 : decode cX11_grossFor 52 = .ok (.iload_n 2, 1) := by decide +kernel
theorem dX11_grossFor_53 : decode cX11_grossFor 53 = .ok (.laload, 1) := by decide +kernel
theorem dX11_grossFor_54 : decode cX11_grossFor 54 = .ok (.iload 4, 2) := by decide +kernel
theorem dX11_grossFor_56 : decode cX11_grossFor 56 = .ok (.i2l, 1) := by decide +kernel
theorem dX11_grossFor_57 : decode cX11_grossFor 57 = .ok (.ladd, 1) := by decide +kernel
theorem dX11_grossFor_58 : decode cX11_grossFor 58 = .ok (.lstore 6, 2) := by decide +kernel
theorem dX11_grossFor_60 : decode cX11_grossFor 60 = .ok (.aload 5, 2) := by decide +kernel
theorem dX11_grossFor_62 : decode cX11_grossFor 62 = .ok (.getfield 275, 3) := by decide +kernel
theorem dX11_grossFor_65 : decode cX11_grossFor 65 = .ok (.iload_n 3, 1) := by decide +kernel
theorem dX11_grossFor_66 : decode cX11_grossFor 66 = .ok (.aaload, 1) := by decide +kernel
theorem dX11_grossFor_67 : decode cX11_grossFor 67 = .ok (.iload_n 2, 1) := by decide +kernel
theorem dX11_grossFor_68 : decode cX11_grossFor 68 = .ok (.laload, 1) := by decide +kernel
theorem dX11_grossFor_69 : decode cX11_grossFor 69 = .ok (.lstore 8, 2) := by decide +kernel
theorem dX11_grossFor_71 : decode cX11_grossFor 71 = .ok (.iconst 0, 1) := by decide +kernel
theorem dX11_grossFor_72 : decode cX11_grossFor 72 = .ok (.istore 10, 2) := by decide +kernel
theorem dX11_grossFor_74 : decode cX11_grossFor 74 = .ok (.iconst 1, 1) := by decide +kernel
theorem dX11_grossFor_75 : decode cX11_grossFor 75 = .ok (.istore 11, 2) := by decide +kernel
theorem dX11_grossFor_77 : decode cX11_grossFor 77 = .ok (.iload 11, 2) := by decide +kernel
theorem dX11_grossFor_79 : decode cX11_grossFor 79 = .ok (.sipush 200, 3) := by decide +kernel
theorem dX11_grossFor_82 : decode cX11_grossFor 82 = .ok (.if_icmp .gt 61, 3) := by decide +kernel
theorem dX11_grossFor_85 : decode cX11_grossFor 85 = .ok (.aload 5, 2) := by decide +kernel
theorem dX11_grossFor_87 : decode cX11_grossFor 87 = .ok (.getfield 271, 3) := by decide +kernel
theorem dX11_grossFor_90 : decode cX11_grossFor 90 = .ok (.iload_n 2, 1) := by decide +kernel
theorem dX11_grossFor_91 : decode cX11_grossFor 91 = .ok (.laload, 1) := by decide +kernel
theorem dX11_grossFor_92 : decode cX11_grossFor 92 = .ok (.lload 6, 2) := by decide +kernel
theorem dX11_grossFor_94 : decode cX11_grossFor 94 = .ok (.lcmp, 1) := by decide +kernel
theorem dX11_grossFor_95 : decode cX11_grossFor 95 = .ok (.ifCond .ge 48, 3) := by decide +kernel
theorem dX11_grossFor_98 : decode cX11_grossFor 98 = .ok (.iload 11, 2) := by decide +kernel
theorem dX11_grossFor_100 : decode cX11_grossFor 100 = .ok (.sipush 10000, 3) := by decide +kernel
theorem dX11_grossFor_103 : decode cX11_grossFor 103 = .ok (.imul, 1) := by decide +kernel
theorem dX11_grossFor_104 : decode cX11_grossFor 104 = .ok (.istore 10, 2) := by decide +kernel
theorem dX11_grossFor_106 : decode cX11_grossFor 106 = .ok (.aload 5, 2) := by decide +kernel
theorem dX11_grossFor_108 : decode cX11_grossFor 108 = .ok (.getfield 275, 3) := by decide +kernel
theorem dX11_grossFor_111 : decode cX11_grossFor 111 = .ok (.iload_n 3, 1) := by decide +kernel
theorem dX11_grossFor_112 : decode cX11_grossFor 112 = .ok (.aaload, 1) := by decide +kernel
theorem dX11_grossFor_113 : decode cX11_grossFor 113 = .ok (.iload_n 2, 1) := by decide +kernel
theorem dX11_grossFor_114 : decode cX11_grossFor 114 = .ok (.lload 8, 2) := by decide +kernel
theorem dX11_grossFor_116 : decode cX11_grossFor 116 = .ok (.iload 10, 2) := by decide +kernel
theorem dX11_grossFor_118 : decode cX11_grossFor 118 = .ok (.i2l, 1) := by decide +kernel
theorem dX11_grossFor_119 : decode cX11_grossFor 119 = .ok (.ladd, 1) := by decide +kernel
theorem dX11_grossFor_120 : decode cX11_grossFor 120 = .ok (.lastore, 1) := by decide +kernel
theorem dX11_grossFor_121 : decode cX11_grossFor 121 = .ok (.aload 5, 2) := by decide +kernel
theorem dX11_grossFor_123 : decode cX11_grossFor 123 = .ok (.iload_n 2, 1) := by decide +kernel
theorem dX11_grossFor_124 : decode cX11_grossFor 124 = .ok (.aload_n 0, 1) := by decide +kernel
theorem dX11_grossFor_125 : decode cX11_grossFor 125 = .ok (.getfield 18, 3) := by decide +kernel
theorem dX11_grossFor_128 : decode cX11_grossFor 128 = .ok (.iload_n 1, 1) := by decide +kernel
theorem dX11_grossFor_129 : decode cX11_grossFor 129 = .ok (.aaload, 1) := by decide +kernel
theorem dX11_grossFor_130 : decode cX11_grossFor 130 = .ok (.aload_n 0, 1) := by decide +kernel
theorem dX11_grossFor_131 : decode cX11_grossFor 131 = .ok (.getfield 24, 3) := by decide +kernel
theorem dX11_grossFor_134 : decode cX11_grossFor 134 = .ok (.invokevirtual 278, 3) := by decide +kernel
theorem dX11_grossFor_137 : decode cX11_grossFor 137 = .ok (.iinc 11 1, 3) := by decide +kernel
theorem dX11_grossFor_140 : decode cX11_grossFor 140 = .ok (.goto (-63), 3) := by decide +kernel
theorem dX11_grossFor_143 : decode cX11_grossFor 143 = .ok (.aload 5, 2) := by decide +kernel
theorem dX11_grossFor_145 : decode cX11_grossFor 145 = .ok (.getfield 271, 3) := by decide +kernel
theorem dX11_grossFor_148 : decode cX11_grossFor 148 = .ok (.iload_n 2, 1) := by decide +kernel
theorem dX11_grossFor_149 : decode cX11_grossFor 149 = .ok (.laload, 1) := by decide +kernel
theorem dX11_grossFor_150 : decode cX11_grossFor 150 = .ok (.lload 6, 2) := by decide +kernel
theorem dX11_grossFor_152 : decode cX11_grossFor 152 = .ok (.lcmp, 1) := by decide +kernel
theorem dX11_grossFor_153 : decode cX11_grossFor 153 = .ok (.ifCond .lt 7, 3) := by decide +kernel
theorem dX11_grossFor_156 : decode cX11_grossFor 156 = .ok (.iconst 1, 1) := by decide +kernel
theorem dX11_grossFor_157 : decode cX11_grossFor 157 = .ok (.goto 4, 3) := by decide +kernel
theorem dX11_grossFor_160 : decode cX11_grossFor 160 = .ok (.iconst 0, 1) := by decide +kernel
theorem dX11_grossFor_161 : decode cX11_grossFor 161 = .ok (.istore 11, 2) := by decide +kernel
theorem dX11_grossFor_163 : decode cX11_grossFor 163 = .ok (.aload 5, 2) := by decide +kernel
theorem dX11_grossFor_165 : decode cX11_grossFor 165 = .ok (.getfield 275, 3) := by decide +kernel
theorem dX11_grossFor_168 : decode cX11_grossFor 168 = .ok (.iload_n 3, 1) := by decide +kernel
theorem dX11_grossFor_169 : decode cX11_grossFor 169 = .ok (.aaload, 1) := by decide +kernel
theorem dX11_grossFor_170 : decode cX11_grossFor 170 = .ok (.iload_n 2, 1) := by decide +kernel
theorem dX11_grossFor_171 : decode cX11_grossFor 171 = .ok (.lload 8, 2) := by decide +kernel
theorem dX11_grossFor_173 : decode cX11_grossFor 173 = .ok (.lastore, 1) := by decide +kernel
theorem dX11_grossFor_174 : decode cX11_grossFor 174 = .ok (.aload 5, 2) := by decide +kernel
theorem dX11_grossFor_176 : decode cX11_grossFor 176 = .ok (.iload_n 2, 1) := by decide +kernel
theorem dX11_grossFor_177 : decode cX11_grossFor 177 = .ok (.aload_n 0, 1) := by decide +kernel
theorem dX11_grossFor_178 : decode cX11_grossFor 178 = .ok (.getfield 18, 3) := by decide +kernel
theorem dX11_grossFor_181 : decode cX11_grossFor 181 = .ok (.iload_n 1, 1) := by decide +kernel
theorem dX11_grossFor_182 : decode cX11_grossFor 182 = .ok (.aaload, 1) := by decide +kernel
theorem dX11_grossFor_183 : decode cX11_grossFor 183 = .ok (.aload_n 0, 1) := by decide +kernel
theorem dX11_grossFor_184 : decode cX11_grossFor 184 = .ok (.getfield 24, 3) := by decide +kernel
theorem dX11_grossFor_187 : decode cX11_grossFor 187 = .ok (.invokevirtual 278, 3) := by decide +kernel
theorem dX11_grossFor_190 : decode cX11_grossFor 190 = .ok (.iload 11, 2) := by decide +kernel
theorem dX11_grossFor_192 : decode cX11_grossFor 192 = .ok (.ifCond .eq 8, 3) := by decide +kernel
theorem dX11_grossFor_195 : decode cX11_grossFor 195 = .ok (.iload 10, 2) := by decide +kernel
theorem dX11_grossFor_197 : decode cX11_grossFor 197 = .ok (.goto 4, 3) := by decide +kernel
theorem dX11_grossFor_200 : decode cX11_grossFor 200 = .ok (.iconst (-1), 1) := by decide +kernel
theorem dX11_grossFor_201 : decode cX11_grossFor 201 = .ok (.ireturn, 1) := by decide +kernel
theorem dX11_garnish_0 : decode cX11_garnish 0 = .ok (.iload_n 1, 1) := by decide +kernel
theorem dX11_garnish_1 : decode cX11_garnish 1 = .ok (.invokestatic 45, 3) := by decide +kernel
theorem dX11_garnish_4 : decode cX11_garnish 4 = .ok (.ifCond .eq 14, 3) := by decide +kernel
theorem dX11_garnish_7 : decode cX11_garnish 7 = .ok (.iload_n 2, 1) := by decide +kernel
theorem dX11_garnish_8 : decode cX11_garnish 8 = .ok (.invokestatic 141, 3) := by decide +kernel
theorem dX11_garnish_11 : decode cX11_garnish 11 = .ok (.ifCond .eq 7, 3) := by decide +kernel
theorem dX11_garnish_14 : decode cX11_garnish 14 = .ok (.iconst 1, 1) := by decide +kernel
theorem dX11_garnish_15 : decode cX11_garnish 15 = .ok (.goto 4, 3) := by decide +kernel
theorem dX11_garnish_18 : decode cX11_garnish 18 = .ok (.iconst 0, 1) := by decide +kernel
theorem dX11_garnish_19 : decode cX11_garnish 19 = .ok (.invokestatic 55, 3) := by decide +kernel
theorem dX11_garnish_22 : decode cX11_garnish 22 = .ok (.iload_n 3, 1) := by decide +kernel
theorem dX11_garnish_23 : decode cX11_garnish 23 = .ok (.iconst 0, 1) := by decide +kernel
theorem dX11_garnish_24 : decode cX11_garnish 24 = .ok (.bipush 9, 2) := by decide +kernel
theorem dX11_garnish_26 : decode cX11_garnish 26 = .ok (.invokestatic 59, 3) := by decide +kernel
theorem dX11_garnish_29 : decode cX11_garnish 29 = .ok (.ifCond .eq 18, 3) := by decide +kernel
theorem dX11_garnish_32 : decode cX11_garnish 32 = .ok (.iload 4, 2) := by decide +kernel
theorem dX11_garnish_34 : decode cX11_garnish 34 = .ok (.iconst 1, 1) := by decide +kernel
theorem dX11_garnish_35 : decode cX11_garnish 35 = .ok (.ldc 219, 2) := by decide +kernel
theorem dX11_garnish_37 : decode cX11_garnish 37 = .ok (.invokestatic 59, 3) := by decide +kernel
theorem dX11_garnish_40 : decode cX11_garnish 40 = .ok (.ifCond .eq 7, 3) := by decide +kernel
theorem dX11_garnish_43 : decode cX11_garnish 43 = .ok (.iconst 1, 1) := by decide +kernel
theorem dX11_garnish_44 : decode cX11_garnish 44 = .ok (.goto 4, 3) := by decide +kernel
theorem dX11_garnish_47 : decode cX11_garnish 47 = .ok (.iconst 0, 1) := by decide +kernel
theorem dX11_garnish_48 : decode cX11_garnish 48 = .ok (.invokestatic 64, 3) := by decide +kernel
theorem dX11_garnish_51 : decode cX11_garnish 51 = .ok (.iload 5, 2) := by decide +kernel
theorem dX11_garnish_53 : decode cX11_garnish 53 = .ok (.iconst 1, 1) := by decide +kernel
theorem dX11_garnish_54 : decode cX11_garnish 54 = .ok (.sipush 1000, 3) := by decide +kernel
theorem dX11_garnish_57 : decode cX11_garnish 57 = .ok (.invokestatic 59, 3) := by decide +kernel
theorem dX11_garnish_60 : decode cX11_garnish 60 = .ok (.ifCond .eq 18, 3) := by decide +kernel
theorem dX11_garnish_63 : decode cX11_garnish 63 = .ok (.iload 6, 2) := by decide +kernel
theorem dX11_garnish_65 : decode cX11_garnish 65 = .ok (.iconst 0, 1) := by decide +kernel
theorem dX11_garnish_66 : decode cX11_garnish 66 = .ok (.ldc 219, 2) := by decide +kernel
theorem dX11_garnish_68 : decode cX11_garnish 68 = .ok (.invokestatic 59, 3) := by decide +kernel
theorem dX11_garnish_71 : decode cX11_garnish 71 = .ok (.ifCond .eq 7, 3) := by decide +kernel
theorem dX11_garnish_74 : decode cX11_garnish 74 = .ok (.iconst 1, 1) := by decide +kernel
theorem dX11_garnish_75 : decode cX11_garnish 75 = .ok (.goto 4, 3) := by decide +kernel
theorem dX11_garnish_78 : decode cX11_garnish 78 = .ok (.iconst 0, 1) := by decide +kernel
theorem dX11_garnish_79 : decode cX11_garnish 79 = .ok (.invokestatic 64, 3) := by decide +kernel
theorem dX11_garnish_82 : decode cX11_garnish 82 = .ok (.aload_n 0, 1) := by decide +kernel
theorem dX11_garnish_83 : decode cX11_garnish 83 = .ok (.getfield 35, 3) := by decide +kernel
theorem dX11_garnish_86 : decode cX11_garnish 86 = .ok (.invokevirtual 67, 3) := by decide +kernel
theorem dX11_garnish_89 : decode cX11_garnish 89 = .ok (.bipush 6, 2) := by decide +kernel
theorem dX11_garnish_91 : decode cX11_garnish 91 = .ok (.if_icmp .ge 7, 3) := by decide +kernel
theorem dX11_garnish_94 : decode cX11_garnish 94 = .ok (.iconst 1, 1) := by decide +kernel
theorem dX11_garnish_95 : decode cX11_garnish 95 = .ok (.goto 4, 3) := by decide +kernel
theorem dX11_garnish_98 : decode cX11_garnish 98 = .ok (.iconst 0, 1) := by decide +kernel
theorem dX11_garnish_99 : decode cX11_garnish 99 = .ok (.invokestatic 71, 3) := by decide +kernel
theorem dX11_garnish_102 : decode cX11_garnish 102 = .ok (.new 282, 3) := by decide +kernel
theorem dX11_garnish_105 : decode cX11_garnish 105 = .ok (.dup, 1) := by decide +kernel
theorem dX11_garnish_106 : decode cX11_garnish 106 = .ok (.iload_n 1, 1) := by decide +kernel
theorem dX11_garnish_107 : decode cX11_garnish 107 = .ok (.iload_n 2, 1) := by decide +kernel
theorem dX11_garnish_108 : decode cX11_garnish 108 = .ok (.iload_n 3, 1) := by decide +kernel
theorem dX11_garnish_109 : decode cX11_garnish 109 = .ok (.iload 4, 2) := by decide +kernel
theorem dX11_garnish_111 : decode cX11_garnish 111 = .ok (.iload 5, 2) := by decide +kernel
theorem dX11_garnish_113 : decode cX11_garnish 113 = .ok (.iload 6, 2) := by decide +kernel
theorem dX11_garnish_115 : decode cX11_garnish 115 = .ok (.invokespecial 284, 3) := by decide +kernel
theorem dX11_garnish_118 : decode cX11_garnish 118 = .ok (.astore 7, 2) := by decide +kernel
theorem dX11_garnish_120 : decode cX11_garnish 120 = .ok (.aload_n 0, 1) := by decide +kernel
theorem dX11_garnish_121 : decode cX11_garnish 121 = .ok (.getfield 35, 3) := by decide +kernel
theorem dX11_garnish_124 : decode cX11_garnish 124 = .ok (.aload 7, 2) := by decide +kernel
theorem dX11_garnish_126 : decode cX11_garnish 126 = .ok (.invokevirtual 89, 3) := by decide +kernel
theorem dX11_garnish_129 : decode cX11_garnish 129 = .ok (.pop, 1) := by decide +kernel
theorem dX11_garnish_130 : decode cX11_garnish 130 = .ok (.aload_n 0, 1) := by decide +kernel
theorem dX11_garnish_131 : decode cX11_garnish 131 = .ok (.getfield 18, 3) := by decide +kernel
theorem dX11_garnish_134 : decode cX11_garnish 134 = .ok (.iload_n 1, 1) := by decide +kernel
theorem dX11_garnish_135 : decode cX11_garnish 135 = .ok (.aaload, 1) := by decide +kernel
theorem dX11_garnish_136 : decode cX11_garnish 136 = .ok (.aload 7, 2) := by decide +kernel
theorem dX11_garnish_138 : decode cX11_garnish 138 = .ok (.invokevirtual 287, 3) := by decide +kernel
theorem dX11_garnish_141 : decode cX11_garnish 141 = .ok (.aload_n 0, 1) := by decide +kernel
theorem dX11_garnish_142 : decode cX11_garnish 142 = .ok (.getfield 18, 3) := by decide +kernel
theorem dX11_garnish_145 : decode cX11_garnish 145 = .ok (.iload_n 1, 1) := by decide +kernel
theorem dX11_garnish_146 : decode cX11_garnish 146 = .ok (.aaload, 1) := by decide +kernel
theorem dX11_garnish_147 : decode cX11_garnish 147 = .ok (.getfield 94, 3) := by decide +kernel
theorem dX11_garnish_150 : decode cX11_garnish 150 = .ok (.iconst 1, 1) := by decide +kernel
theorem dX11_garnish_151 : decode cX11_garnish 151 = .ok (.putfield 98, 3) := by decide +kernel
theorem dX11_garnish_154 : decode cX11_garnish 154 = .ok (.aload_n 0, 1) := by decide +kernel
theorem dX11_garnish_155 : decode cX11_garnish 155 = .ok (.getfield 35, 3) := by decide +kernel
theorem dX11_garnish_158 : decode cX11_garnish 158 = .ok (.invokevirtual 67, 3) := by decide +kernel
theorem dX11_garnish_161 : decode cX11_garnish 161 = .ok (.iconst 1, 1) := by decide +kernel
theorem dX11_garnish_162 : decode cX11_garnish 162 = .ok (.isub, 1) := by decide +kernel
theorem dX11_garnish_163 : decode cX11_garnish 163 = .ok (.ireturn, 1) := by decide +kernel
theorem dX11_takenBy_0 : decode cX11_takenBy 0 = .ok (.iload_n 1, 1) := by decide +kernel
theorem dX11_takenBy_1 : decode cX11_takenBy 1 = .ok (.iconst 0, 1) := by decide +kernel
theorem dX11_takenBy_2 : decode cX11_takenBy 2 = .ok (.aload_n 0, 1) := by decide +kernel
theorem dX11_takenBy_3 : decode cX11_takenBy 3 = .ok (.getfield 35, 3) := by decide +kernel
theorem dX11_takenBy_6 : decode cX11_takenBy 6 = .ok (.invokevirtual 67, 3) := by decide +kernel
theorem dX11_takenBy_9 : decode cX11_takenBy 9 = .ok (.iconst 1, 1) := by decide +kernel
theorem dX11_takenBy_10 : decode cX11_takenBy 10 = .ok (.isub, 1) := by decide +kernel
theorem dX11_takenBy_11 : decode cX11_takenBy 11 = .ok (.invokestatic 59, 3) := by decide +kernel
theorem dX11_takenBy_14 : decode cX11_takenBy 14 = .ok (.ifCond .eq 14, 3) := by decide +kernel
theorem dX11_takenBy_17 : decode cX11_takenBy 17 = .ok (.iload_n 2, 1) := by decide +kernel
theorem dX11_takenBy_18 : decode cX11_takenBy 18 = .ok (.invokestatic 141, 3) := by decide +kernel
theorem dX11_takenBy_21 : decode cX11_takenBy 21 = .ok (.ifCond .eq 7, 3) := by decide +kernel
theorem dX11_takenBy_24 : decode cX11_takenBy 24 = .ok (.iconst 1, 1) := by decide +kernel
theorem dX11_takenBy_25 : decode cX11_takenBy 25 = .ok (.goto 4, 3) := by decide +kernel
theorem dX11_takenBy_28 : decode cX11_takenBy 28 = .ok (.iconst 0, 1) := by decide +kernel
theorem dX11_takenBy_29 : decode cX11_takenBy 29 = .ok (.invokestatic 55, 3) := by decide +kernel
theorem dX11_takenBy_32 : decode cX11_takenBy 32 = .ok (.aload_n 0, 1) := by decide +kernel
theorem dX11_takenBy_33 : decode cX11_takenBy 33 = .ok (.getfield 35, 3) := by decide +kernel
theorem dX11_takenBy_36 : decode cX11_takenBy 36 = .ok (.iload_n 1, 1) := by decide +kernel
theorem dX11_takenBy_37 : decode cX11_takenBy 37 = .ok (.invokevirtual 107, 3) := by decide +kernel
theorem dX11_takenBy_40 : decode cX11_takenBy 40 = .ok (.checkcast 282, 3) := by decide +kernel
theorem dX11_takenBy_43 : decode cX11_takenBy 43 = .ok (.astore_n 3, 1) := by decide +kernel
theorem dX11_takenBy_44 : decode cX11_takenBy 44 = .ok (.aload_n 0, 1) := by decide +kernel
theorem dX11_takenBy_45 : decode cX11_takenBy 45 = .ok (.aload_n 3, 1) := by decide +kernel
theorem dX11_takenBy_46 : decode cX11_takenBy 46 = .ok (.getfield 291, 3) := by decide +kernel
theorem dX11_takenBy_49 : decode cX11_takenBy 49 = .ok (.invokevirtual 144, 3) := by decide +kernel
theorem dX11_takenBy_52 : decode cX11_takenBy 52 = .ok (.pop, 1) := by decide +kernel
theorem dX11_takenBy_53 : decode cX11_takenBy 53 = .ok (.aload_n 3, 1) := by decide +kernel
theorem dX11_takenBy_54 : decode cX11_takenBy 54 = .ok (.getfield 292, 3) := by decide +kernel
theorem dX11_takenBy_57 : decode cX11_takenBy 57 = .ok (.iload_n 2, 1) := by decide +kernel
theorem dX11_takenBy_58 : decode cX11_takenBy 58 = .ok (.laload, 1) := by decide +kernel
theorem dX11_takenBy_59 : decode cX11_takenBy 59 = .ok (.lreturn, 1) := by decide +kernel
theorem dX11_advance_0 : decode cX11_advance 0 = .ok (.iload_n 1, 1) := by decide +kernel
theorem dX11_advance_1 : decode cX11_advance 1 = .ok (.invokestatic 45, 3) := by decide +kernel
theorem dX11_advance_4 : decode cX11_advance 4 = .ok (.invokestatic 55, 3) := by decide +kernel
theorem dX11_advance_7 : decode cX11_advance 7 = .ok (.iload_n 2, 1) := by decide +kernel
theorem dX11_advance_8 : decode cX11_advance 8 = .ok (.iconst 1, 1) := by decide +kernel
theorem dX11_advance_9 : decode cX11_advance 9 = .ok (.ldc 63, 2) := by decide +kernel
theorem dX11_advance_11 : decode cX11_advance 11 = .ok (.invokestatic 59, 3) := by decide +kernel
theorem dX11_advance_14 : decode cX11_advance 14 = .ok (.invokestatic 64, 3) := by decide +kernel
theorem dX11_advance_17 : decode cX11_advance 17 = .ok (.aload_n 0, 1) := by decide +kernel
theorem dX11_advance_18 : decode cX11_advance 18 = .ok (.getfield 295, 3) := by decide +kernel
theorem dX11_advance_21 : decode cX11_advance 21 = .ok (.invokestatic 141, 3) := by decide +kernel
theorem dX11_advance_24 : decode cX11_advance 24 = .ok (.invokestatic 71, 3) := by decide +kernel
theorem dX11_advance_27 : decode cX11_advance 27 = .ok (.aload_n 0, 1) := by decide +kernel
theorem dX11_advance_28 : decode cX11_advance 28 = .ok (.getfield 18, 3) := by decide +kernel
theorem dX11_advance_31 : decode cX11_advance 31 = .ok (.iload_n 1, 1) := by decide +kernel
theorem dX11_advance_32 : decode cX11_advance 32 = .ok (.aaload, 1) := by decide +kernel
theorem dX11_advance_33 : decode cX11_advance 33 = .ok (.astore_n 3, 1) := by decide +kernel
theorem dX11_advance_34 : decode cX11_advance 34 = .ok (.aload_n 3, 1) := by decide +kernel
theorem dX11_advance_35 : decode cX11_advance 35 = .ok (.getfield 298, 3) := by decide +kernel
theorem dX11_advance_38 : decode cX11_advance 38 = .ok (.aload_n 0, 1) := by decide +kernel
theorem dX11_advance_39 : decode cX11_advance 39 = .ok (.getfield 295, 3) := by decide +kernel
theorem dX11_advance_42 : decode cX11_advance 42 = .ok (.dup2, 1) := by decide +kernel
theorem dX11_advance_43 : decode cX11_advance 43 = .ok (.laload, 1) := by decide +kernel
theorem dX11_advance_44 : decode cX11_advance 44 = .ok (.iload_n 2, 1) := by decide +kernel
theorem dX11_advance_45 : decode cX11_advance 45 = .ok (.i2l, 1) := by decide +kernel
theorem dX11_advance_46 : decode cX11_advance 46 = .ok (.ladd, 1) := by decide +kernel
theorem dX11_advance_47 : decode cX11_advance 47 = .ok (.lastore, 1) := by decide +kernel
theorem dX11_advance_48 : decode cX11_advance 48 = .ok (.aload_n 3, 1) := by decide +kernel
theorem dX11_advance_49 : decode cX11_advance 49 = .ok (.dup, 1) := by decide +kernel
theorem dX11_advance_50 : decode cX11_advance 50 = .ok (.getfield 301, 3) := by decide +kernel
theorem dX11_advance_53 : decode cX11_advance 53 = .ok (.iload_n 2, 1) := by decide +kernel
theorem dX11_advance_54 : decode cX11_advance 54 = .ok (.i2l, 1) := by decide +kernel
theorem dX11_advance_55 : decode cX11_advance 55 = .ok (.ladd, 1) := by decide +kernel
theorem dX11_advance_56 : decode cX11_advance 56 = .ok (.putfield 301, 3) := by decide +kernel
theorem dX11_advance_59 : decode cX11_advance 59 = .ok (.aload_n 3, 1) := by decide +kernel
theorem dX11_advance_60 : decode cX11_advance 60 = .ok (.getfield 94, 3) := by decide +kernel
theorem dX11_advance_63 : decode cX11_advance 63 = .ok (.iconst 1, 1) := by decide +kernel
theorem dX11_advance_64 : decode cX11_advance 64 = .ok (.putfield 98, 3) := by decide +kernel
theorem dX11_advance_67 : decode cX11_advance 67 = .ok (.aload_n 3, 1) := by decide +kernel
theorem dX11_advance_68 : decode cX11_advance 68 = .ok (.getfield 301, 3) := by decide +kernel
theorem dX11_advance_71 : decode cX11_advance 71 = .ok (.lreturn, 1) := by decide +kernel
theorem dX11_open_0 : decode cX11_open 0 = .ok (.aload_n 0, 1) := by decide +kernel
theorem dX11_open_1 : decode cX11_open 1 = .ok (.getfield 295, 3) := by decide +kernel
theorem dX11_open_4 : decode cX11_open 4 = .ok (.ireturn, 1) := by decide +kernel
theorem dX11_close_0 : decode cX11_close 0 = .ok (.aload_n 0, 1) := by decide +kernel
theorem dX11_close_1 : decode cX11_close 1 = .ok (.getfield 295, 3) := by decide +kernel
theorem dX11_close_4 : decode cX11_close 4 = .ok (.invokestatic 141, 3) := by decide +kernel
theorem dX11_close_7 : decode cX11_close 7 = .ok (.invokestatic 71, 3) := by decide +kernel
theorem dX11_close_10 : decode cX11_close 10 = .ok (.aload_n 0, 1) := by decide +kernel
theorem dX11_close_11 : decode cX11_close 11 = .ok (.getfield 38, 3) := by decide +kernel
theorem dX11_close_14 : decode cX11_close 14 = .ok (.invokevirtual 67, 3) := by decide +kernel
theorem dX11_close_17 : decode cX11_close 17 = .ok (.istore_n 1, 1) := by decide +kernel
theorem dX11_close_18 : decode cX11_close 18 = .ok (.iconst 0, 1) := by decide +kernel
theorem dX11_close_19 : decode cX11_close 19 = .ok (.istore_n 2, 1) := by decide +kernel
theorem dX11_close_20 : decode cX11_close 20 = .ok (.iload_n 2, 1) := by decide +kernel
theorem dX11_close_21 : decode cX11_close 21 = .ok (.bipush 6, 2) := by decide +kernel
theorem dX11_close_23 : decode cX11_close 23 = .ok (.if_icmp .ge 25, 3) := by decide +kernel
theorem dX11_close_26 : decode cX11_close 26 = .ok (.aload_n 0, 1) := by decide +kernel
theorem dX11_close_27 : decode cX11_close 27 = .ok (.iload_n 2, 1) := by decide +kernel
theorem dX11_close_28 : decode cX11_close 28 = .ok (.invokevirtual 144, 3) := by decide +kernel
theorem dX11_close_31 : decode cX11_close 31 = .ok (.pop, 1) := by decide +kernel
theorem dX11_close_32 : decode cX11_close 32 = .ok (.aload_n 0, 1) := by decide +kernel
theorem dX11_close_33 : decode cX11_close 33 = .ok (.aload_n 0, 1) := by decide +kernel
theorem dX11_close_34 : decode cX11_close 34 = .ok (.getfield 18, 3) := by decide +kernel
theorem dX11_close_37 : decode cX11_close 37 = .ok (.iload_n 2, 1) := by decide +kernel
theorem dX11_close_38 : decode cX11_close 38 = .ok (.aaload, 1) := by decide +kernel
theorem dX11_close_39 : decode cX11_close 39 = .ok (.invokevirtual 305, 3) := by decide +kernel
theorem dX11_close_42 : decode cX11_close 42 = .ok (.iinc 2 1, 3) := by decide +kernel
theorem dX11_close_45 : decode cX11_close 45 = .ok (.goto (-25), 3) := by decide +kernel
theorem dX11_close_48 : decode cX11_close 48 = .ok (.iconst 0, 1) := by decide +kernel
theorem dX11_close_49 : decode cX11_close 49 = .ok (.istore_n 2, 1) := by decide +kernel
theorem dX11_close_50 : decode cX11_close 50 = .ok (.iload_n 2, 1) := by decide +kernel
theorem dX11_close_51 : decode cX11_close 51 = .ok (.iconst 3, 1) := by decide +kernel
theorem dX11_close_52 : decode cX11_close 52 = .ok (.if_icmp .ge 31, 3) := by decide +kernel
theorem dX11_close_55 : decode cX11_close 55 = .ok (.iconst 0, 1) := by decide +kernel
theorem dX11_close_56 : decode cX11_close 56 = .ok (.istore_n 3, 1) := by decide +kernel
theorem dX11_close_57 : decode cX11_close 57 = .ok (.iload_n 3, 1) := by decide +kernel
theorem dX11_close_58 : decode cX11_close 58 = .ok (.aload_n 0, 1) := by decide +kernel
theorem dX11_close_59 : decode cX11_close 59 = .ok (.getfield 295, 3) := by decide +kernel
theorem dX11_close_62 : decode cX11_close 62 = .ok (.if_icmp .gt 15, 3) := by decide +kernel
theorem dX11_close_65 : decode cX11_close 65 = .ok (.aload_n 0, 1) := by decide +kernel
theorem dX11_close_66 : decode cX11_close 66 = .ok (.iload_n 2, 1) := by decide +kernel
theorem dX11_close_67 : decode cX11_close 67 = .ok (.iload_n 3, 1) := by decide +kernel
theorem dX11_close_68 : decode cX11_close 68 = .ok (.invokevirtual 309, 3) := by decide +kernel
theorem dX11_close_71 : decode cX11_close 71 = .ok (.iinc 3 1, 3) := by decide +kernel
theorem dX11_close_74 : decode cX11_close 74 = .ok (.goto (-17), 3) := by decide +kernel
theorem dX11_close_77 : decode cX11_close 77 = .ok (.iinc 2 1, 3) := by decide +kernel
theorem dX11_close_80 : decode cX11_close 80 = .ok (.goto (-30), 3) := by decide +kernel
theorem dX11_close_83 : decode cX11_close 83 = .ok (.aload_n 0, 1) := by decide +kernel
theorem dX11_close_84 : decode cX11_close 84 = .ok (.dup, 1) := by decide +kernel
theorem dX11_close_85 : decode cX11_close 85 = .ok (.getfield 295, 3) := by decide +kernel
theorem dX11_close_88 : decode cX11_close 88 = .ok (.iconst 1, 1) := by decide +kernel
theorem dX11_close_89 : decode cX11_close 89 = .ok (.iadd, 1) := by decide +kernel
theorem dX11_close_90 : decode cX11_close 90 = .ok (.putfield 295, 3) := by decide +kernel
theorem dX11_close_93 : decode cX11_close 93 = .ok (.aload_n 0, 1) := by decide +kernel
theorem dX11_close_94 : decode cX11_close 94 = .ok (.getfield 38, 3) := by decide +kernel
theorem dX11_close_97 : decode cX11_close 97 = .ok (.invokevirtual 67, 3) := by decide +kernel
theorem dX11_close_100 : decode cX11_close 100 = .ok (.iload_n 1, 1) := by decide +kernel
theorem dX11_close_101 : decode cX11_close 101 = .ok (.isub, 1) := by decide +kernel
theorem dX11_close_102 : decode cX11_close 102 = .ok (.ireturn, 1) := by decide +kernel
theorem dX11_payments_0 : decode cX11_payments 0 = .ok (.aload_n 0, 1) := by decide +kernel
theorem dX11_payments_1 : decode cX11_payments 1 = .ok (.getfield 38, 3) := by decide +kernel
theorem dX11_payments_4 : decode cX11_payments 4 = .ok (.invokevirtual 67, 3) := by decide +kernel
theorem dX11_payments_7 : decode cX11_payments 7 = .ok (.ireturn, 1) := by decide +kernel
theorem dX11_payment_0 : decode cX11_payment 0 = .ok (.aload_n 0, 1) := by decide +kernel
theorem dX11_payment_1 : decode cX11_payment 1 = .ok (.iload_n 1, 1) := by decide +kernel
theorem dX11_payment_2 : decode cX11_payment 2 = .ok (.invokevirtual 312, 3) := by decide +kernel
theorem dX11_payment_5 : decode cX11_payment 5 = .ok (.invokestatic 55, 3) := by decide +kernel
theorem dX11_payment_8 : decode cX11_payment 8 = .ok (.iload_n 2, 1) := by decide +kernel
theorem dX11_payment_9 : decode cX11_payment 9 = .ok (.iconst 0, 1) := by decide +kernel
theorem dX11_payment_10 : decode cX11_payment 10 = .ok (.iconst 3, 1) := by decide +kernel
theorem dX11_payment_11 : decode cX11_payment 11 = .ok (.invokestatic 59, 3) := by decide +kernel
theorem dX11_payment_14 : decode cX11_payment 14 = .ok (.invokestatic 64, 3) := by decide +kernel
theorem dX11_payment_17 : decode cX11_payment 17 = .ok (.aload_n 0, 1) := by decide +kernel
theorem dX11_payment_18 : decode cX11_payment 18 = .ok (.getfield 38, 3) := by decide +kernel
theorem dX11_payment_21 : decode cX11_payment 21 = .ok (.iload_n 1, 1) := by decide +kernel
theorem dX11_payment_22 : decode cX11_payment 22 = .ok (.invokevirtual 107, 3) := by decide +kernel
theorem dX11_payment_25 : decode cX11_payment 25 = .ok (.checkcast 315, 3) := by decide +kernel
theorem dX11_payment_28 : decode cX11_payment 28 = .ok (.astore_n 3, 1) := by decide +kernel
theorem dX11_payment_29 : decode cX11_payment 29 = .ok (.iload_n 2, 1) := by decide +kernel
theorem dX11_payment_30 : decode cX11_payment 30 = .ok (.tableswitch 43 0 2 #[26, 32, 38], 26) := by decide +kernel
theorem dX11_payment_56 : decode cX11_payment 56 = .ok (.aload_n 3, 1) := by decide +kernel
theorem dX11_payment_57 : decode cX11_payment 57 = .ok (.getfield 317, 3) := by decide +kernel
theorem dX11_payment_60 : decode cX11_payment 60 = .ok (.i2l, 1) := by decide +kernel
theorem dX11_payment_61 : decode cX11_payment 61 = .ok (.lreturn, 1) := by decide +kernel
theorem dX11_payment_62 : decode cX11_payment 62 = .ok (.aload_n 3, 1) := by decide +kernel
theorem dX11_payment_63 : decode cX11_payment 63 = .ok (.getfield 318, 3) := by decide +kernel
theorem dX11_payment_66 : decode cX11_payment 66 = .ok (.i2l, 1) := by decide +kernel
theorem dX11_payment_67 : decode cX11_payment 67 = .ok (.lreturn, 1) := by decide +kernel
theorem dX11_payment_68 : decode cX11_payment 68 = .ok (.aload_n 3, 1) := by decide +kernel
theorem dX11_payment_69 : decode cX11_payment 69 = .ok (.getfield 321, 3) := by decide +kernel
theorem dX11_payment_72 : decode cX11_payment 72 = .ok (.lreturn, 1) := by decide +kernel
theorem dX11_payment_73 : decode cX11_payment 73 = .ok (.aload_n 3, 1) := by decide +kernel
theorem dX11_payment_74 : decode cX11_payment 74 = .ok (.getfield 324, 3) := by decide +kernel
theorem dX11_payment_77 : decode cX11_payment 77 = .ok (.ifCond .eq 7, 3) := by decide +kernel
theorem dX11_payment_80 : decode cX11_payment 80 = .ok (.lconst 1, 1) := by decide +kernel
theorem dX11_payment_81 : decode cX11_payment 81 = .ok (.goto 4, 3) := by decide +kernel
theorem dX11_payment_84 : decode cX11_payment 84 = .ok (.lconst 0, 1) := by decide +kernel
theorem dX11_payment_85 : decode cX11_payment 85 = .ok (.lreturn, 1) := by decide +kernel
theorem dX11_comeBack_0 : decode cX11_comeBack 0 = .ok (.aload_n 0, 1) := by decide +kernel
theorem dX11_comeBack_1 : decode cX11_comeBack 1 = .ok (.iload_n 1, 1) := by decide +kernel
theorem dX11_comeBack_2 : decode cX11_comeBack 2 = .ok (.invokevirtual 312, 3) := by decide +kernel
theorem dX11_comeBack_5 : decode cX11_comeBack 5 = .ok (.invokestatic 55, 3) := by decide +kernel
theorem dX11_comeBack_8 : decode cX11_comeBack 8 = .ok (.aload_n 0, 1) := by decide +kernel
theorem dX11_comeBack_9 : decode cX11_comeBack 9 = .ok (.getfield 38, 3) := by decide +kernel
theorem dX11_comeBack_12 : decode cX11_comeBack 12 = .ok (.iload_n 1, 1) := by decide +kernel
theorem dX11_comeBack_13 : decode cX11_comeBack 13 = .ok (.invokevirtual 107, 3) := by decide +kernel
theorem dX11_comeBack_16 : decode cX11_comeBack 16 = .ok (.checkcast 315, 3) := by decide +kernel
theorem dX11_comeBack_19 : decode cX11_comeBack 19 = .ok (.astore_n 2, 1) := by decide +kernel
theorem dX11_comeBack_20 : decode cX11_comeBack 20 = .ok (.aload_n 2, 1) := by decide +kernel
theorem dX11_comeBack_21 : decode cX11_comeBack 21 = .ok (.getfield 324, 3) := by decide +kernel
theorem dX11_comeBack_24 : decode cX11_comeBack 24 = .ok (.ifCond .ne 7, 3) := by decide +kernel
theorem dX11_comeBack_27 : decode cX11_comeBack 27 = .ok (.iconst 1, 1) := by decide +kernel
theorem dX11_comeBack_28 : decode cX11_comeBack 28 = .ok (.goto 4, 3) := by decide +kernel
theorem dX11_comeBack_31 : decode cX11_comeBack 31 = .ok (.iconst 0, 1) := by decide +kernel
theorem dX11_comeBack_32 : decode cX11_comeBack 32 = .ok (.invokestatic 71, 3) := by decide +kernel
theorem dX11_comeBack_35 : decode cX11_comeBack 35 = .ok (.aload_n 2, 1) := by decide +kernel
theorem dX11_comeBack_36 : decode cX11_comeBack 36 = .ok (.iconst 1, 1) := by decide +kernel
theorem dX11_comeBack_37 : decode cX11_comeBack 37 = .ok (.putfield 324, 3) := by decide +kernel
theorem dX11_comeBack_40 : decode cX11_comeBack 40 = .ok (.aload_n 0, 1) := by decide +kernel
theorem dX11_comeBack_41 : decode cX11_comeBack 41 = .ok (.getfield 18, 3) := by decide +kernel
theorem dX11_comeBack_44 : decode cX11_comeBack 44 = .ok (.aload_n 2, 1) := by decide +kernel
theorem dX11_comeBack_45 : decode cX11_comeBack 45 = .ok (.getfield 317, 3) := by decide +kernel
theorem dX11_comeBack_48 : decode cX11_comeBack 48 = .ok (.aaload, 1) := by decide +kernel
theorem dX11_comeBack_49 : decode cX11_comeBack 49 = .ok (.dup, 1) := by decide +kernel
theorem dX11_comeBack_50 : decode cX11_comeBack 50 = .ok (.getfield 327, 3) := by decide +kernel
theorem dX11_comeBack_53 : decode cX11_comeBack 53 = .ok (.aload_n 2, 1) := by decide +kernel
theorem dX11_comeBack_54 : decode cX11_comeBack 54 = .ok (.getfield 321, 3) := by decide +kernel
theorem dX11_comeBack_57 : decode cX11_comeBack 57 = .ok (.lsub, 1) := by decide +kernel
theorem dX11_comeBack_58 : decode cX11_comeBack 58 = .ok (.putfield 327, 3) := by decide +kernel
theorem dX11_comeBack_61 : decode cX11_comeBack 61 = .ok (.aload_n 2, 1) := by decide +kernel
theorem dX11_comeBack_62 : decode cX11_comeBack 62 = .ok (.getfield 321, 3) := by decide +kernel
theorem dX11_comeBack_65 : decode cX11_comeBack 65 = .ok (.lreturn, 1) := by decide +kernel
theorem dX11_owed_0 : decode cX11_owed 0 = .ok (.iload_n 1, 1) := by decide +kernel
theorem dX11_owed_1 : decode cX11_owed 1 = .ok (.invokestatic 45, 3) := by decide +kernel
theorem dX11_owed_4 : decode cX11_owed 4 = .ok (.invokestatic 55, 3) := by decide +kernel
theorem dX11_owed_7 : decode cX11_owed 7 = .ok (.aload_n 0, 1) := by decide +kernel
theorem dX11_owed_8 : decode cX11_owed 8 = .ok (.iload_n 1, 1) := by decide +kernel
theorem dX11_owed_9 : decode cX11_owed 9 = .ok (.invokevirtual 144, 3) := by decide +kernel
theorem dX11_owed_12 : decode cX11_owed 12 = .ok (.pop, 1) := by decide +kernel
theorem dX11_owed_13 : decode cX11_owed 13 = .ok (.aload_n 0, 1) := by decide +kernel
theorem dX11_owed_14 : decode cX11_owed 14 = .ok (.aload_n 0, 1) := by decide +kernel
theorem dX11_owed_15 : decode cX11_owed 15 = .ok (.getfield 18, 3) := by decide +kernel
theorem dX11_owed_18 : decode cX11_owed 18 = .ok (.iload_n 1, 1) := by decide +kernel
theorem dX11_owed_19 : decode cX11_owed 19 = .ok (.aaload, 1) := by decide +kernel
theorem dX11_owed_20 : decode cX11_owed 20 = .ok (.invokevirtual 330, 3) := by decide +kernel
theorem dX11_owed_23 : decode cX11_owed 23 = .ok (.lreturn, 1) := by decide +kernel
theorem dX11_filed_0 : decode cX11_filed 0 = .ok (.iload_n 1, 1) := by decide +kernel
theorem dX11_filed_1 : decode cX11_filed 1 = .ok (.invokestatic 49, 3) := by decide +kernel
theorem dX11_filed_4 : decode cX11_filed 4 = .ok (.ifCond .eq 14, 3) := by decide +kernel
theorem dX11_filed_7 : decode cX11_filed 7 = .ok (.iload_n 2, 1) := by decide +kernel
theorem dX11_filed_8 : decode cX11_filed 8 = .ok (.invokestatic 141, 3) := by decide +kernel
theorem dX11_filed_11 : decode cX11_filed 11 = .ok (.ifCond .eq 7, 3) := by decide +kernel
theorem dX11_filed_14 : decode cX11_filed 14 = .ok (.iconst 1, 1) := by decide +kernel
theorem dX11_filed_15 : decode cX11_filed 15 = .ok (.goto 4, 3) := by decide +kernel
theorem dX11_filed_18 : decode cX11_filed 18 = .ok (.iconst 0, 1) := by decide +kernel
theorem dX11_filed_19 : decode cX11_filed 19 = .ok (.invokestatic 55, 3) := by decide +kernel
theorem dX11_filed_22 : decode cX11_filed 22 = .ok (.iload_n 3, 1) := by decide +kernel
theorem dX11_filed_23 : decode cX11_filed 23 = .ok (.ifCond .eq 17, 3) := by decide +kernel
theorem dX11_filed_26 : decode cX11_filed 26 = .ok (.aload_n 0, 1) := by decide +kernel
theorem dX11_filed_27 : decode cX11_filed 27 = .ok (.getfield 24, 3) := by decide +kernel
theorem dX11_filed_30 : decode cX11_filed 30 = .ok (.iload_n 1, 1) := by decide +kernel
theorem dX11_filed_31 : decode cX11_filed 31 = .ok (.aaload, 1) := by decide +kernel
theorem dX11_filed_32 : decode cX11_filed 32 = .ok (.getfield 334, 3) := by decide +kernel
theorem dX11_filed_35 : decode cX11_filed 35 = .ok (.iload_n 2, 1) := by decide +kernel
theorem dX11_filed_36 : decode cX11_filed 36 = .ok (.laload, 1) := by decide +kernel
theorem dX11_filed_37 : decode cX11_filed 37 = .ok (.goto 14, 3) := by decide +kernel
theorem dX11_filed_40 : decode cX11_filed 40 = .ok (.aload_n 0, 1) := by decide +kernel
theorem dX11_filed_41 : decode cX11_filed 41 = .ok (.getfield 24, 3) := by decide +kernel
theorem dX11_filed_44 : decode cX11_filed 44 = .ok (.iload_n 1, 1) := by decide +kernel
theorem dX11_filed_45 : decode cX11_filed 45 = .ok (.aaload, 1) := by decide +kernel
theorem dX11_filed_46 : decode cX11_filed 46 = .ok (.getfield 337, 3) := by decide +kernel
theorem dX11_filed_49 : decode cX11_filed 49 = .ok (.iload_n 2, 1) := by decide +kernel
theorem dX11_filed_50 : decode cX11_filed 50 = .ok (.laload, 1) := by decide +kernel
theorem dX11_filed_51 : decode cX11_filed 51 = .ok (.lreturn, 1) := by decide +kernel
theorem dX11_corrections_0 : decode cX11_corrections 0 = .ok (.iload_n 1, 1) := by decide +kernel
theorem dX11_corrections_1 : decode cX11_corrections 1 = .ok (.invokestatic 49, 3) := by decide +kernel
theorem dX11_corrections_4 : decode cX11_corrections 4 = .ok (.ifCond .eq 14, 3) := by decide +kernel
theorem dX11_corrections_7 : decode cX11_corrections 7 = .ok (.iload_n 2, 1) := by decide +kernel
theorem dX11_corrections_8 : decode cX11_corrections 8 = .ok (.invokestatic 141, 3) := by decide +kernel
theorem dX11_corrections_11 : decode cX11_corrections 11 = .ok (.ifCond .eq 7, 3) := by decide +kernel
theorem dX11_corrections_14 : decode cX11_corrections 14 = .ok (.iconst 1, 1) := by decide +kernel
theorem dX11_corrections_15 : decode cX11_corrections 15 = .ok (.goto 4, 3) := by decide +kernel
theorem dX11_corrections_18 : decode cX11_corrections 18 = .ok (.iconst 0, 1) := by decide +kernel
theorem dX11_corrections_19 : decode cX11_corrections 19 = .ok (.invokestatic 55, 3) := by decide +kernel
theorem dX11_corrections_22 : decode cX11_corrections 22 = .ok (.aload_n 0, 1) := by decide +kernel
theorem dX11_corrections_23 : decode cX11_corrections 23 = .ok (.getfield 24, 3) := by decide +kernel
theorem dX11_corrections_26 : decode cX11_corrections 26 = .ok (.iload_n 1, 1) := by decide +kernel
theorem dX11_corrections_27 : decode cX11_corrections 27 = .ok (.aaload, 1) := by decide +kernel
theorem dX11_corrections_28 : decode cX11_corrections 28 = .ok (.getfield 340, 3) := by decide +kernel
theorem dX11_corrections_31 : decode cX11_corrections 31 = .ok (.iload_n 2, 1) := by decide +kernel
theorem dX11_corrections_32 : decode cX11_corrections 32 = .ok (.iaload, 1) := by decide +kernel
theorem dX11_corrections_33 : decode cX11_corrections 33 = .ok (.ireturn, 1) := by decide +kernel
theorem dX11_payOut_0 : decode cX11_payOut 0 = .ok (.aload_n 0, 1) := by decide +kernel
theorem dX11_payOut_1 : decode cX11_payOut 1 = .ok (.aload_n 1, 1) := by decide +kernel
theorem dX11_payOut_2 : decode cX11_payOut 2 = .ok (.invokevirtual 330, 3) := by decide +kernel
theorem dX11_payOut_5 : decode cX11_payOut 5 = .ok (.lstore_n 2, 1) := by decide +kernel
theorem dX11_payOut_6 : decode cX11_payOut 6 = .ok (.lload_n 2, 1) := by decide +kernel
theorem dX11_payOut_7 : decode cX11_payOut 7 = .ok (.lconst 0, 1) := by decide +kernel
theorem dX11_payOut_8 : decode cX11_payOut 8 = .ok (.lcmp, 1) := by decide +kernel
theorem dX11_payOut_9 : decode cX11_payOut 9 = .ok (.ifCond .le 37, 3) := by decide +kernel
theorem dX11_payOut_12 : decode cX11_payOut 12 = .ok (.aload_n 0, 1) := by decide +kernel
theorem dX11_payOut_13 : decode cX11_payOut 13 = .ok (.getfield 38, 3) := by decide +kernel
theorem dX11_payOut_16 : decode cX11_payOut 16 = .ok (.new 315, 3) := by decide +kernel
theorem dX11_payOut_19 : decode cX11_payOut 19 = .ok (.dup, 1) := by decide +kernel
theorem dX11_payOut_20 : decode cX11_payOut 20 = .ok (.aload_n 1, 1) := by decide +kernel
theorem dX11_payOut_21 : decode cX11_payOut 21 = .ok (.getfield 343, 3) := by decide +kernel
theorem dX11_payOut_24 : decode cX11_payOut 24 = .ok (.aload_n 0, 1) := by decide +kernel
theorem dX11_payOut_25 : decode cX11_payOut 25 = .ok (.getfield 295, 3) := by decide +kernel
theorem dX11_payOut_28 : decode cX11_payOut 28 = .ok (.lload_n 2, 1) := by decide +kernel
theorem dX11_payOut_29 : decode cX11_payOut 29 = .ok (.invokespecial 346, 3) := by decide +kernel
theorem dX11_payOut_32 : decode cX11_payOut 32 = .ok (.invokevirtual 89, 3) := by decide +kernel
theorem dX11_payOut_35 : decode cX11_payOut 35 = .ok (.pop, 1) := by decide +kernel
theorem dX11_payOut_36 : decode cX11_payOut 36 = .ok (.aload_n 1, 1) := by decide +kernel
theorem dX11_payOut_37 : decode cX11_payOut 37 = .ok (.dup, 1) := by decide +kernel
theorem dX11_payOut_38 : decode cX11_payOut 38 = .ok (.getfield 327, 3) := by decide +kernel
theorem dX11_payOut_41 : decode cX11_payOut 41 = .ok (.lload_n 2, 1) := by decide +kernel
theorem dX11_payOut_42 : decode cX11_payOut 42 = .ok (.ladd, 1) := by decide +kernel
theorem dX11_payOut_43 : decode cX11_payOut 43 = .ok (.putfield 327, 3) := by decide +kernel
theorem dX11_payOut_46 : decode cX11_payOut 46 = .ok (.return_, 1) := by decide +kernel
theorem dX11_unpaid_0 : decode cX11_unpaid 0 = .ok (.lconst 0, 1) := by decide +kernel
theorem dX11_unpaid_1 : decode cX11_unpaid 1 = .ok (.lstore_n 2, 1) := by decide +kernel
theorem dX11_unpaid_2 : decode cX11_unpaid 2 = .ok (.iconst 0, 1) := by decide +kernel
theorem dX11_unpaid_3 : decode cX11_unpaid 3 = .ok (.istore 4, 2) := by decide +kernel
theorem dX11_unpaid_5 : decode cX11_unpaid 5 = .ok (.iload 4, 2) := by decide +kernel
theorem dX11_unpaid_7 : decode cX11_unpaid 7 = .ok (.aload_n 0, 1) := by decide +kernel
theorem dX11_unpaid_8 : decode cX11_unpaid 8 = .ok (.getfield 295, 3) := by decide +kernel
theorem dX11_unpaid_11 : decode cX11_unpaid 11 = .ok (.if_icmp .gt 29, 3) := by decide +kernel
theorem dX11_unpaid_14 : decode cX11_unpaid 14 = .ok (.iload 4, 2) := by decide +kernel
theorem dX11_unpaid_16 : decode cX11_unpaid 16 = .ok (.bipush 24, 2) := by decide +kernel
theorem dX11_unpaid_18 : decode cX11_unpaid 18 = .ok (.if_icmp .ge 22, 3) := by decide +kernel
theorem dX11_unpaid_21 : decode cX11_unpaid 21 = .ok (.lload_n 2, 1) := by decide +kernel
theorem dX11_unpaid_22 : decode cX11_unpaid 22 = .ok (.aload_n 1, 1) := by decide +kernel
theorem dX11_unpaid_23 : decode cX11_unpaid 23 = .ok (.getfield 94, 3) := by decide +kernel
theorem dX11_unpaid_26 : decode cX11_unpaid 26 = .ok (.getfield 349, 3) := by decide +kernel
theorem dX11_unpaid_29 : decode cX11_unpaid 29 = .ok (.iload 4, 2) := by decide +kernel
theorem dX11_unpaid_31 : decode cX11_unpaid 31 = .ok (.laload, 1) := by decide +kernel
theorem dX11_unpaid_32 : decode cX11_unpaid 32 = .ok (.ladd, 1) := by decide +kernel
theorem dX11_unpaid_33 : decode cX11_unpaid 33 = .ok (.lstore_n 2, 1) := by decide +kernel
theorem dX11_unpaid_34 : decode cX11_unpaid 34 = .ok (.iinc 4 1, 3) := by decide +kernel
theorem dX11_unpaid_37 : decode cX11_unpaid 37 = .ok (.goto (-32), 3) := by decide +kernel
theorem dX11_unpaid_40 : decode cX11_unpaid 40 = .ok (.lload_n 2, 1) := by decide +kernel
theorem dX11_unpaid_41 : decode cX11_unpaid 41 = .ok (.aload_n 1, 1) := by decide +kernel
theorem dX11_unpaid_42 : decode cX11_unpaid 42 = .ok (.getfield 327, 3) := by decide +kernel
theorem dX11_unpaid_45 : decode cX11_unpaid 45 = .ok (.lsub, 1) := by decide +kernel
theorem dX11_unpaid_46 : decode cX11_unpaid 46 = .ok (.lreturn, 1) := by decide +kernel
theorem dX11_fileMonth_0 : decode cX11_fileMonth 0 = .ok (.lconst 0, 1) := by decide +kernel
theorem dX11_fileMonth_1 : decode cX11_fileMonth 1 = .ok (.lstore_n 3, 1) := by decide +kernel
theorem dX11_fileMonth_2 : decode cX11_fileMonth 2 = .ok (.lconst 0, 1) := by decide +kernel
theorem dX11_fileMonth_3 : decode cX11_fileMonth 3 = .ok (.lstore 5, 2) := by decide +kernel
theorem dX11_fileMonth_5 : decode cX11_fileMonth 5 = .ok (.iconst 0, 1) := by decide +kernel
theorem dX11_fileMonth_6 : decode cX11_fileMonth 6 = .ok (.istore 7, 2) := by decide +kernel
theorem dX11_fileMonth_8 : decode cX11_fileMonth 8 = .ok (.iload 7, 2) := by decide +kernel
theorem dX11_fileMonth_10 : decode cX11_fileMonth 10 = .ok (.bipush 6, 2) := by decide +kernel
theorem dX11_fileMonth_12 : decode cX11_fileMonth 12 = .ok (.if_icmp .ge 47, 3) := by decide +kernel
theorem dX11_fileMonth_15 : decode cX11_fileMonth 15 = .ok (.aload_n 0, 1) := by decide +kernel
theorem dX11_fileMonth_16 : decode cX11_fileMonth 16 = .ok (.getfield 18, 3) := by decide +kernel
theorem dX11_fileMonth_19 : decode cX11_fileMonth 19 = .ok (.iload 7, 2) := by decide +kernel
theorem dX11_fileMonth_21 : decode cX11_fileMonth 21 = .ok (.aaload, 1) := by decide +kernel
theorem dX11_fileMonth_22 : decode cX11_fileMonth 22 = .ok (.getfield 94, 3) := by decide +kernel
theorem dX11_fileMonth_25 : decode cX11_fileMonth 25 = .ok (.astore 8, 2) := by decide +kernel
theorem dX11_fileMonth_27 : decode cX11_fileMonth 27 = .ok (.lload_n 3, 1) := by decide +kernel
theorem dX11_fileMonth_28 : decode cX11_fileMonth 28 = .ok (.aload 8, 2) := by decide +kernel
theorem dX11_fileMonth_30 : decode cX11_fileMonth 30 = .ok (.getfield 352, 3) := by decide +kernel
theorem dX11_fileMonth_33 : decode cX11_fileMonth 33 = .ok (.iload_n 1, 1) := by decide +kernel
theorem dX11_fileMonth_34 : decode cX11_fileMonth 34 = .ok (.aaload, 1) := by decide +kernel
theorem dX11_fileMonth_35 : decode cX11_fileMonth 35 = .ok (.iload_n 2, 1) := by decide +kernel
theorem dX11_fileMonth_36 : decode cX11_fileMonth 36 = .ok (.laload, 1) := by decide +kernel
theorem dX11_fileMonth_37 : decode cX11_fileMonth 37 = .ok (.ladd, 1) := by decide +kernel
theorem dX11_fileMonth_38 : decode cX11_fileMonth 38 = .ok (.lstore_n 3, 1) := by decide +kernel
theorem dX11_fileMonth_39 : decode cX11_fileMonth 39 = .ok (.lload 5, 2) := by decide +kernel
theorem dX11_fileMonth_41 : decode cX11_fileMonth 41 = .ok (.aload 8, 2) := by decide +kernel
theorem dX11_fileMonth_43 : decode cX11_fileMonth 43 = .ok (.getfield 355, 3) := by decide +kernel
theorem dX11_fileMonth_46 : decode cX11_fileMonth 46 = .ok (.iload_n 1, 1) := by decide +kernel
theorem dX11_fileMonth_47 : decode cX11_fileMonth 47 = .ok (.aaload, 1) := by decide +kernel
theorem dX11_fileMonth_48 : decode cX11_fileMonth 48 = .ok (.iload_n 2, 1) := by decide +kernel
theorem dX11_fileMonth_49 : decode cX11_fileMonth 49 = .ok (.laload, 1) := by decide +kernel
theorem dX11_fileMonth_50 : decode cX11_fileMonth 50 = .ok (.ladd, 1) := by decide +kernel
theorem dX11_fileMonth_51 : decode cX11_fileMonth 51 = .ok (.lstore 5, 2) := by decide +kernel
theorem dX11_fileMonth_53 : decode cX11_fileMonth 53 = .ok (.iinc 7 1, 3) := by decide +kernel
theorem dX11_fileMonth_56 : decode cX11_fileMonth 56 = .ok (.goto (-48), 3) := by decide +kernel
theorem dX11_fileMonth_59 : decode cX11_fileMonth 59 = .ok (.aload_n 0, 1) := by decide +kernel
theorem dX11_fileMonth_60 : decode cX11_fileMonth 60 = .ok (.getfield 24, 3) := by decide +kernel
theorem dX11_fileMonth_63 : decode cX11_fileMonth 63 = .ok (.iload_n 1, 1) := by decide +kernel
theorem dX11_fileMonth_64 : decode cX11_fileMonth 64 = .ok (.aaload, 1) := by decide +kernel
theorem dX11_fileMonth_65 : decode cX11_fileMonth 65 = .ok (.iload_n 2, 1) := by decide +kernel
theorem dX11_fileMonth_66 : decode cX11_fileMonth 66 = .ok (.lload_n 3, 1) := by decide +kernel
theorem dX11_fileMonth_67 : decode cX11_fileMonth 67 = .ok (.lload 5, 2) := by decide +kernel
theorem dX11_fileMonth_69 : decode cX11_fileMonth 69 = .ok (.iload_n 2, 1) := by decide +kernel
theorem dX11_fileMonth_70 : decode cX11_fileMonth 70 = .ok (.aload_n 0, 1) := by decide +kernel
theorem dX11_fileMonth_71 : decode cX11_fileMonth 71 = .ok (.getfield 295, 3) := by decide +kernel
theorem dX11_fileMonth_74 : decode cX11_fileMonth 74 = .ok (.if_icmp .ge 7, 3) := by decide +kernel
theorem dX11_fileMonth_77 : decode cX11_fileMonth 77 = .ok (.iconst 1, 1) := by decide +kernel
theorem dX11_fileMonth_78 : decode cX11_fileMonth 78 = .ok (.goto 4, 3) := by decide +kernel
theorem dX11_fileMonth_81 : decode cX11_fileMonth 81 = .ok (.iconst 0, 1) := by decide +kernel
theorem dX11_fileMonth_82 : decode cX11_fileMonth 82 = .ok (.invokevirtual 358, 3) := by decide +kernel
theorem dX11_fileMonth_85 : decode cX11_fileMonth 85 = .ok (.return_, 1) := by decide +kernel
theorem dX11_bookOf_0 : decode cX11_bookOf 0 = .ok (.aload_n 0, 1) := by decide +kernel
theorem dX11_bookOf_1 : decode cX11_bookOf 1 = .ok (.getfield 18, 3) := by decide +kernel
theorem dX11_bookOf_4 : decode cX11_bookOf 4 = .ok (.iload_n 1, 1) := by decide +kernel
theorem dX11_bookOf_5 : decode cX11_bookOf 5 = .ok (.aaload, 1) := by decide +kernel
theorem dX11_bookOf_6 : decode cX11_bookOf 6 = .ok (.astore_n 2, 1) := by decide +kernel
theorem dX11_bookOf_7 : decode cX11_bookOf 7 = .ok (.aload_n 2, 1) := by decide +kernel
theorem dX11_bookOf_8 : decode cX11_bookOf 8 = .ok (.getfield 94, 3) := by decide +kernel
theorem dX11_bookOf_11 : decode cX11_bookOf 11 = .ok (.astore_n 3, 1) := by decide +kernel
theorem dX11_bookOf_12 : decode cX11_bookOf 12 = .ok (.aload_n 3, 1) := by decide +kernel
theorem dX11_bookOf_13 : decode cX11_bookOf 13 = .ok (.getfield 98, 3) := by decide +kernel
theorem dX11_bookOf_16 : decode cX11_bookOf 16 = .ok (.ifCond .eq 75, 3) := by decide +kernel
theorem dX11_bookOf_19 : decode cX11_bookOf 19 = .ok (.aload_n 2, 1) := by decide +kernel
theorem dX11_bookOf_20 : decode cX11_bookOf 20 = .ok (.sipush 720, 3) := by decide +kernel
theorem dX11_bookOf_23 : decode cX11_bookOf 23 = .ok (.aload_n 0, 1) := by decide +kernel
theorem dX11_bookOf_24 : decode cX11_bookOf 24 = .ok (.getfield 152, 3) := by decide +kernel
theorem dX11_bookOf_27 : decode cX11_bookOf 27 = .ok (.aload_n 0, 1) := by decide +kernel
theorem dX11_bookOf_28 : decode cX11_bookOf 28 = .ok (.getfield 155, 3) := by decide +kernel
theorem dX11_bookOf_31 : decode cX11_bookOf 31 = .ok (.aload_n 0, 1) := by decide +kernel
theorem dX11_bookOf_32 : decode cX11_bookOf 32 = .ok (.getfield 158, 3) := by decide +kernel
theorem dX11_bookOf_35 : decode cX11_bookOf 35 = .ok (.invokevirtual 176, 3) := by decide +kernel
theorem dX11_bookOf_38 : decode cX11_bookOf 38 = .ok (.pop, 1) := by decide +kernel
theorem dX11_bookOf_39 : decode cX11_bookOf 39 = .ok (.aload_n 2, 1) := by decide +kernel
theorem dX11_bookOf_40 : decode cX11_bookOf 40 = .ok (.invokevirtual 362, 3) := by decide +kernel
theorem dX11_bookOf_43 : decode cX11_bookOf 43 = .ok (.iconst 0, 1) := by decide +kernel
theorem dX11_bookOf_44 : decode cX11_bookOf 44 = .ok (.istore 4, 2) := by decide +kernel
theorem dX11_bookOf_46 : decode cX11_bookOf 46 = .ok (.iload 4, 2) := by decide +kernel
theorem dX11_bookOf_48 : decode cX11_bookOf 48 = .ok (.bipush 24, 2) := by decide +kernel
theorem dX11_bookOf_50 : decode cX11_bookOf 50 = .ok (.if_icmp .ge 31, 3) := by decide +kernel
theorem dX11_bookOf_53 : decode cX11_bookOf 53 = .ok (.aload_n 3, 1) := by decide +kernel
theorem dX11_bookOf_54 : decode cX11_bookOf 54 = .ok (.iload 4, 2) := by decide +kernel
theorem dX11_bookOf_56 : decode cX11_bookOf 56 = .ok (.aload_n 2, 1) := by decide +kernel
theorem dX11_bookOf_57 : decode cX11_bookOf 57 = .ok (.aload_n 0, 1) := by decide +kernel
theorem dX11_bookOf_58 : decode cX11_bookOf 58 = .ok (.getfield 31, 3) := by decide +kernel
theorem dX11_bookOf_61 : decode cX11_bookOf 61 = .ok (.invokevirtual 365, 3) := by decide +kernel
theorem dX11_bookOf_64 : decode cX11_bookOf 64 = .ok (.aload_n 3, 1) := by decide +kernel
theorem dX11_bookOf_65 : decode cX11_bookOf 65 = .ok (.iload 4, 2) := by decide +kernel
theorem dX11_bookOf_67 : decode cX11_bookOf 67 = .ok (.aload_n 2, 1) := by decide +kernel
theorem dX11_bookOf_68 : decode cX11_bookOf 68 = .ok (.aload_n 0, 1) := by decide +kernel
theorem dX11_bookOf_69 : decode cX11_bookOf 69 = .ok (.getfield 24, 3) := by decide +kernel
theorem dX11_bookOf_72 : decode cX11_bookOf 72 = .ok (.invokevirtual 278, 3) := by decide +kernel
theorem dX11_bookOf_75 : decode cX11_bookOf 75 = .ok (.iinc 4 1, 3) := by decide +kernel
theorem dX11_bookOf_78 : decode cX11_bookOf 78 = .ok (.goto (-32), 3) := by decide +kernel
theorem dX11_bookOf_81 : decode cX11_bookOf 81 = .ok (.aload_n 3, 1) := by decide +kernel
theorem dX11_bookOf_82 : decode cX11_bookOf 82 = .ok (.aload_n 2, 1) := by decide +kernel
theorem dX11_bookOf_83 : decode cX11_bookOf 83 = .ok (.invokevirtual 369, 3) := by decide +kernel
theorem dX11_bookOf_86 : decode cX11_bookOf 86 = .ok (.aload_n 3, 1) := by decide +kernel
theorem dX11_bookOf_87 : decode cX11_bookOf 87 = .ok (.iconst 0, 1) := by decide +kernel
theorem dX11_bookOf_88 : decode cX11_bookOf 88 = .ok (.putfield 98, 3) := by decide +kernel
theorem dX11_bookOf_91 : decode cX11_bookOf 91 = .ok (.aload_n 3, 1) := by decide +kernel
theorem dX11_bookOf_92 : decode cX11_bookOf 92 = .ok (.areturn, 1) := by decide +kernel
theorem dX11_makeAllStale_0 : decode cX11_makeAllStale 0 = .ok (.iconst 0, 1) := by decide +kernel
theorem dX11_makeAllStale_1 : decode cX11_makeAllStale 1 = .ok (.istore_n 1, 1) := by decide +kernel
theorem dX11_makeAllStale_2 : decode cX11_makeAllStale 2 = .ok (.iload_n 1, 1) := by decide +kernel
theorem dX11_makeAllStale_3 : decode cX11_makeAllStale 3 = .ok (.bipush 6, 2) := by decide +kernel
theorem dX11_makeAllStale_5 : decode cX11_makeAllStale 5 = .ok (.if_icmp .ge 22, 3) := by decide +kernel
theorem dX11_makeAllStale_8 : decode cX11_makeAllStale 8 = .ok (.aload_n 0, 1) := by decide +kernel
theorem dX11_makeAllStale_9 : decode cX11_makeAllStale 9 = .ok (.getfield 18, 3) := by decide +kernel
theorem dX11_makeAllStale_12 : decode cX11_makeAllStale 12 = .ok (.iload_n 1, 1) := by decide +kernel
theorem dX11_makeAllStale_13 : decode cX11_makeAllStale 13 = .ok (.aaload, 1) := by decide +kernel
theorem dX11_makeAllStale_14 : decode cX11_makeAllStale 14 = .ok (.getfield 94, 3) := by decide +kernel
theorem dX11_makeAllStale_17 : decode cX11_makeAllStale 17 = .ok (.iconst 1, 1) := by decide +kernel
theorem dX11_makeAllStale_18 : decode cX11_makeAllStale 18 = .ok (.putfield 98, 3) := by decide +kernel
theorem dX11_makeAllStale_21 : decode cX11_makeAllStale 21 = .ok (.iinc 1 1, 3) := by decide +kernel
theorem dX11_makeAllStale_24 : decode cX11_makeAllStale 24 = .ok (.goto (-22), 3) := by decide +kernel
theorem dX11_makeAllStale_27 : decode cX11_makeAllStale 27 = .ok (.return_, 1) := by decide +kernel
theorem dX11_isContract_0 : decode cX11_isContract 0 = .ok (.iload_n 1, 1) := by decide +kernel
theorem dX11_isContract_1 : decode cX11_isContract 1 = .ok (.ifCond .lt 18, 3) := by decide +kernel
theorem dX11_isContract_4 : decode cX11_isContract 4 = .ok (.iload_n 1, 1) := by decide +kernel
theorem dX11_isContract_5 : decode cX11_isContract 5 = .ok (.aload_n 0, 1) := by decide +kernel
theorem dX11_isContract_6 : decode cX11_isContract 6 = .ok (.getfield 10, 3) := by decide +kernel
theorem dX11_isContract_9 : decode cX11_isContract 9 = .ok (.invokevirtual 67, 3) := by decide +kernel
theorem dX11_isContract_12 : decode cX11_isContract 12 = .ok (.if_icmp .ge 7, 3) := by decide +kernel
theorem dX11_isContract_15 : decode cX11_isContract 15 = .ok (.iconst 1, 1) := by decide +kernel
theorem dX11_isContract_16 : decode cX11_isContract 16 = .ok (.goto 4, 3) := by decide +kernel
theorem dX11_isContract_19 : decode cX11_isContract 19 = .ok (.iconst 0, 1) := by decide +kernel
theorem dX11_isContract_20 : decode cX11_isContract 20 = .ok (.ireturn, 1) := by decide +kernel
theorem dX11_isElement_0 : decode cX11_isElement 0 = .ok (.iload_n 1, 1) := by decide +kernel
theorem dX11_isElement_1 : decode cX11_isElement 1 = .ok (.ifCond .lt 18, 3) := by decide +kernel
theorem dX11_isElement_4 : decode cX11_isElement 4 = .ok (.iload_n 1, 1) := by decide +kernel
theorem dX11_isElement_5 : decode cX11_isElement 5 = .ok (.aload_n 0, 1) := by decide +kernel
theorem dX11_isElement_6 : decode cX11_isElement 6 = .ok (.getfield 31, 3) := by decide +kernel
theorem dX11_isElement_9 : decode cX11_isElement 9 = .ok (.getfield 190, 3) := by decide +kernel
theorem dX11_isElement_12 : decode cX11_isElement 12 = .ok (.if_icmp .ge 7, 3) := by decide +kernel
theorem dX11_isElement_15 : decode cX11_isElement 15 = .ok (.iconst 1, 1) := by decide +kernel
theorem dX11_isElement_16 : decode cX11_isElement 16 = .ok (.goto 4, 3) := by decide +kernel
theorem dX11_isElement_19 : decode cX11_isElement 19 = .ok (.iconst 0, 1) := by decide +kernel
theorem dX11_isElement_20 : decode cX11_isElement 20 = .ok (.ireturn, 1) := by decide +kernel
theorem dX11_isPayment_0 : decode cX11_isPayment 0 = .ok (.iload_n 1, 1) := by decide +kernel
theorem dX11_isPayment_1 : decode cX11_isPayment 1 = .ok (.ifCond .lt 18, 3) := by decide +kernel
theorem dX11_isPayment_4 : decode cX11_isPayment 4 = .ok (.iload_n 1, 1) := by decide +kernel
theorem dX11_isPayment_5 : decode cX11_isPayment 5 = .ok (.aload_n 0, 1) := by decide +kernel
theorem dX11_isPayment_6 : decode cX11_isPayment 6 = .ok (.getfield 38, 3) := by decide +kernel
theorem dX11_isPayment_9 : decode cX11_isPayment 9 = .ok (.invokevirtual 67, 3) := by decide +kernel
theorem dX11_isPayment_12 : decode cX11_isPayment 12 = .ok (.if_icmp .ge 7, 3) := by decide +kernel
theorem dX11_isPayment_15 : decode cX11_isPayment 15 = .ok (.iconst 1, 1) := by decide +kernel
theorem dX11_isPayment_16 : decode cX11_isPayment 16 = .ok (.goto 4, 3) := by decide +kernel
theorem dX11_isPayment_19 : decode cX11_isPayment 19 = .ok (.iconst 0, 1) := by decide +kernel
theorem dX11_isPayment_20 : decode cX11_isPayment 20 = .ok (.ireturn, 1) := by decide +kernel
theorem dX11_isPerson_0 : decode cX11_isPerson 0 = .ok (.iload_n 0, 1) := by decide +kernel
theorem dX11_isPerson_1 : decode cX11_isPerson 1 = .ok (.ifCond .lt 13, 3) := by decide +kernel
theorem dX11_isPerson_4 : decode cX11_isPerson 4 = .ok (.iload_n 0, 1) := by decide +kernel
theorem dX11_isPerson_5 : decode cX11_isPerson 5 = .ok (.bipush 6, 2) := by decide +kernel
theorem dX11_isPerson_7 : decode cX11_isPerson 7 = .ok (.if_icmp .ge 7, 3) := by decide +kernel
theorem dX11_isPerson_10 : decode cX11_isPerson 10 = .ok (.iconst 1, 1) := by decide +kernel
theorem dX11_isPerson_11 : decode cX11_isPerson 11 = .ok (.goto 4, 3) := by decide +kernel
theorem dX11_isPerson_14 : decode cX11_isPerson 14 = .ok (.iconst 0, 1) := by decide +kernel
theorem dX11_isPerson_15 : decode cX11_isPerson 15 = .ok (.ireturn, 1) := by decide +kernel
theorem dX11_isPlace_0 : decode cX11_isPlace 0 = .ok (.iload_n 0, 1) := by decide +kernel
theorem dX11_isPlace_1 : decode cX11_isPlace 1 = .ok (.ifCond .lt 12, 3) := by decide +kernel
theorem dX11_isPlace_4 : decode cX11_isPlace 4 = .ok (.iload_n 0, 1) := by decide +kernel
theorem dX11_isPlace_5 : decode cX11_isPlace 5 = .ok (.iconst 3, 1) := by decide +kernel
theorem dX11_isPlace_6 : decode cX11_isPlace 6 = .ok (.if_icmp .ge 7, 3) := by decide +kernel
theorem dX11_isPlace_9 : decode cX11_isPlace 9 = .ok (.iconst 1, 1) := by decide +kernel
theorem dX11_isPlace_10 : decode cX11_isPlace 10 = .ok (.goto 4, 3) := by decide +kernel
theorem dX11_isPlace_13 : decode cX11_isPlace 13 = .ok (.iconst 0, 1) := by decide +kernel
theorem dX11_isPlace_14 : decode cX11_isPlace 14 = .ok (.ireturn, 1) := by decide +kernel
theorem dX11_isState_0 : decode cX11_isState 0 = .ok (.iload_n 0, 1) := by decide +kernel
theorem dX11_isState_1 : decode cX11_isState 1 = .ok (.ifCond .lt 12, 3) := by decide +kernel
theorem dX11_isState_4 : decode cX11_isState 4 = .ok (.iload_n 0, 1) := by decide +kernel
theorem dX11_isState_5 : decode cX11_isState 5 = .ok (.iconst 2, 1) := by decide +kernel
theorem dX11_isState_6 : decode cX11_isState 6 = .ok (.if_icmp .ge 7, 3) := by decide +kernel
theorem dX11_isState_9 : decode cX11_isState 9 = .ok (.iconst 1, 1) := by decide +kernel
theorem dX11_isState_10 : decode cX11_isState 10 = .ok (.goto 4, 3) := by decide +kernel
theorem dX11_isState_13 : decode cX11_isState 13 = .ok (.iconst 0, 1) := by decide +kernel
theorem dX11_isState_14 : decode cX11_isState 14 = .ok (.ireturn, 1) := by decide +kernel
theorem dX11_isMonth_0 : decode cX11_isMonth 0 = .ok (.iload_n 0, 1) := by decide +kernel
theorem dX11_isMonth_1 : decode cX11_isMonth 1 = .ok (.ifCond .lt 13, 3) := by decide +kernel
theorem dX11_isMonth_4 : decode cX11_isMonth 4 = .ok (.iload_n 0, 1) := by decide +kernel
theorem dX11_isMonth_5 : decode cX11_isMonth 5 = .ok (.bipush 24, 2) := by decide +kernel
theorem dX11_isMonth_7 : decode cX11_isMonth 7 = .ok (.if_icmp .ge 7, 3) := by decide +kernel
theorem dX11_isMonth_10 : decode cX11_isMonth 10 = .ok (.iconst 1, 1) := by decide +kernel
theorem dX11_isMonth_11 : decode cX11_isMonth 11 = .ok (.goto 4, 3) := by decide +kernel
theorem dX11_isMonth_14 : decode cX11_isMonth 14 = .ok (.iconst 0, 1) := by decide +kernel
theorem dX11_isMonth_15 : decode cX11_isMonth 15 = .ok (.ireturn, 1) := by decide +kernel
theorem dX11_isDay_0 : decode cX11_isDay 0 = .ok (.iload_n 0, 1) := by decide +kernel
theorem dX11_isDay_1 : decode cX11_isDay 1 = .ok (.ifCond .lt 14, 3) := by decide +kernel
theorem dX11_isDay_4 : decode cX11_isDay 4 = .ok (.iload_n 0, 1) := by decide +kernel
theorem dX11_isDay_5 : decode cX11_isDay 5 = .ok (.sipush 720, 3) := by decide +kernel
theorem dX11_isDay_8 : decode cX11_isDay 8 = .ok (.if_icmp .ge 7, 3) := by decide +kernel
theorem dX11_isDay_11 : decode cX11_isDay 11 = .ok (.iconst 1, 1) := by decide +kernel
theorem dX11_isDay_12 : decode cX11_isDay 12 = .ok (.goto 4, 3) := by decide +kernel
theorem dX11_isDay_15 : decode cX11_isDay 15 = .ok (.iconst 0, 1) := by decide +kernel
theorem dX11_isDay_16 : decode cX11_isDay 16 = .ok (.ireturn, 1) := by decide +kernel
theorem dX11_isWithin_0 : decode cX11_isWithin 0 = .ok (.iload_n 0, 1) := by decide +kernel
theorem dX11_isWithin_1 : decode cX11_isWithin 1 = .ok (.iload_n 1, 1) := by decide +kernel
theorem dX11_isWithin_2 : decode cX11_isWithin 2 = .ok (.if_icmp .lt 12, 3) := by decide +kernel
theorem dX11_isWithin_5 : decode cX11_isWithin 5 = .ok (.iload_n 0, 1) := by decide +kernel
theorem dX11_isWithin_6 : decode cX11_isWithin 6 = .ok (.iload_n 2, 1) := by decide +kernel
theorem dX11_isWithin_7 : decode cX11_isWithin 7 = .ok (.if_icmp .gt 7, 3) := by decide +kernel
theorem dX11_isWithin_10 : decode cX11_isWithin 10 = .ok (.iconst 1, 1) := by decide +kernel
theorem dX11_isWithin_11 : decode cX11_isWithin 11 = .ok (.goto 4, 3) := by decide +kernel
theorem dX11_isWithin_14 : decode cX11_isWithin 14 = .ok (.iconst 0, 1) := by decide +kernel
theorem dX11_isWithin_15 : decode cX11_isWithin 15 = .ok (.ireturn, 1) := by decide +kernel
theorem dX11_needThere_0 : decode cX11_needThere 0 = .ok (.iload_n 0, 1) := by decide +kernel
theorem dX11_needThere_1 : decode cX11_needThere 1 = .ok (.ifCond .ne 14, 3) := by decide +kernel
theorem dX11_needThere_4 : decode cX11_needThere 4 = .ok (.new 372, 3) := by decide +kernel
theorem dX11_needThere_7 : decode cX11_needThere 7 = .ok (.dup, 1) := by decide +kernel
theorem dX11_needThere_8 : decode cX11_needThere 8 = .ok (.ldc_w 374, 3) := by decide +kernel
theorem dX11_needThere_11 : decode cX11_needThere 11 = .ok (.invokespecial 376, 3) := by decide +kernel
theorem dX11_needThere_14 : decode cX11_needThere 14 = .ok (.athrow, 1) := by decide +kernel
theorem dX11_needThere_15 : decode cX11_needThere 15 = .ok (.return_, 1) := by decide +kernel
theorem dX11_needFitting_0 : decode cX11_needFitting 0 = .ok (.iload_n 0, 1) := by decide +kernel
theorem dX11_needFitting_1 : decode cX11_needFitting 1 = .ok (.ifCond .ne 14, 3) := by decide +kernel
theorem dX11_needFitting_4 : decode cX11_needFitting 4 = .ok (.new 379, 3) := by decide +kernel
theorem dX11_needFitting_7 : decode cX11_needFitting 7 = .ok (.dup, 1) := by decide +kernel
theorem dX11_needFitting_8 : decode cX11_needFitting 8 = .ok (.ldc_w 381, 3) := by decide +kernel
theorem dX11_needFitting_11 : decode cX11_needFitting 11 = .ok (.invokespecial 383, 3) := by decide +kernel
theorem dX11_needFitting_14 : decode cX11_needFitting 14 = .ok (.athrow, 1) := by decide +kernel
theorem dX11_needFitting_15 : decode cX11_needFitting 15 = .ok (.return_, 1) := by decide +kernel
theorem dX11_needAllowed_0 : decode cX11_needAllowed 0 = .ok (.iload_n 0, 1) := by decide +kernel
theorem dX11_needAllowed_1 : decode cX11_needAllowed 1 = .ok (.ifCond .ne 14, 3) := by decide +kernel
theorem dX11_needAllowed_4 : decode cX11_needAllowed 4 = .ok (.new 384, 3) := by decide +kernel
theorem dX11_needAllowed_7 : decode cX11_needAllowed 7 = .ok (.dup, 1) := by decide +kernel
theorem dX11_needAllowed_8 : decode cX11_needAllowed 8 = .ok (.ldc_w 386, 3) := by decide +kernel
theorem dX11_needAllowed_11 : decode cX11_needAllowed 11 = .ok (.invokespecial 388, 3) := by decide +kernel
theorem dX11_needAllowed_14 : decode cX11_needAllowed 14 = .ok (.athrow, 1) := by decide +kernel
theorem dX11_needAllowed_15 : decode cX11_needAllowed 15 = .ok (.return_, 1) := by decide +kernel
theorem dX12_init_0 : decode cX12_init 0 = .ok (.aload_n 0, 1) := by decide +kernel
theorem dX12_init_1 : decode cX12_init 1 = .ok (.invokespecial 1, 3) := by decide +kernel
theorem dX12_init_4 : decode cX12_init 4 = .ok (.aload_n 0, 1) := by decide +kernel
theorem dX12_init_5 : decode cX12_init 5 = .ok (.bipush 10, 2) := by decide +kernel
theorem dX12_init_7 : decode cX12_init 7 = .ok (.newarray .int, 2) := by decide +kernel
theorem dX12_init_9 : decode cX12_init 9 = .ok (.putfield 7, 3) := by decide +kernel
theorem dX12_init_12 : decode cX12_init 12 = .ok (.aload_n 0, 1) := by decide +kernel
theorem dX12_init_13 : decode cX12_init 13 = .ok (.bipush 10, 2) := by decide +kernel
theorem dX12_init_15 : decode cX12_init 15 = .ok (.newarray .int, 2) := by decide +kernel
theorem dX12_init_17 : decode cX12_init 17 = .ok (.putfield 13, 3) := by decide +kernel
theorem dX12_init_20 : decode cX12_init 20 = .ok (.aload_n 0, 1) := by decide +kernel
theorem dX12_init_21 : decode cX12_init 21 = .ok (.bipush 10, 2) := by decide +kernel
theorem dX12_init_23 : decode cX12_init 23 = .ok (.newarray .int, 2) := by decide +kernel
theorem dX12_init_25 : decode cX12_init 25 = .ok (.putfield 16, 3) := by decide +kernel
theorem dX12_init_28 : decode cX12_init 28 = .ok (.aload_n 0, 1) := by decide +kernel
theorem dX12_init_29 : decode cX12_init 29 = .ok (.bipush 10, 2) := by decide +kernel
theorem dX12_init_31 : decode cX12_init 31 = .ok (.newarray .int, 2) := by decide +kernel
theorem dX12_init_33 : decode cX12_init 33 = .ok (.putfield 19, 3) := by decide +kernel
theorem dX12_init_36 : decode cX12_init 36 = .ok (.aload_n 0, 1) := by decide +kernel
theorem dX12_init_37 : decode cX12_init 37 = .ok (.bipush 10, 2) := by decide +kernel
theorem dX12_init_39 : decode cX12_init 39 = .ok (.newarray .int, 2) := by decide +kernel
theorem dX12_init_41 : decode cX12_init 41 = .ok (.putfield 22, 3) := by decide +kernel
theorem dX12_init_44 : decode cX12_init 44 = .ok (.aload_n 0, 1) := by decide +kernel
theorem dX12_init_45 : decode cX12_init 45 = .ok (.bipush 10, 2) := by decide +kernel
theorem dX12_init_47 : decode cX12_init 47 = .ok (.newarray .int, 2) := by decide +kernel
theorem dX12_init_49 : decode cX12_init 49 = .ok (.putfield 25, 3) := by decide +kernel
theorem dX12_init_52 : decode cX12_init 52 = .ok (.aload_n 0, 1) := by decide +kernel
theorem dX12_init_53 : decode cX12_init 53 = .ok (.sipush 7200, 3) := by decide +kernel
theorem dX12_init_56 : decode cX12_init 56 = .ok (.newarray .int, 2) := by decide +kernel
theorem dX12_init_58 : decode cX12_init 58 = .ok (.putfield 28, 3) := by decide +kernel
theorem dX12_init_61 : decode cX12_init 61 = .ok (.aload_n 0, 1) := by decide +kernel
theorem dX12_init_62 : decode cX12_init 62 = .ok (.sipush 7200, 3) := by decide +kernel
theorem dX12_init_65 : decode cX12_init 65 = .ok (.newarray .int, 2) := by decide +kernel
theorem dX12_init_67 : decode cX12_init 67 = .ok (.putfield 31, 3) := by decide +kernel
theorem dX12_init_70 : decode cX12_init 70 = .ok (.aload_n 0, 1) := by decide +kernel
theorem dX12_init_71 : decode cX12_init 71 = .ok (.sipush 7200, 3) := by decide +kernel
theorem dX12_init_74 : decode cX12_init 74 = .ok (.newarray .int, 2) := by decide +kernel
theorem dX12_init_76 : decode cX12_init 76 = .ok (.putfield 34, 3) := by decide +kernel
theorem dX12_init_79 : decode cX12_init 79 = .ok (.aload_n 0, 1) := by decide +kernel
theorem dX12_init_80 : decode cX12_init 80 = .ok (.bipush 40, 2) := by decide +kernel
theorem dX12_init_82 : decode cX12_init 82 = .ok (.newarray .int, 2) := by decide +kernel
theorem dX12_init_84 : decode cX12_init 84 = .ok (.putfield 37, 3) := by decide +kernel
theorem dX12_init_87 : decode cX12_init 87 = .ok (.aload_n 0, 1) := by decide +kernel
theorem dX12_init_88 : decode cX12_init 88 = .ok (.bipush 40, 2) := by decide +kernel
theorem dX12_init_90 : decode cX12_init 90 = .ok (.newarray .int, 2) := by decide +kernel
theorem dX12_init_92 : decode cX12_init 92 = .ok (.putfield 40, 3) := by decide +kernel
theorem dX12_init_95 : decode cX12_init 95 = .ok (.aload_n 0, 1) := by decide +kernel
theorem dX12_init_96 : decode cX12_init 96 = .ok (.bipush 40, 2) := by decide +kernel
theorem dX12_init_98 : decode cX12_init 98 = .ok (.newarray .int, 2) := by decide +kernel
theorem dX12_init_100 : decode cX12_init 100 = .ok (.putfield 43, 3) := by decide +kernel
theorem dX12_init_103 : decode cX12_init 103 = .ok (.aload_n 0, 1) := by decide +kernel
theorem dX12_init_104 : decode cX12_init 104 = .ok (.bipush 30, 2) := by decide +kernel
theorem dX12_init_106 : decode cX12_init 106 = .ok (.newarray .int, 2) := by decide +kernel
theorem dX12_init_108 : decode cX12_init 108 = .ok (.putfield 46, 3) := by decide +kernel
theorem dX12_init_111 : decode cX12_init 111 = .ok (.aload_n 0, 1) := by decide +kernel
theorem dX12_init_112 : decode cX12_init 112 = .ok (.bipush 30, 2) := by decide +kernel
theorem dX12_init_114 : decode cX12_init 114 = .ok (.newarray .int, 2) := by decide +kernel
theorem dX12_init_116 : decode cX12_init 116 = .ok (.putfield 49, 3) := by decide +kernel
theorem dX12_init_119 : decode cX12_init 119 = .ok (.aload_n 0, 1) := by decide +kernel
theorem dX12_init_120 : decode cX12_init 120 = .ok (.bipush 30, 2) := by decide +kernel
theorem dX12_init_122 : decode cX12_init 122 = .ok (.newarray .int, 2) := by decide +kernel
theorem dX12_init_124 : decode cX12_init 124 = .ok (.putfield 52, 3) := by decide +kernel
theorem dX12_init_127 : decode cX12_init 127 = .ok (.aload_n 0, 1) := by decide +kernel
theorem dX12_init_128 : decode cX12_init 128 = .ok (.bipush 70, 2) := by decide +kernel
theorem dX12_init_130 : decode cX12_init 130 = .ok (.newarray .int, 2) := by decide +kernel
theorem dX12_init_132 : decode cX12_init 132 = .ok (.putfield 55, 3) := by decide +kernel
theorem dX12_init_135 : decode cX12_init 135 = .ok (.aload_n 0, 1) := by decide +kernel
theorem dX12_init_136 : decode cX12_init 136 = .ok (.bipush 70, 2) := by decide +kernel
theorem dX12_init_138 : decode cX12_init 138 = .ok (.newarray .int, 2) := by decide +kernel
theorem dX12_init_140 : decode cX12_init 140 = .ok (.putfield 58, 3) := by decide +kernel
theorem dX12_init_143 : decode cX12_init 143 = .ok (.aload_n 0, 1) := by decide +kernel
theorem dX12_init_144 : decode cX12_init 144 = .ok (.bipush 7, 2) := by decide +kernel
theorem dX12_init_146 : decode cX12_init 146 = .ok (.newarray .int, 2) := by decide +kernel
theorem dX12_init_148 : decode cX12_init 148 = .ok (.putfield 61, 3) := by decide +kernel
theorem dX12_init_151 : decode cX12_init 151 = .ok (.aload_n 0, 1) := by decide +kernel
theorem dX12_init_152 : decode cX12_init 152 = .ok (.bipush 6, 2) := by decide +kernel
theorem dX12_init_154 : decode cX12_init 154 = .ok (.newarray .int, 2) := by decide +kernel
theorem dX12_init_156 : decode cX12_init 156 = .ok (.putfield 64, 3) := by decide +kernel
theorem dX12_init_159 : decode cX12_init 159 = .ok (.aload_n 0, 1) := by decide +kernel
theorem dX12_init_160 : decode cX12_init 160 = .ok (.bipush 6, 2) := by decide +kernel
theorem dX12_init_162 : decode cX12_init 162 = .ok (.newarray .int, 2) := by decide +kernel
theorem dX12_init_164 : decode cX12_init 164 = .ok (.putfield 67, 3) := by decide +kernel
theorem dX12_init_167 : decode cX12_init 167 = .ok (.aload_n 0, 1) := by decide +kernel
theorem dX12_init_168 : decode cX12_init 168 = .ok (.bipush 10, 2) := by decide +kernel
theorem dX12_init_170 : decode cX12_init 170 = .ok (.newarray .long, 2) := by decide +kernel
theorem dX12_init_172 : decode cX12_init 172 = .ok (.putfield 70, 3) := by decide +kernel
theorem dX12_init_175 : decode cX12_init 175 = .ok (.aload_n 0, 1) := by decide +kernel
theorem dX12_init_176 : decode cX12_init 176 = .ok (.bipush 6, 2) := by decide +kernel
theorem dX12_init_178 : decode cX12_init 178 = .ok (.newarray .long, 2) := by decide +kernel
theorem dX12_init_180 : decode cX12_init 180 = .ok (.putfield 74, 3) := by decide +kernel
theorem dX12_init_183 : decode cX12_init 183 = .ok (.aload_n 0, 1) := by decide +kernel
theorem dX12_init_184 : decode cX12_init 184 = .ok (.sipush 432, 3) := by decide +kernel
theorem dX12_init_187 : decode cX12_init 187 = .ok (.newarray .int, 2) := by decide +kernel
theorem dX12_init_189 : decode cX12_init 189 = .ok (.putfield 77, 3) := by decide +kernel
theorem dX12_init_192 : decode cX12_init 192 = .ok (.aload_n 0, 1) := by decide +kernel
theorem dX12_init_193 : decode cX12_init 193 = .ok (.bipush 72, 2) := by decide +kernel
theorem dX12_init_195 : decode cX12_init 195 = .ok (.newarray .int, 2) := by decide +kernel
theorem dX12_init_197 : decode cX12_init 197 = .ok (.putfield 80, 3) := by decide +kernel
theorem dX12_init_200 : decode cX12_init 200 = .ok (.aload_n 0, 1) := by decide +kernel
theorem dX12_init_201 : decode cX12_init 201 = .ok (.bipush 72, 2) := by decide +kernel
theorem dX12_init_203 : decode cX12_init 203 = .ok (.newarray .int, 2) := by decide +kernel
theorem dX12_init_205 : decode cX12_init 205 = .ok (.putfield 83, 3) := by decide +kernel
theorem dX12_init_208 : decode cX12_init 208 = .ok (.aload_n 0, 1) := by decide +kernel
theorem dX12_init_209 : decode cX12_init 209 = .ok (.sipush 144, 3) := by decide +kernel
theorem dX12_init_212 : decode cX12_init 212 = .ok (.newarray .int, 2) := by decide +kernel
theorem dX12_init_214 : decode cX12_init 214 = .ok (.putfield 86, 3) := by decide +kernel
theorem dX12_init_217 : decode cX12_init 217 = .ok (.aload_n 0, 1) := by decide +kernel
theorem dX12_init_218 : decode cX12_init 218 = .ok (.sipush 576, 3) := by decide +kernel
theorem dX12_init_221 : decode cX12_init 221 = .ok (.newarray .int, 2) := by decide +kernel
theorem dX12_init_223 : decode cX12_init 223 = .ok (.putfield 89, 3) := by decide +kernel
theorem dX12_init_226 : decode cX12_init 226 = .ok (.aload_n 0, 1) := by decide +kernel
theorem dX12_init_227 : decode cX12_init 227 = .ok (.sipush 576, 3) := by decide +kernel
theorem dX12_init_230 : decode cX12_init 230 = .ok (.newarray .int, 2) := by decide +kernel
theorem dX12_init_232 : decode cX12_init 232 = .ok (.putfield 92, 3) := by decide +kernel
theorem dX12_init_235 : decode cX12_init 235 = .ok (.aload_n 0, 1) := by decide +kernel
theorem dX12_init_236 : decode cX12_init 236 = .ok (.sipush 144, 3) := by decide +kernel
theorem dX12_init_239 : decode cX12_init 239 = .ok (.newarray .int, 2) := by decide +kernel
theorem dX12_init_241 : decode cX12_init 241 = .ok (.putfield 95, 3) := by decide +kernel
theorem dX12_init_244 : decode cX12_init 244 = .ok (.aload_n 0, 1) := by decide +kernel
theorem dX12_init_245 : decode cX12_init 245 = .ok (.sipush 144, 3) := by decide +kernel
theorem dX12_init_248 : decode cX12_init 248 = .ok (.newarray .int, 2) := by decide +kernel
theorem dX12_init_250 : decode cX12_init 250 = .ok (.putfield 98, 3) := by decide +kernel
theorem dX12_init_253 : decode cX12_init 253 = .ok (.aload_n 0, 1) := by decide +kernel
theorem dX12_init_254 : decode cX12_init 254 = .ok (.bipush 6, 2) := by decide +kernel
theorem dX12_init_256 : decode cX12_init 256 = .ok (.newarray .int, 2) := by decide +kernel
theorem dX12_init_258 : decode cX12_init 258 = .ok (.putfield 101, 3) := by decide +kernel
theorem dX12_init_261 : decode cX12_init 261 = .ok (.aload_n 0, 1) := by decide +kernel
theorem dX12_init_262 : decode cX12_init 262 = .ok (.bipush 6, 2) := by decide +kernel
theorem dX12_init_264 : decode cX12_init 264 = .ok (.newarray .int, 2) := by decide +kernel
theorem dX12_init_266 : decode cX12_init 266 = .ok (.putfield 104, 3) := by decide +kernel
theorem dX12_init_269 : decode cX12_init 269 = .ok (.aload_n 0, 1) := by decide +kernel
theorem dX12_init_270 : decode cX12_init 270 = .ok (.bipush 6, 2) := by decide +kernel
theorem dX12_init_272 : decode cX12_init 272 = .ok (.newarray .int, 2) := by decide +kernel
theorem dX12_init_274 : decode cX12_init 274 = .ok (.putfield 107, 3) := by decide +kernel
theorem dX12_init_277 : decode cX12_init 277 = .ok (.aload_n 0, 1) := by decide +kernel
theorem dX12_init_278 : decode cX12_init 278 = .ok (.bipush 6, 2) := by decide +kernel
theorem dX12_init_280 : decode cX12_init 280 = .ok (.newarray .int, 2) := by decide +kernel
theorem dX12_init_282 : decode cX12_init 282 = .ok (.putfield 110, 3) := by decide +kernel
theorem dX12_init_285 : decode cX12_init 285 = .ok (.aload_n 0, 1) := by decide +kernel
theorem dX12_init_286 : decode cX12_init 286 = .ok (.bipush 6, 2) := by decide +kernel
theorem dX12_init_288 : decode cX12_init 288 = .ok (.newarray .int, 2) := by decide +kernel
theorem dX12_init_290 : decode cX12_init 290 = .ok (.putfield 113, 3) := by decide +kernel
theorem dX12_init_293 : decode cX12_init 293 = .ok (.aload_n 0, 1) := by decide +kernel
theorem dX12_init_294 : decode cX12_init 294 = .ok (.bipush 6, 2) := by decide +kernel
theorem dX12_init_296 : decode cX12_init 296 = .ok (.newarray .int, 2) := by decide +kernel
theorem dX12_init_298 : decode cX12_init 298 = .ok (.putfield 116, 3) := by decide +kernel
theorem dX12_init_301 : decode cX12_init 301 = .ok (.aload_n 0, 1) := by decide +kernel
theorem dX12_init_302 : decode cX12_init 302 = .ok (.sipush 144, 3) := by decide +kernel
theorem dX12_init_305 : decode cX12_init 305 = .ok (.newarray .long, 2) := by decide +kernel
theorem dX12_init_307 : decode cX12_init 307 = .ok (.putfield 119, 3) := by decide +kernel
theorem dX12_init_310 : decode cX12_init 310 = .ok (.aload_n 0, 1) := by decide +kernel
theorem dX12_init_311 : decode cX12_init 311 = .ok (.sipush 144, 3) := by decide +kernel
theorem dX12_init_314 : decode cX12_init 314 = .ok (.newarray .int, 2) := by decide +kernel
theorem dX12_init_316 : decode cX12_init 316 = .ok (.putfield 122, 3) := by decide +kernel
theorem dX12_init_319 : decode cX12_init 319 = .ok (.aload_n 0, 1) := by decide +kernel
theorem dX12_init_320 : decode cX12_init 320 = .ok (.sipush 144, 3) := by decide +kernel
theorem dX12_init_323 : decode cX12_init 323 = .ok (.newarray .int, 2) := by decide +kernel
theorem dX12_init_325 : decode cX12_init 325 = .ok (.putfield 125, 3) := by decide +kernel
theorem dX12_init_328 : decode cX12_init 328 = .ok (.aload_n 0, 1) := by decide +kernel
theorem dX12_init_329 : decode cX12_init 329 = .ok (.sipush 144, 3) := by decide +kernel
theorem dX12_init_332 : decode cX12_init 332 = .ok (.newarray .long, 2) := by decide +kernel
theorem dX12_init_334 : decode cX12_init 334 = .ok (.putfield 128, 3) := by decide +kernel
theorem dX12_init_337 : decode cX12_init 337 = .ok (.aload_n 0, 1) := by decide +kernel
theorem dX12_init_338 : decode cX12_init 338 = .ok (.sipush 144, 3) := by decide +kernel
theorem dX12_init_341 : decode cX12_init 341 = .ok (.newarray .int, 2) := by decide +kernel
theorem dX12_init_343 : decode cX12_init 343 = .ok (.putfield 131, 3) := by decide +kernel
theorem dX12_init_346 : decode cX12_init 346 = .ok (.aload_n 0, 1) := by decide +kernel
theorem dX12_init_347 : decode cX12_init 347 = .ok (.bipush 72, 2) := by decide +kernel
theorem dX12_init_349 : decode cX12_init 349 = .ok (.newarray .long, 2) := by decide +kernel
theorem dX12_init_351 : decode cX12_init 351 = .ok (.putfield 134, 3) := by decide +kernel
theorem dX12_init_354 : decode cX12_init 354 = .ok (.aload_n 0, 1) := by decide +kernel
theorem dX12_init_355 : decode cX12_init 355 = .ok (.bipush 72, 2) := by decide +kernel
theorem dX12_init_357 : decode cX12_init 357 = .ok (.newarray .long, 2) := by decide +kernel
theorem dX12_init_359 : decode cX12_init 359 = .ok (.putfield 137, 3) := by decide +kernel
theorem dX12_init_362 : decode cX12_init 362 = .ok (.aload_n 0, 1) := by decide +kernel
theorem dX12_init_363 : decode cX12_init 363 = .ok (.bipush 72, 2) := by decide +kernel
theorem dX12_init_365 : decode cX12_init 365 = .ok (.newarray .int, 2) := by decide +kernel
theorem dX12_init_367 : decode cX12_init 367 = .ok (.putfield 140, 3) := by decide +kernel
theorem dX12_init_370 : decode cX12_init 370 = .ok (.aload_n 0, 1) := by decide +kernel
theorem dX12_init_371 : decode cX12_init 371 = .ok (.bipush 72, 2) := by decide +kernel
theorem dX12_init_373 : decode cX12_init 373 = .ok (.newarray .long, 2) := by decide +kernel
theorem dX12_init_375 : decode cX12_init 375 = .ok (.putfield 143, 3) := by decide +kernel
theorem dX12_init_378 : decode cX12_init 378 = .ok (.aload_n 0, 1) := by decide +kernel
theorem dX12_init_379 : decode cX12_init 379 = .ok (.bipush 72, 2) := by decide +kernel
theorem dX12_init_381 : decode cX12_init 381 = .ok (.newarray .long, 2) := by decide +kernel
theorem dX12_init_383 : decode cX12_init 383 = .ok (.putfield 146, 3) := by decide +kernel
theorem dX12_init_386 : decode cX12_init 386 = .ok (.aload_n 0, 1) := by decide +kernel
theorem dX12_init_387 : decode cX12_init 387 = .ok (.bipush 72, 2) := by decide +kernel
theorem dX12_init_389 : decode cX12_init 389 = .ok (.newarray .long, 2) := by decide +kernel
theorem dX12_init_391 : decode cX12_init 391 = .ok (.putfield 149, 3) := by decide +kernel
theorem dX12_init_394 : decode cX12_init 394 = .ok (.aload_n 0, 1) := by decide +kernel
theorem dX12_init_395 : decode cX12_init 395 = .ok (.bipush 72, 2) := by decide +kernel
theorem dX12_init_397 : decode cX12_init 397 = .ok (.newarray .long, 2) := by decide +kernel
theorem dX12_init_399 : decode cX12_init 399 = .ok (.putfield 152, 3) := by decide +kernel
theorem dX12_init_402 : decode cX12_init 402 = .ok (.aload_n 0, 1) := by decide +kernel
theorem dX12_init_403 : decode cX12_init 403 = .ok (.bipush 72, 2) := by decide +kernel
theorem dX12_init_405 : decode cX12_init 405 = .ok (.newarray .long, 2) := by decide +kernel
theorem dX12_init_407 : decode cX12_init 407 = .ok (.putfield 155, 3) := by decide +kernel
theorem dX12_init_410 : decode cX12_init 410 = .ok (.aload_n 0, 1) := by decide +kernel
theorem dX12_init_411 : decode cX12_init 411 = .ok (.bipush 24, 2) := by decide +kernel
theorem dX12_init_413 : decode cX12_init 413 = .ok (.newarray .long, 2) := by decide +kernel
theorem dX12_init_415 : decode cX12_init 415 = .ok (.putfield 158, 3) := by decide +kernel
theorem dX12_init_418 : decode cX12_init 418 = .ok (.aload_n 0, 1) := by decide +kernel
theorem dX12_init_419 : decode cX12_init 419 = .ok (.bipush 24, 2) := by decide +kernel
theorem dX12_init_421 : decode cX12_init 421 = .ok (.newarray .long, 2) := by decide +kernel
theorem dX12_init_423 : decode cX12_init 423 = .ok (.putfield 161, 3) := by decide +kernel
theorem dX12_init_426 : decode cX12_init 426 = .ok (.aload_n 0, 1) := by decide +kernel
theorem dX12_init_427 : decode cX12_init 427 = .ok (.bipush 24, 2) := by decide +kernel
theorem dX12_init_429 : decode cX12_init 429 = .ok (.newarray .long, 2) := by decide +kernel
theorem dX12_init_431 : decode cX12_init 431 = .ok (.putfield 164, 3) := by decide +kernel
theorem dX12_init_434 : decode cX12_init 434 = .ok (.aload_n 0, 1) := by decide +kernel
theorem dX12_init_435 : decode cX12_init 435 = .ok (.bipush 24, 2) := by decide +kernel
theorem dX12_init_437 : decode cX12_init 437 = .ok (.newarray .long, 2) := by decide +kernel
theorem dX12_init_439 : decode cX12_init 439 = .ok (.putfield 167, 3) := by decide +kernel
theorem dX12_init_442 : decode cX12_init 442 = .ok (.aload_n 0, 1) := by decide +kernel
theorem dX12_init_443 : decode cX12_init 443 = .ok (.bipush 24, 2) := by decide +kernel
theorem dX12_init_445 : decode cX12_init 445 = .ok (.newarray .long, 2) := by decide +kernel
theorem dX12_init_447 : decode cX12_init 447 = .ok (.putfield 170, 3) := by decide +kernel
theorem dX12_init_450 : decode cX12_init 450 = .ok (.aload_n 0, 1) := by decide +kernel
theorem dX12_init_451 : decode cX12_init 451 = .ok (.sipush 144, 3) := by decide +kernel
theorem dX12_init_454 : decode cX12_init 454 = .ok (.newarray .long, 2) := by decide +kernel
theorem dX12_init_456 : decode cX12_init 456 = .ok (.putfield 173, 3) := by decide +kernel
theorem dX12_init_459 : decode cX12_init 459 = .ok (.aload_n 0, 1) := by decide +kernel
theorem dX12_init_460 : decode cX12_init 460 = .ok (.sipush 144, 3) := by decide +kernel
theorem dX12_init_463 : decode cX12_init 463 = .ok (.newarray .long, 2) := by decide +kernel
theorem dX12_init_465 : decode cX12_init 465 = .ok (.putfield 176, 3) := by decide +kernel
theorem dX12_init_468 : decode cX12_init 468 = .ok (.aload_n 0, 1) := by decide +kernel
theorem dX12_init_469 : decode cX12_init 469 = .ok (.sipush 432, 3) := by decide +kernel
theorem dX12_init_472 : decode cX12_init 472 = .ok (.newarray .long, 2) := by decide +kernel
theorem dX12_init_474 : decode cX12_init 474 = .ok (.putfield 179, 3) := by decide +kernel
theorem dX12_init_477 : decode cX12_init 477 = .ok (.aload_n 0, 1) := by decide +kernel
theorem dX12_init_478 : decode cX12_init 478 = .ok (.sipush 432, 3) := by decide +kernel
theorem dX12_init_481 : decode cX12_init 481 = .ok (.newarray .long, 2) := by decide +kernel
theorem dX12_init_483 : decode cX12_init 483 = .ok (.putfield 182, 3) := by decide +kernel
theorem dX12_init_486 : decode cX12_init 486 = .ok (.iconst 0, 1) := by decide +kernel
theorem dX12_init_487 : decode cX12_init 487 = .ok (.istore_n 1, 1) := by decide +kernel
theorem dX12_init_488 : decode cX12_init 488 = .ok (.iload_n 1, 1) := by decide +kernel
theorem dX12_init_489 : decode cX12_init 489 = .ok (.sipush 7200, 3) := by decide +kernel
theorem dX12_init_492 : decode cX12_init 492 = .ok (.if_icmp .ge 16, 3) := by decide +kernel
theorem dX12_init_495 : decode cX12_init 495 = .ok (.aload_n 0, 1) := by decide +kernel
theorem dX12_init_496 : decode cX12_init 496 = .ok (.getfield 28, 3) := by decide +kernel
theorem dX12_init_499 : decode cX12_init 499 = .ok (.iload_n 1, 1) := by decide +kernel
theorem dX12_init_500 : decode cX12_init 500 = .ok (.iconst (-1), 1) := by decide +kernel
theorem dX12_init_501 : decode cX12_init 501 = .ok (.iastore, 1) := by decide +kernel
theorem dX12_init_502 : decode cX12_init 502 = .ok (.iinc 1 1, 3) := by decide +kernel
theorem dX12_init_505 : decode cX12_init 505 = .ok (.goto (-17), 3) := by decide +kernel
theorem dX12_init_508 : decode cX12_init 508 = .ok (.iconst 0, 1) := by decide +kernel
theorem dX12_init_509 : decode cX12_init 509 = .ok (.istore_n 1, 1) := by decide +kernel
theorem dX12_init_510 : decode cX12_init 510 = .ok (.iload_n 1, 1) := by decide +kernel
theorem dX12_init_511 : decode cX12_init 511 = .ok (.bipush 72, 2) := by decide +kernel
theorem dX12_init_513 : decode cX12_init 513 = .ok (.if_icmp .ge 16, 3) := by decide +kernel
theorem dX12_init_516 : decode cX12_init 516 = .ok (.aload_n 0, 1) := by decide +kernel
theorem dX12_init_517 : decode cX12_init 517 = .ok (.getfield 80, 3) := by decide +kernel
theorem dX12_init_520 : decode cX12_init 520 = .ok (.iload_n 1, 1) := by decide +kernel
theorem dX12_init_521 : decode cX12_init 521 = .ok (.iconst (-1), 1) := by decide +kernel
theorem dX12_init_522 : decode cX12_init 522 = .ok (.iastore, 1) := by decide +kernel
theorem dX12_init_523 : decode cX12_init 523 = .ok (.iinc 1 1, 3) := by decide +kernel
theorem dX12_init_526 : decode cX12_init 526 = .ok (.goto (-16), 3) := by decide +kernel
theorem dX12_init_529 : decode cX12_init 529 = .ok (.iconst 0, 1) := by decide +kernel
theorem dX12_init_530 : decode cX12_init 530 = .ok (.istore_n 1, 1) := by decide +kernel
theorem dX12_init_531 : decode cX12_init 531 = .ok (.iload_n 1, 1) := by decide +kernel
theorem dX12_init_532 : decode cX12_init 532 = .ok (.sipush 144, 3) := by decide +kernel
theorem dX12_init_535 : decode cX12_init 535 = .ok (.if_icmp .ge 23, 3) := by decide +kernel
theorem dX12_init_538 : decode cX12_init 538 = .ok (.aload_n 0, 1) := by decide +kernel
theorem dX12_init_539 : decode cX12_init 539 = .ok (.getfield 95, 3) := by decide +kernel
theorem dX12_init_542 : decode cX12_init 542 = .ok (.iload_n 1, 1) := by decide +kernel
theorem dX12_init_543 : decode cX12_init 543 = .ok (.iconst (-1), 1) := by decide +kernel
theorem dX12_init_544 : decode cX12_init 544 = .ok (.iastore, 1) := by decide +kernel
theorem dX12_init_545 : decode cX12_init 545 = .ok (.aload_n 0, 1) := by decide +kernel
theorem dX12_init_546 : decode cX12_init 546 = .ok (.getfield 98, 3) := by decide +kernel
theorem dX12_init_549 : decode cX12_init 549 = .ok (.iload_n 1, 1) := by decide +kernel
theorem dX12_init_550 : decode cX12_init 550 = .ok (.iconst (-1), 1) := by decide +kernel
theorem dX12_init_551 : decode cX12_init 551 = .ok (.iastore, 1) := by decide +kernel
theorem dX12_init_552 : decode cX12_init 552 = .ok (.iinc 1 1, 3) := by decide +kernel
theorem dX12_init_555 : decode cX12_init 555 = .ok (.goto (-24), 3) := by decide +kernel
theorem dX12_init_558 : decode cX12_init 558 = .ok (.return_, 1) := by decide +kernel
theorem dX12_thrown_0 : decode cX12_thrown 0 = .ok (.aload_n 0, 1) := by decide +kernel
theorem dX12_thrown_1 : decode cX12_thrown 1 = .ok (.getfield 185, 3) := by decide +kernel
theorem dX12_thrown_4 : decode cX12_thrown 4 = .ok (.ireturn, 1) := by decide +kernel
theorem dX12_holds_0 : decode cX12_holds 0 = .ok (.aload_n 0, 1) := by decide +kernel
theorem dX12_holds_1 : decode cX12_holds 1 = .ok (.iload_n 1, 1) := by decide +kernel
theorem dX12_holds_2 : decode cX12_holds 2 = .ok (.putfield 185, 3) := by decide +kernel
theorem dX12_holds_5 : decode cX12_holds 5 = .ok (.iload_n 1, 1) := by decide +kernel
theorem dX12_holds_6 : decode cX12_holds 6 = .ok (.ifCond .le 7, 3) := by decide +kernel
theorem dX12_holds_9 : decode cX12_holds 9 = .ok (.iconst 1, 1) := by decide +kernel
theorem dX12_holds_10 : decode cX12_holds 10 = .ok (.goto 4, 3) := by decide +kernel
theorem dX12_holds_13 : decode cX12_holds 13 = .ok (.iconst 0, 1) := by decide +kernel
theorem dX12_holds_14 : decode cX12_holds 14 = .ok (.ireturn, 1) := by decide +kernel
theorem dX12_in_0 : decode cX12_in 0 = .ok (.lload_n 1, 1) := by decide +kernel
theorem dX12_in_1 : decode cX12_in 1 = .ok (.lload_n 3, 1) := by decide +kernel
theorem dX12_in_2 : decode cX12_in 2 = .ok (.lcmp, 1) := by decide +kernel
theorem dX12_in_3 : decode cX12_in 3 = .ok (.ifCond .lt 14, 3) := by decide +kernel
theorem dX12_in_6 : decode cX12_in 6 = .ok (.lload_n 1, 1) := by decide +kernel
theorem dX12_in_7 : decode cX12_in 7 = .ok (.lload 5, 2) := by decide +kernel
theorem dX12_in_9 : decode cX12_in 9 = .ok (.lcmp, 1) := by decide +kernel
theorem dX12_in_10 : decode cX12_in 10 = .ok (.ifCond .gt 7, 3) := by decide +kernel
theorem dX12_in_13 : decode cX12_in 13 = .ok (.iconst 1, 1) := by decide +kernel
theorem dX12_in_14 : decode cX12_in 14 = .ok (.goto 4, 3) := by decide +kernel
theorem dX12_in_17 : decode cX12_in 17 = .ok (.iconst 0, 1) := by decide +kernel
theorem dX12_in_18 : decode cX12_in 18 = .ok (.ireturn, 1) := by decide +kernel
theorem dX12_isPerson_0 : decode cX12_isPerson 0 = .ok (.aload_n 0, 1) := by decide +kernel
theorem dX12_isPerson_1 : decode cX12_isPerson 1 = .ok (.iload_n 1, 1) := by decide +kernel
theorem dX12_isPerson_2 : decode cX12_isPerson 2 = .ok (.i2l, 1) := by decide +kernel
theorem dX12_isPerson_3 : decode cX12_isPerson 3 = .ok (.lconst 0, 1) := by decide +kernel
theorem dX12_isPerson_4 : decode cX12_isPerson 4 = .ok (.ldc2_w 189, 3) := by decide +kernel
theorem dX12_isPerson_7 : decode cX12_isPerson 7 = .ok (.invokevirtual 191, 3) := by decide +kernel
theorem dX12_isPerson_10 : decode cX12_isPerson 10 = .ok (.ireturn, 1) := by decide +kernel
theorem dX12_isPlace_0 : decode cX12_isPlace 0 = .ok (.aload_n 0, 1) := by decide +kernel
theorem dX12_isPlace_1 : decode cX12_isPlace 1 = .ok (.iload_n 1, 1) := by decide +kernel
theorem dX12_isPlace_2 : decode cX12_isPlace 2 = .ok (.i2l, 1) := by decide +kernel
theorem dX12_isPlace_3 : decode cX12_isPlace 3 = .ok (.lconst 0, 1) := by decide +kernel
theorem dX12_isPlace_4 : decode cX12_isPlace 4 = .ok (.ldc2_w 195, 3) := by decide +kernel
theorem dX12_isPlace_7 : decode cX12_isPlace 7 = .ok (.invokevirtual 191, 3) := by decide +kernel
theorem dX12_isPlace_10 : decode cX12_isPlace 10 = .ok (.ireturn, 1) := by decide +kernel
theorem dX12_isMonth_0 : decode cX12_isMonth 0 = .ok (.aload_n 0, 1) := by decide +kernel
theorem dX12_isMonth_1 : decode cX12_isMonth 1 = .ok (.iload_n 1, 1) := by decide +kernel
theorem dX12_isMonth_2 : decode cX12_isMonth 2 = .ok (.i2l, 1) := by decide +kernel
theorem dX12_isMonth_3 : decode cX12_isMonth 3 = .ok (.lconst 0, 1) := by decide +kernel
theorem dX12_isMonth_4 : decode cX12_isMonth 4 = .ok (.ldc2_w 197, 3) := by decide +kernel
theorem dX12_isMonth_7 : decode cX12_isMonth 7 = .ok (.invokevirtual 191, 3) := by decide +kernel
theorem dX12_isMonth_10 : decode cX12_isMonth 10 = .ok (.ireturn, 1) := by decide +kernel
theorem dX12_isDay_0 : decode cX12_isDay 0 = .ok (.aload_n 0, 1) := by decide +kernel
theorem dX12_isDay_1 : decode cX12_isDay 1 = .ok (.iload_n 1, 1) := by decide +kernel
theorem dX12_isDay_2 : decode cX12_isDay 2 = .ok (.i2l, 1) := by decide +kernel
theorem dX12_isDay_3 : decode cX12_isDay 3 = .ok (.lconst 0, 1) := by decide +kernel
theorem dX12_isDay_4 : decode cX12_isDay 4 = .ok (.ldc2_w 199, 3) := by decide +kernel
theorem dX12_isDay_7 : decode cX12_isDay 7 = .ok (.invokevirtual 191, 3) := by decide +kernel
theorem dX12_isDay_10 : decode cX12_isDay 10 = .ok (.ireturn, 1) := by decide +kernel
theorem dX12_isContract_0 : decode cX12_isContract 0 = .ok (.aload_n 0, 1) := by decide +kernel
theorem dX12_isContract_1 : decode cX12_isContract 1 = .ok (.iload_n 1, 1) := by decide +kernel
theorem dX12_isContract_2 : decode cX12_isContract 2 = .ok (.i2l, 1) := by decide +kernel
theorem dX12_isContract_3 : decode cX12_isContract 3 = .ok (.lconst 0, 1) := by decide +kernel
theorem dX12_isContract_4 : decode cX12_isContract 4 = .ok (.aload_n 0, 1) := by decide +kernel
theorem dX12_isContract_5 : decode cX12_isContract 5 = .ok (.getfield 201, 3) := by decide +kernel
theorem dX12_isContract_8 : decode cX12_isContract 8 = .ok (.iconst 1, 1) := by decide +kernel
theorem dX12_isContract_9 : decode cX12_isContract 9 = .ok (.isub, 1) := by decide +kernel
theorem dX12_isContract_10 : decode cX12_isContract 10 = .ok (.i2l, 1) := by decide +kernel
theorem dX12_isContract_11 : decode cX12_isContract 11 = .ok (.invokevirtual 191, 3) := by decide +kernel
theorem dX12_isContract_14 : decode cX12_isContract 14 = .ok (.ireturn, 1) := by decide +kernel
theorem dX12_isOf_0 : decode cX12_isOf 0 = .ok (.aload_n 0, 1) := by decide +kernel
theorem dX12_isOf_1 : decode cX12_isOf 1 = .ok (.iload_n 1, 1) := by decide +kernel
theorem dX12_isOf_2 : decode cX12_isOf 2 = .ok (.invokevirtual 204, 3) := by decide +kernel
theorem dX12_isOf_5 : decode cX12_isOf 5 = .ok (.ifCond .eq 30, 3) := by decide +kernel
theorem dX12_isOf_8 : decode cX12_isOf 8 = .ok (.aload_n 0, 1) := by decide +kernel
theorem dX12_isOf_9 : decode cX12_isOf 9 = .ok (.iload_n 2, 1) := by decide +kernel
theorem dX12_isOf_10 : decode cX12_isOf 10 = .ok (.i2l, 1) := by decide +kernel
theorem dX12_isOf_11 : decode cX12_isOf 11 = .ok (.aload_n 0, 1) := by decide +kernel
theorem dX12_isOf_12 : decode cX12_isOf 12 = .ok (.getfield 16, 3) := by decide +kernel
theorem dX12_isOf_15 : decode cX12_isOf 15 = .ok (.iload_n 1, 1) := by decide +kernel
theorem dX12_isOf_16 : decode cX12_isOf 16 = .ok (.iaload, 1) := by decide +kernel
theorem dX12_isOf_17 : decode cX12_isOf 17 = .ok (.i2l, 1) := by decide +kernel
theorem dX12_isOf_18 : decode cX12_isOf 18 = .ok (.aload_n 0, 1) := by decide +kernel
theorem dX12_isOf_19 : decode cX12_isOf 19 = .ok (.getfield 19, 3) := by decide +kernel
theorem dX12_isOf_22 : decode cX12_isOf 22 = .ok (.iload_n 1, 1) := by decide +kernel
theorem dX12_isOf_23 : decode cX12_isOf 23 = .ok (.iaload, 1) := by decide +kernel
theorem dX12_isOf_24 : decode cX12_isOf 24 = .ok (.i2l, 1) := by decide +kernel
theorem dX12_isOf_25 : decode cX12_isOf 25 = .ok (.invokevirtual 191, 3) := by decide +kernel
theorem dX12_isOf_28 : decode cX12_isOf 28 = .ok (.ifCond .eq 7, 3) := by decide +kernel
theorem dX12_isOf_31 : decode cX12_isOf 31 = .ok (.iconst 1, 1) := by decide +kernel
theorem dX12_isOf_32 : decode cX12_isOf 32 = .ok (.goto 4, 3) := by decide +kernel
theorem dX12_isOf_35 : decode cX12_isOf 35 = .ok (.iconst 0, 1) := by decide +kernel
theorem dX12_isOf_36 : decode cX12_isOf 36 = .ok (.ireturn, 1) := by decide +kernel
theorem dX12_down_0 : decode cX12_down 0 = .ok (.lload_n 1, 1) := by decide +kernel
theorem dX12_down_1 : decode cX12_down 1 = .ok (.lload_n 3, 1) := by decide +kernel
theorem dX12_down_2 : decode cX12_down 2 = .ok (.ldiv, 1) := by decide +kernel
theorem dX12_down_3 : decode cX12_down 3 = .ok (.lstore 5, 2) := by decide +kernel
theorem dX12_down_5 : decode cX12_down 5 = .ok (.lload_n 1, 1) := by decide +kernel
theorem dX12_down_6 : decode cX12_down 6 = .ok (.lload_n 3, 1) := by decide +kernel
theorem dX12_down_7 : decode cX12_down 7 = .ok (.lrem, 1) := by decide +kernel
theorem dX12_down_8 : decode cX12_down 8 = .ok (.lconst 0, 1) := by decide +kernel
theorem dX12_down_9 : decode cX12_down 9 = .ok (.lcmp, 1) := by decide +kernel
theorem dX12_down_10 : decode cX12_down 10 = .ok (.ifCond .ge 10, 3) := by decide +kernel
theorem dX12_down_13 : decode cX12_down 13 = .ok (.lload 5, 2) := by decide +kernel
theorem dX12_down_15 : decode cX12_down 15 = .ok (.lconst 1, 1) := by decide +kernel
theorem dX12_down_16 : decode cX12_down 16 = .ok (.lsub, 1) := by decide +kernel
theorem dX12_down_17 : decode cX12_down 17 = .ok (.goto 5, 3) := by decide +kernel
theorem dX12_down_20 : decode cX12_down 20 = .ok (.lload 5, 2) := by decide +kernel
theorem dX12_down_22 : decode cX12_down 22 = .ok (.lreturn, 1) := by decide +kernel
theorem dX12_round_0 : decode cX12_round 0 = .ok (.aload_n 0, 1) := by decide +kernel
theorem dX12_round_1 : decode cX12_round 1 = .ok (.ldc2_w 195, 3) := by decide +kernel
theorem dX12_round_4 : decode cX12_round 4 = .ok (.lload_n 1, 1) := by decide +kernel
theorem dX12_round_5 : decode cX12_round 5 = .ok (.lmul, 1) := by decide +kernel
theorem dX12_round_6 : decode cX12_round 6 = .ok (.lload_n 3, 1) := by decide +kernel
theorem dX12_round_7 : decode cX12_round 7 = .ok (.ladd, 1) := by decide +kernel
theorem dX12_round_8 : decode cX12_round 8 = .ok (.ldc2_w 195, 3) := by decide +kernel
theorem dX12_round_11 : decode cX12_round 11 = .ok (.lload_n 3, 1) := by decide +kernel
theorem dX12_round_12 : decode cX12_round 12 = .ok (.lmul, 1) := by decide +kernel
theorem dX12_round_13 : decode cX12_round 13 = .ok (.invokevirtual 208, 3) := by decide +kernel
theorem dX12_round_16 : decode cX12_round 16 = .ok (.lreturn, 1) := by decide +kernel
theorem dX12_spread_0 : decode cX12_spread 0 = .ok (.iconst 0, 1) := by decide +kernel
theorem dX12_spread_1 : decode cX12_spread 1 = .ok (.istore_n 2, 1) := by decide +kernel
theorem dX12_spread_2 : decode cX12_spread 2 = .ok (.iconst 0, 1) := by decide +kernel
theorem dX12_spread_3 : decode cX12_spread 3 = .ok (.istore_n 3, 1) := by decide +kernel
theorem dX12_spread_4 : decode cX12_spread 4 = .ok (.iload_n 3, 1) := by decide +kernel
theorem dX12_spread_5 : decode cX12_spread 5 = .ok (.sipush 720, 3) := by decide +kernel
theorem dX12_spread_8 : decode cX12_spread 8 = .ok (.if_icmp .ge 54, 3) := by decide +kernel
theorem dX12_spread_11 : decode cX12_spread 11 = .ok (.aload_n 0, 1) := by decide +kernel
theorem dX12_spread_12 : decode cX12_spread 12 = .ok (.getfield 28, 3) := by decide +kernel
theorem dX12_spread_15 : decode cX12_spread 15 = .ok (.sipush 720, 3) := by decide +kernel
theorem dX12_spread_18 : decode cX12_spread 18 = .ok (.iload_n 1, 1) := by decide +kernel
theorem dX12_spread_19 : decode cX12_spread 19 = .ok (.imul, 1) := by decide +kernel
theorem dX12_spread_20 : decode cX12_spread 20 = .ok (.iload_n 3, 1) := by decide +kernel
theorem dX12_spread_21 : decode cX12_spread 21 = .ok (.iadd, 1) := by decide +kernel
theorem dX12_spread_22 : decode cX12_spread 22 = .ok (.iaload, 1) := by decide +kernel
theorem dX12_spread_23 : decode cX12_spread 23 = .ok (.ifCond .lt 18, 3) := by decide +kernel
theorem dX12_spread_26 : decode cX12_spread 26 = .ok (.aload_n 0, 1) := by decide +kernel
theorem dX12_spread_27 : decode cX12_spread 27 = .ok (.getfield 28, 3) := by decide +kernel
theorem dX12_spread_30 : decode cX12_spread 30 = .ok (.sipush 720, 3) := by decide +kernel
theorem dX12_spread_33 : decode cX12_spread 33 = .ok (.iload_n 1, 1) := by decide +kernel
theorem dX12_spread_34 : decode cX12_spread 34 = .ok (.imul, 1) := by decide +kernel
theorem dX12_spread_35 : decode cX12_spread 35 = .ok (.iload_n 3, 1) := by decide +kernel
theorem dX12_spread_36 : decode cX12_spread 36 = .ok (.iadd, 1) := by decide +kernel
theorem dX12_spread_37 : decode cX12_spread 37 = .ok (.iaload, 1) := by decide +kernel
theorem dX12_spread_38 : decode cX12_spread 38 = .ok (.goto 4, 3) := by decide +kernel
theorem dX12_spread_41 : decode cX12_spread 41 = .ok (.iload_n 2, 1) := by decide +kernel
theorem dX12_spread_42 : decode cX12_spread 42 = .ok (.istore_n 2, 1) := by decide +kernel
theorem dX12_spread_43 : decode cX12_spread 43 = .ok (.aload_n 0, 1) := by decide +kernel
theorem dX12_spread_44 : decode cX12_spread 44 = .ok (.getfield 31, 3) := by decide +kernel
theorem dX12_spread_47 : decode cX12_spread 47 = .ok (.sipush 720, 3) := by decide +kernel
theorem dX12_spread_50 : decode cX12_spread 50 = .ok (.iload_n 1, 1) := by decide +kernel
theorem dX12_spread_51 : decode cX12_spread 51 = .ok (.imul, 1) := by decide +kernel
theorem dX12_spread_52 : decode cX12_spread 52 = .ok (.iload_n 3, 1) := by decide +kernel
theorem dX12_spread_53 : decode cX12_spread 53 = .ok (.iadd, 1) := by decide +kernel
theorem dX12_spread_54 : decode cX12_spread 54 = .ok (.iload_n 2, 1) := by decide +kernel
theorem dX12_spread_55 : decode cX12_spread 55 = .ok (.iastore, 1) := by decide +kernel
theorem dX12_spread_56 : decode cX12_spread 56 = .ok (.iinc 3 1, 3) := by decide +kernel
theorem dX12_spread_59 : decode cX12_spread 59 = .ok (.goto (-55), 3) := by decide +kernel
theorem dX12_spread_62 : decode cX12_spread 62 = .ok (.return_, 1) := by decide +kernel
theorem dX12_contract_0 : decode cX12_contract 0 = .ok (.aload_n 0, 1) := by decide +kernel
theorem dX12_contract_1 : decode cX12_contract 1 = .ok (.iload_n 1, 1) := by decide +kernel
theorem dX12_contract_2 : decode cX12_contract 2 = .ok (.invokevirtual 212, 3) := by decide +kernel
theorem dX12_contract_5 : decode cX12_contract 5 = .ok (.ifCond .eq 32, 3) := by decide +kernel
theorem dX12_contract_8 : decode cX12_contract 8 = .ok (.aload_n 0, 1) := by decide +kernel
theorem dX12_contract_9 : decode cX12_contract 9 = .ok (.iload_n 2, 1) := by decide +kernel
theorem dX12_contract_10 : decode cX12_contract 10 = .ok (.invokevirtual 215, 3) := by decide +kernel
theorem dX12_contract_13 : decode cX12_contract 13 = .ok (.ifCond .eq 24, 3) := by decide +kernel
theorem dX12_contract_16 : decode cX12_contract 16 = .ok (.aload_n 0, 1) := by decide +kernel
theorem dX12_contract_17 : decode cX12_contract 17 = .ok (.iload_n 3, 1) := by decide +kernel
theorem dX12_contract_18 : decode cX12_contract 18 = .ok (.invokevirtual 218, 3) := by decide +kernel
theorem dX12_contract_21 : decode cX12_contract 21 = .ok (.ifCond .eq 16, 3) := by decide +kernel
theorem dX12_contract_24 : decode cX12_contract 24 = .ok (.aload_n 0, 1) := by decide +kernel
theorem dX12_contract_25 : decode cX12_contract 25 = .ok (.iload 4, 2) := by decide +kernel
theorem dX12_contract_27 : decode cX12_contract 27 = .ok (.invokevirtual 218, 3) := by decide +kernel
theorem dX12_contract_30 : decode cX12_contract 30 = .ok (.ifCond .eq 7, 3) := by decide +kernel
theorem dX12_contract_33 : decode cX12_contract 33 = .ok (.iconst 1, 1) := by decide +kernel
theorem dX12_contract_34 : decode cX12_contract 34 = .ok (.goto 4, 3) := by decide +kernel
theorem dX12_contract_37 : decode cX12_contract 37 = .ok (.iconst 0, 1) := by decide +kernel
theorem dX12_contract_38 : decode cX12_contract 38 = .ok (.istore 8, 2) := by decide +kernel
theorem dX12_contract_40 : decode cX12_contract 40 = .ok (.iload 4, 2) := by decide +kernel
theorem dX12_contract_42 : decode cX12_contract 42 = .ok (.iload_n 3, 1) := by decide +kernel
theorem dX12_contract_43 : decode cX12_contract 43 = .ok (.if_icmp .lt 37, 3) := by decide +kernel
theorem dX12_contract_46 : decode cX12_contract 46 = .ok (.aload_n 0, 1) := by decide +kernel
theorem dX12_contract_47 : decode cX12_contract 47 = .ok (.iload 6, 2) := by decide +kernel
theorem dX12_contract_49 : decode cX12_contract 49 = .ok (.i2l, 1) := by decide +kernel
theorem dX12_contract_50 : decode cX12_contract 50 = .ok (.ldc2_w 221, 3) := by decide +kernel
theorem dX12_contract_53 : decode cX12_contract 53 = .ok (.ldc2_w 223, 3) := by decide +kernel
theorem dX12_contract_56 : decode cX12_contract 56 = .ok (.invokevirtual 191, 3) := by decide +kernel
theorem dX12_contract_59 : decode cX12_contract 59 = .ok (.ifCond .eq 21, 3) := by decide +kernel
theorem dX12_contract_62 : decode cX12_contract 62 = .ok (.aload_n 0, 1) := by decide +kernel
theorem dX12_contract_63 : decode cX12_contract 63 = .ok (.iload 7, 2) := by decide +kernel
theorem dX12_contract_65 : decode cX12_contract 65 = .ok (.i2l, 1) := by decide +kernel
theorem dX12_contract_66 : decode cX12_contract 66 = .ok (.lconst 0, 1) := by decide +kernel
theorem dX12_contract_67 : decode cX12_contract 67 = .ok (.ldc2_w 225, 3) := by decide +kernel
theorem dX12_contract_70 : decode cX12_contract 70 = .ok (.invokevirtual 191, 3) := by decide +kernel
theorem dX12_contract_73 : decode cX12_contract 73 = .ok (.ifCond .eq 7, 3) := by decide +kernel
theorem dX12_contract_76 : decode cX12_contract 76 = .ok (.iconst 1, 1) := by decide +kernel
theorem dX12_contract_77 : decode cX12_contract 77 = .ok (.goto 4, 3) := by decide +kernel
theorem dX12_contract_80 : decode cX12_contract 80 = .ok (.iconst 0, 1) := by decide +kernel
theorem dX12_contract_81 : decode cX12_contract 81 = .ok (.istore 9, 2) := by decide +kernel
theorem dX12_contract_83 : decode cX12_contract 83 = .ok (.aload_n 0, 1) := by decide +kernel
theorem dX12_contract_84 : decode cX12_contract 84 = .ok (.iload 8, 2) := by decide +kernel
theorem dX12_contract_86 : decode cX12_contract 86 = .ok (.ifCond .ne 7, 3) := by decide +kernel
theorem dX12_contract_89 : decode cX12_contract 89 = .ok (.iconst 1, 1) := by decide +kernel
theorem dX12_contract_90 : decode cX12_contract 90 = .ok (.goto 26, 3) := by decide +kernel
theorem dX12_contract_93 : decode cX12_contract 93 = .ok (.iload 9, 2) := by decide +kernel
theorem dX12_contract_95 : decode cX12_contract 95 = .ok (.ifCond .ne 7, 3) := by decide +kernel
theorem dX12_contract_98 : decode cX12_contract 98 = .ok (.iconst 2, 1) := by decide +kernel
theorem dX12_contract_99 : decode cX12_contract 99 = .ok (.goto 17, 3) := by decide +kernel
theorem dX12_contract_102 : decode cX12_contract 102 = .ok (.aload_n 0, 1) := by decide +kernel
theorem dX12_contract_103 : decode cX12_contract 103 = .ok (.getfield 201, 3) := by decide +kernel
theorem dX12_contract_106 : decode cX12_contract 106 = .ok (.bipush 10, 2) := by decide +kernel
theorem dX12_contract_108 : decode cX12_contract 108 = .ok (.if_icmp .ne 7, 3) := by decide +kernel
theorem dX12_contract_111 : decode cX12_contract 111 = .ok (.iconst 3, 1) := by decide +kernel
theorem dX12_contract_112 : decode cX12_contract 112 = .ok (.goto 4, 3) := by decide +kernel
theorem dX12_contract_115 : decode cX12_contract 115 = .ok (.iconst 0, 1) := by decide +kernel
theorem dX12_contract_116 : decode cX12_contract 116 = .ok (.invokevirtual 227, 3) := by decide +kernel
theorem dX12_contract_119 : decode cX12_contract 119 = .ok (.ifCond .eq 5, 3) := by decide +kernel
theorem dX12_contract_122 : decode cX12_contract 122 = .ok (.iconst (-1), 1) := by decide +kernel
theorem dX12_contract_123 : decode cX12_contract 123 = .ok (.ireturn, 1) := by decide +kernel
theorem dX12_contract_124 : decode cX12_contract 124 = .ok (.aload_n 0, 1) := by decide +kernel
theorem dX12_contract_125 : decode cX12_contract 125 = .ok (.getfield 201, 3) := by decide +kernel
theorem dX12_contract_128 : decode cX12_contract 128 = .ok (.istore 10, 2) := by decide +kernel
theorem dX12_contract_130 : decode cX12_contract 130 = .ok (.aload_n 0, 1) := by decide +kernel
theorem dX12_contract_131 : decode cX12_contract 131 = .ok (.getfield 7, 3) := by decide +kernel
theorem dX12_contract_134 : decode cX12_contract 134 = .ok (.iload 10, 2) := by decide +kernel
theorem dX12_contract_136 : decode cX12_contract 136 = .ok (.iload_n 1, 1) := by decide +kernel
theorem dX12_contract_137 : decode cX12_contract 137 = .ok (.iastore, 1) := by decide +kernel
theorem dX12_contract_138 : decode cX12_contract 138 = .ok (.aload_n 0, 1) := by decide +kernel
theorem dX12_contract_139 : decode cX12_contract 139 = .ok (.getfield 13, 3) := by decide +kernel
theorem dX12_contract_142 : decode cX12_contract 142 = .ok (.iload 10, 2) := by decide +kernel
theorem dX12_contract_144 : decode cX12_contract 144 = .ok (.iload_n 2, 1) := by decide +kernel
theorem dX12_contract_145 : decode cX12_contract 145 = .ok (.iastore, 1) := by decide +kernel
theorem dX12_contract_146 : decode cX12_contract 146 = .ok (.aload_n 0, 1) := by decide +kernel
theorem dX12_contract_147 : decode cX12_contract 147 = .ok (.getfield 16, 3) := by decide +kernel
theorem dX12_contract_150 : decode cX12_contract 150 = .ok (.iload 10, 2) := by decide +kernel
theorem dX12_contract_152 : decode cX12_contract 152 = .ok (.iload_n 3, 1) := by decide +kernel
theorem dX12_contract_153 : decode cX12_contract 153 = .ok (.iastore, 1) := by decide +kernel
theorem dX12_contract_154 : decode cX12_contract 154 = .ok (.aload_n 0, 1) := by decide +kernel
theorem dX12_contract_155 : decode cX12_contract 155 = .ok (.getfield 19, 3) := by decide +kernel
theorem dX12_contract_158 : decode cX12_contract 158 = .ok (.iload 10, 2) := by decide +kernel
theorem dX12_contract_160 : decode cX12_contract 160 = .ok (.iload 4, 2) := by decide +kernel
theorem dX12_contract_162 : decode cX12_contract 162 = .ok (.iastore, 1) := by decide +kernel
theorem dX12_contract_163 : decode cX12_contract 163 = .ok (.aload_n 0, 1) := by decide +kernel
theorem dX12_contract_164 : decode cX12_contract 164 = .ok (.getfield 22, 3) := by decide +kernel
theorem dX12_contract_167 : decode cX12_contract 167 = .ok (.iload 10, 2) := by decide +kernel
theorem dX12_contract_169 : decode cX12_contract 169 = .ok (.iload 5, 2) := by decide +kernel
theorem dX12_contract_171 : decode cX12_contract 171 = .ok (.ifCond .eq 7, 3) := by decide +kernel
theorem dX12_contract_174 : decode cX12_contract 174 = .ok (.iconst 1, 1) := by decide +kernel
theorem dX12_contract_175 : decode cX12_contract 175 = .ok (.goto 4, 3) := by decide +kernel
theorem dX12_contract_178 : decode cX12_contract 178 = .ok (.iconst 0, 1) := by decide +kernel
theorem dX12_contract_179 : decode cX12_contract 179 = .ok (.iastore, 1) := by decide +kernel
theorem dX12_contract_180 : decode cX12_contract 180 = .ok (.aload_n 0, 1) := by decide +kernel
theorem dX12_contract_181 : decode cX12_contract 181 = .ok (.getfield 25, 3) := by decide +kernel
theorem dX12_contract_184 : decode cX12_contract 184 = .ok (.iload 10, 2) := by decide +kernel
theorem dX12_contract_186 : decode cX12_contract 186 = .ok (.iload 6, 2) := by decide +kernel
theorem dX12_contract_188 : decode cX12_contract 188 = .ok (.iastore, 1) := by decide +kernel
theorem dX12_contract_189 : decode cX12_contract 189 = .ok (.aload_n 0, 1) := by decide +kernel
theorem dX12_contract_190 : decode cX12_contract 190 = .ok (.getfield 28, 3) := by decide +kernel
theorem dX12_contract_193 : decode cX12_contract 193 = .ok (.sipush 720, 3) := by decide +kernel
theorem dX12_contract_196 : decode cX12_contract 196 = .ok (.iload 10, 2) := by decide +kernel
theorem dX12_contract_198 : decode cX12_contract 198 = .ok (.imul, 1) := by decide +kernel
theorem dX12_contract_199 : decode cX12_contract 199 = .ok (.iload_n 3, 1) := by decide +kernel
theorem dX12_contract_200 : decode cX12_contract 200 = .ok (.iadd, 1) := by decide +kernel
theorem dX12_contract_201 : decode cX12_contract 201 = .ok (.iload 7, 2) := by decide +kernel
theorem dX12_contract_203 : decode cX12_contract 203 = .ok (.iastore, 1) := by decide +kernel
theorem dX12_contract_204 : decode cX12_contract 204 = .ok (.aload_n 0, 1) := by decide +kernel
theorem dX12_contract_205 : decode cX12_contract 205 = .ok (.iload 10, 2) := by decide +kernel
theorem dX12_contract_207 : decode cX12_contract 207 = .ok (.invokevirtual 230, 3) := by decide +kernel
theorem dX12_contract_210 : decode cX12_contract 210 = .ok (.aload_n 0, 1) := by decide +kernel
theorem dX12_contract_211 : decode cX12_contract 211 = .ok (.dup, 1) := by decide +kernel
theorem dX12_contract_212 : decode cX12_contract 212 = .ok (.getfield 201, 3) := by decide +kernel
theorem dX12_contract_215 : decode cX12_contract 215 = .ok (.iconst 1, 1) := by decide +kernel
theorem dX12_contract_216 : decode cX12_contract 216 = .ok (.iadd, 1) := by decide +kernel
theorem dX12_contract_217 : decode cX12_contract 217 = .ok (.putfield 201, 3) := by decide +kernel
theorem dX12_contract_220 : decode cX12_contract 220 = .ok (.iload 10, 2) := by decide +kernel
theorem dX12_contract_222 : decode cX12_contract 222 = .ok (.ireturn, 1) := by decide +kernel
theorem dX12_payOn_0 : decode cX12_payOn 0 = .ok (.aload_n 0, 1) := by decide +kernel
theorem dX12_payOn_1 : decode cX12_payOn 1 = .ok (.getfield 31, 3) := by decide +kernel
theorem dX12_payOn_4 : decode cX12_payOn 4 = .ok (.sipush 720, 3) := by decide +kernel
theorem dX12_payOn_7 : decode cX12_payOn 7 = .ok (.iload_n 1, 1) := by decide +kernel
theorem dX12_payOn_8 : decode cX12_payOn 8 = .ok (.imul, 1) := by decide +kernel
theorem dX12_payOn_9 : decode cX12_payOn 9 = .ok (.iload_n 2, 1) := by decide +kernel
theorem dX12_payOn_10 : decode cX12_payOn 10 = .ok (.aload_n 0, 1) := by decide +kernel
theorem dX12_payOn_11 : decode cX12_payOn 11 = .ok (.getfield 19, 3) := by decide +kernel
theorem dX12_payOn_14 : decode cX12_payOn 14 = .ok (.iload_n 1, 1) := by decide +kernel
theorem dX12_payOn_15 : decode cX12_payOn 15 = .ok (.iaload, 1) := by decide +kernel
theorem dX12_payOn_16 : decode cX12_payOn 16 = .ok (.if_icmp .le 12, 3) := by decide +kernel
theorem dX12_payOn_19 : decode cX12_payOn 19 = .ok (.aload_n 0, 1) := by decide +kernel
theorem dX12_payOn_20 : decode cX12_payOn 20 = .ok (.getfield 19, 3) := by decide +kernel
theorem dX12_payOn_23 : decode cX12_payOn 23 = .ok (.iload_n 1, 1) := by decide +kernel
theorem dX12_payOn_24 : decode cX12_payOn 24 = .ok (.iaload, 1) := by decide +kernel
theorem dX12_payOn_25 : decode cX12_payOn 25 = .ok (.goto 23, 3) := by decide +kernel
theorem dX12_payOn_28 : decode cX12_payOn 28 = .ok (.iload_n 2, 1) := by decide +kernel
theorem dX12_payOn_29 : decode cX12_payOn 29 = .ok (.aload_n 0, 1) := by decide +kernel
theorem dX12_payOn_30 : decode cX12_payOn 30 = .ok (.getfield 16, 3) := by decide +kernel
theorem dX12_payOn_33 : decode cX12_payOn 33 = .ok (.iload_n 1, 1) := by decide +kernel
theorem dX12_payOn_34 : decode cX12_payOn 34 = .ok (.iaload, 1) := by decide +kernel
theorem dX12_payOn_35 : decode cX12_payOn 35 = .ok (.if_icmp .ge 12, 3) := by decide +kernel
theorem dX12_payOn_38 : decode cX12_payOn 38 = .ok (.aload_n 0, 1) := by decide +kernel
theorem dX12_payOn_39 : decode cX12_payOn 39 = .ok (.getfield 16, 3) := by decide +kernel
theorem dX12_payOn_42 : decode cX12_payOn 42 = .ok (.iload_n 1, 1) := by decide +kernel
theorem dX12_payOn_43 : decode cX12_payOn 43 = .ok (.iaload, 1) := by decide +kernel
theorem dX12_payOn_44 : decode cX12_payOn 44 = .ok (.goto 4, 3) := by decide +kernel
theorem dX12_payOn_47 : decode cX12_payOn 47 = .ok (.iload_n 2, 1) := by decide +kernel
theorem dX12_payOn_48 : decode cX12_payOn 48 = .ok (.iadd, 1) := by decide +kernel
theorem dX12_payOn_49 : decode cX12_payOn 49 = .ok (.iaload, 1) := by decide +kernel
theorem dX12_payOn_50 : decode cX12_payOn 50 = .ok (.i2l, 1) := by decide +kernel
theorem dX12_payOn_51 : decode cX12_payOn 51 = .ok (.lreturn, 1) := by decide +kernel
theorem dX12_pay_0 : decode cX12_pay 0 = .ok (.aload_n 0, 1) := by decide +kernel
theorem dX12_pay_1 : decode cX12_pay 1 = .ok (.aload_n 0, 1) := by decide +kernel
theorem dX12_pay_2 : decode cX12_pay 2 = .ok (.iload_n 1, 1) := by decide +kernel
theorem dX12_pay_3 : decode cX12_pay 3 = .ok (.invokevirtual 204, 3) := by decide +kernel
theorem dX12_pay_6 : decode cX12_pay 6 = .ok (.ifCond .eq 11, 3) := by decide +kernel
theorem dX12_pay_9 : decode cX12_pay 9 = .ok (.aload_n 0, 1) := by decide +kernel
theorem dX12_pay_10 : decode cX12_pay 10 = .ok (.iload_n 2, 1) := by decide +kernel
theorem dX12_pay_11 : decode cX12_pay 11 = .ok (.invokevirtual 218, 3) := by decide +kernel
theorem dX12_pay_14 : decode cX12_pay 14 = .ok (.ifCond .ne 7, 3) := by decide +kernel
theorem dX12_pay_17 : decode cX12_pay 17 = .ok (.iconst 1, 1) := by decide +kernel
theorem dX12_pay_18 : decode cX12_pay 18 = .ok (.goto 21, 3) := by decide +kernel
theorem dX12_pay_21 : decode cX12_pay 21 = .ok (.aload_n 0, 1) := by decide +kernel
theorem dX12_pay_22 : decode cX12_pay 22 = .ok (.iload_n 3, 1) := by decide +kernel
theorem dX12_pay_23 : decode cX12_pay 23 = .ok (.i2l, 1) := by decide +kernel
theorem dX12_pay_24 : decode cX12_pay 24 = .ok (.lconst 0, 1) := by decide +kernel
theorem dX12_pay_25 : decode cX12_pay 25 = .ok (.ldc2_w 225, 3) := by decide +kernel
theorem dX12_pay_28 : decode cX12_pay 28 = .ok (.invokevirtual 191, 3) := by decide +kernel
theorem dX12_pay_31 : decode cX12_pay 31 = .ok (.ifCond .eq 7, 3) := by decide +kernel
theorem dX12_pay_34 : decode cX12_pay 34 = .ok (.iconst 0, 1) := by decide +kernel
theorem dX12_pay_35 : decode cX12_pay 35 = .ok (.goto 4, 3) := by decide +kernel
theorem dX12_pay_38 : decode cX12_pay 38 = .ok (.iconst 2, 1) := by decide +kernel
theorem dX12_pay_39 : decode cX12_pay 39 = .ok (.invokevirtual 227, 3) := by decide +kernel
theorem dX12_pay_42 : decode cX12_pay 42 = .ok (.ifCond .eq 5, 3) := by decide +kernel
theorem dX12_pay_45 : decode cX12_pay 45 = .ok (.iconst (-1), 1) := by decide +kernel
theorem dX12_pay_46 : decode cX12_pay 46 = .ok (.ireturn, 1) := by decide +kernel
theorem dX12_pay_47 : decode cX12_pay 47 = .ok (.aload_n 0, 1) := by decide +kernel
theorem dX12_pay_48 : decode cX12_pay 48 = .ok (.iload_n 1, 1) := by decide +kernel
theorem dX12_pay_49 : decode cX12_pay 49 = .ok (.iload_n 2, 1) := by decide +kernel
theorem dX12_pay_50 : decode cX12_pay 50 = .ok (.invokevirtual 234, 3) := by decide +kernel
theorem dX12_pay_53 : decode cX12_pay 53 = .ok (.l2i, 1) := by decide +kernel
theorem dX12_pay_54 : decode cX12_pay 54 = .ok (.istore 4, 2) := by decide +kernel
theorem dX12_pay_56 : decode cX12_pay 56 = .ok (.aload_n 0, 1) := by decide +kernel
theorem dX12_pay_57 : decode cX12_pay 57 = .ok (.getfield 28, 3) := by decide +kernel
theorem dX12_pay_60 : decode cX12_pay 60 = .ok (.sipush 720, 3) := by decide +kernel
theorem dX12_pay_63 : decode cX12_pay 63 = .ok (.iload_n 1, 1) := by decide +kernel
theorem dX12_pay_64 : decode cX12_pay 64 = .ok (.imul, 1) := by decide +kernel
theorem dX12_pay_65 : decode cX12_pay 65 = .ok (.iload_n 2, 1) := by decide +kernel
theorem dX12_pay_66 : decode cX12_pay 66 = .ok (.aload_n 0, 1) := by decide +kernel
theorem dX12_pay_67 : decode cX12_pay 67 = .ok (.getfield 16, 3) := by decide +kernel
theorem dX12_pay_70 : decode cX12_pay 70 = .ok (.iload_n 1, 1) := by decide +kernel
theorem dX12_pay_71 : decode cX12_pay 71 = .ok (.iaload, 1) := by decide +kernel
theorem dX12_pay_72 : decode cX12_pay 72 = .ok (.if_icmp .ge 12, 3) := by decide +kernel
theorem dX12_pay_75 : decode cX12_pay 75 = .ok (.aload_n 0, 1) := by decide +kernel
theorem dX12_pay_76 : decode cX12_pay 76 = .ok (.getfield 16, 3) := by decide +kernel
theorem dX12_pay_79 : decode cX12_pay 79 = .ok (.iload_n 1, 1) := by decide +kernel
theorem dX12_pay_80 : decode cX12_pay 80 = .ok (.iaload, 1) := by decide +kernel
theorem dX12_pay_81 : decode cX12_pay 81 = .ok (.goto 4, 3) := by decide +kernel
theorem dX12_pay_84 : decode cX12_pay 84 = .ok (.iload_n 2, 1) := by decide +kernel
theorem dX12_pay_85 : decode cX12_pay 85 = .ok (.iadd, 1) := by decide +kernel
theorem dX12_pay_86 : decode cX12_pay 86 = .ok (.iload_n 3, 1) := by decide +kernel
theorem dX12_pay_87 : decode cX12_pay 87 = .ok (.iastore, 1) := by decide +kernel
theorem dX12_pay_88 : decode cX12_pay 88 = .ok (.aload_n 0, 1) := by decide +kernel
theorem dX12_pay_89 : decode cX12_pay 89 = .ok (.iload_n 1, 1) := by decide +kernel
theorem dX12_pay_90 : decode cX12_pay 90 = .ok (.invokevirtual 230, 3) := by decide +kernel
theorem dX12_pay_93 : decode cX12_pay 93 = .ok (.iload 4, 2) := by decide +kernel
theorem dX12_pay_95 : decode cX12_pay 95 = .ok (.ireturn, 1) := by decide +kernel
theorem dX12_meets_0 : decode cX12_meets 0 = .ok (.iconst 0, 1) := by decide +kernel
theorem dX12_meets_1 : decode cX12_meets 1 = .ok (.istore 4, 2) := by decide +kernel
theorem dX12_meets_3 : decode cX12_meets 3 = .ok (.iconst 0, 1) := by decide +kernel
theorem dX12_meets_4 : decode cX12_meets 4 = .ok (.istore 5, 2) := by decide +kernel
theorem dX12_meets_6 : decode cX12_meets 6 = .ok (.iload 5, 2) := by decide +kernel
theorem dX12_meets_8 : decode cX12_meets 8 = .ok (.aload_n 0, 1) := by decide +kernel
theorem dX12_meets_9 : decode cX12_meets 9 = .ok (.getfield 238, 3) := by decide +kernel
theorem dX12_meets_12 : decode cX12_meets 12 = .ok (.if_icmp .ge 62, 3) := by decide +kernel
theorem dX12_meets_15 : decode cX12_meets 15 = .ok (.iload 4, 2) := by decide +kernel
theorem dX12_meets_17 : decode cX12_meets 17 = .ok (.aload_n 0, 1) := by decide +kernel
theorem dX12_meets_18 : decode cX12_meets 18 = .ok (.getfield 37, 3) := by decide +kernel
theorem dX12_meets_21 : decode cX12_meets 21 = .ok (.iload 5, 2) := by decide +kernel
theorem dX12_meets_23 : decode cX12_meets 23 = .ok (.iaload, 1) := by decide +kernel
theorem dX12_meets_24 : decode cX12_meets 24 = .ok (.iload_n 1, 1) := by decide +kernel
theorem dX12_meets_25 : decode cX12_meets 25 = .ok (.if_icmp .ne 39, 3) := by decide +kernel
theorem dX12_meets_28 : decode cX12_meets 28 = .ok (.iload_n 2, 1) := by decide +kernel
theorem dX12_meets_29 : decode cX12_meets 29 = .ok (.aload_n 0, 1) := by decide +kernel
theorem dX12_meets_30 : decode cX12_meets 30 = .ok (.getfield 40, 3) := by decide +kernel
theorem dX12_meets_33 : decode cX12_meets 33 = .ok (.iload 5, 2) := by decide +kernel
theorem dX12_meets_35 : decode cX12_meets 35 = .ok (.iaload, 1) := by decide +kernel
theorem dX12_meets_36 : decode cX12_meets 36 = .ok (.aload_n 0, 1) := by decide +kernel
theorem dX12_meets_37 : decode cX12_meets 37 = .ok (.getfield 43, 3) := by decide +kernel
theorem dX12_meets_40 : decode cX12_meets 40 = .ok (.iload 5, 2) := by decide +kernel
theorem dX12_meets_42 : decode cX12_meets 42 = .ok (.iaload, 1) := by decide +kernel
theorem dX12_meets_43 : decode cX12_meets 43 = .ok (.iadd, 1) := by decide +kernel
theorem dX12_meets_44 : decode cX12_meets 44 = .ok (.if_icmp .ge 20, 3) := by decide +kernel
theorem dX12_meets_47 : decode cX12_meets 47 = .ok (.aload_n 0, 1) := by decide +kernel
theorem dX12_meets_48 : decode cX12_meets 48 = .ok (.getfield 40, 3) := by decide +kernel
theorem dX12_meets_51 : decode cX12_meets 51 = .ok (.iload 5, 2) := by decide +kernel
theorem dX12_meets_53 : decode cX12_meets 53 = .ok (.iaload, 1) := by decide +kernel
theorem dX12_meets_54 : decode cX12_meets 54 = .ok (.iload_n 2, 1) := by decide +kernel
theorem dX12_meets_55 : decode cX12_meets 55 = .ok (.iload_n 3, 1) := by decide +kernel
theorem dX12_meets_56 : decode cX12_meets 56 = .ok (.iadd, 1) := by decide +kernel
theorem dX12_meets_57 : decode cX12_meets 57 = .ok (.if_icmp .ge 7, 3) := by decide +kernel
theorem dX12_meets_60 : decode cX12_meets 60 = .ok (.iconst 1, 1) := by decide +kernel
theorem dX12_meets_61 : decode cX12_meets 61 = .ok (.goto 4, 3) := by decide +kernel
theorem dX12_meets_64 : decode cX12_meets 64 = .ok (.iconst 0, 1) := by decide +kernel
theorem dX12_meets_65 : decode cX12_meets 65 = .ok (.ior, 1) := by decide +kernel
theorem dX12_meets_66 : decode cX12_meets 66 = .ok (.istore 4, 2) := by decide +kernel
theorem dX12_meets_68 : decode cX12_meets 68 = .ok (.iinc 5 1, 3) := by decide +kernel
theorem dX12_meets_71 : decode cX12_meets 71 = .ok (.goto (-65), 3) := by decide +kernel
theorem dX12_meets_74 : decode cX12_meets 74 = .ok (.iload 4, 2) := by decide +kernel
theorem dX12_meets_76 : decode cX12_meets 76 = .ok (.ireturn, 1) := by decide +kernel
theorem dX12_shift_0 : decode cX12_shift 0 = .ok (.aload_n 0, 1) := by decide +kernel
theorem dX12_shift_1 : decode cX12_shift 1 = .ok (.iload_n 3, 1) := by decide +kernel
theorem dX12_shift_2 : decode cX12_shift 2 = .ok (.i2l, 1) := by decide +kernel
theorem dX12_shift_3 : decode cX12_shift 3 = .ok (.lconst 0, 1) := by decide +kernel
theorem dX12_shift_4 : decode cX12_shift 4 = .ok (.ldc2_w 241, 3) := by decide +kernel
theorem dX12_shift_7 : decode cX12_shift 7 = .ok (.invokevirtual 191, 3) := by decide +kernel
theorem dX12_shift_10 : decode cX12_shift 10 = .ok (.ifCond .eq 21, 3) := by decide +kernel
theorem dX12_shift_13 : decode cX12_shift 13 = .ok (.aload_n 0, 1) := by decide +kernel
theorem dX12_shift_14 : decode cX12_shift 14 = .ok (.iload 4, 2) := by decide +kernel
theorem dX12_shift_16 : decode cX12_shift 16 = .ok (.i2l, 1) := by decide +kernel
theorem dX12_shift_17 : decode cX12_shift 17 = .ok (.lconst 1, 1) := by decide +kernel
theorem dX12_shift_18 : decode cX12_shift 18 = .ok (.ldc2_w 243, 3) := by decide +kernel
theorem dX12_shift_21 : decode cX12_shift 21 = .ok (.invokevirtual 191, 3) := by decide +kernel
theorem dX12_shift_24 : decode cX12_shift 24 = .ok (.ifCond .eq 7, 3) := by decide +kernel
theorem dX12_shift_27 : decode cX12_shift 27 = .ok (.iconst 1, 1) := by decide +kernel
theorem dX12_shift_28 : decode cX12_shift 28 = .ok (.goto 4, 3) := by decide +kernel
theorem dX12_shift_31 : decode cX12_shift 31 = .ok (.iconst 0, 1) := by decide +kernel
theorem dX12_shift_32 : decode cX12_shift 32 = .ok (.istore 5, 2) := by decide +kernel
theorem dX12_shift_34 : decode cX12_shift 34 = .ok (.aload_n 0, 1) := by decide +kernel
theorem dX12_shift_35 : decode cX12_shift 35 = .ok (.iload_n 1, 1) := by decide +kernel
theorem dX12_shift_36 : decode cX12_shift 36 = .ok (.iload_n 2, 1) := by decide +kernel
theorem dX12_shift_37 : decode cX12_shift 37 = .ok (.invokevirtual 245, 3) := by decide +kernel
theorem dX12_shift_40 : decode cX12_shift 40 = .ok (.ifCond .eq 38, 3) := by decide +kernel
theorem dX12_shift_43 : decode cX12_shift 43 = .ok (.iload 5, 2) := by decide +kernel
theorem dX12_shift_45 : decode cX12_shift 45 = .ok (.ifCond .eq 33, 3) := by decide +kernel
theorem dX12_shift_48 : decode cX12_shift 48 = .ok (.aload_n 0, 1) := by decide +kernel
theorem dX12_shift_49 : decode cX12_shift 49 = .ok (.getfield 238, 3) := by decide +kernel
theorem dX12_shift_52 : decode cX12_shift 52 = .ok (.bipush 40, 2) := by decide +kernel
theorem dX12_shift_54 : decode cX12_shift 54 = .ok (.if_icmp .eq 20, 3) := by decide +kernel
theorem dX12_shift_57 : decode cX12_shift 57 = .ok (.aload_n 0, 1) := by decide +kernel
theorem dX12_shift_58 : decode cX12_shift 58 = .ok (.iload_n 1, 1) := by decide +kernel
theorem dX12_shift_59 : decode cX12_shift 59 = .ok (.sipush 1440, 3) := by decide +kernel
theorem dX12_shift_62 : decode cX12_shift 62 = .ok (.iload_n 2, 1) := by decide +kernel
theorem dX12_shift_63 : decode cX12_shift 63 = .ok (.imul, 1) := by decide +kernel
theorem dX12_shift_64 : decode cX12_shift 64 = .ok (.iload_n 3, 1) := by decide +kernel
theorem dX12_shift_65 : decode cX12_shift 65 = .ok (.iadd, 1) := by decide +kernel
theorem dX12_shift_66 : decode cX12_shift 66 = .ok (.iload 4, 2) := by decide +kernel
theorem dX12_shift_68 : decode cX12_shift 68 = .ok (.invokevirtual 249, 3) := by decide +kernel
theorem dX12_shift_71 : decode cX12_shift 71 = .ok (.ifCond .eq 7, 3) := by decide +kernel
theorem dX12_shift_74 : decode cX12_shift 74 = .ok (.iconst 1, 1) := by decide +kernel
theorem dX12_shift_75 : decode cX12_shift 75 = .ok (.goto 4, 3) := by decide +kernel
theorem dX12_shift_78 : decode cX12_shift 78 = .ok (.iconst 0, 1) := by decide +kernel
theorem dX12_shift_79 : decode cX12_shift 79 = .ok (.istore 6, 2) := by decide +kernel
theorem dX12_shift_81 : decode cX12_shift 81 = .ok (.aload_n 0, 1) := by decide +kernel
theorem dX12_shift_82 : decode cX12_shift 82 = .ok (.aload_n 0, 1) := by decide +kernel
theorem dX12_shift_83 : decode cX12_shift 83 = .ok (.iload_n 1, 1) := by decide +kernel
theorem dX12_shift_84 : decode cX12_shift 84 = .ok (.iload_n 2, 1) := by decide +kernel
theorem dX12_shift_85 : decode cX12_shift 85 = .ok (.invokevirtual 245, 3) := by decide +kernel
theorem dX12_shift_88 : decode cX12_shift 88 = .ok (.ifCond .ne 7, 3) := by decide +kernel
theorem dX12_shift_91 : decode cX12_shift 91 = .ok (.iconst 1, 1) := by decide +kernel
theorem dX12_shift_92 : decode cX12_shift 92 = .ok (.goto 22, 3) := by decide +kernel
theorem dX12_shift_95 : decode cX12_shift 95 = .ok (.iload 5, 2) := by decide +kernel
theorem dX12_shift_97 : decode cX12_shift 97 = .ok (.ifCond .ne 7, 3) := by decide +kernel
theorem dX12_shift_100 : decode cX12_shift 100 = .ok (.iconst 2, 1) := by decide +kernel
theorem dX12_shift_101 : decode cX12_shift 101 = .ok (.goto 13, 3) := by decide +kernel
theorem dX12_shift_104 : decode cX12_shift 104 = .ok (.iload 6, 2) := by decide +kernel
theorem dX12_shift_106 : decode cX12_shift 106 = .ok (.ifCond .eq 7, 3) := by decide +kernel
theorem dX12_shift_109 : decode cX12_shift 109 = .ok (.iconst 3, 1) := by decide +kernel
theorem dX12_shift_110 : decode cX12_shift 110 = .ok (.goto 4, 3) := by decide +kernel
theorem dX12_shift_113 : decode cX12_shift 113 = .ok (.iconst 0, 1) := by decide +kernel
theorem dX12_shift_114 : decode cX12_shift 114 = .ok (.invokevirtual 227, 3) := by decide +kernel
theorem dX12_shift_117 : decode cX12_shift 117 = .ok (.ifCond .eq 5, 3) := by decide +kernel
theorem dX12_shift_120 : decode cX12_shift 120 = .ok (.iconst (-1), 1) := by decide +kernel
theorem dX12_shift_121 : decode cX12_shift 121 = .ok (.ireturn, 1) := by decide +kernel
theorem dX12_shift_122 : decode cX12_shift 122 = .ok (.aload_n 0, 1) := by decide +kernel
theorem dX12_shift_123 : decode cX12_shift 123 = .ok (.getfield 37, 3) := by decide +kernel
theorem dX12_shift_126 : decode cX12_shift 126 = .ok (.aload_n 0, 1) := by decide +kernel
theorem dX12_shift_127 : decode cX12_shift 127 = .ok (.getfield 238, 3) := by decide +kernel
theorem dX12_shift_130 : decode cX12_shift 130 = .ok (.iload_n 1, 1) := by decide +kernel
theorem dX12_shift_131 : decode cX12_shift 131 = .ok (.iastore, 1) := by decide +kernel
theorem dX12_shift_132 : decode cX12_shift 132 = .ok (.aload_n 0, 1) := by decide +kernel
theorem dX12_shift_133 : decode cX12_shift 133 = .ok (.getfield 40, 3) := by decide +kernel
theorem dX12_shift_136 : decode cX12_shift 136 = .ok (.aload_n 0, 1) := by decide +kernel
theorem dX12_shift_137 : decode cX12_shift 137 = .ok (.getfield 238, 3) := by decide +kernel
theorem dX12_shift_140 : decode cX12_shift 140 = .ok (.sipush 1440, 3) := by decide +kernel
theorem dX12_shift_143 : decode cX12_shift 143 = .ok (.iload_n 2, 1) := by decide +kernel
theorem dX12_shift_144 : decode cX12_shift 144 = .ok (.imul, 1) := by decide +kernel
theorem dX12_shift_145 : decode cX12_shift 145 = .ok (.iload_n 3, 1) := by decide +kernel
theorem dX12_shift_146 : decode cX12_shift 146 = .ok (.iadd, 1) := by decide +kernel
theorem dX12_shift_147 : decode cX12_shift 147 = .ok (.iastore, 1) := by decide +kernel
theorem dX12_shift_148 : decode cX12_shift 148 = .ok (.aload_n 0, 1) := by decide +kernel
theorem dX12_shift_149 : decode cX12_shift 149 = .ok (.getfield 43, 3) := by decide +kernel
theorem dX12_shift_152 : decode cX12_shift 152 = .ok (.aload_n 0, 1) := by decide +kernel
theorem dX12_shift_153 : decode cX12_shift 153 = .ok (.getfield 238, 3) := by decide +kernel
theorem dX12_shift_156 : decode cX12_shift 156 = .ok (.iload 4, 2) := by decide +kernel
theorem dX12_shift_158 : decode cX12_shift 158 = .ok (.iastore, 1) := by decide +kernel
theorem dX12_shift_159 : decode cX12_shift 159 = .ok (.aload_n 0, 1) := by decide +kernel
theorem dX12_shift_160 : decode cX12_shift 160 = .ok (.dup, 1) := by decide +kernel
theorem dX12_shift_161 : decode cX12_shift 161 = .ok (.getfield 238, 3) := by decide +kernel
theorem dX12_shift_164 : decode cX12_shift 164 = .ok (.iconst 1, 1) := by decide +kernel
theorem dX12_shift_165 : decode cX12_shift 165 = .ok (.iadd, 1) := by decide +kernel
theorem dX12_shift_166 : decode cX12_shift 166 = .ok (.putfield 238, 3) := by decide +kernel
theorem dX12_shift_169 : decode cX12_shift 169 = .ok (.iload 4, 2) := by decide +kernel
theorem dX12_shift_171 : decode cX12_shift 171 = .ok (.sipush 360, 3) := by decide +kernel
theorem dX12_shift_174 : decode cX12_shift 174 = .ok (.if_icmp .le 11, 3) := by decide +kernel
theorem dX12_shift_177 : decode cX12_shift 177 = .ok (.iload 4, 2) := by decide +kernel
theorem dX12_shift_179 : decode cX12_shift 179 = .ok (.bipush 30, 2) := by decide +kernel
theorem dX12_shift_181 : decode cX12_shift 181 = .ok (.isub, 1) := by decide +kernel
theorem dX12_shift_182 : decode cX12_shift 182 = .ok (.goto 5, 3) := by decide +kernel
theorem dX12_shift_185 : decode cX12_shift 185 = .ok (.iload 4, 2) := by decide +kernel
theorem dX12_shift_187 : decode cX12_shift 187 = .ok (.istore 7, 2) := by decide +kernel
theorem dX12_shift_189 : decode cX12_shift 189 = .ok (.iload 7, 2) := by decide +kernel
theorem dX12_shift_191 : decode cX12_shift 191 = .ok (.sipush 1440, 3) := by decide +kernel
theorem dX12_shift_194 : decode cX12_shift 194 = .ok (.iload_n 3, 1) := by decide +kernel
theorem dX12_shift_195 : decode cX12_shift 195 = .ok (.isub, 1) := by decide +kernel
theorem dX12_shift_196 : decode cX12_shift 196 = .ok (.if_icmp .ge 8, 3) := by decide +kernel
theorem dX12_shift_199 : decode cX12_shift 199 = .ok (.iload 7, 2) := by decide +kernel
theorem dX12_shift_201 : decode cX12_shift 201 = .ok (.goto 8, 3) := by decide +kernel
theorem dX12_shift_204 : decode cX12_shift 204 = .ok (.sipush 1440, 3) := by decide +kernel
theorem dX12_shift_207 : decode cX12_shift 207 = .ok (.iload_n 3, 1) := by decide +kernel
theorem dX12_shift_208 : decode cX12_shift 208 = .ok (.isub, 1) := by decide +kernel
theorem dX12_shift_209 : decode cX12_shift 209 = .ok (.istore 8, 2) := by decide +kernel
theorem dX12_shift_211 : decode cX12_shift 211 = .ok (.aload_n 0, 1) := by decide +kernel
theorem dX12_shift_212 : decode cX12_shift 212 = .ok (.getfield 34, 3) := by decide +kernel
theorem dX12_shift_215 : decode cX12_shift 215 = .ok (.sipush 720, 3) := by decide +kernel
theorem dX12_shift_218 : decode cX12_shift 218 = .ok (.iload_n 1, 1) := by decide +kernel
theorem dX12_shift_219 : decode cX12_shift 219 = .ok (.imul, 1) := by decide +kernel
theorem dX12_shift_220 : decode cX12_shift 220 = .ok (.iload_n 2, 1) := by decide +kernel
theorem dX12_shift_221 : decode cX12_shift 221 = .ok (.iadd, 1) := by decide +kernel
theorem dX12_shift_222 : decode cX12_shift 222 = .ok (.dup2, 1) := by decide +kernel
theorem dX12_shift_223 : decode cX12_shift 223 = .ok (.iaload, 1) := by decide +kernel
theorem dX12_shift_224 : decode cX12_shift 224 = .ok (.iload 8, 2) := by decide +kernel
theorem dX12_shift_226 : decode cX12_shift 226 = .ok (.iadd, 1) := by decide +kernel
theorem dX12_shift_227 : decode cX12_shift 227 = .ok (.iastore, 1) := by decide +kernel
theorem dX12_shift_228 : decode cX12_shift 228 = .ok (.iload_n 2, 1) := by decide +kernel
theorem dX12_shift_229 : decode cX12_shift 229 = .ok (.sipush 719, 3) := by decide +kernel
theorem dX12_shift_232 : decode cX12_shift 232 = .ok (.if_icmp .ge 25, 3) := by decide +kernel
theorem dX12_shift_235 : decode cX12_shift 235 = .ok (.aload_n 0, 1) := by decide +kernel
theorem dX12_shift_236 : decode cX12_shift 236 = .ok (.getfield 34, 3) := by decide +kernel
theorem dX12_shift_239 : decode cX12_shift 239 = .ok (.sipush 720, 3) := by decide +kernel
theorem dX12_shift_242 : decode cX12_shift 242 = .ok (.iload_n 1, 1) := by decide +kernel
theorem dX12_shift_243 : decode cX12_shift 243 = .ok (.imul, 1) := by decide +kernel
theorem dX12_shift_244 : decode cX12_shift 244 = .ok (.iload_n 2, 1) := by decide +kernel
theorem dX12_shift_245 : decode cX12_shift 245 = .ok (.iadd, 1) := by decide +kernel
theorem dX12_shift_246 : decode cX12_shift 246 = .ok (.iconst 1, 1) := by decide +kernel
theorem dX12_shift_247 : decode cX12_shift 247 = .ok (.iadd, 1) := by decide +kernel
theorem dX12_shift_248 : decode cX12_shift 248 = .ok (.dup2, 1) := by decide +kernel
theorem dX12_shift_249 : decode cX12_shift 249 = .ok (.iaload, 1) := by decide +kernel
theorem dX12_shift_250 : decode cX12_shift 250 = .ok (.iload 7, 2) := by decide +kernel
theorem dX12_shift_252 : decode cX12_shift 252 = .ok (.iload 8, 2) := by decide +kernel
theorem dX12_shift_254 : decode cX12_shift 254 = .ok (.isub, 1) := by decide +kernel
theorem dX12_shift_255 : decode cX12_shift 255 = .ok (.iadd, 1) := by decide +kernel
theorem dX12_shift_256 : decode cX12_shift 256 = .ok (.iastore, 1) := by decide +kernel
theorem dX12_shift_257 : decode cX12_shift 257 = .ok (.aload_n 0, 1) := by decide +kernel
theorem dX12_shift_258 : decode cX12_shift 258 = .ok (.getfield 238, 3) := by decide +kernel
theorem dX12_shift_261 : decode cX12_shift 261 = .ok (.ireturn, 1) := by decide +kernel
theorem dX12_minutes_0 : decode cX12_minutes 0 = .ok (.aload_n 0, 1) := by decide +kernel
theorem dX12_minutes_1 : decode cX12_minutes 1 = .ok (.aload_n 0, 1) := by decide +kernel
theorem dX12_minutes_2 : decode cX12_minutes 2 = .ok (.iload_n 1, 1) := by decide +kernel
theorem dX12_minutes_3 : decode cX12_minutes 3 = .ok (.invokevirtual 204, 3) := by decide +kernel
theorem dX12_minutes_6 : decode cX12_minutes 6 = .ok (.ifCond .eq 15, 3) := by decide +kernel
theorem dX12_minutes_9 : decode cX12_minutes 9 = .ok (.aload_n 0, 1) := by decide +kernel
theorem dX12_minutes_10 : decode cX12_minutes 10 = .ok (.iload_n 2, 1) := by decide +kernel
theorem dX12_minutes_11 : decode cX12_minutes 11 = .ok (.invokevirtual 218, 3) := by decide +kernel
theorem dX12_minutes_14 : decode cX12_minutes 14 = .ok (.ifCond .eq 7, 3) := by decide +kernel
theorem dX12_minutes_17 : decode cX12_minutes 17 = .ok (.iconst 0, 1) := by decide +kernel
theorem dX12_minutes_18 : decode cX12_minutes 18 = .ok (.goto 4, 3) := by decide +kernel
theorem dX12_minutes_21 : decode cX12_minutes 21 = .ok (.iconst 1, 1) := by decide +kernel
theorem dX12_minutes_22 : decode cX12_minutes 22 = .ok (.invokevirtual 227, 3) := by decide +kernel
theorem dX12_minutes_25 : decode cX12_minutes 25 = .ok (.ifCond .eq 7, 3) := by decide +kernel
theorem dX12_minutes_28 : decode cX12_minutes 28 = .ok (.iconst (-1), 1) := by decide +kernel
theorem dX12_minutes_29 : decode cX12_minutes 29 = .ok (.goto 15, 3) := by decide +kernel
theorem dX12_minutes_32 : decode cX12_minutes 32 = .ok (.aload_n 0, 1) := by decide +kernel
theorem dX12_minutes_33 : decode cX12_minutes 33 = .ok (.getfield 34, 3) := by decide +kernel
theorem dX12_minutes_36 : decode cX12_minutes 36 = .ok (.sipush 720, 3) := by decide +kernel
theorem dX12_minutes_39 : decode cX12_minutes 39 = .ok (.iload_n 1, 1) := by decide +kernel
theorem dX12_minutes_40 : decode cX12_minutes 40 = .ok (.imul, 1) := by decide +kernel
theorem dX12_minutes_41 : decode cX12_minutes 41 = .ok (.iload_n 2, 1) := by decide +kernel
theorem dX12_minutes_42 : decode cX12_minutes 42 = .ok (.iadd, 1) := by decide +kernel
theorem dX12_minutes_43 : decode cX12_minutes 43 = .ok (.iaload, 1) := by decide +kernel
theorem dX12_minutes_44 : decode cX12_minutes 44 = .ok (.ireturn, 1) := by decide +kernel
theorem dX12_over_0 : decode cX12_over 0 = .ok (.iconst 0, 1) := by decide +kernel
theorem dX12_over_1 : decode cX12_over 1 = .ok (.istore_n 3, 1) := by decide +kernel
theorem dX12_over_2 : decode cX12_over 2 = .ok (.iconst 0, 1) := by decide +kernel
theorem dX12_over_3 : decode cX12_over 3 = .ok (.istore 4, 2) := by decide +kernel
theorem dX12_over_5 : decode cX12_over 5 = .ok (.bipush 7, 2) := by decide +kernel
theorem dX12_over_7 : decode cX12_over 7 = .ok (.iload_n 2, 1) := by decide +kernel
theorem dX12_over_8 : decode cX12_over 8 = .ok (.imul, 1) := by decide +kernel
theorem dX12_over_9 : decode cX12_over 9 = .ok (.istore 5, 2) := by decide +kernel
theorem dX12_over_11 : decode cX12_over 11 = .ok (.iload 5, 2) := by decide +kernel
theorem dX12_over_13 : decode cX12_over 13 = .ok (.bipush 7, 2) := by decide +kernel
theorem dX12_over_15 : decode cX12_over 15 = .ok (.iload_n 2, 1) := by decide +kernel
theorem dX12_over_16 : decode cX12_over 16 = .ok (.imul, 1) := by decide +kernel
theorem dX12_over_17 : decode cX12_over 17 = .ok (.bipush 7, 2) := by decide +kernel
theorem dX12_over_19 : decode cX12_over 19 = .ok (.iadd, 1) := by decide +kernel
theorem dX12_over_20 : decode cX12_over 20 = .ok (.if_icmp .ge 66, 3) := by decide +kernel
theorem dX12_over_23 : decode cX12_over 23 = .ok (.iload 5, 2) := by decide +kernel
theorem dX12_over_25 : decode cX12_over 25 = .ok (.sipush 720, 3) := by decide +kernel
theorem dX12_over_28 : decode cX12_over 28 = .ok (.if_icmp .ge 58, 3) := by decide +kernel
theorem dX12_over_31 : decode cX12_over 31 = .ok (.aload_n 0, 1) := by decide +kernel
theorem dX12_over_32 : decode cX12_over 32 = .ok (.getfield 34, 3) := by decide +kernel
theorem dX12_over_35 : decode cX12_over 35 = .ok (.sipush 720, 3) := by decide +kernel
theorem dX12_over_38 : decode cX12_over 38 = .ok (.iload_n 1, 1) := by decide +kernel
theorem dX12_over_39 : decode cX12_over 39 = .ok (.imul, 1) := by decide +kernel
theorem dX12_over_40 : decode cX12_over 40 = .ok (.iload 5, 2) := by decide +kernel
theorem dX12_over_42 : decode cX12_over 42 = .ok (.iadd, 1) := by decide +kernel
theorem dX12_over_43 : decode cX12_over 43 = .ok (.iaload, 1) := by decide +kernel
theorem dX12_over_44 : decode cX12_over 44 = .ok (.istore 6, 2) := by decide +kernel
theorem dX12_over_46 : decode cX12_over 46 = .ok (.iload 4, 2) := by decide +kernel
theorem dX12_over_48 : decode cX12_over 48 = .ok (.iload 6, 2) := by decide +kernel
theorem dX12_over_50 : decode cX12_over 50 = .ok (.iadd, 1) := by decide +kernel
theorem dX12_over_51 : decode cX12_over 51 = .ok (.istore 4, 2) := by decide +kernel
theorem dX12_over_53 : decode cX12_over 53 = .ok (.iload_n 3, 1) := by decide +kernel
theorem dX12_over_54 : decode cX12_over 54 = .ok (.iload 6, 2) := by decide +kernel
theorem dX12_over_56 : decode cX12_over 56 = .ok (.aload_n 0, 1) := by decide +kernel
theorem dX12_over_57 : decode cX12_over 57 = .ok (.getfield 25, 3) := by decide +kernel
theorem dX12_over_60 : decode cX12_over 60 = .ok (.iload_n 1, 1) := by decide +kernel
theorem dX12_over_61 : decode cX12_over 61 = .ok (.iaload, 1) := by decide +kernel
theorem dX12_over_62 : decode cX12_over 62 = .ok (.if_icmp .le 15, 3) := by decide +kernel
theorem dX12_over_65 : decode cX12_over 65 = .ok (.iload 6, 2) := by decide +kernel
theorem dX12_over_67 : decode cX12_over 67 = .ok (.aload_n 0, 1) := by decide +kernel
theorem dX12_over_68 : decode cX12_over 68 = .ok (.getfield 25, 3) := by decide +kernel
theorem dX12_over_71 : decode cX12_over 71 = .ok (.iload_n 1, 1) := by decide +kernel
theorem dX12_over_72 : decode cX12_over 72 = .ok (.iaload, 1) := by decide +kernel
theorem dX12_over_73 : decode cX12_over 73 = .ok (.isub, 1) := by decide +kernel
theorem dX12_over_74 : decode cX12_over 74 = .ok (.goto 4, 3) := by decide +kernel
theorem dX12_over_77 : decode cX12_over 77 = .ok (.iconst 0, 1) := by decide +kernel
theorem dX12_over_78 : decode cX12_over 78 = .ok (.iadd, 1) := by decide +kernel
theorem dX12_over_79 : decode cX12_over 79 = .ok (.istore_n 3, 1) := by decide +kernel
theorem dX12_over_80 : decode cX12_over 80 = .ok (.iinc 5 1, 3) := by decide +kernel
theorem dX12_over_83 : decode cX12_over 83 = .ok (.goto (-72), 3) := by decide +kernel
theorem dX12_over_86 : decode cX12_over 86 = .ok (.iload 4, 2) := by decide +kernel
theorem dX12_over_88 : decode cX12_over 88 = .ok (.iconst 5, 1) := by decide +kernel
theorem dX12_over_89 : decode cX12_over 89 = .ok (.aload_n 0, 1) := by decide +kernel
theorem dX12_over_90 : decode cX12_over 90 = .ok (.getfield 25, 3) := by decide +kernel
theorem dX12_over_93 : decode cX12_over 93 = .ok (.iload_n 1, 1) := by decide +kernel
theorem dX12_over_94 : decode cX12_over 94 = .ok (.iaload, 1) := by decide +kernel
theorem dX12_over_95 : decode cX12_over 95 = .ok (.imul, 1) := by decide +kernel
theorem dX12_over_96 : decode cX12_over 96 = .ok (.if_icmp .le 17, 3) := by decide +kernel
theorem dX12_over_99 : decode cX12_over 99 = .ok (.iload 4, 2) := by decide +kernel
theorem dX12_over_101 : decode cX12_over 101 = .ok (.iconst 5, 1) := by decide +kernel
theorem dX12_over_102 : decode cX12_over 102 = .ok (.aload_n 0, 1) := by decide +kernel
theorem dX12_over_103 : decode cX12_over 103 = .ok (.getfield 25, 3) := by decide +kernel
theorem dX12_over_106 : decode cX12_over 106 = .ok (.iload_n 1, 1) := by decide +kernel
theorem dX12_over_107 : decode cX12_over 107 = .ok (.iaload, 1) := by decide +kernel
theorem dX12_over_108 : decode cX12_over 108 = .ok (.imul, 1) := by decide +kernel
theorem dX12_over_109 : decode cX12_over 109 = .ok (.isub, 1) := by decide +kernel
theorem dX12_over_110 : decode cX12_over 110 = .ok (.goto 4, 3) := by decide +kernel
theorem dX12_over_113 : decode cX12_over 113 = .ok (.iconst 0, 1) := by decide +kernel
theorem dX12_over_114 : decode cX12_over 114 = .ok (.istore 5, 2) := by decide +kernel
theorem dX12_over_116 : decode cX12_over 116 = .ok (.iload_n 3, 1) := by decide +kernel
theorem dX12_over_117 : decode cX12_over 117 = .ok (.iload 5, 2) := by decide +kernel
theorem dX12_over_119 : decode cX12_over 119 = .ok (.if_icmp .le 7, 3) := by decide +kernel
theorem dX12_over_122 : decode cX12_over 122 = .ok (.iload_n 3, 1) := by decide +kernel
theorem dX12_over_123 : decode cX12_over 123 = .ok (.goto 5, 3) := by decide +kernel
theorem dX12_over_126 : decode cX12_over 126 = .ok (.iload 5, 2) := by decide +kernel
theorem dX12_over_128 : decode cX12_over 128 = .ok (.ireturn, 1) := by decide +kernel
theorem dX12_overtime_0 : decode cX12_overtime 0 = .ok (.aload_n 0, 1) := by decide +kernel
theorem dX12_overtime_1 : decode cX12_overtime 1 = .ok (.aload_n 0, 1) := by decide +kernel
theorem dX12_overtime_2 : decode cX12_overtime 2 = .ok (.iload_n 1, 1) := by decide +kernel
theorem dX12_overtime_3 : decode cX12_overtime 3 = .ok (.invokevirtual 204, 3) := by decide +kernel
theorem dX12_overtime_6 : decode cX12_overtime 6 = .ok (.ifCond .eq 20, 3) := by decide +kernel
theorem dX12_overtime_9 : decode cX12_overtime 9 = .ok (.aload_n 0, 1) := by decide +kernel
theorem dX12_overtime_10 : decode cX12_overtime 10 = .ok (.iload_n 2, 1) := by decide +kernel
theorem dX12_overtime_11 : decode cX12_overtime 11 = .ok (.i2l, 1) := by decide +kernel
theorem dX12_overtime_12 : decode cX12_overtime 12 = .ok (.lconst 0, 1) := by decide +kernel
theorem dX12_overtime_13 : decode cX12_overtime 13 = .ok (.ldc2_w 253, 3) := by decide +kernel
theorem dX12_overtime_16 : decode cX12_overtime 16 = .ok (.invokevirtual 191, 3) := by decide +kernel
theorem dX12_overtime_19 : decode cX12_overtime 19 = .ok (.ifCond .eq 7, 3) := by decide +kernel
theorem dX12_overtime_22 : decode cX12_overtime 22 = .ok (.iconst 0, 1) := by decide +kernel
theorem dX12_overtime_23 : decode cX12_overtime 23 = .ok (.goto 4, 3) := by decide +kernel
theorem dX12_overtime_26 : decode cX12_overtime 26 = .ok (.iconst 1, 1) := by decide +kernel
theorem dX12_overtime_27 : decode cX12_overtime 27 = .ok (.invokevirtual 227, 3) := by decide +kernel
theorem dX12_overtime_30 : decode cX12_overtime 30 = .ok (.ifCond .eq 7, 3) := by decide +kernel
theorem dX12_overtime_33 : decode cX12_overtime 33 = .ok (.iconst (-1), 1) := by decide +kernel
theorem dX12_overtime_34 : decode cX12_overtime 34 = .ok (.goto 9, 3) := by decide +kernel
theorem dX12_overtime_37 : decode cX12_overtime 37 = .ok (.aload_n 0, 1) := by decide +kernel
theorem dX12_overtime_38 : decode cX12_overtime 38 = .ok (.iload_n 1, 1) := by decide +kernel
theorem dX12_overtime_39 : decode cX12_overtime 39 = .ok (.iload_n 2, 1) := by decide +kernel
theorem dX12_overtime_40 : decode cX12_overtime 40 = .ok (.invokevirtual 255, 3) := by decide +kernel
theorem dX12_overtime_43 : decode cX12_overtime 43 = .ok (.ireturn, 1) := by decide +kernel
theorem dX12_overPay_0 : decode cX12_overPay 0 = .ok (.bipush 7, 2) := by decide +kernel
theorem dX12_overPay_2 : decode cX12_overPay 2 = .ok (.iload_n 2, 1) := by decide +kernel
theorem dX12_overPay_3 : decode cX12_overPay 3 = .ok (.imul, 1) := by decide +kernel
theorem dX12_overPay_4 : decode cX12_overPay 4 = .ok (.bipush 6, 2) := by decide +kernel
theorem dX12_overPay_6 : decode cX12_overPay 6 = .ok (.iadd, 1) := by decide +kernel
theorem dX12_overPay_7 : decode cX12_overPay 7 = .ok (.sipush 719, 3) := by decide +kernel
theorem dX12_overPay_10 : decode cX12_overPay 10 = .ok (.if_icmp .le 9, 3) := by decide +kernel
theorem dX12_overPay_13 : decode cX12_overPay 13 = .ok (.sipush 719, 3) := by decide +kernel
theorem dX12_overPay_16 : decode cX12_overPay 16 = .ok (.goto 10, 3) := by decide +kernel
theorem dX12_overPay_19 : decode cX12_overPay 19 = .ok (.bipush 7, 2) := by decide +kernel
theorem dX12_overPay_21 : decode cX12_overPay 21 = .ok (.iload_n 2, 1) := by decide +kernel
theorem dX12_overPay_22 : decode cX12_overPay 22 = .ok (.imul, 1) := by decide +kernel
theorem dX12_overPay_23 : decode cX12_overPay 23 = .ok (.bipush 6, 2) := by decide +kernel
theorem dX12_overPay_25 : decode cX12_overPay 25 = .ok (.iadd, 1) := by decide +kernel
theorem dX12_overPay_26 : decode cX12_overPay 26 = .ok (.istore_n 3, 1) := by decide +kernel
theorem dX12_overPay_27 : decode cX12_overPay 27 = .ok (.aload_n 0, 1) := by decide +kernel
theorem dX12_overPay_28 : decode cX12_overPay 28 = .ok (.getfield 22, 3) := by decide +kernel
theorem dX12_overPay_31 : decode cX12_overPay 31 = .ok (.iload_n 1, 1) := by decide +kernel
theorem dX12_overPay_32 : decode cX12_overPay 32 = .ok (.iaload, 1) := by decide +kernel
theorem dX12_overPay_33 : decode cX12_overPay 33 = .ok (.iconst 1, 1) := by decide +kernel
theorem dX12_overPay_34 : decode cX12_overPay 34 = .ok (.if_icmp .ne 12, 3) := by decide +kernel
theorem dX12_overPay_37 : decode cX12_overPay 37 = .ok (.aload_n 0, 1) := by decide +kernel
theorem dX12_overPay_38 : decode cX12_overPay 38 = .ok (.iload_n 1, 1) := by decide +kernel
theorem dX12_overPay_39 : decode cX12_overPay 39 = .ok (.iload_n 3, 1) := by decide +kernel
theorem dX12_overPay_40 : decode cX12_overPay 40 = .ok (.invokevirtual 234, 3) := by decide +kernel
theorem dX12_overPay_43 : decode cX12_overPay 43 = .ok (.goto 28, 3) := by decide +kernel
theorem dX12_overPay_46 : decode cX12_overPay 46 = .ok (.aload_n 0, 1) := by decide +kernel
theorem dX12_overPay_47 : decode cX12_overPay 47 = .ok (.ldc2_w 221, 3) := by decide +kernel
theorem dX12_overPay_50 : decode cX12_overPay 50 = .ok (.aload_n 0, 1) := by decide +kernel
theorem dX12_overPay_51 : decode cX12_overPay 51 = .ok (.iload_n 1, 1) := by decide +kernel
theorem dX12_overPay_52 : decode cX12_overPay 52 = .ok (.iload_n 3, 1) := by decide +kernel
theorem dX12_overPay_53 : decode cX12_overPay 53 = .ok (.invokevirtual 234, 3) := by decide +kernel
theorem dX12_overPay_56 : decode cX12_overPay 56 = .ok (.lmul, 1) := by decide +kernel
theorem dX12_overPay_57 : decode cX12_overPay 57 = .ok (.ldc2_w 259, 3) := by decide +kernel
theorem dX12_overPay_60 : decode cX12_overPay 60 = .ok (.aload_n 0, 1) := by decide +kernel
theorem dX12_overPay_61 : decode cX12_overPay 61 = .ok (.getfield 25, 3) := by decide +kernel
theorem dX12_overPay_64 : decode cX12_overPay 64 = .ok (.iload_n 1, 1) := by decide +kernel
theorem dX12_overPay_65 : decode cX12_overPay 65 = .ok (.iaload, 1) := by decide +kernel
theorem dX12_overPay_66 : decode cX12_overPay 66 = .ok (.i2l, 1) := by decide +kernel
theorem dX12_overPay_67 : decode cX12_overPay 67 = .ok (.lmul, 1) := by decide +kernel
theorem dX12_overPay_68 : decode cX12_overPay 68 = .ok (.invokevirtual 261, 3) := by decide +kernel
theorem dX12_overPay_71 : decode cX12_overPay 71 = .ok (.lstore 4, 2) := by decide +kernel
theorem dX12_overPay_73 : decode cX12_overPay 73 = .ok (.aload_n 0, 1) := by decide +kernel
theorem dX12_overPay_74 : decode cX12_overPay 74 = .ok (.lload 4, 2) := by decide +kernel
theorem dX12_overPay_76 : decode cX12_overPay 76 = .ok (.aload_n 0, 1) := by decide +kernel
theorem dX12_overPay_77 : decode cX12_overPay 77 = .ok (.iload_n 1, 1) := by decide +kernel
theorem dX12_overPay_78 : decode cX12_overPay 78 = .ok (.iload_n 2, 1) := by decide +kernel
theorem dX12_overPay_79 : decode cX12_overPay 79 = .ok (.invokevirtual 255, 3) := by decide +kernel
theorem dX12_overPay_82 : decode cX12_overPay 82 = .ok (.i2l, 1) := by decide +kernel
theorem dX12_overPay_83 : decode cX12_overPay 83 = .ok (.lmul, 1) := by decide +kernel
theorem dX12_overPay_84 : decode cX12_overPay 84 = .ok (.ldc2_w 264, 3) := by decide +kernel
theorem dX12_overPay_87 : decode cX12_overPay 87 = .ok (.invokevirtual 261, 3) := by decide +kernel
theorem dX12_overPay_90 : decode cX12_overPay 90 = .ok (.lreturn, 1) := by decide +kernel
theorem dX12_baseOf_0 : decode cX12_baseOf 0 = .ok (.lconst 0, 1) := by decide +kernel
theorem dX12_baseOf_1 : decode cX12_baseOf 1 = .ok (.lstore_n 3, 1) := by decide +kernel
theorem dX12_baseOf_2 : decode cX12_baseOf 2 = .ok (.bipush 30, 2) := by decide +kernel
theorem dX12_baseOf_4 : decode cX12_baseOf 4 = .ok (.iload_n 2, 1) := by decide +kernel
theorem dX12_baseOf_5 : decode cX12_baseOf 5 = .ok (.imul, 1) := by decide +kernel
theorem dX12_baseOf_6 : decode cX12_baseOf 6 = .ok (.istore 5, 2) := by decide +kernel
theorem dX12_baseOf_8 : decode cX12_baseOf 8 = .ok (.iload 5, 2) := by decide +kernel
theorem dX12_baseOf_10 : decode cX12_baseOf 10 = .ok (.bipush 30, 2) := by decide +kernel
theorem dX12_baseOf_12 : decode cX12_baseOf 12 = .ok (.iload_n 2, 1) := by decide +kernel
theorem dX12_baseOf_13 : decode cX12_baseOf 13 = .ok (.imul, 1) := by decide +kernel
theorem dX12_baseOf_14 : decode cX12_baseOf 14 = .ok (.bipush 30, 2) := by decide +kernel
theorem dX12_baseOf_16 : decode cX12_baseOf 16 = .ok (.iadd, 1) := by decide +kernel
theorem dX12_baseOf_17 : decode cX12_baseOf 17 = .ok (.if_icmp .ge 68, 3) := by decide +kernel
theorem dX12_baseOf_20 : decode cX12_baseOf 20 = .ok (.lload_n 3, 1) := by decide +kernel
theorem dX12_baseOf_21 : decode cX12_baseOf 21 = .ok (.aload_n 0, 1) := by decide +kernel
theorem dX12_baseOf_22 : decode cX12_baseOf 22 = .ok (.getfield 22, 3) := by decide +kernel
theorem dX12_baseOf_25 : decode cX12_baseOf 25 = .ok (.iload_n 1, 1) := by decide +kernel
theorem dX12_baseOf_26 : decode cX12_baseOf 26 = .ok (.iaload, 1) := by decide +kernel
theorem dX12_baseOf_27 : decode cX12_baseOf 27 = .ok (.iconst 1, 1) := by decide +kernel
theorem dX12_baseOf_28 : decode cX12_baseOf 28 = .ok (.if_icmp .ne 28, 3) := by decide +kernel
theorem dX12_baseOf_31 : decode cX12_baseOf 31 = .ok (.aload_n 0, 1) := by decide +kernel
theorem dX12_baseOf_32 : decode cX12_baseOf 32 = .ok (.getfield 34, 3) := by decide +kernel
theorem dX12_baseOf_35 : decode cX12_baseOf 35 = .ok (.sipush 720, 3) := by decide +kernel
theorem dX12_baseOf_38 : decode cX12_baseOf 38 = .ok (.iload_n 1, 1) := by decide +kernel
theorem dX12_baseOf_39 : decode cX12_baseOf 39 = .ok (.imul, 1) := by decide +kernel
theorem dX12_baseOf_40 : decode cX12_baseOf 40 = .ok (.iload 5, 2) := by decide +kernel
theorem dX12_baseOf_42 : decode cX12_baseOf 42 = .ok (.iadd, 1) := by decide +kernel
theorem dX12_baseOf_43 : decode cX12_baseOf 43 = .ok (.iaload, 1) := by decide +kernel
theorem dX12_baseOf_44 : decode cX12_baseOf 44 = .ok (.i2l, 1) := by decide +kernel
theorem dX12_baseOf_45 : decode cX12_baseOf 45 = .ok (.aload_n 0, 1) := by decide +kernel
theorem dX12_baseOf_46 : decode cX12_baseOf 46 = .ok (.iload_n 1, 1) := by decide +kernel
theorem dX12_baseOf_47 : decode cX12_baseOf 47 = .ok (.iload 5, 2) := by decide +kernel
theorem dX12_baseOf_49 : decode cX12_baseOf 49 = .ok (.invokevirtual 234, 3) := by decide +kernel
theorem dX12_baseOf_52 : decode cX12_baseOf 52 = .ok (.lmul, 1) := by decide +kernel
theorem dX12_baseOf_53 : decode cX12_baseOf 53 = .ok (.goto 24, 3) := by decide +kernel
theorem dX12_baseOf_56 : decode cX12_baseOf 56 = .ok (.aload_n 0, 1) := by decide +kernel
theorem dX12_baseOf_57 : decode cX12_baseOf 57 = .ok (.iload_n 1, 1) := by decide +kernel
theorem dX12_baseOf_58 : decode cX12_baseOf 58 = .ok (.iload 5, 2) := by decide +kernel
theorem dX12_baseOf_60 : decode cX12_baseOf 60 = .ok (.invokevirtual 245, 3) := by decide +kernel
theorem dX12_baseOf_63 : decode cX12_baseOf 63 = .ok (.ifCond .eq 13, 3) := by decide +kernel
theorem dX12_baseOf_66 : decode cX12_baseOf 66 = .ok (.aload_n 0, 1) := by decide +kernel
theorem dX12_baseOf_67 : decode cX12_baseOf 67 = .ok (.iload_n 1, 1) := by decide +kernel
theorem dX12_baseOf_68 : decode cX12_baseOf 68 = .ok (.iload 5, 2) := by decide +kernel
theorem dX12_baseOf_70 : decode cX12_baseOf 70 = .ok (.invokevirtual 234, 3) := by decide +kernel
theorem dX12_baseOf_73 : decode cX12_baseOf 73 = .ok (.goto 4, 3) := by decide +kernel
theorem dX12_baseOf_76 : decode cX12_baseOf 76 = .ok (.lconst 0, 1) := by decide +kernel
theorem dX12_baseOf_77 : decode cX12_baseOf 77 = .ok (.ladd, 1) := by decide +kernel
theorem dX12_baseOf_78 : decode cX12_baseOf 78 = .ok (.lstore_n 3, 1) := by decide +kernel
theorem dX12_baseOf_79 : decode cX12_baseOf 79 = .ok (.iinc 5 1, 3) := by decide +kernel
theorem dX12_baseOf_82 : decode cX12_baseOf 82 = .ok (.goto (-74), 3) := by decide +kernel
theorem dX12_baseOf_85 : decode cX12_baseOf 85 = .ok (.aload_n 0, 1) := by decide +kernel
theorem dX12_baseOf_86 : decode cX12_baseOf 86 = .ok (.lload_n 3, 1) := by decide +kernel
theorem dX12_baseOf_87 : decode cX12_baseOf 87 = .ok (.aload_n 0, 1) := by decide +kernel
theorem dX12_baseOf_88 : decode cX12_baseOf 88 = .ok (.getfield 22, 3) := by decide +kernel
theorem dX12_baseOf_91 : decode cX12_baseOf 91 = .ok (.iload_n 1, 1) := by decide +kernel
theorem dX12_baseOf_92 : decode cX12_baseOf 92 = .ok (.iaload, 1) := by decide +kernel
theorem dX12_baseOf_93 : decode cX12_baseOf 93 = .ok (.iconst 1, 1) := by decide +kernel
theorem dX12_baseOf_94 : decode cX12_baseOf 94 = .ok (.if_icmp .ne 9, 3) := by decide +kernel
theorem dX12_baseOf_97 : decode cX12_baseOf 97 = .ok (.ldc2_w 221, 3) := by decide +kernel
theorem dX12_baseOf_100 : decode cX12_baseOf 100 = .ok (.goto 6, 3) := by decide +kernel
theorem dX12_baseOf_103 : decode cX12_baseOf 103 = .ok (.ldc2_w 259, 3) := by decide +kernel
theorem dX12_baseOf_106 : decode cX12_baseOf 106 = .ok (.invokevirtual 261, 3) := by decide +kernel
theorem dX12_baseOf_109 : decode cX12_baseOf 109 = .ok (.lstore 5, 2) := by decide +kernel
theorem dX12_baseOf_111 : decode cX12_baseOf 111 = .ok (.iconst 0, 1) := by decide +kernel
theorem dX12_baseOf_112 : decode cX12_baseOf 112 = .ok (.istore 7, 2) := by decide +kernel
theorem dX12_baseOf_114 : decode cX12_baseOf 114 = .ok (.iload 7, 2) := by decide +kernel
theorem dX12_baseOf_116 : decode cX12_baseOf 116 = .ok (.bipush 103, 2) := by decide +kernel
theorem dX12_baseOf_118 : decode cX12_baseOf 118 = .ok (.if_icmp .ge 64, 3) := by decide +kernel
theorem dX12_baseOf_121 : decode cX12_baseOf 121 = .ok (.bipush 7, 2) := by decide +kernel
theorem dX12_baseOf_123 : decode cX12_baseOf 123 = .ok (.iload 7, 2) := by decide +kernel
theorem dX12_baseOf_125 : decode cX12_baseOf 125 = .ok (.imul, 1) := by decide +kernel
theorem dX12_baseOf_126 : decode cX12_baseOf 126 = .ok (.bipush 6, 2) := by decide +kernel
theorem dX12_baseOf_128 : decode cX12_baseOf 128 = .ok (.iadd, 1) := by decide +kernel
theorem dX12_baseOf_129 : decode cX12_baseOf 129 = .ok (.sipush 719, 3) := by decide +kernel
theorem dX12_baseOf_132 : decode cX12_baseOf 132 = .ok (.if_icmp .le 9, 3) := by decide +kernel
theorem dX12_baseOf_135 : decode cX12_baseOf 135 = .ok (.sipush 719, 3) := by decide +kernel
theorem dX12_baseOf_138 : decode cX12_baseOf 138 = .ok (.goto 11, 3) := by decide +kernel
theorem dX12_baseOf_141 : decode cX12_baseOf 141 = .ok (.bipush 7, 2) := by decide +kernel
theorem dX12_baseOf_143 : decode cX12_baseOf 143 = .ok (.iload 7, 2) := by decide +kernel
theorem dX12_baseOf_145 : decode cX12_baseOf 145 = .ok (.imul, 1) := by decide +kernel
theorem dX12_baseOf_146 : decode cX12_baseOf 146 = .ok (.bipush 6, 2) := by decide +kernel
theorem dX12_baseOf_148 : decode cX12_baseOf 148 = .ok (.iadd, 1) := by decide +kernel
theorem dX12_baseOf_149 : decode cX12_baseOf 149 = .ok (.istore 8, 2) := by decide +kernel
theorem dX12_baseOf_151 : decode cX12_baseOf 151 = .ok (.lload 5, 2) := by decide +kernel
theorem dX12_baseOf_153 : decode cX12_baseOf 153 = .ok (.iload 8, 2) := by decide +kernel
theorem dX12_baseOf_155 : decode cX12_baseOf 155 = .ok (.bipush 30, 2) := by decide +kernel
theorem dX12_baseOf_157 : decode cX12_baseOf 157 = .ok (.idiv, 1) := by decide +kernel
theorem dX12_baseOf_158 : decode cX12_baseOf 158 = .ok (.iload_n 2, 1) := by decide +kernel
theorem dX12_baseOf_159 : decode cX12_baseOf 159 = .ok (.if_icmp .ne 13, 3) := by decide +kernel
theorem dX12_baseOf_162 : decode cX12_baseOf 162 = .ok (.aload_n 0, 1) := by decide +kernel
theorem dX12_baseOf_163 : decode cX12_baseOf 163 = .ok (.iload_n 1, 1) := by decide +kernel
theorem dX12_baseOf_164 : decode cX12_baseOf 164 = .ok (.iload 7, 2) := by decide +kernel
theorem dX12_baseOf_166 : decode cX12_baseOf 166 = .ok (.invokevirtual 266, 3) := by decide +kernel
theorem dX12_baseOf_169 : decode cX12_baseOf 169 = .ok (.goto 4, 3) := by decide +kernel
theorem dX12_baseOf_172 : decode cX12_baseOf 172 = .ok (.lconst 0, 1) := by decide +kernel
theorem dX12_baseOf_173 : decode cX12_baseOf 173 = .ok (.ladd, 1) := by decide +kernel
theorem dX12_baseOf_174 : decode cX12_baseOf 174 = .ok (.lstore 5, 2) := by decide +kernel
theorem dX12_baseOf_176 : decode cX12_baseOf 176 = .ok (.iinc 7 1, 3) := by decide +kernel
theorem dX12_baseOf_179 : decode cX12_baseOf 179 = .ok (.goto (-65), 3) := by decide +kernel
theorem dX12_baseOf_182 : decode cX12_baseOf 182 = .ok (.iconst 0, 1) := by decide +kernel
theorem dX12_baseOf_183 : decode cX12_baseOf 183 = .ok (.istore 7, 2) := by decide +kernel
theorem dX12_baseOf_185 : decode cX12_baseOf 185 = .ok (.iload 7, 2) := by decide +kernel
theorem dX12_baseOf_187 : decode cX12_baseOf 187 = .ok (.aload_n 0, 1) := by decide +kernel
theorem dX12_baseOf_188 : decode cX12_baseOf 188 = .ok (.getfield 269, 3) := by decide +kernel
theorem dX12_baseOf_191 : decode cX12_baseOf 191 = .ok (.if_icmp .ge 103, 3) := by decide +kernel
theorem dX12_baseOf_194 : decode cX12_baseOf 194 = .ok (.aload_n 0, 1) := by decide +kernel
theorem dX12_baseOf_195 : decode cX12_baseOf 195 = .ok (.getfield 46, 3) := by decide +kernel
theorem dX12_baseOf_198 : decode cX12_baseOf 198 = .ok (.iload 7, 2) := by decide +kernel
theorem dX12_baseOf_200 : decode cX12_baseOf 200 = .ok (.iaload, 1) := by decide +kernel
theorem dX12_baseOf_201 : decode cX12_baseOf 201 = .ok (.iload_n 1, 1) := by decide +kernel
theorem dX12_baseOf_202 : decode cX12_baseOf 202 = .ok (.if_icmp .ne 42, 3) := by decide +kernel
theorem dX12_baseOf_205 : decode cX12_baseOf 205 = .ok (.aload_n 0, 1) := by decide +kernel
theorem dX12_baseOf_206 : decode cX12_baseOf 206 = .ok (.getfield 52, 3) := by decide +kernel
theorem dX12_baseOf_209 : decode cX12_baseOf 209 = .ok (.iload 7, 2) := by decide +kernel
theorem dX12_baseOf_211 : decode cX12_baseOf 211 = .ok (.iaload, 1) := by decide +kernel
theorem dX12_baseOf_212 : decode cX12_baseOf 212 = .ok (.iconst 1, 1) := by decide +kernel
theorem dX12_baseOf_213 : decode cX12_baseOf 213 = .ok (.if_icmp .ne 31, 3) := by decide +kernel
theorem dX12_baseOf_216 : decode cX12_baseOf 216 = .ok (.aload_n 0, 1) := by decide +kernel
theorem dX12_baseOf_217 : decode cX12_baseOf 217 = .ok (.getfield 49, 3) := by decide +kernel
theorem dX12_baseOf_220 : decode cX12_baseOf 220 = .ok (.iload 7, 2) := by decide +kernel
theorem dX12_baseOf_222 : decode cX12_baseOf 222 = .ok (.iaload, 1) := by decide +kernel
theorem dX12_baseOf_223 : decode cX12_baseOf 223 = .ok (.bipush 30, 2) := by decide +kernel
theorem dX12_baseOf_225 : decode cX12_baseOf 225 = .ok (.idiv, 1) := by decide +kernel
theorem dX12_baseOf_226 : decode cX12_baseOf 226 = .ok (.iload_n 2, 1) := by decide +kernel
theorem dX12_baseOf_227 : decode cX12_baseOf 227 = .ok (.if_icmp .ne 17, 3) := by decide +kernel
theorem dX12_baseOf_230 : decode cX12_baseOf 230 = .ok (.aload_n 0, 1) := by decide +kernel
theorem dX12_baseOf_231 : decode cX12_baseOf 231 = .ok (.getfield 22, 3) := by decide +kernel
theorem dX12_baseOf_234 : decode cX12_baseOf 234 = .ok (.iload_n 1, 1) := by decide +kernel
theorem dX12_baseOf_235 : decode cX12_baseOf 235 = .ok (.iaload, 1) := by decide +kernel
theorem dX12_baseOf_236 : decode cX12_baseOf 236 = .ok (.iconst 1, 1) := by decide +kernel
theorem dX12_baseOf_237 : decode cX12_baseOf 237 = .ok (.if_icmp .ne 7, 3) := by decide +kernel
theorem dX12_baseOf_240 : decode cX12_baseOf 240 = .ok (.iconst 1, 1) := by decide +kernel
theorem dX12_baseOf_241 : decode cX12_baseOf 241 = .ok (.goto 4, 3) := by decide +kernel
theorem dX12_baseOf_244 : decode cX12_baseOf 244 = .ok (.iconst 0, 1) := by decide +kernel
theorem dX12_baseOf_245 : decode cX12_baseOf 245 = .ok (.istore 8, 2) := by decide +kernel
theorem dX12_baseOf_247 : decode cX12_baseOf 247 = .ok (.lload 5, 2) := by decide +kernel
theorem dX12_baseOf_249 : decode cX12_baseOf 249 = .ok (.iload 8, 2) := by decide +kernel
theorem dX12_baseOf_251 : decode cX12_baseOf 251 = .ok (.ifCond .eq 33, 3) := by decide +kernel
theorem dX12_baseOf_254 : decode cX12_baseOf 254 = .ok (.aload_n 0, 1) := by decide +kernel
theorem dX12_baseOf_255 : decode cX12_baseOf 255 = .ok (.aload_n 0, 1) := by decide +kernel
theorem dX12_baseOf_256 : decode cX12_baseOf 256 = .ok (.getfield 25, 3) := by decide +kernel
theorem dX12_baseOf_259 : decode cX12_baseOf 259 = .ok (.iload_n 1, 1) := by decide +kernel
theorem dX12_baseOf_260 : decode cX12_baseOf 260 = .ok (.iaload, 1) := by decide +kernel
theorem dX12_baseOf_261 : decode cX12_baseOf 261 = .ok (.i2l, 1) := by decide +kernel
theorem dX12_baseOf_262 : decode cX12_baseOf 262 = .ok (.aload_n 0, 1) := by decide +kernel
theorem dX12_baseOf_263 : decode cX12_baseOf 263 = .ok (.iload_n 1, 1) := by decide +kernel
theorem dX12_baseOf_264 : decode cX12_baseOf 264 = .ok (.aload_n 0, 1) := by decide +kernel
theorem dX12_baseOf_265 : decode cX12_baseOf 265 = .ok (.getfield 49, 3) := by decide +kernel
theorem dX12_baseOf_268 : decode cX12_baseOf 268 = .ok (.iload 7, 2) := by decide +kernel
theorem dX12_baseOf_270 : decode cX12_baseOf 270 = .ok (.iaload, 1) := by decide +kernel
theorem dX12_baseOf_271 : decode cX12_baseOf 271 = .ok (.invokevirtual 234, 3) := by decide +kernel
theorem dX12_baseOf_274 : decode cX12_baseOf 274 = .ok (.lmul, 1) := by decide +kernel
theorem dX12_baseOf_275 : decode cX12_baseOf 275 = .ok (.ldc2_w 221, 3) := by decide +kernel
theorem dX12_baseOf_278 : decode cX12_baseOf 278 = .ok (.invokevirtual 261, 3) := by decide +kernel
theorem dX12_baseOf_281 : decode cX12_baseOf 281 = .ok (.goto 4, 3) := by decide +kernel
theorem dX12_baseOf_284 : decode cX12_baseOf 284 = .ok (.lconst 0, 1) := by decide +kernel
theorem dX12_baseOf_285 : decode cX12_baseOf 285 = .ok (.ladd, 1) := by decide +kernel
theorem dX12_baseOf_286 : decode cX12_baseOf 286 = .ok (.lstore 5, 2) := by decide +kernel
theorem dX12_baseOf_288 : decode cX12_baseOf 288 = .ok (.iinc 7 1, 3) := by decide +kernel
theorem dX12_baseOf_291 : decode cX12_baseOf 291 = .ok (.goto (-106), 3) := by decide +kernel
theorem dX12_baseOf_294 : decode cX12_baseOf 294 = .ok (.lload 5, 2) := by decide +kernel
theorem dX12_baseOf_296 : decode cX12_baseOf 296 = .ok (.lreturn, 1) := by decide +kernel
theorem dX12_base_0 : decode cX12_base 0 = .ok (.aload_n 0, 1) := by decide +kernel
theorem dX12_base_1 : decode cX12_base 1 = .ok (.aload_n 0, 1) := by decide +kernel
theorem dX12_base_2 : decode cX12_base 2 = .ok (.iload_n 1, 1) := by decide +kernel
theorem dX12_base_3 : decode cX12_base 3 = .ok (.invokevirtual 204, 3) := by decide +kernel
theorem dX12_base_6 : decode cX12_base 6 = .ok (.ifCond .eq 15, 3) := by decide +kernel
theorem dX12_base_9 : decode cX12_base 9 = .ok (.aload_n 0, 1) := by decide +kernel
theorem dX12_base_10 : decode cX12_base 10 = .ok (.iload_n 2, 1) := by decide +kernel
theorem dX12_base_11 : decode cX12_base 11 = .ok (.invokevirtual 272, 3) := by decide +kernel
theorem dX12_base_14 : decode cX12_base 14 = .ok (.ifCond .eq 7, 3) := by decide +kernel
theorem dX12_base_17 : decode cX12_base 17 = .ok (.iconst 0, 1) := by decide +kernel
theorem dX12_base_18 : decode cX12_base 18 = .ok (.goto 4, 3) := by decide +kernel
theorem dX12_base_21 : decode cX12_base 21 = .ok (.iconst 1, 1) := by decide +kernel
theorem dX12_base_22 : decode cX12_base 22 = .ok (.invokevirtual 227, 3) := by decide +kernel
theorem dX12_base_25 : decode cX12_base 25 = .ok (.ifCond .eq 7, 3) := by decide +kernel
theorem dX12_base_28 : decode cX12_base 28 = .ok (.ldc2_w 275, 3) := by decide +kernel
theorem dX12_base_31 : decode cX12_base 31 = .ok (.lreturn, 1) := by decide +kernel
theorem dX12_base_32 : decode cX12_base 32 = .ok (.aload_n 0, 1) := by decide +kernel
theorem dX12_base_33 : decode cX12_base 33 = .ok (.aload_n 0, 1) := by decide +kernel
theorem dX12_base_34 : decode cX12_base 34 = .ok (.getfield 7, 3) := by decide +kernel
theorem dX12_base_37 : decode cX12_base 37 = .ok (.iload_n 1, 1) := by decide +kernel
theorem dX12_base_38 : decode cX12_base 38 = .ok (.iaload, 1) := by decide +kernel
theorem dX12_base_39 : decode cX12_base 39 = .ok (.sipush 720, 3) := by decide +kernel
theorem dX12_base_42 : decode cX12_base 42 = .ok (.invokevirtual 277, 3) := by decide +kernel
theorem dX12_base_45 : decode cX12_base 45 = .ok (.aload_n 0, 1) := by decide +kernel
theorem dX12_base_46 : decode cX12_base 46 = .ok (.iload_n 1, 1) := by decide +kernel
theorem dX12_base_47 : decode cX12_base 47 = .ok (.iload_n 2, 1) := by decide +kernel
theorem dX12_base_48 : decode cX12_base 48 = .ok (.invokevirtual 281, 3) := by decide +kernel
theorem dX12_base_51 : decode cX12_base 51 = .ok (.lreturn, 1) := by decide +kernel
theorem dX12_leaveRule_0 : decode cX12_leaveRule 0 = .ok (.aload_n 0, 1) := by decide +kernel
theorem dX12_leaveRule_1 : decode cX12_leaveRule 1 = .ok (.aload_n 0, 1) := by decide +kernel
theorem dX12_leaveRule_2 : decode cX12_leaveRule 2 = .ok (.iload_n 1, 1) := by decide +kernel
theorem dX12_leaveRule_3 : decode cX12_leaveRule 3 = .ok (.i2l, 1) := by decide +kernel
theorem dX12_leaveRule_4 : decode cX12_leaveRule 4 = .ok (.lconst 0, 1) := by decide +kernel
theorem dX12_leaveRule_5 : decode cX12_leaveRule 5 = .ok (.ldc2_w 284, 3) := by decide +kernel
theorem dX12_leaveRule_8 : decode cX12_leaveRule 8 = .ok (.invokevirtual 191, 3) := by decide +kernel
theorem dX12_leaveRule_11 : decode cX12_leaveRule 11 = .ok (.ifCond .eq 33, 3) := by decide +kernel
theorem dX12_leaveRule_14 : decode cX12_leaveRule 14 = .ok (.aload_n 0, 1) := by decide +kernel
theorem dX12_leaveRule_15 : decode cX12_leaveRule 15 = .ok (.iload_n 2, 1) := by decide +kernel
theorem dX12_leaveRule_16 : decode cX12_leaveRule 16 = .ok (.i2l, 1) := by decide +kernel
theorem dX12_leaveRule_17 : decode cX12_leaveRule 17 = .ok (.lconst 0, 1) := by decide +kernel
theorem dX12_leaveRule_18 : decode cX12_leaveRule 18 = .ok (.ldc2_w 286, 3) := by decide +kernel
theorem dX12_leaveRule_21 : decode cX12_leaveRule 21 = .ok (.invokevirtual 191, 3) := by decide +kernel
theorem dX12_leaveRule_24 : decode cX12_leaveRule 24 = .ok (.ifCond .eq 20, 3) := by decide +kernel
theorem dX12_leaveRule_27 : decode cX12_leaveRule 27 = .ok (.aload_n 0, 1) := by decide +kernel
theorem dX12_leaveRule_28 : decode cX12_leaveRule 28 = .ok (.iload_n 3, 1) := by decide +kernel
theorem dX12_leaveRule_29 : decode cX12_leaveRule 29 = .ok (.i2l, 1) := by decide +kernel
theorem dX12_leaveRule_30 : decode cX12_leaveRule 30 = .ok (.lconst 1, 1) := by decide +kernel
theorem dX12_leaveRule_31 : decode cX12_leaveRule 31 = .ok (.ldc2_w 288, 3) := by decide +kernel
theorem dX12_leaveRule_34 : decode cX12_leaveRule 34 = .ok (.invokevirtual 191, 3) := by decide +kernel
theorem dX12_leaveRule_37 : decode cX12_leaveRule 37 = .ok (.ifCond .eq 7, 3) := by decide +kernel
theorem dX12_leaveRule_40 : decode cX12_leaveRule 40 = .ok (.iconst 0, 1) := by decide +kernel
theorem dX12_leaveRule_41 : decode cX12_leaveRule 41 = .ok (.goto 4, 3) := by decide +kernel
theorem dX12_leaveRule_44 : decode cX12_leaveRule 44 = .ok (.iconst 1, 1) := by decide +kernel
theorem dX12_leaveRule_45 : decode cX12_leaveRule 45 = .ok (.invokevirtual 227, 3) := by decide +kernel
theorem dX12_leaveRule_48 : decode cX12_leaveRule 48 = .ok (.ifCond .ne 18, 3) := by decide +kernel
theorem dX12_leaveRule_51 : decode cX12_leaveRule 51 = .ok (.aload_n 0, 1) := by decide +kernel
theorem dX12_leaveRule_52 : decode cX12_leaveRule 52 = .ok (.iload_n 1, 1) := by decide +kernel
theorem dX12_leaveRule_53 : decode cX12_leaveRule 53 = .ok (.putfield 290, 3) := by decide +kernel
theorem dX12_leaveRule_56 : decode cX12_leaveRule 56 = .ok (.aload_n 0, 1) := by decide +kernel
theorem dX12_leaveRule_57 : decode cX12_leaveRule 57 = .ok (.iload_n 2, 1) := by decide +kernel
theorem dX12_leaveRule_58 : decode cX12_leaveRule 58 = .ok (.putfield 293, 3) := by decide +kernel
theorem dX12_leaveRule_61 : decode cX12_leaveRule 61 = .ok (.aload_n 0, 1) := by decide +kernel
theorem dX12_leaveRule_62 : decode cX12_leaveRule 62 = .ok (.iload_n 3, 1) := by decide +kernel
theorem dX12_leaveRule_63 : decode cX12_leaveRule 63 = .ok (.putfield 296, 3) := by decide +kernel
theorem dX12_leaveRule_66 : decode cX12_leaveRule 66 = .ok (.return_, 1) := by decide +kernel
theorem dX12_works_0 : decode cX12_works 0 = .ok (.iconst 0, 1) := by decide +kernel
theorem dX12_works_1 : decode cX12_works 1 = .ok (.istore_n 3, 1) := by decide +kernel
theorem dX12_works_2 : decode cX12_works 2 = .ok (.iconst 0, 1) := by decide +kernel
theorem dX12_works_3 : decode cX12_works 3 = .ok (.istore 4, 2) := by decide +kernel
theorem dX12_works_5 : decode cX12_works 5 = .ok (.iload 4, 2) := by decide +kernel
theorem dX12_works_7 : decode cX12_works 7 = .ok (.aload_n 0, 1) := by decide +kernel
theorem dX12_works_8 : decode cX12_works 8 = .ok (.getfield 201, 3) := by decide +kernel
theorem dX12_works_11 : decode cX12_works 11 = .ok (.if_icmp .ge 53, 3) := by decide +kernel
theorem dX12_works_14 : decode cX12_works 14 = .ok (.iload_n 3, 1) := by decide +kernel
theorem dX12_works_15 : decode cX12_works 15 = .ok (.aload_n 0, 1) := by decide +kernel
theorem dX12_works_16 : decode cX12_works 16 = .ok (.getfield 7, 3) := by decide +kernel
theorem dX12_works_19 : decode cX12_works 19 = .ok (.iload 4, 2) := by decide +kernel
theorem dX12_works_21 : decode cX12_works 21 = .ok (.iaload, 1) := by decide +kernel
theorem dX12_works_22 : decode cX12_works 22 = .ok (.iload_n 1, 1) := by decide +kernel
theorem dX12_works_23 : decode cX12_works 23 = .ok (.if_icmp .ne 32, 3) := by decide +kernel
theorem dX12_works_26 : decode cX12_works 26 = .ok (.aload_n 0, 1) := by decide +kernel
theorem dX12_works_27 : decode cX12_works 27 = .ok (.iload_n 2, 1) := by decide +kernel
theorem dX12_works_28 : decode cX12_works 28 = .ok (.i2l, 1) := by decide +kernel
theorem dX12_works_29 : decode cX12_works 29 = .ok (.aload_n 0, 1) := by decide +kernel
theorem dX12_works_30 : decode cX12_works 30 = .ok (.getfield 16, 3) := by decide +kernel
theorem dX12_works_33 : decode cX12_works 33 = .ok (.iload 4, 2) := by decide +kernel
theorem dX12_works_35 : decode cX12_works 35 = .ok (.iaload, 1) := by decide +kernel
theorem dX12_works_36 : decode cX12_works 36 = .ok (.i2l, 1) := by decide +kernel
theorem dX12_works_37 : decode cX12_works 37 = .ok (.aload_n 0, 1) := by decide +kernel
theorem dX12_works_38 : decode cX12_works 38 = .ok (.getfield 19, 3) := by decide +kernel
theorem dX12_works_41 : decode cX12_works 41 = .ok (.iload 4, 2) := by decide +kernel
theorem dX12_works_43 : decode cX12_works 43 = .ok (.iaload, 1) := by decide +kernel
theorem dX12_works_44 : decode cX12_works 44 = .ok (.i2l, 1) := by decide +kernel
theorem dX12_works_45 : decode cX12_works 45 = .ok (.invokevirtual 191, 3) := by decide +kernel
theorem dX12_works_48 : decode cX12_works 48 = .ok (.ifCond .eq 7, 3) := by decide +kernel
theorem dX12_works_51 : decode cX12_works 51 = .ok (.iconst 1, 1) := by decide +kernel
theorem dX12_works_52 : decode cX12_works 52 = .ok (.goto 4, 3) := by decide +kernel
theorem dX12_works_55 : decode cX12_works 55 = .ok (.iconst 0, 1) := by decide +kernel
theorem dX12_works_56 : decode cX12_works 56 = .ok (.ior, 1) := by decide +kernel
theorem dX12_works_57 : decode cX12_works 57 = .ok (.istore_n 3, 1) := by decide +kernel
theorem dX12_works_58 : decode cX12_works 58 = .ok (.iinc 4 1, 3) := by decide +kernel
theorem dX12_works_61 : decode cX12_works 61 = .ok (.goto (-56), 3) := by decide +kernel
theorem dX12_works_64 : decode cX12_works 64 = .ok (.iload_n 3, 1) := by decide +kernel
theorem dX12_works_65 : decode cX12_works 65 = .ok (.ireturn, 1) := by decide +kernel
theorem dX12_takes_0 : decode cX12_takes 0 = .ok (.iconst 0, 1) := by decide +kernel
theorem dX12_takes_1 : decode cX12_takes 1 = .ok (.istore_n 3, 1) := by decide +kernel
theorem dX12_takes_2 : decode cX12_takes 2 = .ok (.iconst 0, 1) := by decide +kernel
theorem dX12_takes_3 : decode cX12_takes 3 = .ok (.istore 4, 2) := by decide +kernel
theorem dX12_takes_5 : decode cX12_takes 5 = .ok (.iconst 0, 1) := by decide +kernel
theorem dX12_takes_6 : decode cX12_takes 6 = .ok (.istore 5, 2) := by decide +kernel
theorem dX12_takes_8 : decode cX12_takes 8 = .ok (.iload 5, 2) := by decide +kernel
theorem dX12_takes_10 : decode cX12_takes 10 = .ok (.sipush 720, 3) := by decide +kernel
theorem dX12_takes_13 : decode cX12_takes 13 = .ok (.if_icmp .ge 243, 3) := by decide +kernel
theorem dX12_takes_16 : decode cX12_takes 16 = .ok (.iload_n 3, 1) := by decide +kernel
theorem dX12_takes_17 : decode cX12_takes 17 = .ok (.iload 5, 2) := by decide +kernel
theorem dX12_takes_19 : decode cX12_takes 19 = .ok (.bipush 30, 2) := by decide +kernel
theorem dX12_takes_21 : decode cX12_takes 21 = .ok (.irem, 1) := by decide +kernel
theorem dX12_takes_22 : decode cX12_takes 22 = .ok (.ifCond .ne 27, 3) := by decide +kernel
theorem dX12_takes_25 : decode cX12_takes 25 = .ok (.iload 5, 2) := by decide +kernel
theorem dX12_takes_27 : decode cX12_takes 27 = .ok (.ifCond .le 22, 3) := by decide +kernel
theorem dX12_takes_30 : decode cX12_takes 30 = .ok (.aload_n 0, 1) := by decide +kernel
theorem dX12_takes_31 : decode cX12_takes 31 = .ok (.iload_n 1, 1) := by decide +kernel
theorem dX12_takes_32 : decode cX12_takes 32 = .ok (.iload 5, 2) := by decide +kernel
theorem dX12_takes_34 : decode cX12_takes 34 = .ok (.iconst 1, 1) := by decide +kernel
theorem dX12_takes_35 : decode cX12_takes 35 = .ok (.isub, 1) := by decide +kernel
theorem dX12_takes_36 : decode cX12_takes 36 = .ok (.invokevirtual 299, 3) := by decide +kernel
theorem dX12_takes_39 : decode cX12_takes 39 = .ok (.ifCond .eq 10, 3) := by decide +kernel
theorem dX12_takes_42 : decode cX12_takes 42 = .ok (.aload_n 0, 1) := by decide +kernel
theorem dX12_takes_43 : decode cX12_takes 43 = .ok (.getfield 290, 3) := by decide +kernel
theorem dX12_takes_46 : decode cX12_takes 46 = .ok (.goto 4, 3) := by decide +kernel
theorem dX12_takes_49 : decode cX12_takes 49 = .ok (.iconst 0, 1) := by decide +kernel
theorem dX12_takes_50 : decode cX12_takes 50 = .ok (.iadd, 1) := by decide +kernel
theorem dX12_takes_51 : decode cX12_takes 51 = .ok (.istore_n 3, 1) := by decide +kernel
theorem dX12_takes_52 : decode cX12_takes 52 = .ok (.iload 5, 2) := by decide +kernel
theorem dX12_takes_54 : decode cX12_takes 54 = .ok (.sipush 360, 3) := by decide +kernel
theorem dX12_takes_57 : decode cX12_takes 57 = .ok (.if_icmp .ne 23, 3) := by decide +kernel
theorem dX12_takes_60 : decode cX12_takes 60 = .ok (.iload_n 3, 1) := by decide +kernel
theorem dX12_takes_61 : decode cX12_takes 61 = .ok (.aload_n 0, 1) := by decide +kernel
theorem dX12_takes_62 : decode cX12_takes 62 = .ok (.getfield 293, 3) := by decide +kernel
theorem dX12_takes_65 : decode cX12_takes 65 = .ok (.if_icmp .ge 7, 3) := by decide +kernel
theorem dX12_takes_68 : decode cX12_takes 68 = .ok (.iload_n 3, 1) := by decide +kernel
theorem dX12_takes_69 : decode cX12_takes 69 = .ok (.goto 7, 3) := by decide +kernel
theorem dX12_takes_72 : decode cX12_takes 72 = .ok (.aload_n 0, 1) := by decide +kernel
theorem dX12_takes_73 : decode cX12_takes 73 = .ok (.getfield 293, 3) := by decide +kernel
theorem dX12_takes_76 : decode cX12_takes 76 = .ok (.istore 4, 2) := by decide +kernel
theorem dX12_takes_78 : decode cX12_takes 78 = .ok (.iconst 0, 1) := by decide +kernel
theorem dX12_takes_79 : decode cX12_takes 79 = .ok (.istore_n 3, 1) := by decide +kernel
theorem dX12_takes_80 : decode cX12_takes 80 = .ok (.iload 5, 2) := by decide +kernel
theorem dX12_takes_82 : decode cX12_takes 82 = .ok (.bipush 30, 2) := by decide +kernel
theorem dX12_takes_84 : decode cX12_takes 84 = .ok (.bipush 12, 2) := by decide +kernel
theorem dX12_takes_86 : decode cX12_takes 86 = .ok (.aload_n 0, 1) := by decide +kernel
theorem dX12_takes_87 : decode cX12_takes 87 = .ok (.getfield 296, 3) := by decide +kernel
theorem dX12_takes_90 : decode cX12_takes 90 = .ok (.iadd, 1) := by decide +kernel
theorem dX12_takes_91 : decode cX12_takes 91 = .ok (.imul, 1) := by decide +kernel
theorem dX12_takes_92 : decode cX12_takes 92 = .ok (.if_icmp .ne 7, 3) := by decide +kernel
theorem dX12_takes_95 : decode cX12_takes 95 = .ok (.iconst 0, 1) := by decide +kernel
theorem dX12_takes_96 : decode cX12_takes 96 = .ok (.goto 5, 3) := by decide +kernel
theorem dX12_takes_99 : decode cX12_takes 99 = .ok (.iload 4, 2) := by decide +kernel
theorem dX12_takes_101 : decode cX12_takes 101 = .ok (.istore 4, 2) := by decide +kernel
theorem dX12_takes_103 : decode cX12_takes 103 = .ok (.aload_n 0, 1) := by decide +kernel
theorem dX12_takes_104 : decode cX12_takes 104 = .ok (.iload 5, 2) := by decide +kernel
theorem dX12_takes_106 : decode cX12_takes 106 = .ok (.iload_n 2, 1) := by decide +kernel
theorem dX12_takes_107 : decode cX12_takes 107 = .ok (.if_icmp .ne 10, 3) := by decide +kernel
theorem dX12_takes_110 : decode cX12_takes 110 = .ok (.iload_n 3, 1) := by decide +kernel
theorem dX12_takes_111 : decode cX12_takes 111 = .ok (.iload 4, 2) := by decide +kernel
theorem dX12_takes_113 : decode cX12_takes 113 = .ok (.iadd, 1) := by decide +kernel
theorem dX12_takes_114 : decode cX12_takes 114 = .ok (.goto 7, 3) := by decide +kernel
theorem dX12_takes_117 : decode cX12_takes 117 = .ok (.aload_n 0, 1) := by decide +kernel
theorem dX12_takes_118 : decode cX12_takes 118 = .ok (.getfield 302, 3) := by decide +kernel
theorem dX12_takes_121 : decode cX12_takes 121 = .ok (.putfield 302, 3) := by decide +kernel
theorem dX12_takes_124 : decode cX12_takes 124 = .ok (.iconst 0, 1) := by decide +kernel
theorem dX12_takes_125 : decode cX12_takes 125 = .ok (.istore 6, 2) := by decide +kernel
theorem dX12_takes_127 : decode cX12_takes 127 = .ok (.iload 6, 2) := by decide +kernel
theorem dX12_takes_129 : decode cX12_takes 129 = .ok (.aload_n 0, 1) := by decide +kernel
theorem dX12_takes_130 : decode cX12_takes 130 = .ok (.getfield 269, 3) := by decide +kernel
theorem dX12_takes_133 : decode cX12_takes 133 = .ok (.if_icmp .ge 117, 3) := by decide +kernel
theorem dX12_takes_136 : decode cX12_takes 136 = .ok (.aload_n 0, 1) := by decide +kernel
theorem dX12_takes_137 : decode cX12_takes 137 = .ok (.getfield 49, 3) := by decide +kernel
theorem dX12_takes_140 : decode cX12_takes 140 = .ok (.iload 6, 2) := by decide +kernel
theorem dX12_takes_142 : decode cX12_takes 142 = .ok (.iaload, 1) := by decide +kernel
theorem dX12_takes_143 : decode cX12_takes 143 = .ok (.iload 5, 2) := by decide +kernel
theorem dX12_takes_145 : decode cX12_takes 145 = .ok (.if_icmp .ne 99, 3) := by decide +kernel
theorem dX12_takes_148 : decode cX12_takes 148 = .ok (.aload_n 0, 1) := by decide +kernel
theorem dX12_takes_149 : decode cX12_takes 149 = .ok (.getfield 7, 3) := by decide +kernel
theorem dX12_takes_152 : decode cX12_takes 152 = .ok (.aload_n 0, 1) := by decide +kernel
theorem dX12_takes_153 : decode cX12_takes 153 = .ok (.getfield 46, 3) := by decide +kernel
theorem dX12_takes_156 : decode cX12_takes 156 = .ok (.iload 6, 2) := by decide +kernel
theorem dX12_takes_158 : decode cX12_takes 158 = .ok (.iaload, 1) := by decide +kernel
theorem dX12_takes_159 : decode cX12_takes 159 = .ok (.iaload, 1) := by decide +kernel
theorem dX12_takes_160 : decode cX12_takes 160 = .ok (.iload_n 1, 1) := by decide +kernel
theorem dX12_takes_161 : decode cX12_takes 161 = .ok (.if_icmp .ne 83, 3) := by decide +kernel
theorem dX12_takes_164 : decode cX12_takes 164 = .ok (.aload_n 0, 1) := by decide +kernel
theorem dX12_takes_165 : decode cX12_takes 165 = .ok (.getfield 52, 3) := by decide +kernel
theorem dX12_takes_168 : decode cX12_takes 168 = .ok (.iload 6, 2) := by decide +kernel
theorem dX12_takes_170 : decode cX12_takes 170 = .ok (.iload_n 3, 1) := by decide +kernel
theorem dX12_takes_171 : decode cX12_takes 171 = .ok (.iload 4, 2) := by decide +kernel
theorem dX12_takes_173 : decode cX12_takes 173 = .ok (.iadd, 1) := by decide +kernel
theorem dX12_takes_174 : decode cX12_takes 174 = .ok (.bipush 10, 2) := by decide +kernel
theorem dX12_takes_176 : decode cX12_takes 176 = .ok (.if_icmp .lt 7, 3) := by decide +kernel
theorem dX12_takes_179 : decode cX12_takes 179 = .ok (.iconst 1, 1) := by decide +kernel
theorem dX12_takes_180 : decode cX12_takes 180 = .ok (.goto 4, 3) := by decide +kernel
theorem dX12_takes_183 : decode cX12_takes 183 = .ok (.iconst 0, 1) := by decide +kernel
theorem dX12_takes_184 : decode cX12_takes 184 = .ok (.iastore, 1) := by decide +kernel
theorem dX12_takes_185 : decode cX12_takes 185 = .ok (.aload_n 0, 1) := by decide +kernel
theorem dX12_takes_186 : decode cX12_takes 186 = .ok (.getfield 52, 3) := by decide +kernel
theorem dX12_takes_189 : decode cX12_takes 189 = .ok (.iload 6, 2) := by decide +kernel
theorem dX12_takes_191 : decode cX12_takes 191 = .ok (.iaload, 1) := by decide +kernel
theorem dX12_takes_192 : decode cX12_takes 192 = .ok (.ifCond .ne 7, 3) := by decide +kernel
theorem dX12_takes_195 : decode cX12_takes 195 = .ok (.iconst 0, 1) := by decide +kernel
theorem dX12_takes_196 : decode cX12_takes 196 = .ok (.goto 17, 3) := by decide +kernel
theorem dX12_takes_199 : decode cX12_takes 199 = .ok (.iload 4, 2) := by decide +kernel
theorem dX12_takes_201 : decode cX12_takes 201 = .ok (.bipush 10, 2) := by decide +kernel
theorem dX12_takes_203 : decode cX12_takes 203 = .ok (.if_icmp .ge 8, 3) := by decide +kernel
theorem dX12_takes_206 : decode cX12_takes 206 = .ok (.iload 4, 2) := by decide +kernel
theorem dX12_takes_208 : decode cX12_takes 208 = .ok (.goto 5, 3) := by decide +kernel
theorem dX12_takes_211 : decode cX12_takes 211 = .ok (.bipush 10, 2) := by decide +kernel
theorem dX12_takes_213 : decode cX12_takes 213 = .ok (.istore 7, 2) := by decide +kernel
theorem dX12_takes_215 : decode cX12_takes 215 = .ok (.iload 4, 2) := by decide +kernel
theorem dX12_takes_217 : decode cX12_takes 217 = .ok (.iload 7, 2) := by decide +kernel
theorem dX12_takes_219 : decode cX12_takes 219 = .ok (.isub, 1) := by decide +kernel
theorem dX12_takes_220 : decode cX12_takes 220 = .ok (.istore 4, 2) := by decide +kernel
theorem dX12_takes_222 : decode cX12_takes 222 = .ok (.iload_n 3, 1) := by decide +kernel
theorem dX12_takes_223 : decode cX12_takes 223 = .ok (.aload_n 0, 1) := by decide +kernel
theorem dX12_takes_224 : decode cX12_takes 224 = .ok (.getfield 52, 3) := by decide +kernel
theorem dX12_takes_227 : decode cX12_takes 227 = .ok (.iload 6, 2) := by decide +kernel
theorem dX12_takes_229 : decode cX12_takes 229 = .ok (.iaload, 1) := by decide +kernel
theorem dX12_takes_230 : decode cX12_takes 230 = .ok (.ifCond .ne 7, 3) := by decide +kernel
theorem dX12_takes_233 : decode cX12_takes 233 = .ok (.iconst 0, 1) := by decide +kernel
theorem dX12_takes_234 : decode cX12_takes 234 = .ok (.goto 8, 3) := by decide +kernel
theorem dX12_takes_237 : decode cX12_takes 237 = .ok (.bipush 10, 2) := by decide +kernel
theorem dX12_takes_239 : decode cX12_takes 239 = .ok (.iload 7, 2) := by decide +kernel
theorem dX12_takes_241 : decode cX12_takes 241 = .ok (.isub, 1) := by decide +kernel
theorem dX12_takes_242 : decode cX12_takes 242 = .ok (.isub, 1) := by decide +kernel
theorem dX12_takes_243 : decode cX12_takes 243 = .ok (.istore_n 3, 1) := by decide +kernel
theorem dX12_takes_244 : decode cX12_takes 244 = .ok (.iinc 6 1, 3) := by decide +kernel
theorem dX12_takes_247 : decode cX12_takes 247 = .ok (.goto (-120), 3) := by decide +kernel
theorem dX12_takes_250 : decode cX12_takes 250 = .ok (.iinc 5 1, 3) := by decide +kernel
theorem dX12_takes_253 : decode cX12_takes 253 = .ok (.goto (-245), 3) := by decide +kernel
theorem dX12_takes_256 : decode cX12_takes 256 = .ok (.return_, 1) := by decide +kernel
theorem dX12_leave_0 : decode cX12_leave 0 = .ok (.aload_n 0, 1) := by decide +kernel
theorem dX12_leave_1 : decode cX12_leave 1 = .ok (.aload_n 0, 1) := by decide +kernel
theorem dX12_leave_2 : decode cX12_leave 2 = .ok (.iload_n 1, 1) := by decide +kernel
theorem dX12_leave_3 : decode cX12_leave 3 = .ok (.iload_n 2, 1) := by decide +kernel
theorem dX12_leave_4 : decode cX12_leave 4 = .ok (.invokevirtual 245, 3) := by decide +kernel
theorem dX12_leave_7 : decode cX12_leave 7 = .ok (.ifCond .ne 7, 3) := by decide +kernel
theorem dX12_leave_10 : decode cX12_leave 10 = .ok (.iconst 1, 1) := by decide +kernel
theorem dX12_leave_11 : decode cX12_leave 11 = .ok (.goto 17, 3) := by decide +kernel
theorem dX12_leave_14 : decode cX12_leave 14 = .ok (.aload_n 0, 1) := by decide +kernel
theorem dX12_leave_15 : decode cX12_leave 15 = .ok (.getfield 269, 3) := by decide +kernel
theorem dX12_leave_18 : decode cX12_leave 18 = .ok (.bipush 30, 2) := by decide +kernel
theorem dX12_leave_20 : decode cX12_leave 20 = .ok (.if_icmp .ne 7, 3) := by decide +kernel
theorem dX12_leave_23 : decode cX12_leave 23 = .ok (.iconst 2, 1) := by decide +kernel
theorem dX12_leave_24 : decode cX12_leave 24 = .ok (.goto 4, 3) := by decide +kernel
theorem dX12_leave_27 : decode cX12_leave 27 = .ok (.iconst 0, 1) := by decide +kernel
theorem dX12_leave_28 : decode cX12_leave 28 = .ok (.invokevirtual 227, 3) := by decide +kernel
theorem dX12_leave_31 : decode cX12_leave 31 = .ok (.ifCond .eq 5, 3) := by decide +kernel
theorem dX12_leave_34 : decode cX12_leave 34 = .ok (.iconst 0, 1) := by decide +kernel
theorem dX12_leave_35 : decode cX12_leave 35 = .ok (.ireturn, 1) := by decide +kernel
theorem dX12_leave_36 : decode cX12_leave 36 = .ok (.aload_n 0, 1) := by decide +kernel
theorem dX12_leave_37 : decode cX12_leave 37 = .ok (.getfield 46, 3) := by decide +kernel
theorem dX12_leave_40 : decode cX12_leave 40 = .ok (.aload_n 0, 1) := by decide +kernel
theorem dX12_leave_41 : decode cX12_leave 41 = .ok (.getfield 269, 3) := by decide +kernel
theorem dX12_leave_44 : decode cX12_leave 44 = .ok (.iload_n 1, 1) := by decide +kernel
theorem dX12_leave_45 : decode cX12_leave 45 = .ok (.iastore, 1) := by decide +kernel
theorem dX12_leave_46 : decode cX12_leave 46 = .ok (.aload_n 0, 1) := by decide +kernel
theorem dX12_leave_47 : decode cX12_leave 47 = .ok (.getfield 49, 3) := by decide +kernel
theorem dX12_leave_50 : decode cX12_leave 50 = .ok (.aload_n 0, 1) := by decide +kernel
theorem dX12_leave_51 : decode cX12_leave 51 = .ok (.getfield 269, 3) := by decide +kernel
theorem dX12_leave_54 : decode cX12_leave 54 = .ok (.iload_n 2, 1) := by decide +kernel
theorem dX12_leave_55 : decode cX12_leave 55 = .ok (.iastore, 1) := by decide +kernel
theorem dX12_leave_56 : decode cX12_leave 56 = .ok (.aload_n 0, 1) := by decide +kernel
theorem dX12_leave_57 : decode cX12_leave 57 = .ok (.dup, 1) := by decide +kernel
theorem dX12_leave_58 : decode cX12_leave 58 = .ok (.getfield 269, 3) := by decide +kernel
theorem dX12_leave_61 : decode cX12_leave 61 = .ok (.iconst 1, 1) := by decide +kernel
theorem dX12_leave_62 : decode cX12_leave 62 = .ok (.iadd, 1) := by decide +kernel
theorem dX12_leave_63 : decode cX12_leave 63 = .ok (.putfield 269, 3) := by decide +kernel
theorem dX12_leave_66 : decode cX12_leave 66 = .ok (.aload_n 0, 1) := by decide +kernel
theorem dX12_leave_67 : decode cX12_leave 67 = .ok (.aload_n 0, 1) := by decide +kernel
theorem dX12_leave_68 : decode cX12_leave 68 = .ok (.getfield 7, 3) := by decide +kernel
theorem dX12_leave_71 : decode cX12_leave 71 = .ok (.iload_n 1, 1) := by decide +kernel
theorem dX12_leave_72 : decode cX12_leave 72 = .ok (.iaload, 1) := by decide +kernel
theorem dX12_leave_73 : decode cX12_leave 73 = .ok (.sipush 720, 3) := by decide +kernel
theorem dX12_leave_76 : decode cX12_leave 76 = .ok (.invokevirtual 277, 3) := by decide +kernel
theorem dX12_leave_79 : decode cX12_leave 79 = .ok (.aload_n 0, 1) := by decide +kernel
theorem dX12_leave_80 : decode cX12_leave 80 = .ok (.getfield 52, 3) := by decide +kernel
theorem dX12_leave_83 : decode cX12_leave 83 = .ok (.aload_n 0, 1) := by decide +kernel
theorem dX12_leave_84 : decode cX12_leave 84 = .ok (.getfield 269, 3) := by decide +kernel
theorem dX12_leave_87 : decode cX12_leave 87 = .ok (.iconst 1, 1) := by decide +kernel
theorem dX12_leave_88 : decode cX12_leave 88 = .ok (.isub, 1) := by decide +kernel
theorem dX12_leave_89 : decode cX12_leave 89 = .ok (.iaload, 1) := by decide +kernel
theorem dX12_leave_90 : decode cX12_leave 90 = .ok (.iconst 1, 1) := by decide +kernel
theorem dX12_leave_91 : decode cX12_leave 91 = .ok (.if_icmp .ne 7, 3) := by decide +kernel
theorem dX12_leave_94 : decode cX12_leave 94 = .ok (.iconst 1, 1) := by decide +kernel
theorem dX12_leave_95 : decode cX12_leave 95 = .ok (.goto 4, 3) := by decide +kernel
theorem dX12_leave_98 : decode cX12_leave 98 = .ok (.iconst 0, 1) := by decide +kernel
theorem dX12_leave_99 : decode cX12_leave 99 = .ok (.ireturn, 1) := by decide +kernel
theorem dX12_leaveLeft_0 : decode cX12_leaveLeft 0 = .ok (.aload_n 0, 1) := by decide +kernel
theorem dX12_leaveLeft_1 : decode cX12_leaveLeft 1 = .ok (.aload_n 0, 1) := by decide +kernel
theorem dX12_leaveLeft_2 : decode cX12_leaveLeft 2 = .ok (.iload_n 1, 1) := by decide +kernel
theorem dX12_leaveLeft_3 : decode cX12_leaveLeft 3 = .ok (.invokevirtual 212, 3) := by decide +kernel
theorem dX12_leaveLeft_6 : decode cX12_leaveLeft 6 = .ok (.ifCond .eq 15, 3) := by decide +kernel
theorem dX12_leaveLeft_9 : decode cX12_leaveLeft 9 = .ok (.aload_n 0, 1) := by decide +kernel
theorem dX12_leaveLeft_10 : decode cX12_leaveLeft 10 = .ok (.iload_n 2, 1) := by decide +kernel
theorem dX12_leaveLeft_11 : decode cX12_leaveLeft 11 = .ok (.invokevirtual 218, 3) := by decide +kernel
theorem dX12_leaveLeft_14 : decode cX12_leaveLeft 14 = .ok (.ifCond .eq 7, 3) := by decide +kernel
theorem dX12_leaveLeft_17 : decode cX12_leaveLeft 17 = .ok (.iconst 0, 1) := by decide +kernel
theorem dX12_leaveLeft_18 : decode cX12_leaveLeft 18 = .ok (.goto 4, 3) := by decide +kernel
theorem dX12_leaveLeft_21 : decode cX12_leaveLeft 21 = .ok (.iconst 1, 1) := by decide +kernel
theorem dX12_leaveLeft_22 : decode cX12_leaveLeft 22 = .ok (.invokevirtual 227, 3) := by decide +kernel
theorem dX12_leaveLeft_25 : decode cX12_leaveLeft 25 = .ok (.ifCond .eq 5, 3) := by decide +kernel
theorem dX12_leaveLeft_28 : decode cX12_leaveLeft 28 = .ok (.iconst (-1), 1) := by decide +kernel
theorem dX12_leaveLeft_29 : decode cX12_leaveLeft 29 = .ok (.ireturn, 1) := by decide +kernel
theorem dX12_leaveLeft_30 : decode cX12_leaveLeft 30 = .ok (.aload_n 0, 1) := by decide +kernel
theorem dX12_leaveLeft_31 : decode cX12_leaveLeft 31 = .ok (.iload_n 1, 1) := by decide +kernel
theorem dX12_leaveLeft_32 : decode cX12_leaveLeft 32 = .ok (.iload_n 2, 1) := by decide +kernel
theorem dX12_leaveLeft_33 : decode cX12_leaveLeft 33 = .ok (.invokevirtual 277, 3) := by decide +kernel
theorem dX12_leaveLeft_36 : decode cX12_leaveLeft 36 = .ok (.aload_n 0, 1) := by decide +kernel
theorem dX12_leaveLeft_37 : decode cX12_leaveLeft 37 = .ok (.getfield 302, 3) := by decide +kernel
theorem dX12_leaveLeft_40 : decode cX12_leaveLeft 40 = .ok (.ireturn, 1) := by decide +kernel
theorem dX12_depth_0 : decode cX12_depth 0 = .ok (.iconst 0, 1) := by decide +kernel
theorem dX12_depth_1 : decode cX12_depth 1 = .ok (.istore_n 2, 1) := by decide +kernel
theorem dX12_depth_2 : decode cX12_depth 2 = .ok (.iconst 0, 1) := by decide +kernel
theorem dX12_depth_3 : decode cX12_depth 3 = .ok (.istore_n 3, 1) := by decide +kernel
theorem dX12_depth_4 : decode cX12_depth 4 = .ok (.iload_n 3, 1) := by decide +kernel
theorem dX12_depth_5 : decode cX12_depth 5 = .ok (.aload_n 0, 1) := by decide +kernel
theorem dX12_depth_6 : decode cX12_depth 6 = .ok (.getfield 61, 3) := by decide +kernel
theorem dX12_depth_9 : decode cX12_depth 9 = .ok (.iload_n 1, 1) := by decide +kernel
theorem dX12_depth_10 : decode cX12_depth 10 = .ok (.iaload, 1) := by decide +kernel
theorem dX12_depth_11 : decode cX12_depth 11 = .ok (.if_icmp .ge 32, 3) := by decide +kernel
theorem dX12_depth_14 : decode cX12_depth 14 = .ok (.iload_n 2, 1) := by decide +kernel
theorem dX12_depth_15 : decode cX12_depth 15 = .ok (.aload_n 0, 1) := by decide +kernel
theorem dX12_depth_16 : decode cX12_depth 16 = .ok (.getfield 55, 3) := by decide +kernel
theorem dX12_depth_19 : decode cX12_depth 19 = .ok (.bipush 10, 2) := by decide +kernel
theorem dX12_depth_21 : decode cX12_depth 21 = .ok (.iload_n 1, 1) := by decide +kernel
theorem dX12_depth_22 : decode cX12_depth 22 = .ok (.imul, 1) := by decide +kernel
theorem dX12_depth_23 : decode cX12_depth 23 = .ok (.iload_n 3, 1) := by decide +kernel
theorem dX12_depth_24 : decode cX12_depth 24 = .ok (.iadd, 1) := by decide +kernel
theorem dX12_depth_25 : decode cX12_depth 25 = .ok (.iaload, 1) := by decide +kernel
theorem dX12_depth_26 : decode cX12_depth 26 = .ok (.iconst 4, 1) := by decide +kernel
theorem dX12_depth_27 : decode cX12_depth 27 = .ok (.if_icmp .ge 7, 3) := by decide +kernel
theorem dX12_depth_30 : decode cX12_depth 30 = .ok (.iconst 1, 1) := by decide +kernel
theorem dX12_depth_31 : decode cX12_depth 31 = .ok (.goto 4, 3) := by decide +kernel
theorem dX12_depth_34 : decode cX12_depth 34 = .ok (.iconst (-1), 1) := by decide +kernel
theorem dX12_depth_35 : decode cX12_depth 35 = .ok (.iadd, 1) := by decide +kernel
theorem dX12_depth_36 : decode cX12_depth 36 = .ok (.istore_n 2, 1) := by decide +kernel
theorem dX12_depth_37 : decode cX12_depth 37 = .ok (.iinc 3 1, 3) := by decide +kernel
theorem dX12_depth_40 : decode cX12_depth 40 = .ok (.goto (-36), 3) := by decide +kernel
theorem dX12_depth_43 : decode cX12_depth 43 = .ok (.iload_n 2, 1) := by decide +kernel
theorem dX12_depth_44 : decode cX12_depth 44 = .ok (.ireturn, 1) := by decide +kernel
theorem dX12_word_0 : decode cX12_word 0 = .ok (.aload_n 0, 1) := by decide +kernel
theorem dX12_word_1 : decode cX12_word 1 = .ok (.iload_n 1, 1) := by decide +kernel
theorem dX12_word_2 : decode cX12_word 2 = .ok (.i2l, 1) := by decide +kernel
theorem dX12_word_3 : decode cX12_word 3 = .ok (.lconst 0, 1) := by decide +kernel
theorem dX12_word_4 : decode cX12_word 4 = .ok (.ldc2_w 305, 3) := by decide +kernel
theorem dX12_word_7 : decode cX12_word 7 = .ok (.invokevirtual 191, 3) := by decide +kernel
theorem dX12_word_10 : decode cX12_word 10 = .ok (.ifCond .eq 45, 3) := by decide +kernel
theorem dX12_word_13 : decode cX12_word 13 = .ok (.iload_n 1, 1) := by decide +kernel
theorem dX12_word_14 : decode cX12_word 14 = .ok (.iconst 2, 1) := by decide +kernel
theorem dX12_word_15 : decode cX12_word 15 = .ok (.if_icmp .ne 16, 3) := by decide +kernel
theorem dX12_word_18 : decode cX12_word 18 = .ok (.aload_n 0, 1) := by decide +kernel
theorem dX12_word_19 : decode cX12_word 19 = .ok (.iload_n 2, 1) := by decide +kernel
theorem dX12_word_20 : decode cX12_word 20 = .ok (.i2l, 1) := by decide +kernel
theorem dX12_word_21 : decode cX12_word 21 = .ok (.lconst 0, 1) := by decide +kernel
theorem dX12_word_22 : decode cX12_word 22 = .ok (.ldc2_w 189, 3) := by decide +kernel
theorem dX12_word_25 : decode cX12_word 25 = .ok (.invokevirtual 191, 3) := by decide +kernel
theorem dX12_word_28 : decode cX12_word 28 = .ok (.ifCond .eq 27, 3) := by decide +kernel
theorem dX12_word_31 : decode cX12_word 31 = .ok (.iload_n 1, 1) := by decide +kernel
theorem dX12_word_32 : decode cX12_word 32 = .ok (.iconst 3, 1) := by decide +kernel
theorem dX12_word_33 : decode cX12_word 33 = .ok (.if_icmp .ne 18, 3) := by decide +kernel
theorem dX12_word_36 : decode cX12_word 36 = .ok (.aload_n 0, 1) := by decide +kernel
theorem dX12_word_37 : decode cX12_word 37 = .ok (.iload_n 2, 1) := by decide +kernel
theorem dX12_word_38 : decode cX12_word 38 = .ok (.i2l, 1) := by decide +kernel
theorem dX12_word_39 : decode cX12_word 39 = .ok (.ldc2_w 307, 3) := by decide +kernel
theorem dX12_word_42 : decode cX12_word 42 = .ok (.ldc2_w 225, 3) := by decide +kernel
theorem dX12_word_45 : decode cX12_word 45 = .ok (.invokevirtual 191, 3) := by decide +kernel
theorem dX12_word_48 : decode cX12_word 48 = .ok (.ifCond .eq 7, 3) := by decide +kernel
theorem dX12_word_51 : decode cX12_word 51 = .ok (.iconst 1, 1) := by decide +kernel
theorem dX12_word_52 : decode cX12_word 52 = .ok (.goto 4, 3) := by decide +kernel
theorem dX12_word_55 : decode cX12_word 55 = .ok (.iconst 0, 1) := by decide +kernel
theorem dX12_word_56 : decode cX12_word 56 = .ok (.istore_n 3, 1) := by decide +kernel
theorem dX12_word_57 : decode cX12_word 57 = .ok (.aload_n 0, 1) := by decide +kernel
theorem dX12_word_58 : decode cX12_word 58 = .ok (.iload_n 3, 1) := by decide +kernel
theorem dX12_word_59 : decode cX12_word 59 = .ok (.ifCond .ne 7, 3) := by decide +kernel
theorem dX12_word_62 : decode cX12_word 62 = .ok (.iconst 1, 1) := by decide +kernel
theorem dX12_word_63 : decode cX12_word 63 = .ok (.goto 35, 3) := by decide +kernel
theorem dX12_word_66 : decode cX12_word 66 = .ok (.aload_n 0, 1) := by decide +kernel
theorem dX12_word_67 : decode cX12_word 67 = .ok (.getfield 61, 3) := by decide +kernel
theorem dX12_word_70 : decode cX12_word 70 = .ok (.bipush 6, 2) := by decide +kernel
theorem dX12_word_72 : decode cX12_word 72 = .ok (.iaload, 1) := by decide +kernel
theorem dX12_word_73 : decode cX12_word 73 = .ok (.bipush 10, 2) := by decide +kernel
theorem dX12_word_75 : decode cX12_word 75 = .ok (.if_icmp .eq 18, 3) := by decide +kernel
theorem dX12_word_78 : decode cX12_word 78 = .ok (.iload_n 1, 1) := by decide +kernel
theorem dX12_word_79 : decode cX12_word 79 = .ok (.iconst 3, 1) := by decide +kernel
theorem dX12_word_80 : decode cX12_word 80 = .ok (.if_icmp .le 17, 3) := by decide +kernel
theorem dX12_word_83 : decode cX12_word 83 = .ok (.aload_n 0, 1) := by decide +kernel
theorem dX12_word_84 : decode cX12_word 84 = .ok (.bipush 6, 2) := by decide +kernel
theorem dX12_word_86 : decode cX12_word 86 = .ok (.invokevirtual 309, 3) := by decide +kernel
theorem dX12_word_89 : decode cX12_word 89 = .ok (.iconst 2, 1) := by decide +kernel
theorem dX12_word_90 : decode cX12_word 90 = .ok (.if_icmp .ge 7, 3) := by decide +kernel
theorem dX12_word_93 : decode cX12_word 93 = .ok (.iconst 2, 1) := by decide +kernel
theorem dX12_word_94 : decode cX12_word 94 = .ok (.goto 4, 3) := by decide +kernel
theorem dX12_word_97 : decode cX12_word 97 = .ok (.iconst 0, 1) := by decide +kernel
theorem dX12_word_98 : decode cX12_word 98 = .ok (.invokevirtual 227, 3) := by decide +kernel
theorem dX12_word_101 : decode cX12_word 101 = .ok (.ifCond .eq 5, 3) := by decide +kernel
theorem dX12_word_104 : decode cX12_word 104 = .ok (.iconst (-1), 1) := by decide +kernel
theorem dX12_word_105 : decode cX12_word 105 = .ok (.ireturn, 1) := by decide +kernel
theorem dX12_word_106 : decode cX12_word 106 = .ok (.aload_n 0, 1) := by decide +kernel
theorem dX12_word_107 : decode cX12_word 107 = .ok (.getfield 55, 3) := by decide +kernel
theorem dX12_word_110 : decode cX12_word 110 = .ok (.bipush 60, 2) := by decide +kernel
theorem dX12_word_112 : decode cX12_word 112 = .ok (.aload_n 0, 1) := by decide +kernel
theorem dX12_word_113 : decode cX12_word 113 = .ok (.getfield 61, 3) := by decide +kernel
theorem dX12_word_116 : decode cX12_word 116 = .ok (.bipush 6, 2) := by decide +kernel
theorem dX12_word_118 : decode cX12_word 118 = .ok (.iaload, 1) := by decide +kernel
theorem dX12_word_119 : decode cX12_word 119 = .ok (.iadd, 1) := by decide +kernel
theorem dX12_word_120 : decode cX12_word 120 = .ok (.iload_n 1, 1) := by decide +kernel
theorem dX12_word_121 : decode cX12_word 121 = .ok (.iastore, 1) := by decide +kernel
theorem dX12_word_122 : decode cX12_word 122 = .ok (.aload_n 0, 1) := by decide +kernel
theorem dX12_word_123 : decode cX12_word 123 = .ok (.getfield 58, 3) := by decide +kernel
theorem dX12_word_126 : decode cX12_word 126 = .ok (.bipush 60, 2) := by decide +kernel
theorem dX12_word_128 : decode cX12_word 128 = .ok (.aload_n 0, 1) := by decide +kernel
theorem dX12_word_129 : decode cX12_word 129 = .ok (.getfield 61, 3) := by decide +kernel
theorem dX12_word_132 : decode cX12_word 132 = .ok (.bipush 6, 2) := by decide +kernel
theorem dX12_word_134 : decode cX12_word 134 = .ok (.iaload, 1) := by decide +kernel
theorem dX12_word_135 : decode cX12_word 135 = .ok (.iadd, 1) := by decide +kernel
theorem dX12_word_136 : decode cX12_word 136 = .ok (.iload_n 2, 1) := by decide +kernel
theorem dX12_word_137 : decode cX12_word 137 = .ok (.iastore, 1) := by decide +kernel
theorem dX12_word_138 : decode cX12_word 138 = .ok (.aload_n 0, 1) := by decide +kernel
theorem dX12_word_139 : decode cX12_word 139 = .ok (.getfield 61, 3) := by decide +kernel
theorem dX12_word_142 : decode cX12_word 142 = .ok (.bipush 6, 2) := by decide +kernel
theorem dX12_word_144 : decode cX12_word 144 = .ok (.dup2, 1) := by decide +kernel
theorem dX12_word_145 : decode cX12_word 145 = .ok (.iaload, 1) := by decide +kernel
theorem dX12_word_146 : decode cX12_word 146 = .ok (.iconst 1, 1) := by decide +kernel
theorem dX12_word_147 : decode cX12_word 147 = .ok (.iadd, 1) := by decide +kernel
theorem dX12_word_148 : decode cX12_word 148 = .ok (.iastore, 1) := by decide +kernel
theorem dX12_word_149 : decode cX12_word 149 = .ok (.aload_n 0, 1) := by decide +kernel
theorem dX12_word_150 : decode cX12_word 150 = .ok (.getfield 61, 3) := by decide +kernel
theorem dX12_word_153 : decode cX12_word 153 = .ok (.bipush 6, 2) := by decide +kernel
theorem dX12_word_155 : decode cX12_word 155 = .ok (.iaload, 1) := by decide +kernel
theorem dX12_word_156 : decode cX12_word 156 = .ok (.ireturn, 1) := by decide +kernel
theorem dX12_needs_0 : decode cX12_needs 0 = .ok (.iconst 0, 1) := by decide +kernel
theorem dX12_needs_1 : decode cX12_needs 1 = .ok (.istore_n 2, 1) := by decide +kernel
theorem dX12_needs_2 : decode cX12_needs 2 = .ok (.iconst 0, 1) := by decide +kernel
theorem dX12_needs_3 : decode cX12_needs 3 = .ok (.istore_n 3, 1) := by decide +kernel
theorem dX12_needs_4 : decode cX12_needs 4 = .ok (.iload_n 3, 1) := by decide +kernel
theorem dX12_needs_5 : decode cX12_needs 5 = .ok (.aload_n 0, 1) := by decide +kernel
theorem dX12_needs_6 : decode cX12_needs 6 = .ok (.getfield 61, 3) := by decide +kernel
theorem dX12_needs_9 : decode cX12_needs 9 = .ok (.iload_n 1, 1) := by decide +kernel
theorem dX12_needs_10 : decode cX12_needs 10 = .ok (.iaload, 1) := by decide +kernel
theorem dX12_needs_11 : decode cX12_needs 11 = .ok (.if_icmp .ge 44, 3) := by decide +kernel
theorem dX12_needs_14 : decode cX12_needs 14 = .ok (.iload_n 2, 1) := by decide +kernel
theorem dX12_needs_15 : decode cX12_needs 15 = .ok (.aload_n 0, 1) := by decide +kernel
theorem dX12_needs_16 : decode cX12_needs 16 = .ok (.getfield 55, 3) := by decide +kernel
theorem dX12_needs_19 : decode cX12_needs 19 = .ok (.bipush 10, 2) := by decide +kernel
theorem dX12_needs_21 : decode cX12_needs 21 = .ok (.iload_n 1, 1) := by decide +kernel
theorem dX12_needs_22 : decode cX12_needs 22 = .ok (.imul, 1) := by decide +kernel
theorem dX12_needs_23 : decode cX12_needs 23 = .ok (.iload_n 3, 1) := by decide +kernel
theorem dX12_needs_24 : decode cX12_needs 24 = .ok (.iadd, 1) := by decide +kernel
theorem dX12_needs_25 : decode cX12_needs 25 = .ok (.iaload, 1) := by decide +kernel
theorem dX12_needs_26 : decode cX12_needs 26 = .ok (.iconst 2, 1) := by decide +kernel
theorem dX12_needs_27 : decode cX12_needs 27 = .ok (.if_icmp .ne 19, 3) := by decide +kernel
theorem dX12_needs_30 : decode cX12_needs 30 = .ok (.iconst 1, 1) := by decide +kernel
theorem dX12_needs_31 : decode cX12_needs 31 = .ok (.aload_n 0, 1) := by decide +kernel
theorem dX12_needs_32 : decode cX12_needs 32 = .ok (.getfield 58, 3) := by decide +kernel
theorem dX12_needs_35 : decode cX12_needs 35 = .ok (.bipush 10, 2) := by decide +kernel
theorem dX12_needs_37 : decode cX12_needs 37 = .ok (.iload_n 1, 1) := by decide +kernel
theorem dX12_needs_38 : decode cX12_needs 38 = .ok (.imul, 1) := by decide +kernel
theorem dX12_needs_39 : decode cX12_needs 39 = .ok (.iload_n 3, 1) := by decide +kernel
theorem dX12_needs_40 : decode cX12_needs 40 = .ok (.iadd, 1) := by decide +kernel
theorem dX12_needs_41 : decode cX12_needs 41 = .ok (.iaload, 1) := by decide +kernel
theorem dX12_needs_42 : decode cX12_needs 42 = .ok (.ishl, 1) := by decide +kernel
theorem dX12_needs_43 : decode cX12_needs 43 = .ok (.goto 4, 3) := by decide +kernel
theorem dX12_needs_46 : decode cX12_needs 46 = .ok (.iconst 0, 1) := by decide +kernel
theorem dX12_needs_47 : decode cX12_needs 47 = .ok (.ior, 1) := by decide +kernel
theorem dX12_needs_48 : decode cX12_needs 48 = .ok (.istore_n 2, 1) := by decide +kernel
theorem dX12_needs_49 : decode cX12_needs 49 = .ok (.iinc 3 1, 3) := by decide +kernel
theorem dX12_needs_52 : decode cX12_needs 52 = .ok (.goto (-48), 3) := by decide +kernel
theorem dX12_needs_55 : decode cX12_needs 55 = .ok (.iload_n 2, 1) := by decide +kernel
theorem dX12_needs_56 : decode cX12_needs 56 = .ok (.ireturn, 1) := by decide +kernel
theorem dX12_rings_0 : decode cX12_rings 0 = .ok (.aload_n 0, 1) := by decide +kernel
theorem dX12_rings_1 : decode cX12_rings 1 = .ok (.bipush 6, 2) := by decide +kernel
theorem dX12_rings_3 : decode cX12_rings 3 = .ok (.invokevirtual 313, 3) := by decide +kernel
theorem dX12_rings_6 : decode cX12_rings 6 = .ok (.istore_n 2, 1) := by decide +kernel
theorem dX12_rings_7 : decode cX12_rings 7 = .ok (.iconst 0, 1) := by decide +kernel
theorem dX12_rings_8 : decode cX12_rings 8 = .ok (.istore_n 3, 1) := by decide +kernel
theorem dX12_rings_9 : decode cX12_rings 9 = .ok (.iload_n 3, 1) := by decide +kernel
theorem dX12_rings_10 : decode cX12_rings 10 = .ok (.bipush 7, 2) := by decide +kernel
theorem dX12_rings_12 : decode cX12_rings 12 = .ok (.if_icmp .ge 75, 3) := by decide +kernel
theorem dX12_rings_15 : decode cX12_rings 15 = .ok (.iconst 0, 1) := by decide +kernel
theorem dX12_rings_16 : decode cX12_rings 16 = .ok (.istore 4, 2) := by decide +kernel
theorem dX12_rings_18 : decode cX12_rings 18 = .ok (.iload 4, 2) := by decide +kernel
theorem dX12_rings_20 : decode cX12_rings 20 = .ok (.bipush 6, 2) := by decide +kernel
theorem dX12_rings_22 : decode cX12_rings 22 = .ok (.if_icmp .ge 59, 3) := by decide +kernel
theorem dX12_rings_25 : decode cX12_rings 25 = .ok (.iload_n 2, 1) := by decide +kernel
theorem dX12_rings_26 : decode cX12_rings 26 = .ok (.iload 4, 2) := by decide +kernel
theorem dX12_rings_28 : decode cX12_rings 28 = .ok (.ishr, 1) := by decide +kernel
theorem dX12_rings_29 : decode cX12_rings 29 = .ok (.iconst 1, 1) := by decide +kernel
theorem dX12_rings_30 : decode cX12_rings 30 = .ok (.iand, 1) := by decide +kernel
theorem dX12_rings_31 : decode cX12_rings 31 = .ok (.iconst 1, 1) := by decide +kernel
theorem dX12_rings_32 : decode cX12_rings 32 = .ok (.if_icmp .ne 7, 3) := by decide +kernel
theorem dX12_rings_35 : decode cX12_rings 35 = .ok (.iconst 1, 1) := by decide +kernel
theorem dX12_rings_36 : decode cX12_rings 36 = .ok (.goto 4, 3) := by decide +kernel
theorem dX12_rings_39 : decode cX12_rings 39 = .ok (.iconst 0, 1) := by decide +kernel
theorem dX12_rings_40 : decode cX12_rings 40 = .ok (.istore 5, 2) := by decide +kernel
theorem dX12_rings_42 : decode cX12_rings 42 = .ok (.iload_n 2, 1) := by decide +kernel
theorem dX12_rings_43 : decode cX12_rings 43 = .ok (.iload 5, 2) := by decide +kernel
theorem dX12_rings_45 : decode cX12_rings 45 = .ok (.ifCond .eq 27, 3) := by decide +kernel
theorem dX12_rings_48 : decode cX12_rings 48 = .ok (.iload 4, 2) := by decide +kernel
theorem dX12_rings_50 : decode cX12_rings 50 = .ok (.iload_n 1, 1) := by decide +kernel
theorem dX12_rings_51 : decode cX12_rings 51 = .ok (.if_icmp .eq 21, 3) := by decide +kernel
theorem dX12_rings_54 : decode cX12_rings 54 = .ok (.iload 4, 2) := by decide +kernel
theorem dX12_rings_56 : decode cX12_rings 56 = .ok (.aload_n 0, 1) := by decide +kernel
theorem dX12_rings_57 : decode cX12_rings 57 = .ok (.getfield 316, 3) := by decide +kernel
theorem dX12_rings_60 : decode cX12_rings 60 = .ok (.if_icmp .ge 12, 3) := by decide +kernel
theorem dX12_rings_63 : decode cX12_rings 63 = .ok (.aload_n 0, 1) := by decide +kernel
theorem dX12_rings_64 : decode cX12_rings 64 = .ok (.iload 4, 2) := by decide +kernel
theorem dX12_rings_66 : decode cX12_rings 66 = .ok (.invokevirtual 313, 3) := by decide +kernel
theorem dX12_rings_69 : decode cX12_rings 69 = .ok (.goto 4, 3) := by decide +kernel
theorem dX12_rings_72 : decode cX12_rings 72 = .ok (.iconst 0, 1) := by decide +kernel
theorem dX12_rings_73 : decode cX12_rings 73 = .ok (.ior, 1) := by decide +kernel
theorem dX12_rings_74 : decode cX12_rings 74 = .ok (.istore_n 2, 1) := by decide +kernel
theorem dX12_rings_75 : decode cX12_rings 75 = .ok (.iinc 4 1, 3) := by decide +kernel
theorem dX12_rings_78 : decode cX12_rings 78 = .ok (.goto (-60), 3) := by decide +kernel
theorem dX12_rings_81 : decode cX12_rings 81 = .ok (.iinc 3 1, 3) := by decide +kernel
theorem dX12_rings_84 : decode cX12_rings 84 = .ok (.goto (-75), 3) := by decide +kernel
theorem dX12_rings_87 : decode cX12_rings 87 = .ok (.iload_n 2, 1) := by decide +kernel
theorem dX12_rings_88 : decode cX12_rings 88 = .ok (.iload_n 1, 1) := by decide +kernel
theorem dX12_rings_89 : decode cX12_rings 89 = .ok (.ishr, 1) := by decide +kernel
theorem dX12_rings_90 : decode cX12_rings 90 = .ok (.iconst 1, 1) := by decide +kernel
theorem dX12_rings_91 : decode cX12_rings 91 = .ok (.iand, 1) := by decide +kernel
theorem dX12_rings_92 : decode cX12_rings 92 = .ok (.iconst 1, 1) := by decide +kernel
theorem dX12_rings_93 : decode cX12_rings 93 = .ok (.if_icmp .ne 7, 3) := by decide +kernel
theorem dX12_rings_96 : decode cX12_rings 96 = .ok (.iconst 1, 1) := by decide +kernel
theorem dX12_rings_97 : decode cX12_rings 97 = .ok (.goto 4, 3) := by decide +kernel
theorem dX12_rings_100 : decode cX12_rings 100 = .ok (.iconst 0, 1) := by decide +kernel
theorem dX12_rings_101 : decode cX12_rings 101 = .ok (.ireturn, 1) := by decide +kernel
theorem dX12_element_0 : decode cX12_element 0 = .ok (.aload_n 0, 1) := by decide +kernel
theorem dX12_element_1 : decode cX12_element 1 = .ok (.iload_n 1, 1) := by decide +kernel
theorem dX12_element_2 : decode cX12_element 2 = .ok (.i2l, 1) := by decide +kernel
theorem dX12_element_3 : decode cX12_element 3 = .ok (.lconst 0, 1) := by decide +kernel
theorem dX12_element_4 : decode cX12_element 4 = .ok (.aload_n 0, 1) := by decide +kernel
theorem dX12_element_5 : decode cX12_element 5 = .ok (.getfield 316, 3) := by decide +kernel
theorem dX12_element_8 : decode cX12_element 8 = .ok (.i2l, 1) := by decide +kernel
theorem dX12_element_9 : decode cX12_element 9 = .ok (.invokevirtual 191, 3) := by decide +kernel
theorem dX12_element_12 : decode cX12_element 12 = .ok (.ifCond .eq 13, 3) := by decide +kernel
theorem dX12_element_15 : decode cX12_element 15 = .ok (.iload_n 1, 1) := by decide +kernel
theorem dX12_element_16 : decode cX12_element 16 = .ok (.bipush 6, 2) := by decide +kernel
theorem dX12_element_18 : decode cX12_element 18 = .ok (.if_icmp .ge 7, 3) := by decide +kernel
theorem dX12_element_21 : decode cX12_element 21 = .ok (.iconst 1, 1) := by decide +kernel
theorem dX12_element_22 : decode cX12_element 22 = .ok (.goto 4, 3) := by decide +kernel
theorem dX12_element_25 : decode cX12_element 25 = .ok (.iconst 0, 1) := by decide +kernel
theorem dX12_element_26 : decode cX12_element 26 = .ok (.istore_n 3, 1) := by decide +kernel
theorem dX12_element_27 : decode cX12_element 27 = .ok (.iload_n 3, 1) := by decide +kernel
theorem dX12_element_28 : decode cX12_element 28 = .ok (.ifCond .eq 25, 3) := by decide +kernel
theorem dX12_element_31 : decode cX12_element 31 = .ok (.aload_n 0, 1) := by decide +kernel
theorem dX12_element_32 : decode cX12_element 32 = .ok (.bipush 6, 2) := by decide +kernel
theorem dX12_element_34 : decode cX12_element 34 = .ok (.invokevirtual 309, 3) := by decide +kernel
theorem dX12_element_37 : decode cX12_element 37 = .ok (.iconst 1, 1) := by decide +kernel
theorem dX12_element_38 : decode cX12_element 38 = .ok (.if_icmp .ne 11, 3) := by decide +kernel
theorem dX12_element_41 : decode cX12_element 41 = .ok (.aload_n 0, 1) := by decide +kernel
theorem dX12_element_42 : decode cX12_element 42 = .ok (.iload_n 1, 1) := by decide +kernel
theorem dX12_element_43 : decode cX12_element 43 = .ok (.invokevirtual 319, 3) := by decide +kernel
theorem dX12_element_46 : decode cX12_element 46 = .ok (.ifCond .eq 7, 3) := by decide +kernel
theorem dX12_element_49 : decode cX12_element 49 = .ok (.iconst 1, 1) := by decide +kernel
theorem dX12_element_50 : decode cX12_element 50 = .ok (.goto 4, 3) := by decide +kernel
theorem dX12_element_53 : decode cX12_element 53 = .ok (.iconst 0, 1) := by decide +kernel
theorem dX12_element_54 : decode cX12_element 54 = .ok (.istore 4, 2) := by decide +kernel
theorem dX12_element_56 : decode cX12_element 56 = .ok (.aload_n 0, 1) := by decide +kernel
theorem dX12_element_57 : decode cX12_element 57 = .ok (.iload_n 3, 1) := by decide +kernel
theorem dX12_element_58 : decode cX12_element 58 = .ok (.ifCond .ne 7, 3) := by decide +kernel
theorem dX12_element_61 : decode cX12_element 61 = .ok (.iconst 1, 1) := by decide +kernel
theorem dX12_element_62 : decode cX12_element 62 = .ok (.goto 30, 3) := by decide +kernel
theorem dX12_element_65 : decode cX12_element 65 = .ok (.aload_n 0, 1) := by decide +kernel
theorem dX12_element_66 : decode cX12_element 66 = .ok (.iload_n 2, 1) := by decide +kernel
theorem dX12_element_67 : decode cX12_element 67 = .ok (.i2l, 1) := by decide +kernel
theorem dX12_element_68 : decode cX12_element 68 = .ok (.lconst 0, 1) := by decide +kernel
theorem dX12_element_69 : decode cX12_element 69 = .ok (.ldc2_w 322, 3) := by decide +kernel
theorem dX12_element_72 : decode cX12_element 72 = .ok (.invokevirtual 191, 3) := by decide +kernel
theorem dX12_element_75 : decode cX12_element 75 = .ok (.ifCond .ne 7, 3) := by decide +kernel
theorem dX12_element_78 : decode cX12_element 78 = .ok (.iconst 2, 1) := by decide +kernel
theorem dX12_element_79 : decode cX12_element 79 = .ok (.goto 13, 3) := by decide +kernel
theorem dX12_element_82 : decode cX12_element 82 = .ok (.iload 4, 2) := by decide +kernel
theorem dX12_element_84 : decode cX12_element 84 = .ok (.ifCond .eq 7, 3) := by decide +kernel
theorem dX12_element_87 : decode cX12_element 87 = .ok (.iconst 3, 1) := by decide +kernel
theorem dX12_element_88 : decode cX12_element 88 = .ok (.goto 4, 3) := by decide +kernel
theorem dX12_element_91 : decode cX12_element 91 = .ok (.iconst 0, 1) := by decide +kernel
theorem dX12_element_92 : decode cX12_element 92 = .ok (.invokevirtual 227, 3) := by decide +kernel
theorem dX12_element_95 : decode cX12_element 95 = .ok (.ifCond .eq 5, 3) := by decide +kernel
theorem dX12_element_98 : decode cX12_element 98 = .ok (.iconst (-1), 1) := by decide +kernel
theorem dX12_element_99 : decode cX12_element 99 = .ok (.ireturn, 1) := by decide +kernel
theorem dX12_element_100 : decode cX12_element 100 = .ok (.iconst 0, 1) := by decide +kernel
theorem dX12_element_101 : decode cX12_element 101 = .ok (.istore 5, 2) := by decide +kernel
theorem dX12_element_103 : decode cX12_element 103 = .ok (.iload 5, 2) := by decide +kernel
theorem dX12_element_105 : decode cX12_element 105 = .ok (.bipush 10, 2) := by decide +kernel
theorem dX12_element_107 : decode cX12_element 107 = .ok (.if_icmp .ge 53, 3) := by decide +kernel
theorem dX12_element_110 : decode cX12_element 110 = .ok (.aload_n 0, 1) := by decide +kernel
theorem dX12_element_111 : decode cX12_element 111 = .ok (.getfield 55, 3) := by decide +kernel
theorem dX12_element_114 : decode cX12_element 114 = .ok (.bipush 10, 2) := by decide +kernel
theorem dX12_element_116 : decode cX12_element 116 = .ok (.iload_n 1, 1) := by decide +kernel
theorem dX12_element_117 : decode cX12_element 117 = .ok (.imul, 1) := by decide +kernel
theorem dX12_element_118 : decode cX12_element 118 = .ok (.iload 5, 2) := by decide +kernel
theorem dX12_element_120 : decode cX12_element 120 = .ok (.iadd, 1) := by decide +kernel
theorem dX12_element_121 : decode cX12_element 121 = .ok (.aload_n 0, 1) := by decide +kernel
theorem dX12_element_122 : decode cX12_element 122 = .ok (.getfield 55, 3) := by decide +kernel
theorem dX12_element_125 : decode cX12_element 125 = .ok (.bipush 60, 2) := by decide +kernel
theorem dX12_element_127 : decode cX12_element 127 = .ok (.iload 5, 2) := by decide +kernel
theorem dX12_element_129 : decode cX12_element 129 = .ok (.iadd, 1) := by decide +kernel
theorem dX12_element_130 : decode cX12_element 130 = .ok (.iaload, 1) := by decide +kernel
theorem dX12_element_131 : decode cX12_element 131 = .ok (.iastore, 1) := by decide +kernel
theorem dX12_element_132 : decode cX12_element 132 = .ok (.aload_n 0, 1) := by decide +kernel
theorem dX12_element_133 : decode cX12_element 133 = .ok (.getfield 58, 3) := by decide +kernel
theorem dX12_element_136 : decode cX12_element 136 = .ok (.bipush 10, 2) := by decide +kernel
theorem dX12_element_138 : decode cX12_element 138 = .ok (.iload_n 1, 1) := by decide +kernel
theorem dX12_element_139 : decode cX12_element 139 = .ok (.imul, 1) := by decide +kernel
theorem dX12_element_140 : decode cX12_element 140 = .ok (.iload 5, 2) := by decide +kernel
theorem dX12_element_142 : decode cX12_element 142 = .ok (.iadd, 1) := by decide +kernel
theorem dX12_element_143 : decode cX12_element 143 = .ok (.aload_n 0, 1) := by decide +kernel
theorem dX12_element_144 : decode cX12_element 144 = .ok (.getfield 58, 3) := by decide +kernel
theorem dX12_element_147 : decode cX12_element 147 = .ok (.bipush 60, 2) := by decide +kernel
theorem dX12_element_149 : decode cX12_element 149 = .ok (.iload 5, 2) := by decide +kernel
theorem dX12_element_151 : decode cX12_element 151 = .ok (.iadd, 1) := by decide +kernel
theorem dX12_element_152 : decode cX12_element 152 = .ok (.iaload, 1) := by decide +kernel
theorem dX12_element_153 : decode cX12_element 153 = .ok (.iastore, 1) := by decide +kernel
theorem dX12_element_154 : decode cX12_element 154 = .ok (.iinc 5 1, 3) := by decide +kernel
theorem dX12_element_157 : decode cX12_element 157 = .ok (.goto (-54), 3) := by decide +kernel
theorem dX12_element_160 : decode cX12_element 160 = .ok (.aload_n 0, 1) := by decide +kernel
theorem dX12_element_161 : decode cX12_element 161 = .ok (.getfield 61, 3) := by decide +kernel
theorem dX12_element_164 : decode cX12_element 164 = .ok (.iload_n 1, 1) := by decide +kernel
theorem dX12_element_165 : decode cX12_element 165 = .ok (.aload_n 0, 1) := by decide +kernel
theorem dX12_element_166 : decode cX12_element 166 = .ok (.getfield 61, 3) := by decide +kernel
theorem dX12_element_169 : decode cX12_element 169 = .ok (.bipush 6, 2) := by decide +kernel
theorem dX12_element_171 : decode cX12_element 171 = .ok (.iaload, 1) := by decide +kernel
theorem dX12_element_172 : decode cX12_element 172 = .ok (.iastore, 1) := by decide +kernel
theorem dX12_element_173 : decode cX12_element 173 = .ok (.aload_n 0, 1) := by decide +kernel
theorem dX12_element_174 : decode cX12_element 174 = .ok (.getfield 61, 3) := by decide +kernel
theorem dX12_element_177 : decode cX12_element 177 = .ok (.bipush 6, 2) := by decide +kernel
theorem dX12_element_179 : decode cX12_element 179 = .ok (.iconst 0, 1) := by decide +kernel
theorem dX12_element_180 : decode cX12_element 180 = .ok (.iastore, 1) := by decide +kernel
theorem dX12_element_181 : decode cX12_element 181 = .ok (.aload_n 0, 1) := by decide +kernel
theorem dX12_element_182 : decode cX12_element 182 = .ok (.getfield 64, 3) := by decide +kernel
theorem dX12_element_185 : decode cX12_element 185 = .ok (.iload_n 1, 1) := by decide +kernel
theorem dX12_element_186 : decode cX12_element 186 = .ok (.iload_n 2, 1) := by decide +kernel
theorem dX12_element_187 : decode cX12_element 187 = .ok (.iastore, 1) := by decide +kernel
theorem dX12_element_188 : decode cX12_element 188 = .ok (.aload_n 0, 1) := by decide +kernel
theorem dX12_element_189 : decode cX12_element 189 = .ok (.dup, 1) := by decide +kernel
theorem dX12_element_190 : decode cX12_element 190 = .ok (.getfield 316, 3) := by decide +kernel
theorem dX12_element_193 : decode cX12_element 193 = .ok (.iload_n 1, 1) := by decide +kernel
theorem dX12_element_194 : decode cX12_element 194 = .ok (.aload_n 0, 1) := by decide +kernel
theorem dX12_element_195 : decode cX12_element 195 = .ok (.getfield 316, 3) := by decide +kernel
theorem dX12_element_198 : decode cX12_element 198 = .ok (.if_icmp .ne 7, 3) := by decide +kernel
theorem dX12_element_201 : decode cX12_element 201 = .ok (.iconst 1, 1) := by decide +kernel
theorem dX12_element_202 : decode cX12_element 202 = .ok (.goto 4, 3) := by decide +kernel
theorem dX12_element_205 : decode cX12_element 205 = .ok (.iconst 0, 1) := by decide +kernel
theorem dX12_element_206 : decode cX12_element 206 = .ok (.iadd, 1) := by decide +kernel
theorem dX12_element_207 : decode cX12_element 207 = .ok (.putfield 316, 3) := by decide +kernel
theorem dX12_element_210 : decode cX12_element 210 = .ok (.aload_n 0, 1) := by decide +kernel
theorem dX12_element_211 : decode cX12_element 211 = .ok (.invokevirtual 324, 3) := by decide +kernel
theorem dX12_element_214 : decode cX12_element 214 = .ok (.aload_n 0, 1) := by decide +kernel
theorem dX12_element_215 : decode cX12_element 215 = .ok (.getfield 316, 3) := by decide +kernel
theorem dX12_element_218 : decode cX12_element 218 = .ok (.ireturn, 1) := by decide +kernel
theorem dX12_arrange_0 : decode cX12_arrange 0 = .ok (.iconst 0, 1) := by decide +kernel
theorem dX12_arrange_1 : decode cX12_arrange 1 = .ok (.istore_n 1, 1) := by decide +kernel
theorem dX12_arrange_2 : decode cX12_arrange 2 = .ok (.iconst 1, 1) := by decide +kernel
theorem dX12_arrange_3 : decode cX12_arrange 3 = .ok (.aload_n 0, 1) := by decide +kernel
theorem dX12_arrange_4 : decode cX12_arrange 4 = .ok (.getfield 316, 3) := by decide +kernel
theorem dX12_arrange_7 : decode cX12_arrange 7 = .ok (.ishl, 1) := by decide +kernel
theorem dX12_arrange_8 : decode cX12_arrange 8 = .ok (.iconst 1, 1) := by decide +kernel
theorem dX12_arrange_9 : decode cX12_arrange 9 = .ok (.isub, 1) := by decide +kernel
theorem dX12_arrange_10 : decode cX12_arrange 10 = .ok (.istore_n 2, 1) := by decide +kernel
theorem dX12_arrange_11 : decode cX12_arrange 11 = .ok (.iconst 0, 1) := by decide +kernel
theorem dX12_arrange_12 : decode cX12_arrange 12 = .ok (.istore_n 3, 1) := by decide +kernel
theorem dX12_arrange_13 : decode cX12_arrange 13 = .ok (.iload_n 3, 1) := by decide +kernel
theorem dX12_arrange_14 : decode cX12_arrange 14 = .ok (.aload_n 0, 1) := by decide +kernel
theorem dX12_arrange_15 : decode cX12_arrange 15 = .ok (.getfield 316, 3) := by decide +kernel
theorem dX12_arrange_18 : decode cX12_arrange 18 = .ok (.if_icmp .ge 91, 3) := by decide +kernel
theorem dX12_arrange_21 : decode cX12_arrange 21 = .ok (.iconst (-1), 1) := by decide +kernel
theorem dX12_arrange_22 : decode cX12_arrange 22 = .ok (.istore 4, 2) := by decide +kernel
theorem dX12_arrange_24 : decode cX12_arrange 24 = .ok (.aload_n 0, 1) := by decide +kernel
theorem dX12_arrange_25 : decode cX12_arrange 25 = .ok (.getfield 316, 3) := by decide +kernel
theorem dX12_arrange_28 : decode cX12_arrange 28 = .ok (.iconst 1, 1) := by decide +kernel
theorem dX12_arrange_29 : decode cX12_arrange 29 = .ok (.isub, 1) := by decide +kernel
theorem dX12_arrange_30 : decode cX12_arrange 30 = .ok (.istore 5, 2) := by decide +kernel
theorem dX12_arrange_32 : decode cX12_arrange 32 = .ok (.iload 5, 2) := by decide +kernel
theorem dX12_arrange_34 : decode cX12_arrange 34 = .ok (.ifCond .lt 54, 3) := by decide +kernel
theorem dX12_arrange_37 : decode cX12_arrange 37 = .ok (.iload_n 1, 1) := by decide +kernel
theorem dX12_arrange_38 : decode cX12_arrange 38 = .ok (.iload 5, 2) := by decide +kernel
theorem dX12_arrange_40 : decode cX12_arrange 40 = .ok (.ishr, 1) := by decide +kernel
theorem dX12_arrange_41 : decode cX12_arrange 41 = .ok (.iconst 1, 1) := by decide +kernel
theorem dX12_arrange_42 : decode cX12_arrange 42 = .ok (.iand, 1) := by decide +kernel
theorem dX12_arrange_43 : decode cX12_arrange 43 = .ok (.ifCond .ne 22, 3) := by decide +kernel
theorem dX12_arrange_46 : decode cX12_arrange 46 = .ok (.aload_n 0, 1) := by decide +kernel
theorem dX12_arrange_47 : decode cX12_arrange 47 = .ok (.iload 5, 2) := by decide +kernel
theorem dX12_arrange_49 : decode cX12_arrange 49 = .ok (.invokevirtual 313, 3) := by decide +kernel
theorem dX12_arrange_52 : decode cX12_arrange 52 = .ok (.iload_n 2, 1) := by decide +kernel
theorem dX12_arrange_53 : decode cX12_arrange 53 = .ok (.iand, 1) := by decide +kernel
theorem dX12_arrange_54 : decode cX12_arrange 54 = .ok (.iload_n 1, 1) := by decide +kernel
theorem dX12_arrange_55 : decode cX12_arrange 55 = .ok (.iconst (-1), 1) := by decide +kernel
theorem dX12_arrange_56 : decode cX12_arrange 56 = .ok (.ixor, 1) := by decide +kernel
theorem dX12_arrange_57 : decode cX12_arrange 57 = .ok (.iand, 1) := by decide +kernel
theorem dX12_arrange_58 : decode cX12_arrange 58 = .ok (.ifCond .ne 7, 3) := by decide +kernel
theorem dX12_arrange_61 : decode cX12_arrange 61 = .ok (.iconst 1, 1) := by decide +kernel
theorem dX12_arrange_62 : decode cX12_arrange 62 = .ok (.goto 4, 3) := by decide +kernel
theorem dX12_arrange_65 : decode cX12_arrange 65 = .ok (.iconst 0, 1) := by decide +kernel
theorem dX12_arrange_66 : decode cX12_arrange 66 = .ok (.istore 6, 2) := by decide +kernel
theorem dX12_arrange_68 : decode cX12_arrange 68 = .ok (.iload 6, 2) := by decide +kernel
theorem dX12_arrange_70 : decode cX12_arrange 70 = .ok (.ifCond .eq 8, 3) := by decide +kernel
theorem dX12_arrange_73 : decode cX12_arrange 73 = .ok (.iload 5, 2) := by decide +kernel
theorem dX12_arrange_75 : decode cX12_arrange 75 = .ok (.goto 5, 3) := by decide +kernel
theorem dX12_arrange_78 : decode cX12_arrange 78 = .ok (.iload 4, 2) := by decide +kernel
theorem dX12_arrange_80 : decode cX12_arrange 80 = .ok (.istore 4, 2) := by decide +kernel
theorem dX12_arrange_82 : decode cX12_arrange 82 = .ok (.iinc 5 (-1), 3) := by decide +kernel
theorem dX12_arrange_85 : decode cX12_arrange 85 = .ok (.goto (-53), 3) := by decide +kernel
theorem dX12_arrange_88 : decode cX12_arrange 88 = .ok (.aload_n 0, 1) := by decide +kernel
theorem dX12_arrange_89 : decode cX12_arrange 89 = .ok (.getfield 67, 3) := by decide +kernel
theorem dX12_arrange_92 : decode cX12_arrange 92 = .ok (.iload_n 3, 1) := by decide +kernel
theorem dX12_arrange_93 : decode cX12_arrange 93 = .ok (.iload 4, 2) := by decide +kernel
theorem dX12_arrange_95 : decode cX12_arrange 95 = .ok (.iastore, 1) := by decide +kernel
theorem dX12_arrange_96 : decode cX12_arrange 96 = .ok (.iload_n 1, 1) := by decide +kernel
theorem dX12_arrange_97 : decode cX12_arrange 97 = .ok (.iconst 1, 1) := by decide +kernel
theorem dX12_arrange_98 : decode cX12_arrange 98 = .ok (.iload 4, 2) := by decide +kernel
theorem dX12_arrange_100 : decode cX12_arrange 100 = .ok (.ishl, 1) := by decide +kernel
theorem dX12_arrange_101 : decode cX12_arrange 101 = .ok (.ior, 1) := by decide +kernel
theorem dX12_arrange_102 : decode cX12_arrange 102 = .ok (.istore_n 1, 1) := by decide +kernel
theorem dX12_arrange_103 : decode cX12_arrange 103 = .ok (.iinc 3 1, 3) := by decide +kernel
theorem dX12_arrange_106 : decode cX12_arrange 106 = .ok (.goto (-93), 3) := by decide +kernel
theorem dX12_arrange_109 : decode cX12_arrange 109 = .ok (.return_, 1) := by decide +kernel
theorem dX12_order_0 : decode cX12_order 0 = .ok (.aload_n 0, 1) := by decide +kernel
theorem dX12_order_1 : decode cX12_order 1 = .ok (.aload_n 0, 1) := by decide +kernel
theorem dX12_order_2 : decode cX12_order 2 = .ok (.iload_n 1, 1) := by decide +kernel
theorem dX12_order_3 : decode cX12_order 3 = .ok (.i2l, 1) := by decide +kernel
theorem dX12_order_4 : decode cX12_order 4 = .ok (.lconst 0, 1) := by decide +kernel
theorem dX12_order_5 : decode cX12_order 5 = .ok (.aload_n 0, 1) := by decide +kernel
theorem dX12_order_6 : decode cX12_order 6 = .ok (.getfield 316, 3) := by decide +kernel
theorem dX12_order_9 : decode cX12_order 9 = .ok (.iconst 1, 1) := by decide +kernel
theorem dX12_order_10 : decode cX12_order 10 = .ok (.isub, 1) := by decide +kernel
theorem dX12_order_11 : decode cX12_order 11 = .ok (.i2l, 1) := by decide +kernel
theorem dX12_order_12 : decode cX12_order 12 = .ok (.invokevirtual 191, 3) := by decide +kernel
theorem dX12_order_15 : decode cX12_order 15 = .ok (.ifCond .eq 7, 3) := by decide +kernel
theorem dX12_order_18 : decode cX12_order 18 = .ok (.iconst 0, 1) := by decide +kernel
theorem dX12_order_19 : decode cX12_order 19 = .ok (.goto 4, 3) := by decide +kernel
theorem dX12_order_22 : decode cX12_order 22 = .ok (.iconst 1, 1) := by decide +kernel
theorem dX12_order_23 : decode cX12_order 23 = .ok (.invokevirtual 227, 3) := by decide +kernel
theorem dX12_order_26 : decode cX12_order 26 = .ok (.ifCond .eq 7, 3) := by decide +kernel
theorem dX12_order_29 : decode cX12_order 29 = .ok (.iconst (-1), 1) := by decide +kernel
theorem dX12_order_30 : decode cX12_order 30 = .ok (.goto 9, 3) := by decide +kernel
theorem dX12_order_33 : decode cX12_order 33 = .ok (.aload_n 0, 1) := by decide +kernel
theorem dX12_order_34 : decode cX12_order 34 = .ok (.getfield 67, 3) := by decide +kernel
theorem dX12_order_37 : decode cX12_order 37 = .ok (.iload_n 1, 1) := by decide +kernel
theorem dX12_order_38 : decode cX12_order 38 = .ok (.iaload, 1) := by decide +kernel
theorem dX12_order_39 : decode cX12_order 39 = .ok (.ireturn, 1) := by decide +kernel
theorem dX12_kept_0 : decode cX12_kept 0 = .ok (.lload_n 1, 1) := by decide +kernel
theorem dX12_kept_1 : decode cX12_kept 1 = .ok (.ldc2_w 327, 3) := by decide +kernel
theorem dX12_kept_4 : decode cX12_kept 4 = .ok (.lcmp, 1) := by decide +kernel
theorem dX12_kept_5 : decode cX12_kept 5 = .ok (.ifCond .le 9, 3) := by decide +kernel
theorem dX12_kept_8 : decode cX12_kept 8 = .ok (.ldc2_w 327, 3) := by decide +kernel
theorem dX12_kept_11 : decode cX12_kept 11 = .ok (.goto 18, 3) := by decide +kernel
theorem dX12_kept_14 : decode cX12_kept 14 = .ok (.lload_n 1, 1) := by decide +kernel
theorem dX12_kept_15 : decode cX12_kept 15 = .ok (.ldc2_w 329, 3) := by decide +kernel
theorem dX12_kept_18 : decode cX12_kept 18 = .ok (.lcmp, 1) := by decide +kernel
theorem dX12_kept_19 : decode cX12_kept 19 = .ok (.ifCond .ge 9, 3) := by decide +kernel
theorem dX12_kept_22 : decode cX12_kept 22 = .ok (.ldc2_w 329, 3) := by decide +kernel
theorem dX12_kept_25 : decode cX12_kept 25 = .ok (.goto 4, 3) := by decide +kernel
theorem dX12_kept_28 : decode cX12_kept 28 = .ok (.lload_n 1, 1) := by decide +kernel
theorem dX12_kept_29 : decode cX12_kept 29 = .ok (.lreturn, 1) := by decide +kernel
theorem dX12_joined_0 : decode cX12_joined 0 = .ok (.iload_n 1, 1) := by decide +kernel
theorem dX12_joined_1 : decode cX12_joined 1 = .ok (.iconst 4, 1) := by decide +kernel
theorem dX12_joined_2 : decode cX12_joined 2 = .ok (.if_icmp .ne 10, 3) := by decide +kernel
theorem dX12_joined_5 : decode cX12_joined 5 = .ok (.lload_n 2, 1) := by decide +kernel
theorem dX12_joined_6 : decode cX12_joined 6 = .ok (.lload 4, 2) := by decide +kernel
theorem dX12_joined_8 : decode cX12_joined 8 = .ok (.ladd, 1) := by decide +kernel
theorem dX12_joined_9 : decode cX12_joined 9 = .ok (.goto 83, 3) := by decide +kernel
theorem dX12_joined_12 : decode cX12_joined 12 = .ok (.iload_n 1, 1) := by decide +kernel
theorem dX12_joined_13 : decode cX12_joined 13 = .ok (.iconst 5, 1) := by decide +kernel
theorem dX12_joined_14 : decode cX12_joined 14 = .ok (.if_icmp .ne 10, 3) := by decide +kernel
theorem dX12_joined_17 : decode cX12_joined 17 = .ok (.lload_n 2, 1) := by decide +kernel
theorem dX12_joined_18 : decode cX12_joined 18 = .ok (.lload 4, 2) := by decide +kernel
theorem dX12_joined_20 : decode cX12_joined 20 = .ok (.lsub, 1) := by decide +kernel
theorem dX12_joined_21 : decode cX12_joined 21 = .ok (.goto 71, 3) := by decide +kernel
theorem dX12_joined_24 : decode cX12_joined 24 = .ok (.iload_n 1, 1) := by decide +kernel
theorem dX12_joined_25 : decode cX12_joined 25 = .ok (.bipush 6, 2) := by decide +kernel
theorem dX12_joined_27 : decode cX12_joined 27 = .ok (.if_icmp .ne 10, 3) := by decide +kernel
theorem dX12_joined_30 : decode cX12_joined 30 = .ok (.lload_n 2, 1) := by decide +kernel
theorem dX12_joined_31 : decode cX12_joined 31 = .ok (.lload 4, 2) := by decide +kernel
theorem dX12_joined_33 : decode cX12_joined 33 = .ok (.lmul, 1) := by decide +kernel
theorem dX12_joined_34 : decode cX12_joined 34 = .ok (.goto 58, 3) := by decide +kernel
theorem dX12_joined_37 : decode cX12_joined 37 = .ok (.iload_n 1, 1) := by decide +kernel
theorem dX12_joined_38 : decode cX12_joined 38 = .ok (.bipush 7, 2) := by decide +kernel
theorem dX12_joined_40 : decode cX12_joined 40 = .ok (.if_icmp .ne 17, 3) := by decide +kernel
theorem dX12_joined_43 : decode cX12_joined 43 = .ok (.aload_n 0, 1) := by decide +kernel
theorem dX12_joined_44 : decode cX12_joined 44 = .ok (.lload_n 2, 1) := by decide +kernel
theorem dX12_joined_45 : decode cX12_joined 45 = .ok (.lload 4, 2) := by decide +kernel
theorem dX12_joined_47 : decode cX12_joined 47 = .ok (.lmul, 1) := by decide +kernel
theorem dX12_joined_48 : decode cX12_joined 48 = .ok (.ldc2_w 331, 3) := by decide +kernel
theorem dX12_joined_51 : decode cX12_joined 51 = .ok (.invokevirtual 261, 3) := by decide +kernel
theorem dX12_joined_54 : decode cX12_joined 54 = .ok (.goto 38, 3) := by decide +kernel
theorem dX12_joined_57 : decode cX12_joined 57 = .ok (.iload_n 1, 1) := by decide +kernel
theorem dX12_joined_58 : decode cX12_joined 58 = .ok (.bipush 8, 2) := by decide +kernel
theorem dX12_joined_60 : decode cX12_joined 60 = .ok (.if_icmp .ne 19, 3) := by decide +kernel
theorem dX12_joined_63 : decode cX12_joined 63 = .ok (.lload_n 2, 1) := by decide +kernel
theorem dX12_joined_64 : decode cX12_joined 64 = .ok (.lload 4, 2) := by decide +kernel
theorem dX12_joined_66 : decode cX12_joined 66 = .ok (.lcmp, 1) := by decide +kernel
theorem dX12_joined_67 : decode cX12_joined 67 = .ok (.ifCond .ge 7, 3) := by decide +kernel
theorem dX12_joined_70 : decode cX12_joined 70 = .ok (.lload_n 2, 1) := by decide +kernel
theorem dX12_joined_71 : decode cX12_joined 71 = .ok (.goto 21, 3) := by decide +kernel
theorem dX12_joined_74 : decode cX12_joined 74 = .ok (.lload 4, 2) := by decide +kernel
theorem dX12_joined_76 : decode cX12_joined 76 = .ok (.goto 16, 3) := by decide +kernel
theorem dX12_joined_79 : decode cX12_joined 79 = .ok (.lload_n 2, 1) := by decide +kernel
theorem dX12_joined_80 : decode cX12_joined 80 = .ok (.lload 4, 2) := by decide +kernel
theorem dX12_joined_82 : decode cX12_joined 82 = .ok (.lcmp, 1) := by decide +kernel
theorem dX12_joined_83 : decode cX12_joined 83 = .ok (.ifCond .le 7, 3) := by decide +kernel
theorem dX12_joined_86 : decode cX12_joined 86 = .ok (.lload_n 2, 1) := by decide +kernel
theorem dX12_joined_87 : decode cX12_joined 87 = .ok (.goto 5, 3) := by decide +kernel
theorem dX12_joined_90 : decode cX12_joined 90 = .ok (.lload 4, 2) := by decide +kernel
theorem dX12_joined_92 : decode cX12_joined 92 = .ok (.lreturn, 1) := by decide +kernel
theorem dX12_formula_0 : decode cX12_formula 0 = .ok (.iconst 0, 1) := by decide +kernel
theorem dX12_formula_1 : decode cX12_formula 1 = .ok (.istore 6, 2) := by decide +kernel
theorem dX12_formula_3 : decode cX12_formula 3 = .ok (.iconst 0, 1) := by decide +kernel
theorem dX12_formula_4 : decode cX12_formula 4 = .ok (.istore 7, 2) := by decide +kernel
theorem dX12_formula_6 : decode cX12_formula 6 = .ok (.iload 7, 2) := by decide +kernel
theorem dX12_formula_8 : decode cX12_formula 8 = .ok (.aload_n 0, 1) := by decide +kernel
theorem dX12_formula_9 : decode cX12_formula 9 = .ok (.getfield 61, 3) := by decide +kernel
theorem dX12_formula_12 : decode cX12_formula 12 = .ok (.iload_n 1, 1) := by decide +kernel
theorem dX12_formula_13 : decode cX12_formula 13 = .ok (.iaload, 1) := by decide +kernel
theorem dX12_formula_14 : decode cX12_formula 14 = .ok (.if_icmp .ge 150, 3) := by decide +kernel
theorem dX12_formula_17 : decode cX12_formula 17 = .ok (.aload_n 0, 1) := by decide +kernel
theorem dX12_formula_18 : decode cX12_formula 18 = .ok (.getfield 55, 3) := by decide +kernel
theorem dX12_formula_21 : decode cX12_formula 21 = .ok (.bipush 10, 2) := by decide +kernel
theorem dX12_formula_23 : decode cX12_formula 23 = .ok (.iload_n 1, 1) := by decide +kernel
theorem dX12_formula_24 : decode cX12_formula 24 = .ok (.imul, 1) := by decide +kernel
theorem dX12_formula_25 : decode cX12_formula 25 = .ok (.iload 7, 2) := by decide +kernel
theorem dX12_formula_27 : decode cX12_formula 27 = .ok (.iadd, 1) := by decide +kernel
theorem dX12_formula_28 : decode cX12_formula 28 = .ok (.iaload, 1) := by decide +kernel
theorem dX12_formula_29 : decode cX12_formula 29 = .ok (.istore 8, 2) := by decide +kernel
theorem dX12_formula_31 : decode cX12_formula 31 = .ok (.aload_n 0, 1) := by decide +kernel
theorem dX12_formula_32 : decode cX12_formula 32 = .ok (.getfield 58, 3) := by decide +kernel
theorem dX12_formula_35 : decode cX12_formula 35 = .ok (.bipush 10, 2) := by decide +kernel
theorem dX12_formula_37 : decode cX12_formula 37 = .ok (.iload_n 1, 1) := by decide +kernel
theorem dX12_formula_38 : decode cX12_formula 38 = .ok (.imul, 1) := by decide +kernel
theorem dX12_formula_39 : decode cX12_formula 39 = .ok (.iload 7, 2) := by decide +kernel
theorem dX12_formula_41 : decode cX12_formula 41 = .ok (.iadd, 1) := by decide +kernel
theorem dX12_formula_42 : decode cX12_formula 42 = .ok (.iaload, 1) := by decide +kernel
theorem dX12_formula_43 : decode cX12_formula 43 = .ok (.istore 9, 2) := by decide +kernel
theorem dX12_formula_45 : decode cX12_formula 45 = .ok (.iload 8, 2) := by decide +kernel
theorem dX12_formula_47 : decode cX12_formula 47 = .ok (.iconst 4, 1) := by decide +kernel
theorem dX12_formula_48 : decode cX12_formula 48 = .ok (.if_icmp .ge 72, 3) := by decide +kernel
theorem dX12_formula_51 : decode cX12_formula 51 = .ok (.aload_n 0, 1) := by decide +kernel
theorem dX12_formula_52 : decode cX12_formula 52 = .ok (.getfield 70, 3) := by decide +kernel
theorem dX12_formula_55 : decode cX12_formula 55 = .ok (.iload 6, 2) := by decide +kernel
theorem dX12_formula_57 : decode cX12_formula 57 = .ok (.aload_n 0, 1) := by decide +kernel
theorem dX12_formula_58 : decode cX12_formula 58 = .ok (.iload 8, 2) := by decide +kernel
theorem dX12_formula_60 : decode cX12_formula 60 = .ok (.ifCond .ne 7, 3) := by decide +kernel
theorem dX12_formula_63 : decode cX12_formula 63 = .ok (.lload_n 2, 1) := by decide +kernel
theorem dX12_formula_64 : decode cX12_formula 64 = .ok (.goto 46, 3) := by decide +kernel
theorem dX12_formula_67 : decode cX12_formula 67 = .ok (.iload 8, 2) := by decide +kernel
theorem dX12_formula_69 : decode cX12_formula 69 = .ok (.iconst 1, 1) := by decide +kernel
theorem dX12_formula_70 : decode cX12_formula 70 = .ok (.if_icmp .ne 8, 3) := by decide +kernel
theorem dX12_formula_73 : decode cX12_formula 73 = .ok (.lload 4, 2) := by decide +kernel
theorem dX12_formula_75 : decode cX12_formula 75 = .ok (.goto 35, 3) := by decide +kernel
theorem dX12_formula_78 : decode cX12_formula 78 = .ok (.iload 8, 2) := by decide +kernel
theorem dX12_formula_80 : decode cX12_formula 80 = .ok (.iconst 3, 1) := by decide +kernel
theorem dX12_formula_81 : decode cX12_formula 81 = .ok (.if_icmp .ne 9, 3) := by decide +kernel
theorem dX12_formula_84 : decode cX12_formula 84 = .ok (.iload 9, 2) := by decide +kernel
theorem dX12_formula_86 : decode cX12_formula 86 = .ok (.i2l, 1) := by decide +kernel
theorem dX12_formula_87 : decode cX12_formula 87 = .ok (.goto 23, 3) := by decide +kernel
theorem dX12_formula_90 : decode cX12_formula 90 = .ok (.iload 9, 2) := by decide +kernel
theorem dX12_formula_92 : decode cX12_formula 92 = .ok (.aload_n 0, 1) := by decide +kernel
theorem dX12_formula_93 : decode cX12_formula 93 = .ok (.getfield 316, 3) := by decide +kernel
theorem dX12_formula_96 : decode cX12_formula 96 = .ok (.if_icmp .ge 13, 3) := by decide +kernel
theorem dX12_formula_99 : decode cX12_formula 99 = .ok (.aload_n 0, 1) := by decide +kernel
theorem dX12_formula_100 : decode cX12_formula 100 = .ok (.getfield 74, 3) := by decide +kernel
theorem dX12_formula_103 : decode cX12_formula 103 = .ok (.iload 9, 2) := by decide +kernel
theorem dX12_formula_105 : decode cX12_formula 105 = .ok (.laload, 1) := by decide +kernel
theorem dX12_formula_106 : decode cX12_formula 106 = .ok (.goto 4, 3) := by decide +kernel
theorem dX12_formula_109 : decode cX12_formula 109 = .ok (.lconst 0, 1) := by decide +kernel
theorem dX12_formula_110 : decode cX12_formula 110 = .ok (.invokevirtual 333, 3) := by decide +kernel
theorem dX12_formula_113 : decode cX12_formula 113 = .ok (.lastore, 1) := by decide +kernel
theorem dX12_formula_114 : decode cX12_formula 114 = .ok (.iinc 6 1, 3) := by decide +kernel
theorem dX12_formula_117 : decode cX12_formula 117 = .ok (.goto 41, 3) := by decide +kernel
theorem dX12_formula_120 : decode cX12_formula 120 = .ok (.iinc 6 (-1), 3) := by decide +kernel
theorem dX12_formula_123 : decode cX12_formula 123 = .ok (.aload_n 0, 1) := by decide +kernel
theorem dX12_formula_124 : decode cX12_formula 124 = .ok (.getfield 70, 3) := by decide +kernel
theorem dX12_formula_127 : decode cX12_formula 127 = .ok (.iload 6, 2) := by decide +kernel
theorem dX12_formula_129 : decode cX12_formula 129 = .ok (.iconst 1, 1) := by decide +kernel
theorem dX12_formula_130 : decode cX12_formula 130 = .ok (.isub, 1) := by decide +kernel
theorem dX12_formula_131 : decode cX12_formula 131 = .ok (.aload_n 0, 1) := by decide +kernel
theorem dX12_formula_132 : decode cX12_formula 132 = .ok (.aload_n 0, 1) := by decide +kernel
theorem dX12_formula_133 : decode cX12_formula 133 = .ok (.iload 8, 2) := by decide +kernel
theorem dX12_formula_135 : decode cX12_formula 135 = .ok (.aload_n 0, 1) := by decide +kernel
theorem dX12_formula_136 : decode cX12_formula 136 = .ok (.getfield 70, 3) := by decide +kernel
theorem dX12_formula_139 : decode cX12_formula 139 = .ok (.iload 6, 2) := by decide +kernel
theorem dX12_formula_141 : decode cX12_formula 141 = .ok (.iconst 1, 1) := by decide +kernel
theorem dX12_formula_142 : decode cX12_formula 142 = .ok (.isub, 1) := by decide +kernel
theorem dX12_formula_143 : decode cX12_formula 143 = .ok (.laload, 1) := by decide +kernel
theorem dX12_formula_144 : decode cX12_formula 144 = .ok (.aload_n 0, 1) := by decide +kernel
theorem dX12_formula_145 : decode cX12_formula 145 = .ok (.getfield 70, 3) := by decide +kernel
theorem dX12_formula_148 : decode cX12_formula 148 = .ok (.iload 6, 2) := by decide +kernel
theorem dX12_formula_150 : decode cX12_formula 150 = .ok (.laload, 1) := by decide +kernel
theorem dX12_formula_151 : decode cX12_formula 151 = .ok (.invokevirtual 337, 3) := by decide +kernel
theorem dX12_formula_154 : decode cX12_formula 154 = .ok (.invokevirtual 333, 3) := by decide +kernel
theorem dX12_formula_157 : decode cX12_formula 157 = .ok (.lastore, 1) := by decide +kernel
theorem dX12_formula_158 : decode cX12_formula 158 = .ok (.iinc 7 1, 3) := by decide +kernel
theorem dX12_formula_161 : decode cX12_formula 161 = .ok (.goto (-155), 3) := by decide +kernel
theorem dX12_formula_164 : decode cX12_formula 164 = .ok (.aload_n 0, 1) := by decide +kernel
theorem dX12_formula_165 : decode cX12_formula 165 = .ok (.getfield 70, 3) := by decide +kernel
theorem dX12_formula_168 : decode cX12_formula 168 = .ok (.iconst 0, 1) := by decide +kernel
theorem dX12_formula_169 : decode cX12_formula 169 = .ok (.laload, 1) := by decide +kernel
theorem dX12_formula_170 : decode cX12_formula 170 = .ok (.lreturn, 1) := by decide +kernel
theorem dX12_bonus_0 : decode cX12_bonus 0 = .ok (.aload_n 0, 1) := by decide +kernel
theorem dX12_bonus_1 : decode cX12_bonus 1 = .ok (.iload_n 1, 1) := by decide +kernel
theorem dX12_bonus_2 : decode cX12_bonus 2 = .ok (.invokevirtual 212, 3) := by decide +kernel
theorem dX12_bonus_5 : decode cX12_bonus 5 = .ok (.ifCond .eq 23, 3) := by decide +kernel
theorem dX12_bonus_8 : decode cX12_bonus 8 = .ok (.aload_n 0, 1) := by decide +kernel
theorem dX12_bonus_9 : decode cX12_bonus 9 = .ok (.iload_n 2, 1) := by decide +kernel
theorem dX12_bonus_10 : decode cX12_bonus 10 = .ok (.invokevirtual 272, 3) := by decide +kernel
theorem dX12_bonus_13 : decode cX12_bonus 13 = .ok (.ifCond .eq 15, 3) := by decide +kernel
theorem dX12_bonus_16 : decode cX12_bonus 16 = .ok (.aload_n 0, 1) := by decide +kernel
theorem dX12_bonus_17 : decode cX12_bonus 17 = .ok (.iload_n 3, 1) := by decide +kernel
theorem dX12_bonus_18 : decode cX12_bonus 18 = .ok (.invokevirtual 215, 3) := by decide +kernel
theorem dX12_bonus_21 : decode cX12_bonus 21 = .ok (.ifCond .eq 7, 3) := by decide +kernel
theorem dX12_bonus_24 : decode cX12_bonus 24 = .ok (.iconst 1, 1) := by decide +kernel
theorem dX12_bonus_25 : decode cX12_bonus 25 = .ok (.goto 4, 3) := by decide +kernel
theorem dX12_bonus_28 : decode cX12_bonus 28 = .ok (.iconst 0, 1) := by decide +kernel
theorem dX12_bonus_29 : decode cX12_bonus 29 = .ok (.istore 5, 2) := by decide +kernel
theorem dX12_bonus_31 : decode cX12_bonus 31 = .ok (.aload_n 0, 1) := by decide +kernel
theorem dX12_bonus_32 : decode cX12_bonus 32 = .ok (.iload 5, 2) := by decide +kernel
theorem dX12_bonus_34 : decode cX12_bonus 34 = .ok (.ifCond .ne 7, 3) := by decide +kernel
theorem dX12_bonus_37 : decode cX12_bonus 37 = .ok (.iconst 1, 1) := by decide +kernel
theorem dX12_bonus_38 : decode cX12_bonus 38 = .ok (.goto 24, 3) := by decide +kernel
theorem dX12_bonus_41 : decode cX12_bonus 41 = .ok (.aload_n 0, 1) := by decide +kernel
theorem dX12_bonus_42 : decode cX12_bonus 42 = .ok (.iload 4, 2) := by decide +kernel
theorem dX12_bonus_44 : decode cX12_bonus 44 = .ok (.i2l, 1) := by decide +kernel
theorem dX12_bonus_45 : decode cX12_bonus 45 = .ok (.ldc2_w 341, 3) := by decide +kernel
theorem dX12_bonus_48 : decode cX12_bonus 48 = .ok (.ldc2_w 343, 3) := by decide +kernel
theorem dX12_bonus_51 : decode cX12_bonus 51 = .ok (.invokevirtual 191, 3) := by decide +kernel
theorem dX12_bonus_54 : decode cX12_bonus 54 = .ok (.ifCond .eq 7, 3) := by decide +kernel
theorem dX12_bonus_57 : decode cX12_bonus 57 = .ok (.iconst 0, 1) := by decide +kernel
theorem dX12_bonus_58 : decode cX12_bonus 58 = .ok (.goto 4, 3) := by decide +kernel
theorem dX12_bonus_61 : decode cX12_bonus 61 = .ok (.iconst 2, 1) := by decide +kernel
theorem dX12_bonus_62 : decode cX12_bonus 62 = .ok (.invokevirtual 227, 3) := by decide +kernel
theorem dX12_bonus_65 : decode cX12_bonus 65 = .ok (.ifCond .eq 5, 3) := by decide +kernel
theorem dX12_bonus_68 : decode cX12_bonus 68 = .ok (.iconst (-1), 1) := by decide +kernel
theorem dX12_bonus_69 : decode cX12_bonus 69 = .ok (.ireturn, 1) := by decide +kernel
theorem dX12_bonus_70 : decode cX12_bonus 70 = .ok (.bipush 72, 2) := by decide +kernel
theorem dX12_bonus_72 : decode cX12_bonus 72 = .ok (.iload_n 1, 1) := by decide +kernel
theorem dX12_bonus_73 : decode cX12_bonus 73 = .ok (.imul, 1) := by decide +kernel
theorem dX12_bonus_74 : decode cX12_bonus 74 = .ok (.iconst 3, 1) := by decide +kernel
theorem dX12_bonus_75 : decode cX12_bonus 75 = .ok (.iload_n 2, 1) := by decide +kernel
theorem dX12_bonus_76 : decode cX12_bonus 76 = .ok (.imul, 1) := by decide +kernel
theorem dX12_bonus_77 : decode cX12_bonus 77 = .ok (.iadd, 1) := by decide +kernel
theorem dX12_bonus_78 : decode cX12_bonus 78 = .ok (.iload_n 3, 1) := by decide +kernel
theorem dX12_bonus_79 : decode cX12_bonus 79 = .ok (.iadd, 1) := by decide +kernel
theorem dX12_bonus_80 : decode cX12_bonus 80 = .ok (.istore 6, 2) := by decide +kernel
theorem dX12_bonus_82 : decode cX12_bonus 82 = .ok (.aload_n 0, 1) := by decide +kernel
theorem dX12_bonus_83 : decode cX12_bonus 83 = .ok (.getfield 77, 3) := by decide +kernel
theorem dX12_bonus_86 : decode cX12_bonus 86 = .ok (.iload 6, 2) := by decide +kernel
theorem dX12_bonus_88 : decode cX12_bonus 88 = .ok (.iaload, 1) := by decide +kernel
theorem dX12_bonus_89 : decode cX12_bonus 89 = .ok (.istore 7, 2) := by decide +kernel
theorem dX12_bonus_91 : decode cX12_bonus 91 = .ok (.aload_n 0, 1) := by decide +kernel
theorem dX12_bonus_92 : decode cX12_bonus 92 = .ok (.getfield 77, 3) := by decide +kernel
