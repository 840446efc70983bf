theorem d_Lw_plan_18 : decode m_Lw_plan.2.1 18 = .ok (.iconst 0, 1) := by decide +kernel
theorem d_Lw_plan_19 : decode m_Lw_plan.2.1 19 = .ok (.ireturn, 1) := by decide +kernel
theorem d_Ha_plan_0 : decode m_Ha_plan.2.1 0 = .ok (.aload_n 0, 1) := by decide +kernel
theorem d_Ha_plan_1 : decode m_Ha_plan.2.1 1 = .ok (.iload_n 1, 1) := by decide +kernel
theorem d_Ha_plan_2 : decode m_Ha_plan.2.1 2 = .ok (.invokevirtual 89, 3) := by decide +kernel
theorem d_Ha_plan_5 : decode m_Ha_plan.2.1 5 = .ok (.astore_n 2, 1) := by decide +kernel
theorem d_Ha_plan_6 : decode m_Ha_plan.2.1 6 = .ok (.aload_n 2, 1) := by decide +kernel
theorem d_Ha_plan_7 : decode m_Ha_plan.2.1 7 = .ok (.getfield 104, 3) := by decide +kernel
theorem d_Ha_plan_10 : decode m_Ha_plan.2.1 10 = .ok (.invokevirtual 108, 3) := by decide +kernel
theorem d_Ha_plan_13 : decode m_Ha_plan.2.1 13 = .ok (.ifCond .eq 11, 3) := by decide +kernel
theorem d_Ha_plan_16 : decode m_Ha_plan.2.1 16 = .ok (.new 64, 3) := by decide +kernel
theorem d_Ha_plan_19 : decode m_Ha_plan.2.1 19 = .ok (.dup, 1) := by decide +kernel
theorem d_Ha_plan_20 : decode m_Ha_plan.2.1 20 = .ok (.invokespecial 66, 3) := by decide +kernel
theorem d_Ha_plan_23 : decode m_Ha_plan.2.1 23 = .ok (.athrow, 1) := by decide +kernel
theorem d_Ha_plan_24 : decode m_Ha_plan.2.1 24 = .ok (.aload_n 0, 1) := by decide +kernel
theorem d_Ha_plan_25 : decode m_Ha_plan.2.1 25 = .ok (.getfield 41, 3) := by decide +kernel
theorem d_Ha_plan_28 : decode m_Ha_plan.2.1 28 = .ok (.aload_n 2, 1) := by decide +kernel
theorem d_Ha_plan_29 : decode m_Ha_plan.2.1 29 = .ok (.getfield 67, 3) := by decide +kernel
theorem d_Ha_plan_32 : decode m_Ha_plan.2.1 32 = .ok (.invokevirtual 133, 3) := by decide +kernel
theorem d_Ha_plan_35 : decode m_Ha_plan.2.1 35 = .ok (.aload_n 0, 1) := by decide +kernel
theorem d_Ha_plan_36 : decode m_Ha_plan.2.1 36 = .ok (.aload_n 2, 1) := by decide +kernel
theorem d_Ha_plan_37 : decode m_Ha_plan.2.1 37 = .ok (.invokevirtual 137, 3) := by decide +kernel
theorem d_Ha_plan_40 : decode m_Ha_plan.2.1 40 = .ok (.ireturn, 1) := by decide +kernel
theorem d_St_fill_0 : decode m_St_fill.2.1 0 = .ok (.aload_n 0, 1) := by decide +kernel
theorem d_St_fill_1 : decode m_St_fill.2.1 1 = .ok (.getfield 15, 3) := by decide +kernel
theorem d_St_fill_4 : decode m_St_fill.2.1 4 = .ok (.invokevirtual 19, 3) := by decide +kernel
theorem d_St_fill_7 : decode m_St_fill.2.1 7 = .ok (.aload_n 0, 1) := by decide +kernel
theorem d_St_fill_8 : decode m_St_fill.2.1 8 = .ok (.iconst 0, 1) := by decide +kernel
theorem d_St_fill_9 : decode m_St_fill.2.1 9 = .ok (.putfield 24, 3) := by decide +kernel
theorem d_St_fill_12 : decode m_St_fill.2.1 12 = .ok (.iconst 0, 1) := by decide +kernel
theorem d_St_fill_13 : decode m_St_fill.2.1 13 = .ok (.istore_n 2, 1) := by decide +kernel
theorem d_St_fill_14 : decode m_St_fill.2.1 14 = .ok (.iload_n 2, 1) := by decide +kernel
theorem d_St_fill_15 : decode m_St_fill.2.1 15 = .ok (.bipush 36, 2) := by decide +kernel
theorem d_St_fill_17 : decode m_St_fill.2.1 17 = .ok (.if_icmp .ge 35, 3) := by decide +kernel
theorem d_St_fill_20 : decode m_St_fill.2.1 20 = .ok (.aload_n 0, 1) := by decide +kernel
theorem d_St_fill_21 : decode m_St_fill.2.1 21 = .ok (.iload_n 2, 1) := by decide +kernel
theorem d_St_fill_22 : decode m_St_fill.2.1 22 = .ok (.putfield 28, 3) := by decide +kernel
theorem d_St_fill_25 : decode m_St_fill.2.1 25 = .ok (.aload_n 0, 1) := by decide +kernel
theorem d_St_fill_26 : decode m_St_fill.2.1 26 = .ok (.aload_n 1, 1) := by decide +kernel
theorem d_St_fill_27 : decode m_St_fill.2.1 27 = .ok (.invokevirtual 31, 3) := by decide +kernel
theorem d_St_fill_30 : decode m_St_fill.2.1 30 = .ok (.istore_n 3, 1) := by decide +kernel
theorem d_St_fill_31 : decode m_St_fill.2.1 31 = .ok (.iload_n 3, 1) := by decide +kernel
theorem d_St_fill_32 : decode m_St_fill.2.1 32 = .ok (.ifCond .ne 4, 3) := by decide +kernel
theorem d_St_fill_35 : decode m_St_fill.2.1 35 = .ok (.return_, 1) := by decide +kernel
theorem d_St_fill_36 : decode m_St_fill.2.1 36 = .ok (.aload_n 0, 1) := by decide +kernel
theorem d_St_fill_37 : decode m_St_fill.2.1 37 = .ok (.dup, 1) := by decide +kernel
theorem d_St_fill_38 : decode m_St_fill.2.1 38 = .ok (.getfield 24, 3) := by decide +kernel
theorem d_St_fill_41 : decode m_St_fill.2.1 41 = .ok (.iload_n 3, 1) := by decide +kernel
theorem d_St_fill_42 : decode m_St_fill.2.1 42 = .ok (.iadd, 1) := by decide +kernel
theorem d_St_fill_43 : decode m_St_fill.2.1 43 = .ok (.putfield 24, 3) := by decide +kernel
theorem d_St_fill_46 : decode m_St_fill.2.1 46 = .ok (.iinc 2 1, 3) := by decide +kernel
theorem d_St_fill_49 : decode m_St_fill.2.1 49 = .ok (.goto (-35), 3) := by decide +kernel
theorem d_St_fill_52 : decode m_St_fill.2.1 52 = .ok (.return_, 1) := by decide +kernel
theorem d_La_clear_0 : decode m_La_clear.2.1 0 = .ok (.aload_n 0, 1) := by decide +kernel
theorem d_La_clear_1 : decode m_La_clear.2.1 1 = .ok (.iconst 0, 1) := by decide +kernel
theorem d_La_clear_2 : decode m_La_clear.2.1 2 = .ok (.putfield 27, 3) := by decide +kernel
theorem d_La_clear_5 : decode m_La_clear.2.1 5 = .ok (.return_, 1) := by decide +kernel
theorem d_St_stackColumn_0 : decode m_St_stackColumn.2.1 0 = .ok (.iconst 0, 1) := by decide +kernel
theorem d_St_stackColumn_1 : decode m_St_stackColumn.2.1 1 = .ok (.istore_n 2, 1) := by decide +kernel
theorem d_St_stackColumn_2 : decode m_St_stackColumn.2.1 2 = .ok (.aload_n 0, 1) := by decide +kernel
theorem d_St_stackColumn_3 : decode m_St_stackColumn.2.1 3 = .ok (.iconst 0, 1) := by decide +kernel
theorem d_St_stackColumn_4 : decode m_St_stackColumn.2.1 4 = .ok (.putfield 35, 3) := by decide +kernel
theorem d_St_stackColumn_7 : decode m_St_stackColumn.2.1 7 = .ok (.aload_n 0, 1) := by decide +kernel
theorem d_St_stackColumn_8 : decode m_St_stackColumn.2.1 8 = .ok (.aload_n 1, 1) := by decide +kernel
theorem d_St_stackColumn_9 : decode m_St_stackColumn.2.1 9 = .ok (.getfield 38, 3) := by decide +kernel
theorem d_St_stackColumn_12 : decode m_St_stackColumn.2.1 12 = .ok (.aload_n 0, 1) := by decide +kernel
theorem d_St_stackColumn_13 : decode m_St_stackColumn.2.1 13 = .ok (.getfield 24, 3) := by decide +kernel
theorem d_St_stackColumn_16 : decode m_St_stackColumn.2.1 16 = .ok (.isub, 1) := by decide +kernel
theorem d_St_stackColumn_17 : decode m_St_stackColumn.2.1 17 = .ok (.putfield 43, 3) := by decide +kernel
theorem d_St_stackColumn_20 : decode m_St_stackColumn.2.1 20 = .ok (.iconst 0, 1) := by decide +kernel
theorem d_St_stackColumn_21 : decode m_St_stackColumn.2.1 21 = .ok (.istore_n 3, 1) := by decide +kernel
theorem d_St_stackColumn_22 : decode m_St_stackColumn.2.1 22 = .ok (.iload_n 3, 1) := by decide +kernel
theorem d_St_stackColumn_23 : decode m_St_stackColumn.2.1 23 = .ok (.bipush 36, 2) := by decide +kernel
theorem d_St_stackColumn_25 : decode m_St_stackColumn.2.1 25 = .ok (.if_icmp .ge 79, 3) := by decide +kernel
theorem d_St_stackColumn_28 : decode m_St_stackColumn.2.1 28 = .ok (.aload_n 0, 1) := by decide +kernel
theorem d_St_stackColumn_29 : decode m_St_stackColumn.2.1 29 = .ok (.iload_n 3, 1) := by decide +kernel
theorem d_St_stackColumn_30 : decode m_St_stackColumn.2.1 30 = .ok (.putfield 46, 3) := by decide +kernel
theorem d_St_stackColumn_33 : decode m_St_stackColumn.2.1 33 = .ok (.aload_n 0, 1) := by decide +kernel
theorem d_St_stackColumn_34 : decode m_St_stackColumn.2.1 34 = .ok (.getfield 15, 3) := by decide +kernel
theorem d_St_stackColumn_37 : decode m_St_stackColumn.2.1 37 = .ok (.getfield 49, 3) := by decide +kernel
theorem d_St_stackColumn_40 : decode m_St_stackColumn.2.1 40 = .ok (.istore 4, 2) := by decide +kernel
theorem d_St_stackColumn_42 : decode m_St_stackColumn.2.1 42 = .ok (.iload 4, 2) := by decide +kernel
theorem d_St_stackColumn_44 : decode m_St_stackColumn.2.1 44 = .ok (.bipush 36, 2) := by decide +kernel
theorem d_St_stackColumn_46 : decode m_St_stackColumn.2.1 46 = .ok (.if_icmp .ge 11, 3) := by decide +kernel
theorem d_St_stackColumn_49 : decode m_St_stackColumn.2.1 49 = .ok (.aload_n 0, 1) := by decide +kernel
theorem d_St_stackColumn_50 : decode m_St_stackColumn.2.1 50 = .ok (.aload_n 1, 1) := by decide +kernel
theorem d_St_stackColumn_51 : decode m_St_stackColumn.2.1 51 = .ok (.invokevirtual 52, 3) := by decide +kernel
theorem d_St_stackColumn_54 : decode m_St_stackColumn.2.1 54 = .ok (.ifCond .ne 5, 3) := by decide +kernel
theorem d_St_stackColumn_57 : decode m_St_stackColumn.2.1 57 = .ok (.iload_n 2, 1) := by decide +kernel
theorem d_St_stackColumn_58 : decode m_St_stackColumn.2.1 58 = .ok (.ireturn, 1) := by decide +kernel
theorem d_St_stackColumn_59 : decode m_St_stackColumn.2.1 59 = .ok (.iload_n 3, 1) := by decide +kernel
theorem d_St_stackColumn_60 : decode m_St_stackColumn.2.1 60 = .ok (.ifCond .ne 19, 3) := by decide +kernel
theorem d_St_stackColumn_63 : decode m_St_stackColumn.2.1 63 = .ok (.aload_n 0, 1) := by decide +kernel
theorem d_St_stackColumn_64 : decode m_St_stackColumn.2.1 64 = .ok (.getfield 15, 3) := by decide +kernel
theorem d_St_stackColumn_67 : decode m_St_stackColumn.2.1 67 = .ok (.getfield 56, 3) := by decide +kernel
theorem d_St_stackColumn_70 : decode m_St_stackColumn.2.1 70 = .ok (.iload 4, 2) := by decide +kernel
theorem d_St_stackColumn_72 : decode m_St_stackColumn.2.1 72 = .ok (.iaload, 1) := by decide +kernel
theorem d_St_stackColumn_73 : decode m_St_stackColumn.2.1 73 = .ok (.istore_n 2, 1) := by decide +kernel
theorem d_St_stackColumn_74 : decode m_St_stackColumn.2.1 74 = .ok (.aload_n 0, 1) := by decide +kernel
theorem d_St_stackColumn_75 : decode m_St_stackColumn.2.1 75 = .ok (.iload_n 2, 1) := by decide +kernel
theorem d_St_stackColumn_76 : decode m_St_stackColumn.2.1 76 = .ok (.putfield 43, 3) := by decide +kernel
theorem d_St_stackColumn_79 : decode m_St_stackColumn.2.1 79 = .ok (.aload_n 0, 1) := by decide +kernel
theorem d_St_stackColumn_80 : decode m_St_stackColumn.2.1 80 = .ok (.dup, 1) := by decide +kernel
theorem d_St_stackColumn_81 : decode m_St_stackColumn.2.1 81 = .ok (.getfield 35, 3) := by decide +kernel
theorem d_St_stackColumn_84 : decode m_St_stackColumn.2.1 84 = .ok (.aload_n 0, 1) := by decide +kernel
theorem d_St_stackColumn_85 : decode m_St_stackColumn.2.1 85 = .ok (.getfield 15, 3) := by decide +kernel
theorem d_St_stackColumn_88 : decode m_St_stackColumn.2.1 88 = .ok (.getfield 59, 3) := by decide +kernel
theorem d_St_stackColumn_91 : decode m_St_stackColumn.2.1 91 = .ok (.iload 4, 2) := by decide +kernel
theorem d_St_stackColumn_93 : decode m_St_stackColumn.2.1 93 = .ok (.iaload, 1) := by decide +kernel
theorem d_St_stackColumn_94 : decode m_St_stackColumn.2.1 94 = .ok (.iadd, 1) := by decide +kernel
theorem d_St_stackColumn_95 : decode m_St_stackColumn.2.1 95 = .ok (.putfield 35, 3) := by decide +kernel
theorem d_St_stackColumn_98 : decode m_St_stackColumn.2.1 98 = .ok (.iinc 3 1, 3) := by decide +kernel
theorem d_St_stackColumn_101 : decode m_St_stackColumn.2.1 101 = .ok (.goto (-79), 3) := by decide +kernel
theorem d_St_stackColumn_104 : decode m_St_stackColumn.2.1 104 = .ok (.iload_n 2, 1) := by decide +kernel
theorem d_St_stackColumn_105 : decode m_St_stackColumn.2.1 105 = .ok (.ireturn, 1) := by decide +kernel
theorem d_St_takeFirst_0 : decode m_St_takeFirst.2.1 0 = .ok (.iconst 0, 1) := by decide +kernel
theorem d_St_takeFirst_1 : decode m_St_takeFirst.2.1 1 = .ok (.istore_n 2, 1) := by decide +kernel
theorem d_St_takeFirst_2 : decode m_St_takeFirst.2.1 2 = .ok (.iload_n 2, 1) := by decide +kernel
theorem d_St_takeFirst_3 : decode m_St_takeFirst.2.1 3 = .ok (.aload_n 0, 1) := by decide +kernel
theorem d_St_takeFirst_4 : decode m_St_takeFirst.2.1 4 = .ok (.getfield 9, 3) := by decide +kernel
theorem d_St_takeFirst_7 : decode m_St_takeFirst.2.1 7 = .ok (.getfield 62, 3) := by decide +kernel
theorem d_St_takeFirst_10 : decode m_St_takeFirst.2.1 10 = .ok (.if_icmp .ge 47, 3) := by decide +kernel
theorem d_St_takeFirst_13 : decode m_St_takeFirst.2.1 13 = .ok (.aload_n 0, 1) := by decide +kernel
theorem d_St_takeFirst_14 : decode m_St_takeFirst.2.1 14 = .ok (.aload_n 1, 1) := by decide +kernel
theorem d_St_takeFirst_15 : decode m_St_takeFirst.2.1 15 = .ok (.aload_n 0, 1) := by decide +kernel
theorem d_St_takeFirst_16 : decode m_St_takeFirst.2.1 16 = .ok (.getfield 9, 3) := by decide +kernel
theorem d_St_takeFirst_19 : decode m_St_takeFirst.2.1 19 = .ok (.getfield 65, 3) := by decide +kernel
theorem d_St_takeFirst_22 : decode m_St_takeFirst.2.1 22 = .ok (.iload_n 2, 1) := by decide +kernel
theorem d_St_takeFirst_23 : decode m_St_takeFirst.2.1 23 = .ok (.iaload, 1) := by decide +kernel
theorem d_St_takeFirst_24 : decode m_St_takeFirst.2.1 24 = .ok (.iconst 0, 1) := by decide +kernel
theorem d_St_takeFirst_25 : decode m_St_takeFirst.2.1 25 = .ok (.invokevirtual 68, 3) := by decide +kernel
theorem d_St_takeFirst_28 : decode m_St_takeFirst.2.1 28 = .ok (.ifCond .ne 21, 3) := by decide +kernel
theorem d_St_takeFirst_31 : decode m_St_takeFirst.2.1 31 = .ok (.aload_n 0, 1) := by decide +kernel
theorem d_St_takeFirst_32 : decode m_St_takeFirst.2.1 32 = .ok (.aload_n 1, 1) := by decide +kernel
theorem d_St_takeFirst_33 : decode m_St_takeFirst.2.1 33 = .ok (.aload_n 0, 1) := by decide +kernel
theorem d_St_takeFirst_34 : decode m_St_takeFirst.2.1 34 = .ok (.getfield 9, 3) := by decide +kernel
theorem d_St_takeFirst_37 : decode m_St_takeFirst.2.1 37 = .ok (.getfield 65, 3) := by decide +kernel
theorem d_St_takeFirst_40 : decode m_St_takeFirst.2.1 40 = .ok (.iload_n 2, 1) := by decide +kernel
theorem d_St_takeFirst_41 : decode m_St_takeFirst.2.1 41 = .ok (.iaload, 1) := by decide +kernel
theorem d_St_takeFirst_42 : decode m_St_takeFirst.2.1 42 = .ok (.iconst 1, 1) := by decide +kernel
theorem d_St_takeFirst_43 : decode m_St_takeFirst.2.1 43 = .ok (.invokevirtual 68, 3) := by decide +kernel
theorem d_St_takeFirst_46 : decode m_St_takeFirst.2.1 46 = .ok (.ifCond .eq 5, 3) := by decide +kernel
theorem d_St_takeFirst_49 : decode m_St_takeFirst.2.1 49 = .ok (.iconst 1, 1) := by decide +kernel
theorem d_St_takeFirst_50 : decode m_St_takeFirst.2.1 50 = .ok (.ireturn, 1) := by decide +kernel
theorem d_St_takeFirst_51 : decode m_St_takeFirst.2.1 51 = .ok (.iinc 2 1, 3) := by decide +kernel
theorem d_St_takeFirst_54 : decode m_St_takeFirst.2.1 54 = .ok (.goto (-52), 3) := by decide +kernel
theorem d_St_takeFirst_57 : decode m_St_takeFirst.2.1 57 = .ok (.iconst 0, 1) := by decide +kernel
theorem d_St_takeFirst_58 : decode m_St_takeFirst.2.1 58 = .ok (.ireturn, 1) := by decide +kernel
theorem d_St_take_0 : decode m_St_take.2.1 0 = .ok (.aload_n 0, 1) := by decide +kernel
theorem d_St_take_1 : decode m_St_take.2.1 1 = .ok (.getfield 9, 3) := by decide +kernel
theorem d_St_take_4 : decode m_St_take.2.1 4 = .ok (.iload_n 2, 1) := by decide +kernel
theorem d_St_take_5 : decode m_St_take.2.1 5 = .ok (.invokevirtual 72, 3) := by decide +kernel
theorem d_St_take_8 : decode m_St_take.2.1 8 = .ok (.astore 4, 2) := by decide +kernel
theorem d_St_take_10 : decode m_St_take.2.1 10 = .ok (.aload 4, 2) := by decide +kernel
theorem d_St_take_12 : decode m_St_take.2.1 12 = .ok (.ifnull 31, 3) := by decide +kernel
theorem d_St_take_15 : decode m_St_take.2.1 15 = .ok (.aload 4, 2) := by decide +kernel
theorem d_St_take_17 : decode m_St_take.2.1 17 = .ok (.getfield 76, 3) := by decide +kernel
theorem d_St_take_20 : decode m_St_take.2.1 20 = .ok (.aload_n 0, 1) := by decide +kernel
theorem d_St_take_21 : decode m_St_take.2.1 21 = .ok (.getfield 15, 3) := by decide +kernel
theorem d_St_take_24 : decode m_St_take.2.1 24 = .ok (.iload_n 2, 1) := by decide +kernel
theorem d_St_take_25 : decode m_St_take.2.1 25 = .ok (.invokevirtual 81, 3) := by decide +kernel
theorem d_St_take_28 : decode m_St_take.2.1 28 = .ok (.if_icmp .le 15, 3) := by decide +kernel
theorem d_St_take_31 : decode m_St_take.2.1 31 = .ok (.iload_n 3, 1) := by decide +kernel
theorem d_St_take_32 : decode m_St_take.2.1 32 = .ok (.ifCond .eq 13, 3) := by decide +kernel
theorem d_St_take_35 : decode m_St_take.2.1 35 = .ok (.aload 4, 2) := by decide +kernel
theorem d_St_take_37 : decode m_St_take.2.1 37 = .ok (.getfield 85, 3) := by decide +kernel
theorem d_St_take_40 : decode m_St_take.2.1 40 = .ok (.ifCond .ne 5, 3) := by decide +kernel
theorem d_St_take_43 : decode m_St_take.2.1 43 = .ok (.iconst 0, 1) := by decide +kernel
theorem d_St_take_44 : decode m_St_take.2.1 44 = .ok (.ireturn, 1) := by decide +kernel
theorem d_St_take_45 : decode m_St_take.2.1 45 = .ok (.iload_n 3, 1) := by decide +kernel
theorem d_St_take_46 : decode m_St_take.2.1 46 = .ok (.ifCond .eq 11, 3) := by decide +kernel
theorem d_St_take_49 : decode m_St_take.2.1 49 = .ok (.aload 4, 2) := by decide +kernel
theorem d_St_take_51 : decode m_St_take.2.1 51 = .ok (.getfield 89, 3) := by decide +kernel
theorem d_St_take_54 : decode m_St_take.2.1 54 = .ok (.goto 8, 3) := by decide +kernel
theorem d_St_take_57 : decode m_St_take.2.1 57 = .ok (.aload 4, 2) := by decide +kernel
theorem d_St_take_59 : decode m_St_take.2.1 59 = .ok (.getfield 91, 3) := by decide +kernel
theorem d_St_take_62 : decode m_St_take.2.1 62 = .ok (.istore 5, 2) := by decide +kernel
theorem d_St_take_64 : decode m_St_take.2.1 64 = .ok (.iload_n 3, 1) := by decide +kernel
theorem d_St_take_65 : decode m_St_take.2.1 65 = .ok (.ifCond .eq 11, 3) := by decide +kernel
theorem d_St_take_68 : decode m_St_take.2.1 68 = .ok (.aload 4, 2) := by decide +kernel
theorem d_St_take_70 : decode m_St_take.2.1 70 = .ok (.getfield 91, 3) := by decide +kernel
theorem d_St_take_73 : decode m_St_take.2.1 73 = .ok (.goto 8, 3) := by decide +kernel
theorem d_St_take_76 : decode m_St_take.2.1 76 = .ok (.aload 4, 2) := by decide +kernel
theorem d_St_take_78 : decode m_St_take.2.1 78 = .ok (.getfield 89, 3) := by decide +kernel
theorem d_St_take_81 : decode m_St_take.2.1 81 = .ok (.istore 6, 2) := by decide +kernel
theorem d_St_take_83 : decode m_St_take.2.1 83 = .ok (.iload 5, 2) := by decide +kernel
theorem d_St_take_85 : decode m_St_take.2.1 85 = .ok (.aload_n 0, 1) := by decide +kernel
theorem d_St_take_86 : decode m_St_take.2.1 86 = .ok (.getfield 43, 3) := by decide +kernel
theorem d_St_take_89 : decode m_St_take.2.1 89 = .ok (.if_icmp .gt 36, 3) := by decide +kernel
theorem d_St_take_92 : decode m_St_take.2.1 92 = .ok (.iload 6, 2) := by decide +kernel
theorem d_St_take_94 : decode m_St_take.2.1 94 = .ok (.aload_n 1, 1) := by decide +kernel
theorem d_St_take_95 : decode m_St_take.2.1 95 = .ok (.getfield 92, 3) := by decide +kernel
theorem d_St_take_98 : decode m_St_take.2.1 98 = .ok (.aload_n 0, 1) := by decide +kernel
theorem d_St_take_99 : decode m_St_take.2.1 99 = .ok (.getfield 35, 3) := by decide +kernel
theorem d_St_take_102 : decode m_St_take.2.1 102 = .ok (.isub, 1) := by decide +kernel
theorem d_St_take_103 : decode m_St_take.2.1 103 = .ok (.if_icmp .gt 22, 3) := by decide +kernel
theorem d_St_take_106 : decode m_St_take.2.1 106 = .ok (.aload_n 1, 1) := by decide +kernel
theorem d_St_take_107 : decode m_St_take.2.1 107 = .ok (.aload_n 0, 1) := by decide +kernel
theorem d_St_take_108 : decode m_St_take.2.1 108 = .ok (.getfield 24, 3) := by decide +kernel
theorem d_St_take_111 : decode m_St_take.2.1 111 = .ok (.aload_n 0, 1) := by decide +kernel
theorem d_St_take_112 : decode m_St_take.2.1 112 = .ok (.getfield 35, 3) := by decide +kernel
theorem d_St_take_115 : decode m_St_take.2.1 115 = .ok (.iload 5, 2) := by decide +kernel
theorem d_St_take_117 : decode m_St_take.2.1 117 = .ok (.iload 6, 2) := by decide +kernel
theorem d_St_take_119 : decode m_St_take.2.1 119 = .ok (.invokevirtual 93, 3) := by decide +kernel
theorem d_St_take_122 : decode m_St_take.2.1 122 = .ok (.ifCond .ne 5, 3) := by decide +kernel
theorem d_St_take_125 : decode m_St_take.2.1 125 = .ok (.iconst 0, 1) := by decide +kernel
theorem d_St_take_126 : decode m_St_take.2.1 126 = .ok (.ireturn, 1) := by decide +kernel
theorem d_St_take_127 : decode m_St_take.2.1 127 = .ok (.aload_n 0, 1) := by decide +kernel
theorem d_St_take_128 : decode m_St_take.2.1 128 = .ok (.getfield 15, 3) := by decide +kernel
theorem d_St_take_131 : decode m_St_take.2.1 131 = .ok (.iload_n 2, 1) := by decide +kernel
theorem d_St_take_132 : decode m_St_take.2.1 132 = .ok (.iload 5, 2) := by decide +kernel
theorem d_St_take_134 : decode m_St_take.2.1 134 = .ok (.iload 6, 2) := by decide +kernel
theorem d_St_take_136 : decode m_St_take.2.1 136 = .ok (.aload_n 0, 1) := by decide +kernel
theorem d_St_take_137 : decode m_St_take.2.1 137 = .ok (.getfield 28, 3) := by decide +kernel
theorem d_St_take_140 : decode m_St_take.2.1 140 = .ok (.aload_n 0, 1) := by decide +kernel
theorem d_St_take_141 : decode m_St_take.2.1 141 = .ok (.getfield 46, 3) := by decide +kernel
theorem d_St_take_144 : decode m_St_take.2.1 144 = .ok (.invokevirtual 97, 3) := by decide +kernel
theorem d_St_take_147 : decode m_St_take.2.1 147 = .ok (.iconst 1, 1) := by decide +kernel
theorem d_St_take_148 : decode m_St_take.2.1 148 = .ok (.ireturn, 1) := by decide +kernel
theorem d_Bk_at_0 : decode m_Bk_at.2.1 0 = .ok (.iload_n 1, 1) := by decide +kernel
theorem d_Bk_at_1 : decode m_Bk_at.2.1 1 = .ok (.ifCond .lt 20, 3) := by decide +kernel
theorem d_Bk_at_4 : decode m_Bk_at.2.1 4 = .ok (.iload_n 1, 1) := by decide +kernel
theorem d_Bk_at_5 : decode m_Bk_at.2.1 5 = .ok (.aload_n 0, 1) := by decide +kernel
theorem d_Bk_at_6 : decode m_Bk_at.2.1 6 = .ok (.getfield 21, 3) := by decide +kernel
theorem d_Bk_at_9 : decode m_Bk_at.2.1 9 = .ok (.if_icmp .ge 12, 3) := by decide +kernel
theorem d_Bk_at_12 : decode m_Bk_at.2.1 12 = .ok (.aload_n 0, 1) := by decide +kernel
theorem d_Bk_at_13 : decode m_Bk_at.2.1 13 = .ok (.getfield 11, 3) := by decide +kernel
theorem d_Bk_at_16 : decode m_Bk_at.2.1 16 = .ok (.iload_n 1, 1) := by decide +kernel
theorem d_Bk_at_17 : decode m_Bk_at.2.1 17 = .ok (.aaload, 1) := by decide +kernel
theorem d_Bk_at_18 : decode m_Bk_at.2.1 18 = .ok (.goto 4, 3) := by decide +kernel
theorem d_Bk_at_21 : decode m_Bk_at.2.1 21 = .ok (.aconst_null, 1) := by decide +kernel
theorem d_Bk_at_22 : decode m_Bk_at.2.1 22 = .ok (.areturn, 1) := by decide +kernel
theorem d_La_countOf_0 : decode m_La_countOf.2.1 0 = .ok (.iconst 0, 1) := by decide +kernel
theorem d_La_countOf_1 : decode m_La_countOf.2.1 1 = .ok (.istore_n 2, 1) := by decide +kernel
theorem d_La_countOf_2 : decode m_La_countOf.2.1 2 = .ok (.iconst 0, 1) := by decide +kernel
theorem d_La_countOf_3 : decode m_La_countOf.2.1 3 = .ok (.istore_n 3, 1) := by decide +kernel
theorem d_La_countOf_4 : decode m_La_countOf.2.1 4 = .ok (.iload_n 3, 1) := by decide +kernel
theorem d_La_countOf_5 : decode m_La_countOf.2.1 5 = .ok (.aload_n 0, 1) := by decide +kernel
theorem d_La_countOf_6 : decode m_La_countOf.2.1 6 = .ok (.getfield 27, 3) := by decide +kernel
theorem d_La_countOf_9 : decode m_La_countOf.2.1 9 = .ok (.if_icmp .ge 22, 3) := by decide +kernel
theorem d_La_countOf_12 : decode m_La_countOf.2.1 12 = .ok (.aload_n 0, 1) := by decide +kernel
theorem d_La_countOf_13 : decode m_La_countOf.2.1 13 = .ok (.getfield 9, 3) := by decide +kernel
theorem d_La_countOf_16 : decode m_La_countOf.2.1 16 = .ok (.iload_n 3, 1) := by decide +kernel
theorem d_La_countOf_17 : decode m_La_countOf.2.1 17 = .ok (.iaload, 1) := by decide +kernel
theorem d_La_countOf_18 : decode m_La_countOf.2.1 18 = .ok (.iload_n 1, 1) := by decide +kernel
theorem d_La_countOf_19 : decode m_La_countOf.2.1 19 = .ok (.if_icmp .ne 6, 3) := by decide +kernel
theorem d_La_countOf_22 : decode m_La_countOf.2.1 22 = .ok (.iinc 2 1, 3) := by decide +kernel
theorem d_La_countOf_25 : decode m_La_countOf.2.1 25 = .ok (.iinc 3 1, 3) := by decide +kernel
theorem d_La_countOf_28 : decode m_La_countOf.2.1 28 = .ok (.goto (-24), 3) := by decide +kernel
theorem d_La_countOf_31 : decode m_La_countOf.2.1 31 = .ok (.iload_n 2, 1) := by decide +kernel
theorem d_La_countOf_32 : decode m_La_countOf.2.1 32 = .ok (.ireturn, 1) := by decide +kernel
theorem d_Gl_isClear_0 : decode m_Gl_isClear.2.1 0 = .ok (.iconst 0, 1) := by decide +kernel
theorem d_Gl_isClear_1 : decode m_Gl_isClear.2.1 1 = .ok (.istore 5, 2) := by decide +kernel
theorem d_Gl_isClear_3 : decode m_Gl_isClear.2.1 3 = .ok (.iload 5, 2) := by decide +kernel
theorem d_Gl_isClear_5 : decode m_Gl_isClear.2.1 5 = .ok (.aload_n 0, 1) := by decide +kernel
theorem d_Gl_isClear_6 : decode m_Gl_isClear.2.1 6 = .ok (.getfield 31, 3) := by decide +kernel
theorem d_Gl_isClear_9 : decode m_Gl_isClear.2.1 9 = .ok (.if_icmp .ge 100, 3) := by decide +kernel
theorem d_Gl_isClear_12 : decode m_Gl_isClear.2.1 12 = .ok (.iload_n 1, 1) := by decide +kernel
theorem d_Gl_isClear_13 : decode m_Gl_isClear.2.1 13 = .ok (.iload_n 3, 1) := by decide +kernel
theorem d_Gl_isClear_14 : decode m_Gl_isClear.2.1 14 = .ok (.iadd, 1) := by decide +kernel
theorem d_Gl_isClear_15 : decode m_Gl_isClear.2.1 15 = .ok (.aload_n 0, 1) := by decide +kernel
theorem d_Gl_isClear_16 : decode m_Gl_isClear.2.1 16 = .ok (.getfield 9, 3) := by decide +kernel
theorem d_Gl_isClear_19 : decode m_Gl_isClear.2.1 19 = .ok (.iload 5, 2) := by decide +kernel
theorem d_Gl_isClear_21 : decode m_Gl_isClear.2.1 21 = .ok (.iaload, 1) := by decide +kernel
theorem d_Gl_isClear_22 : decode m_Gl_isClear.2.1 22 = .ok (.if_icmp .le 22, 3) := by decide +kernel
theorem d_Gl_isClear_25 : decode m_Gl_isClear.2.1 25 = .ok (.aload_n 0, 1) := by decide +kernel
theorem d_Gl_isClear_26 : decode m_Gl_isClear.2.1 26 = .ok (.getfield 9, 3) := by decide +kernel
theorem d_Gl_isClear_29 : decode m_Gl_isClear.2.1 29 = .ok (.iload 5, 2) := by decide +kernel
theorem d_Gl_isClear_31 : decode m_Gl_isClear.2.1 31 = .ok (.iaload, 1) := by decide +kernel
theorem d_Gl_isClear_32 : decode m_Gl_isClear.2.1 32 = .ok (.aload_n 0, 1) := by decide +kernel
theorem d_Gl_isClear_33 : decode m_Gl_isClear.2.1 33 = .ok (.getfield 18, 3) := by decide +kernel
theorem d_Gl_isClear_36 : decode m_Gl_isClear.2.1 36 = .ok (.iload 5, 2) := by decide +kernel
theorem d_Gl_isClear_38 : decode m_Gl_isClear.2.1 38 = .ok (.iaload, 1) := by decide +kernel
theorem d_Gl_isClear_39 : decode m_Gl_isClear.2.1 39 = .ok (.iadd, 1) := by decide +kernel
theorem d_Gl_isClear_40 : decode m_Gl_isClear.2.1 40 = .ok (.iload_n 1, 1) := by decide +kernel
theorem d_Gl_isClear_41 : decode m_Gl_isClear.2.1 41 = .ok (.if_icmp .gt 7, 3) := by decide +kernel
theorem d_Gl_isClear_44 : decode m_Gl_isClear.2.1 44 = .ok (.iconst 1, 1) := by decide +kernel
theorem d_Gl_isClear_45 : decode m_Gl_isClear.2.1 45 = .ok (.goto 4, 3) := by decide +kernel
theorem d_Gl_isClear_48 : decode m_Gl_isClear.2.1 48 = .ok (.iconst 0, 1) := by decide +kernel
theorem d_Gl_isClear_49 : decode m_Gl_isClear.2.1 49 = .ok (.istore 6, 2) := by decide +kernel
theorem d_Gl_isClear_51 : decode m_Gl_isClear.2.1 51 = .ok (.iload_n 2, 1) := by decide +kernel
theorem d_Gl_isClear_52 : decode m_Gl_isClear.2.1 52 = .ok (.iload 4, 2) := by decide +kernel
theorem d_Gl_isClear_54 : decode m_Gl_isClear.2.1 54 = .ok (.iadd, 1) := by decide +kernel
theorem d_Gl_isClear_55 : decode m_Gl_isClear.2.1 55 = .ok (.aload_n 0, 1) := by decide +kernel
theorem d_Gl_isClear_56 : decode m_Gl_isClear.2.1 56 = .ok (.getfield 15, 3) := by decide +kernel
theorem d_Gl_isClear_59 : decode m_Gl_isClear.2.1 59 = .ok (.iload 5, 2) := by decide +kernel
theorem d_Gl_isClear_61 : decode m_Gl_isClear.2.1 61 = .ok (.iaload, 1) := by decide +kernel
theorem d_Gl_isClear_62 : decode m_Gl_isClear.2.1 62 = .ok (.if_icmp .le 22, 3) := by decide +kernel
theorem d_Gl_isClear_65 : decode m_Gl_isClear.2.1 65 = .ok (.aload_n 0, 1) := by decide +kernel
theorem d_Gl_isClear_66 : decode m_Gl_isClear.2.1 66 = .ok (.getfield 15, 3) := by decide +kernel
theorem d_Gl_isClear_69 : decode m_Gl_isClear.2.1 69 = .ok (.iload 5, 2) := by decide +kernel
theorem d_Gl_isClear_71 : decode m_Gl_isClear.2.1 71 = .ok (.iaload, 1) := by decide +kernel
theorem d_Gl_isClear_72 : decode m_Gl_isClear.2.1 72 = .ok (.aload_n 0, 1) := by decide +kernel
theorem d_Gl_isClear_73 : decode m_Gl_isClear.2.1 73 = .ok (.getfield 21, 3) := by decide +kernel
theorem d_Gl_isClear_76 : decode m_Gl_isClear.2.1 76 = .ok (.iload 5, 2) := by decide +kernel
theorem d_Gl_isClear_78 : decode m_Gl_isClear.2.1 78 = .ok (.iaload, 1) := by decide +kernel
theorem d_Gl_isClear_79 : decode m_Gl_isClear.2.1 79 = .ok (.iadd, 1) := by decide +kernel
theorem d_Gl_isClear_80 : decode m_Gl_isClear.2.1 80 = .ok (.iload_n 2, 1) := by decide +kernel
theorem d_Gl_isClear_81 : decode m_Gl_isClear.2.1 81 = .ok (.if_icmp .gt 7, 3) := by decide +kernel
theorem d_Gl_isClear_84 : decode m_Gl_isClear.2.1 84 = .ok (.iconst 1, 1) := by decide +kernel
theorem d_Gl_isClear_85 : decode m_Gl_isClear.2.1 85 = .ok (.goto 4, 3) := by decide +kernel
theorem d_Gl_isClear_88 : decode m_Gl_isClear.2.1 88 = .ok (.iconst 0, 1) := by decide +kernel
theorem d_Gl_isClear_89 : decode m_Gl_isClear.2.1 89 = .ok (.istore 7, 2) := by decide +kernel
theorem d_Gl_isClear_91 : decode m_Gl_isClear.2.1 91 = .ok (.iload 6, 2) := by decide +kernel
theorem d_Gl_isClear_93 : decode m_Gl_isClear.2.1 93 = .ok (.ifCond .ne 10, 3) := by decide +kernel
theorem d_Gl_isClear_96 : decode m_Gl_isClear.2.1 96 = .ok (.iload 7, 2) := by decide +kernel
theorem d_Gl_isClear_98 : decode m_Gl_isClear.2.1 98 = .ok (.ifCond .ne 5, 3) := by decide +kernel
theorem d_Gl_isClear_101 : decode m_Gl_isClear.2.1 101 = .ok (.iconst 0, 1) := by decide +kernel
theorem d_Gl_isClear_102 : decode m_Gl_isClear.2.1 102 = .ok (.ireturn, 1) := by decide +kernel
theorem d_Gl_isClear_103 : decode m_Gl_isClear.2.1 103 = .ok (.iinc 5 1, 3) := by decide +kernel
theorem d_Gl_isClear_106 : decode m_Gl_isClear.2.1 106 = .ok (.goto (-103), 3) := by decide +kernel
theorem d_Gl_isClear_109 : decode m_Gl_isClear.2.1 109 = .ok (.iconst 1, 1) := by decide +kernel
theorem d_Gl_isClear_110 : decode m_Gl_isClear.2.1 110 = .ok (.ireturn, 1) := by decide +kernel
theorem d_La_put_0 : decode m_La_put.2.1 0 = .ok (.aload_n 0, 1) := by decide +kernel
theorem d_La_put_1 : decode m_La_put.2.1 1 = .ok (.getfield 27, 3) := by decide +kernel
theorem d_La_put_4 : decode m_La_put.2.1 4 = .ok (.bipush 36, 2) := by decide +kernel
theorem d_La_put_6 : decode m_La_put.2.1 6 = .ok (.if_icmp .lt 4, 3) := by decide +kernel
theorem d_La_put_9 : decode m_La_put.2.1 9 = .ok (.return_, 1) := by decide +kernel
theorem d_La_put_10 : decode m_La_put.2.1 10 = .ok (.aload_n 0, 1) := by decide +kernel
theorem d_La_put_11 : decode m_La_put.2.1 11 = .ok (.getfield 9, 3) := by decide +kernel
theorem d_La_put_14 : decode m_La_put.2.1 14 = .ok (.aload_n 0, 1) := by decide +kernel
theorem d_La_put_15 : decode m_La_put.2.1 15 = .ok (.getfield 27, 3) := by decide +kernel
theorem d_La_put_18 : decode m_La_put.2.1 18 = .ok (.iload_n 1, 1) := by decide +kernel
theorem d_La_put_19 : decode m_La_put.2.1 19 = .ok (.iastore, 1) := by decide +kernel
theorem d_La_put_20 : decode m_La_put.2.1 20 = .ok (.aload_n 0, 1) := by decide +kernel
theorem d_La_put_21 : decode m_La_put.2.1 21 = .ok (.getfield 15, 3) := by decide +kernel
theorem d_La_put_24 : decode m_La_put.2.1 24 = .ok (.aload_n 0, 1) := by decide +kernel
theorem d_La_put_25 : decode m_La_put.2.1 25 = .ok (.getfield 27, 3) := by decide +kernel
theorem d_La_put_28 : decode m_La_put.2.1 28 = .ok (.iload_n 2, 1) := by decide +kernel
theorem d_La_put_29 : decode m_La_put.2.1 29 = .ok (.iastore, 1) := by decide +kernel
theorem d_La_put_30 : decode m_La_put.2.1 30 = .ok (.aload_n 0, 1) := by decide +kernel
theorem d_La_put_31 : decode m_La_put.2.1 31 = .ok (.getfield 18, 3) := by decide +kernel
theorem d_La_put_34 : decode m_La_put.2.1 34 = .ok (.aload_n 0, 1) := by decide +kernel
theorem d_La_put_35 : decode m_La_put.2.1 35 = .ok (.getfield 27, 3) := by decide +kernel
theorem d_La_put_38 : decode m_La_put.2.1 38 = .ok (.iload_n 3, 1) := by decide +kernel
theorem d_La_put_39 : decode m_La_put.2.1 39 = .ok (.iastore, 1) := by decide +kernel
theorem d_La_put_40 : decode m_La_put.2.1 40 = .ok (.aload_n 0, 1) := by decide +kernel
theorem d_La_put_41 : decode m_La_put.2.1 41 = .ok (.getfield 21, 3) := by decide +kernel
theorem d_La_put_44 : decode m_La_put.2.1 44 = .ok (.aload_n 0, 1) := by decide +kernel
theorem d_La_put_45 : decode m_La_put.2.1 45 = .ok (.getfield 27, 3) := by decide +kernel
theorem d_La_put_48 : decode m_La_put.2.1 48 = .ok (.iload 4, 2) := by decide +kernel
theorem d_La_put_50 : decode m_La_put.2.1 50 = .ok (.iastore, 1) := by decide +kernel
theorem d_La_put_51 : decode m_La_put.2.1 51 = .ok (.aload_n 0, 1) := by decide +kernel
theorem d_La_put_52 : decode m_La_put.2.1 52 = .ok (.getfield 24, 3) := by decide +kernel
theorem d_La_put_55 : decode m_La_put.2.1 55 = .ok (.aload_n 0, 1) := by decide +kernel
theorem d_La_put_56 : decode m_La_put.2.1 56 = .ok (.getfield 27, 3) := by decide +kernel
theorem d_La_put_59 : decode m_La_put.2.1 59 = .ok (.iload 5, 2) := by decide +kernel
theorem d_La_put_61 : decode m_La_put.2.1 61 = .ok (.iastore, 1) := by decide +kernel
theorem d_La_put_62 : decode m_La_put.2.1 62 = .ok (.aload_n 0, 1) := by decide +kernel
theorem d_La_put_63 : decode m_La_put.2.1 63 = .ok (.dup, 1) := by decide +kernel
theorem d_La_put_64 : decode m_La_put.2.1 64 = .ok (.getfield 27, 3) := by decide +kernel
theorem d_La_put_67 : decode m_La_put.2.1 67 = .ok (.iconst 1, 1) := by decide +kernel
theorem d_La_put_68 : decode m_La_put.2.1 68 = .ok (.iadd, 1) := by decide +kernel
theorem d_La_put_69 : decode m_La_put.2.1 69 = .ok (.putfield 27, 3) := by decide +kernel
theorem d_La_put_72 : decode m_La_put.2.1 72 = .ok (.return_, 1) := by decide +kernel
theorem d_Ha_adoptLayout_0 : decode m_Ha_adoptLayout.2.1 0 = .ok (.aload_n 0, 1) := by decide +kernel
theorem d_Ha_adoptLayout_1 : decode m_Ha_adoptLayout.2.1 1 = .ok (.getfield 32, 3) := by decide +kernel
theorem d_Ha_adoptLayout_4 : decode m_Ha_adoptLayout.2.1 4 = .ok (.getfield 279, 3) := by decide +kernel
theorem d_Ha_adoptLayout_7 : decode m_Ha_adoptLayout.2.1 7 = .ok (.ifCond .ne 5, 3) := by decide +kernel
theorem d_Ha_adoptLayout_10 : decode m_Ha_adoptLayout.2.1 10 = .ok (.iconst 0, 1) := by decide +kernel
theorem d_Ha_adoptLayout_11 : decode m_Ha_adoptLayout.2.1 11 = .ok (.ireturn, 1) := by decide +kernel
theorem d_Ha_adoptLayout_12 : decode m_Ha_adoptLayout.2.1 12 = .ok (.aload_n 1, 1) := by decide +kernel
theorem d_Ha_adoptLayout_13 : decode m_Ha_adoptLayout.2.1 13 = .ok (.getfield 104, 3) := by decide +kernel
theorem d_Ha_adoptLayout_16 : decode m_Ha_adoptLayout.2.1 16 = .ok (.aload_n 0, 1) := by decide +kernel
theorem d_Ha_adoptLayout_17 : decode m_Ha_adoptLayout.2.1 17 = .ok (.getfield 32, 3) := by decide +kernel
theorem d_Ha_adoptLayout_20 : decode m_Ha_adoptLayout.2.1 20 = .ok (.aload_n 1, 1) := by decide +kernel
theorem d_Ha_adoptLayout_21 : decode m_Ha_adoptLayout.2.1 21 = .ok (.getfield 67, 3) := by decide +kernel
theorem d_Ha_adoptLayout_24 : decode m_Ha_adoptLayout.2.1 24 = .ok (.getfield 93, 3) := by decide +kernel
theorem d_Ha_adoptLayout_27 : decode m_Ha_adoptLayout.2.1 27 = .ok (.aload_n 1, 1) := by decide +kernel
theorem d_Ha_adoptLayout_28 : decode m_Ha_adoptLayout.2.1 28 = .ok (.getfield 67, 3) := by decide +kernel
theorem d_Ha_adoptLayout_31 : decode m_Ha_adoptLayout.2.1 31 = .ok (.getfield 101, 3) := by decide +kernel
theorem d_Ha_adoptLayout_34 : decode m_Ha_adoptLayout.2.1 34 = .ok (.invokevirtual 280, 3) := by decide +kernel
theorem d_Ha_adoptLayout_37 : decode m_Ha_adoptLayout.2.1 37 = .ok (.iconst 0, 1) := by decide +kernel
theorem d_Ha_adoptLayout_38 : decode m_Ha_adoptLayout.2.1 38 = .ok (.istore_n 2, 1) := by decide +kernel
theorem d_Ha_adoptLayout_39 : decode m_Ha_adoptLayout.2.1 39 = .ok (.iload_n 2, 1) := by decide +kernel
theorem d_Ha_adoptLayout_40 : decode m_Ha_adoptLayout.2.1 40 = .ok (.aload_n 0, 1) := by decide +kernel
theorem d_Ha_adoptLayout_41 : decode m_Ha_adoptLayout.2.1 41 = .ok (.getfield 32, 3) := by decide +kernel
theorem d_Ha_adoptLayout_44 : decode m_Ha_adoptLayout.2.1 44 = .ok (.getfield 279, 3) := by decide +kernel
theorem d_Ha_adoptLayout_47 : decode m_Ha_adoptLayout.2.1 47 = .ok (.if_icmp .ge 25, 3) := by decide +kernel
theorem d_Ha_adoptLayout_50 : decode m_Ha_adoptLayout.2.1 50 = .ok (.aload_n 0, 1) := by decide +kernel
theorem d_Ha_adoptLayout_51 : decode m_Ha_adoptLayout.2.1 51 = .ok (.getfield 18, 3) := by decide +kernel
theorem d_Ha_adoptLayout_54 : decode m_Ha_adoptLayout.2.1 54 = .ok (.aload_n 0, 1) := by decide +kernel
theorem d_Ha_adoptLayout_55 : decode m_Ha_adoptLayout.2.1 55 = .ok (.getfield 32, 3) := by decide +kernel
theorem d_Ha_adoptLayout_58 : decode m_Ha_adoptLayout.2.1 58 = .ok (.getfield 284, 3) := by decide +kernel
theorem d_Ha_adoptLayout_61 : decode m_Ha_adoptLayout.2.1 61 = .ok (.iload_n 2, 1) := by decide +kernel
theorem d_Ha_adoptLayout_62 : decode m_Ha_adoptLayout.2.1 62 = .ok (.iaload, 1) := by decide +kernel
theorem d_Ha_adoptLayout_63 : decode m_Ha_adoptLayout.2.1 63 = .ok (.invokevirtual 287, 3) := by decide +kernel
theorem d_Ha_adoptLayout_66 : decode m_Ha_adoptLayout.2.1 66 = .ok (.iinc 2 1, 3) := by decide +kernel
theorem d_Ha_adoptLayout_69 : decode m_Ha_adoptLayout.2.1 69 = .ok (.goto (-30), 3) := by decide +kernel
theorem d_Ha_adoptLayout_72 : decode m_Ha_adoptLayout.2.1 72 = .ok (.aload_n 0, 1) := by decide +kernel
theorem d_Ha_adoptLayout_73 : decode m_Ha_adoptLayout.2.1 73 = .ok (.getfield 32, 3) := by decide +kernel
theorem d_Ha_adoptLayout_76 : decode m_Ha_adoptLayout.2.1 76 = .ok (.getfield 279, 3) := by decide +kernel
theorem d_Ha_adoptLayout_79 : decode m_Ha_adoptLayout.2.1 79 = .ok (.ireturn, 1) := by decide +kernel
theorem d_Tr_grow_0 : decode m_Tr_grow.2.1 0 = .ok (.aload_n 0, 1) := by decide +kernel
theorem d_Tr_grow_1 : decode m_Tr_grow.2.1 1 = .ok (.invokevirtual 40, 3) := by decide +kernel
theorem d_Tr_grow_4 : decode m_Tr_grow.2.1 4 = .ok (.iconst 0, 1) := by decide +kernel
theorem d_Tr_grow_5 : decode m_Tr_grow.2.1 5 = .ok (.istore 4, 2) := by decide +kernel
theorem d_Tr_grow_7 : decode m_Tr_grow.2.1 7 = .ok (.aload_n 1, 1) := by decide +kernel
theorem d_Tr_grow_8 : decode m_Tr_grow.2.1 8 = .ok (.invokevirtual 43, 3) := by decide +kernel
theorem d_Tr_grow_11 : decode m_Tr_grow.2.1 11 = .ok (.istore 5, 2) := by decide +kernel
theorem d_Tr_grow_13 : decode m_Tr_grow.2.1 13 = .ok (.iconst 0, 1) := by decide +kernel
theorem d_Tr_grow_14 : decode m_Tr_grow.2.1 14 = .ok (.istore 6, 2) := by decide +kernel
theorem d_Tr_grow_16 : decode m_Tr_grow.2.1 16 = .ok (.iload 6, 2) := by decide +kernel
theorem d_Tr_grow_18 : decode m_Tr_grow.2.1 18 = .ok (.iload 5, 2) := by decide +kernel
theorem d_Tr_grow_20 : decode m_Tr_grow.2.1 20 = .ok (.if_icmp .ge 72, 3) := by decide +kernel
theorem d_Tr_grow_23 : decode m_Tr_grow.2.1 23 = .ok (.aload_n 1, 1) := by decide +kernel
theorem d_Tr_grow_24 : decode m_Tr_grow.2.1 24 = .ok (.iload 6, 2) := by decide +kernel
theorem d_Tr_grow_26 : decode m_Tr_grow.2.1 26 = .ok (.invokevirtual 49, 3) := by decide +kernel
theorem d_Tr_grow_29 : decode m_Tr_grow.2.1 29 = .ok (.istore 7, 2) := by decide +kernel
theorem d_Tr_grow_31 : decode m_Tr_grow.2.1 31 = .ok (.iload 7, 2) := by decide +kernel
theorem d_Tr_grow_33 : decode m_Tr_grow.2.1 33 = .ok (.iload_n 2, 1) := by decide +kernel
theorem d_Tr_grow_34 : decode m_Tr_grow.2.1 34 = .ok (.iload 4, 2) := by decide +kernel
theorem d_Tr_grow_36 : decode m_Tr_grow.2.1 36 = .ok (.isub, 1) := by decide +kernel
theorem d_Tr_grow_37 : decode m_Tr_grow.2.1 37 = .ok (.if_icmp .ge 21, 3) := by decide +kernel
theorem d_Tr_grow_40 : decode m_Tr_grow.2.1 40 = .ok (.aload_n 0, 1) := by decide +kernel
theorem d_Tr_grow_41 : decode m_Tr_grow.2.1 41 = .ok (.iconst 0, 1) := by decide +kernel
theorem d_Tr_grow_42 : decode m_Tr_grow.2.1 42 = .ok (.iload 4, 2) := by decide +kernel
theorem d_Tr_grow_44 : decode m_Tr_grow.2.1 44 = .ok (.iconst 0, 1) := by decide +kernel
theorem d_Tr_grow_45 : decode m_Tr_grow.2.1 45 = .ok (.iload_n 2, 1) := by decide +kernel
theorem d_Tr_grow_46 : decode m_Tr_grow.2.1 46 = .ok (.iload 4, 2) := by decide +kernel
theorem d_Tr_grow_48 : decode m_Tr_grow.2.1 48 = .ok (.isub, 1) := by decide +kernel
theorem d_Tr_grow_49 : decode m_Tr_grow.2.1 49 = .ok (.iload_n 3, 1) := by decide +kernel
theorem d_Tr_grow_50 : decode m_Tr_grow.2.1 50 = .ok (.iload 7, 2) := by decide +kernel
theorem d_Tr_grow_52 : decode m_Tr_grow.2.1 52 = .ok (.invokevirtual 53, 3) := by decide +kernel
theorem d_Tr_grow_55 : decode m_Tr_grow.2.1 55 = .ok (.goto 4, 3) := by decide +kernel
theorem d_Tr_grow_58 : decode m_Tr_grow.2.1 58 = .ok (.iconst (-1), 1) := by decide +kernel
theorem d_Tr_grow_59 : decode m_Tr_grow.2.1 59 = .ok (.istore 8, 2) := by decide +kernel
theorem d_Tr_grow_61 : decode m_Tr_grow.2.1 61 = .ok (.aload_n 0, 1) := by decide +kernel
theorem d_Tr_grow_62 : decode m_Tr_grow.2.1 62 = .ok (.aload_n 1, 1) := by decide +kernel
theorem d_Tr_grow_63 : decode m_Tr_grow.2.1 63 = .ok (.iload 6, 2) := by decide +kernel
theorem d_Tr_grow_65 : decode m_Tr_grow.2.1 65 = .ok (.iload 4, 2) := by decide +kernel
theorem d_Tr_grow_67 : decode m_Tr_grow.2.1 67 = .ok (.iload 7, 2) := by decide +kernel
theorem d_Tr_grow_69 : decode m_Tr_grow.2.1 69 = .ok (.iload_n 3, 1) := by decide +kernel
theorem d_Tr_grow_70 : decode m_Tr_grow.2.1 70 = .ok (.invokevirtual 57, 3) := by decide +kernel
theorem d_Tr_grow_73 : decode m_Tr_grow.2.1 73 = .ok (.aload_n 0, 1) := by decide +kernel
theorem d_Tr_grow_74 : decode m_Tr_grow.2.1 74 = .ok (.iload 8, 2) := by decide +kernel
theorem d_Tr_grow_76 : decode m_Tr_grow.2.1 76 = .ok (.invokevirtual 61, 3) := by decide +kernel
theorem d_Tr_grow_79 : decode m_Tr_grow.2.1 79 = .ok (.iload 4, 2) := by decide +kernel
theorem d_Tr_grow_81 : decode m_Tr_grow.2.1 81 = .ok (.iload 7, 2) := by decide +kernel
theorem d_Tr_grow_83 : decode m_Tr_grow.2.1 83 = .ok (.iadd, 1) := by decide +kernel
theorem d_Tr_grow_84 : decode m_Tr_grow.2.1 84 = .ok (.istore 4, 2) := by decide +kernel
theorem d_Tr_grow_86 : decode m_Tr_grow.2.1 86 = .ok (.iinc 6 1, 3) := by decide +kernel
theorem d_Tr_grow_89 : decode m_Tr_grow.2.1 89 = .ok (.goto (-73), 3) := by decide +kernel
theorem d_Tr_grow_92 : decode m_Tr_grow.2.1 92 = .ok (.aload_n 0, 1) := by decide +kernel
theorem d_Tr_grow_93 : decode m_Tr_grow.2.1 93 = .ok (.iload 4, 2) := by decide +kernel
theorem d_Tr_grow_95 : decode m_Tr_grow.2.1 95 = .ok (.iconst 0, 1) := by decide +kernel
theorem d_Tr_grow_96 : decode m_Tr_grow.2.1 96 = .ok (.iload_n 2, 1) := by decide +kernel
theorem d_Tr_grow_97 : decode m_Tr_grow.2.1 97 = .ok (.iload 4, 2) := by decide +kernel
theorem d_Tr_grow_99 : decode m_Tr_grow.2.1 99 = .ok (.isub, 1) := by decide +kernel
theorem d_Tr_grow_100 : decode m_Tr_grow.2.1 100 = .ok (.iload_n 3, 1) := by decide +kernel
theorem d_Tr_grow_101 : decode m_Tr_grow.2.1 101 = .ok (.invokevirtual 65, 3) := by decide +kernel
theorem d_Tr_grow_104 : decode m_Tr_grow.2.1 104 = .ok (.aload_n 0, 1) := by decide +kernel
theorem d_Tr_grow_105 : decode m_Tr_grow.2.1 105 = .ok (.getfield 33, 3) := by decide +kernel
theorem d_Tr_grow_108 : decode m_Tr_grow.2.1 108 = .ok (.iconst 0, 1) := by decide +kernel
theorem d_Tr_grow_109 : decode m_Tr_grow.2.1 109 = .ok (.iconst 1, 1) := by decide +kernel
theorem d_Tr_grow_110 : decode m_Tr_grow.2.1 110 = .ok (.iastore, 1) := by decide +kernel
theorem d_Tr_grow_111 : decode m_Tr_grow.2.1 111 = .ok (.return_, 1) := by decide +kernel
theorem d_Tr_clear_0 : decode m_Tr_clear.2.1 0 = .ok (.aload_n 0, 1) := by decide +kernel
theorem d_Tr_clear_1 : decode m_Tr_clear.2.1 1 = .ok (.iconst 0, 1) := by decide +kernel
theorem d_Tr_clear_2 : decode m_Tr_clear.2.1 2 = .ok (.putfield 36, 3) := by decide +kernel
theorem d_Tr_clear_5 : decode m_Tr_clear.2.1 5 = .ok (.return_, 1) := by decide +kernel
theorem d_La_columns_0 : decode m_La_columns.2.1 0 = .ok (.iconst 0, 1) := by decide +kernel
theorem d_La_columns_1 : decode m_La_columns.2.1 1 = .ok (.istore_n 1, 1) := by decide +kernel
theorem d_La_columns_2 : decode m_La_columns.2.1 2 = .ok (.iconst 0, 1) := by decide +kernel
theorem d_La_columns_3 : decode m_La_columns.2.1 3 = .ok (.istore_n 2, 1) := by decide +kernel
theorem d_La_columns_4 : decode m_La_columns.2.1 4 = .ok (.iload_n 2, 1) := by decide +kernel
theorem d_La_columns_5 : decode m_La_columns.2.1 5 = .ok (.aload_n 0, 1) := by decide +kernel
theorem d_La_columns_6 : decode m_La_columns.2.1 6 = .ok (.getfield 27, 3) := by decide +kernel
theorem d_La_columns_9 : decode m_La_columns.2.1 9 = .ok (.if_icmp .ge 22, 3) := by decide +kernel
theorem d_La_columns_12 : decode m_La_columns.2.1 12 = .ok (.iload_n 1, 1) := by decide +kernel
theorem d_La_columns_13 : decode m_La_columns.2.1 13 = .ok (.aload_n 0, 1) := by decide +kernel
theorem d_La_columns_14 : decode m_La_columns.2.1 14 = .ok (.getfield 21, 3) := by decide +kernel
theorem d_La_columns_17 : decode m_La_columns.2.1 17 = .ok (.iload_n 2, 1) := by decide +kernel
theorem d_La_columns_18 : decode m_La_columns.2.1 18 = .ok (.iaload, 1) := by decide +kernel
theorem d_La_columns_19 : decode m_La_columns.2.1 19 = .ok (.iconst 1, 1) := by decide +kernel
theorem d_La_columns_20 : decode m_La_columns.2.1 20 = .ok (.iadd, 1) := by decide +kernel
theorem d_La_columns_21 : decode m_La_columns.2.1 21 = .ok (.invokestatic 31, 3) := by decide +kernel
theorem d_La_columns_24 : decode m_La_columns.2.1 24 = .ok (.istore_n 1, 1) := by decide +kernel
theorem d_La_columns_25 : decode m_La_columns.2.1 25 = .ok (.iinc 2 1, 3) := by decide +kernel
theorem d_La_columns_28 : decode m_La_columns.2.1 28 = .ok (.goto (-24), 3) := by decide +kernel
theorem d_La_columns_31 : decode m_La_columns.2.1 31 = .ok (.iload_n 1, 1) := by decide +kernel
theorem d_La_columns_32 : decode m_La_columns.2.1 32 = .ok (.ireturn, 1) := by decide +kernel
theorem d_La_columnWidth_0 : decode m_La_columnWidth.2.1 0 = .ok (.iconst 0, 1) := by decide +kernel
theorem d_La_columnWidth_1 : decode m_La_columnWidth.2.1 1 = .ok (.istore_n 2, 1) := by decide +kernel
theorem d_La_columnWidth_2 : decode m_La_columnWidth.2.1 2 = .ok (.aload_n 0, 1) := by decide +kernel
theorem d_La_columnWidth_3 : decode m_La_columnWidth.2.1 3 = .ok (.iload_n 1, 1) := by decide +kernel
theorem d_La_columnWidth_4 : decode m_La_columnWidth.2.1 4 = .ok (.invokevirtual 41, 3) := by decide +kernel
theorem d_La_columnWidth_7 : decode m_La_columnWidth.2.1 7 = .ok (.istore_n 3, 1) := by decide +kernel
theorem d_La_columnWidth_8 : decode m_La_columnWidth.2.1 8 = .ok (.iconst 0, 1) := by decide +kernel
theorem d_La_columnWidth_9 : decode m_La_columnWidth.2.1 9 = .ok (.istore 4, 2) := by decide +kernel
theorem d_La_columnWidth_11 : decode m_La_columnWidth.2.1 11 = .ok (.iload 4, 2) := by decide +kernel
theorem d_La_columnWidth_13 : decode m_La_columnWidth.2.1 13 = .ok (.iload_n 3, 1) := by decide +kernel
theorem d_La_columnWidth_14 : decode m_La_columnWidth.2.1 14 = .ok (.if_icmp .ge 21, 3) := by decide +kernel
theorem d_La_columnWidth_17 : decode m_La_columnWidth.2.1 17 = .ok (.iload_n 2, 1) := by decide +kernel
theorem d_La_columnWidth_18 : decode m_La_columnWidth.2.1 18 = .ok (.aload_n 0, 1) := by decide +kernel
theorem d_La_columnWidth_19 : decode m_La_columnWidth.2.1 19 = .ok (.iload_n 1, 1) := by decide +kernel
theorem d_La_columnWidth_20 : decode m_La_columnWidth.2.1 20 = .ok (.iload 4, 2) := by decide +kernel
theorem d_La_columnWidth_22 : decode m_La_columnWidth.2.1 22 = .ok (.invokevirtual 45, 3) := by decide +kernel
theorem d_La_columnWidth_25 : decode m_La_columnWidth.2.1 25 = .ok (.invokestatic 31, 3) := by decide +kernel
theorem d_La_columnWidth_28 : decode m_La_columnWidth.2.1 28 = .ok (.istore_n 2, 1) := by decide +kernel
theorem d_La_columnWidth_29 : decode m_La_columnWidth.2.1 29 = .ok (.iinc 4 1, 3) := by decide +kernel
theorem d_La_columnWidth_32 : decode m_La_columnWidth.2.1 32 = .ok (.goto (-21), 3) := by decide +kernel
theorem d_La_columnWidth_35 : decode m_La_columnWidth.2.1 35 = .ok (.iload_n 2, 1) := by decide +kernel
theorem d_La_columnWidth_36 : decode m_La_columnWidth.2.1 36 = .ok (.ireturn, 1) := by decide +kernel
theorem d_La_rowsIn_0 : decode m_La_rowsIn.2.1 0 = .ok (.iconst 0, 1) := by decide +kernel
theorem d_La_rowsIn_1 : decode m_La_rowsIn.2.1 1 = .ok (.istore_n 2, 1) := by decide +kernel
theorem d_La_rowsIn_2 : decode m_La_rowsIn.2.1 2 = .ok (.iconst 0, 1) := by decide +kernel
theorem d_La_rowsIn_3 : decode m_La_rowsIn.2.1 3 = .ok (.istore_n 3, 1) := by decide +kernel
theorem d_La_rowsIn_4 : decode m_La_rowsIn.2.1 4 = .ok (.iload_n 3, 1) := by decide +kernel
theorem d_La_rowsIn_5 : decode m_La_rowsIn.2.1 5 = .ok (.aload_n 0, 1) := by decide +kernel
theorem d_La_rowsIn_6 : decode m_La_rowsIn.2.1 6 = .ok (.getfield 27, 3) := by decide +kernel
theorem d_La_rowsIn_9 : decode m_La_rowsIn.2.1 9 = .ok (.if_icmp .ge 32, 3) := by decide +kernel
theorem d_La_rowsIn_12 : decode m_La_rowsIn.2.1 12 = .ok (.aload_n 0, 1) := by decide +kernel
theorem d_La_rowsIn_13 : decode m_La_rowsIn.2.1 13 = .ok (.getfield 21, 3) := by decide +kernel
theorem d_La_rowsIn_16 : decode m_La_rowsIn.2.1 16 = .ok (.iload_n 3, 1) := by decide +kernel
theorem d_La_rowsIn_17 : decode m_La_rowsIn.2.1 17 = .ok (.iaload, 1) := by decide +kernel
theorem d_La_rowsIn_18 : decode m_La_rowsIn.2.1 18 = .ok (.iload_n 1, 1) := by decide +kernel
theorem d_La_rowsIn_19 : decode m_La_rowsIn.2.1 19 = .ok (.if_icmp .ne 16, 3) := by decide +kernel
theorem d_La_rowsIn_22 : decode m_La_rowsIn.2.1 22 = .ok (.iload_n 2, 1) := by decide +kernel
theorem d_La_rowsIn_23 : decode m_La_rowsIn.2.1 23 = .ok (.aload_n 0, 1) := by decide +kernel
theorem d_La_rowsIn_24 : decode m_La_rowsIn.2.1 24 = .ok (.getfield 24, 3) := by decide +kernel
theorem d_La_rowsIn_27 : decode m_La_rowsIn.2.1 27 = .ok (.iload_n 3, 1) := by decide +kernel
theorem d_La_rowsIn_28 : decode m_La_rowsIn.2.1 28 = .ok (.iaload, 1) := by decide +kernel
theorem d_La_rowsIn_29 : decode m_La_rowsIn.2.1 29 = .ok (.iconst 1, 1) := by decide +kernel
theorem d_La_rowsIn_30 : decode m_La_rowsIn.2.1 30 = .ok (.iadd, 1) := by decide +kernel
theorem d_La_rowsIn_31 : decode m_La_rowsIn.2.1 31 = .ok (.invokestatic 31, 3) := by decide +kernel
theorem d_La_rowsIn_34 : decode m_La_rowsIn.2.1 34 = .ok (.istore_n 2, 1) := by decide +kernel
theorem d_La_rowsIn_35 : decode m_La_rowsIn.2.1 35 = .ok (.iinc 3 1, 3) := by decide +kernel
theorem d_La_rowsIn_38 : decode m_La_rowsIn.2.1 38 = .ok (.goto (-34), 3) := by decide +kernel
theorem d_La_rowsIn_41 : decode m_La_rowsIn.2.1 41 = .ok (.iload_n 2, 1) := by decide +kernel
theorem d_La_rowsIn_42 : decode m_La_rowsIn.2.1 42 = .ok (.ireturn, 1) := by decide +kernel
theorem d_La_rowWidth_0 : decode m_La_rowWidth.2.1 0 = .ok (.iconst 0, 1) := by decide +kernel
theorem d_La_rowWidth_1 : decode m_La_rowWidth.2.1 1 = .ok (.istore_n 3, 1) := by decide +kernel
theorem d_La_rowWidth_2 : decode m_La_rowWidth.2.1 2 = .ok (.iconst 0, 1) := by decide +kernel
theorem d_La_rowWidth_3 : decode m_La_rowWidth.2.1 3 = .ok (.istore 4, 2) := by decide +kernel
theorem d_La_rowWidth_5 : decode m_La_rowWidth.2.1 5 = .ok (.iload 4, 2) := by decide +kernel
theorem d_La_rowWidth_7 : decode m_La_rowWidth.2.1 7 = .ok (.aload_n 0, 1) := by decide +kernel
theorem d_La_rowWidth_8 : decode m_La_rowWidth.2.1 8 = .ok (.getfield 27, 3) := by decide +kernel
theorem d_La_rowWidth_11 : decode m_La_rowWidth.2.1 11 = .ok (.if_icmp .ge 30, 3) := by decide +kernel
theorem d_La_rowWidth_14 : decode m_La_rowWidth.2.1 14 = .ok (.aload_n 0, 1) := by decide +kernel
theorem d_La_rowWidth_15 : decode m_La_rowWidth.2.1 15 = .ok (.iload 4, 2) := by decide +kernel
theorem d_La_rowWidth_17 : decode m_La_rowWidth.2.1 17 = .ok (.iload_n 1, 1) := by decide +kernel
theorem d_La_rowWidth_18 : decode m_La_rowWidth.2.1 18 = .ok (.iload_n 2, 1) := by decide +kernel
theorem d_La_rowWidth_19 : decode m_La_rowWidth.2.1 19 = .ok (.invokevirtual 37, 3) := by decide +kernel
theorem d_La_rowWidth_22 : decode m_La_rowWidth.2.1 22 = .ok (.ifCond .eq 13, 3) := by decide +kernel
theorem d_La_rowWidth_25 : decode m_La_rowWidth.2.1 25 = .ok (.iload_n 3, 1) := by decide +kernel
theorem d_La_rowWidth_26 : decode m_La_rowWidth.2.1 26 = .ok (.aload_n 0, 1) := by decide +kernel
theorem d_La_rowWidth_27 : decode m_La_rowWidth.2.1 27 = .ok (.getfield 15, 3) := by decide +kernel
theorem d_La_rowWidth_30 : decode m_La_rowWidth.2.1 30 = .ok (.iload 4, 2) := by decide +kernel
theorem d_La_rowWidth_32 : decode m_La_rowWidth.2.1 32 = .ok (.iaload, 1) := by decide +kernel
theorem d_La_rowWidth_33 : decode m_La_rowWidth.2.1 33 = .ok (.iadd, 1) := by decide +kernel
theorem d_La_rowWidth_34 : decode m_La_rowWidth.2.1 34 = .ok (.istore_n 3, 1) := by decide +kernel
theorem d_La_rowWidth_35 : decode m_La_rowWidth.2.1 35 = .ok (.iinc 4 1, 3) := by decide +kernel
theorem d_La_rowWidth_38 : decode m_La_rowWidth.2.1 38 = .ok (.goto (-33), 3) := by decide +kernel
theorem d_La_rowWidth_41 : decode m_La_rowWidth.2.1 41 = .ok (.iload_n 3, 1) := by decide +kernel
theorem d_La_rowWidth_42 : decode m_La_rowWidth.2.1 42 = .ok (.ireturn, 1) := by decide +kernel
theorem d_La_isIn_0 : decode m_La_isIn.2.1 0 = .ok (.aload_n 0, 1) := by decide +kernel
theorem d_La_isIn_1 : decode m_La_isIn.2.1 1 = .ok (.getfield 21, 3) := by decide +kernel
theorem d_La_isIn_4 : decode m_La_isIn.2.1 4 = .ok (.iload_n 1, 1) := by decide +kernel
theorem d_La_isIn_5 : decode m_La_isIn.2.1 5 = .ok (.iaload, 1) := by decide +kernel
theorem d_La_isIn_6 : decode m_La_isIn.2.1 6 = .ok (.iload_n 2, 1) := by decide +kernel
theorem d_La_isIn_7 : decode m_La_isIn.2.1 7 = .ok (.if_icmp .ne 17, 3) := by decide +kernel
theorem d_La_isIn_10 : decode m_La_isIn.2.1 10 = .ok (.aload_n 0, 1) := by decide +kernel
theorem d_La_isIn_11 : decode m_La_isIn.2.1 11 = .ok (.getfield 24, 3) := by decide +kernel
theorem d_La_isIn_14 : decode m_La_isIn.2.1 14 = .ok (.iload_n 1, 1) := by decide +kernel
theorem d_La_isIn_15 : decode m_La_isIn.2.1 15 = .ok (.iaload, 1) := by decide +kernel
theorem d_La_isIn_16 : decode m_La_isIn.2.1 16 = .ok (.iload_n 3, 1) := by decide +kernel
theorem d_La_isIn_17 : decode m_La_isIn.2.1 17 = .ok (.if_icmp .ne 7, 3) := by decide +kernel
theorem d_La_isIn_20 : decode m_La_isIn.2.1 20 = .ok (.iconst 1, 1) := by decide +kernel
theorem d_La_isIn_21 : decode m_La_isIn.2.1 21 = .ok (.goto 4, 3) := by decide +kernel
theorem d_La_isIn_24 : decode m_La_isIn.2.1 24 = .ok (.iconst 0, 1) := by decide +kernel
theorem d_La_isIn_25 : decode m_La_isIn.2.1 25 = .ok (.ireturn, 1) := by decide +kernel
theorem d_Tr_add_0 : decode m_Tr_add.2.1 0 = .ok (.aload_n 0, 1) := by decide +kernel
theorem d_Tr_add_1 : decode m_Tr_add.2.1 1 = .ok (.getfield 36, 3) := by decide +kernel
theorem d_Tr_add_4 : decode m_Tr_add.2.1 4 = .ok (.sipush 145, 3) := by decide +kernel
theorem d_Tr_add_7 : decode m_Tr_add.2.1 7 = .ok (.if_icmp .lt 5, 3) := by decide +kernel
theorem d_Tr_add_10 : decode m_Tr_add.2.1 10 = .ok (.iconst (-1), 1) := by decide +kernel
theorem d_Tr_add_11 : decode m_Tr_add.2.1 11 = .ok (.ireturn, 1) := by decide +kernel
theorem d_Tr_add_12 : decode m_Tr_add.2.1 12 = .ok (.aload_n 0, 1) := by decide +kernel
theorem d_Tr_add_13 : decode m_Tr_add.2.1 13 = .ok (.getfield 9, 3) := by decide +kernel
theorem d_Tr_add_16 : decode m_Tr_add.2.1 16 = .ok (.aload_n 0, 1) := by decide +kernel
theorem d_Tr_add_17 : decode m_Tr_add.2.1 17 = .ok (.getfield 36, 3) := by decide +kernel
theorem d_Tr_add_20 : decode m_Tr_add.2.1 20 = .ok (.iload_n 1, 1) := by decide +kernel
theorem d_Tr_add_21 : decode m_Tr_add.2.1 21 = .ok (.iastore, 1) := by decide +kernel
theorem d_Tr_add_22 : decode m_Tr_add.2.1 22 = .ok (.aload_n 0, 1) := by decide +kernel
theorem d_Tr_add_23 : decode m_Tr_add.2.1 23 = .ok (.getfield 15, 3) := by decide +kernel
theorem d_Tr_add_26 : decode m_Tr_add.2.1 26 = .ok (.aload_n 0, 1) := by decide +kernel
theorem d_Tr_add_27 : decode m_Tr_add.2.1 27 = .ok (.getfield 36, 3) := by decide +kernel
theorem d_Tr_add_30 : decode m_Tr_add.2.1 30 = .ok (.iload_n 2, 1) := by decide +kernel
theorem d_Tr_add_31 : decode m_Tr_add.2.1 31 = .ok (.iastore, 1) := by decide +kernel
theorem d_Tr_add_32 : decode m_Tr_add.2.1 32 = .ok (.aload_n 0, 1) := by decide +kernel
theorem d_Tr_add_33 : decode m_Tr_add.2.1 33 = .ok (.getfield 18, 3) := by decide +kernel
theorem d_Tr_add_36 : decode m_Tr_add.2.1 36 = .ok (.aload_n 0, 1) := by decide +kernel
theorem d_Tr_add_37 : decode m_Tr_add.2.1 37 = .ok (.getfield 36, 3) := by decide +kernel
theorem d_Tr_add_40 : decode m_Tr_add.2.1 40 = .ok (.iload_n 3, 1) := by decide +kernel
theorem d_Tr_add_41 : decode m_Tr_add.2.1 41 = .ok (.iastore, 1) := by decide +kernel
theorem d_Tr_add_42 : decode m_Tr_add.2.1 42 = .ok (.aload_n 0, 1) := by decide +kernel
theorem d_Tr_add_43 : decode m_Tr_add.2.1 43 = .ok (.getfield 21, 3) := by decide +kernel
theorem d_Tr_add_46 : decode m_Tr_add.2.1 46 = .ok (.aload_n 0, 1) := by decide +kernel
theorem d_Tr_add_47 : decode m_Tr_add.2.1 47 = .ok (.getfield 36, 3) := by decide +kernel
theorem d_Tr_add_50 : decode m_Tr_add.2.1 50 = .ok (.iload 4, 2) := by decide +kernel
theorem d_Tr_add_52 : decode m_Tr_add.2.1 52 = .ok (.iastore, 1) := by decide +kernel
theorem d_Tr_add_53 : decode m_Tr_add.2.1 53 = .ok (.aload_n 0, 1) := by decide +kernel
theorem d_Tr_add_54 : decode m_Tr_add.2.1 54 = .ok (.getfield 24, 3) := by decide +kernel
theorem d_Tr_add_57 : decode m_Tr_add.2.1 57 = .ok (.aload_n 0, 1) := by decide +kernel
theorem d_Tr_add_58 : decode m_Tr_add.2.1 58 = .ok (.getfield 36, 3) := by decide +kernel
theorem d_Tr_add_61 : decode m_Tr_add.2.1 61 = .ok (.iload 5, 2) := by decide +kernel
theorem d_Tr_add_63 : decode m_Tr_add.2.1 63 = .ok (.iastore, 1) := by decide +kernel
theorem d_Tr_add_64 : decode m_Tr_add.2.1 64 = .ok (.aload_n 0, 1) := by decide +kernel
theorem d_Tr_add_65 : decode m_Tr_add.2.1 65 = .ok (.getfield 27, 3) := by decide +kernel
theorem d_Tr_add_68 : decode m_Tr_add.2.1 68 = .ok (.aload_n 0, 1) := by decide +kernel
theorem d_Tr_add_69 : decode m_Tr_add.2.1 69 = .ok (.getfield 36, 3) := by decide +kernel
theorem d_Tr_add_72 : decode m_Tr_add.2.1 72 = .ok (.iload 6, 2) := by decide +kernel
theorem d_Tr_add_74 : decode m_Tr_add.2.1 74 = .ok (.iastore, 1) := by decide +kernel
theorem d_Tr_add_75 : decode m_Tr_add.2.1 75 = .ok (.aload_n 0, 1) := by decide +kernel
theorem d_Tr_add_76 : decode m_Tr_add.2.1 76 = .ok (.getfield 30, 3) := by decide +kernel
theorem d_Tr_add_79 : decode m_Tr_add.2.1 79 = .ok (.aload_n 0, 1) := by decide +kernel
theorem d_Tr_add_80 : decode m_Tr_add.2.1 80 = .ok (.getfield 36, 3) := by decide +kernel
theorem d_Tr_add_83 : decode m_Tr_add.2.1 83 = .ok (.iconst (-1), 1) := by decide +kernel
theorem d_Tr_add_84 : decode m_Tr_add.2.1 84 = .ok (.iastore, 1) := by decide +kernel
theorem d_Tr_add_85 : decode m_Tr_add.2.1 85 = .ok (.aload_n 0, 1) := by decide +kernel
theorem d_Tr_add_86 : decode m_Tr_add.2.1 86 = .ok (.getfield 33, 3) := by decide +kernel
theorem d_Tr_add_89 : decode m_Tr_add.2.1 89 = .ok (.aload_n 0, 1) := by decide +kernel
theorem d_Tr_add_90 : decode m_Tr_add.2.1 90 = .ok (.getfield 36, 3) := by decide +kernel
theorem d_Tr_add_93 : decode m_Tr_add.2.1 93 = .ok (.iconst 0, 1) := by decide +kernel
theorem d_Tr_add_94 : decode m_Tr_add.2.1 94 = .ok (.iastore, 1) := by decide +kernel
theorem d_Tr_add_95 : decode m_Tr_add.2.1 95 = .ok (.aload_n 0, 1) := by decide +kernel
theorem d_Tr_add_96 : decode m_Tr_add.2.1 96 = .ok (.dup, 1) := by decide +kernel
theorem d_Tr_add_97 : decode m_Tr_add.2.1 97 = .ok (.getfield 36, 3) := by decide +kernel
theorem d_Tr_add_100 : decode m_Tr_add.2.1 100 = .ok (.iconst 1, 1) := by decide +kernel
theorem d_Tr_add_101 : decode m_Tr_add.2.1 101 = .ok (.iadd, 1) := by decide +kernel
theorem d_Tr_add_102 : decode m_Tr_add.2.1 102 = .ok (.putfield 36, 3) := by decide +kernel
theorem d_Tr_add_105 : decode m_Tr_add.2.1 105 = .ok (.aload_n 0, 1) := by decide +kernel
theorem d_Tr_add_106 : decode m_Tr_add.2.1 106 = .ok (.getfield 36, 3) := by decide +kernel
theorem d_Tr_add_109 : decode m_Tr_add.2.1 109 = .ok (.iconst 1, 1) := by decide +kernel
theorem d_Tr_add_110 : decode m_Tr_add.2.1 110 = .ok (.isub, 1) := by decide +kernel
theorem d_Tr_add_111 : decode m_Tr_add.2.1 111 = .ok (.ireturn, 1) := by decide +kernel
theorem d_Tr_growColumn_0 : decode m_Tr_growColumn.2.1 0 = .ok (.iconst 0, 1) := by decide +kernel
theorem d_Tr_growColumn_1 : decode m_Tr_growColumn.2.1 1 = .ok (.istore 6, 2) := by decide +kernel
theorem d_Tr_growColumn_3 : decode m_Tr_growColumn.2.1 3 = .ok (.aload_n 1, 1) := by decide +kernel
theorem d_Tr_growColumn_4 : decode m_Tr_growColumn.2.1 4 = .ok (.iload_n 2, 1) := by decide +kernel
theorem d_Tr_growColumn_5 : decode m_Tr_growColumn.2.1 5 = .ok (.invokevirtual 69, 3) := by decide +kernel
theorem d_Tr_growColumn_8 : decode m_Tr_growColumn.2.1 8 = .ok (.istore 7, 2) := by decide +kernel
theorem d_Tr_growColumn_10 : decode m_Tr_growColumn.2.1 10 = .ok (.iconst 0, 1) := by decide +kernel
theorem d_Tr_growColumn_11 : decode m_Tr_growColumn.2.1 11 = .ok (.istore 8, 2) := by decide +kernel
theorem d_Tr_growColumn_13 : decode m_Tr_growColumn.2.1 13 = .ok (.iload 8, 2) := by decide +kernel
theorem d_Tr_growColumn_15 : decode m_Tr_growColumn.2.1 15 = .ok (.iload 7, 2) := by decide +kernel
theorem d_Tr_growColumn_17 : decode m_Tr_growColumn.2.1 17 = .ok (.if_icmp .ge 79, 3) := by decide +kernel
theorem d_Tr_growColumn_20 : decode m_Tr_growColumn.2.1 20 = .ok (.aload_n 1, 1) := by decide +kernel
theorem d_Tr_growColumn_21 : decode m_Tr_growColumn.2.1 21 = .ok (.iload_n 2, 1) := by decide +kernel
theorem d_Tr_growColumn_22 : decode m_Tr_growColumn.2.1 22 = .ok (.iload 8, 2) := by decide +kernel
theorem d_Tr_growColumn_24 : decode m_Tr_growColumn.2.1 24 = .ok (.invokevirtual 72, 3) := by decide +kernel
theorem d_Tr_growColumn_27 : decode m_Tr_growColumn.2.1 27 = .ok (.istore 9, 2) := by decide +kernel
theorem d_Tr_growColumn_29 : decode m_Tr_growColumn.2.1 29 = .ok (.iload 9, 2) := by decide +kernel
theorem d_Tr_growColumn_31 : decode m_Tr_growColumn.2.1 31 = .ok (.iload 5, 2) := by decide +kernel
theorem d_Tr_growColumn_33 : decode m_Tr_growColumn.2.1 33 = .ok (.iload 6, 2) := by decide +kernel
theorem d_Tr_growColumn_35 : decode m_Tr_growColumn.2.1 35 = .ok (.isub, 1) := by decide +kernel
theorem d_Tr_growColumn_36 : decode m_Tr_growColumn.2.1 36 = .ok (.if_icmp .ge 23, 3) := by decide +kernel
theorem d_Tr_growColumn_39 : decode m_Tr_growColumn.2.1 39 = .ok (.aload_n 0, 1) := by decide +kernel
theorem d_Tr_growColumn_40 : decode m_Tr_growColumn.2.1 40 = .ok (.iconst 1, 1) := by decide +kernel
theorem d_Tr_growColumn_41 : decode m_Tr_growColumn.2.1 41 = .ok (.iload_n 3, 1) := by decide +kernel
theorem d_Tr_growColumn_42 : decode m_Tr_growColumn.2.1 42 = .ok (.iload 6, 2) := by decide +kernel
theorem d_Tr_growColumn_44 : decode m_Tr_growColumn.2.1 44 = .ok (.iload 4, 2) := by decide +kernel
theorem d_Tr_growColumn_46 : decode m_Tr_growColumn.2.1 46 = .ok (.iload 5, 2) := by decide +kernel
theorem d_Tr_growColumn_48 : decode m_Tr_growColumn.2.1 48 = .ok (.iload 6, 2) := by decide +kernel
theorem d_Tr_growColumn_50 : decode m_Tr_growColumn.2.1 50 = .ok (.isub, 1) := by decide +kernel
theorem d_Tr_growColumn_51 : decode m_Tr_growColumn.2.1 51 = .ok (.iload 9, 2) := by decide +kernel
theorem d_Tr_growColumn_53 : decode m_Tr_growColumn.2.1 53 = .ok (.invokevirtual 53, 3) := by decide +kernel
theorem d_Tr_growColumn_56 : decode m_Tr_growColumn.2.1 56 = .ok (.goto 4, 3) := by decide +kernel
theorem d_Tr_growColumn_59 : decode m_Tr_growColumn.2.1 59 = .ok (.iconst (-1), 1) := by decide +kernel
theorem d_Tr_growColumn_60 : decode m_Tr_growColumn.2.1 60 = .ok (.istore 10, 2) := by decide +kernel
theorem d_Tr_growColumn_62 : decode m_Tr_growColumn.2.1 62 = .ok (.aload_n 0, 1) := by decide +kernel
theorem d_Tr_growColumn_63 : decode m_Tr_growColumn.2.1 63 = .ok (.aload_n 1, 1) := by decide +kernel
theorem d_Tr_growColumn_64 : decode m_Tr_growColumn.2.1 64 = .ok (.iload_n 2, 1) := by decide +kernel
theorem d_Tr_growColumn_65 : decode m_Tr_growColumn.2.1 65 = .ok (.iload 8, 2) := by decide +kernel
theorem d_Tr_growColumn_67 : decode m_Tr_growColumn.2.1 67 = .ok (.iload_n 3, 1) := by decide +kernel
theorem d_Tr_growColumn_68 : decode m_Tr_growColumn.2.1 68 = .ok (.iload 6, 2) := by decide +kernel
theorem d_Tr_growColumn_70 : decode m_Tr_growColumn.2.1 70 = .ok (.iload 4, 2) := by decide +kernel
theorem d_Tr_growColumn_72 : decode m_Tr_growColumn.2.1 72 = .ok (.iload 9, 2) := by decide +kernel
theorem d_Tr_growColumn_74 : decode m_Tr_growColumn.2.1 74 = .ok (.invokevirtual 76, 3) := by decide +kernel
theorem d_Tr_growColumn_77 : decode m_Tr_growColumn.2.1 77 = .ok (.aload_n 0, 1) := by decide +kernel
theorem d_Tr_growColumn_78 : decode m_Tr_growColumn.2.1 78 = .ok (.iload 10, 2) := by decide +kernel
theorem d_Tr_growColumn_80 : decode m_Tr_growColumn.2.1 80 = .ok (.invokevirtual 61, 3) := by decide +kernel
theorem d_Tr_growColumn_83 : decode m_Tr_growColumn.2.1 83 = .ok (.iload 6, 2) := by decide +kernel
theorem d_Tr_growColumn_85 : decode m_Tr_growColumn.2.1 85 = .ok (.iload 9, 2) := by decide +kernel
theorem d_Tr_growColumn_87 : decode m_Tr_growColumn.2.1 87 = .ok (.iadd, 1) := by decide +kernel
theorem d_Tr_growColumn_88 : decode m_Tr_growColumn.2.1 88 = .ok (.istore 6, 2) := by decide +kernel
theorem d_Tr_growColumn_90 : decode m_Tr_growColumn.2.1 90 = .ok (.iinc 8 1, 3) := by decide +kernel
theorem d_Tr_growColumn_93 : decode m_Tr_growColumn.2.1 93 = .ok (.goto (-80), 3) := by decide +kernel
theorem d_Tr_growColumn_96 : decode m_Tr_growColumn.2.1 96 = .ok (.aload_n 0, 1) := by decide +kernel
theorem d_Tr_growColumn_97 : decode m_Tr_growColumn.2.1 97 = .ok (.iload_n 3, 1) := by decide +kernel
theorem d_Tr_growColumn_98 : decode m_Tr_growColumn.2.1 98 = .ok (.iload 6, 2) := by decide +kernel
theorem d_Tr_growColumn_100 : decode m_Tr_growColumn.2.1 100 = .ok (.iload 4, 2) := by decide +kernel
theorem d_Tr_growColumn_102 : decode m_Tr_growColumn.2.1 102 = .ok (.iload 5, 2) := by decide +kernel
theorem d_Tr_growColumn_104 : decode m_Tr_growColumn.2.1 104 = .ok (.iload 6, 2) := by decide +kernel
theorem d_Tr_growColumn_106 : decode m_Tr_growColumn.2.1 106 = .ok (.isub, 1) := by decide +kernel
theorem d_Tr_growColumn_107 : decode m_Tr_growColumn.2.1 107 = .ok (.invokevirtual 65, 3) := by decide +kernel
theorem d_Tr_growColumn_110 : decode m_Tr_growColumn.2.1 110 = .ok (.return_, 1) := by decide +kernel
theorem d_La_rowHeight_0 : decode m_La_rowHeight.2.1 0 = .ok (.iconst 0, 1) := by decide +kernel
theorem d_La_rowHeight_1 : decode m_La_rowHeight.2.1 1 = .ok (.istore_n 3, 1) := by decide +kernel
theorem d_La_rowHeight_2 : decode m_La_rowHeight.2.1 2 = .ok (.iconst 0, 1) := by decide +kernel
theorem d_La_rowHeight_3 : decode m_La_rowHeight.2.1 3 = .ok (.istore 4, 2) := by decide +kernel
theorem d_La_rowHeight_5 : decode m_La_rowHeight.2.1 5 = .ok (.iload 4, 2) := by decide +kernel
theorem d_La_rowHeight_7 : decode m_La_rowHeight.2.1 7 = .ok (.aload_n 0, 1) := by decide +kernel
theorem d_La_rowHeight_8 : decode m_La_rowHeight.2.1 8 = .ok (.getfield 27, 3) := by decide +kernel
theorem d_La_rowHeight_11 : decode m_La_rowHeight.2.1 11 = .ok (.if_icmp .ge 32, 3) := by decide +kernel
theorem d_La_rowHeight_14 : decode m_La_rowHeight.2.1 14 = .ok (.aload_n 0, 1) := by decide +kernel
theorem d_La_rowHeight_15 : decode m_La_rowHeight.2.1 15 = .ok (.iload 4, 2) := by decide +kernel
theorem d_La_rowHeight_17 : decode m_La_rowHeight.2.1 17 = .ok (.iload_n 1, 1) := by decide +kernel
theorem d_La_rowHeight_18 : decode m_La_rowHeight.2.1 18 = .ok (.iload_n 2, 1) := by decide +kernel
theorem d_La_rowHeight_19 : decode m_La_rowHeight.2.1 19 = .ok (.invokevirtual 37, 3) := by decide +kernel
theorem d_La_rowHeight_22 : decode m_La_rowHeight.2.1 22 = .ok (.ifCond .eq 15, 3) := by decide +kernel
theorem d_La_rowHeight_25 : decode m_La_rowHeight.2.1 25 = .ok (.iload_n 3, 1) := by decide +kernel
theorem d_La_rowHeight_26 : decode m_La_rowHeight.2.1 26 = .ok (.aload_n 0, 1) := by decide +kernel
theorem d_La_rowHeight_27 : decode m_La_rowHeight.2.1 27 = .ok (.getfield 18, 3) := by decide +kernel
theorem d_La_rowHeight_30 : decode m_La_rowHeight.2.1 30 = .ok (.iload 4, 2) := by decide +kernel
theorem d_La_rowHeight_32 : decode m_La_rowHeight.2.1 32 = .ok (.iaload, 1) := by decide +kernel
theorem d_La_rowHeight_33 : decode m_La_rowHeight.2.1 33 = .ok (.invokestatic 31, 3) := by decide +kernel
theorem d_La_rowHeight_36 : decode m_La_rowHeight.2.1 36 = .ok (.istore_n 3, 1) := by decide +kernel
theorem d_La_rowHeight_37 : decode m_La_rowHeight.2.1 37 = .ok (.iinc 4 1, 3) := by decide +kernel
theorem d_La_rowHeight_40 : decode m_La_rowHeight.2.1 40 = .ok (.goto (-35), 3) := by decide +kernel
theorem d_La_rowHeight_43 : decode m_La_rowHeight.2.1 43 = .ok (.iload_n 3, 1) := by decide +kernel
theorem d_La_rowHeight_44 : decode m_La_rowHeight.2.1 44 = .ok (.ireturn, 1) := by decide +kernel
theorem d_Tr_growRow_0 : decode m_Tr_growRow.2.1 0 = .ok (.iload 4, 2) := by decide +kernel
theorem d_Tr_growRow_2 : decode m_Tr_growRow.2.1 2 = .ok (.istore 8, 2) := by decide +kernel
theorem d_Tr_growRow_4 : decode m_Tr_growRow.2.1 4 = .ok (.iload 4, 2) := by decide +kernel
theorem d_Tr_growRow_6 : decode m_Tr_growRow.2.1 6 = .ok (.iload 6, 2) := by decide +kernel
theorem d_Tr_growRow_8 : decode m_Tr_growRow.2.1 8 = .ok (.iadd, 1) := by decide +kernel
theorem d_Tr_growRow_9 : decode m_Tr_growRow.2.1 9 = .ok (.istore 9, 2) := by decide +kernel
theorem d_Tr_growRow_11 : decode m_Tr_growRow.2.1 11 = .ok (.iconst 0, 1) := by decide +kernel
theorem d_Tr_growRow_12 : decode m_Tr_growRow.2.1 12 = .ok (.istore 10, 2) := by decide +kernel
theorem d_Tr_growRow_14 : decode m_Tr_growRow.2.1 14 = .ok (.iload 10, 2) := by decide +kernel
theorem d_Tr_growRow_16 : decode m_Tr_growRow.2.1 16 = .ok (.aload_n 1, 1) := by decide +kernel
theorem d_Tr_growRow_17 : decode m_Tr_growRow.2.1 17 = .ok (.getfield 80, 3) := by decide +kernel
theorem d_Tr_growRow_20 : decode m_Tr_growRow.2.1 20 = .ok (.if_icmp .ge 89, 3) := by decide +kernel
theorem d_Tr_growRow_23 : decode m_Tr_growRow.2.1 23 = .ok (.aload_n 1, 1) := by decide +kernel
theorem d_Tr_growRow_24 : decode m_Tr_growRow.2.1 24 = .ok (.iload 10, 2) := by decide +kernel
theorem d_Tr_growRow_26 : decode m_Tr_growRow.2.1 26 = .ok (.iload_n 2, 1) := by decide +kernel
theorem d_Tr_growRow_27 : decode m_Tr_growRow.2.1 27 = .ok (.iload_n 3, 1) := by decide +kernel
theorem d_Tr_growRow_28 : decode m_Tr_growRow.2.1 28 = .ok (.invokevirtual 81, 3) := by decide +kernel
theorem d_Tr_growRow_31 : decode m_Tr_growRow.2.1 31 = .ok (.ifCond .eq 72, 3) := by decide +kernel
theorem d_Tr_growRow_34 : decode m_Tr_growRow.2.1 34 = .ok (.aload_n 1, 1) := by decide +kernel
theorem d_Tr_growRow_35 : decode m_Tr_growRow.2.1 35 = .ok (.getfield 85, 3) := by decide +kernel
theorem d_Tr_growRow_38 : decode m_Tr_growRow.2.1 38 = .ok (.iload 10, 2) := by decide +kernel
theorem d_Tr_growRow_40 : decode m_Tr_growRow.2.1 40 = .ok (.iaload, 1) := by decide +kernel
theorem d_Tr_growRow_41 : decode m_Tr_growRow.2.1 41 = .ok (.istore 11, 2) := by decide +kernel
theorem d_Tr_growRow_43 : decode m_Tr_growRow.2.1 43 = .ok (.iload 11, 2) := by decide +kernel
theorem d_Tr_growRow_45 : decode m_Tr_growRow.2.1 45 = .ok (.iload 9, 2) := by decide +kernel
theorem d_Tr_growRow_47 : decode m_Tr_growRow.2.1 47 = .ok (.iload 8, 2) := by decide +kernel
theorem d_Tr_growRow_49 : decode m_Tr_growRow.2.1 49 = .ok (.isub, 1) := by decide +kernel
theorem d_Tr_growRow_50 : decode m_Tr_growRow.2.1 50 = .ok (.if_icmp .ge 24, 3) := by decide +kernel
theorem d_Tr_growRow_53 : decode m_Tr_growRow.2.1 53 = .ok (.aload_n 0, 1) := by decide +kernel
theorem d_Tr_growRow_54 : decode m_Tr_growRow.2.1 54 = .ok (.iconst 0, 1) := by decide +kernel
theorem d_Tr_growRow_55 : decode m_Tr_growRow.2.1 55 = .ok (.iload 8, 2) := by decide +kernel
theorem d_Tr_growRow_57 : decode m_Tr_growRow.2.1 57 = .ok (.iload 5, 2) := by decide +kernel
theorem d_Tr_growRow_59 : decode m_Tr_growRow.2.1 59 = .ok (.iload 9, 2) := by decide +kernel
theorem d_Tr_growRow_61 : decode m_Tr_growRow.2.1 61 = .ok (.iload 8, 2) := by decide +kernel
theorem d_Tr_growRow_63 : decode m_Tr_growRow.2.1 63 = .ok (.isub, 1) := by decide +kernel
theorem d_Tr_growRow_64 : decode m_Tr_growRow.2.1 64 = .ok (.iload 7, 2) := by decide +kernel
theorem d_Tr_growRow_66 : decode m_Tr_growRow.2.1 66 = .ok (.iload 11, 2) := by decide +kernel
theorem d_Tr_growRow_68 : decode m_Tr_growRow.2.1 68 = .ok (.invokevirtual 53, 3) := by decide +kernel
theorem d_Tr_growRow_71 : decode m_Tr_growRow.2.1 71 = .ok (.goto 4, 3) := by decide +kernel
theorem d_Tr_growRow_74 : decode m_Tr_growRow.2.1 74 = .ok (.iconst (-1), 1) := by decide +kernel
theorem d_Tr_growRow_75 : decode m_Tr_growRow.2.1 75 = .ok (.istore 12, 2) := by decide +kernel
theorem d_Tr_growRow_77 : decode m_Tr_growRow.2.1 77 = .ok (.aload_n 0, 1) := by decide +kernel
theorem d_Tr_growRow_78 : decode m_Tr_growRow.2.1 78 = .ok (.aload_n 1, 1) := by decide +kernel
theorem d_Tr_growRow_79 : decode m_Tr_growRow.2.1 79 = .ok (.iload 10, 2) := by decide +kernel
theorem d_Tr_growRow_81 : decode m_Tr_growRow.2.1 81 = .ok (.iload 8, 2) := by decide +kernel
theorem d_Tr_growRow_83 : decode m_Tr_growRow.2.1 83 = .ok (.iload 5, 2) := by decide +kernel
theorem d_Tr_growRow_85 : decode m_Tr_growRow.2.1 85 = .ok (.iload 7, 2) := by decide +kernel
theorem d_Tr_growRow_87 : decode m_Tr_growRow.2.1 87 = .ok (.invokevirtual 86, 3) := by decide +kernel
theorem d_Tr_growRow_90 : decode m_Tr_growRow.2.1 90 = .ok (.aload_n 0, 1) := by decide +kernel
theorem d_Tr_growRow_91 : decode m_Tr_growRow.2.1 91 = .ok (.iload 12, 2) := by decide +kernel
theorem d_Tr_growRow_93 : decode m_Tr_growRow.2.1 93 = .ok (.invokevirtual 61, 3) := by decide +kernel
theorem d_Tr_growRow_96 : decode m_Tr_growRow.2.1 96 = .ok (.iload 8, 2) := by decide +kernel
theorem d_Tr_growRow_98 : decode m_Tr_growRow.2.1 98 = .ok (.iload 11, 2) := by decide +kernel
theorem d_Tr_growRow_100 : decode m_Tr_growRow.2.1 100 = .ok (.iadd, 1) := by decide +kernel
theorem d_Tr_growRow_101 : decode m_Tr_growRow.2.1 101 = .ok (.istore 8, 2) := by decide +kernel
theorem d_Tr_growRow_103 : decode m_Tr_growRow.2.1 103 = .ok (.iinc 10 1, 3) := by decide +kernel
theorem d_Tr_growRow_106 : decode m_Tr_growRow.2.1 106 = .ok (.goto (-92), 3) := by decide +kernel
theorem d_Tr_growRow_109 : decode m_Tr_growRow.2.1 109 = .ok (.aload_n 0, 1) := by decide +kernel
theorem d_Tr_growRow_110 : decode m_Tr_growRow.2.1 110 = .ok (.iload 8, 2) := by decide +kernel
theorem d_Tr_growRow_112 : decode m_Tr_growRow.2.1 112 = .ok (.iload 5, 2) := by decide +kernel
theorem d_Tr_growRow_114 : decode m_Tr_growRow.2.1 114 = .ok (.iload 9, 2) := by decide +kernel
theorem d_Tr_growRow_116 : decode m_Tr_growRow.2.1 116 = .ok (.iload 8, 2) := by decide +kernel
theorem d_Tr_growRow_118 : decode m_Tr_growRow.2.1 118 = .ok (.isub, 1) := by decide +kernel
theorem d_Tr_growRow_119 : decode m_Tr_growRow.2.1 119 = .ok (.iload 7, 2) := by decide +kernel
theorem d_Tr_growRow_121 : decode m_Tr_growRow.2.1 121 = .ok (.invokevirtual 65, 3) := by decide +kernel
theorem d_Tr_growRow_124 : decode m_Tr_growRow.2.1 124 = .ok (.return_, 1) := by decide +kernel
theorem d_Tr_growCell_0 : decode m_Tr_growCell.2.1 0 = .ok (.aload_n 1, 1) := by decide +kernel
theorem d_Tr_growCell_1 : decode m_Tr_growCell.2.1 1 = .ok (.getfield 85, 3) := by decide +kernel
theorem d_Tr_growCell_4 : decode m_Tr_growCell.2.1 4 = .ok (.iload_n 2, 1) := by decide +kernel
theorem d_Tr_growCell_5 : decode m_Tr_growCell.2.1 5 = .ok (.iaload, 1) := by decide +kernel
theorem d_Tr_growCell_6 : decode m_Tr_growCell.2.1 6 = .ok (.istore 6, 2) := by decide +kernel
theorem d_Tr_growCell_8 : decode m_Tr_growCell.2.1 8 = .ok (.aload_n 1, 1) := by decide +kernel
theorem d_Tr_growCell_9 : decode m_Tr_growCell.2.1 9 = .ok (.getfield 89, 3) := by decide +kernel
theorem d_Tr_growCell_12 : decode m_Tr_growCell.2.1 12 = .ok (.iload_n 2, 1) := by decide +kernel
theorem d_Tr_growCell_13 : decode m_Tr_growCell.2.1 13 = .ok (.iaload, 1) := by decide +kernel
theorem d_Tr_growCell_14 : decode m_Tr_growCell.2.1 14 = .ok (.istore 7, 2) := by decide +kernel
theorem d_Tr_growCell_16 : decode m_Tr_growCell.2.1 16 = .ok (.iload 7, 2) := by decide +kernel
theorem d_Tr_growCell_18 : decode m_Tr_growCell.2.1 18 = .ok (.iload 5, 2) := by decide +kernel
theorem d_Tr_growCell_20 : decode m_Tr_growCell.2.1 20 = .ok (.if_icmp .ge 20, 3) := by decide +kernel
theorem d_Tr_growCell_23 : decode m_Tr_growCell.2.1 23 = .ok (.aload_n 0, 1) := by decide +kernel
theorem d_Tr_growCell_24 : decode m_Tr_growCell.2.1 24 = .ok (.iconst 1, 1) := by decide +kernel
theorem d_Tr_growCell_25 : decode m_Tr_growCell.2.1 25 = .ok (.iload_n 3, 1) := by decide +kernel
theorem d_Tr_growCell_26 : decode m_Tr_growCell.2.1 26 = .ok (.iload 4, 2) := by decide +kernel
theorem d_Tr_growCell_28 : decode m_Tr_growCell.2.1 28 = .ok (.iload 6, 2) := by decide +kernel
theorem d_Tr_growCell_30 : decode m_Tr_growCell.2.1 30 = .ok (.iload 5, 2) := by decide +kernel
theorem d_Tr_growCell_32 : decode m_Tr_growCell.2.1 32 = .ok (.iload 7, 2) := by decide +kernel
theorem d_Tr_growCell_34 : decode m_Tr_growCell.2.1 34 = .ok (.invokevirtual 53, 3) := by decide +kernel
theorem d_Tr_growCell_37 : decode m_Tr_growCell.2.1 37 = .ok (.goto 4, 3) := by decide +kernel
theorem d_Tr_growCell_40 : decode m_Tr_growCell.2.1 40 = .ok (.iconst (-1), 1) := by decide +kernel
theorem d_Tr_growCell_41 : decode m_Tr_growCell.2.1 41 = .ok (.istore 8, 2) := by decide +kernel
theorem d_Tr_growCell_43 : decode m_Tr_growCell.2.1 43 = .ok (.aload_n 0, 1) := by decide +kernel
theorem d_Tr_growCell_44 : decode m_Tr_growCell.2.1 44 = .ok (.iconst 2, 1) := by decide +kernel
theorem d_Tr_growCell_45 : decode m_Tr_growCell.2.1 45 = .ok (.iload_n 3, 1) := by decide +kernel
theorem d_Tr_growCell_46 : decode m_Tr_growCell.2.1 46 = .ok (.iload 4, 2) := by decide +kernel
theorem d_Tr_growCell_48 : decode m_Tr_growCell.2.1 48 = .ok (.iload 6, 2) := by decide +kernel
theorem d_Tr_growCell_50 : decode m_Tr_growCell.2.1 50 = .ok (.iload 7, 2) := by decide +kernel
theorem d_Tr_growCell_52 : decode m_Tr_growCell.2.1 52 = .ok (.aload_n 1, 1) := by decide +kernel
theorem d_Tr_growCell_53 : decode m_Tr_growCell.2.1 53 = .ok (.getfield 90, 3) := by decide +kernel
theorem d_Tr_growCell_56 : decode m_Tr_growCell.2.1 56 = .ok (.iload_n 2, 1) := by decide +kernel
theorem d_Tr_growCell_57 : decode m_Tr_growCell.2.1 57 = .ok (.iaload, 1) := by decide +kernel
theorem d_Tr_growCell_58 : decode m_Tr_growCell.2.1 58 = .ok (.invokevirtual 53, 3) := by decide +kernel
theorem d_Tr_growCell_61 : decode m_Tr_growCell.2.1 61 = .ok (.pop, 1) := by decide +kernel
theorem d_Tr_growCell_62 : decode m_Tr_growCell.2.1 62 = .ok (.aload_n 0, 1) := by decide +kernel
theorem d_Tr_growCell_63 : decode m_Tr_growCell.2.1 63 = .ok (.iload 8, 2) := by decide +kernel
theorem d_Tr_growCell_65 : decode m_Tr_growCell.2.1 65 = .ok (.invokevirtual 61, 3) := by decide +kernel
theorem d_Tr_growCell_68 : decode m_Tr_growCell.2.1 68 = .ok (.aload_n 0, 1) := by decide +kernel
theorem d_Tr_growCell_69 : decode m_Tr_growCell.2.1 69 = .ok (.iload_n 3, 1) := by decide +kernel
theorem d_Tr_growCell_70 : decode m_Tr_growCell.2.1 70 = .ok (.iload 4, 2) := by decide +kernel
theorem d_Tr_growCell_72 : decode m_Tr_growCell.2.1 72 = .ok (.iload 7, 2) := by decide +kernel
theorem d_Tr_growCell_74 : decode m_Tr_growCell.2.1 74 = .ok (.iadd, 1) := by decide +kernel
theorem d_Tr_growCell_75 : decode m_Tr_growCell.2.1 75 = .ok (.iload 6, 2) := by decide +kernel
theorem d_Tr_growCell_77 : decode m_Tr_growCell.2.1 77 = .ok (.iload 5, 2) := by decide +kernel
theorem d_Tr_growCell_79 : decode m_Tr_growCell.2.1 79 = .ok (.iload 7, 2) := by decide +kernel
theorem d_Tr_growCell_81 : decode m_Tr_growCell.2.1 81 = .ok (.isub, 1) := by decide +kernel
theorem d_Tr_growCell_82 : decode m_Tr_growCell.2.1 82 = .ok (.invokevirtual 65, 3) := by decide +kernel
theorem d_Tr_growCell_85 : decode m_Tr_growCell.2.1 85 = .ok (.return_, 1) := by decide +kernel
theorem d_Tr_beginSecond_0 : decode m_Tr_beginSecond.2.1 0 = .ok (.iload_n 1, 1) := by decide +kernel
theorem d_Tr_beginSecond_1 : decode m_Tr_beginSecond.2.1 1 = .ok (.iconst (-1), 1) := by decide +kernel
theorem d_Tr_beginSecond_2 : decode m_Tr_beginSecond.2.1 2 = .ok (.if_icmp .eq 13, 3) := by decide +kernel
theorem d_Tr_beginSecond_5 : decode m_Tr_beginSecond.2.1 5 = .ok (.aload_n 0, 1) := by decide +kernel
theorem d_Tr_beginSecond_6 : decode m_Tr_beginSecond.2.1 6 = .ok (.getfield 30, 3) := by decide +kernel
theorem d_Tr_beginSecond_9 : decode m_Tr_beginSecond.2.1 9 = .ok (.iload_n 1, 1) := by decide +kernel
theorem d_Tr_beginSecond_10 : decode m_Tr_beginSecond.2.1 10 = .ok (.aload_n 0, 1) := by decide +kernel
theorem d_Tr_beginSecond_11 : decode m_Tr_beginSecond.2.1 11 = .ok (.getfield 36, 3) := by decide +kernel
theorem d_Tr_beginSecond_14 : decode m_Tr_beginSecond.2.1 14 = .ok (.iastore, 1) := by decide +kernel
theorem d_Tr_beginSecond_15 : decode m_Tr_beginSecond.2.1 15 = .ok (.return_, 1) := by decide +kernel
theorem d_Tr_addRest_0 : decode m_Tr_addRest.2.1 0 = .ok (.iload_n 3, 1) := by decide +kernel
theorem d_Tr_addRest_1 : decode m_Tr_addRest.2.1 1 = .ok (.ifCond .le 20, 3) := by decide +kernel
theorem d_Tr_addRest_4 : decode m_Tr_addRest.2.1 4 = .ok (.iload 4, 2) := by decide +kernel
theorem d_Tr_addRest_6 : decode m_Tr_addRest.2.1 6 = .ok (.ifCond .le 15, 3) := by decide +kernel
theorem d_Tr_addRest_9 : decode m_Tr_addRest.2.1 9 = .ok (.aload_n 0, 1) := by decide +kernel
theorem d_Tr_addRest_10 : decode m_Tr_addRest.2.1 10 = .ok (.iconst 3, 1) := by decide +kernel
theorem d_Tr_addRest_11 : decode m_Tr_addRest.2.1 11 = .ok (.iload_n 1, 1) := by decide +kernel
theorem d_Tr_addRest_12 : decode m_Tr_addRest.2.1 12 = .ok (.iload_n 2, 1) := by decide +kernel
theorem d_Tr_addRest_13 : decode m_Tr_addRest.2.1 13 = .ok (.iload_n 3, 1) := by decide +kernel
theorem d_Tr_addRest_14 : decode m_Tr_addRest.2.1 14 = .ok (.iload 4, 2) := by decide +kernel
theorem d_Tr_addRest_16 : decode m_Tr_addRest.2.1 16 = .ok (.iconst (-1), 1) := by decide +kernel
theorem d_Tr_addRest_17 : decode m_Tr_addRest.2.1 17 = .ok (.invokevirtual 53, 3) := by decide +kernel
theorem d_Tr_addRest_20 : decode m_Tr_addRest.2.1 20 = .ok (.pop, 1) := by decide +kernel
theorem d_Tr_addRest_21 : decode m_Tr_addRest.2.1 21 = .ok (.return_, 1) := by decide +kernel
theorem d_Bk_takeUp_0 : decode m_Bk_takeUp.2.1 0 = .ok (.aload_n 0, 1) := by decide +kernel
theorem d_Bk_takeUp_1 : decode m_Bk_takeUp.2.1 1 = .ok (.iload_n 1, 1) := by decide +kernel
theorem d_Bk_takeUp_2 : decode m_Bk_takeUp.2.1 2 = .ok (.invokevirtual 29, 3) := by decide +kernel
theorem d_Bk_takeUp_5 : decode m_Bk_takeUp.2.1 5 = .ok (.astore_n 2, 1) := by decide +kernel
theorem d_Bk_takeUp_6 : decode m_Bk_takeUp.2.1 6 = .ok (.aload_n 2, 1) := by decide +kernel
theorem d_Bk_takeUp_7 : decode m_Bk_takeUp.2.1 7 = .ok (.ifnull 23, 3) := by decide +kernel
theorem d_Bk_takeUp_10 : decode m_Bk_takeUp.2.1 10 = .ok (.aload_n 2, 1) := by decide +kernel
theorem d_Bk_takeUp_11 : decode m_Bk_takeUp.2.1 11 = .ok (.dup, 1) := by decide +kernel
theorem d_Bk_takeUp_12 : decode m_Bk_takeUp.2.1 12 = .ok (.getfield 33, 3) := by decide +kernel
theorem d_Bk_takeUp_15 : decode m_Bk_takeUp.2.1 15 = .ok (.iconst 1, 1) := by decide +kernel
theorem d_Bk_takeUp_16 : decode m_Bk_takeUp.2.1 16 = .ok (.isub, 1) := by decide +kernel
theorem d_Bk_takeUp_17 : decode m_Bk_takeUp.2.1 17 = .ok (.putfield 33, 3) := by decide +kernel
theorem d_Bk_takeUp_20 : decode m_Bk_takeUp.2.1 20 = .ok (.aload_n 2, 1) := by decide +kernel
theorem d_Bk_takeUp_21 : decode m_Bk_takeUp.2.1 21 = .ok (.dup, 1) := by decide +kernel
theorem d_Bk_takeUp_22 : decode m_Bk_takeUp.2.1 22 = .ok (.getfield 36, 3) := by decide +kernel
theorem d_Bk_takeUp_25 : decode m_Bk_takeUp.2.1 25 = .ok (.iconst 1, 1) := by decide +kernel
theorem d_Bk_takeUp_26 : decode m_Bk_takeUp.2.1 26 = .ok (.iadd, 1) := by decide +kernel
theorem d_Bk_takeUp_27 : decode m_Bk_takeUp.2.1 27 = .ok (.putfield 36, 3) := by decide +kernel
theorem d_Bk_takeUp_30 : decode m_Bk_takeUp.2.1 30 = .ok (.return_, 1) := by decide +kernel
theorem d_Lw_exact_0 : decode m_Lw_exact.2.1 0 = .ok (.aload 5, 2) := by decide +kernel
theorem d_Lw_exact_2 : decode m_Lw_exact.2.1 2 = .ok (.iconst 0, 1) := by decide +kernel
theorem d_Lw_exact_3 : decode m_Lw_exact.2.1 3 = .ok (.aload_n 0, 1) := by decide +kernel
theorem d_Lw_exact_4 : decode m_Lw_exact.2.1 4 = .ok (.iload_n 1, 1) := by decide +kernel
theorem d_Lw_exact_5 : decode m_Lw_exact.2.1 5 = .ok (.iload_n 2, 1) := by decide +kernel
theorem d_Lw_exact_6 : decode m_Lw_exact.2.1 6 = .ok (.iload_n 3, 1) := by decide +kernel
theorem d_Lw_exact_7 : decode m_Lw_exact.2.1 7 = .ok (.iload 4, 2) := by decide +kernel
theorem d_Lw_exact_9 : decode m_Lw_exact.2.1 9 = .ok (.invokevirtual 31, 3) := by decide +kernel
theorem d_Lw_exact_12 : decode m_Lw_exact.2.1 12 = .ok (.i2l, 1) := by decide +kernel
theorem d_Lw_exact_13 : decode m_Lw_exact.2.1 13 = .ok (.lastore, 1) := by decide +kernel
theorem d_Lw_exact_14 : decode m_Lw_exact.2.1 14 = .ok (.goto 11, 3) := by decide +kernel
theorem d_Lw_exact_17 : decode m_Lw_exact.2.1 17 = .ok (.astore 6, 2) := by decide +kernel
theorem d_Lw_exact_19 : decode m_Lw_exact.2.1 19 = .ok (.iconst 1, 1) := by decide +kernel
theorem d_Lw_exact_20 : decode m_Lw_exact.2.1 20 = .ok (.ireturn, 1) := by decide +kernel
theorem d_Lw_exact_21 : decode m_Lw_exact.2.1 21 = .ok (.astore 6, 2) := by decide +kernel
theorem d_Lw_exact_23 : decode m_Lw_exact.2.1 23 = .ok (.iconst 2, 1) := by decide +kernel
theorem d_Lw_exact_24 : decode m_Lw_exact.2.1 24 = .ok (.ireturn, 1) := by decide +kernel
theorem d_Lw_exact_25 : decode m_Lw_exact.2.1 25 = .ok (.iconst 0, 1) := by decide +kernel
