theorem d_Lw_exact_26 : decode m_Lw_exact.2.1 26 = .ok (.ireturn, 1) := by decide +kernel
theorem d_Ha_exact_0 : decode m_Ha_exact.2.1 0 = .ok (.aload_n 0, 1) := by decide +kernel
theorem d_Ha_exact_1 : decode m_Ha_exact.2.1 1 = .ok (.iload_n 1, 1) := by decide +kernel
theorem d_Ha_exact_2 : decode m_Ha_exact.2.1 2 = .ok (.invokevirtual 89, 3) := by decide +kernel
theorem d_Ha_exact_5 : decode m_Ha_exact.2.1 5 = .ok (.astore 5, 2) := by decide +kernel
theorem d_Ha_exact_7 : decode m_Ha_exact.2.1 7 = .ok (.aload_n 0, 1) := by decide +kernel
theorem d_Ha_exact_8 : decode m_Ha_exact.2.1 8 = .ok (.getfield 48, 3) := by decide +kernel
theorem d_Ha_exact_11 : decode m_Ha_exact.2.1 11 = .ok (.iload_n 2, 1) := by decide +kernel
theorem d_Ha_exact_12 : decode m_Ha_exact.2.1 12 = .ok (.iload_n 3, 1) := by decide +kernel
theorem d_Ha_exact_13 : decode m_Ha_exact.2.1 13 = .ok (.iload 4, 2) := by decide +kernel
theorem d_Ha_exact_15 : decode m_Ha_exact.2.1 15 = .ok (.invokevirtual 140, 3) := by decide +kernel
theorem d_Ha_exact_18 : decode m_Ha_exact.2.1 18 = .ok (.aload_n 0, 1) := by decide +kernel
theorem d_Ha_exact_19 : decode m_Ha_exact.2.1 19 = .ok (.getfield 48, 3) := by decide +kernel
theorem d_Ha_exact_22 : decode m_Ha_exact.2.1 22 = .ok (.invokevirtual 144, 3) := by decide +kernel
theorem d_Ha_exact_25 : decode m_Ha_exact.2.1 25 = .ok (.ifCond .ne 11, 3) := by decide +kernel
theorem d_Ha_exact_28 : decode m_Ha_exact.2.1 28 = .ok (.new 147, 3) := by decide +kernel
theorem d_Ha_exact_31 : decode m_Ha_exact.2.1 31 = .ok (.dup, 1) := by decide +kernel
theorem d_Ha_exact_32 : decode m_Ha_exact.2.1 32 = .ok (.invokespecial 149, 3) := by decide +kernel
theorem d_Ha_exact_35 : decode m_Ha_exact.2.1 35 = .ok (.athrow, 1) := by decide +kernel
theorem d_Ha_exact_36 : decode m_Ha_exact.2.1 36 = .ok (.aload 5, 2) := by decide +kernel
theorem d_Ha_exact_38 : decode m_Ha_exact.2.1 38 = .ok (.getfield 104, 3) := by decide +kernel
theorem d_Ha_exact_41 : decode m_Ha_exact.2.1 41 = .ok (.invokevirtual 108, 3) := by decide +kernel
theorem d_Ha_exact_44 : decode m_Ha_exact.2.1 44 = .ok (.ifCond .ne 24, 3) := by decide +kernel
theorem d_Ha_exact_47 : decode m_Ha_exact.2.1 47 = .ok (.aload 5, 2) := by decide +kernel
theorem d_Ha_exact_49 : decode m_Ha_exact.2.1 49 = .ok (.getfield 67, 3) := by decide +kernel
theorem d_Ha_exact_52 : decode m_Ha_exact.2.1 52 = .ok (.getfield 114, 3) := by decide +kernel
theorem d_Ha_exact_55 : decode m_Ha_exact.2.1 55 = .ok (.ifCond .gt 13, 3) := by decide +kernel
theorem d_Ha_exact_58 : decode m_Ha_exact.2.1 58 = .ok (.aload_n 0, 1) := by decide +kernel
theorem d_Ha_exact_59 : decode m_Ha_exact.2.1 59 = .ok (.getfield 48, 3) := by decide +kernel
theorem d_Ha_exact_62 : decode m_Ha_exact.2.1 62 = .ok (.invokevirtual 150, 3) := by decide +kernel
theorem d_Ha_exact_65 : decode m_Ha_exact.2.1 65 = .ok (.ifCond .ne 11, 3) := by decide +kernel
theorem d_Ha_exact_68 : decode m_Ha_exact.2.1 68 = .ok (.new 64, 3) := by decide +kernel
theorem d_Ha_exact_71 : decode m_Ha_exact.2.1 71 = .ok (.dup, 1) := by decide +kernel
theorem d_Ha_exact_72 : decode m_Ha_exact.2.1 72 = .ok (.invokespecial 66, 3) := by decide +kernel
theorem d_Ha_exact_75 : decode m_Ha_exact.2.1 75 = .ok (.athrow, 1) := by decide +kernel
theorem d_Ha_exact_76 : decode m_Ha_exact.2.1 76 = .ok (.aload_n 0, 1) := by decide +kernel
theorem d_Ha_exact_77 : decode m_Ha_exact.2.1 77 = .ok (.getfield 48, 3) := by decide +kernel
theorem d_Ha_exact_80 : decode m_Ha_exact.2.1 80 = .ok (.aload 5, 2) := by decide +kernel
theorem d_Ha_exact_82 : decode m_Ha_exact.2.1 82 = .ok (.getfield 67, 3) := by decide +kernel
theorem d_Ha_exact_85 : decode m_Ha_exact.2.1 85 = .ok (.invokevirtual 153, 3) := by decide +kernel
theorem d_Ha_exact_88 : decode m_Ha_exact.2.1 88 = .ok (.aload_n 0, 1) := by decide +kernel
theorem d_Ha_exact_89 : decode m_Ha_exact.2.1 89 = .ok (.aload 5, 2) := by decide +kernel
theorem d_Ha_exact_91 : decode m_Ha_exact.2.1 91 = .ok (.invokevirtual 137, 3) := by decide +kernel
theorem d_Ha_exact_94 : decode m_Ha_exact.2.1 94 = .ok (.ireturn, 1) := by decide +kernel
theorem d_Ti_callNames_0 : decode m_Ti_callNames.2.1 0 = .ok (.aload_n 0, 1) := by decide +kernel
theorem d_Ti_callNames_1 : decode m_Ti_callNames.2.1 1 = .ok (.getfield 9, 3) := by decide +kernel
theorem d_Ti_callNames_4 : decode m_Ti_callNames.2.1 4 = .ok (.iconst 0, 1) := by decide +kernel
theorem d_Ti_callNames_5 : decode m_Ti_callNames.2.1 5 = .ok (.iload_n 1, 1) := by decide +kernel
theorem d_Ti_callNames_6 : decode m_Ti_callNames.2.1 6 = .ok (.iastore, 1) := by decide +kernel
theorem d_Ti_callNames_7 : decode m_Ti_callNames.2.1 7 = .ok (.aload_n 0, 1) := by decide +kernel
theorem d_Ti_callNames_8 : decode m_Ti_callNames.2.1 8 = .ok (.iconst 1, 1) := by decide +kernel
theorem d_Ti_callNames_9 : decode m_Ti_callNames.2.1 9 = .ok (.putfield 23, 3) := by decide +kernel
theorem d_Ti_callNames_12 : decode m_Ti_callNames.2.1 12 = .ok (.aload_n 0, 1) := by decide +kernel
theorem d_Ti_callNames_13 : decode m_Ti_callNames.2.1 13 = .ok (.iload_n 2, 1) := by decide +kernel
theorem d_Ti_callNames_14 : decode m_Ti_callNames.2.1 14 = .ok (.invokevirtual 27, 3) := by decide +kernel
theorem d_Ti_callNames_17 : decode m_Ti_callNames.2.1 17 = .ok (.aload_n 0, 1) := by decide +kernel
theorem d_Ti_callNames_18 : decode m_Ti_callNames.2.1 18 = .ok (.iload_n 3, 1) := by decide +kernel
theorem d_Ti_callNames_19 : decode m_Ti_callNames.2.1 19 = .ok (.invokevirtual 27, 3) := by decide +kernel
theorem d_Ti_callNames_22 : decode m_Ti_callNames.2.1 22 = .ok (.return_, 1) := by decide +kernel
theorem d_Ti_addName_0 : decode m_Ti_addName.2.1 0 = .ok (.iload_n 1, 1) := by decide +kernel
theorem d_Ti_addName_1 : decode m_Ti_addName.2.1 1 = .ok (.iconst (-1), 1) := by decide +kernel
theorem d_Ti_addName_2 : decode m_Ti_addName.2.1 2 = .ok (.if_icmp .eq 31, 3) := by decide +kernel
theorem d_Ti_addName_5 : decode m_Ti_addName.2.1 5 = .ok (.aload_n 0, 1) := by decide +kernel
theorem d_Ti_addName_6 : decode m_Ti_addName.2.1 6 = .ok (.getfield 23, 3) := by decide +kernel
theorem d_Ti_addName_9 : decode m_Ti_addName.2.1 9 = .ok (.iconst 3, 1) := by decide +kernel
theorem d_Ti_addName_10 : decode m_Ti_addName.2.1 10 = .ok (.if_icmp .ge 23, 3) := by decide +kernel
theorem d_Ti_addName_13 : decode m_Ti_addName.2.1 13 = .ok (.aload_n 0, 1) := by decide +kernel
theorem d_Ti_addName_14 : decode m_Ti_addName.2.1 14 = .ok (.getfield 9, 3) := by decide +kernel
theorem d_Ti_addName_17 : decode m_Ti_addName.2.1 17 = .ok (.aload_n 0, 1) := by decide +kernel
theorem d_Ti_addName_18 : decode m_Ti_addName.2.1 18 = .ok (.getfield 23, 3) := by decide +kernel
theorem d_Ti_addName_21 : decode m_Ti_addName.2.1 21 = .ok (.iload_n 1, 1) := by decide +kernel
theorem d_Ti_addName_22 : decode m_Ti_addName.2.1 22 = .ok (.iastore, 1) := by decide +kernel
theorem d_Ti_addName_23 : decode m_Ti_addName.2.1 23 = .ok (.aload_n 0, 1) := by decide +kernel
theorem d_Ti_addName_24 : decode m_Ti_addName.2.1 24 = .ok (.dup, 1) := by decide +kernel
theorem d_Ti_addName_25 : decode m_Ti_addName.2.1 25 = .ok (.getfield 23, 3) := by decide +kernel
theorem d_Ti_addName_28 : decode m_Ti_addName.2.1 28 = .ok (.iconst 1, 1) := by decide +kernel
theorem d_Ti_addName_29 : decode m_Ti_addName.2.1 29 = .ok (.iadd, 1) := by decide +kernel
theorem d_Ti_addName_30 : decode m_Ti_addName.2.1 30 = .ok (.putfield 23, 3) := by decide +kernel
theorem d_Ti_addName_33 : decode m_Ti_addName.2.1 33 = .ok (.return_, 1) := by decide +kernel
theorem d_Ti_namesAreThere_0 : decode m_Ti_namesAreThere.2.1 0 = .ok (.iconst 0, 1) := by decide +kernel
theorem d_Ti_namesAreThere_1 : decode m_Ti_namesAreThere.2.1 1 = .ok (.istore_n 1, 1) := by decide +kernel
theorem d_Ti_namesAreThere_2 : decode m_Ti_namesAreThere.2.1 2 = .ok (.iload_n 1, 1) := by decide +kernel
theorem d_Ti_namesAreThere_3 : decode m_Ti_namesAreThere.2.1 3 = .ok (.aload_n 0, 1) := by decide +kernel
theorem d_Ti_namesAreThere_4 : decode m_Ti_namesAreThere.2.1 4 = .ok (.getfield 23, 3) := by decide +kernel
theorem d_Ti_namesAreThere_7 : decode m_Ti_namesAreThere.2.1 7 = .ok (.if_icmp .ge 27, 3) := by decide +kernel
theorem d_Ti_namesAreThere_10 : decode m_Ti_namesAreThere.2.1 10 = .ok (.aload_n 0, 1) := by decide +kernel
theorem d_Ti_namesAreThere_11 : decode m_Ti_namesAreThere.2.1 11 = .ok (.getfield 15, 3) := by decide +kernel
theorem d_Ti_namesAreThere_14 : decode m_Ti_namesAreThere.2.1 14 = .ok (.aload_n 0, 1) := by decide +kernel
theorem d_Ti_namesAreThere_15 : decode m_Ti_namesAreThere.2.1 15 = .ok (.getfield 9, 3) := by decide +kernel
theorem d_Ti_namesAreThere_18 : decode m_Ti_namesAreThere.2.1 18 = .ok (.iload_n 1, 1) := by decide +kernel
theorem d_Ti_namesAreThere_19 : decode m_Ti_namesAreThere.2.1 19 = .ok (.iaload, 1) := by decide +kernel
theorem d_Ti_namesAreThere_20 : decode m_Ti_namesAreThere.2.1 20 = .ok (.invokevirtual 31, 3) := by decide +kernel
theorem d_Ti_namesAreThere_23 : decode m_Ti_namesAreThere.2.1 23 = .ok (.ifnonnull 5, 3) := by decide +kernel
theorem d_Ti_namesAreThere_26 : decode m_Ti_namesAreThere.2.1 26 = .ok (.iconst 0, 1) := by decide +kernel
theorem d_Ti_namesAreThere_27 : decode m_Ti_namesAreThere.2.1 27 = .ok (.ireturn, 1) := by decide +kernel
theorem d_Ti_namesAreThere_28 : decode m_Ti_namesAreThere.2.1 28 = .ok (.iinc 1 1, 3) := by decide +kernel
theorem d_Ti_namesAreThere_31 : decode m_Ti_namesAreThere.2.1 31 = .ok (.goto (-29), 3) := by decide +kernel
theorem d_Ti_namesAreThere_34 : decode m_Ti_namesAreThere.2.1 34 = .ok (.iconst 1, 1) := by decide +kernel
theorem d_Ti_namesAreThere_35 : decode m_Ti_namesAreThere.2.1 35 = .ok (.ireturn, 1) := by decide +kernel
theorem d_Ti_namesAreOpen_0 : decode m_Ti_namesAreOpen.2.1 0 = .ok (.iconst 0, 1) := by decide +kernel
theorem d_Ti_namesAreOpen_1 : decode m_Ti_namesAreOpen.2.1 1 = .ok (.istore_n 1, 1) := by decide +kernel
theorem d_Ti_namesAreOpen_2 : decode m_Ti_namesAreOpen.2.1 2 = .ok (.iload_n 1, 1) := by decide +kernel
theorem d_Ti_namesAreOpen_3 : decode m_Ti_namesAreOpen.2.1 3 = .ok (.aload_n 0, 1) := by decide +kernel
theorem d_Ti_namesAreOpen_4 : decode m_Ti_namesAreOpen.2.1 4 = .ok (.getfield 23, 3) := by decide +kernel
theorem d_Ti_namesAreOpen_7 : decode m_Ti_namesAreOpen.2.1 7 = .ok (.if_icmp .ge 46, 3) := by decide +kernel
theorem d_Ti_namesAreOpen_10 : decode m_Ti_namesAreOpen.2.1 10 = .ok (.aload_n 0, 1) := by decide +kernel
theorem d_Ti_namesAreOpen_11 : decode m_Ti_namesAreOpen.2.1 11 = .ok (.getfield 15, 3) := by decide +kernel
theorem d_Ti_namesAreOpen_14 : decode m_Ti_namesAreOpen.2.1 14 = .ok (.aload_n 0, 1) := by decide +kernel
theorem d_Ti_namesAreOpen_15 : decode m_Ti_namesAreOpen.2.1 15 = .ok (.getfield 9, 3) := by decide +kernel
theorem d_Ti_namesAreOpen_18 : decode m_Ti_namesAreOpen.2.1 18 = .ok (.iload_n 1, 1) := by decide +kernel
theorem d_Ti_namesAreOpen_19 : decode m_Ti_namesAreOpen.2.1 19 = .ok (.iaload, 1) := by decide +kernel
theorem d_Ti_namesAreOpen_20 : decode m_Ti_namesAreOpen.2.1 20 = .ok (.invokevirtual 31, 3) := by decide +kernel
theorem d_Ti_namesAreOpen_23 : decode m_Ti_namesAreOpen.2.1 23 = .ok (.astore_n 2, 1) := by decide +kernel
theorem d_Ti_namesAreOpen_24 : decode m_Ti_namesAreOpen.2.1 24 = .ok (.aload_n 2, 1) := by decide +kernel
theorem d_Ti_namesAreOpen_25 : decode m_Ti_namesAreOpen.2.1 25 = .ok (.ifnull 20, 3) := by decide +kernel
theorem d_Ti_namesAreOpen_28 : decode m_Ti_namesAreOpen.2.1 28 = .ok (.aload_n 2, 1) := by decide +kernel
theorem d_Ti_namesAreOpen_29 : decode m_Ti_namesAreOpen.2.1 29 = .ok (.getfield 37, 3) := by decide +kernel
theorem d_Ti_namesAreOpen_32 : decode m_Ti_namesAreOpen.2.1 32 = .ok (.aload_n 0, 1) := by decide +kernel
theorem d_Ti_namesAreOpen_33 : decode m_Ti_namesAreOpen.2.1 33 = .ok (.aload_n 0, 1) := by decide +kernel
theorem d_Ti_namesAreOpen_34 : decode m_Ti_namesAreOpen.2.1 34 = .ok (.getfield 9, 3) := by decide +kernel
theorem d_Ti_namesAreOpen_37 : decode m_Ti_namesAreOpen.2.1 37 = .ok (.iload_n 1, 1) := by decide +kernel
theorem d_Ti_namesAreOpen_38 : decode m_Ti_namesAreOpen.2.1 38 = .ok (.iaload, 1) := by decide +kernel
theorem d_Ti_namesAreOpen_39 : decode m_Ti_namesAreOpen.2.1 39 = .ok (.invokevirtual 42, 3) := by decide +kernel
theorem d_Ti_namesAreOpen_42 : decode m_Ti_namesAreOpen.2.1 42 = .ok (.if_icmp .ge 5, 3) := by decide +kernel
theorem d_Ti_namesAreOpen_45 : decode m_Ti_namesAreOpen.2.1 45 = .ok (.iconst 0, 1) := by decide +kernel
theorem d_Ti_namesAreOpen_46 : decode m_Ti_namesAreOpen.2.1 46 = .ok (.ireturn, 1) := by decide +kernel
theorem d_Ti_namesAreOpen_47 : decode m_Ti_namesAreOpen.2.1 47 = .ok (.iinc 1 1, 3) := by decide +kernel
theorem d_Ti_namesAreOpen_50 : decode m_Ti_namesAreOpen.2.1 50 = .ok (.goto (-48), 3) := by decide +kernel
theorem d_Ti_namesAreOpen_53 : decode m_Ti_namesAreOpen.2.1 53 = .ok (.iconst 1, 1) := by decide +kernel
theorem d_Ti_namesAreOpen_54 : decode m_Ti_namesAreOpen.2.1 54 = .ok (.ireturn, 1) := by decide +kernel
theorem d_Ti_timesNamed_0 : decode m_Ti_timesNamed.2.1 0 = .ok (.iconst 0, 1) := by decide +kernel
theorem d_Ti_timesNamed_1 : decode m_Ti_timesNamed.2.1 1 = .ok (.istore_n 2, 1) := by decide +kernel
theorem d_Ti_timesNamed_2 : decode m_Ti_timesNamed.2.1 2 = .ok (.iconst 0, 1) := by decide +kernel
theorem d_Ti_timesNamed_3 : decode m_Ti_timesNamed.2.1 3 = .ok (.istore_n 3, 1) := by decide +kernel
theorem d_Ti_timesNamed_4 : decode m_Ti_timesNamed.2.1 4 = .ok (.iload_n 3, 1) := by decide +kernel
theorem d_Ti_timesNamed_5 : decode m_Ti_timesNamed.2.1 5 = .ok (.aload_n 0, 1) := by decide +kernel
theorem d_Ti_timesNamed_6 : decode m_Ti_timesNamed.2.1 6 = .ok (.getfield 23, 3) := by decide +kernel
theorem d_Ti_timesNamed_9 : decode m_Ti_timesNamed.2.1 9 = .ok (.if_icmp .ge 22, 3) := by decide +kernel
theorem d_Ti_timesNamed_12 : decode m_Ti_timesNamed.2.1 12 = .ok (.aload_n 0, 1) := by decide +kernel
theorem d_Ti_timesNamed_13 : decode m_Ti_timesNamed.2.1 13 = .ok (.getfield 9, 3) := by decide +kernel
theorem d_Ti_timesNamed_16 : decode m_Ti_timesNamed.2.1 16 = .ok (.iload_n 3, 1) := by decide +kernel
theorem d_Ti_timesNamed_17 : decode m_Ti_timesNamed.2.1 17 = .ok (.iaload, 1) := by decide +kernel
theorem d_Ti_timesNamed_18 : decode m_Ti_timesNamed.2.1 18 = .ok (.iload_n 1, 1) := by decide +kernel
theorem d_Ti_timesNamed_19 : decode m_Ti_timesNamed.2.1 19 = .ok (.if_icmp .ne 6, 3) := by decide +kernel
theorem d_Ti_timesNamed_22 : decode m_Ti_timesNamed.2.1 22 = .ok (.iinc 2 1, 3) := by decide +kernel
theorem d_Ti_timesNamed_25 : decode m_Ti_timesNamed.2.1 25 = .ok (.iinc 3 1, 3) := by decide +kernel
theorem d_Ti_timesNamed_28 : decode m_Ti_timesNamed.2.1 28 = .ok (.goto (-24), 3) := by decide +kernel
theorem d_Ti_timesNamed_31 : decode m_Ti_timesNamed.2.1 31 = .ok (.iload_n 2, 1) := by decide +kernel
theorem d_Ti_timesNamed_32 : decode m_Ti_timesNamed.2.1 32 = .ok (.ireturn, 1) := by decide +kernel
theorem d_Ti_fill_0 : decode m_Ti_fill.2.1 0 = .ok (.aload_n 0, 1) := by decide +kernel
theorem d_Ti_fill_1 : decode m_Ti_fill.2.1 1 = .ok (.getfield 19, 3) := by decide +kernel
theorem d_Ti_fill_4 : decode m_Ti_fill.2.1 4 = .ok (.invokevirtual 46, 3) := by decide +kernel
theorem d_Ti_fill_7 : decode m_Ti_fill.2.1 7 = .ok (.aload_n 0, 1) := by decide +kernel
theorem d_Ti_fill_8 : decode m_Ti_fill.2.1 8 = .ok (.aload_n 1, 1) := by decide +kernel
theorem d_Ti_fill_9 : decode m_Ti_fill.2.1 9 = .ok (.iconst 0, 1) := by decide +kernel
theorem d_Ti_fill_10 : decode m_Ti_fill.2.1 10 = .ok (.invokevirtual 51, 3) := by decide +kernel
theorem d_Ti_fill_13 : decode m_Ti_fill.2.1 13 = .ok (.pop, 1) := by decide +kernel
theorem d_Ti_fill_14 : decode m_Ti_fill.2.1 14 = .ok (.return_, 1) := by decide +kernel
theorem d_Ti_placeFrom_0 : decode m_Ti_placeFrom.2.1 0 = .ok (.iload_n 2, 1) := by decide +kernel
theorem d_Ti_placeFrom_1 : decode m_Ti_placeFrom.2.1 1 = .ok (.aload_n 0, 1) := by decide +kernel
theorem d_Ti_placeFrom_2 : decode m_Ti_placeFrom.2.1 2 = .ok (.getfield 23, 3) := by decide +kernel
theorem d_Ti_placeFrom_5 : decode m_Ti_placeFrom.2.1 5 = .ok (.if_icmp .lt 5, 3) := by decide +kernel
theorem d_Ti_placeFrom_8 : decode m_Ti_placeFrom.2.1 8 = .ok (.iconst 1, 1) := by decide +kernel
theorem d_Ti_placeFrom_9 : decode m_Ti_placeFrom.2.1 9 = .ok (.ireturn, 1) := by decide +kernel
theorem d_Ti_placeFrom_10 : decode m_Ti_placeFrom.2.1 10 = .ok (.aload_n 0, 1) := by decide +kernel
theorem d_Ti_placeFrom_11 : decode m_Ti_placeFrom.2.1 11 = .ok (.getfield 19, 3) := by decide +kernel
theorem d_Ti_placeFrom_14 : decode m_Ti_placeFrom.2.1 14 = .ok (.invokevirtual 55, 3) := by decide +kernel
theorem d_Ti_placeFrom_17 : decode m_Ti_placeFrom.2.1 17 = .ok (.istore_n 3, 1) := by decide +kernel
theorem d_Ti_placeFrom_18 : decode m_Ti_placeFrom.2.1 18 = .ok (.iconst 0, 1) := by decide +kernel
theorem d_Ti_placeFrom_19 : decode m_Ti_placeFrom.2.1 19 = .ok (.istore 4, 2) := by decide +kernel
theorem d_Ti_placeFrom_21 : decode m_Ti_placeFrom.2.1 21 = .ok (.iload 4, 2) := by decide +kernel
theorem d_Ti_placeFrom_23 : decode m_Ti_placeFrom.2.1 23 = .ok (.iload_n 3, 1) := by decide +kernel
theorem d_Ti_placeFrom_24 : decode m_Ti_placeFrom.2.1 24 = .ok (.if_icmp .gt 66, 3) := by decide +kernel
theorem d_Ti_placeFrom_27 : decode m_Ti_placeFrom.2.1 27 = .ok (.aload_n 0, 1) := by decide +kernel
theorem d_Ti_placeFrom_28 : decode m_Ti_placeFrom.2.1 28 = .ok (.getfield 19, 3) := by decide +kernel
theorem d_Ti_placeFrom_31 : decode m_Ti_placeFrom.2.1 31 = .ok (.iload 4, 2) := by decide +kernel
theorem d_Ti_placeFrom_33 : decode m_Ti_placeFrom.2.1 33 = .ok (.invokevirtual 59, 3) := by decide +kernel
theorem d_Ti_placeFrom_36 : decode m_Ti_placeFrom.2.1 36 = .ok (.istore 5, 2) := by decide +kernel
theorem d_Ti_placeFrom_38 : decode m_Ti_placeFrom.2.1 38 = .ok (.iconst 0, 1) := by decide +kernel
theorem d_Ti_placeFrom_39 : decode m_Ti_placeFrom.2.1 39 = .ok (.istore 6, 2) := by decide +kernel
theorem d_Ti_placeFrom_41 : decode m_Ti_placeFrom.2.1 41 = .ok (.iload 6, 2) := by decide +kernel
theorem d_Ti_placeFrom_43 : decode m_Ti_placeFrom.2.1 43 = .ok (.iload 5, 2) := by decide +kernel
theorem d_Ti_placeFrom_45 : decode m_Ti_placeFrom.2.1 45 = .ok (.if_icmp .gt 39, 3) := by decide +kernel
theorem d_Ti_placeFrom_48 : decode m_Ti_placeFrom.2.1 48 = .ok (.aload_n 0, 1) := by decide +kernel
theorem d_Ti_placeFrom_49 : decode m_Ti_placeFrom.2.1 49 = .ok (.aload_n 1, 1) := by decide +kernel
theorem d_Ti_placeFrom_50 : decode m_Ti_placeFrom.2.1 50 = .ok (.iload_n 2, 1) := by decide +kernel
theorem d_Ti_placeFrom_51 : decode m_Ti_placeFrom.2.1 51 = .ok (.iload 4, 2) := by decide +kernel
theorem d_Ti_placeFrom_53 : decode m_Ti_placeFrom.2.1 53 = .ok (.iload 6, 2) := by decide +kernel
theorem d_Ti_placeFrom_55 : decode m_Ti_placeFrom.2.1 55 = .ok (.iconst 0, 1) := by decide +kernel
theorem d_Ti_placeFrom_56 : decode m_Ti_placeFrom.2.1 56 = .ok (.invokevirtual 62, 3) := by decide +kernel
theorem d_Ti_placeFrom_59 : decode m_Ti_placeFrom.2.1 59 = .ok (.ifCond .ne 17, 3) := by decide +kernel
theorem d_Ti_placeFrom_62 : decode m_Ti_placeFrom.2.1 62 = .ok (.aload_n 0, 1) := by decide +kernel
theorem d_Ti_placeFrom_63 : decode m_Ti_placeFrom.2.1 63 = .ok (.aload_n 1, 1) := by decide +kernel
theorem d_Ti_placeFrom_64 : decode m_Ti_placeFrom.2.1 64 = .ok (.iload_n 2, 1) := by decide +kernel
theorem d_Ti_placeFrom_65 : decode m_Ti_placeFrom.2.1 65 = .ok (.iload 4, 2) := by decide +kernel
theorem d_Ti_placeFrom_67 : decode m_Ti_placeFrom.2.1 67 = .ok (.iload 6, 2) := by decide +kernel
theorem d_Ti_placeFrom_69 : decode m_Ti_placeFrom.2.1 69 = .ok (.iconst 1, 1) := by decide +kernel
theorem d_Ti_placeFrom_70 : decode m_Ti_placeFrom.2.1 70 = .ok (.invokevirtual 62, 3) := by decide +kernel
theorem d_Ti_placeFrom_73 : decode m_Ti_placeFrom.2.1 73 = .ok (.ifCond .eq 5, 3) := by decide +kernel
theorem d_Ti_placeFrom_76 : decode m_Ti_placeFrom.2.1 76 = .ok (.iconst 1, 1) := by decide +kernel
theorem d_Ti_placeFrom_77 : decode m_Ti_placeFrom.2.1 77 = .ok (.ireturn, 1) := by decide +kernel
theorem d_Ti_placeFrom_78 : decode m_Ti_placeFrom.2.1 78 = .ok (.iinc 6 1, 3) := by decide +kernel
theorem d_Ti_placeFrom_81 : decode m_Ti_placeFrom.2.1 81 = .ok (.goto (-40), 3) := by decide +kernel
theorem d_Ti_placeFrom_84 : decode m_Ti_placeFrom.2.1 84 = .ok (.iinc 4 1, 3) := by decide +kernel
theorem d_Ti_placeFrom_87 : decode m_Ti_placeFrom.2.1 87 = .ok (.goto (-66), 3) := by decide +kernel
theorem d_Ti_placeFrom_90 : decode m_Ti_placeFrom.2.1 90 = .ok (.iconst 0, 1) := by decide +kernel
theorem d_Ti_placeFrom_91 : decode m_Ti_placeFrom.2.1 91 = .ok (.ireturn, 1) := by decide +kernel
theorem d_Ti_placeAt_0 : decode m_Ti_placeAt.2.1 0 = .ok (.aload_n 0, 1) := by decide +kernel
theorem d_Ti_placeAt_1 : decode m_Ti_placeAt.2.1 1 = .ok (.getfield 15, 3) := by decide +kernel
theorem d_Ti_placeAt_4 : decode m_Ti_placeAt.2.1 4 = .ok (.aload_n 0, 1) := by decide +kernel
theorem d_Ti_placeAt_5 : decode m_Ti_placeAt.2.1 5 = .ok (.getfield 9, 3) := by decide +kernel
theorem d_Ti_placeAt_8 : decode m_Ti_placeAt.2.1 8 = .ok (.iload_n 2, 1) := by decide +kernel
theorem d_Ti_placeAt_9 : decode m_Ti_placeAt.2.1 9 = .ok (.iaload, 1) := by decide +kernel
theorem d_Ti_placeAt_10 : decode m_Ti_placeAt.2.1 10 = .ok (.invokevirtual 31, 3) := by decide +kernel
theorem d_Ti_placeAt_13 : decode m_Ti_placeAt.2.1 13 = .ok (.astore 6, 2) := by decide +kernel
theorem d_Ti_placeAt_15 : decode m_Ti_placeAt.2.1 15 = .ok (.aload 6, 2) := by decide +kernel
theorem d_Ti_placeAt_17 : decode m_Ti_placeAt.2.1 17 = .ok (.ifnull 16, 3) := by decide +kernel
theorem d_Ti_placeAt_20 : decode m_Ti_placeAt.2.1 20 = .ok (.iload 5, 2) := by decide +kernel
theorem d_Ti_placeAt_22 : decode m_Ti_placeAt.2.1 22 = .ok (.ifCond .eq 13, 3) := by decide +kernel
theorem d_Ti_placeAt_25 : decode m_Ti_placeAt.2.1 25 = .ok (.aload 6, 2) := by decide +kernel
theorem d_Ti_placeAt_27 : decode m_Ti_placeAt.2.1 27 = .ok (.getfield 66, 3) := by decide +kernel
theorem d_Ti_placeAt_30 : decode m_Ti_placeAt.2.1 30 = .ok (.ifCond .ne 5, 3) := by decide +kernel
theorem d_Ti_placeAt_33 : decode m_Ti_placeAt.2.1 33 = .ok (.iconst 0, 1) := by decide +kernel
theorem d_Ti_placeAt_34 : decode m_Ti_placeAt.2.1 34 = .ok (.ireturn, 1) := by decide +kernel
theorem d_Ti_placeAt_35 : decode m_Ti_placeAt.2.1 35 = .ok (.aload_n 0, 1) := by decide +kernel
theorem d_Ti_placeAt_36 : decode m_Ti_placeAt.2.1 36 = .ok (.getfield 19, 3) := by decide +kernel
theorem d_Ti_placeAt_39 : decode m_Ti_placeAt.2.1 39 = .ok (.aload_n 0, 1) := by decide +kernel
theorem d_Ti_placeAt_40 : decode m_Ti_placeAt.2.1 40 = .ok (.getfield 9, 3) := by decide +kernel
theorem d_Ti_placeAt_43 : decode m_Ti_placeAt.2.1 43 = .ok (.iload_n 2, 1) := by decide +kernel
theorem d_Ti_placeAt_44 : decode m_Ti_placeAt.2.1 44 = .ok (.iaload, 1) := by decide +kernel
theorem d_Ti_placeAt_45 : decode m_Ti_placeAt.2.1 45 = .ok (.iload 5, 2) := by decide +kernel
theorem d_Ti_placeAt_47 : decode m_Ti_placeAt.2.1 47 = .ok (.ifCond .eq 11, 3) := by decide +kernel
theorem d_Ti_placeAt_50 : decode m_Ti_placeAt.2.1 50 = .ok (.aload 6, 2) := by decide +kernel
theorem d_Ti_placeAt_52 : decode m_Ti_placeAt.2.1 52 = .ok (.getfield 70, 3) := by decide +kernel
theorem d_Ti_placeAt_55 : decode m_Ti_placeAt.2.1 55 = .ok (.goto 8, 3) := by decide +kernel
theorem d_Ti_placeAt_58 : decode m_Ti_placeAt.2.1 58 = .ok (.aload 6, 2) := by decide +kernel
theorem d_Ti_placeAt_60 : decode m_Ti_placeAt.2.1 60 = .ok (.getfield 73, 3) := by decide +kernel
theorem d_Ti_placeAt_63 : decode m_Ti_placeAt.2.1 63 = .ok (.iload 5, 2) := by decide +kernel
theorem d_Ti_placeAt_65 : decode m_Ti_placeAt.2.1 65 = .ok (.ifCond .eq 11, 3) := by decide +kernel
theorem d_Ti_placeAt_68 : decode m_Ti_placeAt.2.1 68 = .ok (.aload 6, 2) := by decide +kernel
theorem d_Ti_placeAt_70 : decode m_Ti_placeAt.2.1 70 = .ok (.getfield 73, 3) := by decide +kernel
theorem d_Ti_placeAt_73 : decode m_Ti_placeAt.2.1 73 = .ok (.goto 8, 3) := by decide +kernel
theorem d_Ti_placeAt_76 : decode m_Ti_placeAt.2.1 76 = .ok (.aload 6, 2) := by decide +kernel
theorem d_Ti_placeAt_78 : decode m_Ti_placeAt.2.1 78 = .ok (.getfield 70, 3) := by decide +kernel
theorem d_Ti_placeAt_81 : decode m_Ti_placeAt.2.1 81 = .ok (.iload_n 3, 1) := by decide +kernel
theorem d_Ti_placeAt_82 : decode m_Ti_placeAt.2.1 82 = .ok (.iload 4, 2) := by decide +kernel
theorem d_Ti_placeAt_84 : decode m_Ti_placeAt.2.1 84 = .ok (.invokevirtual 76, 3) := by decide +kernel
theorem d_Ti_placeAt_87 : decode m_Ti_placeAt.2.1 87 = .ok (.aload_n 0, 1) := by decide +kernel
theorem d_Ti_placeAt_88 : decode m_Ti_placeAt.2.1 88 = .ok (.getfield 19, 3) := by decide +kernel
theorem d_Ti_placeAt_91 : decode m_Ti_placeAt.2.1 91 = .ok (.aload_n 1, 1) := by decide +kernel
theorem d_Ti_placeAt_92 : decode m_Ti_placeAt.2.1 92 = .ok (.invokevirtual 80, 3) := by decide +kernel
theorem d_Ti_placeAt_95 : decode m_Ti_placeAt.2.1 95 = .ok (.ifCond .eq 16, 3) := by decide +kernel
theorem d_Ti_placeAt_98 : decode m_Ti_placeAt.2.1 98 = .ok (.aload_n 0, 1) := by decide +kernel
theorem d_Ti_placeAt_99 : decode m_Ti_placeAt.2.1 99 = .ok (.aload_n 1, 1) := by decide +kernel
theorem d_Ti_placeAt_100 : decode m_Ti_placeAt.2.1 100 = .ok (.iload_n 2, 1) := by decide +kernel
theorem d_Ti_placeAt_101 : decode m_Ti_placeAt.2.1 101 = .ok (.iconst 1, 1) := by decide +kernel
theorem d_Ti_placeAt_102 : decode m_Ti_placeAt.2.1 102 = .ok (.iadd, 1) := by decide +kernel
theorem d_Ti_placeAt_103 : decode m_Ti_placeAt.2.1 103 = .ok (.invokevirtual 51, 3) := by decide +kernel
theorem d_Ti_placeAt_106 : decode m_Ti_placeAt.2.1 106 = .ok (.ifCond .eq 5, 3) := by decide +kernel
theorem d_Ti_placeAt_109 : decode m_Ti_placeAt.2.1 109 = .ok (.iconst 1, 1) := by decide +kernel
theorem d_Ti_placeAt_110 : decode m_Ti_placeAt.2.1 110 = .ok (.ireturn, 1) := by decide +kernel
theorem d_Ti_placeAt_111 : decode m_Ti_placeAt.2.1 111 = .ok (.aload_n 0, 1) := by decide +kernel
theorem d_Ti_placeAt_112 : decode m_Ti_placeAt.2.1 112 = .ok (.getfield 19, 3) := by decide +kernel
theorem d_Ti_placeAt_115 : decode m_Ti_placeAt.2.1 115 = .ok (.invokevirtual 84, 3) := by decide +kernel
theorem d_Ti_placeAt_118 : decode m_Ti_placeAt.2.1 118 = .ok (.iconst 0, 1) := by decide +kernel
theorem d_Ti_placeAt_119 : decode m_Ti_placeAt.2.1 119 = .ok (.ireturn, 1) := by decide +kernel
theorem d_La_fitsOn_0 : decode m_La_fitsOn.2.1 0 = .ok (.iconst 0, 1) := by decide +kernel
theorem d_La_fitsOn_1 : decode m_La_fitsOn.2.1 1 = .ok (.istore_n 2, 1) := by decide +kernel
theorem d_La_fitsOn_2 : decode m_La_fitsOn.2.1 2 = .ok (.aload_n 0, 1) := by decide +kernel
theorem d_La_fitsOn_3 : decode m_La_fitsOn.2.1 3 = .ok (.invokevirtual 51, 3) := by decide +kernel
theorem d_La_fitsOn_6 : decode m_La_fitsOn.2.1 6 = .ok (.istore_n 3, 1) := by decide +kernel
theorem d_La_fitsOn_7 : decode m_La_fitsOn.2.1 7 = .ok (.iconst 0, 1) := by decide +kernel
theorem d_La_fitsOn_8 : decode m_La_fitsOn.2.1 8 = .ok (.istore 4, 2) := by decide +kernel
theorem d_La_fitsOn_10 : decode m_La_fitsOn.2.1 10 = .ok (.iload 4, 2) := by decide +kernel
theorem d_La_fitsOn_12 : decode m_La_fitsOn.2.1 12 = .ok (.iload_n 3, 1) := by decide +kernel
theorem d_La_fitsOn_13 : decode m_La_fitsOn.2.1 13 = .ok (.if_icmp .ge 33, 3) := by decide +kernel
theorem d_La_fitsOn_16 : decode m_La_fitsOn.2.1 16 = .ok (.aload_n 0, 1) := by decide +kernel
theorem d_La_fitsOn_17 : decode m_La_fitsOn.2.1 17 = .ok (.iload 4, 2) := by decide +kernel
theorem d_La_fitsOn_19 : decode m_La_fitsOn.2.1 19 = .ok (.invokevirtual 55, 3) := by decide +kernel
theorem d_La_fitsOn_22 : decode m_La_fitsOn.2.1 22 = .ok (.aload_n 1, 1) := by decide +kernel
theorem d_La_fitsOn_23 : decode m_La_fitsOn.2.1 23 = .ok (.getfield 58, 3) := by decide +kernel
theorem d_La_fitsOn_26 : decode m_La_fitsOn.2.1 26 = .ok (.if_icmp .le 5, 3) := by decide +kernel
theorem d_La_fitsOn_29 : decode m_La_fitsOn.2.1 29 = .ok (.iconst 0, 1) := by decide +kernel
theorem d_La_fitsOn_30 : decode m_La_fitsOn.2.1 30 = .ok (.ireturn, 1) := by decide +kernel
theorem d_La_fitsOn_31 : decode m_La_fitsOn.2.1 31 = .ok (.iload_n 2, 1) := by decide +kernel
theorem d_La_fitsOn_32 : decode m_La_fitsOn.2.1 32 = .ok (.aload_n 0, 1) := by decide +kernel
theorem d_La_fitsOn_33 : decode m_La_fitsOn.2.1 33 = .ok (.iload 4, 2) := by decide +kernel
theorem d_La_fitsOn_35 : decode m_La_fitsOn.2.1 35 = .ok (.invokevirtual 62, 3) := by decide +kernel
theorem d_La_fitsOn_38 : decode m_La_fitsOn.2.1 38 = .ok (.iadd, 1) := by decide +kernel
theorem d_La_fitsOn_39 : decode m_La_fitsOn.2.1 39 = .ok (.istore_n 2, 1) := by decide +kernel
theorem d_La_fitsOn_40 : decode m_La_fitsOn.2.1 40 = .ok (.iinc 4 1, 3) := by decide +kernel
theorem d_La_fitsOn_43 : decode m_La_fitsOn.2.1 43 = .ok (.goto (-33), 3) := by decide +kernel
theorem d_La_fitsOn_46 : decode m_La_fitsOn.2.1 46 = .ok (.iload_n 2, 1) := by decide +kernel
theorem d_La_fitsOn_47 : decode m_La_fitsOn.2.1 47 = .ok (.aload_n 1, 1) := by decide +kernel
theorem d_La_fitsOn_48 : decode m_La_fitsOn.2.1 48 = .ok (.getfield 65, 3) := by decide +kernel
theorem d_La_fitsOn_51 : decode m_La_fitsOn.2.1 51 = .ok (.if_icmp .gt 7, 3) := by decide +kernel
theorem d_La_fitsOn_54 : decode m_La_fitsOn.2.1 54 = .ok (.iconst 1, 1) := by decide +kernel
theorem d_La_fitsOn_55 : decode m_La_fitsOn.2.1 55 = .ok (.goto 4, 3) := by decide +kernel
theorem d_La_fitsOn_58 : decode m_La_fitsOn.2.1 58 = .ok (.iconst 0, 1) := by decide +kernel
theorem d_La_fitsOn_59 : decode m_La_fitsOn.2.1 59 = .ok (.ireturn, 1) := by decide +kernel
theorem d_La_columnHeight_0 : decode m_La_columnHeight.2.1 0 = .ok (.iconst 0, 1) := by decide +kernel
theorem d_La_columnHeight_1 : decode m_La_columnHeight.2.1 1 = .ok (.istore_n 2, 1) := by decide +kernel
theorem d_La_columnHeight_2 : decode m_La_columnHeight.2.1 2 = .ok (.aload_n 0, 1) := by decide +kernel
theorem d_La_columnHeight_3 : decode m_La_columnHeight.2.1 3 = .ok (.iload_n 1, 1) := by decide +kernel
theorem d_La_columnHeight_4 : decode m_La_columnHeight.2.1 4 = .ok (.invokevirtual 41, 3) := by decide +kernel
theorem d_La_columnHeight_7 : decode m_La_columnHeight.2.1 7 = .ok (.istore_n 3, 1) := by decide +kernel
theorem d_La_columnHeight_8 : decode m_La_columnHeight.2.1 8 = .ok (.iconst 0, 1) := by decide +kernel
theorem d_La_columnHeight_9 : decode m_La_columnHeight.2.1 9 = .ok (.istore 4, 2) := by decide +kernel
theorem d_La_columnHeight_11 : decode m_La_columnHeight.2.1 11 = .ok (.iload 4, 2) := by decide +kernel
theorem d_La_columnHeight_13 : decode m_La_columnHeight.2.1 13 = .ok (.iload_n 3, 1) := by decide +kernel
theorem d_La_columnHeight_14 : decode m_La_columnHeight.2.1 14 = .ok (.if_icmp .ge 19, 3) := by decide +kernel
theorem d_La_columnHeight_17 : decode m_La_columnHeight.2.1 17 = .ok (.iload_n 2, 1) := by decide +kernel
theorem d_La_columnHeight_18 : decode m_La_columnHeight.2.1 18 = .ok (.aload_n 0, 1) := by decide +kernel
theorem d_La_columnHeight_19 : decode m_La_columnHeight.2.1 19 = .ok (.iload_n 1, 1) := by decide +kernel
theorem d_La_columnHeight_20 : decode m_La_columnHeight.2.1 20 = .ok (.iload 4, 2) := by decide +kernel
theorem d_La_columnHeight_22 : decode m_La_columnHeight.2.1 22 = .ok (.invokevirtual 48, 3) := by decide +kernel
theorem d_La_columnHeight_25 : decode m_La_columnHeight.2.1 25 = .ok (.iadd, 1) := by decide +kernel
theorem d_La_columnHeight_26 : decode m_La_columnHeight.2.1 26 = .ok (.istore_n 2, 1) := by decide +kernel
theorem d_La_columnHeight_27 : decode m_La_columnHeight.2.1 27 = .ok (.iinc 4 1, 3) := by decide +kernel
theorem d_La_columnHeight_30 : decode m_La_columnHeight.2.1 30 = .ok (.goto (-19), 3) := by decide +kernel
theorem d_La_columnHeight_33 : decode m_La_columnHeight.2.1 33 = .ok (.iload_n 2, 1) := by decide +kernel
theorem d_La_columnHeight_34 : decode m_La_columnHeight.2.1 34 = .ok (.ireturn, 1) := by decide +kernel
theorem d_La_dropLast_0 : decode m_La_dropLast.2.1 0 = .ok (.aload_n 0, 1) := by decide +kernel
theorem d_La_dropLast_1 : decode m_La_dropLast.2.1 1 = .ok (.getfield 27, 3) := by decide +kernel
theorem d_La_dropLast_4 : decode m_La_dropLast.2.1 4 = .ok (.ifCond .le 13, 3) := by decide +kernel
theorem d_La_dropLast_7 : decode m_La_dropLast.2.1 7 = .ok (.aload_n 0, 1) := by decide +kernel
theorem d_La_dropLast_8 : decode m_La_dropLast.2.1 8 = .ok (.dup, 1) := by decide +kernel
theorem d_La_dropLast_9 : decode m_La_dropLast.2.1 9 = .ok (.getfield 27, 3) := by decide +kernel
theorem d_La_dropLast_12 : decode m_La_dropLast.2.1 12 = .ok (.iconst 1, 1) := by decide +kernel
theorem d_La_dropLast_13 : decode m_La_dropLast.2.1 13 = .ok (.isub, 1) := by decide +kernel
theorem d_La_dropLast_14 : decode m_La_dropLast.2.1 14 = .ok (.putfield 27, 3) := by decide +kernel
theorem d_La_dropLast_17 : decode m_La_dropLast.2.1 17 = .ok (.return_, 1) := by decide +kernel
theorem d_Lw_node_0 : decode m_Lw_node.2.1 0 = .ok (.aload 4, 2) := by decide +kernel
theorem d_Lw_node_2 : decode m_Lw_node.2.1 2 = .ok (.iconst 0, 1) := by decide +kernel
theorem d_Lw_node_3 : decode m_Lw_node.2.1 3 = .ok (.aload_n 0, 1) := by decide +kernel
theorem d_Lw_node_4 : decode m_Lw_node.2.1 4 = .ok (.iload_n 1, 1) := by decide +kernel
theorem d_Lw_node_5 : decode m_Lw_node.2.1 5 = .ok (.iload_n 2, 1) := by decide +kernel
theorem d_Lw_node_6 : decode m_Lw_node.2.1 6 = .ok (.iload_n 3, 1) := by decide +kernel
theorem d_Lw_node_7 : decode m_Lw_node.2.1 7 = .ok (.invokevirtual 35, 3) := by decide +kernel
theorem d_Lw_node_10 : decode m_Lw_node.2.1 10 = .ok (.i2l, 1) := by decide +kernel
theorem d_Lw_node_11 : decode m_Lw_node.2.1 11 = .ok (.lastore, 1) := by decide +kernel
theorem d_Lw_node_12 : decode m_Lw_node.2.1 12 = .ok (.goto 19, 3) := by decide +kernel
theorem d_Lw_node_15 : decode m_Lw_node.2.1 15 = .ok (.astore 5, 2) := by decide +kernel
theorem d_Lw_node_17 : decode m_Lw_node.2.1 17 = .ok (.iconst 1, 1) := by decide +kernel
theorem d_Lw_node_18 : decode m_Lw_node.2.1 18 = .ok (.ireturn, 1) := by decide +kernel
theorem d_Lw_node_19 : decode m_Lw_node.2.1 19 = .ok (.astore 5, 2) := by decide +kernel
theorem d_Lw_node_21 : decode m_Lw_node.2.1 21 = .ok (.iconst 2, 1) := by decide +kernel
theorem d_Lw_node_22 : decode m_Lw_node.2.1 22 = .ok (.ireturn, 1) := by decide +kernel
theorem d_Lw_node_23 : decode m_Lw_node.2.1 23 = .ok (.astore 5, 2) := by decide +kernel
theorem d_Lw_node_25 : decode m_Lw_node.2.1 25 = .ok (.iconst 3, 1) := by decide +kernel
theorem d_Lw_node_26 : decode m_Lw_node.2.1 26 = .ok (.ireturn, 1) := by decide +kernel
theorem d_Lw_node_27 : decode m_Lw_node.2.1 27 = .ok (.astore 5, 2) := by decide +kernel
theorem d_Lw_node_29 : decode m_Lw_node.2.1 29 = .ok (.iconst 4, 1) := by decide +kernel
theorem d_Lw_node_30 : decode m_Lw_node.2.1 30 = .ok (.ireturn, 1) := by decide +kernel
theorem d_Lw_node_31 : decode m_Lw_node.2.1 31 = .ok (.iconst 0, 1) := by decide +kernel
theorem d_Lw_node_32 : decode m_Lw_node.2.1 32 = .ok (.ireturn, 1) := by decide +kernel
theorem d_Ha_node_0 : decode m_Ha_node.2.1 0 = .ok (.aload_n 0, 1) := by decide +kernel
theorem d_Ha_node_1 : decode m_Ha_node.2.1 1 = .ok (.iload_n 1, 1) := by decide +kernel
theorem d_Ha_node_2 : decode m_Ha_node.2.1 2 = .ok (.invokevirtual 154, 3) := by decide +kernel
theorem d_Ha_node_5 : decode m_Ha_node.2.1 5 = .ok (.getfield 104, 3) := by decide +kernel
theorem d_Ha_node_8 : decode m_Ha_node.2.1 8 = .ok (.astore 4, 2) := by decide +kernel
theorem d_Ha_node_10 : decode m_Ha_node.2.1 10 = .ok (.aload 4, 2) := by decide +kernel
theorem d_Ha_node_12 : decode m_Ha_node.2.1 12 = .ok (.iload_n 2, 1) := by decide +kernel
theorem d_Ha_node_13 : decode m_Ha_node.2.1 13 = .ok (.invokevirtual 157, 3) := by decide +kernel
theorem d_Ha_node_16 : decode m_Ha_node.2.1 16 = .ok (.ifCond .ne 11, 3) := by decide +kernel
theorem d_Ha_node_19 : decode m_Ha_node.2.1 19 = .ok (.new 160, 3) := by decide +kernel
theorem d_Ha_node_22 : decode m_Ha_node.2.1 22 = .ok (.dup, 1) := by decide +kernel
theorem d_Ha_node_23 : decode m_Ha_node.2.1 23 = .ok (.invokespecial 162, 3) := by decide +kernel
theorem d_Ha_node_26 : decode m_Ha_node.2.1 26 = .ok (.athrow, 1) := by decide +kernel
theorem d_Ha_node_27 : decode m_Ha_node.2.1 27 = .ok (.iload_n 3, 1) := by decide +kernel
theorem d_Ha_node_28 : decode m_Ha_node.2.1 28 = .ok (.ifCond .lt 9, 3) := by decide +kernel
theorem d_Ha_node_31 : decode m_Ha_node.2.1 31 = .ok (.iload_n 3, 1) := by decide +kernel
theorem d_Ha_node_32 : decode m_Ha_node.2.1 32 = .ok (.bipush 8, 2) := by decide +kernel
theorem d_Ha_node_34 : decode m_Ha_node.2.1 34 = .ok (.if_icmp .le 11, 3) := by decide +kernel
theorem d_Ha_node_37 : decode m_Ha_node.2.1 37 = .ok (.new 57, 3) := by decide +kernel
theorem d_Ha_node_40 : decode m_Ha_node.2.1 40 = .ok (.dup, 1) := by decide +kernel
theorem d_Ha_node_41 : decode m_Ha_node.2.1 41 = .ok (.invokespecial 59, 3) := by decide +kernel
theorem d_Ha_node_44 : decode m_Ha_node.2.1 44 = .ok (.athrow, 1) := by decide +kernel
theorem d_Ha_node_45 : decode m_Ha_node.2.1 45 = .ok (.aload 4, 2) := by decide +kernel
theorem d_Ha_node_47 : decode m_Ha_node.2.1 47 = .ok (.iload_n 2, 1) := by decide +kernel
theorem d_Ha_node_48 : decode m_Ha_node.2.1 48 = .ok (.iload_n 3, 1) := by decide +kernel
theorem d_Ha_node_49 : decode m_Ha_node.2.1 49 = .ok (.invokevirtual 163, 3) := by decide +kernel
theorem d_Ha_node_52 : decode m_Ha_node.2.1 52 = .ok (.ireturn, 1) := by decide +kernel
theorem d_Ha_findPlanned_0 : decode m_Ha_findPlanned.2.1 0 = .ok (.aload_n 0, 1) := by decide +kernel
theorem d_Ha_findPlanned_1 : decode m_Ha_findPlanned.2.1 1 = .ok (.iload_n 1, 1) := by decide +kernel
theorem d_Ha_findPlanned_2 : decode m_Ha_findPlanned.2.1 2 = .ok (.invokevirtual 89, 3) := by decide +kernel
theorem d_Ha_findPlanned_5 : decode m_Ha_findPlanned.2.1 5 = .ok (.astore_n 2, 1) := by decide +kernel
theorem d_Ha_findPlanned_6 : decode m_Ha_findPlanned.2.1 6 = .ok (.aload_n 2, 1) := by decide +kernel
theorem d_Ha_findPlanned_7 : decode m_Ha_findPlanned.2.1 7 = .ok (.getfield 104, 3) := by decide +kernel
theorem d_Ha_findPlanned_10 : decode m_Ha_findPlanned.2.1 10 = .ok (.invokevirtual 108, 3) := by decide +kernel
theorem d_Ha_findPlanned_13 : decode m_Ha_findPlanned.2.1 13 = .ok (.ifCond .ne 11, 3) := by decide +kernel
theorem d_Ha_findPlanned_16 : decode m_Ha_findPlanned.2.1 16 = .ok (.new 64, 3) := by decide +kernel
theorem d_Ha_findPlanned_19 : decode m_Ha_findPlanned.2.1 19 = .ok (.dup, 1) := by decide +kernel
theorem d_Ha_findPlanned_20 : decode m_Ha_findPlanned.2.1 20 = .ok (.invokespecial 66, 3) := by decide +kernel
theorem d_Ha_findPlanned_23 : decode m_Ha_findPlanned.2.1 23 = .ok (.athrow, 1) := by decide +kernel
theorem d_Ha_findPlanned_24 : decode m_Ha_findPlanned.2.1 24 = .ok (.aload_n 2, 1) := by decide +kernel
theorem d_Ha_findPlanned_25 : decode m_Ha_findPlanned.2.1 25 = .ok (.areturn, 1) := by decide +kernel
theorem d_Tr_has_0 : decode m_Tr_has.2.1 0 = .ok (.iload_n 1, 1) := by decide +kernel
theorem d_Tr_has_1 : decode m_Tr_has.2.1 1 = .ok (.ifCond .lt 15, 3) := by decide +kernel
theorem d_Tr_has_4 : decode m_Tr_has.2.1 4 = .ok (.iload_n 1, 1) := by decide +kernel
theorem d_Tr_has_5 : decode m_Tr_has.2.1 5 = .ok (.aload_n 0, 1) := by decide +kernel
theorem d_Tr_has_6 : decode m_Tr_has.2.1 6 = .ok (.getfield 36, 3) := by decide +kernel
theorem d_Tr_has_9 : decode m_Tr_has.2.1 9 = .ok (.if_icmp .ge 7, 3) := by decide +kernel
theorem d_Tr_has_12 : decode m_Tr_has.2.1 12 = .ok (.iconst 1, 1) := by decide +kernel
theorem d_Tr_has_13 : decode m_Tr_has.2.1 13 = .ok (.goto 4, 3) := by decide +kernel
theorem d_Tr_has_16 : decode m_Tr_has.2.1 16 = .ok (.iconst 0, 1) := by decide +kernel
theorem d_Tr_has_17 : decode m_Tr_has.2.1 17 = .ok (.ireturn, 1) := by decide +kernel
theorem d_Tr_tell_0 : decode m_Tr_tell.2.1 0 = .ok (.iload_n 2, 1) := by decide +kernel
theorem d_Tr_tell_1 : decode m_Tr_tell.2.1 1 = .ok (.tableswitch 112 0 7 #[47, 54, 61, 68, 75, 82, 89, 105], 47) := by decide +kernel
theorem d_Tr_tell_48 : decode m_Tr_tell.2.1 48 = .ok (.aload_n 0, 1) := by decide +kernel
theorem d_Tr_tell_49 : decode m_Tr_tell.2.1 49 = .ok (.getfield 9, 3) := by decide +kernel
theorem d_Tr_tell_52 : decode m_Tr_tell.2.1 52 = .ok (.iload_n 1, 1) := by decide +kernel
theorem d_Tr_tell_53 : decode m_Tr_tell.2.1 53 = .ok (.iaload, 1) := by decide +kernel
theorem d_Tr_tell_54 : decode m_Tr_tell.2.1 54 = .ok (.ireturn, 1) := by decide +kernel
theorem d_Tr_tell_55 : decode m_Tr_tell.2.1 55 = .ok (.aload_n 0, 1) := by decide +kernel
theorem d_Tr_tell_56 : decode m_Tr_tell.2.1 56 = .ok (.getfield 15, 3) := by decide +kernel
theorem d_Tr_tell_59 : decode m_Tr_tell.2.1 59 = .ok (.iload_n 1, 1) := by decide +kernel
theorem d_Tr_tell_60 : decode m_Tr_tell.2.1 60 = .ok (.iaload, 1) := by decide +kernel
theorem d_Tr_tell_61 : decode m_Tr_tell.2.1 61 = .ok (.ireturn, 1) := by decide +kernel
theorem d_Tr_tell_62 : decode m_Tr_tell.2.1 62 = .ok (.aload_n 0, 1) := by decide +kernel
theorem d_Tr_tell_63 : decode m_Tr_tell.2.1 63 = .ok (.getfield 18, 3) := by decide +kernel
theorem d_Tr_tell_66 : decode m_Tr_tell.2.1 66 = .ok (.iload_n 1, 1) := by decide +kernel
theorem d_Tr_tell_67 : decode m_Tr_tell.2.1 67 = .ok (.iaload, 1) := by decide +kernel
theorem d_Tr_tell_68 : decode m_Tr_tell.2.1 68 = .ok (.ireturn, 1) := by decide +kernel
theorem d_Tr_tell_69 : decode m_Tr_tell.2.1 69 = .ok (.aload_n 0, 1) := by decide +kernel
theorem d_Tr_tell_70 : decode m_Tr_tell.2.1 70 = .ok (.getfield 21, 3) := by decide +kernel
theorem d_Tr_tell_73 : decode m_Tr_tell.2.1 73 = .ok (.iload_n 1, 1) := by decide +kernel
theorem d_Tr_tell_74 : decode m_Tr_tell.2.1 74 = .ok (.iaload, 1) := by decide +kernel
theorem d_Tr_tell_75 : decode m_Tr_tell.2.1 75 = .ok (.ireturn, 1) := by decide +kernel
theorem d_Tr_tell_76 : decode m_Tr_tell.2.1 76 = .ok (.aload_n 0, 1) := by decide +kernel
theorem d_Tr_tell_77 : decode m_Tr_tell.2.1 77 = .ok (.getfield 24, 3) := by decide +kernel
theorem d_Tr_tell_80 : decode m_Tr_tell.2.1 80 = .ok (.iload_n 1, 1) := by decide +kernel
theorem d_Tr_tell_81 : decode m_Tr_tell.2.1 81 = .ok (.iaload, 1) := by decide +kernel
theorem d_Tr_tell_82 : decode m_Tr_tell.2.1 82 = .ok (.ireturn, 1) := by decide +kernel
theorem d_Tr_tell_83 : decode m_Tr_tell.2.1 83 = .ok (.aload_n 0, 1) := by decide +kernel
theorem d_Tr_tell_84 : decode m_Tr_tell.2.1 84 = .ok (.getfield 27, 3) := by decide +kernel
theorem d_Tr_tell_87 : decode m_Tr_tell.2.1 87 = .ok (.iload_n 1, 1) := by decide +kernel
theorem d_Tr_tell_88 : decode m_Tr_tell.2.1 88 = .ok (.iaload, 1) := by decide +kernel
theorem d_Tr_tell_89 : decode m_Tr_tell.2.1 89 = .ok (.ireturn, 1) := by decide +kernel
theorem d_Tr_tell_90 : decode m_Tr_tell.2.1 90 = .ok (.aload_n 0, 1) := by decide +kernel
theorem d_Tr_tell_91 : decode m_Tr_tell.2.1 91 = .ok (.iload_n 1, 1) := by decide +kernel
theorem d_Tr_tell_92 : decode m_Tr_tell.2.1 92 = .ok (.invokevirtual 97, 3) := by decide +kernel
theorem d_Tr_tell_95 : decode m_Tr_tell.2.1 95 = .ok (.ifCond .eq 9, 3) := by decide +kernel
theorem d_Tr_tell_98 : decode m_Tr_tell.2.1 98 = .ok (.iload_n 1, 1) := by decide +kernel
theorem d_Tr_tell_99 : decode m_Tr_tell.2.1 99 = .ok (.iconst 1, 1) := by decide +kernel
theorem d_Tr_tell_100 : decode m_Tr_tell.2.1 100 = .ok (.iadd, 1) := by decide +kernel
theorem d_Tr_tell_101 : decode m_Tr_tell.2.1 101 = .ok (.goto 4, 3) := by decide +kernel
theorem d_Tr_tell_104 : decode m_Tr_tell.2.1 104 = .ok (.iconst (-1), 1) := by decide +kernel
theorem d_Tr_tell_105 : decode m_Tr_tell.2.1 105 = .ok (.ireturn, 1) := by decide +kernel
theorem d_Tr_tell_106 : decode m_Tr_tell.2.1 106 = .ok (.aload_n 0, 1) := by decide +kernel
theorem d_Tr_tell_107 : decode m_Tr_tell.2.1 107 = .ok (.getfield 30, 3) := by decide +kernel
theorem d_Tr_tell_110 : decode m_Tr_tell.2.1 110 = .ok (.iload_n 1, 1) := by decide +kernel
theorem d_Tr_tell_111 : decode m_Tr_tell.2.1 111 = .ok (.iaload, 1) := by decide +kernel
theorem d_Tr_tell_112 : decode m_Tr_tell.2.1 112 = .ok (.ireturn, 1) := by decide +kernel
theorem d_Tr_tell_113 : decode m_Tr_tell.2.1 113 = .ok (.aload_n 0, 1) := by decide +kernel
theorem d_Tr_tell_114 : decode m_Tr_tell.2.1 114 = .ok (.getfield 33, 3) := by decide +kernel
theorem d_Tr_tell_117 : decode m_Tr_tell.2.1 117 = .ok (.iload_n 1, 1) := by decide +kernel
theorem d_Tr_tell_118 : decode m_Tr_tell.2.1 118 = .ok (.iaload, 1) := by decide +kernel
theorem d_Tr_tell_119 : decode m_Tr_tell.2.1 119 = .ok (.ireturn, 1) := by decide +kernel
theorem d_Tr_isCut_0 : decode m_Tr_isCut.2.1 0 = .ok (.aload_n 0, 1) := by decide +kernel
theorem d_Tr_isCut_1 : decode m_Tr_isCut.2.1 1 = .ok (.getfield 9, 3) := by decide +kernel
theorem d_Tr_isCut_4 : decode m_Tr_isCut.2.1 4 = .ok (.iload_n 1, 1) := by decide +kernel
theorem d_Tr_isCut_5 : decode m_Tr_isCut.2.1 5 = .ok (.iaload, 1) := by decide +kernel
theorem d_Tr_isCut_6 : decode m_Tr_isCut.2.1 6 = .ok (.ifCond .eq 13, 3) := by decide +kernel
theorem d_Tr_isCut_9 : decode m_Tr_isCut.2.1 9 = .ok (.aload_n 0, 1) := by decide +kernel
theorem d_Tr_isCut_10 : decode m_Tr_isCut.2.1 10 = .ok (.getfield 9, 3) := by decide +kernel
theorem d_Tr_isCut_13 : decode m_Tr_isCut.2.1 13 = .ok (.iload_n 1, 1) := by decide +kernel
theorem d_Tr_isCut_14 : decode m_Tr_isCut.2.1 14 = .ok (.iaload, 1) := by decide +kernel
theorem d_Tr_isCut_15 : decode m_Tr_isCut.2.1 15 = .ok (.iconst 1, 1) := by decide +kernel
theorem d_Tr_isCut_16 : decode m_Tr_isCut.2.1 16 = .ok (.if_icmp .ne 7, 3) := by decide +kernel
theorem d_Tr_isCut_19 : decode m_Tr_isCut.2.1 19 = .ok (.iconst 1, 1) := by decide +kernel
theorem d_Tr_isCut_20 : decode m_Tr_isCut.2.1 20 = .ok (.goto 4, 3) := by decide +kernel
theorem d_Tr_isCut_23 : decode m_Tr_isCut.2.1 23 = .ok (.iconst 0, 1) := by decide +kernel
theorem d_Tr_isCut_24 : decode m_Tr_isCut.2.1 24 = .ok (.ireturn, 1) := by decide +kernel
theorem d_Lw_nodes_0 : decode m_Lw_nodes.2.1 0 = .ok (.aload_n 2, 1) := by decide +kernel
theorem d_Lw_nodes_1 : decode m_Lw_nodes.2.1 1 = .ok (.iconst 0, 1) := by decide +kernel
theorem d_Lw_nodes_2 : decode m_Lw_nodes.2.1 2 = .ok (.aload_n 0, 1) := by decide +kernel
theorem d_Lw_nodes_3 : decode m_Lw_nodes.2.1 3 = .ok (.iload_n 1, 1) := by decide +kernel
theorem d_Lw_nodes_4 : decode m_Lw_nodes.2.1 4 = .ok (.invokevirtual 41, 3) := by decide +kernel
theorem d_Lw_nodes_7 : decode m_Lw_nodes.2.1 7 = .ok (.i2l, 1) := by decide +kernel
theorem d_Lw_nodes_8 : decode m_Lw_nodes.2.1 8 = .ok (.lastore, 1) := by decide +kernel
theorem d_Lw_nodes_9 : decode m_Lw_nodes.2.1 9 = .ok (.goto 9, 3) := by decide +kernel
theorem d_Lw_nodes_12 : decode m_Lw_nodes.2.1 12 = .ok (.astore_n 3, 1) := by decide +kernel
theorem d_Lw_nodes_13 : decode m_Lw_nodes.2.1 13 = .ok (.iconst 1, 1) := by decide +kernel
theorem d_Lw_nodes_14 : decode m_Lw_nodes.2.1 14 = .ok (.ireturn, 1) := by decide +kernel
theorem d_Lw_nodes_15 : decode m_Lw_nodes.2.1 15 = .ok (.astore_n 3, 1) := by decide +kernel
theorem d_Lw_nodes_16 : decode m_Lw_nodes.2.1 16 = .ok (.iconst 2, 1) := by decide +kernel
theorem d_Lw_nodes_17 : decode m_Lw_nodes.2.1 17 = .ok (.ireturn, 1) := by decide +kernel
theorem d_Lw_nodes_18 : decode m_Lw_nodes.2.1 18 = .ok (.iconst 0, 1) := by decide +kernel
theorem d_Lw_nodes_19 : decode m_Lw_nodes.2.1 19 = .ok (.ireturn, 1) := by decide +kernel
theorem d_Ha_nodes_0 : decode m_Ha_nodes.2.1 0 = .ok (.aload_n 0, 1) := by decide +kernel
theorem d_Ha_nodes_1 : decode m_Ha_nodes.2.1 1 = .ok (.iload_n 1, 1) := by decide +kernel
theorem d_Ha_nodes_2 : decode m_Ha_nodes.2.1 2 = .ok (.invokevirtual 154, 3) := by decide +kernel
theorem d_Ha_nodes_5 : decode m_Ha_nodes.2.1 5 = .ok (.getfield 104, 3) := by decide +kernel
theorem d_Ha_nodes_8 : decode m_Ha_nodes.2.1 8 = .ok (.getfield 167, 3) := by decide +kernel
theorem d_Ha_nodes_11 : decode m_Ha_nodes.2.1 11 = .ok (.ireturn, 1) := by decide +kernel
theorem d_Lw_score_0 : decode m_Lw_score.2.1 0 = .ok (.aload_n 2, 1) := by decide +kernel
theorem d_Lw_score_1 : decode m_Lw_score.2.1 1 = .ok (.iconst 0, 1) := by decide +kernel
theorem d_Lw_score_2 : decode m_Lw_score.2.1 2 = .ok (.aload_n 0, 1) := by decide +kernel
theorem d_Lw_score_3 : decode m_Lw_score.2.1 3 = .ok (.iload_n 1, 1) := by decide +kernel
theorem d_Lw_score_4 : decode m_Lw_score.2.1 4 = .ok (.invokevirtual 44, 3) := by decide +kernel
theorem d_Lw_score_7 : decode m_Lw_score.2.1 7 = .ok (.i2l, 1) := by decide +kernel
theorem d_Lw_score_8 : decode m_Lw_score.2.1 8 = .ok (.lastore, 1) := by decide +kernel
theorem d_Lw_score_9 : decode m_Lw_score.2.1 9 = .ok (.goto 9, 3) := by decide +kernel
theorem d_Lw_score_12 : decode m_Lw_score.2.1 12 = .ok (.astore_n 3, 1) := by decide +kernel
theorem d_Lw_score_13 : decode m_Lw_score.2.1 13 = .ok (.iconst 1, 1) := by decide +kernel
theorem d_Lw_score_14 : decode m_Lw_score.2.1 14 = .ok (.ireturn, 1) := by decide +kernel
theorem d_Lw_score_15 : decode m_Lw_score.2.1 15 = .ok (.astore_n 3, 1) := by decide +kernel
theorem d_Lw_score_16 : decode m_Lw_score.2.1 16 = .ok (.iconst 2, 1) := by decide +kernel
theorem d_Lw_score_17 : decode m_Lw_score.2.1 17 = .ok (.ireturn, 1) := by decide +kernel
theorem d_Lw_score_18 : decode m_Lw_score.2.1 18 = .ok (.iconst 0, 1) := by decide +kernel
theorem d_Lw_score_19 : decode m_Lw_score.2.1 19 = .ok (.ireturn, 1) := by decide +kernel
theorem d_Ha_score_0 : decode m_Ha_score.2.1 0 = .ok (.aload_n 0, 1) := by decide +kernel
theorem d_Ha_score_1 : decode m_Ha_score.2.1 1 = .ok (.iload_n 1, 1) := by decide +kernel
theorem d_Ha_score_2 : decode m_Ha_score.2.1 2 = .ok (.invokevirtual 154, 3) := by decide +kernel
theorem d_Ha_score_5 : decode m_Ha_score.2.1 5 = .ok (.astore_n 2, 1) := by decide +kernel
theorem d_Ha_score_6 : decode m_Ha_score.2.1 6 = .ok (.aload_n 2, 1) := by decide +kernel
theorem d_Ha_score_7 : decode m_Ha_score.2.1 7 = .ok (.getfield 104, 3) := by decide +kernel
theorem d_Ha_score_10 : decode m_Ha_score.2.1 10 = .ok (.astore_n 3, 1) := by decide +kernel
theorem d_Ha_score_11 : decode m_Ha_score.2.1 11 = .ok (.aload_n 3, 1) := by decide +kernel
theorem d_Ha_score_12 : decode m_Ha_score.2.1 12 = .ok (.invokevirtual 168, 3) := by decide +kernel
theorem d_Ha_score_15 : decode m_Ha_score.2.1 15 = .ok (.istore 4, 2) := by decide +kernel
theorem d_Ha_score_17 : decode m_Ha_score.2.1 17 = .ok (.aload_n 3, 1) := by decide +kernel
theorem d_Ha_score_18 : decode m_Ha_score.2.1 18 = .ok (.iload 4, 2) := by decide +kernel
theorem d_Ha_score_20 : decode m_Ha_score.2.1 20 = .ok (.invokevirtual 157, 3) := by decide +kernel
theorem d_Ha_score_23 : decode m_Ha_score.2.1 23 = .ok (.ifCond .ne 5, 3) := by decide +kernel
theorem d_Ha_score_26 : decode m_Ha_score.2.1 26 = .ok (.iconst (-1), 1) := by decide +kernel
theorem d_Ha_score_27 : decode m_Ha_score.2.1 27 = .ok (.ireturn, 1) := by decide +kernel
theorem d_Ha_score_28 : decode m_Ha_score.2.1 28 = .ok (.aload_n 3, 1) := by decide +kernel
theorem d_Ha_score_29 : decode m_Ha_score.2.1 29 = .ok (.iload 4, 2) := by decide +kernel
theorem d_Ha_score_31 : decode m_Ha_score.2.1 31 = .ok (.invokevirtual 172, 3) := by decide +kernel
theorem d_Ha_score_34 : decode m_Ha_score.2.1 34 = .ok (.ifCond .eq 35, 3) := by decide +kernel
theorem d_Ha_score_37 : decode m_Ha_score.2.1 37 = .ok (.aload_n 3, 1) := by decide +kernel
theorem d_Ha_score_38 : decode m_Ha_score.2.1 38 = .ok (.getfield 175, 3) := by decide +kernel
theorem d_Ha_score_41 : decode m_Ha_score.2.1 41 = .ok (.iload 4, 2) := by decide +kernel
theorem d_Ha_score_43 : decode m_Ha_score.2.1 43 = .ok (.iconst 2, 1) := by decide +kernel
theorem d_Ha_score_44 : decode m_Ha_score.2.1 44 = .ok (.iastore, 1) := by decide +kernel
theorem d_Ha_score_45 : decode m_Ha_score.2.1 45 = .ok (.aload_n 0, 1) := by decide +kernel
theorem d_Ha_score_46 : decode m_Ha_score.2.1 46 = .ok (.aload_n 2, 1) := by decide +kernel
theorem d_Ha_score_47 : decode m_Ha_score.2.1 47 = .ok (.iload 4, 2) := by decide +kernel
theorem d_Ha_score_49 : decode m_Ha_score.2.1 49 = .ok (.iconst 1, 1) := by decide +kernel
theorem d_Ha_score_50 : decode m_Ha_score.2.1 50 = .ok (.iadd, 1) := by decide +kernel
theorem d_Ha_score_51 : decode m_Ha_score.2.1 51 = .ok (.invokevirtual 179, 3) := by decide +kernel
theorem d_Ha_score_54 : decode m_Ha_score.2.1 54 = .ok (.aload_n 0, 1) := by decide +kernel
theorem d_Ha_score_55 : decode m_Ha_score.2.1 55 = .ok (.aload_n 2, 1) := by decide +kernel
theorem d_Ha_score_56 : decode m_Ha_score.2.1 56 = .ok (.aload_n 3, 1) := by decide +kernel
theorem d_Ha_score_57 : decode m_Ha_score.2.1 57 = .ok (.getfield 183, 3) := by decide +kernel
theorem d_Ha_score_60 : decode m_Ha_score.2.1 60 = .ok (.iload 4, 2) := by decide +kernel
theorem d_Ha_score_62 : decode m_Ha_score.2.1 62 = .ok (.iaload, 1) := by decide +kernel
theorem d_Ha_score_63 : decode m_Ha_score.2.1 63 = .ok (.invokevirtual 179, 3) := by decide +kernel
theorem d_Ha_score_66 : decode m_Ha_score.2.1 66 = .ok (.goto 10, 3) := by decide +kernel
theorem d_Ha_score_69 : decode m_Ha_score.2.1 69 = .ok (.aload_n 0, 1) := by decide +kernel
theorem d_Ha_score_70 : decode m_Ha_score.2.1 70 = .ok (.aload_n 2, 1) := by decide +kernel
theorem d_Ha_score_71 : decode m_Ha_score.2.1 71 = .ok (.iload 4, 2) := by decide +kernel
theorem d_Ha_score_73 : decode m_Ha_score.2.1 73 = .ok (.invokevirtual 179, 3) := by decide +kernel
theorem d_Ha_score_76 : decode m_Ha_score.2.1 76 = .ok (.aload_n 0, 1) := by decide +kernel
theorem d_Ha_score_77 : decode m_Ha_score.2.1 77 = .ok (.aload_n 2, 1) := by decide +kernel
theorem d_Ha_score_78 : decode m_Ha_score.2.1 78 = .ok (.invokevirtual 186, 3) := by decide +kernel
theorem d_Ha_score_81 : decode m_Ha_score.2.1 81 = .ok (.iload 4, 2) := by decide +kernel
theorem d_Ha_score_83 : decode m_Ha_score.2.1 83 = .ok (.ireturn, 1) := by decide +kernel
theorem d_Tr_firstWaiting_0 : decode m_Tr_firstWaiting.2.1 0 = .ok (.iconst 0, 1) := by decide +kernel
theorem d_Tr_firstWaiting_1 : decode m_Tr_firstWaiting.2.1 1 = .ok (.istore_n 1, 1) := by decide +kernel
theorem d_Tr_firstWaiting_2 : decode m_Tr_firstWaiting.2.1 2 = .ok (.iload_n 1, 1) := by decide +kernel
theorem d_Tr_firstWaiting_3 : decode m_Tr_firstWaiting.2.1 3 = .ok (.aload_n 0, 1) := by decide +kernel
theorem d_Tr_firstWaiting_4 : decode m_Tr_firstWaiting.2.1 4 = .ok (.getfield 36, 3) := by decide +kernel
theorem d_Tr_firstWaiting_7 : decode m_Tr_firstWaiting.2.1 7 = .ok (.if_icmp .ge 21, 3) := by decide +kernel
theorem d_Tr_firstWaiting_10 : decode m_Tr_firstWaiting.2.1 10 = .ok (.aload_n 0, 1) := by decide +kernel
theorem d_Tr_firstWaiting_11 : decode m_Tr_firstWaiting.2.1 11 = .ok (.getfield 33, 3) := by decide +kernel
theorem d_Tr_firstWaiting_14 : decode m_Tr_firstWaiting.2.1 14 = .ok (.iload_n 1, 1) := by decide +kernel
theorem d_Tr_firstWaiting_15 : decode m_Tr_firstWaiting.2.1 15 = .ok (.iaload, 1) := by decide +kernel
theorem d_Tr_firstWaiting_16 : decode m_Tr_firstWaiting.2.1 16 = .ok (.iconst 1, 1) := by decide +kernel
theorem d_Tr_firstWaiting_17 : decode m_Tr_firstWaiting.2.1 17 = .ok (.if_icmp .ne 5, 3) := by decide +kernel
theorem d_Tr_firstWaiting_20 : decode m_Tr_firstWaiting.2.1 20 = .ok (.iload_n 1, 1) := by decide +kernel
theorem d_Tr_firstWaiting_21 : decode m_Tr_firstWaiting.2.1 21 = .ok (.ireturn, 1) := by decide +kernel
theorem d_Tr_firstWaiting_22 : decode m_Tr_firstWaiting.2.1 22 = .ok (.iinc 1 1, 3) := by decide +kernel
theorem d_Tr_firstWaiting_25 : decode m_Tr_firstWaiting.2.1 25 = .ok (.goto (-23), 3) := by decide +kernel
theorem d_Tr_firstWaiting_28 : decode m_Tr_firstWaiting.2.1 28 = .ok (.iconst (-1), 1) := by decide +kernel
theorem d_Tr_firstWaiting_29 : decode m_Tr_firstWaiting.2.1 29 = .ok (.ireturn, 1) := by decide +kernel
theorem d_Ha_letWait_0 : decode m_Ha_letWait.2.1 0 = .ok (.aload_n 1, 1) := by decide +kernel
theorem d_Ha_letWait_1 : decode m_Ha_letWait.2.1 1 = .ok (.getfield 104, 3) := by decide +kernel
theorem d_Ha_letWait_4 : decode m_Ha_letWait.2.1 4 = .ok (.astore_n 3, 1) := by decide +kernel
theorem d_Ha_letWait_5 : decode m_Ha_letWait.2.1 5 = .ok (.aload_n 3, 1) := by decide +kernel
theorem d_Ha_letWait_6 : decode m_Ha_letWait.2.1 6 = .ok (.iload_n 2, 1) := by decide +kernel
theorem d_Ha_letWait_7 : decode m_Ha_letWait.2.1 7 = .ok (.invokevirtual 157, 3) := by decide +kernel
theorem d_Ha_letWait_10 : decode m_Ha_letWait.2.1 10 = .ok (.ifCond .ne 4, 3) := by decide +kernel
theorem d_Ha_letWait_13 : decode m_Ha_letWait.2.1 13 = .ok (.return_, 1) := by decide +kernel
theorem d_Ha_letWait_14 : decode m_Ha_letWait.2.1 14 = .ok (.aload_n 3, 1) := by decide +kernel
theorem d_Ha_letWait_15 : decode m_Ha_letWait.2.1 15 = .ok (.getfield 175, 3) := by decide +kernel
theorem d_Ha_letWait_18 : decode m_Ha_letWait.2.1 18 = .ok (.iload_n 2, 1) := by decide +kernel
theorem d_Ha_letWait_19 : decode m_Ha_letWait.2.1 19 = .ok (.aload_n 3, 1) := by decide +kernel
theorem d_Ha_letWait_20 : decode m_Ha_letWait.2.1 20 = .ok (.iload_n 2, 1) := by decide +kernel
theorem d_Ha_letWait_21 : decode m_Ha_letWait.2.1 21 = .ok (.invokevirtual 172, 3) := by decide +kernel
theorem d_Ha_letWait_24 : decode m_Ha_letWait.2.1 24 = .ok (.ifCond .eq 7, 3) := by decide +kernel
theorem d_Ha_letWait_27 : decode m_Ha_letWait.2.1 27 = .ok (.iconst 1, 1) := by decide +kernel
theorem d_Ha_letWait_28 : decode m_Ha_letWait.2.1 28 = .ok (.goto 4, 3) := by decide +kernel
theorem d_Ha_letWait_31 : decode m_Ha_letWait.2.1 31 = .ok (.iconst 2, 1) := by decide +kernel
theorem d_Ha_letWait_32 : decode m_Ha_letWait.2.1 32 = .ok (.iastore, 1) := by decide +kernel
theorem d_Ha_letWait_33 : decode m_Ha_letWait.2.1 33 = .ok (.aload_n 3, 1) := by decide +kernel
theorem d_Ha_letWait_34 : decode m_Ha_letWait.2.1 34 = .ok (.getfield 290, 3) := by decide +kernel
theorem d_Ha_letWait_37 : decode m_Ha_letWait.2.1 37 = .ok (.iload_n 2, 1) := by decide +kernel
theorem d_Ha_letWait_38 : decode m_Ha_letWait.2.1 38 = .ok (.iaload, 1) := by decide +kernel
theorem d_Ha_letWait_39 : decode m_Ha_letWait.2.1 39 = .ok (.iconst 2, 1) := by decide +kernel
theorem d_Ha_letWait_40 : decode m_Ha_letWait.2.1 40 = .ok (.if_icmp .ne 33, 3) := by decide +kernel
theorem d_Ha_letWait_43 : decode m_Ha_letWait.2.1 43 = .ok (.aload_n 0, 1) := by decide +kernel
theorem d_Ha_letWait_44 : decode m_Ha_letWait.2.1 44 = .ok (.getfield 18, 3) := by decide +kernel
theorem d_Ha_letWait_47 : decode m_Ha_letWait.2.1 47 = .ok (.aload_n 3, 1) := by decide +kernel
theorem d_Ha_letWait_48 : decode m_Ha_letWait.2.1 48 = .ok (.getfield 293, 3) := by decide +kernel
theorem d_Ha_letWait_51 : decode m_Ha_letWait.2.1 51 = .ok (.iload_n 2, 1) := by decide +kernel
theorem d_Ha_letWait_52 : decode m_Ha_letWait.2.1 52 = .ok (.iaload, 1) := by decide +kernel
theorem d_Ha_letWait_53 : decode m_Ha_letWait.2.1 53 = .ok (.invokevirtual 296, 3) := by decide +kernel
theorem d_Ha_letWait_56 : decode m_Ha_letWait.2.1 56 = .ok (.aload_n 0, 1) := by decide +kernel
theorem d_Ha_letWait_57 : decode m_Ha_letWait.2.1 57 = .ok (.dup, 1) := by decide +kernel
theorem d_Ha_letWait_58 : decode m_Ha_letWait.2.1 58 = .ok (.getfield 249, 3) := by decide +kernel
theorem d_Ha_letWait_61 : decode m_Ha_letWait.2.1 61 = .ok (.aload_n 3, 1) := by decide +kernel
theorem d_Ha_letWait_62 : decode m_Ha_letWait.2.1 62 = .ok (.iload_n 2, 1) := by decide +kernel
theorem d_Ha_letWait_63 : decode m_Ha_letWait.2.1 63 = .ok (.invokevirtual 193, 3) := by decide +kernel
theorem d_Ha_letWait_66 : decode m_Ha_letWait.2.1 66 = .ok (.ladd, 1) := by decide +kernel
theorem d_Ha_letWait_67 : decode m_Ha_letWait.2.1 67 = .ok (.putfield 249, 3) := by decide +kernel
theorem d_Ha_letWait_70 : decode m_Ha_letWait.2.1 70 = .ok (.goto 19, 3) := by decide +kernel
theorem d_Ha_letWait_73 : decode m_Ha_letWait.2.1 73 = .ok (.aload_n 3, 1) := by decide +kernel
theorem d_Ha_letWait_74 : decode m_Ha_letWait.2.1 74 = .ok (.getfield 290, 3) := by decide +kernel
theorem d_Ha_letWait_77 : decode m_Ha_letWait.2.1 77 = .ok (.iload_n 2, 1) := by decide +kernel
theorem d_Ha_letWait_78 : decode m_Ha_letWait.2.1 78 = .ok (.iaload, 1) := by decide +kernel
theorem d_Ha_letWait_79 : decode m_Ha_letWait.2.1 79 = .ok (.iconst 3, 1) := by decide +kernel
theorem d_Ha_letWait_80 : decode m_Ha_letWait.2.1 80 = .ok (.if_icmp .ne 9, 3) := by decide +kernel
theorem d_Ha_letWait_83 : decode m_Ha_letWait.2.1 83 = .ok (.aload_n 0, 1) := by decide +kernel
theorem d_Ha_letWait_84 : decode m_Ha_letWait.2.1 84 = .ok (.aload_n 1, 1) := by decide +kernel
theorem d_Ha_letWait_85 : decode m_Ha_letWait.2.1 85 = .ok (.iload_n 2, 1) := by decide +kernel
theorem d_Ha_letWait_86 : decode m_Ha_letWait.2.1 86 = .ok (.invokevirtual 299, 3) := by decide +kernel
theorem d_Ha_letWait_89 : decode m_Ha_letWait.2.1 89 = .ok (.return_, 1) := by decide +kernel
theorem d_Bk_finish_0 : decode m_Bk_finish.2.1 0 = .ok (.aload_n 0, 1) := by decide +kernel
theorem d_Bk_finish_1 : decode m_Bk_finish.2.1 1 = .ok (.iload_n 1, 1) := by decide +kernel
theorem d_Bk_finish_2 : decode m_Bk_finish.2.1 2 = .ok (.invokevirtual 29, 3) := by decide +kernel
theorem d_Bk_finish_5 : decode m_Bk_finish.2.1 5 = .ok (.astore_n 2, 1) := by decide +kernel
theorem d_Bk_finish_6 : decode m_Bk_finish.2.1 6 = .ok (.aload_n 2, 1) := by decide +kernel
theorem d_Bk_finish_7 : decode m_Bk_finish.2.1 7 = .ok (.ifnull 23, 3) := by decide +kernel
theorem d_Bk_finish_10 : decode m_Bk_finish.2.1 10 = .ok (.aload_n 2, 1) := by decide +kernel
theorem d_Bk_finish_11 : decode m_Bk_finish.2.1 11 = .ok (.dup, 1) := by decide +kernel
theorem d_Bk_finish_12 : decode m_Bk_finish.2.1 12 = .ok (.getfield 36, 3) := by decide +kernel
theorem d_Bk_finish_15 : decode m_Bk_finish.2.1 15 = .ok (.iconst 1, 1) := by decide +kernel
theorem d_Bk_finish_16 : decode m_Bk_finish.2.1 16 = .ok (.isub, 1) := by decide +kernel
theorem d_Bk_finish_17 : decode m_Bk_finish.2.1 17 = .ok (.putfield 36, 3) := by decide +kernel
theorem d_Bk_finish_20 : decode m_Bk_finish.2.1 20 = .ok (.aload_n 2, 1) := by decide +kernel
theorem d_Bk_finish_21 : decode m_Bk_finish.2.1 21 = .ok (.dup, 1) := by decide +kernel
theorem d_Bk_finish_22 : decode m_Bk_finish.2.1 22 = .ok (.getfield 39, 3) := by decide +kernel
theorem d_Bk_finish_25 : decode m_Bk_finish.2.1 25 = .ok (.iconst 1, 1) := by decide +kernel
theorem d_Bk_finish_26 : decode m_Bk_finish.2.1 26 = .ok (.iadd, 1) := by decide +kernel
theorem d_Bk_finish_27 : decode m_Bk_finish.2.1 27 = .ok (.putfield 39, 3) := by decide +kernel
theorem d_Bk_finish_30 : decode m_Bk_finish.2.1 30 = .ok (.return_, 1) := by decide +kernel
theorem d_Ha_putAway_0 : decode m_Ha_putAway.2.1 0 = .ok (.aload_n 1, 1) := by decide +kernel
theorem d_Ha_putAway_1 : decode m_Ha_putAway.2.1 1 = .ok (.getfield 104, 3) := by decide +kernel
theorem d_Ha_putAway_4 : decode m_Ha_putAway.2.1 4 = .ok (.astore_n 3, 1) := by decide +kernel
theorem d_Ha_putAway_5 : decode m_Ha_putAway.2.1 5 = .ok (.aload_n 3, 1) := by decide +kernel
theorem d_Ha_putAway_6 : decode m_Ha_putAway.2.1 6 = .ok (.getfield 302, 3) := by decide +kernel
theorem d_Ha_putAway_9 : decode m_Ha_putAway.2.1 9 = .ok (.iload_n 2, 1) := by decide +kernel
theorem d_Ha_putAway_10 : decode m_Ha_putAway.2.1 10 = .ok (.iaload, 1) := by decide +kernel
theorem d_Ha_putAway_11 : decode m_Ha_putAway.2.1 11 = .ok (.sipush 300, 3) := by decide +kernel
theorem d_Ha_putAway_14 : decode m_Ha_putAway.2.1 14 = .ok (.if_icmp .lt 19, 3) := by decide +kernel
theorem d_Ha_putAway_17 : decode m_Ha_putAway.2.1 17 = .ok (.aload_n 3, 1) := by decide +kernel
theorem d_Ha_putAway_18 : decode m_Ha_putAway.2.1 18 = .ok (.getfield 304, 3) := by decide +kernel
theorem d_Ha_putAway_21 : decode m_Ha_putAway.2.1 21 = .ok (.iload_n 2, 1) := by decide +kernel
theorem d_Ha_putAway_22 : decode m_Ha_putAway.2.1 22 = .ok (.iaload, 1) := by decide +kernel
theorem d_Ha_putAway_23 : decode m_Ha_putAway.2.1 23 = .ok (.sipush 300, 3) := by decide +kernel
theorem d_Ha_putAway_26 : decode m_Ha_putAway.2.1 26 = .ok (.if_icmp .lt 7, 3) := by decide +kernel
theorem d_Ha_putAway_29 : decode m_Ha_putAway.2.1 29 = .ok (.iconst 1, 1) := by decide +kernel
theorem d_Ha_putAway_30 : decode m_Ha_putAway.2.1 30 = .ok (.goto 4, 3) := by decide +kernel
theorem d_Ha_putAway_33 : decode m_Ha_putAway.2.1 33 = .ok (.iconst 0, 1) := by decide +kernel
theorem d_Ha_putAway_34 : decode m_Ha_putAway.2.1 34 = .ok (.istore 4, 2) := by decide +kernel
theorem d_Ha_putAway_36 : decode m_Ha_putAway.2.1 36 = .ok (.iload 4, 2) := by decide +kernel
theorem d_Ha_putAway_38 : decode m_Ha_putAway.2.1 38 = .ok (.ifCond .eq 53, 3) := by decide +kernel
theorem d_Ha_putAway_41 : decode m_Ha_putAway.2.1 41 = .ok (.aload_n 0, 1) := by decide +kernel
theorem d_Ha_putAway_42 : decode m_Ha_putAway.2.1 42 = .ok (.getfield 25, 3) := by decide +kernel
theorem d_Ha_putAway_45 : decode m_Ha_putAway.2.1 45 = .ok (.getfield 263, 3) := by decide +kernel
theorem d_Ha_putAway_48 : decode m_Ha_putAway.2.1 48 = .ok (.bipush 10, 2) := by decide +kernel
theorem d_Ha_putAway_50 : decode m_Ha_putAway.2.1 50 = .ok (.if_icmp .ge 41, 3) := by decide +kernel
theorem d_Ha_putAway_53 : decode m_Ha_putAway.2.1 53 = .ok (.aload_n 0, 1) := by decide +kernel
theorem d_Ha_putAway_54 : decode m_Ha_putAway.2.1 54 = .ok (.getfield 25, 3) := by decide +kernel
theorem d_Ha_putAway_57 : decode m_Ha_putAway.2.1 57 = .ok (.aload_n 1, 1) := by decide +kernel
theorem d_Ha_putAway_58 : decode m_Ha_putAway.2.1 58 = .ok (.getfield 67, 3) := by decide +kernel
theorem d_Ha_putAway_61 : decode m_Ha_putAway.2.1 61 = .ok (.aload_n 3, 1) := by decide +kernel
theorem d_Ha_putAway_62 : decode m_Ha_putAway.2.1 62 = .ok (.getfield 306, 3) := by decide +kernel
theorem d_Ha_putAway_65 : decode m_Ha_putAway.2.1 65 = .ok (.iload_n 2, 1) := by decide +kernel
theorem d_Ha_putAway_66 : decode m_Ha_putAway.2.1 66 = .ok (.iaload, 1) := by decide +kernel
theorem d_Ha_putAway_67 : decode m_Ha_putAway.2.1 67 = .ok (.aload_n 3, 1) := by decide +kernel
theorem d_Ha_putAway_68 : decode m_Ha_putAway.2.1 68 = .ok (.getfield 309, 3) := by decide +kernel
theorem d_Ha_putAway_71 : decode m_Ha_putAway.2.1 71 = .ok (.iload_n 2, 1) := by decide +kernel
theorem d_Ha_putAway_72 : decode m_Ha_putAway.2.1 72 = .ok (.iaload, 1) := by decide +kernel
theorem d_Ha_putAway_73 : decode m_Ha_putAway.2.1 73 = .ok (.aload_n 3, 1) := by decide +kernel
theorem d_Ha_putAway_74 : decode m_Ha_putAway.2.1 74 = .ok (.getfield 302, 3) := by decide +kernel
theorem d_Ha_putAway_77 : decode m_Ha_putAway.2.1 77 = .ok (.iload_n 2, 1) := by decide +kernel
theorem d_Ha_putAway_78 : decode m_Ha_putAway.2.1 78 = .ok (.iaload, 1) := by decide +kernel
theorem d_Ha_putAway_79 : decode m_Ha_putAway.2.1 79 = .ok (.aload_n 3, 1) := by decide +kernel
theorem d_Ha_putAway_80 : decode m_Ha_putAway.2.1 80 = .ok (.getfield 304, 3) := by decide +kernel
theorem d_Ha_putAway_83 : decode m_Ha_putAway.2.1 83 = .ok (.iload_n 2, 1) := by decide +kernel
theorem d_Ha_putAway_84 : decode m_Ha_putAway.2.1 84 = .ok (.iaload, 1) := by decide +kernel
theorem d_Ha_putAway_85 : decode m_Ha_putAway.2.1 85 = .ok (.invokevirtual 312, 3) := by decide +kernel
theorem d_Ha_putAway_88 : decode m_Ha_putAway.2.1 88 = .ok (.goto 17, 3) := by decide +kernel
theorem d_Ha_putAway_91 : decode m_Ha_putAway.2.1 91 = .ok (.aload_n 0, 1) := by decide +kernel
theorem d_Ha_putAway_92 : decode m_Ha_putAway.2.1 92 = .ok (.dup, 1) := by decide +kernel
theorem d_Ha_putAway_93 : decode m_Ha_putAway.2.1 93 = .ok (.getfield 253, 3) := by decide +kernel
theorem d_Ha_putAway_96 : decode m_Ha_putAway.2.1 96 = .ok (.aload_n 3, 1) := by decide +kernel
theorem d_Ha_putAway_97 : decode m_Ha_putAway.2.1 97 = .ok (.iload_n 2, 1) := by decide +kernel
theorem d_Ha_putAway_98 : decode m_Ha_putAway.2.1 98 = .ok (.invokevirtual 193, 3) := by decide +kernel
theorem d_Ha_putAway_101 : decode m_Ha_putAway.2.1 101 = .ok (.ladd, 1) := by decide +kernel
theorem d_Ha_putAway_102 : decode m_Ha_putAway.2.1 102 = .ok (.putfield 253, 3) := by decide +kernel
theorem d_Ha_putAway_105 : decode m_Ha_putAway.2.1 105 = .ok (.return_, 1) := by decide +kernel
theorem d_Rk_addPart_0 : decode m_Rk_addPart.2.1 0 = .ok (.aload_n 0, 1) := by decide +kernel
theorem d_Rk_addPart_1 : decode m_Rk_addPart.2.1 1 = .ok (.getfield 18, 3) := by decide +kernel
theorem d_Rk_addPart_4 : decode m_Rk_addPart.2.1 4 = .ok (.bipush 10, 2) := by decide +kernel
theorem d_Rk_addPart_6 : decode m_Rk_addPart.2.1 6 = .ok (.if_icmp .ge 32, 3) := by decide +kernel
theorem d_Rk_addPart_9 : decode m_Rk_addPart.2.1 9 = .ok (.aload_n 0, 1) := by decide +kernel
theorem d_Rk_addPart_10 : decode m_Rk_addPart.2.1 10 = .ok (.getfield 11, 3) := by decide +kernel
theorem d_Rk_addPart_13 : decode m_Rk_addPart.2.1 13 = .ok (.aload_n 0, 1) := by decide +kernel
theorem d_Rk_addPart_14 : decode m_Rk_addPart.2.1 14 = .ok (.getfield 18, 3) := by decide +kernel
theorem d_Rk_addPart_17 : decode m_Rk_addPart.2.1 17 = .ok (.aaload, 1) := by decide +kernel
theorem d_Rk_addPart_18 : decode m_Rk_addPart.2.1 18 = .ok (.aload_n 1, 1) := by decide +kernel
theorem d_Rk_addPart_19 : decode m_Rk_addPart.2.1 19 = .ok (.iload_n 2, 1) := by decide +kernel
theorem d_Rk_addPart_20 : decode m_Rk_addPart.2.1 20 = .ok (.iload_n 3, 1) := by decide +kernel
theorem d_Rk_addPart_21 : decode m_Rk_addPart.2.1 21 = .ok (.iload 4, 2) := by decide +kernel
theorem d_Rk_addPart_23 : decode m_Rk_addPart.2.1 23 = .ok (.iload 5, 2) := by decide +kernel
theorem d_Rk_addPart_25 : decode m_Rk_addPart.2.1 25 = .ok (.invokevirtual 22, 3) := by decide +kernel
theorem d_Rk_addPart_28 : decode m_Rk_addPart.2.1 28 = .ok (.aload_n 0, 1) := by decide +kernel
theorem d_Rk_addPart_29 : decode m_Rk_addPart.2.1 29 = .ok (.dup, 1) := by decide +kernel
theorem d_Rk_addPart_30 : decode m_Rk_addPart.2.1 30 = .ok (.getfield 18, 3) := by decide +kernel
theorem d_Rk_addPart_33 : decode m_Rk_addPart.2.1 33 = .ok (.iconst 1, 1) := by decide +kernel
theorem d_Rk_addPart_34 : decode m_Rk_addPart.2.1 34 = .ok (.iadd, 1) := by decide +kernel
theorem d_Rk_addPart_35 : decode m_Rk_addPart.2.1 35 = .ok (.putfield 18, 3) := by decide +kernel
theorem d_Rk_addPart_38 : decode m_Rk_addPart.2.1 38 = .ok (.return_, 1) := by decide +kernel
theorem d_Gl_becomePart_0 : decode m_Gl_becomePart.2.1 0 = .ok (.aload_n 0, 1) := by decide +kernel
theorem d_Gl_becomePart_1 : decode m_Gl_becomePart.2.1 1 = .ok (.iload 4, 2) := by decide +kernel
theorem d_Gl_becomePart_3 : decode m_Gl_becomePart.2.1 3 = .ok (.iload 5, 2) := by decide +kernel
theorem d_Gl_becomePart_5 : decode m_Gl_becomePart.2.1 5 = .ok (.invokevirtual 34, 3) := by decide +kernel
theorem d_Gl_becomePart_8 : decode m_Gl_becomePart.2.1 8 = .ok (.iconst 0, 1) := by decide +kernel
theorem d_Gl_becomePart_9 : decode m_Gl_becomePart.2.1 9 = .ok (.istore 6, 2) := by decide +kernel
theorem d_Gl_becomePart_11 : decode m_Gl_becomePart.2.1 11 = .ok (.iload 6, 2) := by decide +kernel
theorem d_Gl_becomePart_13 : decode m_Gl_becomePart.2.1 13 = .ok (.aload_n 1, 1) := by decide +kernel
theorem d_Gl_becomePart_14 : decode m_Gl_becomePart.2.1 14 = .ok (.getfield 31, 3) := by decide +kernel
theorem d_Gl_becomePart_17 : decode m_Gl_becomePart.2.1 17 = .ok (.if_icmp .ge 119, 3) := by decide +kernel
theorem d_Gl_becomePart_20 : decode m_Gl_becomePart.2.1 20 = .ok (.iload_n 2, 1) := by decide +kernel
theorem d_Gl_becomePart_21 : decode m_Gl_becomePart.2.1 21 = .ok (.aload_n 1, 1) := by decide +kernel
theorem d_Gl_becomePart_22 : decode m_Gl_becomePart.2.1 22 = .ok (.getfield 9, 3) := by decide +kernel
theorem d_Gl_becomePart_25 : decode m_Gl_becomePart.2.1 25 = .ok (.iload 6, 2) := by decide +kernel
theorem d_Gl_becomePart_27 : decode m_Gl_becomePart.2.1 27 = .ok (.iaload, 1) := by decide +kernel
theorem d_Gl_becomePart_28 : decode m_Gl_becomePart.2.1 28 = .ok (.invokestatic 38, 3) := by decide +kernel
theorem d_Gl_becomePart_31 : decode m_Gl_becomePart.2.1 31 = .ok (.istore 7, 2) := by decide +kernel
theorem d_Gl_becomePart_33 : decode m_Gl_becomePart.2.1 33 = .ok (.iload_n 2, 1) := by decide +kernel
theorem d_Gl_becomePart_34 : decode m_Gl_becomePart.2.1 34 = .ok (.iload 4, 2) := by decide +kernel
theorem d_Gl_becomePart_36 : decode m_Gl_becomePart.2.1 36 = .ok (.iadd, 1) := by decide +kernel
theorem d_Gl_becomePart_37 : decode m_Gl_becomePart.2.1 37 = .ok (.aload_n 1, 1) := by decide +kernel
theorem d_Gl_becomePart_38 : decode m_Gl_becomePart.2.1 38 = .ok (.getfield 9, 3) := by decide +kernel
theorem d_Gl_becomePart_41 : decode m_Gl_becomePart.2.1 41 = .ok (.iload 6, 2) := by decide +kernel
theorem d_Gl_becomePart_43 : decode m_Gl_becomePart.2.1 43 = .ok (.iaload, 1) := by decide +kernel
theorem d_Gl_becomePart_44 : decode m_Gl_becomePart.2.1 44 = .ok (.aload_n 1, 1) := by decide +kernel
theorem d_Gl_becomePart_45 : decode m_Gl_becomePart.2.1 45 = .ok (.getfield 18, 3) := by decide +kernel
theorem d_Gl_becomePart_48 : decode m_Gl_becomePart.2.1 48 = .ok (.iload 6, 2) := by decide +kernel
theorem d_Gl_becomePart_50 : decode m_Gl_becomePart.2.1 50 = .ok (.iaload, 1) := by decide +kernel
theorem d_Gl_becomePart_51 : decode m_Gl_becomePart.2.1 51 = .ok (.iadd, 1) := by decide +kernel
theorem d_Gl_becomePart_52 : decode m_Gl_becomePart.2.1 52 = .ok (.invokestatic 44, 3) := by decide +kernel
theorem d_Gl_becomePart_55 : decode m_Gl_becomePart.2.1 55 = .ok (.istore 8, 2) := by decide +kernel
theorem d_Gl_becomePart_57 : decode m_Gl_becomePart.2.1 57 = .ok (.iload_n 3, 1) := by decide +kernel
theorem d_Gl_becomePart_58 : decode m_Gl_becomePart.2.1 58 = .ok (.aload_n 1, 1) := by decide +kernel
theorem d_Gl_becomePart_59 : decode m_Gl_becomePart.2.1 59 = .ok (.getfield 15, 3) := by decide +kernel
theorem d_Gl_becomePart_62 : decode m_Gl_becomePart.2.1 62 = .ok (.iload 6, 2) := by decide +kernel
theorem d_Gl_becomePart_64 : decode m_Gl_becomePart.2.1 64 = .ok (.iaload, 1) := by decide +kernel
theorem d_Gl_becomePart_65 : decode m_Gl_becomePart.2.1 65 = .ok (.invokestatic 38, 3) := by decide +kernel
theorem d_Gl_becomePart_68 : decode m_Gl_becomePart.2.1 68 = .ok (.istore 9, 2) := by decide +kernel
theorem d_Gl_becomePart_70 : decode m_Gl_becomePart.2.1 70 = .ok (.iload_n 3, 1) := by decide +kernel
theorem d_Gl_becomePart_71 : decode m_Gl_becomePart.2.1 71 = .ok (.iload 5, 2) := by decide +kernel
theorem d_Gl_becomePart_73 : decode m_Gl_becomePart.2.1 73 = .ok (.iadd, 1) := by decide +kernel
theorem d_Gl_becomePart_74 : decode m_Gl_becomePart.2.1 74 = .ok (.aload_n 1, 1) := by decide +kernel
theorem d_Gl_becomePart_75 : decode m_Gl_becomePart.2.1 75 = .ok (.getfield 15, 3) := by decide +kernel
theorem d_Gl_becomePart_78 : decode m_Gl_becomePart.2.1 78 = .ok (.iload 6, 2) := by decide +kernel
theorem d_Gl_becomePart_80 : decode m_Gl_becomePart.2.1 80 = .ok (.iaload, 1) := by decide +kernel
theorem d_Gl_becomePart_81 : decode m_Gl_becomePart.2.1 81 = .ok (.aload_n 1, 1) := by decide +kernel
theorem d_Gl_becomePart_82 : decode m_Gl_becomePart.2.1 82 = .ok (.getfield 21, 3) := by decide +kernel
theorem d_Gl_becomePart_85 : decode m_Gl_becomePart.2.1 85 = .ok (.iload 6, 2) := by decide +kernel
theorem d_Gl_becomePart_87 : decode m_Gl_becomePart.2.1 87 = .ok (.iaload, 1) := by decide +kernel
theorem d_Gl_becomePart_88 : decode m_Gl_becomePart.2.1 88 = .ok (.iadd, 1) := by decide +kernel
theorem d_Gl_becomePart_89 : decode m_Gl_becomePart.2.1 89 = .ok (.invokestatic 44, 3) := by decide +kernel
theorem d_Gl_becomePart_92 : decode m_Gl_becomePart.2.1 92 = .ok (.istore 10, 2) := by decide +kernel
theorem d_Gl_becomePart_94 : decode m_Gl_becomePart.2.1 94 = .ok (.iload 7, 2) := by decide +kernel
theorem d_Gl_becomePart_96 : decode m_Gl_becomePart.2.1 96 = .ok (.iload 8, 2) := by decide +kernel
theorem d_Gl_becomePart_98 : decode m_Gl_becomePart.2.1 98 = .ok (.if_icmp .ge 32, 3) := by decide +kernel
theorem d_Gl_becomePart_101 : decode m_Gl_becomePart.2.1 101 = .ok (.iload 9, 2) := by decide +kernel
theorem d_Gl_becomePart_103 : decode m_Gl_becomePart.2.1 103 = .ok (.iload 10, 2) := by decide +kernel
theorem d_Gl_becomePart_105 : decode m_Gl_becomePart.2.1 105 = .ok (.if_icmp .ge 25, 3) := by decide +kernel
theorem d_Gl_becomePart_108 : decode m_Gl_becomePart.2.1 108 = .ok (.aload_n 0, 1) := by decide +kernel
theorem d_Gl_becomePart_109 : decode m_Gl_becomePart.2.1 109 = .ok (.iload 7, 2) := by decide +kernel
theorem d_Gl_becomePart_111 : decode m_Gl_becomePart.2.1 111 = .ok (.iload_n 2, 1) := by decide +kernel
theorem d_Gl_becomePart_112 : decode m_Gl_becomePart.2.1 112 = .ok (.isub, 1) := by decide +kernel
theorem d_Gl_becomePart_113 : decode m_Gl_becomePart.2.1 113 = .ok (.iload 9, 2) := by decide +kernel
theorem d_Gl_becomePart_115 : decode m_Gl_becomePart.2.1 115 = .ok (.iload_n 3, 1) := by decide +kernel
theorem d_Gl_becomePart_116 : decode m_Gl_becomePart.2.1 116 = .ok (.isub, 1) := by decide +kernel
theorem d_Gl_becomePart_117 : decode m_Gl_becomePart.2.1 117 = .ok (.iload 8, 2) := by decide +kernel
theorem d_Gl_becomePart_119 : decode m_Gl_becomePart.2.1 119 = .ok (.iload 7, 2) := by decide +kernel
theorem d_Gl_becomePart_121 : decode m_Gl_becomePart.2.1 121 = .ok (.isub, 1) := by decide +kernel
theorem d_Gl_becomePart_122 : decode m_Gl_becomePart.2.1 122 = .ok (.iload 10, 2) := by decide +kernel
theorem d_Gl_becomePart_124 : decode m_Gl_becomePart.2.1 124 = .ok (.iload 9, 2) := by decide +kernel
theorem d_Gl_becomePart_126 : decode m_Gl_becomePart.2.1 126 = .ok (.isub, 1) := by decide +kernel
theorem d_Gl_becomePart_127 : decode m_Gl_becomePart.2.1 127 = .ok (.invokevirtual 47, 3) := by decide +kernel
theorem d_Gl_becomePart_130 : decode m_Gl_becomePart.2.1 130 = .ok (.iinc 6 1, 3) := by decide +kernel
theorem d_Gl_becomePart_133 : decode m_Gl_becomePart.2.1 133 = .ok (.goto (-122), 3) := by decide +kernel
theorem d_Gl_becomePart_136 : decode m_Gl_becomePart.2.1 136 = .ok (.return_, 1) := by decide +kernel
theorem d_Ha_clearAwayIfEmpty_0 : decode m_Ha_clearAwayIfEmpty.2.1 0 = .ok (.aload_n 1, 1) := by decide +kernel
theorem d_Ha_clearAwayIfEmpty_1 : decode m_Ha_clearAwayIfEmpty.2.1 1 = .ok (.getfield 104, 3) := by decide +kernel
theorem d_Ha_clearAwayIfEmpty_4 : decode m_Ha_clearAwayIfEmpty.2.1 4 = .ok (.invokevirtual 168, 3) := by decide +kernel
theorem d_Ha_clearAwayIfEmpty_7 : decode m_Ha_clearAwayIfEmpty.2.1 7 = .ok (.iconst (-1), 1) := by decide +kernel
theorem d_Ha_clearAwayIfEmpty_8 : decode m_Ha_clearAwayIfEmpty.2.1 8 = .ok (.if_icmp .ne 15, 3) := by decide +kernel
theorem d_Ha_clearAwayIfEmpty_11 : decode m_Ha_clearAwayIfEmpty.2.1 11 = .ok (.aload_n 1, 1) := by decide +kernel
theorem d_Ha_clearAwayIfEmpty_12 : decode m_Ha_clearAwayIfEmpty.2.1 12 = .ok (.getfield 104, 3) := by decide +kernel
theorem d_Ha_clearAwayIfEmpty_15 : decode m_Ha_clearAwayIfEmpty.2.1 15 = .ok (.invokevirtual 204, 3) := by decide +kernel
theorem d_Ha_clearAwayIfEmpty_18 : decode m_Ha_clearAwayIfEmpty.2.1 18 = .ok (.aload_n 1, 1) := by decide +kernel
theorem d_Ha_clearAwayIfEmpty_19 : decode m_Ha_clearAwayIfEmpty.2.1 19 = .ok (.iconst 0, 1) := by decide +kernel
theorem d_Ha_clearAwayIfEmpty_20 : decode m_Ha_clearAwayIfEmpty.2.1 20 = .ok (.putfield 267, 3) := by decide +kernel
theorem d_Ha_clearAwayIfEmpty_23 : decode m_Ha_clearAwayIfEmpty.2.1 23 = .ok (.return_, 1) := by decide +kernel
theorem d_Lw_broke_0 : decode m_Lw_broke.2.1 0 = .ok (.aload_n 3, 1) := by decide +kernel
theorem d_Lw_broke_1 : decode m_Lw_broke.2.1 1 = .ok (.iconst 0, 1) := by decide +kernel
theorem d_Lw_broke_2 : decode m_Lw_broke.2.1 2 = .ok (.aload_n 0, 1) := by decide +kernel
theorem d_Lw_broke_3 : decode m_Lw_broke.2.1 3 = .ok (.iload_n 1, 1) := by decide +kernel
theorem d_Lw_broke_4 : decode m_Lw_broke.2.1 4 = .ok (.iload_n 2, 1) := by decide +kernel
theorem d_Lw_broke_5 : decode m_Lw_broke.2.1 5 = .ok (.invokevirtual 47, 3) := by decide +kernel
theorem d_Lw_broke_8 : decode m_Lw_broke.2.1 8 = .ok (.i2l, 1) := by decide +kernel
theorem d_Lw_broke_9 : decode m_Lw_broke.2.1 9 = .ok (.lastore, 1) := by decide +kernel
theorem d_Lw_broke_10 : decode m_Lw_broke.2.1 10 = .ok (.goto 15, 3) := by decide +kernel
theorem d_Lw_broke_13 : decode m_Lw_broke.2.1 13 = .ok (.astore 4, 2) := by decide +kernel
theorem d_Lw_broke_15 : decode m_Lw_broke.2.1 15 = .ok (.iconst 1, 1) := by decide +kernel
theorem d_Lw_broke_16 : decode m_Lw_broke.2.1 16 = .ok (.ireturn, 1) := by decide +kernel
theorem d_Lw_broke_17 : decode m_Lw_broke.2.1 17 = .ok (.astore 4, 2) := by decide +kernel
theorem d_Lw_broke_19 : decode m_Lw_broke.2.1 19 = .ok (.iconst 2, 1) := by decide +kernel
theorem d_Lw_broke_20 : decode m_Lw_broke.2.1 20 = .ok (.ireturn, 1) := by decide +kernel
theorem d_Lw_broke_21 : decode m_Lw_broke.2.1 21 = .ok (.astore 4, 2) := by decide +kernel
theorem d_Lw_broke_23 : decode m_Lw_broke.2.1 23 = .ok (.iconst 3, 1) := by decide +kernel
theorem d_Lw_broke_24 : decode m_Lw_broke.2.1 24 = .ok (.ireturn, 1) := by decide +kernel
theorem d_Lw_broke_25 : decode m_Lw_broke.2.1 25 = .ok (.iconst 0, 1) := by decide +kernel
theorem d_Lw_broke_26 : decode m_Lw_broke.2.1 26 = .ok (.ireturn, 1) := by decide +kernel
theorem d_Ha_broke_0 : decode m_Ha_broke.2.1 0 = .ok (.aload_n 0, 1) := by decide +kernel
theorem d_Ha_broke_1 : decode m_Ha_broke.2.1 1 = .ok (.iload_n 1, 1) := by decide +kernel
theorem d_Ha_broke_2 : decode m_Ha_broke.2.1 2 = .ok (.invokevirtual 154, 3) := by decide +kernel
theorem d_Ha_broke_5 : decode m_Ha_broke.2.1 5 = .ok (.astore_n 3, 1) := by decide +kernel
theorem d_Ha_broke_6 : decode m_Ha_broke.2.1 6 = .ok (.aload_n 3, 1) := by decide +kernel
theorem d_Ha_broke_7 : decode m_Ha_broke.2.1 7 = .ok (.getfield 104, 3) := by decide +kernel
theorem d_Ha_broke_10 : decode m_Ha_broke.2.1 10 = .ok (.astore 4, 2) := by decide +kernel
theorem d_Ha_broke_12 : decode m_Ha_broke.2.1 12 = .ok (.aload 4, 2) := by decide +kernel
theorem d_Ha_broke_14 : decode m_Ha_broke.2.1 14 = .ok (.iload_n 2, 1) := by decide +kernel
theorem d_Ha_broke_15 : decode m_Ha_broke.2.1 15 = .ok (.invokevirtual 157, 3) := by decide +kernel
theorem d_Ha_broke_18 : decode m_Ha_broke.2.1 18 = .ok (.ifCond .ne 11, 3) := by decide +kernel
theorem d_Ha_broke_21 : decode m_Ha_broke.2.1 21 = .ok (.new 160, 3) := by decide +kernel
theorem d_Ha_broke_24 : decode m_Ha_broke.2.1 24 = .ok (.dup, 1) := by decide +kernel
theorem d_Ha_broke_25 : decode m_Ha_broke.2.1 25 = .ok (.invokespecial 162, 3) := by decide +kernel
theorem d_Ha_broke_28 : decode m_Ha_broke.2.1 28 = .ok (.athrow, 1) := by decide +kernel
theorem d_Ha_broke_29 : decode m_Ha_broke.2.1 29 = .ok (.aload 4, 2) := by decide +kernel
theorem d_Ha_broke_31 : decode m_Ha_broke.2.1 31 = .ok (.getfield 175, 3) := by decide +kernel
theorem d_Ha_broke_34 : decode m_Ha_broke.2.1 34 = .ok (.iload_n 2, 1) := by decide +kernel
theorem d_Ha_broke_35 : decode m_Ha_broke.2.1 35 = .ok (.iaload, 1) := by decide +kernel
theorem d_Ha_broke_36 : decode m_Ha_broke.2.1 36 = .ok (.iconst 1, 1) := by decide +kernel
theorem d_Ha_broke_37 : decode m_Ha_broke.2.1 37 = .ok (.if_icmp .eq 11, 3) := by decide +kernel
theorem d_Ha_broke_40 : decode m_Ha_broke.2.1 40 = .ok (.new 64, 3) := by decide +kernel
theorem d_Ha_broke_43 : decode m_Ha_broke.2.1 43 = .ok (.dup, 1) := by decide +kernel
theorem d_Ha_broke_44 : decode m_Ha_broke.2.1 44 = .ok (.invokespecial 66, 3) := by decide +kernel
theorem d_Ha_broke_47 : decode m_Ha_broke.2.1 47 = .ok (.athrow, 1) := by decide +kernel
theorem d_Ha_broke_48 : decode m_Ha_broke.2.1 48 = .ok (.aload_n 0, 1) := by decide +kernel
theorem d_Ha_broke_49 : decode m_Ha_broke.2.1 49 = .ok (.dup, 1) := by decide +kernel
theorem d_Ha_broke_50 : decode m_Ha_broke.2.1 50 = .ok (.getfield 190, 3) := by decide +kernel
theorem d_Ha_broke_53 : decode m_Ha_broke.2.1 53 = .ok (.aload 4, 2) := by decide +kernel
theorem d_Ha_broke_55 : decode m_Ha_broke.2.1 55 = .ok (.iload_n 2, 1) := by decide +kernel
theorem d_Ha_broke_56 : decode m_Ha_broke.2.1 56 = .ok (.invokevirtual 193, 3) := by decide +kernel
theorem d_Ha_broke_59 : decode m_Ha_broke.2.1 59 = .ok (.ladd, 1) := by decide +kernel
theorem d_Ha_broke_60 : decode m_Ha_broke.2.1 60 = .ok (.putfield 190, 3) := by decide +kernel
theorem d_Ha_broke_63 : decode m_Ha_broke.2.1 63 = .ok (.aload_n 0, 1) := by decide +kernel
theorem d_Ha_broke_64 : decode m_Ha_broke.2.1 64 = .ok (.aload 4, 2) := by decide +kernel
theorem d_Ha_broke_66 : decode m_Ha_broke.2.1 66 = .ok (.iload_n 2, 1) := by decide +kernel
theorem d_Ha_broke_67 : decode m_Ha_broke.2.1 67 = .ok (.invokevirtual 196, 3) := by decide +kernel
theorem d_Ha_broke_70 : decode m_Ha_broke.2.1 70 = .ok (.istore 5, 2) := by decide +kernel
theorem d_Ha_broke_72 : decode m_Ha_broke.2.1 72 = .ok (.aload 4, 2) := by decide +kernel
theorem d_Ha_broke_74 : decode m_Ha_broke.2.1 74 = .ok (.iload_n 2, 1) := by decide +kernel
theorem d_Ha_broke_75 : decode m_Ha_broke.2.1 75 = .ok (.invokevirtual 200, 3) := by decide +kernel
theorem d_Ha_broke_78 : decode m_Ha_broke.2.1 78 = .ok (.aload_n 0, 1) := by decide +kernel
theorem d_Ha_broke_79 : decode m_Ha_broke.2.1 79 = .ok (.aload_n 3, 1) := by decide +kernel
theorem d_Ha_broke_80 : decode m_Ha_broke.2.1 80 = .ok (.invokevirtual 186, 3) := by decide +kernel
theorem d_Ha_broke_83 : decode m_Ha_broke.2.1 83 = .ok (.iload 5, 2) := by decide +kernel
theorem d_Ha_broke_85 : decode m_Ha_broke.2.1 85 = .ok (.ireturn, 1) := by decide +kernel
theorem d_Ha_reopenPanes_0 : decode m_Ha_reopenPanes.2.1 0 = .ok (.aload_n 1, 1) := by decide +kernel
theorem d_Ha_reopenPanes_1 : decode m_Ha_reopenPanes.2.1 1 = .ok (.iload_n 2, 1) := by decide +kernel
theorem d_Ha_reopenPanes_2 : decode m_Ha_reopenPanes.2.1 2 = .ok (.invokevirtual 315, 3) := by decide +kernel
theorem d_Ha_reopenPanes_5 : decode m_Ha_reopenPanes.2.1 5 = .ok (.istore_n 3, 1) := by decide +kernel
theorem d_Ha_reopenPanes_6 : decode m_Ha_reopenPanes.2.1 6 = .ok (.iconst 0, 1) := by decide +kernel
theorem d_Ha_reopenPanes_7 : decode m_Ha_reopenPanes.2.1 7 = .ok (.istore 4, 2) := by decide +kernel
theorem d_Ha_reopenPanes_9 : decode m_Ha_reopenPanes.2.1 9 = .ok (.iload_n 2, 1) := by decide +kernel
theorem d_Ha_reopenPanes_10 : decode m_Ha_reopenPanes.2.1 10 = .ok (.istore 5, 2) := by decide +kernel
theorem d_Ha_reopenPanes_12 : decode m_Ha_reopenPanes.2.1 12 = .ok (.iload 5, 2) := by decide +kernel
theorem d_Ha_reopenPanes_14 : decode m_Ha_reopenPanes.2.1 14 = .ok (.iload_n 3, 1) := by decide +kernel
theorem d_Ha_reopenPanes_15 : decode m_Ha_reopenPanes.2.1 15 = .ok (.if_icmp .ge 37, 3) := by decide +kernel
theorem d_Ha_reopenPanes_18 : decode m_Ha_reopenPanes.2.1 18 = .ok (.aload_n 1, 1) := by decide +kernel
theorem d_Ha_reopenPanes_19 : decode m_Ha_reopenPanes.2.1 19 = .ok (.getfield 290, 3) := by decide +kernel
theorem d_Ha_reopenPanes_22 : decode m_Ha_reopenPanes.2.1 22 = .ok (.iload 5, 2) := by decide +kernel
theorem d_Ha_reopenPanes_24 : decode m_Ha_reopenPanes.2.1 24 = .ok (.iaload, 1) := by decide +kernel
theorem d_Ha_reopenPanes_25 : decode m_Ha_reopenPanes.2.1 25 = .ok (.iconst 2, 1) := by decide +kernel
theorem d_Ha_reopenPanes_26 : decode m_Ha_reopenPanes.2.1 26 = .ok (.if_icmp .ne 20, 3) := by decide +kernel
theorem d_Ha_reopenPanes_29 : decode m_Ha_reopenPanes.2.1 29 = .ok (.aload_n 0, 1) := by decide +kernel
theorem d_Ha_reopenPanes_30 : decode m_Ha_reopenPanes.2.1 30 = .ok (.getfield 18, 3) := by decide +kernel
