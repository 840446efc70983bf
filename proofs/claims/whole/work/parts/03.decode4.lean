theorem d_Ha_reopenPanes_33 : decode m_Ha_reopenPanes.2.1 33 = .ok (.aload_n 1, 1) := by decide +kernel
theorem d_Ha_reopenPanes_34 : decode m_Ha_reopenPanes.2.1 34 = .ok (.getfield 293, 3) := by decide +kernel
theorem d_Ha_reopenPanes_37 : decode m_Ha_reopenPanes.2.1 37 = .ok (.iload 5, 2) := by decide +kernel
theorem d_Ha_reopenPanes_39 : decode m_Ha_reopenPanes.2.1 39 = .ok (.iaload, 1) := by decide +kernel
theorem d_Ha_reopenPanes_40 : decode m_Ha_reopenPanes.2.1 40 = .ok (.invokevirtual 319, 3) := by decide +kernel
theorem d_Ha_reopenPanes_43 : decode m_Ha_reopenPanes.2.1 43 = .ok (.iinc 4 1, 3) := by decide +kernel
theorem d_Ha_reopenPanes_46 : decode m_Ha_reopenPanes.2.1 46 = .ok (.iinc 5 1, 3) := by decide +kernel
theorem d_Ha_reopenPanes_49 : decode m_Ha_reopenPanes.2.1 49 = .ok (.goto (-37), 3) := by decide +kernel
theorem d_Ha_reopenPanes_52 : decode m_Ha_reopenPanes.2.1 52 = .ok (.iload 4, 2) := by decide +kernel
theorem d_Ha_reopenPanes_54 : decode m_Ha_reopenPanes.2.1 54 = .ok (.ireturn, 1) := by decide +kernel
theorem d_Tr_endOf_0 : decode m_Tr_endOf.2.1 0 = .ok (.iconst 1, 1) := by decide +kernel
theorem d_Tr_endOf_1 : decode m_Tr_endOf.2.1 1 = .ok (.istore_n 2, 1) := by decide +kernel
theorem d_Tr_endOf_2 : decode m_Tr_endOf.2.1 2 = .ok (.iload_n 1, 1) := by decide +kernel
theorem d_Tr_endOf_3 : decode m_Tr_endOf.2.1 3 = .ok (.istore_n 3, 1) := by decide +kernel
theorem d_Tr_endOf_4 : decode m_Tr_endOf.2.1 4 = .ok (.iload_n 3, 1) := by decide +kernel
theorem d_Tr_endOf_5 : decode m_Tr_endOf.2.1 5 = .ok (.aload_n 0, 1) := by decide +kernel
theorem d_Tr_endOf_6 : decode m_Tr_endOf.2.1 6 = .ok (.getfield 36, 3) := by decide +kernel
theorem d_Tr_endOf_9 : decode m_Tr_endOf.2.1 9 = .ok (.if_icmp .ge 29, 3) := by decide +kernel
theorem d_Tr_endOf_12 : decode m_Tr_endOf.2.1 12 = .ok (.iload_n 2, 1) := by decide +kernel
theorem d_Tr_endOf_13 : decode m_Tr_endOf.2.1 13 = .ok (.ifCond .le 25, 3) := by decide +kernel
theorem d_Tr_endOf_16 : decode m_Tr_endOf.2.1 16 = .ok (.iload_n 2, 1) := by decide +kernel
theorem d_Tr_endOf_17 : decode m_Tr_endOf.2.1 17 = .ok (.aload_n 0, 1) := by decide +kernel
theorem d_Tr_endOf_18 : decode m_Tr_endOf.2.1 18 = .ok (.iload_n 3, 1) := by decide +kernel
theorem d_Tr_endOf_19 : decode m_Tr_endOf.2.1 19 = .ok (.invokevirtual 97, 3) := by decide +kernel
theorem d_Tr_endOf_22 : decode m_Tr_endOf.2.1 22 = .ok (.ifCond .eq 7, 3) := by decide +kernel
theorem d_Tr_endOf_25 : decode m_Tr_endOf.2.1 25 = .ok (.iconst 1, 1) := by decide +kernel
theorem d_Tr_endOf_26 : decode m_Tr_endOf.2.1 26 = .ok (.goto 4, 3) := by decide +kernel
theorem d_Tr_endOf_29 : decode m_Tr_endOf.2.1 29 = .ok (.iconst (-1), 1) := by decide +kernel
theorem d_Tr_endOf_30 : decode m_Tr_endOf.2.1 30 = .ok (.iadd, 1) := by decide +kernel
theorem d_Tr_endOf_31 : decode m_Tr_endOf.2.1 31 = .ok (.istore_n 2, 1) := by decide +kernel
theorem d_Tr_endOf_32 : decode m_Tr_endOf.2.1 32 = .ok (.iinc 3 1, 3) := by decide +kernel
theorem d_Tr_endOf_35 : decode m_Tr_endOf.2.1 35 = .ok (.goto (-31), 3) := by decide +kernel
theorem d_Tr_endOf_38 : decode m_Tr_endOf.2.1 38 = .ok (.iload_n 3, 1) := by decide +kernel
theorem d_Tr_endOf_39 : decode m_Tr_endOf.2.1 39 = .ok (.ireturn, 1) := by decide +kernel
theorem d_Bk_reopen_0 : decode m_Bk_reopen.2.1 0 = .ok (.aload_n 0, 1) := by decide +kernel
theorem d_Bk_reopen_1 : decode m_Bk_reopen.2.1 1 = .ok (.iload_n 1, 1) := by decide +kernel
theorem d_Bk_reopen_2 : decode m_Bk_reopen.2.1 2 = .ok (.invokevirtual 29, 3) := by decide +kernel
theorem d_Bk_reopen_5 : decode m_Bk_reopen.2.1 5 = .ok (.astore_n 2, 1) := by decide +kernel
theorem d_Bk_reopen_6 : decode m_Bk_reopen.2.1 6 = .ok (.aload_n 2, 1) := by decide +kernel
theorem d_Bk_reopen_7 : decode m_Bk_reopen.2.1 7 = .ok (.ifnull 23, 3) := by decide +kernel
theorem d_Bk_reopen_10 : decode m_Bk_reopen.2.1 10 = .ok (.aload_n 2, 1) := by decide +kernel
theorem d_Bk_reopen_11 : decode m_Bk_reopen.2.1 11 = .ok (.dup, 1) := by decide +kernel
theorem d_Bk_reopen_12 : decode m_Bk_reopen.2.1 12 = .ok (.getfield 36, 3) := by decide +kernel
theorem d_Bk_reopen_15 : decode m_Bk_reopen.2.1 15 = .ok (.iconst 1, 1) := by decide +kernel
theorem d_Bk_reopen_16 : decode m_Bk_reopen.2.1 16 = .ok (.isub, 1) := by decide +kernel
theorem d_Bk_reopen_17 : decode m_Bk_reopen.2.1 17 = .ok (.putfield 36, 3) := by decide +kernel
theorem d_Bk_reopen_20 : decode m_Bk_reopen.2.1 20 = .ok (.aload_n 2, 1) := by decide +kernel
theorem d_Bk_reopen_21 : decode m_Bk_reopen.2.1 21 = .ok (.dup, 1) := by decide +kernel
theorem d_Bk_reopen_22 : decode m_Bk_reopen.2.1 22 = .ok (.getfield 33, 3) := by decide +kernel
theorem d_Bk_reopen_25 : decode m_Bk_reopen.2.1 25 = .ok (.iconst 1, 1) := by decide +kernel
theorem d_Bk_reopen_26 : decode m_Bk_reopen.2.1 26 = .ok (.iadd, 1) := by decide +kernel
theorem d_Bk_reopen_27 : decode m_Bk_reopen.2.1 27 = .ok (.putfield 33, 3) := by decide +kernel
theorem d_Bk_reopen_30 : decode m_Bk_reopen.2.1 30 = .ok (.return_, 1) := by decide +kernel
theorem d_Tr_breakFrom_0 : decode m_Tr_breakFrom.2.1 0 = .ok (.aload_n 0, 1) := by decide +kernel
theorem d_Tr_breakFrom_1 : decode m_Tr_breakFrom.2.1 1 = .ok (.iload_n 1, 1) := by decide +kernel
theorem d_Tr_breakFrom_2 : decode m_Tr_breakFrom.2.1 2 = .ok (.invokevirtual 101, 3) := by decide +kernel
theorem d_Tr_breakFrom_5 : decode m_Tr_breakFrom.2.1 5 = .ok (.istore_n 2, 1) := by decide +kernel
theorem d_Tr_breakFrom_6 : decode m_Tr_breakFrom.2.1 6 = .ok (.iload_n 1, 1) := by decide +kernel
theorem d_Tr_breakFrom_7 : decode m_Tr_breakFrom.2.1 7 = .ok (.istore_n 3, 1) := by decide +kernel
theorem d_Tr_breakFrom_8 : decode m_Tr_breakFrom.2.1 8 = .ok (.iload_n 3, 1) := by decide +kernel
theorem d_Tr_breakFrom_9 : decode m_Tr_breakFrom.2.1 9 = .ok (.iload_n 2, 1) := by decide +kernel
theorem d_Tr_breakFrom_10 : decode m_Tr_breakFrom.2.1 10 = .ok (.if_icmp .ge 16, 3) := by decide +kernel
theorem d_Tr_breakFrom_13 : decode m_Tr_breakFrom.2.1 13 = .ok (.aload_n 0, 1) := by decide +kernel
theorem d_Tr_breakFrom_14 : decode m_Tr_breakFrom.2.1 14 = .ok (.getfield 33, 3) := by decide +kernel
theorem d_Tr_breakFrom_17 : decode m_Tr_breakFrom.2.1 17 = .ok (.iload_n 3, 1) := by decide +kernel
theorem d_Tr_breakFrom_18 : decode m_Tr_breakFrom.2.1 18 = .ok (.iconst 3, 1) := by decide +kernel
theorem d_Tr_breakFrom_19 : decode m_Tr_breakFrom.2.1 19 = .ok (.iastore, 1) := by decide +kernel
theorem d_Tr_breakFrom_20 : decode m_Tr_breakFrom.2.1 20 = .ok (.iinc 3 1, 3) := by decide +kernel
theorem d_Tr_breakFrom_23 : decode m_Tr_breakFrom.2.1 23 = .ok (.goto (-15), 3) := by decide +kernel
theorem d_Tr_breakFrom_26 : decode m_Tr_breakFrom.2.1 26 = .ok (.return_, 1) := by decide +kernel
theorem d_Lw_cancel_0 : decode m_Lw_cancel.2.1 0 = .ok (.aload_n 2, 1) := by decide +kernel
theorem d_Lw_cancel_1 : decode m_Lw_cancel.2.1 1 = .ok (.iconst 0, 1) := by decide +kernel
theorem d_Lw_cancel_2 : decode m_Lw_cancel.2.1 2 = .ok (.aload_n 0, 1) := by decide +kernel
theorem d_Lw_cancel_3 : decode m_Lw_cancel.2.1 3 = .ok (.iload_n 1, 1) := by decide +kernel
theorem d_Lw_cancel_4 : decode m_Lw_cancel.2.1 4 = .ok (.invokevirtual 50, 3) := by decide +kernel
theorem d_Lw_cancel_7 : decode m_Lw_cancel.2.1 7 = .ok (.i2l, 1) := by decide +kernel
theorem d_Lw_cancel_8 : decode m_Lw_cancel.2.1 8 = .ok (.lastore, 1) := by decide +kernel
theorem d_Lw_cancel_9 : decode m_Lw_cancel.2.1 9 = .ok (.goto 9, 3) := by decide +kernel
theorem d_Lw_cancel_12 : decode m_Lw_cancel.2.1 12 = .ok (.astore_n 3, 1) := by decide +kernel
theorem d_Lw_cancel_13 : decode m_Lw_cancel.2.1 13 = .ok (.iconst 1, 1) := by decide +kernel
theorem d_Lw_cancel_14 : decode m_Lw_cancel.2.1 14 = .ok (.ireturn, 1) := by decide +kernel
theorem d_Lw_cancel_15 : decode m_Lw_cancel.2.1 15 = .ok (.astore_n 3, 1) := by decide +kernel
theorem d_Lw_cancel_16 : decode m_Lw_cancel.2.1 16 = .ok (.iconst 2, 1) := by decide +kernel
theorem d_Lw_cancel_17 : decode m_Lw_cancel.2.1 17 = .ok (.ireturn, 1) := by decide +kernel
theorem d_Lw_cancel_18 : decode m_Lw_cancel.2.1 18 = .ok (.iconst 0, 1) := by decide +kernel
theorem d_Lw_cancel_19 : decode m_Lw_cancel.2.1 19 = .ok (.ireturn, 1) := by decide +kernel
theorem d_Ha_cancel_0 : decode m_Ha_cancel.2.1 0 = .ok (.aload_n 0, 1) := by decide +kernel
theorem d_Ha_cancel_1 : decode m_Ha_cancel.2.1 1 = .ok (.iload_n 1, 1) := by decide +kernel
theorem d_Ha_cancel_2 : decode m_Ha_cancel.2.1 2 = .ok (.invokevirtual 154, 3) := by decide +kernel
theorem d_Ha_cancel_5 : decode m_Ha_cancel.2.1 5 = .ok (.getfield 104, 3) := by decide +kernel
theorem d_Ha_cancel_8 : decode m_Ha_cancel.2.1 8 = .ok (.astore_n 2, 1) := by decide +kernel
theorem d_Ha_cancel_9 : decode m_Ha_cancel.2.1 9 = .ok (.aload_n 2, 1) := by decide +kernel
theorem d_Ha_cancel_10 : decode m_Ha_cancel.2.1 10 = .ok (.getfield 175, 3) := by decide +kernel
theorem d_Ha_cancel_13 : decode m_Ha_cancel.2.1 13 = .ok (.iconst 0, 1) := by decide +kernel
theorem d_Ha_cancel_14 : decode m_Ha_cancel.2.1 14 = .ok (.iaload, 1) := by decide +kernel
theorem d_Ha_cancel_15 : decode m_Ha_cancel.2.1 15 = .ok (.iconst 1, 1) := by decide +kernel
theorem d_Ha_cancel_16 : decode m_Ha_cancel.2.1 16 = .ok (.if_icmp .eq 11, 3) := by decide +kernel
theorem d_Ha_cancel_19 : decode m_Ha_cancel.2.1 19 = .ok (.new 64, 3) := by decide +kernel
theorem d_Ha_cancel_22 : decode m_Ha_cancel.2.1 22 = .ok (.dup, 1) := by decide +kernel
theorem d_Ha_cancel_23 : decode m_Ha_cancel.2.1 23 = .ok (.invokespecial 66, 3) := by decide +kernel
theorem d_Ha_cancel_26 : decode m_Ha_cancel.2.1 26 = .ok (.athrow, 1) := by decide +kernel
theorem d_Ha_cancel_27 : decode m_Ha_cancel.2.1 27 = .ok (.aload_n 0, 1) := by decide +kernel
theorem d_Ha_cancel_28 : decode m_Ha_cancel.2.1 28 = .ok (.aload_n 2, 1) := by decide +kernel
theorem d_Ha_cancel_29 : decode m_Ha_cancel.2.1 29 = .ok (.iconst 0, 1) := by decide +kernel
theorem d_Ha_cancel_30 : decode m_Ha_cancel.2.1 30 = .ok (.invokevirtual 196, 3) := by decide +kernel
theorem d_Ha_cancel_33 : decode m_Ha_cancel.2.1 33 = .ok (.istore_n 3, 1) := by decide +kernel
theorem d_Ha_cancel_34 : decode m_Ha_cancel.2.1 34 = .ok (.aload_n 2, 1) := by decide +kernel
theorem d_Ha_cancel_35 : decode m_Ha_cancel.2.1 35 = .ok (.invokevirtual 204, 3) := by decide +kernel
theorem d_Ha_cancel_38 : decode m_Ha_cancel.2.1 38 = .ok (.iload_n 3, 1) := by decide +kernel
theorem d_Ha_cancel_39 : decode m_Ha_cancel.2.1 39 = .ok (.ireturn, 1) := by decide +kernel
theorem d_Lw_use_0 : decode m_Lw_use.2.1 0 = .ok (.aload_n 2, 1) := by decide +kernel
theorem d_Lw_use_1 : decode m_Lw_use.2.1 1 = .ok (.iconst 0, 1) := by decide +kernel
theorem d_Lw_use_2 : decode m_Lw_use.2.1 2 = .ok (.aload_n 0, 1) := by decide +kernel
theorem d_Lw_use_3 : decode m_Lw_use.2.1 3 = .ok (.iload_n 1, 1) := by decide +kernel
theorem d_Lw_use_4 : decode m_Lw_use.2.1 4 = .ok (.invokevirtual 53, 3) := by decide +kernel
theorem d_Lw_use_7 : decode m_Lw_use.2.1 7 = .ok (.i2l, 1) := by decide +kernel
theorem d_Lw_use_8 : decode m_Lw_use.2.1 8 = .ok (.lastore, 1) := by decide +kernel
theorem d_Lw_use_9 : decode m_Lw_use.2.1 9 = .ok (.goto 9, 3) := by decide +kernel
theorem d_Lw_use_12 : decode m_Lw_use.2.1 12 = .ok (.astore_n 3, 1) := by decide +kernel
theorem d_Lw_use_13 : decode m_Lw_use.2.1 13 = .ok (.iconst 1, 1) := by decide +kernel
theorem d_Lw_use_14 : decode m_Lw_use.2.1 14 = .ok (.ireturn, 1) := by decide +kernel
theorem d_Lw_use_15 : decode m_Lw_use.2.1 15 = .ok (.astore_n 3, 1) := by decide +kernel
theorem d_Lw_use_16 : decode m_Lw_use.2.1 16 = .ok (.iconst 2, 1) := by decide +kernel
theorem d_Lw_use_17 : decode m_Lw_use.2.1 17 = .ok (.ireturn, 1) := by decide +kernel
theorem d_Lw_use_18 : decode m_Lw_use.2.1 18 = .ok (.iconst 0, 1) := by decide +kernel
theorem d_Lw_use_19 : decode m_Lw_use.2.1 19 = .ok (.ireturn, 1) := by decide +kernel
theorem d_Ha_use_0 : decode m_Ha_use.2.1 0 = .ok (.aload_n 0, 1) := by decide +kernel
theorem d_Ha_use_1 : decode m_Ha_use.2.1 1 = .ok (.iload_n 1, 1) := by decide +kernel
theorem d_Ha_use_2 : decode m_Ha_use.2.1 2 = .ok (.invokevirtual 207, 3) := by decide +kernel
theorem d_Ha_use_5 : decode m_Ha_use.2.1 5 = .ok (.astore_n 2, 1) := by decide +kernel
theorem d_Ha_use_6 : decode m_Ha_use.2.1 6 = .ok (.aload_n 0, 1) := by decide +kernel
theorem d_Ha_use_7 : decode m_Ha_use.2.1 7 = .ok (.invokevirtual 60, 3) := by decide +kernel
theorem d_Ha_use_10 : decode m_Ha_use.2.1 10 = .ok (.astore_n 3, 1) := by decide +kernel
theorem d_Ha_use_11 : decode m_Ha_use.2.1 11 = .ok (.aload_n 3, 1) := by decide +kernel
theorem d_Ha_use_12 : decode m_Ha_use.2.1 12 = .ok (.ifnonnull 11, 3) := by decide +kernel
theorem d_Ha_use_15 : decode m_Ha_use.2.1 15 = .ok (.new 64, 3) := by decide +kernel
theorem d_Ha_use_18 : decode m_Ha_use.2.1 18 = .ok (.dup, 1) := by decide +kernel
theorem d_Ha_use_19 : decode m_Ha_use.2.1 19 = .ok (.invokespecial 66, 3) := by decide +kernel
theorem d_Ha_use_22 : decode m_Ha_use.2.1 22 = .ok (.athrow, 1) := by decide +kernel
theorem d_Ha_use_23 : decode m_Ha_use.2.1 23 = .ok (.aload_n 3, 1) := by decide +kernel
theorem d_Ha_use_24 : decode m_Ha_use.2.1 24 = .ok (.getfield 67, 3) := by decide +kernel
theorem d_Ha_use_27 : decode m_Ha_use.2.1 27 = .ok (.aload_n 2, 1) := by decide +kernel
theorem d_Ha_use_28 : decode m_Ha_use.2.1 28 = .ok (.iconst 0, 1) := by decide +kernel
theorem d_Ha_use_29 : decode m_Ha_use.2.1 29 = .ok (.iconst 0, 1) := by decide +kernel
theorem d_Ha_use_30 : decode m_Ha_use.2.1 30 = .ok (.aload_n 2, 1) := by decide +kernel
theorem d_Ha_use_31 : decode m_Ha_use.2.1 31 = .ok (.getfield 93, 3) := by decide +kernel
theorem d_Ha_use_34 : decode m_Ha_use.2.1 34 = .ok (.aload_n 2, 1) := by decide +kernel
theorem d_Ha_use_35 : decode m_Ha_use.2.1 35 = .ok (.getfield 101, 3) := by decide +kernel
theorem d_Ha_use_38 : decode m_Ha_use.2.1 38 = .ok (.invokevirtual 211, 3) := by decide +kernel
theorem d_Ha_use_41 : decode m_Ha_use.2.1 41 = .ok (.aload_n 0, 1) := by decide +kernel
theorem d_Ha_use_42 : decode m_Ha_use.2.1 42 = .ok (.getfield 25, 3) := by decide +kernel
theorem d_Ha_use_45 : decode m_Ha_use.2.1 45 = .ok (.iload_n 1, 1) := by decide +kernel
theorem d_Ha_use_46 : decode m_Ha_use.2.1 46 = .ok (.invokevirtual 215, 3) := by decide +kernel
theorem d_Ha_use_49 : decode m_Ha_use.2.1 49 = .ok (.aload_n 0, 1) := by decide +kernel
theorem d_Ha_use_50 : decode m_Ha_use.2.1 50 = .ok (.aload_n 3, 1) := by decide +kernel
theorem d_Ha_use_51 : decode m_Ha_use.2.1 51 = .ok (.invokevirtual 85, 3) := by decide +kernel
theorem d_Ha_use_54 : decode m_Ha_use.2.1 54 = .ok (.ireturn, 1) := by decide +kernel
theorem d_Ha_findOffcut_0 : decode m_Ha_findOffcut.2.1 0 = .ok (.aload_n 0, 1) := by decide +kernel
theorem d_Ha_findOffcut_1 : decode m_Ha_findOffcut.2.1 1 = .ok (.getfield 25, 3) := by decide +kernel
theorem d_Ha_findOffcut_4 : decode m_Ha_findOffcut.2.1 4 = .ok (.iload_n 1, 1) := by decide +kernel
theorem d_Ha_findOffcut_5 : decode m_Ha_findOffcut.2.1 5 = .ok (.invokevirtual 274, 3) := by decide +kernel
theorem d_Ha_findOffcut_8 : decode m_Ha_findOffcut.2.1 8 = .ok (.ifCond .ne 11, 3) := by decide +kernel
theorem d_Ha_findOffcut_11 : decode m_Ha_findOffcut.2.1 11 = .ok (.new 147, 3) := by decide +kernel
theorem d_Ha_findOffcut_14 : decode m_Ha_findOffcut.2.1 14 = .ok (.dup, 1) := by decide +kernel
theorem d_Ha_findOffcut_15 : decode m_Ha_findOffcut.2.1 15 = .ok (.invokespecial 149, 3) := by decide +kernel
theorem d_Ha_findOffcut_18 : decode m_Ha_findOffcut.2.1 18 = .ok (.athrow, 1) := by decide +kernel
theorem d_Ha_findOffcut_19 : decode m_Ha_findOffcut.2.1 19 = .ok (.aload_n 0, 1) := by decide +kernel
theorem d_Ha_findOffcut_20 : decode m_Ha_findOffcut.2.1 20 = .ok (.getfield 25, 3) := by decide +kernel
theorem d_Ha_findOffcut_23 : decode m_Ha_findOffcut.2.1 23 = .ok (.getfield 275, 3) := by decide +kernel
theorem d_Ha_findOffcut_26 : decode m_Ha_findOffcut.2.1 26 = .ok (.iload_n 1, 1) := by decide +kernel
theorem d_Ha_findOffcut_27 : decode m_Ha_findOffcut.2.1 27 = .ok (.aaload, 1) := by decide +kernel
theorem d_Ha_findOffcut_28 : decode m_Ha_findOffcut.2.1 28 = .ok (.areturn, 1) := by decide +kernel
theorem d_Rk_has_0 : decode m_Rk_has.2.1 0 = .ok (.iload_n 1, 1) := by decide +kernel
theorem d_Rk_has_1 : decode m_Rk_has.2.1 1 = .ok (.ifCond .lt 15, 3) := by decide +kernel
theorem d_Rk_has_4 : decode m_Rk_has.2.1 4 = .ok (.iload_n 1, 1) := by decide +kernel
theorem d_Rk_has_5 : decode m_Rk_has.2.1 5 = .ok (.aload_n 0, 1) := by decide +kernel
theorem d_Rk_has_6 : decode m_Rk_has.2.1 6 = .ok (.getfield 18, 3) := by decide +kernel
theorem d_Rk_has_9 : decode m_Rk_has.2.1 9 = .ok (.if_icmp .ge 7, 3) := by decide +kernel
theorem d_Rk_has_12 : decode m_Rk_has.2.1 12 = .ok (.iconst 1, 1) := by decide +kernel
theorem d_Rk_has_13 : decode m_Rk_has.2.1 13 = .ok (.goto 4, 3) := by decide +kernel
theorem d_Rk_has_16 : decode m_Rk_has.2.1 16 = .ok (.iconst 0, 1) := by decide +kernel
theorem d_Rk_has_17 : decode m_Rk_has.2.1 17 = .ok (.ireturn, 1) := by decide +kernel
theorem d_Rk_remove_0 : decode m_Rk_remove.2.1 0 = .ok (.aload_n 0, 1) := by decide +kernel
theorem d_Rk_remove_1 : decode m_Rk_remove.2.1 1 = .ok (.iload_n 1, 1) := by decide +kernel
theorem d_Rk_remove_2 : decode m_Rk_remove.2.1 2 = .ok (.invokevirtual 26, 3) := by decide +kernel
theorem d_Rk_remove_5 : decode m_Rk_remove.2.1 5 = .ok (.ifCond .ne 4, 3) := by decide +kernel
theorem d_Rk_remove_8 : decode m_Rk_remove.2.1 8 = .ok (.return_, 1) := by decide +kernel
theorem d_Rk_remove_9 : decode m_Rk_remove.2.1 9 = .ok (.aload_n 0, 1) := by decide +kernel
theorem d_Rk_remove_10 : decode m_Rk_remove.2.1 10 = .ok (.getfield 11, 3) := by decide +kernel
theorem d_Rk_remove_13 : decode m_Rk_remove.2.1 13 = .ok (.iload_n 1, 1) := by decide +kernel
theorem d_Rk_remove_14 : decode m_Rk_remove.2.1 14 = .ok (.aaload, 1) := by decide +kernel
theorem d_Rk_remove_15 : decode m_Rk_remove.2.1 15 = .ok (.astore_n 2, 1) := by decide +kernel
theorem d_Rk_remove_16 : decode m_Rk_remove.2.1 16 = .ok (.iload_n 1, 1) := by decide +kernel
theorem d_Rk_remove_17 : decode m_Rk_remove.2.1 17 = .ok (.istore_n 3, 1) := by decide +kernel
theorem d_Rk_remove_18 : decode m_Rk_remove.2.1 18 = .ok (.iload_n 3, 1) := by decide +kernel
theorem d_Rk_remove_19 : decode m_Rk_remove.2.1 19 = .ok (.iconst 1, 1) := by decide +kernel
theorem d_Rk_remove_20 : decode m_Rk_remove.2.1 20 = .ok (.iadd, 1) := by decide +kernel
theorem d_Rk_remove_21 : decode m_Rk_remove.2.1 21 = .ok (.aload_n 0, 1) := by decide +kernel
theorem d_Rk_remove_22 : decode m_Rk_remove.2.1 22 = .ok (.getfield 18, 3) := by decide +kernel
theorem d_Rk_remove_25 : decode m_Rk_remove.2.1 25 = .ok (.if_icmp .ge 23, 3) := by decide +kernel
theorem d_Rk_remove_28 : decode m_Rk_remove.2.1 28 = .ok (.aload_n 0, 1) := by decide +kernel
theorem d_Rk_remove_29 : decode m_Rk_remove.2.1 29 = .ok (.getfield 11, 3) := by decide +kernel
theorem d_Rk_remove_32 : decode m_Rk_remove.2.1 32 = .ok (.iload_n 3, 1) := by decide +kernel
theorem d_Rk_remove_33 : decode m_Rk_remove.2.1 33 = .ok (.aload_n 0, 1) := by decide +kernel
theorem d_Rk_remove_34 : decode m_Rk_remove.2.1 34 = .ok (.getfield 11, 3) := by decide +kernel
theorem d_Rk_remove_37 : decode m_Rk_remove.2.1 37 = .ok (.iload_n 3, 1) := by decide +kernel
theorem d_Rk_remove_38 : decode m_Rk_remove.2.1 38 = .ok (.iconst 1, 1) := by decide +kernel
theorem d_Rk_remove_39 : decode m_Rk_remove.2.1 39 = .ok (.iadd, 1) := by decide +kernel
theorem d_Rk_remove_40 : decode m_Rk_remove.2.1 40 = .ok (.aaload, 1) := by decide +kernel
theorem d_Rk_remove_41 : decode m_Rk_remove.2.1 41 = .ok (.aastore, 1) := by decide +kernel
theorem d_Rk_remove_42 : decode m_Rk_remove.2.1 42 = .ok (.iinc 3 1, 3) := by decide +kernel
theorem d_Rk_remove_45 : decode m_Rk_remove.2.1 45 = .ok (.goto (-27), 3) := by decide +kernel
theorem d_Rk_remove_48 : decode m_Rk_remove.2.1 48 = .ok (.aload_n 0, 1) := by decide +kernel
theorem d_Rk_remove_49 : decode m_Rk_remove.2.1 49 = .ok (.dup, 1) := by decide +kernel
theorem d_Rk_remove_50 : decode m_Rk_remove.2.1 50 = .ok (.getfield 18, 3) := by decide +kernel
theorem d_Rk_remove_53 : decode m_Rk_remove.2.1 53 = .ok (.iconst 1, 1) := by decide +kernel
theorem d_Rk_remove_54 : decode m_Rk_remove.2.1 54 = .ok (.isub, 1) := by decide +kernel
theorem d_Rk_remove_55 : decode m_Rk_remove.2.1 55 = .ok (.putfield 18, 3) := by decide +kernel
theorem d_Rk_remove_58 : decode m_Rk_remove.2.1 58 = .ok (.aload_n 0, 1) := by decide +kernel
theorem d_Rk_remove_59 : decode m_Rk_remove.2.1 59 = .ok (.getfield 11, 3) := by decide +kernel
theorem d_Rk_remove_62 : decode m_Rk_remove.2.1 62 = .ok (.aload_n 0, 1) := by decide +kernel
theorem d_Rk_remove_63 : decode m_Rk_remove.2.1 63 = .ok (.getfield 18, 3) := by decide +kernel
theorem d_Rk_remove_66 : decode m_Rk_remove.2.1 66 = .ok (.aload_n 2, 1) := by decide +kernel
theorem d_Rk_remove_67 : decode m_Rk_remove.2.1 67 = .ok (.aastore, 1) := by decide +kernel
theorem d_Rk_remove_68 : decode m_Rk_remove.2.1 68 = .ok (.return_, 1) := by decide +kernel
theorem d_Lw_rack_0 : decode m_Lw_rack.2.1 0 = .ok (.aload_n 3, 1) := by decide +kernel
theorem d_Lw_rack_1 : decode m_Lw_rack.2.1 1 = .ok (.iconst 0, 1) := by decide +kernel
theorem d_Lw_rack_2 : decode m_Lw_rack.2.1 2 = .ok (.aload_n 0, 1) := by decide +kernel
theorem d_Lw_rack_3 : decode m_Lw_rack.2.1 3 = .ok (.iload_n 1, 1) := by decide +kernel
theorem d_Lw_rack_4 : decode m_Lw_rack.2.1 4 = .ok (.iload_n 2, 1) := by decide +kernel
theorem d_Lw_rack_5 : decode m_Lw_rack.2.1 5 = .ok (.invokevirtual 56, 3) := by decide +kernel
theorem d_Lw_rack_8 : decode m_Lw_rack.2.1 8 = .ok (.i2l, 1) := by decide +kernel
theorem d_Lw_rack_9 : decode m_Lw_rack.2.1 9 = .ok (.lastore, 1) := by decide +kernel
theorem d_Lw_rack_10 : decode m_Lw_rack.2.1 10 = .ok (.goto 11, 3) := by decide +kernel
theorem d_Lw_rack_13 : decode m_Lw_rack.2.1 13 = .ok (.astore 4, 2) := by decide +kernel
theorem d_Lw_rack_15 : decode m_Lw_rack.2.1 15 = .ok (.iconst 1, 1) := by decide +kernel
theorem d_Lw_rack_16 : decode m_Lw_rack.2.1 16 = .ok (.ireturn, 1) := by decide +kernel
theorem d_Lw_rack_17 : decode m_Lw_rack.2.1 17 = .ok (.astore 4, 2) := by decide +kernel
theorem d_Lw_rack_19 : decode m_Lw_rack.2.1 19 = .ok (.iconst 2, 1) := by decide +kernel
theorem d_Lw_rack_20 : decode m_Lw_rack.2.1 20 = .ok (.ireturn, 1) := by decide +kernel
theorem d_Lw_rack_21 : decode m_Lw_rack.2.1 21 = .ok (.iconst 0, 1) := by decide +kernel
theorem d_Lw_rack_22 : decode m_Lw_rack.2.1 22 = .ok (.ireturn, 1) := by decide +kernel
theorem d_Ha_rack_0 : decode m_Ha_rack.2.1 0 = .ok (.aload_n 0, 1) := by decide +kernel
theorem d_Ha_rack_1 : decode m_Ha_rack.2.1 1 = .ok (.iload_n 1, 1) := by decide +kernel
theorem d_Ha_rack_2 : decode m_Ha_rack.2.1 2 = .ok (.invokevirtual 207, 3) := by decide +kernel
theorem d_Ha_rack_5 : decode m_Ha_rack.2.1 5 = .ok (.astore_n 3, 1) := by decide +kernel
theorem d_Ha_rack_6 : decode m_Ha_rack.2.1 6 = .ok (.iload_n 2, 1) := by decide +kernel
theorem d_Ha_rack_7 : decode m_Ha_rack.2.1 7 = .ok (.tableswitch 40 0 2 #[25, 30, 35], 25) := by decide +kernel
theorem d_Ha_rack_32 : decode m_Ha_rack.2.1 32 = .ok (.aload_n 3, 1) := by decide +kernel
theorem d_Ha_rack_33 : decode m_Ha_rack.2.1 33 = .ok (.getfield 93, 3) := by decide +kernel
theorem d_Ha_rack_36 : decode m_Ha_rack.2.1 36 = .ok (.ireturn, 1) := by decide +kernel
theorem d_Ha_rack_37 : decode m_Ha_rack.2.1 37 = .ok (.aload_n 3, 1) := by decide +kernel
theorem d_Ha_rack_38 : decode m_Ha_rack.2.1 38 = .ok (.getfield 101, 3) := by decide +kernel
theorem d_Ha_rack_41 : decode m_Ha_rack.2.1 41 = .ok (.ireturn, 1) := by decide +kernel
theorem d_Ha_rack_42 : decode m_Ha_rack.2.1 42 = .ok (.aload_n 3, 1) := by decide +kernel
theorem d_Ha_rack_43 : decode m_Ha_rack.2.1 43 = .ok (.getfield 114, 3) := by decide +kernel
theorem d_Ha_rack_46 : decode m_Ha_rack.2.1 46 = .ok (.ireturn, 1) := by decide +kernel
theorem d_Ha_rack_47 : decode m_Ha_rack.2.1 47 = .ok (.new 57, 3) := by decide +kernel
theorem d_Ha_rack_50 : decode m_Ha_rack.2.1 50 = .ok (.dup, 1) := by decide +kernel
theorem d_Ha_rack_51 : decode m_Ha_rack.2.1 51 = .ok (.invokespecial 59, 3) := by decide +kernel
theorem d_Ha_rack_54 : decode m_Ha_rack.2.1 54 = .ok (.athrow, 1) := by decide +kernel
theorem d_Lw_flawed_0 : decode m_Lw_flawed.2.1 0 = .ok (.aload 4, 2) := by decide +kernel
theorem d_Lw_flawed_2 : decode m_Lw_flawed.2.1 2 = .ok (.iconst 0, 1) := by decide +kernel
theorem d_Lw_flawed_3 : decode m_Lw_flawed.2.1 3 = .ok (.aload_n 0, 1) := by decide +kernel
theorem d_Lw_flawed_4 : decode m_Lw_flawed.2.1 4 = .ok (.iload_n 1, 1) := by decide +kernel
theorem d_Lw_flawed_5 : decode m_Lw_flawed.2.1 5 = .ok (.iload_n 2, 1) := by decide +kernel
theorem d_Lw_flawed_6 : decode m_Lw_flawed.2.1 6 = .ok (.iload_n 3, 1) := by decide +kernel
theorem d_Lw_flawed_7 : decode m_Lw_flawed.2.1 7 = .ok (.invokevirtual 59, 3) := by decide +kernel
theorem d_Lw_flawed_10 : decode m_Lw_flawed.2.1 10 = .ok (.i2l, 1) := by decide +kernel
theorem d_Lw_flawed_11 : decode m_Lw_flawed.2.1 11 = .ok (.lastore, 1) := by decide +kernel
theorem d_Lw_flawed_12 : decode m_Lw_flawed.2.1 12 = .ok (.goto 15, 3) := by decide +kernel
theorem d_Lw_flawed_15 : decode m_Lw_flawed.2.1 15 = .ok (.astore 5, 2) := by decide +kernel
theorem d_Lw_flawed_17 : decode m_Lw_flawed.2.1 17 = .ok (.iconst 1, 1) := by decide +kernel
theorem d_Lw_flawed_18 : decode m_Lw_flawed.2.1 18 = .ok (.ireturn, 1) := by decide +kernel
theorem d_Lw_flawed_19 : decode m_Lw_flawed.2.1 19 = .ok (.astore 5, 2) := by decide +kernel
theorem d_Lw_flawed_21 : decode m_Lw_flawed.2.1 21 = .ok (.iconst 2, 1) := by decide +kernel
theorem d_Lw_flawed_22 : decode m_Lw_flawed.2.1 22 = .ok (.ireturn, 1) := by decide +kernel
theorem d_Lw_flawed_23 : decode m_Lw_flawed.2.1 23 = .ok (.astore 5, 2) := by decide +kernel
theorem d_Lw_flawed_25 : decode m_Lw_flawed.2.1 25 = .ok (.iconst 3, 1) := by decide +kernel
theorem d_Lw_flawed_26 : decode m_Lw_flawed.2.1 26 = .ok (.ireturn, 1) := by decide +kernel
theorem d_Lw_flawed_27 : decode m_Lw_flawed.2.1 27 = .ok (.iconst 0, 1) := by decide +kernel
theorem d_Lw_flawed_28 : decode m_Lw_flawed.2.1 28 = .ok (.ireturn, 1) := by decide +kernel
theorem d_Ha_flawed_0 : decode m_Ha_flawed.2.1 0 = .ok (.aload_n 0, 1) := by decide +kernel
theorem d_Ha_flawed_1 : decode m_Ha_flawed.2.1 1 = .ok (.iload_n 1, 1) := by decide +kernel
theorem d_Ha_flawed_2 : decode m_Ha_flawed.2.1 2 = .ok (.invokevirtual 89, 3) := by decide +kernel
theorem d_Ha_flawed_5 : decode m_Ha_flawed.2.1 5 = .ok (.getfield 67, 3) := by decide +kernel
theorem d_Ha_flawed_8 : decode m_Ha_flawed.2.1 8 = .ok (.astore 4, 2) := by decide +kernel
theorem d_Ha_flawed_10 : decode m_Ha_flawed.2.1 10 = .ok (.iload_n 2, 1) := by decide +kernel
theorem d_Ha_flawed_11 : decode m_Ha_flawed.2.1 11 = .ok (.ifCond .lt 12, 3) := by decide +kernel
theorem d_Ha_flawed_14 : decode m_Ha_flawed.2.1 14 = .ok (.iload_n 2, 1) := by decide +kernel
theorem d_Ha_flawed_15 : decode m_Ha_flawed.2.1 15 = .ok (.aload 4, 2) := by decide +kernel
theorem d_Ha_flawed_17 : decode m_Ha_flawed.2.1 17 = .ok (.getfield 114, 3) := by decide +kernel
theorem d_Ha_flawed_20 : decode m_Ha_flawed.2.1 20 = .ok (.if_icmp .lt 11, 3) := by decide +kernel
theorem d_Ha_flawed_23 : decode m_Ha_flawed.2.1 23 = .ok (.new 160, 3) := by decide +kernel
theorem d_Ha_flawed_26 : decode m_Ha_flawed.2.1 26 = .ok (.dup, 1) := by decide +kernel
theorem d_Ha_flawed_27 : decode m_Ha_flawed.2.1 27 = .ok (.invokespecial 162, 3) := by decide +kernel
theorem d_Ha_flawed_30 : decode m_Ha_flawed.2.1 30 = .ok (.athrow, 1) := by decide +kernel
theorem d_Ha_flawed_31 : decode m_Ha_flawed.2.1 31 = .ok (.iload_n 3, 1) := by decide +kernel
theorem d_Ha_flawed_32 : decode m_Ha_flawed.2.1 32 = .ok (.tableswitch 64 0 3 #[32, 40, 48, 56], 32) := by decide +kernel
theorem d_Ha_flawed_64 : decode m_Ha_flawed.2.1 64 = .ok (.aload 4, 2) := by decide +kernel
theorem d_Ha_flawed_66 : decode m_Ha_flawed.2.1 66 = .ok (.getfield 221, 3) := by decide +kernel
theorem d_Ha_flawed_69 : decode m_Ha_flawed.2.1 69 = .ok (.iload_n 2, 1) := by decide +kernel
theorem d_Ha_flawed_70 : decode m_Ha_flawed.2.1 70 = .ok (.iaload, 1) := by decide +kernel
theorem d_Ha_flawed_71 : decode m_Ha_flawed.2.1 71 = .ok (.ireturn, 1) := by decide +kernel
theorem d_Ha_flawed_72 : decode m_Ha_flawed.2.1 72 = .ok (.aload 4, 2) := by decide +kernel
theorem d_Ha_flawed_74 : decode m_Ha_flawed.2.1 74 = .ok (.getfield 224, 3) := by decide +kernel
theorem d_Ha_flawed_77 : decode m_Ha_flawed.2.1 77 = .ok (.iload_n 2, 1) := by decide +kernel
theorem d_Ha_flawed_78 : decode m_Ha_flawed.2.1 78 = .ok (.iaload, 1) := by decide +kernel
theorem d_Ha_flawed_79 : decode m_Ha_flawed.2.1 79 = .ok (.ireturn, 1) := by decide +kernel
theorem d_Ha_flawed_80 : decode m_Ha_flawed.2.1 80 = .ok (.aload 4, 2) := by decide +kernel
theorem d_Ha_flawed_82 : decode m_Ha_flawed.2.1 82 = .ok (.getfield 227, 3) := by decide +kernel
theorem d_Ha_flawed_85 : decode m_Ha_flawed.2.1 85 = .ok (.iload_n 2, 1) := by decide +kernel
theorem d_Ha_flawed_86 : decode m_Ha_flawed.2.1 86 = .ok (.iaload, 1) := by decide +kernel
theorem d_Ha_flawed_87 : decode m_Ha_flawed.2.1 87 = .ok (.ireturn, 1) := by decide +kernel
theorem d_Ha_flawed_88 : decode m_Ha_flawed.2.1 88 = .ok (.aload 4, 2) := by decide +kernel
theorem d_Ha_flawed_90 : decode m_Ha_flawed.2.1 90 = .ok (.getfield 230, 3) := by decide +kernel
theorem d_Ha_flawed_93 : decode m_Ha_flawed.2.1 93 = .ok (.iload_n 2, 1) := by decide +kernel
theorem d_Ha_flawed_94 : decode m_Ha_flawed.2.1 94 = .ok (.iaload, 1) := by decide +kernel
theorem d_Ha_flawed_95 : decode m_Ha_flawed.2.1 95 = .ok (.ireturn, 1) := by decide +kernel
theorem d_Ha_flawed_96 : decode m_Ha_flawed.2.1 96 = .ok (.new 57, 3) := by decide +kernel
theorem d_Ha_flawed_99 : decode m_Ha_flawed.2.1 99 = .ok (.dup, 1) := by decide +kernel
theorem d_Ha_flawed_100 : decode m_Ha_flawed.2.1 100 = .ok (.invokespecial 59, 3) := by decide +kernel
theorem d_Ha_flawed_103 : decode m_Ha_flawed.2.1 103 = .ok (.athrow, 1) := by decide +kernel
theorem d_Lw_panes_0 : decode m_Lw_panes.2.1 0 = .ok (.aload_n 3, 1) := by decide +kernel
theorem d_Lw_panes_1 : decode m_Lw_panes.2.1 1 = .ok (.iconst 0, 1) := by decide +kernel
theorem d_Lw_panes_2 : decode m_Lw_panes.2.1 2 = .ok (.aload_n 0, 1) := by decide +kernel
theorem d_Lw_panes_3 : decode m_Lw_panes.2.1 3 = .ok (.iload_n 1, 1) := by decide +kernel
theorem d_Lw_panes_4 : decode m_Lw_panes.2.1 4 = .ok (.iload_n 2, 1) := by decide +kernel
theorem d_Lw_panes_5 : decode m_Lw_panes.2.1 5 = .ok (.invokevirtual 62, 3) := by decide +kernel
theorem d_Lw_panes_8 : decode m_Lw_panes.2.1 8 = .ok (.i2l, 1) := by decide +kernel
theorem d_Lw_panes_9 : decode m_Lw_panes.2.1 9 = .ok (.lastore, 1) := by decide +kernel
theorem d_Lw_panes_10 : decode m_Lw_panes.2.1 10 = .ok (.goto 11, 3) := by decide +kernel
theorem d_Lw_panes_13 : decode m_Lw_panes.2.1 13 = .ok (.astore 4, 2) := by decide +kernel
theorem d_Lw_panes_15 : decode m_Lw_panes.2.1 15 = .ok (.iconst 1, 1) := by decide +kernel
theorem d_Lw_panes_16 : decode m_Lw_panes.2.1 16 = .ok (.ireturn, 1) := by decide +kernel
theorem d_Lw_panes_17 : decode m_Lw_panes.2.1 17 = .ok (.astore 4, 2) := by decide +kernel
theorem d_Lw_panes_19 : decode m_Lw_panes.2.1 19 = .ok (.iconst 2, 1) := by decide +kernel
theorem d_Lw_panes_20 : decode m_Lw_panes.2.1 20 = .ok (.ireturn, 1) := by decide +kernel
theorem d_Lw_panes_21 : decode m_Lw_panes.2.1 21 = .ok (.iconst 0, 1) := by decide +kernel
theorem d_Lw_panes_22 : decode m_Lw_panes.2.1 22 = .ok (.ireturn, 1) := by decide +kernel
theorem d_Ha_panes_0 : decode m_Ha_panes.2.1 0 = .ok (.aload_n 0, 1) := by decide +kernel
theorem d_Ha_panes_1 : decode m_Ha_panes.2.1 1 = .ok (.getfield 18, 3) := by decide +kernel
theorem d_Ha_panes_4 : decode m_Ha_panes.2.1 4 = .ok (.iload_n 1, 1) := by decide +kernel
theorem d_Ha_panes_5 : decode m_Ha_panes.2.1 5 = .ok (.invokevirtual 233, 3) := by decide +kernel
theorem d_Ha_panes_8 : decode m_Ha_panes.2.1 8 = .ok (.astore_n 3, 1) := by decide +kernel
theorem d_Ha_panes_9 : decode m_Ha_panes.2.1 9 = .ok (.aload_n 3, 1) := by decide +kernel
theorem d_Ha_panes_10 : decode m_Ha_panes.2.1 10 = .ok (.ifnonnull 11, 3) := by decide +kernel
theorem d_Ha_panes_13 : decode m_Ha_panes.2.1 13 = .ok (.new 147, 3) := by decide +kernel
theorem d_Ha_panes_16 : decode m_Ha_panes.2.1 16 = .ok (.dup, 1) := by decide +kernel
theorem d_Ha_panes_17 : decode m_Ha_panes.2.1 17 = .ok (.invokespecial 149, 3) := by decide +kernel
theorem d_Ha_panes_20 : decode m_Ha_panes.2.1 20 = .ok (.athrow, 1) := by decide +kernel
theorem d_Ha_panes_21 : decode m_Ha_panes.2.1 21 = .ok (.iload_n 2, 1) := by decide +kernel
theorem d_Ha_panes_22 : decode m_Ha_panes.2.1 22 = .ok (.tableswitch 41 0 2 #[26, 31, 36], 26) := by decide +kernel
theorem d_Ha_panes_48 : decode m_Ha_panes.2.1 48 = .ok (.aload_n 3, 1) := by decide +kernel
theorem d_Ha_panes_49 : decode m_Ha_panes.2.1 49 = .ok (.getfield 237, 3) := by decide +kernel
theorem d_Ha_panes_52 : decode m_Ha_panes.2.1 52 = .ok (.ireturn, 1) := by decide +kernel
theorem d_Ha_panes_53 : decode m_Ha_panes.2.1 53 = .ok (.aload_n 3, 1) := by decide +kernel
theorem d_Ha_panes_54 : decode m_Ha_panes.2.1 54 = .ok (.getfield 240, 3) := by decide +kernel
theorem d_Ha_panes_57 : decode m_Ha_panes.2.1 57 = .ok (.ireturn, 1) := by decide +kernel
theorem d_Ha_panes_58 : decode m_Ha_panes.2.1 58 = .ok (.aload_n 3, 1) := by decide +kernel
theorem d_Ha_panes_59 : decode m_Ha_panes.2.1 59 = .ok (.getfield 243, 3) := by decide +kernel
theorem d_Ha_panes_62 : decode m_Ha_panes.2.1 62 = .ok (.ireturn, 1) := by decide +kernel
theorem d_Ha_panes_63 : decode m_Ha_panes.2.1 63 = .ok (.new 57, 3) := by decide +kernel
theorem d_Ha_panes_66 : decode m_Ha_panes.2.1 66 = .ok (.dup, 1) := by decide +kernel
theorem d_Ha_panes_67 : decode m_Ha_panes.2.1 67 = .ok (.invokespecial 59, 3) := by decide +kernel
theorem d_Ha_panes_70 : decode m_Ha_panes.2.1 70 = .ok (.athrow, 1) := by decide +kernel
theorem d_Mo_init_0 : decode m_Mo_init.2.1 0 = .ok (.aload_n 0, 1) := by decide +kernel
theorem d_Mo_init_1 : decode m_Mo_init.2.1 1 = .ok (.invokespecial 1, 3) := by decide +kernel
theorem d_Mo_init_4 : decode m_Mo_init.2.1 4 = .ok (.aload_n 0, 1) := by decide +kernel
theorem d_Mo_init_5 : decode m_Mo_init.2.1 5 = .ok (.bipush 8, 2) := by decide +kernel
theorem d_Mo_init_7 : decode m_Mo_init.2.1 7 = .ok (.newarray .boolean, 2) := by decide +kernel
theorem d_Mo_init_9 : decode m_Mo_init.2.1 9 = .ok (.putfield 7, 3) := by decide +kernel
theorem d_Mo_init_12 : decode m_Mo_init.2.1 12 = .ok (.aload_n 0, 1) := by decide +kernel
theorem d_Mo_init_13 : decode m_Mo_init.2.1 13 = .ok (.bipush 8, 2) := by decide +kernel
theorem d_Mo_init_15 : decode m_Mo_init.2.1 15 = .ok (.newarray .int, 2) := by decide +kernel
theorem d_Mo_init_17 : decode m_Mo_init.2.1 17 = .ok (.putfield 13, 3) := by decide +kernel
theorem d_Mo_init_20 : decode m_Mo_init.2.1 20 = .ok (.aload_n 0, 1) := by decide +kernel
theorem d_Mo_init_21 : decode m_Mo_init.2.1 21 = .ok (.bipush 8, 2) := by decide +kernel
theorem d_Mo_init_23 : decode m_Mo_init.2.1 23 = .ok (.newarray .int, 2) := by decide +kernel
theorem d_Mo_init_25 : decode m_Mo_init.2.1 25 = .ok (.putfield 17, 3) := by decide +kernel
theorem d_Mo_init_28 : decode m_Mo_init.2.1 28 = .ok (.aload_n 0, 1) := by decide +kernel
theorem d_Mo_init_29 : decode m_Mo_init.2.1 29 = .ok (.bipush 8, 2) := by decide +kernel
theorem d_Mo_init_31 : decode m_Mo_init.2.1 31 = .ok (.newarray .int, 2) := by decide +kernel
theorem d_Mo_init_33 : decode m_Mo_init.2.1 33 = .ok (.putfield 20, 3) := by decide +kernel
theorem d_Mo_init_36 : decode m_Mo_init.2.1 36 = .ok (.aload_n 0, 1) := by decide +kernel
theorem d_Mo_init_37 : decode m_Mo_init.2.1 37 = .ok (.bipush 8, 2) := by decide +kernel
theorem d_Mo_init_39 : decode m_Mo_init.2.1 39 = .ok (.newarray .boolean, 2) := by decide +kernel
theorem d_Mo_init_41 : decode m_Mo_init.2.1 41 = .ok (.putfield 23, 3) := by decide +kernel
theorem d_Mo_init_44 : decode m_Mo_init.2.1 44 = .ok (.aload_n 0, 1) := by decide +kernel
theorem d_Mo_init_45 : decode m_Mo_init.2.1 45 = .ok (.bipush 8, 2) := by decide +kernel
theorem d_Mo_init_47 : decode m_Mo_init.2.1 47 = .ok (.newarray .boolean, 2) := by decide +kernel
theorem d_Mo_init_49 : decode m_Mo_init.2.1 49 = .ok (.putfield 26, 3) := by decide +kernel
theorem d_Mo_init_52 : decode m_Mo_init.2.1 52 = .ok (.aload_n 0, 1) := by decide +kernel
theorem d_Mo_init_53 : decode m_Mo_init.2.1 53 = .ok (.bipush 8, 2) := by decide +kernel
theorem d_Mo_init_55 : decode m_Mo_init.2.1 55 = .ok (.newarray .int, 2) := by decide +kernel
theorem d_Mo_init_57 : decode m_Mo_init.2.1 57 = .ok (.putfield 29, 3) := by decide +kernel
theorem d_Mo_init_60 : decode m_Mo_init.2.1 60 = .ok (.aload_n 0, 1) := by decide +kernel
theorem d_Mo_init_61 : decode m_Mo_init.2.1 61 = .ok (.sipush 192, 3) := by decide +kernel
theorem d_Mo_init_64 : decode m_Mo_init.2.1 64 = .ok (.newarray .int, 2) := by decide +kernel
theorem d_Mo_init_66 : decode m_Mo_init.2.1 66 = .ok (.putfield 32, 3) := by decide +kernel
theorem d_Mo_init_69 : decode m_Mo_init.2.1 69 = .ok (.aload_n 0, 1) := by decide +kernel
theorem d_Mo_init_70 : decode m_Mo_init.2.1 70 = .ok (.bipush 8, 2) := by decide +kernel
theorem d_Mo_init_72 : decode m_Mo_init.2.1 72 = .ok (.newarray .int, 2) := by decide +kernel
theorem d_Mo_init_74 : decode m_Mo_init.2.1 74 = .ok (.putfield 35, 3) := by decide +kernel
theorem d_Mo_init_77 : decode m_Mo_init.2.1 77 = .ok (.aload_n 0, 1) := by decide +kernel
theorem d_Mo_init_78 : decode m_Mo_init.2.1 78 = .ok (.sipush 1280, 3) := by decide +kernel
theorem d_Mo_init_81 : decode m_Mo_init.2.1 81 = .ok (.newarray .int, 2) := by decide +kernel
theorem d_Mo_init_83 : decode m_Mo_init.2.1 83 = .ok (.putfield 38, 3) := by decide +kernel
theorem d_Mo_init_86 : decode m_Mo_init.2.1 86 = .ok (.aload_n 0, 1) := by decide +kernel
theorem d_Mo_init_87 : decode m_Mo_init.2.1 87 = .ok (.sipush 1280, 3) := by decide +kernel
theorem d_Mo_init_90 : decode m_Mo_init.2.1 90 = .ok (.newarray .int, 2) := by decide +kernel
theorem d_Mo_init_92 : decode m_Mo_init.2.1 92 = .ok (.putfield 41, 3) := by decide +kernel
theorem d_Mo_init_95 : decode m_Mo_init.2.1 95 = .ok (.aload_n 0, 1) := by decide +kernel
theorem d_Mo_init_96 : decode m_Mo_init.2.1 96 = .ok (.sipush 1280, 3) := by decide +kernel
theorem d_Mo_init_99 : decode m_Mo_init.2.1 99 = .ok (.newarray .int, 2) := by decide +kernel
theorem d_Mo_init_101 : decode m_Mo_init.2.1 101 = .ok (.putfield 44, 3) := by decide +kernel
theorem d_Mo_init_104 : decode m_Mo_init.2.1 104 = .ok (.aload_n 0, 1) := by decide +kernel
theorem d_Mo_init_105 : decode m_Mo_init.2.1 105 = .ok (.sipush 1280, 3) := by decide +kernel
theorem d_Mo_init_108 : decode m_Mo_init.2.1 108 = .ok (.newarray .int, 2) := by decide +kernel
theorem d_Mo_init_110 : decode m_Mo_init.2.1 110 = .ok (.putfield 47, 3) := by decide +kernel
theorem d_Mo_init_113 : decode m_Mo_init.2.1 113 = .ok (.aload_n 0, 1) := by decide +kernel
theorem d_Mo_init_114 : decode m_Mo_init.2.1 114 = .ok (.sipush 1280, 3) := by decide +kernel
theorem d_Mo_init_117 : decode m_Mo_init.2.1 117 = .ok (.newarray .int, 2) := by decide +kernel
theorem d_Mo_init_119 : decode m_Mo_init.2.1 119 = .ok (.putfield 50, 3) := by decide +kernel
theorem d_Mo_init_122 : decode m_Mo_init.2.1 122 = .ok (.aload_n 0, 1) := by decide +kernel
theorem d_Mo_init_123 : decode m_Mo_init.2.1 123 = .ok (.sipush 1280, 3) := by decide +kernel
theorem d_Mo_init_126 : decode m_Mo_init.2.1 126 = .ok (.newarray .int, 2) := by decide +kernel
theorem d_Mo_init_128 : decode m_Mo_init.2.1 128 = .ok (.putfield 53, 3) := by decide +kernel
theorem d_Mo_init_131 : decode m_Mo_init.2.1 131 = .ok (.aload_n 0, 1) := by decide +kernel
theorem d_Mo_init_132 : decode m_Mo_init.2.1 132 = .ok (.sipush 1280, 3) := by decide +kernel
theorem d_Mo_init_135 : decode m_Mo_init.2.1 135 = .ok (.newarray .int, 2) := by decide +kernel
theorem d_Mo_init_137 : decode m_Mo_init.2.1 137 = .ok (.putfield 56, 3) := by decide +kernel
theorem d_Mo_init_140 : decode m_Mo_init.2.1 140 = .ok (.aload_n 0, 1) := by decide +kernel
theorem d_Mo_init_141 : decode m_Mo_init.2.1 141 = .ok (.sipush 1280, 3) := by decide +kernel
theorem d_Mo_init_144 : decode m_Mo_init.2.1 144 = .ok (.newarray .int, 2) := by decide +kernel
theorem d_Mo_init_146 : decode m_Mo_init.2.1 146 = .ok (.putfield 59, 3) := by decide +kernel
theorem d_Mo_init_149 : decode m_Mo_init.2.1 149 = .ok (.aload_n 0, 1) := by decide +kernel
theorem d_Mo_init_150 : decode m_Mo_init.2.1 150 = .ok (.sipush 1280, 3) := by decide +kernel
theorem d_Mo_init_153 : decode m_Mo_init.2.1 153 = .ok (.newarray .int, 2) := by decide +kernel
theorem d_Mo_init_155 : decode m_Mo_init.2.1 155 = .ok (.putfield 62, 3) := by decide +kernel
theorem d_Mo_init_158 : decode m_Mo_init.2.1 158 = .ok (.aload_n 0, 1) := by decide +kernel
theorem d_Mo_init_159 : decode m_Mo_init.2.1 159 = .ok (.bipush 6, 2) := by decide +kernel
theorem d_Mo_init_161 : decode m_Mo_init.2.1 161 = .ok (.newarray .int, 2) := by decide +kernel
theorem d_Mo_init_163 : decode m_Mo_init.2.1 163 = .ok (.putfield 65, 3) := by decide +kernel
theorem d_Mo_init_166 : decode m_Mo_init.2.1 166 = .ok (.aload_n 0, 1) := by decide +kernel
theorem d_Mo_init_167 : decode m_Mo_init.2.1 167 = .ok (.bipush 6, 2) := by decide +kernel
theorem d_Mo_init_169 : decode m_Mo_init.2.1 169 = .ok (.newarray .int, 2) := by decide +kernel
theorem d_Mo_init_171 : decode m_Mo_init.2.1 171 = .ok (.putfield 68, 3) := by decide +kernel
theorem d_Mo_init_174 : decode m_Mo_init.2.1 174 = .ok (.aload_n 0, 1) := by decide +kernel
theorem d_Mo_init_175 : decode m_Mo_init.2.1 175 = .ok (.bipush 6, 2) := by decide +kernel
theorem d_Mo_init_177 : decode m_Mo_init.2.1 177 = .ok (.newarray .boolean, 2) := by decide +kernel
theorem d_Mo_init_179 : decode m_Mo_init.2.1 179 = .ok (.putfield 71, 3) := by decide +kernel
theorem d_Mo_init_182 : decode m_Mo_init.2.1 182 = .ok (.aload_n 0, 1) := by decide +kernel
theorem d_Mo_init_183 : decode m_Mo_init.2.1 183 = .ok (.bipush 6, 2) := by decide +kernel
theorem d_Mo_init_185 : decode m_Mo_init.2.1 185 = .ok (.newarray .int, 2) := by decide +kernel
theorem d_Mo_init_187 : decode m_Mo_init.2.1 187 = .ok (.putfield 74, 3) := by decide +kernel
theorem d_Mo_init_190 : decode m_Mo_init.2.1 190 = .ok (.aload_n 0, 1) := by decide +kernel
theorem d_Mo_init_191 : decode m_Mo_init.2.1 191 = .ok (.bipush 6, 2) := by decide +kernel
theorem d_Mo_init_193 : decode m_Mo_init.2.1 193 = .ok (.newarray .int, 2) := by decide +kernel
theorem d_Mo_init_195 : decode m_Mo_init.2.1 195 = .ok (.putfield 77, 3) := by decide +kernel
theorem d_Mo_init_198 : decode m_Mo_init.2.1 198 = .ok (.aload_n 0, 1) := by decide +kernel
theorem d_Mo_init_199 : decode m_Mo_init.2.1 199 = .ok (.bipush 6, 2) := by decide +kernel
theorem d_Mo_init_201 : decode m_Mo_init.2.1 201 = .ok (.newarray .int, 2) := by decide +kernel
theorem d_Mo_init_203 : decode m_Mo_init.2.1 203 = .ok (.putfield 80, 3) := by decide +kernel
theorem d_Mo_init_206 : decode m_Mo_init.2.1 206 = .ok (.aload_n 0, 1) := by decide +kernel
theorem d_Mo_init_207 : decode m_Mo_init.2.1 207 = .ok (.bipush 10, 2) := by decide +kernel
theorem d_Mo_init_209 : decode m_Mo_init.2.1 209 = .ok (.newarray .int, 2) := by decide +kernel
theorem d_Mo_init_211 : decode m_Mo_init.2.1 211 = .ok (.putfield 83, 3) := by decide +kernel
theorem d_Mo_init_214 : decode m_Mo_init.2.1 214 = .ok (.aload_n 0, 1) := by decide +kernel
theorem d_Mo_init_215 : decode m_Mo_init.2.1 215 = .ok (.bipush 10, 2) := by decide +kernel
theorem d_Mo_init_217 : decode m_Mo_init.2.1 217 = .ok (.newarray .int, 2) := by decide +kernel
theorem d_Mo_init_219 : decode m_Mo_init.2.1 219 = .ok (.putfield 86, 3) := by decide +kernel
theorem d_Mo_init_222 : decode m_Mo_init.2.1 222 = .ok (.aload_n 0, 1) := by decide +kernel
theorem d_Mo_init_223 : decode m_Mo_init.2.1 223 = .ok (.bipush 10, 2) := by decide +kernel
theorem d_Mo_init_225 : decode m_Mo_init.2.1 225 = .ok (.newarray .int, 2) := by decide +kernel
theorem d_Mo_init_227 : decode m_Mo_init.2.1 227 = .ok (.putfield 89, 3) := by decide +kernel
theorem d_Mo_init_230 : decode m_Mo_init.2.1 230 = .ok (.aload_n 0, 1) := by decide +kernel
theorem d_Mo_init_231 : decode m_Mo_init.2.1 231 = .ok (.sipush 240, 3) := by decide +kernel
theorem d_Mo_init_234 : decode m_Mo_init.2.1 234 = .ok (.newarray .int, 2) := by decide +kernel
theorem d_Mo_init_236 : decode m_Mo_init.2.1 236 = .ok (.putfield 92, 3) := by decide +kernel
theorem d_Mo_init_239 : decode m_Mo_init.2.1 239 = .ok (.aload_n 0, 1) := by decide +kernel
theorem d_Mo_init_240 : decode m_Mo_init.2.1 240 = .ok (.bipush 40, 2) := by decide +kernel
theorem d_Mo_init_242 : decode m_Mo_init.2.1 242 = .ok (.newarray .int, 2) := by decide +kernel
theorem d_Mo_init_244 : decode m_Mo_init.2.1 244 = .ok (.putfield 95, 3) := by decide +kernel
theorem d_Mo_init_247 : decode m_Mo_init.2.1 247 = .ok (.aload_n 0, 1) := by decide +kernel
theorem d_Mo_init_248 : decode m_Mo_init.2.1 248 = .ok (.bipush 40, 2) := by decide +kernel
theorem d_Mo_init_250 : decode m_Mo_init.2.1 250 = .ok (.newarray .int, 2) := by decide +kernel
theorem d_Mo_init_252 : decode m_Mo_init.2.1 252 = .ok (.putfield 98, 3) := by decide +kernel
theorem d_Mo_init_255 : decode m_Mo_init.2.1 255 = .ok (.aload_n 0, 1) := by decide +kernel
theorem d_Mo_init_256 : decode m_Mo_init.2.1 256 = .ok (.bipush 40, 2) := by decide +kernel
theorem d_Mo_init_258 : decode m_Mo_init.2.1 258 = .ok (.newarray .int, 2) := by decide +kernel
theorem d_Mo_init_260 : decode m_Mo_init.2.1 260 = .ok (.putfield 101, 3) := by decide +kernel
theorem d_Mo_init_263 : decode m_Mo_init.2.1 263 = .ok (.aload_n 0, 1) := by decide +kernel
theorem d_Mo_init_264 : decode m_Mo_init.2.1 264 = .ok (.bipush 40, 2) := by decide +kernel
theorem d_Mo_init_266 : decode m_Mo_init.2.1 266 = .ok (.newarray .int, 2) := by decide +kernel
theorem d_Mo_init_268 : decode m_Mo_init.2.1 268 = .ok (.putfield 104, 3) := by decide +kernel
theorem d_Mo_init_271 : decode m_Mo_init.2.1 271 = .ok (.aload_n 0, 1) := by decide +kernel
theorem d_Mo_init_272 : decode m_Mo_init.2.1 272 = .ok (.bipush 40, 2) := by decide +kernel
theorem d_Mo_init_274 : decode m_Mo_init.2.1 274 = .ok (.newarray .int, 2) := by decide +kernel
theorem d_Mo_init_276 : decode m_Mo_init.2.1 276 = .ok (.putfield 107, 3) := by decide +kernel
theorem d_Mo_init_279 : decode m_Mo_init.2.1 279 = .ok (.aload_n 0, 1) := by decide +kernel
theorem d_Mo_init_280 : decode m_Mo_init.2.1 280 = .ok (.bipush 6, 2) := by decide +kernel
theorem d_Mo_init_282 : decode m_Mo_init.2.1 282 = .ok (.newarray .int, 2) := by decide +kernel
theorem d_Mo_init_284 : decode m_Mo_init.2.1 284 = .ok (.putfield 110, 3) := by decide +kernel
theorem d_Mo_init_287 : decode m_Mo_init.2.1 287 = .ok (.aload_n 0, 1) := by decide +kernel
theorem d_Mo_init_288 : decode m_Mo_init.2.1 288 = .ok (.bipush 64, 2) := by decide +kernel
theorem d_Mo_init_290 : decode m_Mo_init.2.1 290 = .ok (.newarray .int, 2) := by decide +kernel
theorem d_Mo_init_292 : decode m_Mo_init.2.1 292 = .ok (.putfield 113, 3) := by decide +kernel
theorem d_Mo_init_295 : decode m_Mo_init.2.1 295 = .ok (.aload_n 0, 1) := by decide +kernel
theorem d_Mo_init_296 : decode m_Mo_init.2.1 296 = .ok (.bipush 64, 2) := by decide +kernel
theorem d_Mo_init_298 : decode m_Mo_init.2.1 298 = .ok (.newarray .int, 2) := by decide +kernel
theorem d_Mo_init_300 : decode m_Mo_init.2.1 300 = .ok (.putfield 116, 3) := by decide +kernel
theorem d_Mo_init_303 : decode m_Mo_init.2.1 303 = .ok (.aload_n 0, 1) := by decide +kernel
theorem d_Mo_init_304 : decode m_Mo_init.2.1 304 = .ok (.bipush 64, 2) := by decide +kernel
theorem d_Mo_init_306 : decode m_Mo_init.2.1 306 = .ok (.newarray .int, 2) := by decide +kernel
theorem d_Mo_init_308 : decode m_Mo_init.2.1 308 = .ok (.putfield 119, 3) := by decide +kernel
theorem d_Mo_init_311 : decode m_Mo_init.2.1 311 = .ok (.aload_n 0, 1) := by decide +kernel
theorem d_Mo_init_312 : decode m_Mo_init.2.1 312 = .ok (.bipush 64, 2) := by decide +kernel
theorem d_Mo_init_314 : decode m_Mo_init.2.1 314 = .ok (.newarray .int, 2) := by decide +kernel
theorem d_Mo_init_316 : decode m_Mo_init.2.1 316 = .ok (.putfield 122, 3) := by decide +kernel
theorem d_Mo_init_319 : decode m_Mo_init.2.1 319 = .ok (.aload_n 0, 1) := by decide +kernel
theorem d_Mo_init_320 : decode m_Mo_init.2.1 320 = .ok (.bipush 64, 2) := by decide +kernel
theorem d_Mo_init_322 : decode m_Mo_init.2.1 322 = .ok (.newarray .int, 2) := by decide +kernel
theorem d_Mo_init_324 : decode m_Mo_init.2.1 324 = .ok (.putfield 125, 3) := by decide +kernel
theorem d_Mo_init_327 : decode m_Mo_init.2.1 327 = .ok (.aload_n 0, 1) := by decide +kernel
theorem d_Mo_init_328 : decode m_Mo_init.2.1 328 = .ok (.bipush 64, 2) := by decide +kernel
theorem d_Mo_init_330 : decode m_Mo_init.2.1 330 = .ok (.newarray .int, 2) := by decide +kernel
theorem d_Mo_init_332 : decode m_Mo_init.2.1 332 = .ok (.putfield 128, 3) := by decide +kernel
theorem d_Mo_init_335 : decode m_Mo_init.2.1 335 = .ok (.aload_n 0, 1) := by decide +kernel
theorem d_Mo_init_336 : decode m_Mo_init.2.1 336 = .ok (.bipush 64, 2) := by decide +kernel
theorem d_Mo_init_338 : decode m_Mo_init.2.1 338 = .ok (.newarray .int, 2) := by decide +kernel
theorem d_Mo_init_340 : decode m_Mo_init.2.1 340 = .ok (.putfield 131, 3) := by decide +kernel
theorem d_Mo_init_343 : decode m_Mo_init.2.1 343 = .ok (.aload_n 0, 1) := by decide +kernel
theorem d_Mo_init_344 : decode m_Mo_init.2.1 344 = .ok (.bipush 64, 2) := by decide +kernel
theorem d_Mo_init_346 : decode m_Mo_init.2.1 346 = .ok (.newarray .int, 2) := by decide +kernel
theorem d_Mo_init_348 : decode m_Mo_init.2.1 348 = .ok (.putfield 134, 3) := by decide +kernel
theorem d_Mo_init_351 : decode m_Mo_init.2.1 351 = .ok (.aload_n 0, 1) := by decide +kernel
theorem d_Mo_init_352 : decode m_Mo_init.2.1 352 = .ok (.bipush 64, 2) := by decide +kernel
theorem d_Mo_init_354 : decode m_Mo_init.2.1 354 = .ok (.newarray .int, 2) := by decide +kernel
theorem d_Mo_init_356 : decode m_Mo_init.2.1 356 = .ok (.putfield 137, 3) := by decide +kernel
theorem d_Mo_init_359 : decode m_Mo_init.2.1 359 = .ok (.return_, 1) := by decide +kernel
theorem d_Mo_thrown_0 : decode m_Mo_thrown.2.1 0 = .ok (.aload_n 0, 1) := by decide +kernel
theorem d_Mo_thrown_1 : decode m_Mo_thrown.2.1 1 = .ok (.getfield 140, 3) := by decide +kernel
theorem d_Mo_thrown_4 : decode m_Mo_thrown.2.1 4 = .ok (.ireturn, 1) := by decide +kernel
theorem d_Mo_sheet_0 : decode m_Mo_sheet.2.1 0 = .ok (.aload_n 0, 1) := by decide +kernel
theorem d_Mo_sheet_1 : decode m_Mo_sheet.2.1 1 = .ok (.iload_n 1, 1) := by decide +kernel
theorem d_Mo_sheet_2 : decode m_Mo_sheet.2.1 2 = .ok (.invokestatic 150, 3) := by decide +kernel
theorem d_Mo_sheet_5 : decode m_Mo_sheet.2.1 5 = .ok (.ifCond .eq 10, 3) := by decide +kernel
theorem d_Mo_sheet_8 : decode m_Mo_sheet.2.1 8 = .ok (.iload_n 2, 1) := by decide +kernel
theorem d_Mo_sheet_9 : decode m_Mo_sheet.2.1 9 = .ok (.invokestatic 150, 3) := by decide +kernel
theorem d_Mo_sheet_12 : decode m_Mo_sheet.2.1 12 = .ok (.ifCond .ne 7, 3) := by decide +kernel
theorem d_Mo_sheet_15 : decode m_Mo_sheet.2.1 15 = .ok (.iconst 1, 1) := by decide +kernel
theorem d_Mo_sheet_16 : decode m_Mo_sheet.2.1 16 = .ok (.goto 17, 3) := by decide +kernel
theorem d_Mo_sheet_19 : decode m_Mo_sheet.2.1 19 = .ok (.aload_n 0, 1) := by decide +kernel
theorem d_Mo_sheet_20 : decode m_Mo_sheet.2.1 20 = .ok (.invokevirtual 154, 3) := by decide +kernel
theorem d_Mo_sheet_23 : decode m_Mo_sheet.2.1 23 = .ok (.bipush 8, 2) := by decide +kernel
theorem d_Mo_sheet_25 : decode m_Mo_sheet.2.1 25 = .ok (.if_icmp .ne 7, 3) := by decide +kernel
theorem d_Mo_sheet_28 : decode m_Mo_sheet.2.1 28 = .ok (.iconst 2, 1) := by decide +kernel
theorem d_Mo_sheet_29 : decode m_Mo_sheet.2.1 29 = .ok (.goto 4, 3) := by decide +kernel
theorem d_Mo_sheet_32 : decode m_Mo_sheet.2.1 32 = .ok (.iconst 0, 1) := by decide +kernel
theorem d_Mo_sheet_33 : decode m_Mo_sheet.2.1 33 = .ok (.putfield 140, 3) := by decide +kernel
theorem d_Mo_sheet_36 : decode m_Mo_sheet.2.1 36 = .ok (.aload_n 0, 1) := by decide +kernel
theorem d_Mo_sheet_37 : decode m_Mo_sheet.2.1 37 = .ok (.getfield 140, 3) := by decide +kernel
theorem d_Mo_sheet_40 : decode m_Mo_sheet.2.1 40 = .ok (.ifCond .le 5, 3) := by decide +kernel
theorem d_Mo_sheet_43 : decode m_Mo_sheet.2.1 43 = .ok (.iconst 0, 1) := by decide +kernel
theorem d_Mo_sheet_44 : decode m_Mo_sheet.2.1 44 = .ok (.ireturn, 1) := by decide +kernel
theorem d_Mo_sheet_45 : decode m_Mo_sheet.2.1 45 = .ok (.aload_n 0, 1) := by decide +kernel
theorem d_Mo_sheet_46 : decode m_Mo_sheet.2.1 46 = .ok (.dup, 1) := by decide +kernel
theorem d_Mo_sheet_47 : decode m_Mo_sheet.2.1 47 = .ok (.getfield 158, 3) := by decide +kernel
theorem d_Mo_sheet_50 : decode m_Mo_sheet.2.1 50 = .ok (.iload_n 1, 1) := by decide +kernel
theorem d_Mo_sheet_51 : decode m_Mo_sheet.2.1 51 = .ok (.i2l, 1) := by decide +kernel
theorem d_Mo_sheet_52 : decode m_Mo_sheet.2.1 52 = .ok (.iload_n 2, 1) := by decide +kernel
theorem d_Mo_sheet_53 : decode m_Mo_sheet.2.1 53 = .ok (.i2l, 1) := by decide +kernel
theorem d_Mo_sheet_54 : decode m_Mo_sheet.2.1 54 = .ok (.lmul, 1) := by decide +kernel
theorem d_Mo_sheet_55 : decode m_Mo_sheet.2.1 55 = .ok (.ladd, 1) := by decide +kernel
theorem d_Mo_sheet_56 : decode m_Mo_sheet.2.1 56 = .ok (.putfield 158, 3) := by decide +kernel
theorem d_Mo_sheet_59 : decode m_Mo_sheet.2.1 59 = .ok (.aload_n 0, 1) := by decide +kernel
theorem d_Mo_sheet_60 : decode m_Mo_sheet.2.1 60 = .ok (.getfield 13, 3) := by decide +kernel
theorem d_Mo_sheet_63 : decode m_Mo_sheet.2.1 63 = .ok (.aload_n 0, 1) := by decide +kernel
theorem d_Mo_sheet_64 : decode m_Mo_sheet.2.1 64 = .ok (.iload_n 1, 1) := by decide +kernel
theorem d_Mo_sheet_65 : decode m_Mo_sheet.2.1 65 = .ok (.iload_n 2, 1) := by decide +kernel
theorem d_Mo_sheet_66 : decode m_Mo_sheet.2.1 66 = .ok (.invokevirtual 162, 3) := by decide +kernel
theorem d_Mo_sheet_69 : decode m_Mo_sheet.2.1 69 = .ok (.iaload, 1) := by decide +kernel
theorem d_Mo_sheet_70 : decode m_Mo_sheet.2.1 70 = .ok (.ireturn, 1) := by decide +kernel
theorem d_Mo_isLength_0 : decode m_Mo_isLength.2.1 0 = .ok (.iload_n 0, 1) := by decide +kernel
theorem d_Mo_isLength_1 : decode m_Mo_isLength.2.1 1 = .ok (.iconst 1, 1) := by decide +kernel
theorem d_Mo_isLength_2 : decode m_Mo_isLength.2.1 2 = .ok (.if_icmp .lt 14, 3) := by decide +kernel
theorem d_Mo_isLength_5 : decode m_Mo_isLength.2.1 5 = .ok (.iload_n 0, 1) := by decide +kernel
theorem d_Mo_isLength_6 : decode m_Mo_isLength.2.1 6 = .ok (.sipush 6000, 3) := by decide +kernel
theorem d_Mo_isLength_9 : decode m_Mo_isLength.2.1 9 = .ok (.if_icmp .gt 7, 3) := by decide +kernel
theorem d_Mo_isLength_12 : decode m_Mo_isLength.2.1 12 = .ok (.iconst 1, 1) := by decide +kernel
theorem d_Mo_isLength_13 : decode m_Mo_isLength.2.1 13 = .ok (.goto 4, 3) := by decide +kernel
theorem d_Mo_isLength_16 : decode m_Mo_isLength.2.1 16 = .ok (.iconst 0, 1) := by decide +kernel
theorem d_Mo_isLength_17 : decode m_Mo_isLength.2.1 17 = .ok (.ireturn, 1) := by decide +kernel
theorem d_Mo_sheets_0 : decode m_Mo_sheets.2.1 0 = .ok (.iconst 0, 1) := by decide +kernel
theorem d_Mo_sheets_1 : decode m_Mo_sheets.2.1 1 = .ok (.istore_n 1, 1) := by decide +kernel
theorem d_Mo_sheets_2 : decode m_Mo_sheets.2.1 2 = .ok (.iconst 0, 1) := by decide +kernel
theorem d_Mo_sheets_3 : decode m_Mo_sheets.2.1 3 = .ok (.istore_n 2, 1) := by decide +kernel
theorem d_Mo_sheets_4 : decode m_Mo_sheets.2.1 4 = .ok (.iload_n 2, 1) := by decide +kernel
theorem d_Mo_sheets_5 : decode m_Mo_sheets.2.1 5 = .ok (.bipush 8, 2) := by decide +kernel
theorem d_Mo_sheets_7 : decode m_Mo_sheets.2.1 7 = .ok (.if_icmp .ge 26, 3) := by decide +kernel
theorem d_Mo_sheets_10 : decode m_Mo_sheets.2.1 10 = .ok (.aload_n 0, 1) := by decide +kernel
theorem d_Mo_sheets_11 : decode m_Mo_sheets.2.1 11 = .ok (.getfield 7, 3) := by decide +kernel
theorem d_Mo_sheets_14 : decode m_Mo_sheets.2.1 14 = .ok (.iload_n 2, 1) := by decide +kernel
theorem d_Mo_sheets_15 : decode m_Mo_sheets.2.1 15 = .ok (.baload, 1) := by decide +kernel
theorem d_Mo_sheets_16 : decode m_Mo_sheets.2.1 16 = .ok (.ifCond .eq 9, 3) := by decide +kernel
theorem d_Mo_sheets_19 : decode m_Mo_sheets.2.1 19 = .ok (.iload_n 1, 1) := by decide +kernel
theorem d_Mo_sheets_20 : decode m_Mo_sheets.2.1 20 = .ok (.iconst 1, 1) := by decide +kernel
theorem d_Mo_sheets_21 : decode m_Mo_sheets.2.1 21 = .ok (.iadd, 1) := by decide +kernel
theorem d_Mo_sheets_22 : decode m_Mo_sheets.2.1 22 = .ok (.goto 4, 3) := by decide +kernel
theorem d_Mo_sheets_25 : decode m_Mo_sheets.2.1 25 = .ok (.iload_n 1, 1) := by decide +kernel
theorem d_Mo_sheets_26 : decode m_Mo_sheets.2.1 26 = .ok (.istore_n 1, 1) := by decide +kernel
theorem d_Mo_sheets_27 : decode m_Mo_sheets.2.1 27 = .ok (.iinc 2 1, 3) := by decide +kernel
theorem d_Mo_sheets_30 : decode m_Mo_sheets.2.1 30 = .ok (.goto (-26), 3) := by decide +kernel
theorem d_Mo_sheets_33 : decode m_Mo_sheets.2.1 33 = .ok (.iload_n 1, 1) := by decide +kernel
theorem d_Mo_sheets_34 : decode m_Mo_sheets.2.1 34 = .ok (.ireturn, 1) := by decide +kernel
theorem d_Mo_make_0 : decode m_Mo_make.2.1 0 = .ok (.iconst 0, 1) := by decide +kernel
theorem d_Mo_make_1 : decode m_Mo_make.2.1 1 = .ok (.istore_n 3, 1) := by decide +kernel
theorem d_Mo_make_2 : decode m_Mo_make.2.1 2 = .ok (.aload_n 0, 1) := by decide +kernel
theorem d_Mo_make_3 : decode m_Mo_make.2.1 3 = .ok (.getfield 7, 3) := by decide +kernel
theorem d_Mo_make_6 : decode m_Mo_make.2.1 6 = .ok (.iload_n 3, 1) := by decide +kernel
theorem d_Mo_make_7 : decode m_Mo_make.2.1 7 = .ok (.baload, 1) := by decide +kernel
theorem d_Mo_make_8 : decode m_Mo_make.2.1 8 = .ok (.ifCond .eq 9, 3) := by decide +kernel
theorem d_Mo_make_11 : decode m_Mo_make.2.1 11 = .ok (.iinc 3 1, 3) := by decide +kernel
theorem d_Mo_make_14 : decode m_Mo_make.2.1 14 = .ok (.goto (-12), 3) := by decide +kernel
theorem d_Mo_make_17 : decode m_Mo_make.2.1 17 = .ok (.aload_n 0, 1) := by decide +kernel
theorem d_Mo_make_18 : decode m_Mo_make.2.1 18 = .ok (.getfield 7, 3) := by decide +kernel
theorem d_Mo_make_21 : decode m_Mo_make.2.1 21 = .ok (.iload_n 3, 1) := by decide +kernel
theorem d_Mo_make_22 : decode m_Mo_make.2.1 22 = .ok (.iconst 1, 1) := by decide +kernel
theorem d_Mo_make_23 : decode m_Mo_make.2.1 23 = .ok (.bastore, 1) := by decide +kernel
theorem d_Mo_make_24 : decode m_Mo_make.2.1 24 = .ok (.aload_n 0, 1) := by decide +kernel
theorem d_Mo_make_25 : decode m_Mo_make.2.1 25 = .ok (.getfield 13, 3) := by decide +kernel
theorem d_Mo_make_28 : decode m_Mo_make.2.1 28 = .ok (.iload_n 3, 1) := by decide +kernel
theorem d_Mo_make_29 : decode m_Mo_make.2.1 29 = .ok (.aload_n 0, 1) := by decide +kernel
theorem d_Mo_make_30 : decode m_Mo_make.2.1 30 = .ok (.getfield 147, 3) := by decide +kernel
theorem d_Mo_make_33 : decode m_Mo_make.2.1 33 = .ok (.iastore, 1) := by decide +kernel
theorem d_Mo_make_34 : decode m_Mo_make.2.1 34 = .ok (.aload_n 0, 1) := by decide +kernel
theorem d_Mo_make_35 : decode m_Mo_make.2.1 35 = .ok (.getfield 17, 3) := by decide +kernel
theorem d_Mo_make_38 : decode m_Mo_make.2.1 38 = .ok (.iload_n 3, 1) := by decide +kernel
theorem d_Mo_make_39 : decode m_Mo_make.2.1 39 = .ok (.iload_n 1, 1) := by decide +kernel
theorem d_Mo_make_40 : decode m_Mo_make.2.1 40 = .ok (.iastore, 1) := by decide +kernel
theorem d_Mo_make_41 : decode m_Mo_make.2.1 41 = .ok (.aload_n 0, 1) := by decide +kernel
theorem d_Mo_make_42 : decode m_Mo_make.2.1 42 = .ok (.getfield 20, 3) := by decide +kernel
theorem d_Mo_make_45 : decode m_Mo_make.2.1 45 = .ok (.iload_n 3, 1) := by decide +kernel
theorem d_Mo_make_46 : decode m_Mo_make.2.1 46 = .ok (.iload_n 2, 1) := by decide +kernel
theorem d_Mo_make_47 : decode m_Mo_make.2.1 47 = .ok (.iastore, 1) := by decide +kernel
theorem d_Mo_make_48 : decode m_Mo_make.2.1 48 = .ok (.aload_n 0, 1) := by decide +kernel
theorem d_Mo_make_49 : decode m_Mo_make.2.1 49 = .ok (.getfield 23, 3) := by decide +kernel
theorem d_Mo_make_52 : decode m_Mo_make.2.1 52 = .ok (.iload_n 3, 1) := by decide +kernel
theorem d_Mo_make_53 : decode m_Mo_make.2.1 53 = .ok (.iconst 0, 1) := by decide +kernel
theorem d_Mo_make_54 : decode m_Mo_make.2.1 54 = .ok (.bastore, 1) := by decide +kernel
theorem d_Mo_make_55 : decode m_Mo_make.2.1 55 = .ok (.aload_n 0, 1) := by decide +kernel
theorem d_Mo_make_56 : decode m_Mo_make.2.1 56 = .ok (.getfield 26, 3) := by decide +kernel
theorem d_Mo_make_59 : decode m_Mo_make.2.1 59 = .ok (.iload_n 3, 1) := by decide +kernel
theorem d_Mo_make_60 : decode m_Mo_make.2.1 60 = .ok (.iconst 0, 1) := by decide +kernel
theorem d_Mo_make_61 : decode m_Mo_make.2.1 61 = .ok (.bastore, 1) := by decide +kernel
theorem d_Mo_make_62 : decode m_Mo_make.2.1 62 = .ok (.aload_n 0, 1) := by decide +kernel
theorem d_Mo_make_63 : decode m_Mo_make.2.1 63 = .ok (.getfield 29, 3) := by decide +kernel
theorem d_Mo_make_66 : decode m_Mo_make.2.1 66 = .ok (.iload_n 3, 1) := by decide +kernel
theorem d_Mo_make_67 : decode m_Mo_make.2.1 67 = .ok (.iconst 0, 1) := by decide +kernel
theorem d_Mo_make_68 : decode m_Mo_make.2.1 68 = .ok (.iastore, 1) := by decide +kernel
theorem d_Mo_make_69 : decode m_Mo_make.2.1 69 = .ok (.aload_n 0, 1) := by decide +kernel
theorem d_Mo_make_70 : decode m_Mo_make.2.1 70 = .ok (.dup, 1) := by decide +kernel
theorem d_Mo_make_71 : decode m_Mo_make.2.1 71 = .ok (.getfield 147, 3) := by decide +kernel
theorem d_Mo_make_74 : decode m_Mo_make.2.1 74 = .ok (.iconst 1, 1) := by decide +kernel
theorem d_Mo_make_75 : decode m_Mo_make.2.1 75 = .ok (.iadd, 1) := by decide +kernel
theorem d_Mo_make_76 : decode m_Mo_make.2.1 76 = .ok (.putfield 147, 3) := by decide +kernel
theorem d_Mo_make_79 : decode m_Mo_make.2.1 79 = .ok (.iload_n 3, 1) := by decide +kernel
theorem d_Mo_make_80 : decode m_Mo_make.2.1 80 = .ok (.ireturn, 1) := by decide +kernel
theorem d_Mo_flaw_0 : decode m_Mo_flaw.2.1 0 = .ok (.aload_n 0, 1) := by decide +kernel
theorem d_Mo_flaw_1 : decode m_Mo_flaw.2.1 1 = .ok (.iload_n 1, 1) := by decide +kernel
theorem d_Mo_flaw_2 : decode m_Mo_flaw.2.1 2 = .ok (.invokevirtual 166, 3) := by decide +kernel
theorem d_Mo_flaw_5 : decode m_Mo_flaw.2.1 5 = .ok (.istore 6, 2) := by decide +kernel
theorem d_Mo_flaw_7 : decode m_Mo_flaw.2.1 7 = .ok (.aload_n 0, 1) := by decide +kernel
theorem d_Mo_flaw_8 : decode m_Mo_flaw.2.1 8 = .ok (.iload 6, 2) := by decide +kernel
theorem d_Mo_flaw_10 : decode m_Mo_flaw.2.1 10 = .ok (.ifCond .ge 7, 3) := by decide +kernel
theorem d_Mo_flaw_13 : decode m_Mo_flaw.2.1 13 = .ok (.iconst 1, 1) := by decide +kernel
theorem d_Mo_flaw_14 : decode m_Mo_flaw.2.1 14 = .ok (.goto 4, 3) := by decide +kernel
theorem d_Mo_flaw_17 : decode m_Mo_flaw.2.1 17 = .ok (.iconst 0, 1) := by decide +kernel
theorem d_Mo_flaw_18 : decode m_Mo_flaw.2.1 18 = .ok (.putfield 140, 3) := by decide +kernel
theorem d_Mo_flaw_21 : decode m_Mo_flaw.2.1 21 = .ok (.aload_n 0, 1) := by decide +kernel
theorem d_Mo_flaw_22 : decode m_Mo_flaw.2.1 22 = .ok (.getfield 140, 3) := by decide +kernel
theorem d_Mo_flaw_25 : decode m_Mo_flaw.2.1 25 = .ok (.ifCond .le 5, 3) := by decide +kernel
theorem d_Mo_flaw_28 : decode m_Mo_flaw.2.1 28 = .ok (.iconst 0, 1) := by decide +kernel
theorem d_Mo_flaw_29 : decode m_Mo_flaw.2.1 29 = .ok (.ireturn, 1) := by decide +kernel
theorem d_Mo_flaw_30 : decode m_Mo_flaw.2.1 30 = .ok (.iload 4, 2) := by decide +kernel
theorem d_Mo_flaw_32 : decode m_Mo_flaw.2.1 32 = .ok (.iconst 1, 1) := by decide +kernel
theorem d_Mo_flaw_33 : decode m_Mo_flaw.2.1 33 = .ok (.if_icmp .lt 57, 3) := by decide +kernel
theorem d_Mo_flaw_36 : decode m_Mo_flaw.2.1 36 = .ok (.iload 5, 2) := by decide +kernel
theorem d_Mo_flaw_38 : decode m_Mo_flaw.2.1 38 = .ok (.iconst 1, 1) := by decide +kernel
theorem d_Mo_flaw_39 : decode m_Mo_flaw.2.1 39 = .ok (.if_icmp .lt 51, 3) := by decide +kernel
theorem d_Mo_flaw_42 : decode m_Mo_flaw.2.1 42 = .ok (.iload_n 2, 1) := by decide +kernel
theorem d_Mo_flaw_43 : decode m_Mo_flaw.2.1 43 = .ok (.ifCond .lt 47, 3) := by decide +kernel
theorem d_Mo_flaw_46 : decode m_Mo_flaw.2.1 46 = .ok (.iload_n 3, 1) := by decide +kernel
theorem d_Mo_flaw_47 : decode m_Mo_flaw.2.1 47 = .ok (.ifCond .lt 43, 3) := by decide +kernel
theorem d_Mo_flaw_50 : decode m_Mo_flaw.2.1 50 = .ok (.iload_n 2, 1) := by decide +kernel
theorem d_Mo_flaw_51 : decode m_Mo_flaw.2.1 51 = .ok (.i2l, 1) := by decide +kernel
theorem d_Mo_flaw_52 : decode m_Mo_flaw.2.1 52 = .ok (.iload 4, 2) := by decide +kernel
theorem d_Mo_flaw_54 : decode m_Mo_flaw.2.1 54 = .ok (.i2l, 1) := by decide +kernel
theorem d_Mo_flaw_55 : decode m_Mo_flaw.2.1 55 = .ok (.ladd, 1) := by decide +kernel
theorem d_Mo_flaw_56 : decode m_Mo_flaw.2.1 56 = .ok (.aload_n 0, 1) := by decide +kernel
theorem d_Mo_flaw_57 : decode m_Mo_flaw.2.1 57 = .ok (.getfield 17, 3) := by decide +kernel
theorem d_Mo_flaw_60 : decode m_Mo_flaw.2.1 60 = .ok (.iload 6, 2) := by decide +kernel
theorem d_Mo_flaw_62 : decode m_Mo_flaw.2.1 62 = .ok (.iaload, 1) := by decide +kernel
theorem d_Mo_flaw_63 : decode m_Mo_flaw.2.1 63 = .ok (.i2l, 1) := by decide +kernel
theorem d_Mo_flaw_64 : decode m_Mo_flaw.2.1 64 = .ok (.lcmp, 1) := by decide +kernel
theorem d_Mo_flaw_65 : decode m_Mo_flaw.2.1 65 = .ok (.ifCond .gt 25, 3) := by decide +kernel
theorem d_Mo_flaw_68 : decode m_Mo_flaw.2.1 68 = .ok (.iload_n 3, 1) := by decide +kernel
theorem d_Mo_flaw_69 : decode m_Mo_flaw.2.1 69 = .ok (.i2l, 1) := by decide +kernel
theorem d_Mo_flaw_70 : decode m_Mo_flaw.2.1 70 = .ok (.iload 5, 2) := by decide +kernel
theorem d_Mo_flaw_72 : decode m_Mo_flaw.2.1 72 = .ok (.i2l, 1) := by decide +kernel
theorem d_Mo_flaw_73 : decode m_Mo_flaw.2.1 73 = .ok (.ladd, 1) := by decide +kernel
theorem d_Mo_flaw_74 : decode m_Mo_flaw.2.1 74 = .ok (.aload_n 0, 1) := by decide +kernel
theorem d_Mo_flaw_75 : decode m_Mo_flaw.2.1 75 = .ok (.getfield 20, 3) := by decide +kernel
theorem d_Mo_flaw_78 : decode m_Mo_flaw.2.1 78 = .ok (.iload 6, 2) := by decide +kernel
theorem d_Mo_flaw_80 : decode m_Mo_flaw.2.1 80 = .ok (.iaload, 1) := by decide +kernel
theorem d_Mo_flaw_81 : decode m_Mo_flaw.2.1 81 = .ok (.i2l, 1) := by decide +kernel
theorem d_Mo_flaw_82 : decode m_Mo_flaw.2.1 82 = .ok (.lcmp, 1) := by decide +kernel
theorem d_Mo_flaw_83 : decode m_Mo_flaw.2.1 83 = .ok (.ifCond .gt 7, 3) := by decide +kernel
theorem d_Mo_flaw_86 : decode m_Mo_flaw.2.1 86 = .ok (.iconst 1, 1) := by decide +kernel
theorem d_Mo_flaw_87 : decode m_Mo_flaw.2.1 87 = .ok (.goto 4, 3) := by decide +kernel
theorem d_Mo_flaw_90 : decode m_Mo_flaw.2.1 90 = .ok (.iconst 0, 1) := by decide +kernel
theorem d_Mo_flaw_91 : decode m_Mo_flaw.2.1 91 = .ok (.istore 7, 2) := by decide +kernel
theorem d_Mo_flaw_93 : decode m_Mo_flaw.2.1 93 = .ok (.aload_n 0, 1) := by decide +kernel
theorem d_Mo_flaw_94 : decode m_Mo_flaw.2.1 94 = .ok (.iload 7, 2) := by decide +kernel
theorem d_Mo_flaw_96 : decode m_Mo_flaw.2.1 96 = .ok (.ifCond .ne 7, 3) := by decide +kernel
theorem d_Mo_flaw_99 : decode m_Mo_flaw.2.1 99 = .ok (.iconst 2, 1) := by decide +kernel
theorem d_Mo_flaw_100 : decode m_Mo_flaw.2.1 100 = .ok (.goto 30, 3) := by decide +kernel
theorem d_Mo_flaw_103 : decode m_Mo_flaw.2.1 103 = .ok (.aload_n 0, 1) := by decide +kernel
theorem d_Mo_flaw_104 : decode m_Mo_flaw.2.1 104 = .ok (.getfield 23, 3) := by decide +kernel
theorem d_Mo_flaw_107 : decode m_Mo_flaw.2.1 107 = .ok (.iload 6, 2) := by decide +kernel
theorem d_Mo_flaw_109 : decode m_Mo_flaw.2.1 109 = .ok (.baload, 1) := by decide +kernel
theorem d_Mo_flaw_110 : decode m_Mo_flaw.2.1 110 = .ok (.ifCond .ne 15, 3) := by decide +kernel
theorem d_Mo_flaw_113 : decode m_Mo_flaw.2.1 113 = .ok (.aload_n 0, 1) := by decide +kernel
theorem d_Mo_flaw_114 : decode m_Mo_flaw.2.1 114 = .ok (.getfield 29, 3) := by decide +kernel
theorem d_Mo_flaw_117 : decode m_Mo_flaw.2.1 117 = .ok (.iload 6, 2) := by decide +kernel
theorem d_Mo_flaw_119 : decode m_Mo_flaw.2.1 119 = .ok (.iaload, 1) := by decide +kernel
theorem d_Mo_flaw_120 : decode m_Mo_flaw.2.1 120 = .ok (.bipush 6, 2) := by decide +kernel
theorem d_Mo_flaw_122 : decode m_Mo_flaw.2.1 122 = .ok (.if_icmp .ne 7, 3) := by decide +kernel
theorem d_Mo_flaw_125 : decode m_Mo_flaw.2.1 125 = .ok (.iconst 3, 1) := by decide +kernel
theorem d_Mo_flaw_126 : decode m_Mo_flaw.2.1 126 = .ok (.goto 4, 3) := by decide +kernel
theorem d_Mo_flaw_129 : decode m_Mo_flaw.2.1 129 = .ok (.iconst 0, 1) := by decide +kernel
theorem d_Mo_flaw_130 : decode m_Mo_flaw.2.1 130 = .ok (.putfield 140, 3) := by decide +kernel
theorem d_Mo_flaw_133 : decode m_Mo_flaw.2.1 133 = .ok (.aload_n 0, 1) := by decide +kernel
theorem d_Mo_flaw_134 : decode m_Mo_flaw.2.1 134 = .ok (.getfield 140, 3) := by decide +kernel
theorem d_Mo_flaw_137 : decode m_Mo_flaw.2.1 137 = .ok (.ifCond .le 5, 3) := by decide +kernel
theorem d_Mo_flaw_140 : decode m_Mo_flaw.2.1 140 = .ok (.iconst 0, 1) := by decide +kernel
theorem d_Mo_flaw_141 : decode m_Mo_flaw.2.1 141 = .ok (.ireturn, 1) := by decide +kernel
theorem d_Mo_flaw_142 : decode m_Mo_flaw.2.1 142 = .ok (.aload_n 0, 1) := by decide +kernel
theorem d_Mo_flaw_143 : decode m_Mo_flaw.2.1 143 = .ok (.iload 6, 2) := by decide +kernel
theorem d_Mo_flaw_145 : decode m_Mo_flaw.2.1 145 = .ok (.iload_n 2, 1) := by decide +kernel
theorem d_Mo_flaw_146 : decode m_Mo_flaw.2.1 146 = .ok (.iload_n 3, 1) := by decide +kernel
theorem d_Mo_flaw_147 : decode m_Mo_flaw.2.1 147 = .ok (.iload 4, 2) := by decide +kernel
theorem d_Mo_flaw_149 : decode m_Mo_flaw.2.1 149 = .ok (.iload 5, 2) := by decide +kernel
theorem d_Mo_flaw_151 : decode m_Mo_flaw.2.1 151 = .ok (.invokevirtual 170, 3) := by decide +kernel
theorem d_Mo_flaw_154 : decode m_Mo_flaw.2.1 154 = .ok (.aload_n 0, 1) := by decide +kernel
theorem d_Mo_flaw_155 : decode m_Mo_flaw.2.1 155 = .ok (.getfield 29, 3) := by decide +kernel
theorem d_Mo_flaw_158 : decode m_Mo_flaw.2.1 158 = .ok (.iload 6, 2) := by decide +kernel
theorem d_Mo_flaw_160 : decode m_Mo_flaw.2.1 160 = .ok (.iaload, 1) := by decide +kernel
theorem d_Mo_flaw_161 : decode m_Mo_flaw.2.1 161 = .ok (.ireturn, 1) := by decide +kernel
theorem d_Mo_find_0 : decode m_Mo_find.2.1 0 = .ok (.iconst (-1), 1) := by decide +kernel
theorem d_Mo_find_1 : decode m_Mo_find.2.1 1 = .ok (.istore_n 2, 1) := by decide +kernel
theorem d_Mo_find_2 : decode m_Mo_find.2.1 2 = .ok (.iconst 0, 1) := by decide +kernel
theorem d_Mo_find_3 : decode m_Mo_find.2.1 3 = .ok (.istore_n 3, 1) := by decide +kernel
theorem d_Mo_find_4 : decode m_Mo_find.2.1 4 = .ok (.iload_n 3, 1) := by decide +kernel
theorem d_Mo_find_5 : decode m_Mo_find.2.1 5 = .ok (.bipush 8, 2) := by decide +kernel
theorem d_Mo_find_7 : decode m_Mo_find.2.1 7 = .ok (.if_icmp .ge 34, 3) := by decide +kernel
theorem d_Mo_find_10 : decode m_Mo_find.2.1 10 = .ok (.aload_n 0, 1) := by decide +kernel
theorem d_Mo_find_11 : decode m_Mo_find.2.1 11 = .ok (.getfield 7, 3) := by decide +kernel
theorem d_Mo_find_14 : decode m_Mo_find.2.1 14 = .ok (.iload_n 3, 1) := by decide +kernel
theorem d_Mo_find_15 : decode m_Mo_find.2.1 15 = .ok (.baload, 1) := by decide +kernel
theorem d_Mo_find_16 : decode m_Mo_find.2.1 16 = .ok (.ifCond .eq 17, 3) := by decide +kernel
theorem d_Mo_find_19 : decode m_Mo_find.2.1 19 = .ok (.aload_n 0, 1) := by decide +kernel
theorem d_Mo_find_20 : decode m_Mo_find.2.1 20 = .ok (.getfield 13, 3) := by decide +kernel
theorem d_Mo_find_23 : decode m_Mo_find.2.1 23 = .ok (.iload_n 3, 1) := by decide +kernel
theorem d_Mo_find_24 : decode m_Mo_find.2.1 24 = .ok (.iaload, 1) := by decide +kernel
theorem d_Mo_find_25 : decode m_Mo_find.2.1 25 = .ok (.iload_n 1, 1) := by decide +kernel
theorem d_Mo_find_26 : decode m_Mo_find.2.1 26 = .ok (.if_icmp .ne 7, 3) := by decide +kernel
theorem d_Mo_find_29 : decode m_Mo_find.2.1 29 = .ok (.iload_n 3, 1) := by decide +kernel
theorem d_Mo_find_30 : decode m_Mo_find.2.1 30 = .ok (.goto 4, 3) := by decide +kernel
theorem d_Mo_find_33 : decode m_Mo_find.2.1 33 = .ok (.iload_n 2, 1) := by decide +kernel
theorem d_Mo_find_34 : decode m_Mo_find.2.1 34 = .ok (.istore_n 2, 1) := by decide +kernel
theorem d_Mo_find_35 : decode m_Mo_find.2.1 35 = .ok (.iinc 3 1, 3) := by decide +kernel
theorem d_Mo_find_38 : decode m_Mo_find.2.1 38 = .ok (.goto (-34), 3) := by decide +kernel
theorem d_Mo_find_41 : decode m_Mo_find.2.1 41 = .ok (.iload_n 2, 1) := by decide +kernel
theorem d_Mo_find_42 : decode m_Mo_find.2.1 42 = .ok (.ireturn, 1) := by decide +kernel
theorem d_Mo_putFlaw_0 : decode m_Mo_putFlaw.2.1 0 = .ok (.bipush 24, 2) := by decide +kernel
theorem d_Mo_putFlaw_2 : decode m_Mo_putFlaw.2.1 2 = .ok (.iload_n 1, 1) := by decide +kernel
theorem d_Mo_putFlaw_3 : decode m_Mo_putFlaw.2.1 3 = .ok (.imul, 1) := by decide +kernel
theorem d_Mo_putFlaw_4 : decode m_Mo_putFlaw.2.1 4 = .ok (.iconst 4, 1) := by decide +kernel
theorem d_Mo_putFlaw_5 : decode m_Mo_putFlaw.2.1 5 = .ok (.aload_n 0, 1) := by decide +kernel
theorem d_Mo_putFlaw_6 : decode m_Mo_putFlaw.2.1 6 = .ok (.getfield 29, 3) := by decide +kernel
theorem d_Mo_putFlaw_9 : decode m_Mo_putFlaw.2.1 9 = .ok (.iload_n 1, 1) := by decide +kernel
theorem d_Mo_putFlaw_10 : decode m_Mo_putFlaw.2.1 10 = .ok (.iaload, 1) := by decide +kernel
theorem d_Mo_putFlaw_11 : decode m_Mo_putFlaw.2.1 11 = .ok (.imul, 1) := by decide +kernel
theorem d_Mo_putFlaw_12 : decode m_Mo_putFlaw.2.1 12 = .ok (.iadd, 1) := by decide +kernel
theorem d_Mo_putFlaw_13 : decode m_Mo_putFlaw.2.1 13 = .ok (.istore 6, 2) := by decide +kernel
theorem d_Mo_putFlaw_15 : decode m_Mo_putFlaw.2.1 15 = .ok (.aload_n 0, 1) := by decide +kernel
theorem d_Mo_putFlaw_16 : decode m_Mo_putFlaw.2.1 16 = .ok (.getfield 32, 3) := by decide +kernel
theorem d_Mo_putFlaw_19 : decode m_Mo_putFlaw.2.1 19 = .ok (.iload 6, 2) := by decide +kernel
theorem d_Mo_putFlaw_21 : decode m_Mo_putFlaw.2.1 21 = .ok (.iload_n 2, 1) := by decide +kernel
theorem d_Mo_putFlaw_22 : decode m_Mo_putFlaw.2.1 22 = .ok (.iastore, 1) := by decide +kernel
theorem d_Mo_putFlaw_23 : decode m_Mo_putFlaw.2.1 23 = .ok (.aload_n 0, 1) := by decide +kernel
theorem d_Mo_putFlaw_24 : decode m_Mo_putFlaw.2.1 24 = .ok (.getfield 32, 3) := by decide +kernel
theorem d_Mo_putFlaw_27 : decode m_Mo_putFlaw.2.1 27 = .ok (.iload 6, 2) := by decide +kernel
theorem d_Mo_putFlaw_29 : decode m_Mo_putFlaw.2.1 29 = .ok (.iconst 1, 1) := by decide +kernel
theorem d_Mo_putFlaw_30 : decode m_Mo_putFlaw.2.1 30 = .ok (.iadd, 1) := by decide +kernel
theorem d_Mo_putFlaw_31 : decode m_Mo_putFlaw.2.1 31 = .ok (.iload_n 3, 1) := by decide +kernel
theorem d_Mo_putFlaw_32 : decode m_Mo_putFlaw.2.1 32 = .ok (.iastore, 1) := by decide +kernel
theorem d_Mo_putFlaw_33 : decode m_Mo_putFlaw.2.1 33 = .ok (.aload_n 0, 1) := by decide +kernel
theorem d_Mo_putFlaw_34 : decode m_Mo_putFlaw.2.1 34 = .ok (.getfield 32, 3) := by decide +kernel
theorem d_Mo_putFlaw_37 : decode m_Mo_putFlaw.2.1 37 = .ok (.iload 6, 2) := by decide +kernel
theorem d_Mo_putFlaw_39 : decode m_Mo_putFlaw.2.1 39 = .ok (.iconst 2, 1) := by decide +kernel
theorem d_Mo_putFlaw_40 : decode m_Mo_putFlaw.2.1 40 = .ok (.iadd, 1) := by decide +kernel
theorem d_Mo_putFlaw_41 : decode m_Mo_putFlaw.2.1 41 = .ok (.iload 4, 2) := by decide +kernel
theorem d_Mo_putFlaw_43 : decode m_Mo_putFlaw.2.1 43 = .ok (.iastore, 1) := by decide +kernel
theorem d_Mo_putFlaw_44 : decode m_Mo_putFlaw.2.1 44 = .ok (.aload_n 0, 1) := by decide +kernel
theorem d_Mo_putFlaw_45 : decode m_Mo_putFlaw.2.1 45 = .ok (.getfield 32, 3) := by decide +kernel
theorem d_Mo_putFlaw_48 : decode m_Mo_putFlaw.2.1 48 = .ok (.iload 6, 2) := by decide +kernel
theorem d_Mo_putFlaw_50 : decode m_Mo_putFlaw.2.1 50 = .ok (.iconst 3, 1) := by decide +kernel
theorem d_Mo_putFlaw_51 : decode m_Mo_putFlaw.2.1 51 = .ok (.iadd, 1) := by decide +kernel
theorem d_Mo_putFlaw_52 : decode m_Mo_putFlaw.2.1 52 = .ok (.iload 5, 2) := by decide +kernel
theorem d_Mo_putFlaw_54 : decode m_Mo_putFlaw.2.1 54 = .ok (.iastore, 1) := by decide +kernel
theorem d_Mo_putFlaw_55 : decode m_Mo_putFlaw.2.1 55 = .ok (.aload_n 0, 1) := by decide +kernel
theorem d_Mo_putFlaw_56 : decode m_Mo_putFlaw.2.1 56 = .ok (.getfield 29, 3) := by decide +kernel
theorem d_Mo_putFlaw_59 : decode m_Mo_putFlaw.2.1 59 = .ok (.iload_n 1, 1) := by decide +kernel
theorem d_Mo_putFlaw_60 : decode m_Mo_putFlaw.2.1 60 = .ok (.dup2, 1) := by decide +kernel
theorem d_Mo_putFlaw_61 : decode m_Mo_putFlaw.2.1 61 = .ok (.iaload, 1) := by decide +kernel
theorem d_Mo_putFlaw_62 : decode m_Mo_putFlaw.2.1 62 = .ok (.iconst 1, 1) := by decide +kernel
theorem d_Mo_putFlaw_63 : decode m_Mo_putFlaw.2.1 63 = .ok (.iadd, 1) := by decide +kernel
theorem d_Mo_putFlaw_64 : decode m_Mo_putFlaw.2.1 64 = .ok (.iastore, 1) := by decide +kernel
theorem d_Mo_putFlaw_65 : decode m_Mo_putFlaw.2.1 65 = .ok (.return_, 1) := by decide +kernel
theorem d_Mo_order_0 : decode m_Mo_order.2.1 0 = .ok (.iload_n 1, 1) := by decide +kernel
theorem d_Mo_order_1 : decode m_Mo_order.2.1 1 = .ok (.invokestatic 150, 3) := by decide +kernel
theorem d_Mo_order_4 : decode m_Mo_order.2.1 4 = .ok (.ifCond .eq 27, 3) := by decide +kernel
theorem d_Mo_order_7 : decode m_Mo_order.2.1 7 = .ok (.iload_n 2, 1) := by decide +kernel
theorem d_Mo_order_8 : decode m_Mo_order.2.1 8 = .ok (.invokestatic 150, 3) := by decide +kernel
theorem d_Mo_order_11 : decode m_Mo_order.2.1 11 = .ok (.ifCond .eq 20, 3) := by decide +kernel
theorem d_Mo_order_14 : decode m_Mo_order.2.1 14 = .ok (.iload 4, 2) := by decide +kernel
theorem d_Mo_order_16 : decode m_Mo_order.2.1 16 = .ok (.iconst 1, 1) := by decide +kernel
theorem d_Mo_order_17 : decode m_Mo_order.2.1 17 = .ok (.if_icmp .lt 14, 3) := by decide +kernel
theorem d_Mo_order_20 : decode m_Mo_order.2.1 20 = .ok (.iload 4, 2) := by decide +kernel
theorem d_Mo_order_22 : decode m_Mo_order.2.1 22 = .ok (.bipush 6, 2) := by decide +kernel
theorem d_Mo_order_24 : decode m_Mo_order.2.1 24 = .ok (.if_icmp .gt 7, 3) := by decide +kernel
theorem d_Mo_order_27 : decode m_Mo_order.2.1 27 = .ok (.iconst 1, 1) := by decide +kernel
theorem d_Mo_order_28 : decode m_Mo_order.2.1 28 = .ok (.goto 4, 3) := by decide +kernel
theorem d_Mo_order_31 : decode m_Mo_order.2.1 31 = .ok (.iconst 0, 1) := by decide +kernel
theorem d_Mo_order_32 : decode m_Mo_order.2.1 32 = .ok (.istore 5, 2) := by decide +kernel
theorem d_Mo_order_34 : decode m_Mo_order.2.1 34 = .ok (.aload_n 0, 1) := by decide +kernel
theorem d_Mo_order_35 : decode m_Mo_order.2.1 35 = .ok (.iload 5, 2) := by decide +kernel
theorem d_Mo_order_37 : decode m_Mo_order.2.1 37 = .ok (.ifCond .ne 7, 3) := by decide +kernel
theorem d_Mo_order_40 : decode m_Mo_order.2.1 40 = .ok (.iconst 1, 1) := by decide +kernel
theorem d_Mo_order_41 : decode m_Mo_order.2.1 41 = .ok (.goto 17, 3) := by decide +kernel
theorem d_Mo_order_44 : decode m_Mo_order.2.1 44 = .ok (.aload_n 0, 1) := by decide +kernel
theorem d_Mo_order_45 : decode m_Mo_order.2.1 45 = .ok (.getfield 144, 3) := by decide +kernel
theorem d_Mo_order_48 : decode m_Mo_order.2.1 48 = .ok (.bipush 6, 2) := by decide +kernel
theorem d_Mo_order_50 : decode m_Mo_order.2.1 50 = .ok (.if_icmp .ne 7, 3) := by decide +kernel
theorem d_Mo_order_53 : decode m_Mo_order.2.1 53 = .ok (.iconst 2, 1) := by decide +kernel
theorem d_Mo_order_54 : decode m_Mo_order.2.1 54 = .ok (.goto 4, 3) := by decide +kernel
theorem d_Mo_order_57 : decode m_Mo_order.2.1 57 = .ok (.iconst 0, 1) := by decide +kernel
theorem d_Mo_order_58 : decode m_Mo_order.2.1 58 = .ok (.putfield 140, 3) := by decide +kernel
theorem d_Mo_order_61 : decode m_Mo_order.2.1 61 = .ok (.aload_n 0, 1) := by decide +kernel
theorem d_Mo_order_62 : decode m_Mo_order.2.1 62 = .ok (.getfield 140, 3) := by decide +kernel
theorem d_Mo_order_65 : decode m_Mo_order.2.1 65 = .ok (.ifCond .le 5, 3) := by decide +kernel
theorem d_Mo_order_68 : decode m_Mo_order.2.1 68 = .ok (.iconst 0, 1) := by decide +kernel
theorem d_Mo_order_69 : decode m_Mo_order.2.1 69 = .ok (.ireturn, 1) := by decide +kernel
theorem d_Mo_order_70 : decode m_Mo_order.2.1 70 = .ok (.aload_n 0, 1) := by decide +kernel
theorem d_Mo_order_71 : decode m_Mo_order.2.1 71 = .ok (.getfield 65, 3) := by decide +kernel
theorem d_Mo_order_74 : decode m_Mo_order.2.1 74 = .ok (.aload_n 0, 1) := by decide +kernel
theorem d_Mo_order_75 : decode m_Mo_order.2.1 75 = .ok (.getfield 144, 3) := by decide +kernel
theorem d_Mo_order_78 : decode m_Mo_order.2.1 78 = .ok (.iload_n 1, 1) := by decide +kernel
theorem d_Mo_order_79 : decode m_Mo_order.2.1 79 = .ok (.iastore, 1) := by decide +kernel
theorem d_Mo_order_80 : decode m_Mo_order.2.1 80 = .ok (.aload_n 0, 1) := by decide +kernel
theorem d_Mo_order_81 : decode m_Mo_order.2.1 81 = .ok (.getfield 68, 3) := by decide +kernel
theorem d_Mo_order_84 : decode m_Mo_order.2.1 84 = .ok (.aload_n 0, 1) := by decide +kernel
theorem d_Mo_order_85 : decode m_Mo_order.2.1 85 = .ok (.getfield 144, 3) := by decide +kernel
theorem d_Mo_order_88 : decode m_Mo_order.2.1 88 = .ok (.iload_n 2, 1) := by decide +kernel
theorem d_Mo_order_89 : decode m_Mo_order.2.1 89 = .ok (.iastore, 1) := by decide +kernel
theorem d_Mo_order_90 : decode m_Mo_order.2.1 90 = .ok (.aload_n 0, 1) := by decide +kernel
theorem d_Mo_order_91 : decode m_Mo_order.2.1 91 = .ok (.getfield 71, 3) := by decide +kernel
theorem d_Mo_order_94 : decode m_Mo_order.2.1 94 = .ok (.aload_n 0, 1) := by decide +kernel
theorem d_Mo_order_95 : decode m_Mo_order.2.1 95 = .ok (.getfield 144, 3) := by decide +kernel
theorem d_Mo_order_98 : decode m_Mo_order.2.1 98 = .ok (.iload_n 3, 1) := by decide +kernel
theorem d_Mo_order_99 : decode m_Mo_order.2.1 99 = .ok (.bastore, 1) := by decide +kernel
theorem d_Mo_order_100 : decode m_Mo_order.2.1 100 = .ok (.aload_n 0, 1) := by decide +kernel
theorem d_Mo_order_101 : decode m_Mo_order.2.1 101 = .ok (.getfield 74, 3) := by decide +kernel
theorem d_Mo_order_104 : decode m_Mo_order.2.1 104 = .ok (.aload_n 0, 1) := by decide +kernel
theorem d_Mo_order_105 : decode m_Mo_order.2.1 105 = .ok (.getfield 144, 3) := by decide +kernel
theorem d_Mo_order_108 : decode m_Mo_order.2.1 108 = .ok (.iload 4, 2) := by decide +kernel
theorem d_Mo_order_110 : decode m_Mo_order.2.1 110 = .ok (.iastore, 1) := by decide +kernel
theorem d_Mo_order_111 : decode m_Mo_order.2.1 111 = .ok (.aload_n 0, 1) := by decide +kernel
theorem d_Mo_order_112 : decode m_Mo_order.2.1 112 = .ok (.dup, 1) := by decide +kernel
theorem d_Mo_order_113 : decode m_Mo_order.2.1 113 = .ok (.getfield 144, 3) := by decide +kernel
theorem d_Mo_order_116 : decode m_Mo_order.2.1 116 = .ok (.iconst 1, 1) := by decide +kernel
theorem d_Mo_order_117 : decode m_Mo_order.2.1 117 = .ok (.iadd, 1) := by decide +kernel
theorem d_Mo_order_118 : decode m_Mo_order.2.1 118 = .ok (.putfield 144, 3) := by decide +kernel
theorem d_Mo_order_121 : decode m_Mo_order.2.1 121 = .ok (.aload_n 0, 1) := by decide +kernel
theorem d_Mo_order_122 : decode m_Mo_order.2.1 122 = .ok (.getfield 144, 3) := by decide +kernel
theorem d_Mo_order_125 : decode m_Mo_order.2.1 125 = .ok (.iconst 1, 1) := by decide +kernel
theorem d_Mo_order_126 : decode m_Mo_order.2.1 126 = .ok (.isub, 1) := by decide +kernel
