theorem d_Mo_reach_48 : decode m_Mo_reach.2.1 48 = .ok (.ifCond .ge 7, 3) := by decide +kernel
theorem d_Mo_reach_51 : decode m_Mo_reach.2.1 51 = .ok (.iconst 0, 1) := by decide +kernel
theorem d_Mo_reach_52 : decode m_Mo_reach.2.1 52 = .ok (.goto 25, 3) := by decide +kernel
theorem d_Mo_reach_55 : decode m_Mo_reach.2.1 55 = .ok (.iload_n 1, 1) := by decide +kernel
theorem d_Mo_reach_56 : decode m_Mo_reach.2.1 56 = .ok (.iconst 2, 1) := by decide +kernel
theorem d_Mo_reach_57 : decode m_Mo_reach.2.1 57 = .ok (.if_icmp .ne 13, 3) := by decide +kernel
theorem d_Mo_reach_60 : decode m_Mo_reach.2.1 60 = .ok (.aload_n 0, 1) := by decide +kernel
theorem d_Mo_reach_61 : decode m_Mo_reach.2.1 61 = .ok (.getfield 98, 3) := by decide +kernel
theorem d_Mo_reach_64 : decode m_Mo_reach.2.1 64 = .ok (.iload 5, 2) := by decide +kernel
theorem d_Mo_reach_66 : decode m_Mo_reach.2.1 66 = .ok (.iaload, 1) := by decide +kernel
theorem d_Mo_reach_67 : decode m_Mo_reach.2.1 67 = .ok (.goto 10, 3) := by decide +kernel
theorem d_Mo_reach_70 : decode m_Mo_reach.2.1 70 = .ok (.aload_n 0, 1) := by decide +kernel
theorem d_Mo_reach_71 : decode m_Mo_reach.2.1 71 = .ok (.getfield 101, 3) := by decide +kernel
theorem d_Mo_reach_74 : decode m_Mo_reach.2.1 74 = .ok (.iload 5, 2) := by decide +kernel
theorem d_Mo_reach_76 : decode m_Mo_reach.2.1 76 = .ok (.iaload, 1) := by decide +kernel
theorem d_Mo_reach_77 : decode m_Mo_reach.2.1 77 = .ok (.ireturn, 1) := by decide +kernel
theorem d_Mo_paneAt_0 : decode m_Mo_paneAt.2.1 0 = .ok (.iconst 0, 1) := by decide +kernel
theorem d_Mo_paneAt_1 : decode m_Mo_paneAt.2.1 1 = .ok (.istore 4, 2) := by decide +kernel
theorem d_Mo_paneAt_3 : decode m_Mo_paneAt.2.1 3 = .ok (.iconst 0, 1) := by decide +kernel
theorem d_Mo_paneAt_4 : decode m_Mo_paneAt.2.1 4 = .ok (.istore 5, 2) := by decide +kernel
theorem d_Mo_paneAt_6 : decode m_Mo_paneAt.2.1 6 = .ok (.iload 5, 2) := by decide +kernel
theorem d_Mo_paneAt_8 : decode m_Mo_paneAt.2.1 8 = .ok (.aload_n 0, 1) := by decide +kernel
theorem d_Mo_paneAt_9 : decode m_Mo_paneAt.2.1 9 = .ok (.getfield 174, 3) := by decide +kernel
theorem d_Mo_paneAt_12 : decode m_Mo_paneAt.2.1 12 = .ok (.if_icmp .ge 43, 3) := by decide +kernel
theorem d_Mo_paneAt_15 : decode m_Mo_paneAt.2.1 15 = .ok (.aload_n 0, 1) := by decide +kernel
theorem d_Mo_paneAt_16 : decode m_Mo_paneAt.2.1 16 = .ok (.getfield 104, 3) := by decide +kernel
theorem d_Mo_paneAt_19 : decode m_Mo_paneAt.2.1 19 = .ok (.iload 5, 2) := by decide +kernel
theorem d_Mo_paneAt_21 : decode m_Mo_paneAt.2.1 21 = .ok (.iaload, 1) := by decide +kernel
theorem d_Mo_paneAt_22 : decode m_Mo_paneAt.2.1 22 = .ok (.iload_n 1, 1) := by decide +kernel
theorem d_Mo_paneAt_23 : decode m_Mo_paneAt.2.1 23 = .ok (.if_icmp .ne 26, 3) := by decide +kernel
theorem d_Mo_paneAt_26 : decode m_Mo_paneAt.2.1 26 = .ok (.aload_n 0, 1) := by decide +kernel
theorem d_Mo_paneAt_27 : decode m_Mo_paneAt.2.1 27 = .ok (.getfield 107, 3) := by decide +kernel
theorem d_Mo_paneAt_30 : decode m_Mo_paneAt.2.1 30 = .ok (.iload 5, 2) := by decide +kernel
theorem d_Mo_paneAt_32 : decode m_Mo_paneAt.2.1 32 = .ok (.iaload, 1) := by decide +kernel
theorem d_Mo_paneAt_33 : decode m_Mo_paneAt.2.1 33 = .ok (.iload_n 2, 1) := by decide +kernel
theorem d_Mo_paneAt_34 : decode m_Mo_paneAt.2.1 34 = .ok (.if_icmp .ne 15, 3) := by decide +kernel
theorem d_Mo_paneAt_37 : decode m_Mo_paneAt.2.1 37 = .ok (.iload 4, 2) := by decide +kernel
theorem d_Mo_paneAt_39 : decode m_Mo_paneAt.2.1 39 = .ok (.iload_n 3, 1) := by decide +kernel
theorem d_Mo_paneAt_40 : decode m_Mo_paneAt.2.1 40 = .ok (.if_icmp .ne 6, 3) := by decide +kernel
theorem d_Mo_paneAt_43 : decode m_Mo_paneAt.2.1 43 = .ok (.iload 5, 2) := by decide +kernel
theorem d_Mo_paneAt_45 : decode m_Mo_paneAt.2.1 45 = .ok (.ireturn, 1) := by decide +kernel
theorem d_Mo_paneAt_46 : decode m_Mo_paneAt.2.1 46 = .ok (.iinc 4 1, 3) := by decide +kernel
theorem d_Mo_paneAt_49 : decode m_Mo_paneAt.2.1 49 = .ok (.iinc 5 1, 3) := by decide +kernel
theorem d_Mo_paneAt_52 : decode m_Mo_paneAt.2.1 52 = .ok (.goto (-46), 3) := by decide +kernel
theorem d_Mo_paneAt_55 : decode m_Mo_paneAt.2.1 55 = .ok (.iconst (-1), 1) := by decide +kernel
theorem d_Mo_paneAt_56 : decode m_Mo_paneAt.2.1 56 = .ok (.ireturn, 1) := by decide +kernel
theorem d_Mo_columnWidth_0 : decode m_Mo_columnWidth.2.1 0 = .ok (.iconst 0, 1) := by decide +kernel
theorem d_Mo_columnWidth_1 : decode m_Mo_columnWidth.2.1 1 = .ok (.istore_n 2, 1) := by decide +kernel
theorem d_Mo_columnWidth_2 : decode m_Mo_columnWidth.2.1 2 = .ok (.iconst 0, 1) := by decide +kernel
theorem d_Mo_columnWidth_3 : decode m_Mo_columnWidth.2.1 3 = .ok (.istore_n 3, 1) := by decide +kernel
theorem d_Mo_columnWidth_4 : decode m_Mo_columnWidth.2.1 4 = .ok (.iload_n 3, 1) := by decide +kernel
theorem d_Mo_columnWidth_5 : decode m_Mo_columnWidth.2.1 5 = .ok (.aload_n 0, 1) := by decide +kernel
theorem d_Mo_columnWidth_6 : decode m_Mo_columnWidth.2.1 6 = .ok (.getfield 174, 3) := by decide +kernel
theorem d_Mo_columnWidth_9 : decode m_Mo_columnWidth.2.1 9 = .ok (.if_icmp .ge 49, 3) := by decide +kernel
theorem d_Mo_columnWidth_12 : decode m_Mo_columnWidth.2.1 12 = .ok (.aload_n 0, 1) := by decide +kernel
theorem d_Mo_columnWidth_13 : decode m_Mo_columnWidth.2.1 13 = .ok (.getfield 104, 3) := by decide +kernel
theorem d_Mo_columnWidth_16 : decode m_Mo_columnWidth.2.1 16 = .ok (.iload_n 3, 1) := by decide +kernel
theorem d_Mo_columnWidth_17 : decode m_Mo_columnWidth.2.1 17 = .ok (.iaload, 1) := by decide +kernel
theorem d_Mo_columnWidth_18 : decode m_Mo_columnWidth.2.1 18 = .ok (.iload_n 1, 1) := by decide +kernel
theorem d_Mo_columnWidth_19 : decode m_Mo_columnWidth.2.1 19 = .ok (.if_icmp .ne 17, 3) := by decide +kernel
theorem d_Mo_columnWidth_22 : decode m_Mo_columnWidth.2.1 22 = .ok (.aload_n 0, 1) := by decide +kernel
theorem d_Mo_columnWidth_23 : decode m_Mo_columnWidth.2.1 23 = .ok (.iload_n 1, 1) := by decide +kernel
theorem d_Mo_columnWidth_24 : decode m_Mo_columnWidth.2.1 24 = .ok (.aload_n 0, 1) := by decide +kernel
theorem d_Mo_columnWidth_25 : decode m_Mo_columnWidth.2.1 25 = .ok (.getfield 107, 3) := by decide +kernel
theorem d_Mo_columnWidth_28 : decode m_Mo_columnWidth.2.1 28 = .ok (.iload_n 3, 1) := by decide +kernel
theorem d_Mo_columnWidth_29 : decode m_Mo_columnWidth.2.1 29 = .ok (.iaload, 1) := by decide +kernel
theorem d_Mo_columnWidth_30 : decode m_Mo_columnWidth.2.1 30 = .ok (.invokevirtual 177, 3) := by decide +kernel
theorem d_Mo_columnWidth_33 : decode m_Mo_columnWidth.2.1 33 = .ok (.goto 4, 3) := by decide +kernel
theorem d_Mo_columnWidth_36 : decode m_Mo_columnWidth.2.1 36 = .ok (.iconst 0, 1) := by decide +kernel
theorem d_Mo_columnWidth_37 : decode m_Mo_columnWidth.2.1 37 = .ok (.istore 4, 2) := by decide +kernel
theorem d_Mo_columnWidth_39 : decode m_Mo_columnWidth.2.1 39 = .ok (.iload 4, 2) := by decide +kernel
theorem d_Mo_columnWidth_41 : decode m_Mo_columnWidth.2.1 41 = .ok (.iload_n 2, 1) := by decide +kernel
theorem d_Mo_columnWidth_42 : decode m_Mo_columnWidth.2.1 42 = .ok (.if_icmp .le 8, 3) := by decide +kernel
theorem d_Mo_columnWidth_45 : decode m_Mo_columnWidth.2.1 45 = .ok (.iload 4, 2) := by decide +kernel
theorem d_Mo_columnWidth_47 : decode m_Mo_columnWidth.2.1 47 = .ok (.goto 4, 3) := by decide +kernel
theorem d_Mo_columnWidth_50 : decode m_Mo_columnWidth.2.1 50 = .ok (.iload_n 2, 1) := by decide +kernel
theorem d_Mo_columnWidth_51 : decode m_Mo_columnWidth.2.1 51 = .ok (.istore_n 2, 1) := by decide +kernel
theorem d_Mo_columnWidth_52 : decode m_Mo_columnWidth.2.1 52 = .ok (.iinc 3 1, 3) := by decide +kernel
theorem d_Mo_columnWidth_55 : decode m_Mo_columnWidth.2.1 55 = .ok (.goto (-51), 3) := by decide +kernel
theorem d_Mo_columnWidth_58 : decode m_Mo_columnWidth.2.1 58 = .ok (.iload_n 2, 1) := by decide +kernel
theorem d_Mo_columnWidth_59 : decode m_Mo_columnWidth.2.1 59 = .ok (.ireturn, 1) := by decide +kernel
theorem d_Mo_rowWidth_0 : decode m_Mo_rowWidth.2.1 0 = .ok (.iconst 0, 1) := by decide +kernel
theorem d_Mo_rowWidth_1 : decode m_Mo_rowWidth.2.1 1 = .ok (.istore_n 3, 1) := by decide +kernel
theorem d_Mo_rowWidth_2 : decode m_Mo_rowWidth.2.1 2 = .ok (.iconst 0, 1) := by decide +kernel
theorem d_Mo_rowWidth_3 : decode m_Mo_rowWidth.2.1 3 = .ok (.istore 4, 2) := by decide +kernel
theorem d_Mo_rowWidth_5 : decode m_Mo_rowWidth.2.1 5 = .ok (.iload 4, 2) := by decide +kernel
theorem d_Mo_rowWidth_7 : decode m_Mo_rowWidth.2.1 7 = .ok (.aload_n 0, 1) := by decide +kernel
theorem d_Mo_rowWidth_8 : decode m_Mo_rowWidth.2.1 8 = .ok (.getfield 174, 3) := by decide +kernel
theorem d_Mo_rowWidth_11 : decode m_Mo_rowWidth.2.1 11 = .ok (.if_icmp .ge 45, 3) := by decide +kernel
theorem d_Mo_rowWidth_14 : decode m_Mo_rowWidth.2.1 14 = .ok (.aload_n 0, 1) := by decide +kernel
theorem d_Mo_rowWidth_15 : decode m_Mo_rowWidth.2.1 15 = .ok (.getfield 104, 3) := by decide +kernel
theorem d_Mo_rowWidth_18 : decode m_Mo_rowWidth.2.1 18 = .ok (.iload 4, 2) := by decide +kernel
theorem d_Mo_rowWidth_20 : decode m_Mo_rowWidth.2.1 20 = .ok (.iaload, 1) := by decide +kernel
theorem d_Mo_rowWidth_21 : decode m_Mo_rowWidth.2.1 21 = .ok (.iload_n 1, 1) := by decide +kernel
theorem d_Mo_rowWidth_22 : decode m_Mo_rowWidth.2.1 22 = .ok (.if_icmp .ne 26, 3) := by decide +kernel
theorem d_Mo_rowWidth_25 : decode m_Mo_rowWidth.2.1 25 = .ok (.aload_n 0, 1) := by decide +kernel
theorem d_Mo_rowWidth_26 : decode m_Mo_rowWidth.2.1 26 = .ok (.getfield 107, 3) := by decide +kernel
theorem d_Mo_rowWidth_29 : decode m_Mo_rowWidth.2.1 29 = .ok (.iload 4, 2) := by decide +kernel
theorem d_Mo_rowWidth_31 : decode m_Mo_rowWidth.2.1 31 = .ok (.iaload, 1) := by decide +kernel
theorem d_Mo_rowWidth_32 : decode m_Mo_rowWidth.2.1 32 = .ok (.iload_n 2, 1) := by decide +kernel
theorem d_Mo_rowWidth_33 : decode m_Mo_rowWidth.2.1 33 = .ok (.if_icmp .ne 15, 3) := by decide +kernel
theorem d_Mo_rowWidth_36 : decode m_Mo_rowWidth.2.1 36 = .ok (.iload_n 3, 1) := by decide +kernel
theorem d_Mo_rowWidth_37 : decode m_Mo_rowWidth.2.1 37 = .ok (.aload_n 0, 1) := by decide +kernel
theorem d_Mo_rowWidth_38 : decode m_Mo_rowWidth.2.1 38 = .ok (.getfield 98, 3) := by decide +kernel
theorem d_Mo_rowWidth_41 : decode m_Mo_rowWidth.2.1 41 = .ok (.iload 4, 2) := by decide +kernel
theorem d_Mo_rowWidth_43 : decode m_Mo_rowWidth.2.1 43 = .ok (.iaload, 1) := by decide +kernel
theorem d_Mo_rowWidth_44 : decode m_Mo_rowWidth.2.1 44 = .ok (.iadd, 1) := by decide +kernel
theorem d_Mo_rowWidth_45 : decode m_Mo_rowWidth.2.1 45 = .ok (.goto 4, 3) := by decide +kernel
theorem d_Mo_rowWidth_48 : decode m_Mo_rowWidth.2.1 48 = .ok (.iload_n 3, 1) := by decide +kernel
theorem d_Mo_rowWidth_49 : decode m_Mo_rowWidth.2.1 49 = .ok (.istore_n 3, 1) := by decide +kernel
theorem d_Mo_rowWidth_50 : decode m_Mo_rowWidth.2.1 50 = .ok (.iinc 4 1, 3) := by decide +kernel
theorem d_Mo_rowWidth_53 : decode m_Mo_rowWidth.2.1 53 = .ok (.goto (-48), 3) := by decide +kernel
theorem d_Mo_rowWidth_56 : decode m_Mo_rowWidth.2.1 56 = .ok (.iload_n 3, 1) := by decide +kernel
theorem d_Mo_rowWidth_57 : decode m_Mo_rowWidth.2.1 57 = .ok (.ireturn, 1) := by decide +kernel
theorem d_Mo_rowHeight_0 : decode m_Mo_rowHeight.2.1 0 = .ok (.iconst 0, 1) := by decide +kernel
theorem d_Mo_rowHeight_1 : decode m_Mo_rowHeight.2.1 1 = .ok (.istore_n 3, 1) := by decide +kernel
theorem d_Mo_rowHeight_2 : decode m_Mo_rowHeight.2.1 2 = .ok (.iconst 0, 1) := by decide +kernel
theorem d_Mo_rowHeight_3 : decode m_Mo_rowHeight.2.1 3 = .ok (.istore 4, 2) := by decide +kernel
theorem d_Mo_rowHeight_5 : decode m_Mo_rowHeight.2.1 5 = .ok (.iload 4, 2) := by decide +kernel
theorem d_Mo_rowHeight_7 : decode m_Mo_rowHeight.2.1 7 = .ok (.aload_n 0, 1) := by decide +kernel
theorem d_Mo_rowHeight_8 : decode m_Mo_rowHeight.2.1 8 = .ok (.getfield 174, 3) := by decide +kernel
theorem d_Mo_rowHeight_11 : decode m_Mo_rowHeight.2.1 11 = .ok (.if_icmp .ge 66, 3) := by decide +kernel
theorem d_Mo_rowHeight_14 : decode m_Mo_rowHeight.2.1 14 = .ok (.aload_n 0, 1) := by decide +kernel
theorem d_Mo_rowHeight_15 : decode m_Mo_rowHeight.2.1 15 = .ok (.getfield 104, 3) := by decide +kernel
theorem d_Mo_rowHeight_18 : decode m_Mo_rowHeight.2.1 18 = .ok (.iload 4, 2) := by decide +kernel
theorem d_Mo_rowHeight_20 : decode m_Mo_rowHeight.2.1 20 = .ok (.iaload, 1) := by decide +kernel
theorem d_Mo_rowHeight_21 : decode m_Mo_rowHeight.2.1 21 = .ok (.iload_n 1, 1) := by decide +kernel
theorem d_Mo_rowHeight_22 : decode m_Mo_rowHeight.2.1 22 = .ok (.if_icmp .ne 29, 3) := by decide +kernel
theorem d_Mo_rowHeight_25 : decode m_Mo_rowHeight.2.1 25 = .ok (.aload_n 0, 1) := by decide +kernel
theorem d_Mo_rowHeight_26 : decode m_Mo_rowHeight.2.1 26 = .ok (.getfield 107, 3) := by decide +kernel
theorem d_Mo_rowHeight_29 : decode m_Mo_rowHeight.2.1 29 = .ok (.iload 4, 2) := by decide +kernel
theorem d_Mo_rowHeight_31 : decode m_Mo_rowHeight.2.1 31 = .ok (.iaload, 1) := by decide +kernel
theorem d_Mo_rowHeight_32 : decode m_Mo_rowHeight.2.1 32 = .ok (.iload_n 2, 1) := by decide +kernel
theorem d_Mo_rowHeight_33 : decode m_Mo_rowHeight.2.1 33 = .ok (.if_icmp .ne 18, 3) := by decide +kernel
theorem d_Mo_rowHeight_36 : decode m_Mo_rowHeight.2.1 36 = .ok (.aload_n 0, 1) := by decide +kernel
theorem d_Mo_rowHeight_37 : decode m_Mo_rowHeight.2.1 37 = .ok (.getfield 101, 3) := by decide +kernel
theorem d_Mo_rowHeight_40 : decode m_Mo_rowHeight.2.1 40 = .ok (.iload 4, 2) := by decide +kernel
theorem d_Mo_rowHeight_42 : decode m_Mo_rowHeight.2.1 42 = .ok (.iaload, 1) := by decide +kernel
theorem d_Mo_rowHeight_43 : decode m_Mo_rowHeight.2.1 43 = .ok (.iload_n 3, 1) := by decide +kernel
theorem d_Mo_rowHeight_44 : decode m_Mo_rowHeight.2.1 44 = .ok (.if_icmp .le 7, 3) := by decide +kernel
theorem d_Mo_rowHeight_47 : decode m_Mo_rowHeight.2.1 47 = .ok (.iconst 1, 1) := by decide +kernel
theorem d_Mo_rowHeight_48 : decode m_Mo_rowHeight.2.1 48 = .ok (.goto 4, 3) := by decide +kernel
theorem d_Mo_rowHeight_51 : decode m_Mo_rowHeight.2.1 51 = .ok (.iconst 0, 1) := by decide +kernel
theorem d_Mo_rowHeight_52 : decode m_Mo_rowHeight.2.1 52 = .ok (.istore 5, 2) := by decide +kernel
theorem d_Mo_rowHeight_54 : decode m_Mo_rowHeight.2.1 54 = .ok (.iload 5, 2) := by decide +kernel
theorem d_Mo_rowHeight_56 : decode m_Mo_rowHeight.2.1 56 = .ok (.ifCond .eq 13, 3) := by decide +kernel
theorem d_Mo_rowHeight_59 : decode m_Mo_rowHeight.2.1 59 = .ok (.aload_n 0, 1) := by decide +kernel
theorem d_Mo_rowHeight_60 : decode m_Mo_rowHeight.2.1 60 = .ok (.getfield 101, 3) := by decide +kernel
theorem d_Mo_rowHeight_63 : decode m_Mo_rowHeight.2.1 63 = .ok (.iload 4, 2) := by decide +kernel
theorem d_Mo_rowHeight_65 : decode m_Mo_rowHeight.2.1 65 = .ok (.iaload, 1) := by decide +kernel
theorem d_Mo_rowHeight_66 : decode m_Mo_rowHeight.2.1 66 = .ok (.goto 4, 3) := by decide +kernel
theorem d_Mo_rowHeight_69 : decode m_Mo_rowHeight.2.1 69 = .ok (.iload_n 3, 1) := by decide +kernel
theorem d_Mo_rowHeight_70 : decode m_Mo_rowHeight.2.1 70 = .ok (.istore_n 3, 1) := by decide +kernel
theorem d_Mo_rowHeight_71 : decode m_Mo_rowHeight.2.1 71 = .ok (.iinc 4 1, 3) := by decide +kernel
theorem d_Mo_rowHeight_74 : decode m_Mo_rowHeight.2.1 74 = .ok (.goto (-69), 3) := by decide +kernel
theorem d_Mo_rowHeight_77 : decode m_Mo_rowHeight.2.1 77 = .ok (.iload_n 3, 1) := by decide +kernel
theorem d_Mo_rowHeight_78 : decode m_Mo_rowHeight.2.1 78 = .ok (.ireturn, 1) := by decide +kernel
theorem d_Mo_split_0 : decode m_Mo_split.2.1 0 = .ok (.aload_n 0, 1) := by decide +kernel
theorem d_Mo_split_1 : decode m_Mo_split.2.1 1 = .ok (.iload_n 3, 1) := by decide +kernel
theorem d_Mo_split_2 : decode m_Mo_split.2.1 2 = .ok (.iload 4, 2) := by decide +kernel
theorem d_Mo_split_4 : decode m_Mo_split.2.1 4 = .ok (.iload 5, 2) := by decide +kernel
theorem d_Mo_split_6 : decode m_Mo_split.2.1 6 = .ok (.iload 6, 2) := by decide +kernel
theorem d_Mo_split_8 : decode m_Mo_split.2.1 8 = .ok (.invokevirtual 222, 3) := by decide +kernel
theorem d_Mo_split_11 : decode m_Mo_split.2.1 11 = .ok (.istore 7, 2) := by decide +kernel
theorem d_Mo_split_13 : decode m_Mo_split.2.1 13 = .ok (.iload_n 3, 1) := by decide +kernel
theorem d_Mo_split_14 : decode m_Mo_split.2.1 14 = .ok (.iconst 2, 1) := by decide +kernel
theorem d_Mo_split_15 : decode m_Mo_split.2.1 15 = .ok (.irem, 1) := by decide +kernel
theorem d_Mo_split_16 : decode m_Mo_split.2.1 16 = .ok (.ifCond .ne 7, 3) := by decide +kernel
theorem d_Mo_split_19 : decode m_Mo_split.2.1 19 = .ok (.iconst 1, 1) := by decide +kernel
theorem d_Mo_split_20 : decode m_Mo_split.2.1 20 = .ok (.goto 4, 3) := by decide +kernel
theorem d_Mo_split_23 : decode m_Mo_split.2.1 23 = .ok (.iconst 0, 1) := by decide +kernel
theorem d_Mo_split_24 : decode m_Mo_split.2.1 24 = .ok (.istore 8, 2) := by decide +kernel
theorem d_Mo_split_26 : decode m_Mo_split.2.1 26 = .ok (.aload_n 0, 1) := by decide +kernel
theorem d_Mo_split_27 : decode m_Mo_split.2.1 27 = .ok (.getfield 38, 3) := by decide +kernel
theorem d_Mo_split_30 : decode m_Mo_split.2.1 30 = .ok (.iload_n 2, 1) := by decide +kernel
theorem d_Mo_split_31 : decode m_Mo_split.2.1 31 = .ok (.iload 8, 2) := by decide +kernel
theorem d_Mo_split_33 : decode m_Mo_split.2.1 33 = .ok (.ifCond .eq 7, 3) := by decide +kernel
theorem d_Mo_split_36 : decode m_Mo_split.2.1 36 = .ok (.iconst 0, 1) := by decide +kernel
theorem d_Mo_split_37 : decode m_Mo_split.2.1 37 = .ok (.goto 4, 3) := by decide +kernel
theorem d_Mo_split_40 : decode m_Mo_split.2.1 40 = .ok (.iconst 1, 1) := by decide +kernel
theorem d_Mo_split_41 : decode m_Mo_split.2.1 41 = .ok (.iastore, 1) := by decide +kernel
theorem d_Mo_split_42 : decode m_Mo_split.2.1 42 = .ok (.aload_n 0, 1) := by decide +kernel
theorem d_Mo_split_43 : decode m_Mo_split.2.1 43 = .ok (.getfield 53, 3) := by decide +kernel
theorem d_Mo_split_46 : decode m_Mo_split.2.1 46 = .ok (.iload_n 2, 1) := by decide +kernel
theorem d_Mo_split_47 : decode m_Mo_split.2.1 47 = .ok (.iload 7, 2) := by decide +kernel
theorem d_Mo_split_49 : decode m_Mo_split.2.1 49 = .ok (.iastore, 1) := by decide +kernel
theorem d_Mo_split_50 : decode m_Mo_split.2.1 50 = .ok (.iload_n 2, 1) := by decide +kernel
theorem d_Mo_split_51 : decode m_Mo_split.2.1 51 = .ok (.sipush 160, 3) := by decide +kernel
theorem d_Mo_split_54 : decode m_Mo_split.2.1 54 = .ok (.iload_n 1, 1) := by decide +kernel
theorem d_Mo_split_55 : decode m_Mo_split.2.1 55 = .ok (.imul, 1) := by decide +kernel
theorem d_Mo_split_56 : decode m_Mo_split.2.1 56 = .ok (.isub, 1) := by decide +kernel
theorem d_Mo_split_57 : decode m_Mo_split.2.1 57 = .ok (.istore 9, 2) := by decide +kernel
theorem d_Mo_split_59 : decode m_Mo_split.2.1 59 = .ok (.aload_n 0, 1) := by decide +kernel
theorem d_Mo_split_60 : decode m_Mo_split.2.1 60 = .ok (.iload_n 3, 1) := by decide +kernel
theorem d_Mo_split_61 : decode m_Mo_split.2.1 61 = .ok (.iconst 3, 1) := by decide +kernel
theorem d_Mo_split_62 : decode m_Mo_split.2.1 62 = .ok (.if_icmp .ne 7, 3) := by decide +kernel
theorem d_Mo_split_65 : decode m_Mo_split.2.1 65 = .ok (.iconst 4, 1) := by decide +kernel
theorem d_Mo_split_66 : decode m_Mo_split.2.1 66 = .ok (.goto 4, 3) := by decide +kernel
theorem d_Mo_split_69 : decode m_Mo_split.2.1 69 = .ok (.iload_n 3, 1) := by decide +kernel
theorem d_Mo_split_70 : decode m_Mo_split.2.1 70 = .ok (.iload_n 3, 1) := by decide +kernel
theorem d_Mo_split_71 : decode m_Mo_split.2.1 71 = .ok (.ifCond .ne 10, 3) := by decide +kernel
theorem d_Mo_split_74 : decode m_Mo_split.2.1 74 = .ok (.iload 4, 2) := by decide +kernel
theorem d_Mo_split_76 : decode m_Mo_split.2.1 76 = .ok (.iconst 1, 1) := by decide +kernel
theorem d_Mo_split_77 : decode m_Mo_split.2.1 77 = .ok (.iadd, 1) := by decide +kernel
theorem d_Mo_split_78 : decode m_Mo_split.2.1 78 = .ok (.goto 5, 3) := by decide +kernel
theorem d_Mo_split_81 : decode m_Mo_split.2.1 81 = .ok (.iload 4, 2) := by decide +kernel
theorem d_Mo_split_83 : decode m_Mo_split.2.1 83 = .ok (.iload_n 3, 1) := by decide +kernel
theorem d_Mo_split_84 : decode m_Mo_split.2.1 84 = .ok (.iconst 1, 1) := by decide +kernel
theorem d_Mo_split_85 : decode m_Mo_split.2.1 85 = .ok (.if_icmp .ne 10, 3) := by decide +kernel
theorem d_Mo_split_88 : decode m_Mo_split.2.1 88 = .ok (.iload 5, 2) := by decide +kernel
theorem d_Mo_split_90 : decode m_Mo_split.2.1 90 = .ok (.iconst 1, 1) := by decide +kernel
theorem d_Mo_split_91 : decode m_Mo_split.2.1 91 = .ok (.iadd, 1) := by decide +kernel
theorem d_Mo_split_92 : decode m_Mo_split.2.1 92 = .ok (.goto 5, 3) := by decide +kernel
theorem d_Mo_split_95 : decode m_Mo_split.2.1 95 = .ok (.iload 5, 2) := by decide +kernel
theorem d_Mo_split_97 : decode m_Mo_split.2.1 97 = .ok (.iload_n 3, 1) := by decide +kernel
theorem d_Mo_split_98 : decode m_Mo_split.2.1 98 = .ok (.iconst 2, 1) := by decide +kernel
theorem d_Mo_split_99 : decode m_Mo_split.2.1 99 = .ok (.if_icmp .ne 10, 3) := by decide +kernel
theorem d_Mo_split_102 : decode m_Mo_split.2.1 102 = .ok (.iload 6, 2) := by decide +kernel
theorem d_Mo_split_104 : decode m_Mo_split.2.1 104 = .ok (.iconst 1, 1) := by decide +kernel
theorem d_Mo_split_105 : decode m_Mo_split.2.1 105 = .ok (.iadd, 1) := by decide +kernel
theorem d_Mo_split_106 : decode m_Mo_split.2.1 106 = .ok (.goto 5, 3) := by decide +kernel
theorem d_Mo_split_109 : decode m_Mo_split.2.1 109 = .ok (.iload 6, 2) := by decide +kernel
theorem d_Mo_split_111 : decode m_Mo_split.2.1 111 = .ok (.iload 9, 2) := by decide +kernel
theorem d_Mo_split_113 : decode m_Mo_split.2.1 113 = .ok (.invokevirtual 230, 3) := by decide +kernel
theorem d_Mo_split_116 : decode m_Mo_split.2.1 116 = .ok (.aload_n 0, 1) := by decide +kernel
theorem d_Mo_split_117 : decode m_Mo_split.2.1 117 = .ok (.iload 8, 2) := by decide +kernel
theorem d_Mo_split_119 : decode m_Mo_split.2.1 119 = .ok (.ifCond .eq 15, 3) := by decide +kernel
theorem d_Mo_split_122 : decode m_Mo_split.2.1 122 = .ok (.aload_n 0, 1) := by decide +kernel
theorem d_Mo_split_123 : decode m_Mo_split.2.1 123 = .ok (.getfield 41, 3) := by decide +kernel
theorem d_Mo_split_126 : decode m_Mo_split.2.1 126 = .ok (.iload_n 2, 1) := by decide +kernel
theorem d_Mo_split_127 : decode m_Mo_split.2.1 127 = .ok (.iaload, 1) := by decide +kernel
theorem d_Mo_split_128 : decode m_Mo_split.2.1 128 = .ok (.iload 7, 2) := by decide +kernel
theorem d_Mo_split_130 : decode m_Mo_split.2.1 130 = .ok (.iadd, 1) := by decide +kernel
theorem d_Mo_split_131 : decode m_Mo_split.2.1 131 = .ok (.goto 9, 3) := by decide +kernel
theorem d_Mo_split_134 : decode m_Mo_split.2.1 134 = .ok (.aload_n 0, 1) := by decide +kernel
theorem d_Mo_split_135 : decode m_Mo_split.2.1 135 = .ok (.getfield 41, 3) := by decide +kernel
theorem d_Mo_split_138 : decode m_Mo_split.2.1 138 = .ok (.iload_n 2, 1) := by decide +kernel
theorem d_Mo_split_139 : decode m_Mo_split.2.1 139 = .ok (.iaload, 1) := by decide +kernel
theorem d_Mo_split_140 : decode m_Mo_split.2.1 140 = .ok (.iload 8, 2) := by decide +kernel
theorem d_Mo_split_142 : decode m_Mo_split.2.1 142 = .ok (.ifCond .eq 12, 3) := by decide +kernel
theorem d_Mo_split_145 : decode m_Mo_split.2.1 145 = .ok (.aload_n 0, 1) := by decide +kernel
theorem d_Mo_split_146 : decode m_Mo_split.2.1 146 = .ok (.getfield 44, 3) := by decide +kernel
theorem d_Mo_split_149 : decode m_Mo_split.2.1 149 = .ok (.iload_n 2, 1) := by decide +kernel
theorem d_Mo_split_150 : decode m_Mo_split.2.1 150 = .ok (.iaload, 1) := by decide +kernel
theorem d_Mo_split_151 : decode m_Mo_split.2.1 151 = .ok (.goto 12, 3) := by decide +kernel
theorem d_Mo_split_154 : decode m_Mo_split.2.1 154 = .ok (.aload_n 0, 1) := by decide +kernel
theorem d_Mo_split_155 : decode m_Mo_split.2.1 155 = .ok (.getfield 44, 3) := by decide +kernel
theorem d_Mo_split_158 : decode m_Mo_split.2.1 158 = .ok (.iload_n 2, 1) := by decide +kernel
theorem d_Mo_split_159 : decode m_Mo_split.2.1 159 = .ok (.iaload, 1) := by decide +kernel
theorem d_Mo_split_160 : decode m_Mo_split.2.1 160 = .ok (.iload 7, 2) := by decide +kernel
theorem d_Mo_split_162 : decode m_Mo_split.2.1 162 = .ok (.iadd, 1) := by decide +kernel
theorem d_Mo_split_163 : decode m_Mo_split.2.1 163 = .ok (.iload 8, 2) := by decide +kernel
theorem d_Mo_split_165 : decode m_Mo_split.2.1 165 = .ok (.ifCond .eq 15, 3) := by decide +kernel
theorem d_Mo_split_168 : decode m_Mo_split.2.1 168 = .ok (.aload_n 0, 1) := by decide +kernel
theorem d_Mo_split_169 : decode m_Mo_split.2.1 169 = .ok (.getfield 47, 3) := by decide +kernel
theorem d_Mo_split_172 : decode m_Mo_split.2.1 172 = .ok (.iload_n 2, 1) := by decide +kernel
theorem d_Mo_split_173 : decode m_Mo_split.2.1 173 = .ok (.iaload, 1) := by decide +kernel
theorem d_Mo_split_174 : decode m_Mo_split.2.1 174 = .ok (.iload 7, 2) := by decide +kernel
theorem d_Mo_split_176 : decode m_Mo_split.2.1 176 = .ok (.isub, 1) := by decide +kernel
theorem d_Mo_split_177 : decode m_Mo_split.2.1 177 = .ok (.goto 9, 3) := by decide +kernel
theorem d_Mo_split_180 : decode m_Mo_split.2.1 180 = .ok (.aload_n 0, 1) := by decide +kernel
theorem d_Mo_split_181 : decode m_Mo_split.2.1 181 = .ok (.getfield 47, 3) := by decide +kernel
theorem d_Mo_split_184 : decode m_Mo_split.2.1 184 = .ok (.iload_n 2, 1) := by decide +kernel
theorem d_Mo_split_185 : decode m_Mo_split.2.1 185 = .ok (.iaload, 1) := by decide +kernel
theorem d_Mo_split_186 : decode m_Mo_split.2.1 186 = .ok (.iload 8, 2) := by decide +kernel
theorem d_Mo_split_188 : decode m_Mo_split.2.1 188 = .ok (.ifCond .eq 12, 3) := by decide +kernel
theorem d_Mo_split_191 : decode m_Mo_split.2.1 191 = .ok (.aload_n 0, 1) := by decide +kernel
theorem d_Mo_split_192 : decode m_Mo_split.2.1 192 = .ok (.getfield 50, 3) := by decide +kernel
theorem d_Mo_split_195 : decode m_Mo_split.2.1 195 = .ok (.iload_n 2, 1) := by decide +kernel
theorem d_Mo_split_196 : decode m_Mo_split.2.1 196 = .ok (.iaload, 1) := by decide +kernel
theorem d_Mo_split_197 : decode m_Mo_split.2.1 197 = .ok (.goto 12, 3) := by decide +kernel
theorem d_Mo_split_200 : decode m_Mo_split.2.1 200 = .ok (.aload_n 0, 1) := by decide +kernel
theorem d_Mo_split_201 : decode m_Mo_split.2.1 201 = .ok (.getfield 50, 3) := by decide +kernel
theorem d_Mo_split_204 : decode m_Mo_split.2.1 204 = .ok (.iload_n 2, 1) := by decide +kernel
theorem d_Mo_split_205 : decode m_Mo_split.2.1 205 = .ok (.iaload, 1) := by decide +kernel
theorem d_Mo_split_206 : decode m_Mo_split.2.1 206 = .ok (.iload 7, 2) := by decide +kernel
theorem d_Mo_split_208 : decode m_Mo_split.2.1 208 = .ok (.isub, 1) := by decide +kernel
theorem d_Mo_split_209 : decode m_Mo_split.2.1 209 = .ok (.invokevirtual 233, 3) := by decide +kernel
theorem d_Mo_split_212 : decode m_Mo_split.2.1 212 = .ok (.aload_n 0, 1) := by decide +kernel
theorem d_Mo_split_213 : decode m_Mo_split.2.1 213 = .ok (.iload_n 3, 1) := by decide +kernel
theorem d_Mo_split_214 : decode m_Mo_split.2.1 214 = .ok (.iconst 3, 1) := by decide +kernel
theorem d_Mo_split_215 : decode m_Mo_split.2.1 215 = .ok (.if_icmp .ge 9, 3) := by decide +kernel
theorem d_Mo_split_218 : decode m_Mo_split.2.1 218 = .ok (.iload_n 3, 1) := by decide +kernel
theorem d_Mo_split_219 : decode m_Mo_split.2.1 219 = .ok (.iconst 1, 1) := by decide +kernel
theorem d_Mo_split_220 : decode m_Mo_split.2.1 220 = .ok (.iadd, 1) := by decide +kernel
theorem d_Mo_split_221 : decode m_Mo_split.2.1 221 = .ok (.goto 4, 3) := by decide +kernel
theorem d_Mo_split_224 : decode m_Mo_split.2.1 224 = .ok (.iconst 3, 1) := by decide +kernel
theorem d_Mo_split_225 : decode m_Mo_split.2.1 225 = .ok (.iload 4, 2) := by decide +kernel
theorem d_Mo_split_227 : decode m_Mo_split.2.1 227 = .ok (.iload_n 3, 1) := by decide +kernel
theorem d_Mo_split_228 : decode m_Mo_split.2.1 228 = .ok (.ifCond .ne 7, 3) := by decide +kernel
theorem d_Mo_split_231 : decode m_Mo_split.2.1 231 = .ok (.iconst 0, 1) := by decide +kernel
theorem d_Mo_split_232 : decode m_Mo_split.2.1 232 = .ok (.goto 5, 3) := by decide +kernel
theorem d_Mo_split_235 : decode m_Mo_split.2.1 235 = .ok (.iload 5, 2) := by decide +kernel
theorem d_Mo_split_237 : decode m_Mo_split.2.1 237 = .ok (.iload_n 3, 1) := by decide +kernel
theorem d_Mo_split_238 : decode m_Mo_split.2.1 238 = .ok (.iconst 1, 1) := by decide +kernel
theorem d_Mo_split_239 : decode m_Mo_split.2.1 239 = .ok (.if_icmp .ne 7, 3) := by decide +kernel
theorem d_Mo_split_242 : decode m_Mo_split.2.1 242 = .ok (.iconst 0, 1) := by decide +kernel
theorem d_Mo_split_243 : decode m_Mo_split.2.1 243 = .ok (.goto 5, 3) := by decide +kernel
theorem d_Mo_split_246 : decode m_Mo_split.2.1 246 = .ok (.iload 6, 2) := by decide +kernel
theorem d_Mo_split_248 : decode m_Mo_split.2.1 248 = .ok (.iload 9, 2) := by decide +kernel
theorem d_Mo_split_250 : decode m_Mo_split.2.1 250 = .ok (.invokevirtual 230, 3) := by decide +kernel
theorem d_Mo_split_253 : decode m_Mo_split.2.1 253 = .ok (.aload_n 0, 1) := by decide +kernel
theorem d_Mo_split_254 : decode m_Mo_split.2.1 254 = .ok (.aload_n 0, 1) := by decide +kernel
theorem d_Mo_split_255 : decode m_Mo_split.2.1 255 = .ok (.getfield 41, 3) := by decide +kernel
theorem d_Mo_split_258 : decode m_Mo_split.2.1 258 = .ok (.iload_n 2, 1) := by decide +kernel
theorem d_Mo_split_259 : decode m_Mo_split.2.1 259 = .ok (.iaload, 1) := by decide +kernel
theorem d_Mo_split_260 : decode m_Mo_split.2.1 260 = .ok (.aload_n 0, 1) := by decide +kernel
theorem d_Mo_split_261 : decode m_Mo_split.2.1 261 = .ok (.getfield 44, 3) := by decide +kernel
theorem d_Mo_split_264 : decode m_Mo_split.2.1 264 = .ok (.iload_n 2, 1) := by decide +kernel
theorem d_Mo_split_265 : decode m_Mo_split.2.1 265 = .ok (.iaload, 1) := by decide +kernel
theorem d_Mo_split_266 : decode m_Mo_split.2.1 266 = .ok (.iload 8, 2) := by decide +kernel
theorem d_Mo_split_268 : decode m_Mo_split.2.1 268 = .ok (.ifCond .eq 8, 3) := by decide +kernel
theorem d_Mo_split_271 : decode m_Mo_split.2.1 271 = .ok (.iload 7, 2) := by decide +kernel
theorem d_Mo_split_273 : decode m_Mo_split.2.1 273 = .ok (.goto 9, 3) := by decide +kernel
theorem d_Mo_split_276 : decode m_Mo_split.2.1 276 = .ok (.aload_n 0, 1) := by decide +kernel
theorem d_Mo_split_277 : decode m_Mo_split.2.1 277 = .ok (.getfield 47, 3) := by decide +kernel
theorem d_Mo_split_280 : decode m_Mo_split.2.1 280 = .ok (.iload_n 2, 1) := by decide +kernel
theorem d_Mo_split_281 : decode m_Mo_split.2.1 281 = .ok (.iaload, 1) := by decide +kernel
theorem d_Mo_split_282 : decode m_Mo_split.2.1 282 = .ok (.iload 8, 2) := by decide +kernel
theorem d_Mo_split_284 : decode m_Mo_split.2.1 284 = .ok (.ifCond .eq 12, 3) := by decide +kernel
theorem d_Mo_split_287 : decode m_Mo_split.2.1 287 = .ok (.aload_n 0, 1) := by decide +kernel
theorem d_Mo_split_288 : decode m_Mo_split.2.1 288 = .ok (.getfield 50, 3) := by decide +kernel
theorem d_Mo_split_291 : decode m_Mo_split.2.1 291 = .ok (.iload_n 2, 1) := by decide +kernel
theorem d_Mo_split_292 : decode m_Mo_split.2.1 292 = .ok (.iaload, 1) := by decide +kernel
theorem d_Mo_split_293 : decode m_Mo_split.2.1 293 = .ok (.goto 5, 3) := by decide +kernel
theorem d_Mo_split_296 : decode m_Mo_split.2.1 296 = .ok (.iload 7, 2) := by decide +kernel
theorem d_Mo_split_298 : decode m_Mo_split.2.1 298 = .ok (.invokevirtual 233, 3) := by decide +kernel
theorem d_Mo_split_301 : decode m_Mo_split.2.1 301 = .ok (.return_, 1) := by decide +kernel
theorem d_Mo_exact_0 : decode m_Mo_exact.2.1 0 = .ok (.aload_n 0, 1) := by decide +kernel
theorem d_Mo_exact_1 : decode m_Mo_exact.2.1 1 = .ok (.iload_n 1, 1) := by decide +kernel
theorem d_Mo_exact_2 : decode m_Mo_exact.2.1 2 = .ok (.invokevirtual 166, 3) := by decide +kernel
theorem d_Mo_exact_5 : decode m_Mo_exact.2.1 5 = .ok (.istore 5, 2) := by decide +kernel
theorem d_Mo_exact_7 : decode m_Mo_exact.2.1 7 = .ok (.iload 5, 2) := by decide +kernel
theorem d_Mo_exact_9 : decode m_Mo_exact.2.1 9 = .ok (.ifCond .lt 43, 3) := by decide +kernel
theorem d_Mo_exact_12 : decode m_Mo_exact.2.1 12 = .ok (.aload_n 0, 1) := by decide +kernel
theorem d_Mo_exact_13 : decode m_Mo_exact.2.1 13 = .ok (.iload_n 2, 1) := by decide +kernel
theorem d_Mo_exact_14 : decode m_Mo_exact.2.1 14 = .ok (.invokevirtual 253, 3) := by decide +kernel
theorem d_Mo_exact_17 : decode m_Mo_exact.2.1 17 = .ok (.ifCond .eq 35, 3) := by decide +kernel
theorem d_Mo_exact_20 : decode m_Mo_exact.2.1 20 = .ok (.iload_n 3, 1) := by decide +kernel
theorem d_Mo_exact_21 : decode m_Mo_exact.2.1 21 = .ok (.iconst (-1), 1) := by decide +kernel
theorem d_Mo_exact_22 : decode m_Mo_exact.2.1 22 = .ok (.if_icmp .eq 11, 3) := by decide +kernel
theorem d_Mo_exact_25 : decode m_Mo_exact.2.1 25 = .ok (.aload_n 0, 1) := by decide +kernel
theorem d_Mo_exact_26 : decode m_Mo_exact.2.1 26 = .ok (.iload_n 3, 1) := by decide +kernel
theorem d_Mo_exact_27 : decode m_Mo_exact.2.1 27 = .ok (.invokevirtual 253, 3) := by decide +kernel
theorem d_Mo_exact_30 : decode m_Mo_exact.2.1 30 = .ok (.ifCond .eq 22, 3) := by decide +kernel
theorem d_Mo_exact_33 : decode m_Mo_exact.2.1 33 = .ok (.iload 4, 2) := by decide +kernel
theorem d_Mo_exact_35 : decode m_Mo_exact.2.1 35 = .ok (.iconst (-1), 1) := by decide +kernel
theorem d_Mo_exact_36 : decode m_Mo_exact.2.1 36 = .ok (.if_icmp .eq 12, 3) := by decide +kernel
theorem d_Mo_exact_39 : decode m_Mo_exact.2.1 39 = .ok (.aload_n 0, 1) := by decide +kernel
theorem d_Mo_exact_40 : decode m_Mo_exact.2.1 40 = .ok (.iload 4, 2) := by decide +kernel
theorem d_Mo_exact_42 : decode m_Mo_exact.2.1 42 = .ok (.invokevirtual 253, 3) := by decide +kernel
theorem d_Mo_exact_45 : decode m_Mo_exact.2.1 45 = .ok (.ifCond .eq 7, 3) := by decide +kernel
theorem d_Mo_exact_48 : decode m_Mo_exact.2.1 48 = .ok (.iconst 1, 1) := by decide +kernel
theorem d_Mo_exact_49 : decode m_Mo_exact.2.1 49 = .ok (.goto 4, 3) := by decide +kernel
theorem d_Mo_exact_52 : decode m_Mo_exact.2.1 52 = .ok (.iconst 0, 1) := by decide +kernel
theorem d_Mo_exact_53 : decode m_Mo_exact.2.1 53 = .ok (.istore 6, 2) := by decide +kernel
theorem d_Mo_exact_55 : decode m_Mo_exact.2.1 55 = .ok (.aload_n 0, 1) := by decide +kernel
theorem d_Mo_exact_56 : decode m_Mo_exact.2.1 56 = .ok (.iload 6, 2) := by decide +kernel
theorem d_Mo_exact_58 : decode m_Mo_exact.2.1 58 = .ok (.ifCond .ne 7, 3) := by decide +kernel
theorem d_Mo_exact_61 : decode m_Mo_exact.2.1 61 = .ok (.iconst 1, 1) := by decide +kernel
theorem d_Mo_exact_62 : decode m_Mo_exact.2.1 62 = .ok (.goto 39, 3) := by decide +kernel
theorem d_Mo_exact_65 : decode m_Mo_exact.2.1 65 = .ok (.aload_n 0, 1) := by decide +kernel
theorem d_Mo_exact_66 : decode m_Mo_exact.2.1 66 = .ok (.getfield 23, 3) := by decide +kernel
theorem d_Mo_exact_69 : decode m_Mo_exact.2.1 69 = .ok (.iload 5, 2) := by decide +kernel
theorem d_Mo_exact_71 : decode m_Mo_exact.2.1 71 = .ok (.baload, 1) := by decide +kernel
theorem d_Mo_exact_72 : decode m_Mo_exact.2.1 72 = .ok (.ifCond .ne 24, 3) := by decide +kernel
theorem d_Mo_exact_75 : decode m_Mo_exact.2.1 75 = .ok (.aload_n 0, 1) := by decide +kernel
theorem d_Mo_exact_76 : decode m_Mo_exact.2.1 76 = .ok (.getfield 29, 3) := by decide +kernel
theorem d_Mo_exact_79 : decode m_Mo_exact.2.1 79 = .ok (.iload 5, 2) := by decide +kernel
theorem d_Mo_exact_81 : decode m_Mo_exact.2.1 81 = .ok (.iaload, 1) := by decide +kernel
theorem d_Mo_exact_82 : decode m_Mo_exact.2.1 82 = .ok (.ifCond .gt 14, 3) := by decide +kernel
theorem d_Mo_exact_85 : decode m_Mo_exact.2.1 85 = .ok (.aload_n 0, 1) := by decide +kernel
theorem d_Mo_exact_86 : decode m_Mo_exact.2.1 86 = .ok (.iload_n 2, 1) := by decide +kernel
theorem d_Mo_exact_87 : decode m_Mo_exact.2.1 87 = .ok (.iload_n 3, 1) := by decide +kernel
theorem d_Mo_exact_88 : decode m_Mo_exact.2.1 88 = .ok (.iload 4, 2) := by decide +kernel
theorem d_Mo_exact_90 : decode m_Mo_exact.2.1 90 = .ok (.invokevirtual 256, 3) := by decide +kernel
theorem d_Mo_exact_93 : decode m_Mo_exact.2.1 93 = .ok (.ifCond .ne 7, 3) := by decide +kernel
theorem d_Mo_exact_96 : decode m_Mo_exact.2.1 96 = .ok (.iconst 2, 1) := by decide +kernel
theorem d_Mo_exact_97 : decode m_Mo_exact.2.1 97 = .ok (.goto 4, 3) := by decide +kernel
theorem d_Mo_exact_100 : decode m_Mo_exact.2.1 100 = .ok (.iconst 0, 1) := by decide +kernel
theorem d_Mo_exact_101 : decode m_Mo_exact.2.1 101 = .ok (.putfield 140, 3) := by decide +kernel
theorem d_Mo_exact_104 : decode m_Mo_exact.2.1 104 = .ok (.aload_n 0, 1) := by decide +kernel
theorem d_Mo_exact_105 : decode m_Mo_exact.2.1 105 = .ok (.getfield 140, 3) := by decide +kernel
theorem d_Mo_exact_108 : decode m_Mo_exact.2.1 108 = .ok (.ifCond .le 5, 3) := by decide +kernel
theorem d_Mo_exact_111 : decode m_Mo_exact.2.1 111 = .ok (.iconst 0, 1) := by decide +kernel
theorem d_Mo_exact_112 : decode m_Mo_exact.2.1 112 = .ok (.ireturn, 1) := by decide +kernel
theorem d_Mo_exact_113 : decode m_Mo_exact.2.1 113 = .ok (.aload_n 0, 1) := by decide +kernel
theorem d_Mo_exact_114 : decode m_Mo_exact.2.1 114 = .ok (.iload 5, 2) := by decide +kernel
theorem d_Mo_exact_116 : decode m_Mo_exact.2.1 116 = .ok (.iload_n 2, 1) := by decide +kernel
theorem d_Mo_exact_117 : decode m_Mo_exact.2.1 117 = .ok (.iload_n 3, 1) := by decide +kernel
theorem d_Mo_exact_118 : decode m_Mo_exact.2.1 118 = .ok (.iload 4, 2) := by decide +kernel
theorem d_Mo_exact_120 : decode m_Mo_exact.2.1 120 = .ok (.invokevirtual 260, 3) := by decide +kernel
theorem d_Mo_exact_123 : decode m_Mo_exact.2.1 123 = .ok (.ifCond .eq 12, 3) := by decide +kernel
theorem d_Mo_exact_126 : decode m_Mo_exact.2.1 126 = .ok (.aload_n 0, 1) := by decide +kernel
theorem d_Mo_exact_127 : decode m_Mo_exact.2.1 127 = .ok (.iload 5, 2) := by decide +kernel
theorem d_Mo_exact_129 : decode m_Mo_exact.2.1 129 = .ok (.invokevirtual 244, 3) := by decide +kernel
theorem d_Mo_exact_132 : decode m_Mo_exact.2.1 132 = .ok (.goto 4, 3) := by decide +kernel
theorem d_Mo_exact_135 : decode m_Mo_exact.2.1 135 = .ok (.iconst 0, 1) := by decide +kernel
theorem d_Mo_exact_136 : decode m_Mo_exact.2.1 136 = .ok (.ireturn, 1) := by decide +kernel
theorem d_Mo_isOrder_0 : decode m_Mo_isOrder.2.1 0 = .ok (.iload_n 1, 1) := by decide +kernel
theorem d_Mo_isOrder_1 : decode m_Mo_isOrder.2.1 1 = .ok (.ifCond .lt 15, 3) := by decide +kernel
theorem d_Mo_isOrder_4 : decode m_Mo_isOrder.2.1 4 = .ok (.iload_n 1, 1) := by decide +kernel
theorem d_Mo_isOrder_5 : decode m_Mo_isOrder.2.1 5 = .ok (.aload_n 0, 1) := by decide +kernel
theorem d_Mo_isOrder_6 : decode m_Mo_isOrder.2.1 6 = .ok (.getfield 144, 3) := by decide +kernel
theorem d_Mo_isOrder_9 : decode m_Mo_isOrder.2.1 9 = .ok (.if_icmp .ge 7, 3) := by decide +kernel
theorem d_Mo_isOrder_12 : decode m_Mo_isOrder.2.1 12 = .ok (.iconst 1, 1) := by decide +kernel
theorem d_Mo_isOrder_13 : decode m_Mo_isOrder.2.1 13 = .ok (.goto 4, 3) := by decide +kernel
theorem d_Mo_isOrder_16 : decode m_Mo_isOrder.2.1 16 = .ok (.iconst 0, 1) := by decide +kernel
theorem d_Mo_isOrder_17 : decode m_Mo_isOrder.2.1 17 = .ok (.ireturn, 1) := by decide +kernel
theorem d_Mo_hasOpen_0 : decode m_Mo_hasOpen.2.1 0 = .ok (.iconst 1, 1) := by decide +kernel
theorem d_Mo_hasOpen_1 : decode m_Mo_hasOpen.2.1 1 = .ok (.istore 4, 2) := by decide +kernel
theorem d_Mo_hasOpen_3 : decode m_Mo_hasOpen.2.1 3 = .ok (.iconst 0, 1) := by decide +kernel
theorem d_Mo_hasOpen_4 : decode m_Mo_hasOpen.2.1 4 = .ok (.istore 5, 2) := by decide +kernel
theorem d_Mo_hasOpen_6 : decode m_Mo_hasOpen.2.1 6 = .ok (.iload 5, 2) := by decide +kernel
theorem d_Mo_hasOpen_8 : decode m_Mo_hasOpen.2.1 8 = .ok (.aload_n 0, 1) := by decide +kernel
theorem d_Mo_hasOpen_9 : decode m_Mo_hasOpen.2.1 9 = .ok (.getfield 144, 3) := by decide +kernel
theorem d_Mo_hasOpen_12 : decode m_Mo_hasOpen.2.1 12 = .ok (.if_icmp .ge 70, 3) := by decide +kernel
theorem d_Mo_hasOpen_15 : decode m_Mo_hasOpen.2.1 15 = .ok (.iload_n 1, 1) := by decide +kernel
theorem d_Mo_hasOpen_16 : decode m_Mo_hasOpen.2.1 16 = .ok (.iload 5, 2) := by decide +kernel
theorem d_Mo_hasOpen_18 : decode m_Mo_hasOpen.2.1 18 = .ok (.if_icmp .ne 7, 3) := by decide +kernel
theorem d_Mo_hasOpen_21 : decode m_Mo_hasOpen.2.1 21 = .ok (.iconst 1, 1) := by decide +kernel
theorem d_Mo_hasOpen_22 : decode m_Mo_hasOpen.2.1 22 = .ok (.goto 4, 3) := by decide +kernel
theorem d_Mo_hasOpen_25 : decode m_Mo_hasOpen.2.1 25 = .ok (.iconst 0, 1) := by decide +kernel
theorem d_Mo_hasOpen_26 : decode m_Mo_hasOpen.2.1 26 = .ok (.iload_n 2, 1) := by decide +kernel
theorem d_Mo_hasOpen_27 : decode m_Mo_hasOpen.2.1 27 = .ok (.iload 5, 2) := by decide +kernel
theorem d_Mo_hasOpen_29 : decode m_Mo_hasOpen.2.1 29 = .ok (.if_icmp .ne 7, 3) := by decide +kernel
theorem d_Mo_hasOpen_32 : decode m_Mo_hasOpen.2.1 32 = .ok (.iconst 1, 1) := by decide +kernel
theorem d_Mo_hasOpen_33 : decode m_Mo_hasOpen.2.1 33 = .ok (.goto 4, 3) := by decide +kernel
theorem d_Mo_hasOpen_36 : decode m_Mo_hasOpen.2.1 36 = .ok (.iconst 0, 1) := by decide +kernel
theorem d_Mo_hasOpen_37 : decode m_Mo_hasOpen.2.1 37 = .ok (.iadd, 1) := by decide +kernel
theorem d_Mo_hasOpen_38 : decode m_Mo_hasOpen.2.1 38 = .ok (.iload_n 3, 1) := by decide +kernel
theorem d_Mo_hasOpen_39 : decode m_Mo_hasOpen.2.1 39 = .ok (.iload 5, 2) := by decide +kernel
theorem d_Mo_hasOpen_41 : decode m_Mo_hasOpen.2.1 41 = .ok (.if_icmp .ne 7, 3) := by decide +kernel
theorem d_Mo_hasOpen_44 : decode m_Mo_hasOpen.2.1 44 = .ok (.iconst 1, 1) := by decide +kernel
theorem d_Mo_hasOpen_45 : decode m_Mo_hasOpen.2.1 45 = .ok (.goto 4, 3) := by decide +kernel
theorem d_Mo_hasOpen_48 : decode m_Mo_hasOpen.2.1 48 = .ok (.iconst 0, 1) := by decide +kernel
theorem d_Mo_hasOpen_49 : decode m_Mo_hasOpen.2.1 49 = .ok (.iadd, 1) := by decide +kernel
theorem d_Mo_hasOpen_50 : decode m_Mo_hasOpen.2.1 50 = .ok (.istore 6, 2) := by decide +kernel
theorem d_Mo_hasOpen_52 : decode m_Mo_hasOpen.2.1 52 = .ok (.iload 4, 2) := by decide +kernel
theorem d_Mo_hasOpen_54 : decode m_Mo_hasOpen.2.1 54 = .ok (.ifCond .eq 19, 3) := by decide +kernel
theorem d_Mo_hasOpen_57 : decode m_Mo_hasOpen.2.1 57 = .ok (.iload 6, 2) := by decide +kernel
theorem d_Mo_hasOpen_59 : decode m_Mo_hasOpen.2.1 59 = .ok (.aload_n 0, 1) := by decide +kernel
theorem d_Mo_hasOpen_60 : decode m_Mo_hasOpen.2.1 60 = .ok (.getfield 74, 3) := by decide +kernel
theorem d_Mo_hasOpen_63 : decode m_Mo_hasOpen.2.1 63 = .ok (.iload 5, 2) := by decide +kernel
theorem d_Mo_hasOpen_65 : decode m_Mo_hasOpen.2.1 65 = .ok (.iaload, 1) := by decide +kernel
theorem d_Mo_hasOpen_66 : decode m_Mo_hasOpen.2.1 66 = .ok (.if_icmp .gt 7, 3) := by decide +kernel
theorem d_Mo_hasOpen_69 : decode m_Mo_hasOpen.2.1 69 = .ok (.iconst 1, 1) := by decide +kernel
theorem d_Mo_hasOpen_70 : decode m_Mo_hasOpen.2.1 70 = .ok (.goto 4, 3) := by decide +kernel
theorem d_Mo_hasOpen_73 : decode m_Mo_hasOpen.2.1 73 = .ok (.iconst 0, 1) := by decide +kernel
theorem d_Mo_hasOpen_74 : decode m_Mo_hasOpen.2.1 74 = .ok (.istore 4, 2) := by decide +kernel
theorem d_Mo_hasOpen_76 : decode m_Mo_hasOpen.2.1 76 = .ok (.iinc 5 1, 3) := by decide +kernel
theorem d_Mo_hasOpen_79 : decode m_Mo_hasOpen.2.1 79 = .ok (.goto (-73), 3) := by decide +kernel
theorem d_Mo_hasOpen_82 : decode m_Mo_hasOpen.2.1 82 = .ok (.iload 4, 2) := by decide +kernel
theorem d_Mo_hasOpen_84 : decode m_Mo_hasOpen.2.1 84 = .ok (.ireturn, 1) := by decide +kernel
theorem d_Mo_isFound_0 : decode m_Mo_isFound.2.1 0 = .ok (.iconst 0, 1) := by decide +kernel
theorem d_Mo_isFound_1 : decode m_Mo_isFound.2.1 1 = .ok (.istore 5, 2) := by decide +kernel
theorem d_Mo_isFound_3 : decode m_Mo_isFound.2.1 3 = .ok (.iload 5, 2) := by decide +kernel
theorem d_Mo_isFound_5 : decode m_Mo_isFound.2.1 5 = .ok (.iconst 2, 1) := by decide +kernel
theorem d_Mo_isFound_6 : decode m_Mo_isFound.2.1 6 = .ok (.if_icmp .ge 141, 3) := by decide +kernel
theorem d_Mo_isFound_9 : decode m_Mo_isFound.2.1 9 = .ok (.iconst 0, 1) := by decide +kernel
theorem d_Mo_isFound_10 : decode m_Mo_isFound.2.1 10 = .ok (.istore 6, 2) := by decide +kernel
theorem d_Mo_isFound_12 : decode m_Mo_isFound.2.1 12 = .ok (.iload 6, 2) := by decide +kernel
theorem d_Mo_isFound_14 : decode m_Mo_isFound.2.1 14 = .ok (.iload_n 3, 1) := by decide +kernel
theorem d_Mo_isFound_15 : decode m_Mo_isFound.2.1 15 = .ok (.ifCond .ge 7, 3) := by decide +kernel
theorem d_Mo_isFound_18 : decode m_Mo_isFound.2.1 18 = .ok (.iconst 1, 1) := by decide +kernel
theorem d_Mo_isFound_19 : decode m_Mo_isFound.2.1 19 = .ok (.goto 5, 3) := by decide +kernel
theorem d_Mo_isFound_22 : decode m_Mo_isFound.2.1 22 = .ok (.bipush 32, 2) := by decide +kernel
theorem d_Mo_isFound_24 : decode m_Mo_isFound.2.1 24 = .ok (.if_icmp .ge 117, 3) := by decide +kernel
theorem d_Mo_isFound_27 : decode m_Mo_isFound.2.1 27 = .ok (.iconst 0, 1) := by decide +kernel
theorem d_Mo_isFound_28 : decode m_Mo_isFound.2.1 28 = .ok (.istore 7, 2) := by decide +kernel
theorem d_Mo_isFound_30 : decode m_Mo_isFound.2.1 30 = .ok (.iload 7, 2) := by decide +kernel
theorem d_Mo_isFound_32 : decode m_Mo_isFound.2.1 32 = .ok (.iload 4, 2) := by decide +kernel
theorem d_Mo_isFound_34 : decode m_Mo_isFound.2.1 34 = .ok (.ifCond .ge 7, 3) := by decide +kernel
theorem d_Mo_isFound_37 : decode m_Mo_isFound.2.1 37 = .ok (.iconst 1, 1) := by decide +kernel
theorem d_Mo_isFound_38 : decode m_Mo_isFound.2.1 38 = .ok (.goto 5, 3) := by decide +kernel
theorem d_Mo_isFound_41 : decode m_Mo_isFound.2.1 41 = .ok (.bipush 32, 2) := by decide +kernel
theorem d_Mo_isFound_43 : decode m_Mo_isFound.2.1 43 = .ok (.if_icmp .ge 92, 3) := by decide +kernel
theorem d_Mo_isFound_46 : decode m_Mo_isFound.2.1 46 = .ok (.aload_n 0, 1) := by decide +kernel
theorem d_Mo_isFound_47 : decode m_Mo_isFound.2.1 47 = .ok (.iconst 0, 1) := by decide +kernel
theorem d_Mo_isFound_48 : decode m_Mo_isFound.2.1 48 = .ok (.putfield 174, 3) := by decide +kernel
theorem d_Mo_isFound_51 : decode m_Mo_isFound.2.1 51 = .ok (.aload_n 0, 1) := by decide +kernel
theorem d_Mo_isFound_52 : decode m_Mo_isFound.2.1 52 = .ok (.iload_n 2, 1) := by decide +kernel
theorem d_Mo_isFound_53 : decode m_Mo_isFound.2.1 53 = .ok (.iload 5, 2) := by decide +kernel
theorem d_Mo_isFound_55 : decode m_Mo_isFound.2.1 55 = .ok (.invokevirtual 247, 3) := by decide +kernel
theorem d_Mo_isFound_58 : decode m_Mo_isFound.2.1 58 = .ok (.istore 8, 2) := by decide +kernel
theorem d_Mo_isFound_60 : decode m_Mo_isFound.2.1 60 = .ok (.iload 8, 2) := by decide +kernel
theorem d_Mo_isFound_62 : decode m_Mo_isFound.2.1 62 = .ok (.ifCond .eq 21, 3) := by decide +kernel
theorem d_Mo_isFound_65 : decode m_Mo_isFound.2.1 65 = .ok (.iload_n 3, 1) := by decide +kernel
theorem d_Mo_isFound_66 : decode m_Mo_isFound.2.1 66 = .ok (.ifCond .lt 13, 3) := by decide +kernel
theorem d_Mo_isFound_69 : decode m_Mo_isFound.2.1 69 = .ok (.aload_n 0, 1) := by decide +kernel
theorem d_Mo_isFound_70 : decode m_Mo_isFound.2.1 70 = .ok (.iload_n 3, 1) := by decide +kernel
theorem d_Mo_isFound_71 : decode m_Mo_isFound.2.1 71 = .ok (.iload 6, 2) := by decide +kernel
theorem d_Mo_isFound_73 : decode m_Mo_isFound.2.1 73 = .ok (.invokevirtual 247, 3) := by decide +kernel
theorem d_Mo_isFound_76 : decode m_Mo_isFound.2.1 76 = .ok (.ifCond .eq 7, 3) := by decide +kernel
theorem d_Mo_isFound_79 : decode m_Mo_isFound.2.1 79 = .ok (.iconst 1, 1) := by decide +kernel
theorem d_Mo_isFound_80 : decode m_Mo_isFound.2.1 80 = .ok (.goto 4, 3) := by decide +kernel
theorem d_Mo_isFound_83 : decode m_Mo_isFound.2.1 83 = .ok (.iconst 0, 1) := by decide +kernel
theorem d_Mo_isFound_84 : decode m_Mo_isFound.2.1 84 = .ok (.istore 8, 2) := by decide +kernel
theorem d_Mo_isFound_86 : decode m_Mo_isFound.2.1 86 = .ok (.iload 8, 2) := by decide +kernel
theorem d_Mo_isFound_88 : decode m_Mo_isFound.2.1 88 = .ok (.ifCond .eq 23, 3) := by decide +kernel
theorem d_Mo_isFound_91 : decode m_Mo_isFound.2.1 91 = .ok (.iload 4, 2) := by decide +kernel
theorem d_Mo_isFound_93 : decode m_Mo_isFound.2.1 93 = .ok (.ifCond .lt 14, 3) := by decide +kernel
theorem d_Mo_isFound_96 : decode m_Mo_isFound.2.1 96 = .ok (.aload_n 0, 1) := by decide +kernel
theorem d_Mo_isFound_97 : decode m_Mo_isFound.2.1 97 = .ok (.iload 4, 2) := by decide +kernel
theorem d_Mo_isFound_99 : decode m_Mo_isFound.2.1 99 = .ok (.iload 7, 2) := by decide +kernel
theorem d_Mo_isFound_101 : decode m_Mo_isFound.2.1 101 = .ok (.invokevirtual 247, 3) := by decide +kernel
theorem d_Mo_isFound_104 : decode m_Mo_isFound.2.1 104 = .ok (.ifCond .eq 7, 3) := by decide +kernel
theorem d_Mo_isFound_107 : decode m_Mo_isFound.2.1 107 = .ok (.iconst 1, 1) := by decide +kernel
theorem d_Mo_isFound_108 : decode m_Mo_isFound.2.1 108 = .ok (.goto 4, 3) := by decide +kernel
theorem d_Mo_isFound_111 : decode m_Mo_isFound.2.1 111 = .ok (.iconst 0, 1) := by decide +kernel
theorem d_Mo_isFound_112 : decode m_Mo_isFound.2.1 112 = .ok (.istore 8, 2) := by decide +kernel
theorem d_Mo_isFound_114 : decode m_Mo_isFound.2.1 114 = .ok (.iload 8, 2) := by decide +kernel
theorem d_Mo_isFound_116 : decode m_Mo_isFound.2.1 116 = .ok (.ifCond .eq 13, 3) := by decide +kernel
theorem d_Mo_isFound_119 : decode m_Mo_isFound.2.1 119 = .ok (.aload_n 0, 1) := by decide +kernel
theorem d_Mo_isFound_120 : decode m_Mo_isFound.2.1 120 = .ok (.iload_n 1, 1) := by decide +kernel
theorem d_Mo_isFound_121 : decode m_Mo_isFound.2.1 121 = .ok (.invokevirtual 250, 3) := by decide +kernel
theorem d_Mo_isFound_124 : decode m_Mo_isFound.2.1 124 = .ok (.ifCond .eq 5, 3) := by decide +kernel
theorem d_Mo_isFound_127 : decode m_Mo_isFound.2.1 127 = .ok (.iconst 1, 1) := by decide +kernel
theorem d_Mo_isFound_128 : decode m_Mo_isFound.2.1 128 = .ok (.ireturn, 1) := by decide +kernel
theorem d_Mo_isFound_129 : decode m_Mo_isFound.2.1 129 = .ok (.iinc 7 1, 3) := by decide +kernel
theorem d_Mo_isFound_132 : decode m_Mo_isFound.2.1 132 = .ok (.goto (-102), 3) := by decide +kernel
theorem d_Mo_isFound_135 : decode m_Mo_isFound.2.1 135 = .ok (.iinc 6 1, 3) := by decide +kernel
theorem d_Mo_isFound_138 : decode m_Mo_isFound.2.1 138 = .ok (.goto (-126), 3) := by decide +kernel
theorem d_Mo_isFound_141 : decode m_Mo_isFound.2.1 141 = .ok (.iinc 5 1, 3) := by decide +kernel
theorem d_Mo_isFound_144 : decode m_Mo_isFound.2.1 144 = .ok (.goto (-141), 3) := by decide +kernel
theorem d_Mo_isFound_147 : decode m_Mo_isFound.2.1 147 = .ok (.iconst 0, 1) := by decide +kernel
theorem d_Mo_isFound_148 : decode m_Mo_isFound.2.1 148 = .ok (.ireturn, 1) := by decide +kernel
theorem d_Mo_name_0 : decode m_Mo_name.2.1 0 = .ok (.iload_n 2, 1) := by decide +kernel
theorem d_Mo_name_1 : decode m_Mo_name.2.1 1 = .ok (.bipush 8, 2) := by decide +kernel
theorem d_Mo_name_3 : decode m_Mo_name.2.1 3 = .ok (.idiv, 1) := by decide +kernel
theorem d_Mo_name_4 : decode m_Mo_name.2.1 4 = .ok (.istore_n 3, 1) := by decide +kernel
theorem d_Mo_name_5 : decode m_Mo_name.2.1 5 = .ok (.iload_n 2, 1) := by decide +kernel
theorem d_Mo_name_6 : decode m_Mo_name.2.1 6 = .ok (.iconst 2, 1) := by decide +kernel
theorem d_Mo_name_7 : decode m_Mo_name.2.1 7 = .ok (.idiv, 1) := by decide +kernel
theorem d_Mo_name_8 : decode m_Mo_name.2.1 8 = .ok (.iconst 4, 1) := by decide +kernel
theorem d_Mo_name_9 : decode m_Mo_name.2.1 9 = .ok (.irem, 1) := by decide +kernel
theorem d_Mo_name_10 : decode m_Mo_name.2.1 10 = .ok (.istore 4, 2) := by decide +kernel
theorem d_Mo_name_12 : decode m_Mo_name.2.1 12 = .ok (.iload_n 2, 1) := by decide +kernel
theorem d_Mo_name_13 : decode m_Mo_name.2.1 13 = .ok (.iconst 2, 1) := by decide +kernel
theorem d_Mo_name_14 : decode m_Mo_name.2.1 14 = .ok (.irem, 1) := by decide +kernel
theorem d_Mo_name_15 : decode m_Mo_name.2.1 15 = .ok (.iconst 1, 1) := by decide +kernel
theorem d_Mo_name_16 : decode m_Mo_name.2.1 16 = .ok (.if_icmp .ne 7, 3) := by decide +kernel
theorem d_Mo_name_19 : decode m_Mo_name.2.1 19 = .ok (.iconst 1, 1) := by decide +kernel
theorem d_Mo_name_20 : decode m_Mo_name.2.1 20 = .ok (.goto 4, 3) := by decide +kernel
theorem d_Mo_name_23 : decode m_Mo_name.2.1 23 = .ok (.iconst 0, 1) := by decide +kernel
theorem d_Mo_name_24 : decode m_Mo_name.2.1 24 = .ok (.istore 5, 2) := by decide +kernel
theorem d_Mo_name_26 : decode m_Mo_name.2.1 26 = .ok (.iload_n 3, 1) := by decide +kernel
theorem d_Mo_name_27 : decode m_Mo_name.2.1 27 = .ok (.aload_n 0, 1) := by decide +kernel
theorem d_Mo_name_28 : decode m_Mo_name.2.1 28 = .ok (.invokevirtual 180, 3) := by decide +kernel
theorem d_Mo_name_31 : decode m_Mo_name.2.1 31 = .ok (.if_icmp .gt 42, 3) := by decide +kernel
theorem d_Mo_name_34 : decode m_Mo_name.2.1 34 = .ok (.iload 4, 2) := by decide +kernel
theorem d_Mo_name_36 : decode m_Mo_name.2.1 36 = .ok (.aload_n 0, 1) := by decide +kernel
theorem d_Mo_name_37 : decode m_Mo_name.2.1 37 = .ok (.iload_n 3, 1) := by decide +kernel
theorem d_Mo_name_38 : decode m_Mo_name.2.1 38 = .ok (.invokevirtual 186, 3) := by decide +kernel
theorem d_Mo_name_41 : decode m_Mo_name.2.1 41 = .ok (.if_icmp .gt 32, 3) := by decide +kernel
theorem d_Mo_name_44 : decode m_Mo_name.2.1 44 = .ok (.iload 5, 2) := by decide +kernel
theorem d_Mo_name_46 : decode m_Mo_name.2.1 46 = .ok (.ifCond .eq 29, 3) := by decide +kernel
theorem d_Mo_name_49 : decode m_Mo_name.2.1 49 = .ok (.aload_n 0, 1) := by decide +kernel
theorem d_Mo_name_50 : decode m_Mo_name.2.1 50 = .ok (.getfield 71, 3) := by decide +kernel
theorem d_Mo_name_53 : decode m_Mo_name.2.1 53 = .ok (.iload_n 1, 1) := by decide +kernel
theorem d_Mo_name_54 : decode m_Mo_name.2.1 54 = .ok (.baload, 1) := by decide +kernel
theorem d_Mo_name_55 : decode m_Mo_name.2.1 55 = .ok (.ifCond .eq 18, 3) := by decide +kernel
theorem d_Mo_name_58 : decode m_Mo_name.2.1 58 = .ok (.aload_n 0, 1) := by decide +kernel
theorem d_Mo_name_59 : decode m_Mo_name.2.1 59 = .ok (.getfield 65, 3) := by decide +kernel
theorem d_Mo_name_62 : decode m_Mo_name.2.1 62 = .ok (.iload_n 1, 1) := by decide +kernel
theorem d_Mo_name_63 : decode m_Mo_name.2.1 63 = .ok (.iaload, 1) := by decide +kernel
theorem d_Mo_name_64 : decode m_Mo_name.2.1 64 = .ok (.aload_n 0, 1) := by decide +kernel
theorem d_Mo_name_65 : decode m_Mo_name.2.1 65 = .ok (.getfield 68, 3) := by decide +kernel
theorem d_Mo_name_68 : decode m_Mo_name.2.1 68 = .ok (.iload_n 1, 1) := by decide +kernel
theorem d_Mo_name_69 : decode m_Mo_name.2.1 69 = .ok (.iaload, 1) := by decide +kernel
theorem d_Mo_name_70 : decode m_Mo_name.2.1 70 = .ok (.if_icmp .ne 5, 3) := by decide +kernel
theorem d_Mo_name_73 : decode m_Mo_name.2.1 73 = .ok (.iconst 0, 1) := by decide +kernel
theorem d_Mo_name_74 : decode m_Mo_name.2.1 74 = .ok (.ireturn, 1) := by decide +kernel
theorem d_Mo_name_75 : decode m_Mo_name.2.1 75 = .ok (.aload_n 0, 1) := by decide +kernel
theorem d_Mo_name_76 : decode m_Mo_name.2.1 76 = .ok (.iload_n 1, 1) := by decide +kernel
theorem d_Mo_name_77 : decode m_Mo_name.2.1 77 = .ok (.iload 5, 2) := by decide +kernel
theorem d_Mo_name_79 : decode m_Mo_name.2.1 79 = .ok (.iload_n 3, 1) := by decide +kernel
theorem d_Mo_name_80 : decode m_Mo_name.2.1 80 = .ok (.iload 4, 2) := by decide +kernel
theorem d_Mo_name_82 : decode m_Mo_name.2.1 82 = .ok (.invokevirtual 212, 3) := by decide +kernel
theorem d_Mo_name_85 : decode m_Mo_name.2.1 85 = .ok (.iconst 1, 1) := by decide +kernel
theorem d_Mo_name_86 : decode m_Mo_name.2.1 86 = .ok (.ireturn, 1) := by decide +kernel
theorem d_Mo_columns_0 : decode m_Mo_columns.2.1 0 = .ok (.iconst 0, 1) := by decide +kernel
theorem d_Mo_columns_1 : decode m_Mo_columns.2.1 1 = .ok (.istore_n 1, 1) := by decide +kernel
theorem d_Mo_columns_2 : decode m_Mo_columns.2.1 2 = .ok (.iconst 0, 1) := by decide +kernel
theorem d_Mo_columns_3 : decode m_Mo_columns.2.1 3 = .ok (.istore_n 2, 1) := by decide +kernel
theorem d_Mo_columns_4 : decode m_Mo_columns.2.1 4 = .ok (.iload_n 2, 1) := by decide +kernel
theorem d_Mo_columns_5 : decode m_Mo_columns.2.1 5 = .ok (.aload_n 0, 1) := by decide +kernel
theorem d_Mo_columns_6 : decode m_Mo_columns.2.1 6 = .ok (.getfield 174, 3) := by decide +kernel
theorem d_Mo_columns_9 : decode m_Mo_columns.2.1 9 = .ok (.if_icmp .ge 32, 3) := by decide +kernel
theorem d_Mo_columns_12 : decode m_Mo_columns.2.1 12 = .ok (.aload_n 0, 1) := by decide +kernel
theorem d_Mo_columns_13 : decode m_Mo_columns.2.1 13 = .ok (.getfield 104, 3) := by decide +kernel
theorem d_Mo_columns_16 : decode m_Mo_columns.2.1 16 = .ok (.iload_n 2, 1) := by decide +kernel
theorem d_Mo_columns_17 : decode m_Mo_columns.2.1 17 = .ok (.iaload, 1) := by decide +kernel
theorem d_Mo_columns_18 : decode m_Mo_columns.2.1 18 = .ok (.iload_n 1, 1) := by decide +kernel
theorem d_Mo_columns_19 : decode m_Mo_columns.2.1 19 = .ok (.if_icmp .lt 14, 3) := by decide +kernel
theorem d_Mo_columns_22 : decode m_Mo_columns.2.1 22 = .ok (.aload_n 0, 1) := by decide +kernel
theorem d_Mo_columns_23 : decode m_Mo_columns.2.1 23 = .ok (.getfield 104, 3) := by decide +kernel
theorem d_Mo_columns_26 : decode m_Mo_columns.2.1 26 = .ok (.iload_n 2, 1) := by decide +kernel
theorem d_Mo_columns_27 : decode m_Mo_columns.2.1 27 = .ok (.iaload, 1) := by decide +kernel
theorem d_Mo_columns_28 : decode m_Mo_columns.2.1 28 = .ok (.iconst 1, 1) := by decide +kernel
theorem d_Mo_columns_29 : decode m_Mo_columns.2.1 29 = .ok (.iadd, 1) := by decide +kernel
theorem d_Mo_columns_30 : decode m_Mo_columns.2.1 30 = .ok (.goto 4, 3) := by decide +kernel
theorem d_Mo_columns_33 : decode m_Mo_columns.2.1 33 = .ok (.iload_n 1, 1) := by decide +kernel
theorem d_Mo_columns_34 : decode m_Mo_columns.2.1 34 = .ok (.istore_n 1, 1) := by decide +kernel
theorem d_Mo_columns_35 : decode m_Mo_columns.2.1 35 = .ok (.iinc 2 1, 3) := by decide +kernel
theorem d_Mo_columns_38 : decode m_Mo_columns.2.1 38 = .ok (.goto (-34), 3) := by decide +kernel
theorem d_Mo_columns_41 : decode m_Mo_columns.2.1 41 = .ok (.iload_n 1, 1) := by decide +kernel
theorem d_Mo_columns_42 : decode m_Mo_columns.2.1 42 = .ok (.ireturn, 1) := by decide +kernel
theorem d_Mo_rowsOf_0 : decode m_Mo_rowsOf.2.1 0 = .ok (.iconst 0, 1) := by decide +kernel
theorem d_Mo_rowsOf_1 : decode m_Mo_rowsOf.2.1 1 = .ok (.istore_n 2, 1) := by decide +kernel
theorem d_Mo_rowsOf_2 : decode m_Mo_rowsOf.2.1 2 = .ok (.iconst 0, 1) := by decide +kernel
theorem d_Mo_rowsOf_3 : decode m_Mo_rowsOf.2.1 3 = .ok (.istore_n 3, 1) := by decide +kernel
theorem d_Mo_rowsOf_4 : decode m_Mo_rowsOf.2.1 4 = .ok (.iload_n 3, 1) := by decide +kernel
theorem d_Mo_rowsOf_5 : decode m_Mo_rowsOf.2.1 5 = .ok (.aload_n 0, 1) := by decide +kernel
theorem d_Mo_rowsOf_6 : decode m_Mo_rowsOf.2.1 6 = .ok (.getfield 174, 3) := by decide +kernel
theorem d_Mo_rowsOf_9 : decode m_Mo_rowsOf.2.1 9 = .ok (.if_icmp .ge 42, 3) := by decide +kernel
theorem d_Mo_rowsOf_12 : decode m_Mo_rowsOf.2.1 12 = .ok (.aload_n 0, 1) := by decide +kernel
theorem d_Mo_rowsOf_13 : decode m_Mo_rowsOf.2.1 13 = .ok (.getfield 104, 3) := by decide +kernel
theorem d_Mo_rowsOf_16 : decode m_Mo_rowsOf.2.1 16 = .ok (.iload_n 3, 1) := by decide +kernel
theorem d_Mo_rowsOf_17 : decode m_Mo_rowsOf.2.1 17 = .ok (.iaload, 1) := by decide +kernel
theorem d_Mo_rowsOf_18 : decode m_Mo_rowsOf.2.1 18 = .ok (.iload_n 1, 1) := by decide +kernel
theorem d_Mo_rowsOf_19 : decode m_Mo_rowsOf.2.1 19 = .ok (.if_icmp .ne 24, 3) := by decide +kernel
theorem d_Mo_rowsOf_22 : decode m_Mo_rowsOf.2.1 22 = .ok (.aload_n 0, 1) := by decide +kernel
theorem d_Mo_rowsOf_23 : decode m_Mo_rowsOf.2.1 23 = .ok (.getfield 107, 3) := by decide +kernel
theorem d_Mo_rowsOf_26 : decode m_Mo_rowsOf.2.1 26 = .ok (.iload_n 3, 1) := by decide +kernel
theorem d_Mo_rowsOf_27 : decode m_Mo_rowsOf.2.1 27 = .ok (.iaload, 1) := by decide +kernel
theorem d_Mo_rowsOf_28 : decode m_Mo_rowsOf.2.1 28 = .ok (.iload_n 2, 1) := by decide +kernel
theorem d_Mo_rowsOf_29 : decode m_Mo_rowsOf.2.1 29 = .ok (.if_icmp .lt 14, 3) := by decide +kernel
theorem d_Mo_rowsOf_32 : decode m_Mo_rowsOf.2.1 32 = .ok (.aload_n 0, 1) := by decide +kernel
theorem d_Mo_rowsOf_33 : decode m_Mo_rowsOf.2.1 33 = .ok (.getfield 107, 3) := by decide +kernel
theorem d_Mo_rowsOf_36 : decode m_Mo_rowsOf.2.1 36 = .ok (.iload_n 3, 1) := by decide +kernel
theorem d_Mo_rowsOf_37 : decode m_Mo_rowsOf.2.1 37 = .ok (.iaload, 1) := by decide +kernel
theorem d_Mo_rowsOf_38 : decode m_Mo_rowsOf.2.1 38 = .ok (.iconst 1, 1) := by decide +kernel
theorem d_Mo_rowsOf_39 : decode m_Mo_rowsOf.2.1 39 = .ok (.iadd, 1) := by decide +kernel
theorem d_Mo_rowsOf_40 : decode m_Mo_rowsOf.2.1 40 = .ok (.goto 4, 3) := by decide +kernel
theorem d_Mo_rowsOf_43 : decode m_Mo_rowsOf.2.1 43 = .ok (.iload_n 2, 1) := by decide +kernel
theorem d_Mo_rowsOf_44 : decode m_Mo_rowsOf.2.1 44 = .ok (.istore_n 2, 1) := by decide +kernel
theorem d_Mo_rowsOf_45 : decode m_Mo_rowsOf.2.1 45 = .ok (.iinc 3 1, 3) := by decide +kernel
theorem d_Mo_rowsOf_48 : decode m_Mo_rowsOf.2.1 48 = .ok (.goto (-44), 3) := by decide +kernel
theorem d_Mo_rowsOf_51 : decode m_Mo_rowsOf.2.1 51 = .ok (.iload_n 2, 1) := by decide +kernel
theorem d_Mo_rowsOf_52 : decode m_Mo_rowsOf.2.1 52 = .ok (.ireturn, 1) := by decide +kernel
theorem d_Mo_fits_0 : decode m_Mo_fits.2.1 0 = .ok (.iconst 0, 1) := by decide +kernel
theorem d_Mo_fits_1 : decode m_Mo_fits.2.1 1 = .ok (.istore_n 2, 1) := by decide +kernel
theorem d_Mo_fits_2 : decode m_Mo_fits.2.1 2 = .ok (.iconst 0, 1) := by decide +kernel
theorem d_Mo_fits_3 : decode m_Mo_fits.2.1 3 = .ok (.istore_n 3, 1) := by decide +kernel
theorem d_Mo_fits_4 : decode m_Mo_fits.2.1 4 = .ok (.iload_n 3, 1) := by decide +kernel
theorem d_Mo_fits_5 : decode m_Mo_fits.2.1 5 = .ok (.aload_n 0, 1) := by decide +kernel
theorem d_Mo_fits_6 : decode m_Mo_fits.2.1 6 = .ok (.invokevirtual 180, 3) := by decide +kernel
theorem d_Mo_fits_9 : decode m_Mo_fits.2.1 9 = .ok (.if_icmp .ge 64, 3) := by decide +kernel
theorem d_Mo_fits_12 : decode m_Mo_fits.2.1 12 = .ok (.iload_n 2, 1) := by decide +kernel
theorem d_Mo_fits_13 : decode m_Mo_fits.2.1 13 = .ok (.aload_n 0, 1) := by decide +kernel
theorem d_Mo_fits_14 : decode m_Mo_fits.2.1 14 = .ok (.iload_n 3, 1) := by decide +kernel
theorem d_Mo_fits_15 : decode m_Mo_fits.2.1 15 = .ok (.invokevirtual 183, 3) := by decide +kernel
theorem d_Mo_fits_18 : decode m_Mo_fits.2.1 18 = .ok (.iadd, 1) := by decide +kernel
theorem d_Mo_fits_19 : decode m_Mo_fits.2.1 19 = .ok (.istore_n 2, 1) := by decide +kernel
theorem d_Mo_fits_20 : decode m_Mo_fits.2.1 20 = .ok (.iconst 0, 1) := by decide +kernel
theorem d_Mo_fits_21 : decode m_Mo_fits.2.1 21 = .ok (.istore 4, 2) := by decide +kernel
theorem d_Mo_fits_23 : decode m_Mo_fits.2.1 23 = .ok (.iconst 0, 1) := by decide +kernel
theorem d_Mo_fits_24 : decode m_Mo_fits.2.1 24 = .ok (.istore 5, 2) := by decide +kernel
theorem d_Mo_fits_26 : decode m_Mo_fits.2.1 26 = .ok (.iload 5, 2) := by decide +kernel
theorem d_Mo_fits_28 : decode m_Mo_fits.2.1 28 = .ok (.aload_n 0, 1) := by decide +kernel
theorem d_Mo_fits_29 : decode m_Mo_fits.2.1 29 = .ok (.iload_n 3, 1) := by decide +kernel
theorem d_Mo_fits_30 : decode m_Mo_fits.2.1 30 = .ok (.invokevirtual 186, 3) := by decide +kernel
theorem d_Mo_fits_33 : decode m_Mo_fits.2.1 33 = .ok (.if_icmp .ge 21, 3) := by decide +kernel
theorem d_Mo_fits_36 : decode m_Mo_fits.2.1 36 = .ok (.iload 4, 2) := by decide +kernel
theorem d_Mo_fits_38 : decode m_Mo_fits.2.1 38 = .ok (.aload_n 0, 1) := by decide +kernel
theorem d_Mo_fits_39 : decode m_Mo_fits.2.1 39 = .ok (.iload_n 3, 1) := by decide +kernel
theorem d_Mo_fits_40 : decode m_Mo_fits.2.1 40 = .ok (.iload 5, 2) := by decide +kernel
theorem d_Mo_fits_42 : decode m_Mo_fits.2.1 42 = .ok (.invokevirtual 189, 3) := by decide +kernel
theorem d_Mo_fits_45 : decode m_Mo_fits.2.1 45 = .ok (.iadd, 1) := by decide +kernel
theorem d_Mo_fits_46 : decode m_Mo_fits.2.1 46 = .ok (.istore 4, 2) := by decide +kernel
theorem d_Mo_fits_48 : decode m_Mo_fits.2.1 48 = .ok (.iinc 5 1, 3) := by decide +kernel
theorem d_Mo_fits_51 : decode m_Mo_fits.2.1 51 = .ok (.goto (-25), 3) := by decide +kernel
theorem d_Mo_fits_54 : decode m_Mo_fits.2.1 54 = .ok (.iload 4, 2) := by decide +kernel
theorem d_Mo_fits_56 : decode m_Mo_fits.2.1 56 = .ok (.aload_n 0, 1) := by decide +kernel
theorem d_Mo_fits_57 : decode m_Mo_fits.2.1 57 = .ok (.getfield 20, 3) := by decide +kernel
theorem d_Mo_fits_60 : decode m_Mo_fits.2.1 60 = .ok (.iload_n 1, 1) := by decide +kernel
theorem d_Mo_fits_61 : decode m_Mo_fits.2.1 61 = .ok (.iaload, 1) := by decide +kernel
theorem d_Mo_fits_62 : decode m_Mo_fits.2.1 62 = .ok (.if_icmp .le 5, 3) := by decide +kernel
theorem d_Mo_fits_65 : decode m_Mo_fits.2.1 65 = .ok (.iconst 0, 1) := by decide +kernel
theorem d_Mo_fits_66 : decode m_Mo_fits.2.1 66 = .ok (.ireturn, 1) := by decide +kernel
theorem d_Mo_fits_67 : decode m_Mo_fits.2.1 67 = .ok (.iinc 3 1, 3) := by decide +kernel
theorem d_Mo_fits_70 : decode m_Mo_fits.2.1 70 = .ok (.goto (-66), 3) := by decide +kernel
theorem d_Mo_fits_73 : decode m_Mo_fits.2.1 73 = .ok (.iload_n 2, 1) := by decide +kernel
theorem d_Mo_fits_74 : decode m_Mo_fits.2.1 74 = .ok (.aload_n 0, 1) := by decide +kernel
theorem d_Mo_fits_75 : decode m_Mo_fits.2.1 75 = .ok (.getfield 17, 3) := by decide +kernel
theorem d_Mo_fits_78 : decode m_Mo_fits.2.1 78 = .ok (.iload_n 1, 1) := by decide +kernel
theorem d_Mo_fits_79 : decode m_Mo_fits.2.1 79 = .ok (.iaload, 1) := by decide +kernel
theorem d_Mo_fits_80 : decode m_Mo_fits.2.1 80 = .ok (.if_icmp .gt 7, 3) := by decide +kernel
theorem d_Mo_fits_83 : decode m_Mo_fits.2.1 83 = .ok (.iconst 1, 1) := by decide +kernel
theorem d_Mo_fits_84 : decode m_Mo_fits.2.1 84 = .ok (.goto 4, 3) := by decide +kernel
theorem d_Mo_fits_87 : decode m_Mo_fits.2.1 87 = .ok (.iconst 0, 1) := by decide +kernel
theorem d_Mo_fits_88 : decode m_Mo_fits.2.1 88 = .ok (.ireturn, 1) := by decide +kernel
theorem d_Mo_score_0 : decode m_Mo_score.2.1 0 = .ok (.aload_n 0, 1) := by decide +kernel
theorem d_Mo_score_1 : decode m_Mo_score.2.1 1 = .ok (.iload_n 1, 1) := by decide +kernel
theorem d_Mo_score_2 : decode m_Mo_score.2.1 2 = .ok (.invokevirtual 166, 3) := by decide +kernel
theorem d_Mo_score_5 : decode m_Mo_score.2.1 5 = .ok (.istore_n 2, 1) := by decide +kernel
theorem d_Mo_score_6 : decode m_Mo_score.2.1 6 = .ok (.aload_n 0, 1) := by decide +kernel
theorem d_Mo_score_7 : decode m_Mo_score.2.1 7 = .ok (.iload_n 2, 1) := by decide +kernel
theorem d_Mo_score_8 : decode m_Mo_score.2.1 8 = .ok (.ifCond .ge 7, 3) := by decide +kernel
theorem d_Mo_score_11 : decode m_Mo_score.2.1 11 = .ok (.iconst 1, 1) := by decide +kernel
theorem d_Mo_score_12 : decode m_Mo_score.2.1 12 = .ok (.goto 17, 3) := by decide +kernel
theorem d_Mo_score_15 : decode m_Mo_score.2.1 15 = .ok (.aload_n 0, 1) := by decide +kernel
theorem d_Mo_score_16 : decode m_Mo_score.2.1 16 = .ok (.getfield 23, 3) := by decide +kernel
theorem d_Mo_score_19 : decode m_Mo_score.2.1 19 = .ok (.iload_n 2, 1) := by decide +kernel
theorem d_Mo_score_20 : decode m_Mo_score.2.1 20 = .ok (.baload, 1) := by decide +kernel
theorem d_Mo_score_21 : decode m_Mo_score.2.1 21 = .ok (.ifCond .eq 7, 3) := by decide +kernel
theorem d_Mo_score_24 : decode m_Mo_score.2.1 24 = .ok (.iconst 0, 1) := by decide +kernel
theorem d_Mo_score_25 : decode m_Mo_score.2.1 25 = .ok (.goto 4, 3) := by decide +kernel
theorem d_Mo_score_28 : decode m_Mo_score.2.1 28 = .ok (.iconst 2, 1) := by decide +kernel
theorem d_Mo_score_29 : decode m_Mo_score.2.1 29 = .ok (.putfield 140, 3) := by decide +kernel
theorem d_Mo_score_32 : decode m_Mo_score.2.1 32 = .ok (.aload_n 0, 1) := by decide +kernel
theorem d_Mo_score_33 : decode m_Mo_score.2.1 33 = .ok (.getfield 140, 3) := by decide +kernel
theorem d_Mo_score_36 : decode m_Mo_score.2.1 36 = .ok (.ifCond .le 5, 3) := by decide +kernel
theorem d_Mo_score_39 : decode m_Mo_score.2.1 39 = .ok (.iconst 0, 1) := by decide +kernel
theorem d_Mo_score_40 : decode m_Mo_score.2.1 40 = .ok (.ireturn, 1) := by decide +kernel
theorem d_Mo_score_41 : decode m_Mo_score.2.1 41 = .ok (.iconst 0, 1) := by decide +kernel
theorem d_Mo_score_42 : decode m_Mo_score.2.1 42 = .ok (.istore_n 3, 1) := by decide +kernel
theorem d_Mo_score_43 : decode m_Mo_score.2.1 43 = .ok (.aload_n 0, 1) := by decide +kernel
theorem d_Mo_score_44 : decode m_Mo_score.2.1 44 = .ok (.getfield 62, 3) := by decide +kernel
theorem d_Mo_score_47 : decode m_Mo_score.2.1 47 = .ok (.sipush 160, 3) := by decide +kernel
theorem d_Mo_score_50 : decode m_Mo_score.2.1 50 = .ok (.iload_n 2, 1) := by decide +kernel
theorem d_Mo_score_51 : decode m_Mo_score.2.1 51 = .ok (.imul, 1) := by decide +kernel
theorem d_Mo_score_52 : decode m_Mo_score.2.1 52 = .ok (.iload_n 3, 1) := by decide +kernel
theorem d_Mo_score_53 : decode m_Mo_score.2.1 53 = .ok (.iadd, 1) := by decide +kernel
theorem d_Mo_score_54 : decode m_Mo_score.2.1 54 = .ok (.iaload, 1) := by decide +kernel
theorem d_Mo_score_55 : decode m_Mo_score.2.1 55 = .ok (.iconst 1, 1) := by decide +kernel
theorem d_Mo_score_56 : decode m_Mo_score.2.1 56 = .ok (.if_icmp .eq 9, 3) := by decide +kernel
theorem d_Mo_score_59 : decode m_Mo_score.2.1 59 = .ok (.iinc 3 1, 3) := by decide +kernel
theorem d_Mo_score_62 : decode m_Mo_score.2.1 62 = .ok (.goto (-19), 3) := by decide +kernel
theorem d_Mo_score_65 : decode m_Mo_score.2.1 65 = .ok (.sipush 160, 3) := by decide +kernel
theorem d_Mo_score_68 : decode m_Mo_score.2.1 68 = .ok (.iload_n 2, 1) := by decide +kernel
theorem d_Mo_score_69 : decode m_Mo_score.2.1 69 = .ok (.imul, 1) := by decide +kernel
theorem d_Mo_score_70 : decode m_Mo_score.2.1 70 = .ok (.iload_n 3, 1) := by decide +kernel
theorem d_Mo_score_71 : decode m_Mo_score.2.1 71 = .ok (.iadd, 1) := by decide +kernel
theorem d_Mo_score_72 : decode m_Mo_score.2.1 72 = .ok (.istore 4, 2) := by decide +kernel
theorem d_Mo_score_74 : decode m_Mo_score.2.1 74 = .ok (.aload_n 0, 1) := by decide +kernel
theorem d_Mo_score_75 : decode m_Mo_score.2.1 75 = .ok (.getfield 26, 3) := by decide +kernel
theorem d_Mo_score_78 : decode m_Mo_score.2.1 78 = .ok (.iload_n 2, 1) := by decide +kernel
theorem d_Mo_score_79 : decode m_Mo_score.2.1 79 = .ok (.iconst 1, 1) := by decide +kernel
theorem d_Mo_score_80 : decode m_Mo_score.2.1 80 = .ok (.bastore, 1) := by decide +kernel
theorem d_Mo_score_81 : decode m_Mo_score.2.1 81 = .ok (.aload_n 0, 1) := by decide +kernel
theorem d_Mo_score_82 : decode m_Mo_score.2.1 82 = .ok (.getfield 38, 3) := by decide +kernel
theorem d_Mo_score_85 : decode m_Mo_score.2.1 85 = .ok (.iload 4, 2) := by decide +kernel
theorem d_Mo_score_87 : decode m_Mo_score.2.1 87 = .ok (.iaload, 1) := by decide +kernel
theorem d_Mo_score_88 : decode m_Mo_score.2.1 88 = .ok (.iconst 2, 1) := by decide +kernel
theorem d_Mo_score_89 : decode m_Mo_score.2.1 89 = .ok (.if_icmp .ne 13, 3) := by decide +kernel
theorem d_Mo_score_92 : decode m_Mo_score.2.1 92 = .ok (.aload_n 0, 1) := by decide +kernel
theorem d_Mo_score_93 : decode m_Mo_score.2.1 93 = .ok (.iload_n 2, 1) := by decide +kernel
theorem d_Mo_score_94 : decode m_Mo_score.2.1 94 = .ok (.iload 4, 2) := by decide +kernel
theorem d_Mo_score_96 : decode m_Mo_score.2.1 96 = .ok (.invokevirtual 276, 3) := by decide +kernel
theorem d_Mo_score_99 : decode m_Mo_score.2.1 99 = .ok (.goto 47, 3) := by decide +kernel
theorem d_Mo_score_102 : decode m_Mo_score.2.1 102 = .ok (.aload_n 0, 1) := by decide +kernel
theorem d_Mo_score_103 : decode m_Mo_score.2.1 103 = .ok (.getfield 62, 3) := by decide +kernel
theorem d_Mo_score_106 : decode m_Mo_score.2.1 106 = .ok (.iload 4, 2) := by decide +kernel
theorem d_Mo_score_108 : decode m_Mo_score.2.1 108 = .ok (.iconst 2, 1) := by decide +kernel
theorem d_Mo_score_109 : decode m_Mo_score.2.1 109 = .ok (.iastore, 1) := by decide +kernel
theorem d_Mo_score_110 : decode m_Mo_score.2.1 110 = .ok (.aload_n 0, 1) := by decide +kernel
theorem d_Mo_score_111 : decode m_Mo_score.2.1 111 = .ok (.iload_n 2, 1) := by decide +kernel
theorem d_Mo_score_112 : decode m_Mo_score.2.1 112 = .ok (.sipush 160, 3) := by decide +kernel
theorem d_Mo_score_115 : decode m_Mo_score.2.1 115 = .ok (.iload_n 2, 1) := by decide +kernel
theorem d_Mo_score_116 : decode m_Mo_score.2.1 116 = .ok (.imul, 1) := by decide +kernel
theorem d_Mo_score_117 : decode m_Mo_score.2.1 117 = .ok (.aload_n 0, 1) := by decide +kernel
theorem d_Mo_score_118 : decode m_Mo_score.2.1 118 = .ok (.getfield 56, 3) := by decide +kernel
theorem d_Mo_score_121 : decode m_Mo_score.2.1 121 = .ok (.iload 4, 2) := by decide +kernel
theorem d_Mo_score_123 : decode m_Mo_score.2.1 123 = .ok (.iaload, 1) := by decide +kernel
theorem d_Mo_score_124 : decode m_Mo_score.2.1 124 = .ok (.iadd, 1) := by decide +kernel
theorem d_Mo_score_125 : decode m_Mo_score.2.1 125 = .ok (.invokevirtual 276, 3) := by decide +kernel
theorem d_Mo_score_128 : decode m_Mo_score.2.1 128 = .ok (.aload_n 0, 1) := by decide +kernel
theorem d_Mo_score_129 : decode m_Mo_score.2.1 129 = .ok (.iload_n 2, 1) := by decide +kernel
theorem d_Mo_score_130 : decode m_Mo_score.2.1 130 = .ok (.sipush 160, 3) := by decide +kernel
theorem d_Mo_score_133 : decode m_Mo_score.2.1 133 = .ok (.iload_n 2, 1) := by decide +kernel
theorem d_Mo_score_134 : decode m_Mo_score.2.1 134 = .ok (.imul, 1) := by decide +kernel
theorem d_Mo_score_135 : decode m_Mo_score.2.1 135 = .ok (.aload_n 0, 1) := by decide +kernel
theorem d_Mo_score_136 : decode m_Mo_score.2.1 136 = .ok (.getfield 59, 3) := by decide +kernel
theorem d_Mo_score_139 : decode m_Mo_score.2.1 139 = .ok (.iload 4, 2) := by decide +kernel
theorem d_Mo_score_141 : decode m_Mo_score.2.1 141 = .ok (.iaload, 1) := by decide +kernel
theorem d_Mo_score_142 : decode m_Mo_score.2.1 142 = .ok (.iadd, 1) := by decide +kernel
theorem d_Mo_score_143 : decode m_Mo_score.2.1 143 = .ok (.invokevirtual 276, 3) := by decide +kernel
theorem d_Mo_score_146 : decode m_Mo_score.2.1 146 = .ok (.aload_n 0, 1) := by decide +kernel
theorem d_Mo_score_147 : decode m_Mo_score.2.1 147 = .ok (.iload_n 2, 1) := by decide +kernel
theorem d_Mo_score_148 : decode m_Mo_score.2.1 148 = .ok (.invokevirtual 279, 3) := by decide +kernel
theorem d_Mo_score_151 : decode m_Mo_score.2.1 151 = .ok (.iload_n 3, 1) := by decide +kernel
theorem d_Mo_score_152 : decode m_Mo_score.2.1 152 = .ok (.ireturn, 1) := by decide +kernel
theorem d_Mo_arrive_0 : decode m_Mo_arrive.2.1 0 = .ok (.aload_n 0, 1) := by decide +kernel
theorem d_Mo_arrive_1 : decode m_Mo_arrive.2.1 1 = .ok (.getfield 47, 3) := by decide +kernel
theorem d_Mo_arrive_4 : decode m_Mo_arrive.2.1 4 = .ok (.iload_n 2, 1) := by decide +kernel
theorem d_Mo_arrive_5 : decode m_Mo_arrive.2.1 5 = .ok (.iaload, 1) := by decide +kernel
theorem d_Mo_arrive_6 : decode m_Mo_arrive.2.1 6 = .ok (.i2l, 1) := by decide +kernel
theorem d_Mo_arrive_7 : decode m_Mo_arrive.2.1 7 = .ok (.aload_n 0, 1) := by decide +kernel
theorem d_Mo_arrive_8 : decode m_Mo_arrive.2.1 8 = .ok (.getfield 50, 3) := by decide +kernel
theorem d_Mo_arrive_11 : decode m_Mo_arrive.2.1 11 = .ok (.iload_n 2, 1) := by decide +kernel
theorem d_Mo_arrive_12 : decode m_Mo_arrive.2.1 12 = .ok (.iaload, 1) := by decide +kernel
theorem d_Mo_arrive_13 : decode m_Mo_arrive.2.1 13 = .ok (.i2l, 1) := by decide +kernel
theorem d_Mo_arrive_14 : decode m_Mo_arrive.2.1 14 = .ok (.lmul, 1) := by decide +kernel
theorem d_Mo_arrive_15 : decode m_Mo_arrive.2.1 15 = .ok (.lstore_n 3, 1) := by decide +kernel
theorem d_Mo_arrive_16 : decode m_Mo_arrive.2.1 16 = .ok (.aload_n 0, 1) := by decide +kernel
theorem d_Mo_arrive_17 : decode m_Mo_arrive.2.1 17 = .ok (.getfield 62, 3) := by decide +kernel
theorem d_Mo_arrive_20 : decode m_Mo_arrive.2.1 20 = .ok (.iload_n 2, 1) := by decide +kernel
theorem d_Mo_arrive_21 : decode m_Mo_arrive.2.1 21 = .ok (.aload_n 0, 1) := by decide +kernel
theorem d_Mo_arrive_22 : decode m_Mo_arrive.2.1 22 = .ok (.getfield 38, 3) := by decide +kernel
theorem d_Mo_arrive_25 : decode m_Mo_arrive.2.1 25 = .ok (.iload_n 2, 1) := by decide +kernel
theorem d_Mo_arrive_26 : decode m_Mo_arrive.2.1 26 = .ok (.iaload, 1) := by decide +kernel
theorem d_Mo_arrive_27 : decode m_Mo_arrive.2.1 27 = .ok (.iconst 2, 1) := by decide +kernel
theorem d_Mo_arrive_28 : decode m_Mo_arrive.2.1 28 = .ok (.if_icmp .ge 7, 3) := by decide +kernel
theorem d_Mo_arrive_31 : decode m_Mo_arrive.2.1 31 = .ok (.iconst 1, 1) := by decide +kernel
theorem d_Mo_arrive_32 : decode m_Mo_arrive.2.1 32 = .ok (.goto 4, 3) := by decide +kernel
theorem d_Mo_arrive_35 : decode m_Mo_arrive.2.1 35 = .ok (.iconst 2, 1) := by decide +kernel
theorem d_Mo_arrive_36 : decode m_Mo_arrive.2.1 36 = .ok (.iastore, 1) := by decide +kernel
theorem d_Mo_arrive_37 : decode m_Mo_arrive.2.1 37 = .ok (.aload_n 0, 1) := by decide +kernel
theorem d_Mo_arrive_38 : decode m_Mo_arrive.2.1 38 = .ok (.getfield 38, 3) := by decide +kernel
theorem d_Mo_arrive_41 : decode m_Mo_arrive.2.1 41 = .ok (.iload_n 2, 1) := by decide +kernel
theorem d_Mo_arrive_42 : decode m_Mo_arrive.2.1 42 = .ok (.iaload, 1) := by decide +kernel
theorem d_Mo_arrive_43 : decode m_Mo_arrive.2.1 43 = .ok (.iconst 2, 1) := by decide +kernel
theorem d_Mo_arrive_44 : decode m_Mo_arrive.2.1 44 = .ok (.if_icmp .ne 46, 3) := by decide +kernel
theorem d_Mo_arrive_47 : decode m_Mo_arrive.2.1 47 = .ok (.aload_n 0, 1) := by decide +kernel
theorem d_Mo_arrive_48 : decode m_Mo_arrive.2.1 48 = .ok (.getfield 77, 3) := by decide +kernel
theorem d_Mo_arrive_51 : decode m_Mo_arrive.2.1 51 = .ok (.aload_n 0, 1) := by decide +kernel
theorem d_Mo_arrive_52 : decode m_Mo_arrive.2.1 52 = .ok (.getfield 53, 3) := by decide +kernel
theorem d_Mo_arrive_55 : decode m_Mo_arrive.2.1 55 = .ok (.iload_n 2, 1) := by decide +kernel
theorem d_Mo_arrive_56 : decode m_Mo_arrive.2.1 56 = .ok (.iaload, 1) := by decide +kernel
theorem d_Mo_arrive_57 : decode m_Mo_arrive.2.1 57 = .ok (.dup2, 1) := by decide +kernel
theorem d_Mo_arrive_58 : decode m_Mo_arrive.2.1 58 = .ok (.iaload, 1) := by decide +kernel
theorem d_Mo_arrive_59 : decode m_Mo_arrive.2.1 59 = .ok (.iconst 1, 1) := by decide +kernel
theorem d_Mo_arrive_60 : decode m_Mo_arrive.2.1 60 = .ok (.isub, 1) := by decide +kernel
theorem d_Mo_arrive_61 : decode m_Mo_arrive.2.1 61 = .ok (.iastore, 1) := by decide +kernel
theorem d_Mo_arrive_62 : decode m_Mo_arrive.2.1 62 = .ok (.aload_n 0, 1) := by decide +kernel
theorem d_Mo_arrive_63 : decode m_Mo_arrive.2.1 63 = .ok (.getfield 80, 3) := by decide +kernel
theorem d_Mo_arrive_66 : decode m_Mo_arrive.2.1 66 = .ok (.aload_n 0, 1) := by decide +kernel
theorem d_Mo_arrive_67 : decode m_Mo_arrive.2.1 67 = .ok (.getfield 53, 3) := by decide +kernel
theorem d_Mo_arrive_70 : decode m_Mo_arrive.2.1 70 = .ok (.iload_n 2, 1) := by decide +kernel
theorem d_Mo_arrive_71 : decode m_Mo_arrive.2.1 71 = .ok (.iaload, 1) := by decide +kernel
theorem d_Mo_arrive_72 : decode m_Mo_arrive.2.1 72 = .ok (.dup2, 1) := by decide +kernel
theorem d_Mo_arrive_73 : decode m_Mo_arrive.2.1 73 = .ok (.iaload, 1) := by decide +kernel
theorem d_Mo_arrive_74 : decode m_Mo_arrive.2.1 74 = .ok (.iconst 1, 1) := by decide +kernel
theorem d_Mo_arrive_75 : decode m_Mo_arrive.2.1 75 = .ok (.iadd, 1) := by decide +kernel
theorem d_Mo_arrive_76 : decode m_Mo_arrive.2.1 76 = .ok (.iastore, 1) := by decide +kernel
theorem d_Mo_arrive_77 : decode m_Mo_arrive.2.1 77 = .ok (.aload_n 0, 1) := by decide +kernel
theorem d_Mo_arrive_78 : decode m_Mo_arrive.2.1 78 = .ok (.dup, 1) := by decide +kernel
theorem d_Mo_arrive_79 : decode m_Mo_arrive.2.1 79 = .ok (.getfield 266, 3) := by decide +kernel
theorem d_Mo_arrive_82 : decode m_Mo_arrive.2.1 82 = .ok (.lload_n 3, 1) := by decide +kernel
theorem d_Mo_arrive_83 : decode m_Mo_arrive.2.1 83 = .ok (.ladd, 1) := by decide +kernel
theorem d_Mo_arrive_84 : decode m_Mo_arrive.2.1 84 = .ok (.putfield 266, 3) := by decide +kernel
theorem d_Mo_arrive_87 : decode m_Mo_arrive.2.1 87 = .ok (.goto 75, 3) := by decide +kernel
theorem d_Mo_arrive_90 : decode m_Mo_arrive.2.1 90 = .ok (.aload_n 0, 1) := by decide +kernel
theorem d_Mo_arrive_91 : decode m_Mo_arrive.2.1 91 = .ok (.getfield 38, 3) := by decide +kernel
theorem d_Mo_arrive_94 : decode m_Mo_arrive.2.1 94 = .ok (.iload_n 2, 1) := by decide +kernel
theorem d_Mo_arrive_95 : decode m_Mo_arrive.2.1 95 = .ok (.iaload, 1) := by decide +kernel
theorem d_Mo_arrive_96 : decode m_Mo_arrive.2.1 96 = .ok (.iconst 3, 1) := by decide +kernel
theorem d_Mo_arrive_97 : decode m_Mo_arrive.2.1 97 = .ok (.if_icmp .ne 45, 3) := by decide +kernel
theorem d_Mo_arrive_100 : decode m_Mo_arrive.2.1 100 = .ok (.aload_n 0, 1) := by decide +kernel
theorem d_Mo_arrive_101 : decode m_Mo_arrive.2.1 101 = .ok (.getfield 47, 3) := by decide +kernel
theorem d_Mo_arrive_104 : decode m_Mo_arrive.2.1 104 = .ok (.iload_n 2, 1) := by decide +kernel
theorem d_Mo_arrive_105 : decode m_Mo_arrive.2.1 105 = .ok (.iaload, 1) := by decide +kernel
theorem d_Mo_arrive_106 : decode m_Mo_arrive.2.1 106 = .ok (.sipush 300, 3) := by decide +kernel
theorem d_Mo_arrive_109 : decode m_Mo_arrive.2.1 109 = .ok (.if_icmp .lt 33, 3) := by decide +kernel
theorem d_Mo_arrive_112 : decode m_Mo_arrive.2.1 112 = .ok (.aload_n 0, 1) := by decide +kernel
theorem d_Mo_arrive_113 : decode m_Mo_arrive.2.1 113 = .ok (.getfield 50, 3) := by decide +kernel
theorem d_Mo_arrive_116 : decode m_Mo_arrive.2.1 116 = .ok (.iload_n 2, 1) := by decide +kernel
theorem d_Mo_arrive_117 : decode m_Mo_arrive.2.1 117 = .ok (.iaload, 1) := by decide +kernel
theorem d_Mo_arrive_118 : decode m_Mo_arrive.2.1 118 = .ok (.sipush 300, 3) := by decide +kernel
theorem d_Mo_arrive_121 : decode m_Mo_arrive.2.1 121 = .ok (.if_icmp .lt 21, 3) := by decide +kernel
theorem d_Mo_arrive_124 : decode m_Mo_arrive.2.1 124 = .ok (.aload_n 0, 1) := by decide +kernel
theorem d_Mo_arrive_125 : decode m_Mo_arrive.2.1 125 = .ok (.getfield 263, 3) := by decide +kernel
theorem d_Mo_arrive_128 : decode m_Mo_arrive.2.1 128 = .ok (.bipush 10, 2) := by decide +kernel
theorem d_Mo_arrive_130 : decode m_Mo_arrive.2.1 130 = .ok (.if_icmp .ge 12, 3) := by decide +kernel
theorem d_Mo_arrive_133 : decode m_Mo_arrive.2.1 133 = .ok (.aload_n 0, 1) := by decide +kernel
theorem d_Mo_arrive_134 : decode m_Mo_arrive.2.1 134 = .ok (.iload_n 1, 1) := by decide +kernel
theorem d_Mo_arrive_135 : decode m_Mo_arrive.2.1 135 = .ok (.iload_n 2, 1) := by decide +kernel
theorem d_Mo_arrive_136 : decode m_Mo_arrive.2.1 136 = .ok (.invokevirtual 269, 3) := by decide +kernel
theorem d_Mo_arrive_139 : decode m_Mo_arrive.2.1 139 = .ok (.goto 23, 3) := by decide +kernel
theorem d_Mo_arrive_142 : decode m_Mo_arrive.2.1 142 = .ok (.aload_n 0, 1) := by decide +kernel
theorem d_Mo_arrive_143 : decode m_Mo_arrive.2.1 143 = .ok (.getfield 38, 3) := by decide +kernel
theorem d_Mo_arrive_146 : decode m_Mo_arrive.2.1 146 = .ok (.iload_n 2, 1) := by decide +kernel
theorem d_Mo_arrive_147 : decode m_Mo_arrive.2.1 147 = .ok (.iaload, 1) := by decide +kernel
theorem d_Mo_arrive_148 : decode m_Mo_arrive.2.1 148 = .ok (.iconst 3, 1) := by decide +kernel
theorem d_Mo_arrive_149 : decode m_Mo_arrive.2.1 149 = .ok (.if_icmp .ne 13, 3) := by decide +kernel
theorem d_Mo_arrive_152 : decode m_Mo_arrive.2.1 152 = .ok (.aload_n 0, 1) := by decide +kernel
theorem d_Mo_arrive_153 : decode m_Mo_arrive.2.1 153 = .ok (.dup, 1) := by decide +kernel
theorem d_Mo_arrive_154 : decode m_Mo_arrive.2.1 154 = .ok (.getfield 273, 3) := by decide +kernel
theorem d_Mo_arrive_157 : decode m_Mo_arrive.2.1 157 = .ok (.lload_n 3, 1) := by decide +kernel
theorem d_Mo_arrive_158 : decode m_Mo_arrive.2.1 158 = .ok (.ladd, 1) := by decide +kernel
theorem d_Mo_arrive_159 : decode m_Mo_arrive.2.1 159 = .ok (.putfield 273, 3) := by decide +kernel
theorem d_Mo_arrive_162 : decode m_Mo_arrive.2.1 162 = .ok (.return_, 1) := by decide +kernel
theorem d_Mo_store_0 : decode m_Mo_store.2.1 0 = .ok (.aload_n 0, 1) := by decide +kernel
theorem d_Mo_store_1 : decode m_Mo_store.2.1 1 = .ok (.getfield 263, 3) := by decide +kernel
theorem d_Mo_store_4 : decode m_Mo_store.2.1 4 = .ok (.istore_n 3, 1) := by decide +kernel
theorem d_Mo_store_5 : decode m_Mo_store.2.1 5 = .ok (.aload_n 0, 1) := by decide +kernel
theorem d_Mo_store_6 : decode m_Mo_store.2.1 6 = .ok (.getfield 83, 3) := by decide +kernel
theorem d_Mo_store_9 : decode m_Mo_store.2.1 9 = .ok (.iload_n 3, 1) := by decide +kernel
theorem d_Mo_store_10 : decode m_Mo_store.2.1 10 = .ok (.aload_n 0, 1) := by decide +kernel
theorem d_Mo_store_11 : decode m_Mo_store.2.1 11 = .ok (.getfield 47, 3) := by decide +kernel
theorem d_Mo_store_14 : decode m_Mo_store.2.1 14 = .ok (.iload_n 2, 1) := by decide +kernel
theorem d_Mo_store_15 : decode m_Mo_store.2.1 15 = .ok (.iaload, 1) := by decide +kernel
theorem d_Mo_store_16 : decode m_Mo_store.2.1 16 = .ok (.iastore, 1) := by decide +kernel
theorem d_Mo_store_17 : decode m_Mo_store.2.1 17 = .ok (.aload_n 0, 1) := by decide +kernel
theorem d_Mo_store_18 : decode m_Mo_store.2.1 18 = .ok (.getfield 86, 3) := by decide +kernel
theorem d_Mo_store_21 : decode m_Mo_store.2.1 21 = .ok (.iload_n 3, 1) := by decide +kernel
theorem d_Mo_store_22 : decode m_Mo_store.2.1 22 = .ok (.aload_n 0, 1) := by decide +kernel
theorem d_Mo_store_23 : decode m_Mo_store.2.1 23 = .ok (.getfield 50, 3) := by decide +kernel
