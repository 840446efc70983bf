theorem d_Mo_fit_69 : decode m_Mo_fit.2.1 69 = .ok (.istore 5, 2) := by decide +kernel
theorem d_Mo_fit_71 : decode m_Mo_fit.2.1 71 = .ok (.iload_n 3, 1) := by decide +kernel
theorem d_Mo_fit_72 : decode m_Mo_fit.2.1 72 = .ok (.ifCond .lt 52, 3) := by decide +kernel
theorem d_Mo_fit_75 : decode m_Mo_fit.2.1 75 = .ok (.aload_n 0, 1) := by decide +kernel
theorem d_Mo_fit_76 : decode m_Mo_fit.2.1 76 = .ok (.getfield 83, 3) := by decide +kernel
theorem d_Mo_fit_79 : decode m_Mo_fit.2.1 79 = .ok (.iload 4, 2) := by decide +kernel
theorem d_Mo_fit_81 : decode m_Mo_fit.2.1 81 = .ok (.iaload, 1) := by decide +kernel
theorem d_Mo_fit_82 : decode m_Mo_fit.2.1 82 = .ok (.aload_n 0, 1) := by decide +kernel
theorem d_Mo_fit_83 : decode m_Mo_fit.2.1 83 = .ok (.getfield 86, 3) := by decide +kernel
theorem d_Mo_fit_86 : decode m_Mo_fit.2.1 86 = .ok (.iload 4, 2) := by decide +kernel
theorem d_Mo_fit_88 : decode m_Mo_fit.2.1 88 = .ok (.iaload, 1) := by decide +kernel
theorem d_Mo_fit_89 : decode m_Mo_fit.2.1 89 = .ok (.imul, 1) := by decide +kernel
theorem d_Mo_fit_90 : decode m_Mo_fit.2.1 90 = .ok (.aload_n 0, 1) := by decide +kernel
theorem d_Mo_fit_91 : decode m_Mo_fit.2.1 91 = .ok (.getfield 83, 3) := by decide +kernel
theorem d_Mo_fit_94 : decode m_Mo_fit.2.1 94 = .ok (.iload_n 3, 1) := by decide +kernel
theorem d_Mo_fit_95 : decode m_Mo_fit.2.1 95 = .ok (.ifCond .ge 8, 3) := by decide +kernel
theorem d_Mo_fit_98 : decode m_Mo_fit.2.1 98 = .ok (.iload 4, 2) := by decide +kernel
theorem d_Mo_fit_100 : decode m_Mo_fit.2.1 100 = .ok (.goto 4, 3) := by decide +kernel
theorem d_Mo_fit_103 : decode m_Mo_fit.2.1 103 = .ok (.iload_n 3, 1) := by decide +kernel
theorem d_Mo_fit_104 : decode m_Mo_fit.2.1 104 = .ok (.iaload, 1) := by decide +kernel
theorem d_Mo_fit_105 : decode m_Mo_fit.2.1 105 = .ok (.aload_n 0, 1) := by decide +kernel
theorem d_Mo_fit_106 : decode m_Mo_fit.2.1 106 = .ok (.getfield 86, 3) := by decide +kernel
theorem d_Mo_fit_109 : decode m_Mo_fit.2.1 109 = .ok (.iload_n 3, 1) := by decide +kernel
theorem d_Mo_fit_110 : decode m_Mo_fit.2.1 110 = .ok (.ifCond .ge 8, 3) := by decide +kernel
theorem d_Mo_fit_113 : decode m_Mo_fit.2.1 113 = .ok (.iload 4, 2) := by decide +kernel
theorem d_Mo_fit_115 : decode m_Mo_fit.2.1 115 = .ok (.goto 4, 3) := by decide +kernel
theorem d_Mo_fit_118 : decode m_Mo_fit.2.1 118 = .ok (.iload_n 3, 1) := by decide +kernel
theorem d_Mo_fit_119 : decode m_Mo_fit.2.1 119 = .ok (.iaload, 1) := by decide +kernel
theorem d_Mo_fit_120 : decode m_Mo_fit.2.1 120 = .ok (.imul, 1) := by decide +kernel
theorem d_Mo_fit_121 : decode m_Mo_fit.2.1 121 = .ok (.if_icmp .gt 7, 3) := by decide +kernel
theorem d_Mo_fit_124 : decode m_Mo_fit.2.1 124 = .ok (.iconst 1, 1) := by decide +kernel
theorem d_Mo_fit_125 : decode m_Mo_fit.2.1 125 = .ok (.goto 4, 3) := by decide +kernel
theorem d_Mo_fit_128 : decode m_Mo_fit.2.1 128 = .ok (.iconst 0, 1) := by decide +kernel
theorem d_Mo_fit_129 : decode m_Mo_fit.2.1 129 = .ok (.istore 6, 2) := by decide +kernel
theorem d_Mo_fit_131 : decode m_Mo_fit.2.1 131 = .ok (.iload 5, 2) := by decide +kernel
theorem d_Mo_fit_133 : decode m_Mo_fit.2.1 133 = .ok (.ifCond .eq 13, 3) := by decide +kernel
theorem d_Mo_fit_136 : decode m_Mo_fit.2.1 136 = .ok (.iload 6, 2) := by decide +kernel
theorem d_Mo_fit_138 : decode m_Mo_fit.2.1 138 = .ok (.ifCond .eq 8, 3) := by decide +kernel
theorem d_Mo_fit_141 : decode m_Mo_fit.2.1 141 = .ok (.iload 4, 2) := by decide +kernel
theorem d_Mo_fit_143 : decode m_Mo_fit.2.1 143 = .ok (.goto 4, 3) := by decide +kernel
theorem d_Mo_fit_146 : decode m_Mo_fit.2.1 146 = .ok (.iload_n 3, 1) := by decide +kernel
theorem d_Mo_fit_147 : decode m_Mo_fit.2.1 147 = .ok (.istore_n 3, 1) := by decide +kernel
theorem d_Mo_fit_148 : decode m_Mo_fit.2.1 148 = .ok (.iinc 4 (-1), 3) := by decide +kernel
theorem d_Mo_fit_151 : decode m_Mo_fit.2.1 151 = .ok (.goto (-136), 3) := by decide +kernel
theorem d_Mo_fit_154 : decode m_Mo_fit.2.1 154 = .ok (.iload_n 3, 1) := by decide +kernel
theorem d_Mo_fit_155 : decode m_Mo_fit.2.1 155 = .ok (.ireturn, 1) := by decide +kernel
theorem d_Mo_flawed_0 : decode m_Mo_flawed.2.1 0 = .ok (.aload_n 0, 1) := by decide +kernel
theorem d_Mo_flawed_1 : decode m_Mo_flawed.2.1 1 = .ok (.iload_n 1, 1) := by decide +kernel
theorem d_Mo_flawed_2 : decode m_Mo_flawed.2.1 2 = .ok (.invokevirtual 166, 3) := by decide +kernel
theorem d_Mo_flawed_5 : decode m_Mo_flawed.2.1 5 = .ok (.istore 4, 2) := by decide +kernel
theorem d_Mo_flawed_7 : decode m_Mo_flawed.2.1 7 = .ok (.aload_n 0, 1) := by decide +kernel
theorem d_Mo_flawed_8 : decode m_Mo_flawed.2.1 8 = .ok (.iload 4, 2) := by decide +kernel
theorem d_Mo_flawed_10 : decode m_Mo_flawed.2.1 10 = .ok (.ifCond .ge 7, 3) := by decide +kernel
theorem d_Mo_flawed_13 : decode m_Mo_flawed.2.1 13 = .ok (.iconst 1, 1) := by decide +kernel
theorem d_Mo_flawed_14 : decode m_Mo_flawed.2.1 14 = .ok (.goto 36, 3) := by decide +kernel
theorem d_Mo_flawed_17 : decode m_Mo_flawed.2.1 17 = .ok (.iload_n 2, 1) := by decide +kernel
theorem d_Mo_flawed_18 : decode m_Mo_flawed.2.1 18 = .ok (.ifCond .lt 14, 3) := by decide +kernel
theorem d_Mo_flawed_21 : decode m_Mo_flawed.2.1 21 = .ok (.iload_n 2, 1) := by decide +kernel
theorem d_Mo_flawed_22 : decode m_Mo_flawed.2.1 22 = .ok (.aload_n 0, 1) := by decide +kernel
theorem d_Mo_flawed_23 : decode m_Mo_flawed.2.1 23 = .ok (.getfield 29, 3) := by decide +kernel
theorem d_Mo_flawed_26 : decode m_Mo_flawed.2.1 26 = .ok (.iload 4, 2) := by decide +kernel
theorem d_Mo_flawed_28 : decode m_Mo_flawed.2.1 28 = .ok (.iaload, 1) := by decide +kernel
theorem d_Mo_flawed_29 : decode m_Mo_flawed.2.1 29 = .ok (.if_icmp .lt 7, 3) := by decide +kernel
theorem d_Mo_flawed_32 : decode m_Mo_flawed.2.1 32 = .ok (.iconst 2, 1) := by decide +kernel
theorem d_Mo_flawed_33 : decode m_Mo_flawed.2.1 33 = .ok (.goto 17, 3) := by decide +kernel
theorem d_Mo_flawed_36 : decode m_Mo_flawed.2.1 36 = .ok (.iload_n 3, 1) := by decide +kernel
theorem d_Mo_flawed_37 : decode m_Mo_flawed.2.1 37 = .ok (.ifCond .lt 8, 3) := by decide +kernel
theorem d_Mo_flawed_40 : decode m_Mo_flawed.2.1 40 = .ok (.iload_n 3, 1) := by decide +kernel
theorem d_Mo_flawed_41 : decode m_Mo_flawed.2.1 41 = .ok (.iconst 3, 1) := by decide +kernel
theorem d_Mo_flawed_42 : decode m_Mo_flawed.2.1 42 = .ok (.if_icmp .le 7, 3) := by decide +kernel
theorem d_Mo_flawed_45 : decode m_Mo_flawed.2.1 45 = .ok (.iconst 3, 1) := by decide +kernel
theorem d_Mo_flawed_46 : decode m_Mo_flawed.2.1 46 = .ok (.goto 4, 3) := by decide +kernel
theorem d_Mo_flawed_49 : decode m_Mo_flawed.2.1 49 = .ok (.iconst 0, 1) := by decide +kernel
theorem d_Mo_flawed_50 : decode m_Mo_flawed.2.1 50 = .ok (.putfield 140, 3) := by decide +kernel
theorem d_Mo_flawed_53 : decode m_Mo_flawed.2.1 53 = .ok (.aload_n 0, 1) := by decide +kernel
theorem d_Mo_flawed_54 : decode m_Mo_flawed.2.1 54 = .ok (.getfield 140, 3) := by decide +kernel
theorem d_Mo_flawed_57 : decode m_Mo_flawed.2.1 57 = .ok (.ifCond .le 7, 3) := by decide +kernel
theorem d_Mo_flawed_60 : decode m_Mo_flawed.2.1 60 = .ok (.iconst 0, 1) := by decide +kernel
theorem d_Mo_flawed_61 : decode m_Mo_flawed.2.1 61 = .ok (.goto 19, 3) := by decide +kernel
theorem d_Mo_flawed_64 : decode m_Mo_flawed.2.1 64 = .ok (.aload_n 0, 1) := by decide +kernel
theorem d_Mo_flawed_65 : decode m_Mo_flawed.2.1 65 = .ok (.getfield 32, 3) := by decide +kernel
theorem d_Mo_flawed_68 : decode m_Mo_flawed.2.1 68 = .ok (.bipush 24, 2) := by decide +kernel
theorem d_Mo_flawed_70 : decode m_Mo_flawed.2.1 70 = .ok (.iload 4, 2) := by decide +kernel
theorem d_Mo_flawed_72 : decode m_Mo_flawed.2.1 72 = .ok (.imul, 1) := by decide +kernel
theorem d_Mo_flawed_73 : decode m_Mo_flawed.2.1 73 = .ok (.iconst 4, 1) := by decide +kernel
theorem d_Mo_flawed_74 : decode m_Mo_flawed.2.1 74 = .ok (.iload_n 2, 1) := by decide +kernel
theorem d_Mo_flawed_75 : decode m_Mo_flawed.2.1 75 = .ok (.imul, 1) := by decide +kernel
theorem d_Mo_flawed_76 : decode m_Mo_flawed.2.1 76 = .ok (.iadd, 1) := by decide +kernel
theorem d_Mo_flawed_77 : decode m_Mo_flawed.2.1 77 = .ok (.iload_n 3, 1) := by decide +kernel
theorem d_Mo_flawed_78 : decode m_Mo_flawed.2.1 78 = .ok (.iadd, 1) := by decide +kernel
theorem d_Mo_flawed_79 : decode m_Mo_flawed.2.1 79 = .ok (.iaload, 1) := by decide +kernel
theorem d_Mo_flawed_80 : decode m_Mo_flawed.2.1 80 = .ok (.ireturn, 1) := by decide +kernel
theorem d_Mo_panes_0 : decode m_Mo_panes.2.1 0 = .ok (.aload_n 0, 1) := by decide +kernel
theorem d_Mo_panes_1 : decode m_Mo_panes.2.1 1 = .ok (.aload_n 0, 1) := by decide +kernel
theorem d_Mo_panes_2 : decode m_Mo_panes.2.1 2 = .ok (.iload_n 1, 1) := by decide +kernel
theorem d_Mo_panes_3 : decode m_Mo_panes.2.1 3 = .ok (.invokevirtual 253, 3) := by decide +kernel
theorem d_Mo_panes_6 : decode m_Mo_panes.2.1 6 = .ok (.ifCond .ne 7, 3) := by decide +kernel
theorem d_Mo_panes_9 : decode m_Mo_panes.2.1 9 = .ok (.iconst 1, 1) := by decide +kernel
theorem d_Mo_panes_10 : decode m_Mo_panes.2.1 10 = .ok (.goto 17, 3) := by decide +kernel
theorem d_Mo_panes_13 : decode m_Mo_panes.2.1 13 = .ok (.iload_n 2, 1) := by decide +kernel
theorem d_Mo_panes_14 : decode m_Mo_panes.2.1 14 = .ok (.ifCond .lt 8, 3) := by decide +kernel
theorem d_Mo_panes_17 : decode m_Mo_panes.2.1 17 = .ok (.iload_n 2, 1) := by decide +kernel
theorem d_Mo_panes_18 : decode m_Mo_panes.2.1 18 = .ok (.iconst 2, 1) := by decide +kernel
theorem d_Mo_panes_19 : decode m_Mo_panes.2.1 19 = .ok (.if_icmp .le 7, 3) := by decide +kernel
theorem d_Mo_panes_22 : decode m_Mo_panes.2.1 22 = .ok (.iconst 2, 1) := by decide +kernel
theorem d_Mo_panes_23 : decode m_Mo_panes.2.1 23 = .ok (.goto 4, 3) := by decide +kernel
theorem d_Mo_panes_26 : decode m_Mo_panes.2.1 26 = .ok (.iconst 0, 1) := by decide +kernel
theorem d_Mo_panes_27 : decode m_Mo_panes.2.1 27 = .ok (.putfield 140, 3) := by decide +kernel
theorem d_Mo_panes_30 : decode m_Mo_panes.2.1 30 = .ok (.aload_n 0, 1) := by decide +kernel
theorem d_Mo_panes_31 : decode m_Mo_panes.2.1 31 = .ok (.getfield 140, 3) := by decide +kernel
theorem d_Mo_panes_34 : decode m_Mo_panes.2.1 34 = .ok (.ifCond .le 5, 3) := by decide +kernel
theorem d_Mo_panes_37 : decode m_Mo_panes.2.1 37 = .ok (.iconst 0, 1) := by decide +kernel
theorem d_Mo_panes_38 : decode m_Mo_panes.2.1 38 = .ok (.ireturn, 1) := by decide +kernel
theorem d_Mo_panes_39 : decode m_Mo_panes.2.1 39 = .ok (.iload_n 2, 1) := by decide +kernel
theorem d_Mo_panes_40 : decode m_Mo_panes.2.1 40 = .ok (.ifCond .ne 12, 3) := by decide +kernel
theorem d_Mo_panes_43 : decode m_Mo_panes.2.1 43 = .ok (.aload_n 0, 1) := by decide +kernel
theorem d_Mo_panes_44 : decode m_Mo_panes.2.1 44 = .ok (.getfield 74, 3) := by decide +kernel
theorem d_Mo_panes_47 : decode m_Mo_panes.2.1 47 = .ok (.iload_n 1, 1) := by decide +kernel
theorem d_Mo_panes_48 : decode m_Mo_panes.2.1 48 = .ok (.iaload, 1) := by decide +kernel
theorem d_Mo_panes_49 : decode m_Mo_panes.2.1 49 = .ok (.goto 23, 3) := by decide +kernel
theorem d_Mo_panes_52 : decode m_Mo_panes.2.1 52 = .ok (.iload_n 2, 1) := by decide +kernel
theorem d_Mo_panes_53 : decode m_Mo_panes.2.1 53 = .ok (.iconst 1, 1) := by decide +kernel
theorem d_Mo_panes_54 : decode m_Mo_panes.2.1 54 = .ok (.if_icmp .ne 12, 3) := by decide +kernel
theorem d_Mo_panes_57 : decode m_Mo_panes.2.1 57 = .ok (.aload_n 0, 1) := by decide +kernel
theorem d_Mo_panes_58 : decode m_Mo_panes.2.1 58 = .ok (.getfield 77, 3) := by decide +kernel
theorem d_Mo_panes_61 : decode m_Mo_panes.2.1 61 = .ok (.iload_n 1, 1) := by decide +kernel
theorem d_Mo_panes_62 : decode m_Mo_panes.2.1 62 = .ok (.iaload, 1) := by decide +kernel
theorem d_Mo_panes_63 : decode m_Mo_panes.2.1 63 = .ok (.goto 9, 3) := by decide +kernel
theorem d_Mo_panes_66 : decode m_Mo_panes.2.1 66 = .ok (.aload_n 0, 1) := by decide +kernel
theorem d_Mo_panes_67 : decode m_Mo_panes.2.1 67 = .ok (.getfield 80, 3) := by decide +kernel
theorem d_Mo_panes_70 : decode m_Mo_panes.2.1 70 = .ok (.iload_n 1, 1) := by decide +kernel
theorem d_Mo_panes_71 : decode m_Mo_panes.2.1 71 = .ok (.iaload, 1) := by decide +kernel
theorem d_Mo_panes_72 : decode m_Mo_panes.2.1 72 = .ok (.ireturn, 1) := by decide +kernel
theorem d_Mo_area_0 : decode m_Mo_area.2.1 0 = .ok (.aload_n 0, 1) := by decide +kernel
theorem d_Mo_area_1 : decode m_Mo_area.2.1 1 = .ok (.iconst 0, 1) := by decide +kernel
theorem d_Mo_area_2 : decode m_Mo_area.2.1 2 = .ok (.putfield 140, 3) := by decide +kernel
theorem d_Mo_area_5 : decode m_Mo_area.2.1 5 = .ok (.lconst 0, 1) := by decide +kernel
theorem d_Mo_area_6 : decode m_Mo_area.2.1 6 = .ok (.lstore_n 2, 1) := by decide +kernel
theorem d_Mo_area_7 : decode m_Mo_area.2.1 7 = .ok (.lconst 0, 1) := by decide +kernel
theorem d_Mo_area_8 : decode m_Mo_area.2.1 8 = .ok (.lstore 4, 2) := by decide +kernel
theorem d_Mo_area_10 : decode m_Mo_area.2.1 10 = .ok (.iconst 0, 1) := by decide +kernel
theorem d_Mo_area_11 : decode m_Mo_area.2.1 11 = .ok (.istore 6, 2) := by decide +kernel
theorem d_Mo_area_13 : decode m_Mo_area.2.1 13 = .ok (.iload 6, 2) := by decide +kernel
theorem d_Mo_area_15 : decode m_Mo_area.2.1 15 = .ok (.bipush 8, 2) := by decide +kernel
theorem d_Mo_area_17 : decode m_Mo_area.2.1 17 = .ok (.if_icmp .ge 142, 3) := by decide +kernel
theorem d_Mo_area_20 : decode m_Mo_area.2.1 20 = .ok (.lload_n 2, 1) := by decide +kernel
theorem d_Mo_area_21 : decode m_Mo_area.2.1 21 = .ok (.aload_n 0, 1) := by decide +kernel
theorem d_Mo_area_22 : decode m_Mo_area.2.1 22 = .ok (.getfield 7, 3) := by decide +kernel
theorem d_Mo_area_25 : decode m_Mo_area.2.1 25 = .ok (.iload 6, 2) := by decide +kernel
theorem d_Mo_area_27 : decode m_Mo_area.2.1 27 = .ok (.baload, 1) := by decide +kernel
theorem d_Mo_area_28 : decode m_Mo_area.2.1 28 = .ok (.ifCond .eq 33, 3) := by decide +kernel
theorem d_Mo_area_31 : decode m_Mo_area.2.1 31 = .ok (.aload_n 0, 1) := by decide +kernel
theorem d_Mo_area_32 : decode m_Mo_area.2.1 32 = .ok (.getfield 23, 3) := by decide +kernel
theorem d_Mo_area_35 : decode m_Mo_area.2.1 35 = .ok (.iload 6, 2) := by decide +kernel
theorem d_Mo_area_37 : decode m_Mo_area.2.1 37 = .ok (.baload, 1) := by decide +kernel
theorem d_Mo_area_38 : decode m_Mo_area.2.1 38 = .ok (.ifCond .ne 23, 3) := by decide +kernel
theorem d_Mo_area_41 : decode m_Mo_area.2.1 41 = .ok (.aload_n 0, 1) := by decide +kernel
theorem d_Mo_area_42 : decode m_Mo_area.2.1 42 = .ok (.getfield 17, 3) := by decide +kernel
theorem d_Mo_area_45 : decode m_Mo_area.2.1 45 = .ok (.iload 6, 2) := by decide +kernel
theorem d_Mo_area_47 : decode m_Mo_area.2.1 47 = .ok (.iaload, 1) := by decide +kernel
theorem d_Mo_area_48 : decode m_Mo_area.2.1 48 = .ok (.i2l, 1) := by decide +kernel
theorem d_Mo_area_49 : decode m_Mo_area.2.1 49 = .ok (.aload_n 0, 1) := by decide +kernel
theorem d_Mo_area_50 : decode m_Mo_area.2.1 50 = .ok (.getfield 20, 3) := by decide +kernel
theorem d_Mo_area_53 : decode m_Mo_area.2.1 53 = .ok (.iload 6, 2) := by decide +kernel
theorem d_Mo_area_55 : decode m_Mo_area.2.1 55 = .ok (.iaload, 1) := by decide +kernel
theorem d_Mo_area_56 : decode m_Mo_area.2.1 56 = .ok (.i2l, 1) := by decide +kernel
theorem d_Mo_area_57 : decode m_Mo_area.2.1 57 = .ok (.lmul, 1) := by decide +kernel
theorem d_Mo_area_58 : decode m_Mo_area.2.1 58 = .ok (.goto 4, 3) := by decide +kernel
theorem d_Mo_area_61 : decode m_Mo_area.2.1 61 = .ok (.lconst 0, 1) := by decide +kernel
theorem d_Mo_area_62 : decode m_Mo_area.2.1 62 = .ok (.ladd, 1) := by decide +kernel
theorem d_Mo_area_63 : decode m_Mo_area.2.1 63 = .ok (.lstore_n 2, 1) := by decide +kernel
theorem d_Mo_area_64 : decode m_Mo_area.2.1 64 = .ok (.iconst 0, 1) := by decide +kernel
theorem d_Mo_area_65 : decode m_Mo_area.2.1 65 = .ok (.istore 7, 2) := by decide +kernel
theorem d_Mo_area_67 : decode m_Mo_area.2.1 67 = .ok (.iload 7, 2) := by decide +kernel
theorem d_Mo_area_69 : decode m_Mo_area.2.1 69 = .ok (.aload_n 0, 1) := by decide +kernel
theorem d_Mo_area_70 : decode m_Mo_area.2.1 70 = .ok (.getfield 35, 3) := by decide +kernel
theorem d_Mo_area_73 : decode m_Mo_area.2.1 73 = .ok (.iload 6, 2) := by decide +kernel
theorem d_Mo_area_75 : decode m_Mo_area.2.1 75 = .ok (.iaload, 1) := by decide +kernel
theorem d_Mo_area_76 : decode m_Mo_area.2.1 76 = .ok (.if_icmp .ge 77, 3) := by decide +kernel
theorem d_Mo_area_79 : decode m_Mo_area.2.1 79 = .ok (.aload_n 0, 1) := by decide +kernel
theorem d_Mo_area_80 : decode m_Mo_area.2.1 80 = .ok (.getfield 7, 3) := by decide +kernel
theorem d_Mo_area_83 : decode m_Mo_area.2.1 83 = .ok (.iload 6, 2) := by decide +kernel
theorem d_Mo_area_85 : decode m_Mo_area.2.1 85 = .ok (.baload, 1) := by decide +kernel
theorem d_Mo_area_86 : decode m_Mo_area.2.1 86 = .ok (.ifCond .eq 67, 3) := by decide +kernel
theorem d_Mo_area_89 : decode m_Mo_area.2.1 89 = .ok (.aload_n 0, 1) := by decide +kernel
theorem d_Mo_area_90 : decode m_Mo_area.2.1 90 = .ok (.getfield 23, 3) := by decide +kernel
theorem d_Mo_area_93 : decode m_Mo_area.2.1 93 = .ok (.iload 6, 2) := by decide +kernel
theorem d_Mo_area_95 : decode m_Mo_area.2.1 95 = .ok (.baload, 1) := by decide +kernel
theorem d_Mo_area_96 : decode m_Mo_area.2.1 96 = .ok (.ifCond .eq 57, 3) := by decide +kernel
theorem d_Mo_area_99 : decode m_Mo_area.2.1 99 = .ok (.sipush 160, 3) := by decide +kernel
theorem d_Mo_area_102 : decode m_Mo_area.2.1 102 = .ok (.iload 6, 2) := by decide +kernel
theorem d_Mo_area_104 : decode m_Mo_area.2.1 104 = .ok (.imul, 1) := by decide +kernel
theorem d_Mo_area_105 : decode m_Mo_area.2.1 105 = .ok (.iload 7, 2) := by decide +kernel
theorem d_Mo_area_107 : decode m_Mo_area.2.1 107 = .ok (.iadd, 1) := by decide +kernel
theorem d_Mo_area_108 : decode m_Mo_area.2.1 108 = .ok (.istore 8, 2) := by decide +kernel
theorem d_Mo_area_110 : decode m_Mo_area.2.1 110 = .ok (.lload 4, 2) := by decide +kernel
theorem d_Mo_area_112 : decode m_Mo_area.2.1 112 = .ok (.aload_n 0, 1) := by decide +kernel
theorem d_Mo_area_113 : decode m_Mo_area.2.1 113 = .ok (.getfield 62, 3) := by decide +kernel
theorem d_Mo_area_116 : decode m_Mo_area.2.1 116 = .ok (.iload 8, 2) := by decide +kernel
theorem d_Mo_area_118 : decode m_Mo_area.2.1 118 = .ok (.iaload, 1) := by decide +kernel
theorem d_Mo_area_119 : decode m_Mo_area.2.1 119 = .ok (.iconst 1, 1) := by decide +kernel
theorem d_Mo_area_120 : decode m_Mo_area.2.1 120 = .ok (.if_icmp .ne 23, 3) := by decide +kernel
theorem d_Mo_area_123 : decode m_Mo_area.2.1 123 = .ok (.aload_n 0, 1) := by decide +kernel
theorem d_Mo_area_124 : decode m_Mo_area.2.1 124 = .ok (.getfield 47, 3) := by decide +kernel
theorem d_Mo_area_127 : decode m_Mo_area.2.1 127 = .ok (.iload 8, 2) := by decide +kernel
theorem d_Mo_area_129 : decode m_Mo_area.2.1 129 = .ok (.iaload, 1) := by decide +kernel
theorem d_Mo_area_130 : decode m_Mo_area.2.1 130 = .ok (.i2l, 1) := by decide +kernel
theorem d_Mo_area_131 : decode m_Mo_area.2.1 131 = .ok (.aload_n 0, 1) := by decide +kernel
theorem d_Mo_area_132 : decode m_Mo_area.2.1 132 = .ok (.getfield 50, 3) := by decide +kernel
theorem d_Mo_area_135 : decode m_Mo_area.2.1 135 = .ok (.iload 8, 2) := by decide +kernel
theorem d_Mo_area_137 : decode m_Mo_area.2.1 137 = .ok (.iaload, 1) := by decide +kernel
theorem d_Mo_area_138 : decode m_Mo_area.2.1 138 = .ok (.i2l, 1) := by decide +kernel
theorem d_Mo_area_139 : decode m_Mo_area.2.1 139 = .ok (.lmul, 1) := by decide +kernel
theorem d_Mo_area_140 : decode m_Mo_area.2.1 140 = .ok (.goto 4, 3) := by decide +kernel
theorem d_Mo_area_143 : decode m_Mo_area.2.1 143 = .ok (.lconst 0, 1) := by decide +kernel
theorem d_Mo_area_144 : decode m_Mo_area.2.1 144 = .ok (.ladd, 1) := by decide +kernel
theorem d_Mo_area_145 : decode m_Mo_area.2.1 145 = .ok (.lstore 4, 2) := by decide +kernel
theorem d_Mo_area_147 : decode m_Mo_area.2.1 147 = .ok (.iinc 7 1, 3) := by decide +kernel
theorem d_Mo_area_150 : decode m_Mo_area.2.1 150 = .ok (.goto (-83), 3) := by decide +kernel
theorem d_Mo_area_153 : decode m_Mo_area.2.1 153 = .ok (.iinc 6 1, 3) := by decide +kernel
theorem d_Mo_area_156 : decode m_Mo_area.2.1 156 = .ok (.goto (-143), 3) := by decide +kernel
theorem d_Mo_area_159 : decode m_Mo_area.2.1 159 = .ok (.lconst 0, 1) := by decide +kernel
theorem d_Mo_area_160 : decode m_Mo_area.2.1 160 = .ok (.lstore 6, 2) := by decide +kernel
theorem d_Mo_area_162 : decode m_Mo_area.2.1 162 = .ok (.iconst 0, 1) := by decide +kernel
theorem d_Mo_area_163 : decode m_Mo_area.2.1 163 = .ok (.istore 8, 2) := by decide +kernel
theorem d_Mo_area_165 : decode m_Mo_area.2.1 165 = .ok (.iload 8, 2) := by decide +kernel
theorem d_Mo_area_167 : decode m_Mo_area.2.1 167 = .ok (.aload_n 0, 1) := by decide +kernel
theorem d_Mo_area_168 : decode m_Mo_area.2.1 168 = .ok (.getfield 263, 3) := by decide +kernel
theorem d_Mo_area_171 : decode m_Mo_area.2.1 171 = .ok (.if_icmp .ge 31, 3) := by decide +kernel
theorem d_Mo_area_174 : decode m_Mo_area.2.1 174 = .ok (.lload 6, 2) := by decide +kernel
theorem d_Mo_area_176 : decode m_Mo_area.2.1 176 = .ok (.aload_n 0, 1) := by decide +kernel
theorem d_Mo_area_177 : decode m_Mo_area.2.1 177 = .ok (.getfield 83, 3) := by decide +kernel
theorem d_Mo_area_180 : decode m_Mo_area.2.1 180 = .ok (.iload 8, 2) := by decide +kernel
theorem d_Mo_area_182 : decode m_Mo_area.2.1 182 = .ok (.iaload, 1) := by decide +kernel
theorem d_Mo_area_183 : decode m_Mo_area.2.1 183 = .ok (.i2l, 1) := by decide +kernel
theorem d_Mo_area_184 : decode m_Mo_area.2.1 184 = .ok (.aload_n 0, 1) := by decide +kernel
theorem d_Mo_area_185 : decode m_Mo_area.2.1 185 = .ok (.getfield 86, 3) := by decide +kernel
theorem d_Mo_area_188 : decode m_Mo_area.2.1 188 = .ok (.iload 8, 2) := by decide +kernel
theorem d_Mo_area_190 : decode m_Mo_area.2.1 190 = .ok (.iaload, 1) := by decide +kernel
theorem d_Mo_area_191 : decode m_Mo_area.2.1 191 = .ok (.i2l, 1) := by decide +kernel
theorem d_Mo_area_192 : decode m_Mo_area.2.1 192 = .ok (.lmul, 1) := by decide +kernel
theorem d_Mo_area_193 : decode m_Mo_area.2.1 193 = .ok (.ladd, 1) := by decide +kernel
theorem d_Mo_area_194 : decode m_Mo_area.2.1 194 = .ok (.lstore 6, 2) := by decide +kernel
theorem d_Mo_area_196 : decode m_Mo_area.2.1 196 = .ok (.iinc 8 1, 3) := by decide +kernel
theorem d_Mo_area_199 : decode m_Mo_area.2.1 199 = .ok (.goto (-34), 3) := by decide +kernel
theorem d_Mo_area_202 : decode m_Mo_area.2.1 202 = .ok (.iload_n 1, 1) := by decide +kernel
theorem d_Mo_area_203 : decode m_Mo_area.2.1 203 = .ok (.ifCond .ne 7, 3) := by decide +kernel
theorem d_Mo_area_206 : decode m_Mo_area.2.1 206 = .ok (.lload_n 2, 1) := by decide +kernel
theorem d_Mo_area_207 : decode m_Mo_area.2.1 207 = .ok (.goto 73, 3) := by decide +kernel
theorem d_Mo_area_210 : decode m_Mo_area.2.1 210 = .ok (.iload_n 1, 1) := by decide +kernel
theorem d_Mo_area_211 : decode m_Mo_area.2.1 211 = .ok (.iconst 1, 1) := by decide +kernel
theorem d_Mo_area_212 : decode m_Mo_area.2.1 212 = .ok (.if_icmp .ne 10, 3) := by decide +kernel
theorem d_Mo_area_215 : decode m_Mo_area.2.1 215 = .ok (.aload_n 0, 1) := by decide +kernel
theorem d_Mo_area_216 : decode m_Mo_area.2.1 216 = .ok (.getfield 266, 3) := by decide +kernel
theorem d_Mo_area_219 : decode m_Mo_area.2.1 219 = .ok (.goto 61, 3) := by decide +kernel
theorem d_Mo_area_222 : decode m_Mo_area.2.1 222 = .ok (.iload_n 1, 1) := by decide +kernel
theorem d_Mo_area_223 : decode m_Mo_area.2.1 223 = .ok (.iconst 2, 1) := by decide +kernel
theorem d_Mo_area_224 : decode m_Mo_area.2.1 224 = .ok (.if_icmp .ne 8, 3) := by decide +kernel
theorem d_Mo_area_227 : decode m_Mo_area.2.1 227 = .ok (.lload 6, 2) := by decide +kernel
theorem d_Mo_area_229 : decode m_Mo_area.2.1 229 = .ok (.goto 51, 3) := by decide +kernel
theorem d_Mo_area_232 : decode m_Mo_area.2.1 232 = .ok (.iload_n 1, 1) := by decide +kernel
theorem d_Mo_area_233 : decode m_Mo_area.2.1 233 = .ok (.iconst 3, 1) := by decide +kernel
theorem d_Mo_area_234 : decode m_Mo_area.2.1 234 = .ok (.if_icmp .ne 10, 3) := by decide +kernel
theorem d_Mo_area_237 : decode m_Mo_area.2.1 237 = .ok (.aload_n 0, 1) := by decide +kernel
theorem d_Mo_area_238 : decode m_Mo_area.2.1 238 = .ok (.getfield 273, 3) := by decide +kernel
theorem d_Mo_area_241 : decode m_Mo_area.2.1 241 = .ok (.goto 39, 3) := by decide +kernel
theorem d_Mo_area_244 : decode m_Mo_area.2.1 244 = .ok (.iload_n 1, 1) := by decide +kernel
theorem d_Mo_area_245 : decode m_Mo_area.2.1 245 = .ok (.iconst 4, 1) := by decide +kernel
theorem d_Mo_area_246 : decode m_Mo_area.2.1 246 = .ok (.if_icmp .ne 10, 3) := by decide +kernel
theorem d_Mo_area_249 : decode m_Mo_area.2.1 249 = .ok (.aload_n 0, 1) := by decide +kernel
theorem d_Mo_area_250 : decode m_Mo_area.2.1 250 = .ok (.getfield 282, 3) := by decide +kernel
theorem d_Mo_area_253 : decode m_Mo_area.2.1 253 = .ok (.goto 27, 3) := by decide +kernel
theorem d_Mo_area_256 : decode m_Mo_area.2.1 256 = .ok (.iload_n 1, 1) := by decide +kernel
theorem d_Mo_area_257 : decode m_Mo_area.2.1 257 = .ok (.iconst 5, 1) := by decide +kernel
theorem d_Mo_area_258 : decode m_Mo_area.2.1 258 = .ok (.if_icmp .ne 8, 3) := by decide +kernel
theorem d_Mo_area_261 : decode m_Mo_area.2.1 261 = .ok (.lload 4, 2) := by decide +kernel
theorem d_Mo_area_263 : decode m_Mo_area.2.1 263 = .ok (.goto 17, 3) := by decide +kernel
theorem d_Mo_area_266 : decode m_Mo_area.2.1 266 = .ok (.iload_n 1, 1) := by decide +kernel
theorem d_Mo_area_267 : decode m_Mo_area.2.1 267 = .ok (.bipush 6, 2) := by decide +kernel
theorem d_Mo_area_269 : decode m_Mo_area.2.1 269 = .ok (.if_icmp .ne 10, 3) := by decide +kernel
theorem d_Mo_area_272 : decode m_Mo_area.2.1 272 = .ok (.aload_n 0, 1) := by decide +kernel
theorem d_Mo_area_273 : decode m_Mo_area.2.1 273 = .ok (.getfield 158, 3) := by decide +kernel
theorem d_Mo_area_276 : decode m_Mo_area.2.1 276 = .ok (.goto 4, 3) := by decide +kernel
theorem d_Mo_area_279 : decode m_Mo_area.2.1 279 = .ok (.lconst 0, 1) := by decide +kernel
theorem d_Mo_area_280 : decode m_Mo_area.2.1 280 = .ok (.lreturn, 1) := by decide +kernel
theorem d_Mo_total_0 : decode m_Mo_total.2.1 0 = .ok (.aload_n 0, 1) := by decide +kernel
theorem d_Mo_total_1 : decode m_Mo_total.2.1 1 = .ok (.iconst 0, 1) := by decide +kernel
theorem d_Mo_total_2 : decode m_Mo_total.2.1 2 = .ok (.putfield 140, 3) := by decide +kernel
theorem d_Mo_total_5 : decode m_Mo_total.2.1 5 = .ok (.iconst 0, 1) := by decide +kernel
theorem d_Mo_total_6 : decode m_Mo_total.2.1 6 = .ok (.istore_n 2, 1) := by decide +kernel
theorem d_Mo_total_7 : decode m_Mo_total.2.1 7 = .ok (.iconst 0, 1) := by decide +kernel
theorem d_Mo_total_8 : decode m_Mo_total.2.1 8 = .ok (.istore_n 3, 1) := by decide +kernel
theorem d_Mo_total_9 : decode m_Mo_total.2.1 9 = .ok (.iload_n 3, 1) := by decide +kernel
theorem d_Mo_total_10 : decode m_Mo_total.2.1 10 = .ok (.bipush 8, 2) := by decide +kernel
theorem d_Mo_total_12 : decode m_Mo_total.2.1 12 = .ok (.if_icmp .ge 35, 3) := by decide +kernel
theorem d_Mo_total_15 : decode m_Mo_total.2.1 15 = .ok (.aload_n 0, 1) := by decide +kernel
theorem d_Mo_total_16 : decode m_Mo_total.2.1 16 = .ok (.getfield 7, 3) := by decide +kernel
theorem d_Mo_total_19 : decode m_Mo_total.2.1 19 = .ok (.iload_n 3, 1) := by decide +kernel
theorem d_Mo_total_20 : decode m_Mo_total.2.1 20 = .ok (.baload, 1) := by decide +kernel
theorem d_Mo_total_21 : decode m_Mo_total.2.1 21 = .ok (.ifCond .eq 18, 3) := by decide +kernel
theorem d_Mo_total_24 : decode m_Mo_total.2.1 24 = .ok (.aload_n 0, 1) := by decide +kernel
theorem d_Mo_total_25 : decode m_Mo_total.2.1 25 = .ok (.getfield 23, 3) := by decide +kernel
theorem d_Mo_total_28 : decode m_Mo_total.2.1 28 = .ok (.iload_n 3, 1) := by decide +kernel
theorem d_Mo_total_29 : decode m_Mo_total.2.1 29 = .ok (.baload, 1) := by decide +kernel
theorem d_Mo_total_30 : decode m_Mo_total.2.1 30 = .ok (.ifCond .eq 9, 3) := by decide +kernel
theorem d_Mo_total_33 : decode m_Mo_total.2.1 33 = .ok (.iload_n 2, 1) := by decide +kernel
theorem d_Mo_total_34 : decode m_Mo_total.2.1 34 = .ok (.iconst 1, 1) := by decide +kernel
theorem d_Mo_total_35 : decode m_Mo_total.2.1 35 = .ok (.iadd, 1) := by decide +kernel
theorem d_Mo_total_36 : decode m_Mo_total.2.1 36 = .ok (.goto 4, 3) := by decide +kernel
theorem d_Mo_total_39 : decode m_Mo_total.2.1 39 = .ok (.iload_n 2, 1) := by decide +kernel
theorem d_Mo_total_40 : decode m_Mo_total.2.1 40 = .ok (.istore_n 2, 1) := by decide +kernel
theorem d_Mo_total_41 : decode m_Mo_total.2.1 41 = .ok (.iinc 3 1, 3) := by decide +kernel
theorem d_Mo_total_44 : decode m_Mo_total.2.1 44 = .ok (.goto (-35), 3) := by decide +kernel
theorem d_Mo_total_47 : decode m_Mo_total.2.1 47 = .ok (.iload_n 1, 1) := by decide +kernel
theorem d_Mo_total_48 : decode m_Mo_total.2.1 48 = .ok (.ifCond .ne 10, 3) := by decide +kernel
theorem d_Mo_total_51 : decode m_Mo_total.2.1 51 = .ok (.aload_n 0, 1) := by decide +kernel
theorem d_Mo_total_52 : decode m_Mo_total.2.1 52 = .ok (.invokevirtual 154, 3) := by decide +kernel
theorem d_Mo_total_55 : decode m_Mo_total.2.1 55 = .ok (.goto 49, 3) := by decide +kernel
theorem d_Mo_total_58 : decode m_Mo_total.2.1 58 = .ok (.iload_n 1, 1) := by decide +kernel
theorem d_Mo_total_59 : decode m_Mo_total.2.1 59 = .ok (.iconst 1, 1) := by decide +kernel
theorem d_Mo_total_60 : decode m_Mo_total.2.1 60 = .ok (.if_icmp .ne 7, 3) := by decide +kernel
theorem d_Mo_total_63 : decode m_Mo_total.2.1 63 = .ok (.iload_n 2, 1) := by decide +kernel
theorem d_Mo_total_64 : decode m_Mo_total.2.1 64 = .ok (.goto 40, 3) := by decide +kernel
theorem d_Mo_total_67 : decode m_Mo_total.2.1 67 = .ok (.iload_n 1, 1) := by decide +kernel
theorem d_Mo_total_68 : decode m_Mo_total.2.1 68 = .ok (.iconst 2, 1) := by decide +kernel
theorem d_Mo_total_69 : decode m_Mo_total.2.1 69 = .ok (.if_icmp .ne 10, 3) := by decide +kernel
theorem d_Mo_total_72 : decode m_Mo_total.2.1 72 = .ok (.aload_n 0, 1) := by decide +kernel
theorem d_Mo_total_73 : decode m_Mo_total.2.1 73 = .ok (.getfield 144, 3) := by decide +kernel
theorem d_Mo_total_76 : decode m_Mo_total.2.1 76 = .ok (.goto 28, 3) := by decide +kernel
theorem d_Mo_total_79 : decode m_Mo_total.2.1 79 = .ok (.iload_n 1, 1) := by decide +kernel
theorem d_Mo_total_80 : decode m_Mo_total.2.1 80 = .ok (.iconst 3, 1) := by decide +kernel
theorem d_Mo_total_81 : decode m_Mo_total.2.1 81 = .ok (.if_icmp .ne 10, 3) := by decide +kernel
theorem d_Mo_total_84 : decode m_Mo_total.2.1 84 = .ok (.aload_n 0, 1) := by decide +kernel
theorem d_Mo_total_85 : decode m_Mo_total.2.1 85 = .ok (.getfield 263, 3) := by decide +kernel
theorem d_Mo_total_88 : decode m_Mo_total.2.1 88 = .ok (.goto 16, 3) := by decide +kernel
theorem d_Mo_total_91 : decode m_Mo_total.2.1 91 = .ok (.iload_n 1, 1) := by decide +kernel
theorem d_Mo_total_92 : decode m_Mo_total.2.1 92 = .ok (.iconst 4, 1) := by decide +kernel
theorem d_Mo_total_93 : decode m_Mo_total.2.1 93 = .ok (.if_icmp .ne 10, 3) := by decide +kernel
theorem d_Mo_total_96 : decode m_Mo_total.2.1 96 = .ok (.aload_n 0, 1) := by decide +kernel
theorem d_Mo_total_97 : decode m_Mo_total.2.1 97 = .ok (.getfield 147, 3) := by decide +kernel
theorem d_Mo_total_100 : decode m_Mo_total.2.1 100 = .ok (.goto 4, 3) := by decide +kernel
theorem d_Mo_total_103 : decode m_Mo_total.2.1 103 = .ok (.iconst (-1), 1) := by decide +kernel
theorem d_Mo_total_104 : decode m_Mo_total.2.1 104 = .ok (.ireturn, 1) := by decide +kernel
theorem d_Lw_law_0 : decode m_Lw_law.2.1 0 = .ok (.new 8, 3) := by decide +kernel
theorem d_Lw_law_3 : decode m_Lw_law.2.1 3 = .ok (.dup, 1) := by decide +kernel
theorem d_Lw_law_4 : decode m_Lw_law.2.1 4 = .ok (.invokespecial 65, 3) := by decide +kernel
theorem d_Lw_law_7 : decode m_Lw_law.2.1 7 = .ok (.astore_n 1, 1) := by decide +kernel
theorem d_Lw_law_8 : decode m_Lw_law.2.1 8 = .ok (.new 66, 3) := by decide +kernel
theorem d_Lw_law_11 : decode m_Lw_law.2.1 11 = .ok (.dup, 1) := by decide +kernel
theorem d_Lw_law_12 : decode m_Lw_law.2.1 12 = .ok (.invokespecial 68, 3) := by decide +kernel
theorem d_Lw_law_15 : decode m_Lw_law.2.1 15 = .ok (.astore_n 2, 1) := by decide +kernel
theorem d_Lw_law_16 : decode m_Lw_law.2.1 16 = .ok (.iconst 1, 1) := by decide +kernel
theorem d_Lw_law_17 : decode m_Lw_law.2.1 17 = .ok (.newarray .long, 2) := by decide +kernel
theorem d_Lw_law_19 : decode m_Lw_law.2.1 19 = .ok (.astore_n 3, 1) := by decide +kernel
theorem d_Lw_law_20 : decode m_Lw_law.2.1 20 = .ok (.iconst 0, 1) := by decide +kernel
theorem d_Lw_law_21 : decode m_Lw_law.2.1 21 = .ok (.istore 4, 2) := by decide +kernel
theorem d_Lw_law_23 : decode m_Lw_law.2.1 23 = .ok (.iload 4, 2) := by decide +kernel
theorem d_Lw_law_25 : decode m_Lw_law.2.1 25 = .ok (.aload_n 0, 1) := by decide +kernel
theorem d_Lw_law_26 : decode m_Lw_law.2.1 26 = .ok (.arraylength, 1) := by decide +kernel
theorem d_Lw_law_27 : decode m_Lw_law.2.1 27 = .ok (.bipush 6, 2) := by decide +kernel
theorem d_Lw_law_29 : decode m_Lw_law.2.1 29 = .ok (.isub, 1) := by decide +kernel
theorem d_Lw_law_30 : decode m_Lw_law.2.1 30 = .ok (.if_icmp .gt 1204, 3) := by decide +kernel
theorem d_Lw_law_33 : decode m_Lw_law.2.1 33 = .ok (.aload_n 0, 1) := by decide +kernel
theorem d_Lw_law_34 : decode m_Lw_law.2.1 34 = .ok (.iload 4, 2) := by decide +kernel
theorem d_Lw_law_36 : decode m_Lw_law.2.1 36 = .ok (.iaload, 1) := by decide +kernel
theorem d_Lw_law_37 : decode m_Lw_law.2.1 37 = .ok (.bipush 31, 2) := by decide +kernel
theorem d_Lw_law_39 : decode m_Lw_law.2.1 39 = .ok (.iand, 1) := by decide +kernel
theorem d_Lw_law_40 : decode m_Lw_law.2.1 40 = .ok (.tableswitch 1188 0 16 #[84, 152, 256, 364, 420, 512, 592, 648, 704, 772, 828, 884, 952, 989, 1069, 1137, 1163], 84) := by decide +kernel
theorem d_Lw_law_124 : decode m_Lw_law.2.1 124 = .ok (.aload_n 1, 1) := by decide +kernel
theorem d_Lw_law_125 : decode m_Lw_law.2.1 125 = .ok (.aload_n 0, 1) := by decide +kernel
theorem d_Lw_law_126 : decode m_Lw_law.2.1 126 = .ok (.iload 4, 2) := by decide +kernel
theorem d_Lw_law_128 : decode m_Lw_law.2.1 128 = .ok (.iconst 1, 1) := by decide +kernel
theorem d_Lw_law_129 : decode m_Lw_law.2.1 129 = .ok (.iadd, 1) := by decide +kernel
theorem d_Lw_law_130 : decode m_Lw_law.2.1 130 = .ok (.iaload, 1) := by decide +kernel
theorem d_Lw_law_131 : decode m_Lw_law.2.1 131 = .ok (.aload_n 0, 1) := by decide +kernel
theorem d_Lw_law_132 : decode m_Lw_law.2.1 132 = .ok (.iload 4, 2) := by decide +kernel
theorem d_Lw_law_134 : decode m_Lw_law.2.1 134 = .ok (.iconst 2, 1) := by decide +kernel
theorem d_Lw_law_135 : decode m_Lw_law.2.1 135 = .ok (.iadd, 1) := by decide +kernel
theorem d_Lw_law_136 : decode m_Lw_law.2.1 136 = .ok (.iaload, 1) := by decide +kernel
theorem d_Lw_law_137 : decode m_Lw_law.2.1 137 = .ok (.aload_n 3, 1) := by decide +kernel
theorem d_Lw_law_138 : decode m_Lw_law.2.1 138 = .ok (.invokestatic 69, 3) := by decide +kernel
theorem d_Lw_law_141 : decode m_Lw_law.2.1 141 = .ok (.istore 5, 2) := by decide +kernel
theorem d_Lw_law_143 : decode m_Lw_law.2.1 143 = .ok (.aload_n 2, 1) := by decide +kernel
theorem d_Lw_law_144 : decode m_Lw_law.2.1 144 = .ok (.aload_n 0, 1) := by decide +kernel
theorem d_Lw_law_145 : decode m_Lw_law.2.1 145 = .ok (.iload 4, 2) := by decide +kernel
theorem d_Lw_law_147 : decode m_Lw_law.2.1 147 = .ok (.iconst 1, 1) := by decide +kernel
theorem d_Lw_law_148 : decode m_Lw_law.2.1 148 = .ok (.iadd, 1) := by decide +kernel
theorem d_Lw_law_149 : decode m_Lw_law.2.1 149 = .ok (.iaload, 1) := by decide +kernel
theorem d_Lw_law_150 : decode m_Lw_law.2.1 150 = .ok (.aload_n 0, 1) := by decide +kernel
theorem d_Lw_law_151 : decode m_Lw_law.2.1 151 = .ok (.iload 4, 2) := by decide +kernel
theorem d_Lw_law_153 : decode m_Lw_law.2.1 153 = .ok (.iconst 2, 1) := by decide +kernel
theorem d_Lw_law_154 : decode m_Lw_law.2.1 154 = .ok (.iadd, 1) := by decide +kernel
theorem d_Lw_law_155 : decode m_Lw_law.2.1 155 = .ok (.iaload, 1) := by decide +kernel
theorem d_Lw_law_156 : decode m_Lw_law.2.1 156 = .ok (.invokevirtual 74, 3) := by decide +kernel
theorem d_Lw_law_159 : decode m_Lw_law.2.1 159 = .ok (.istore 6, 2) := by decide +kernel
theorem d_Lw_law_161 : decode m_Lw_law.2.1 161 = .ok (.aload_n 2, 1) := by decide +kernel
theorem d_Lw_law_162 : decode m_Lw_law.2.1 162 = .ok (.invokevirtual 75, 3) := by decide +kernel
theorem d_Lw_law_165 : decode m_Lw_law.2.1 165 = .ok (.iload 5, 2) := by decide +kernel
theorem d_Lw_law_167 : decode m_Lw_law.2.1 167 = .ok (.if_icmp .eq 5, 3) := by decide +kernel
theorem d_Lw_law_170 : decode m_Lw_law.2.1 170 = .ok (.iconst 0, 1) := by decide +kernel
theorem d_Lw_law_171 : decode m_Lw_law.2.1 171 = .ok (.ireturn, 1) := by decide +kernel
theorem d_Lw_law_172 : decode m_Lw_law.2.1 172 = .ok (.iload 5, 2) := by decide +kernel
theorem d_Lw_law_174 : decode m_Lw_law.2.1 174 = .ok (.ifCond .ne 15, 3) := by decide +kernel
theorem d_Lw_law_177 : decode m_Lw_law.2.1 177 = .ok (.aload_n 3, 1) := by decide +kernel
theorem d_Lw_law_178 : decode m_Lw_law.2.1 178 = .ok (.iconst 0, 1) := by decide +kernel
theorem d_Lw_law_179 : decode m_Lw_law.2.1 179 = .ok (.laload, 1) := by decide +kernel
theorem d_Lw_law_180 : decode m_Lw_law.2.1 180 = .ok (.iload 6, 2) := by decide +kernel
theorem d_Lw_law_182 : decode m_Lw_law.2.1 182 = .ok (.i2l, 1) := by decide +kernel
theorem d_Lw_law_183 : decode m_Lw_law.2.1 183 = .ok (.lcmp, 1) := by decide +kernel
theorem d_Lw_law_184 : decode m_Lw_law.2.1 184 = .ok (.ifCond .eq 5, 3) := by decide +kernel
theorem d_Lw_law_187 : decode m_Lw_law.2.1 187 = .ok (.iconst 0, 1) := by decide +kernel
theorem d_Lw_law_188 : decode m_Lw_law.2.1 188 = .ok (.ireturn, 1) := by decide +kernel
theorem d_Lw_law_189 : decode m_Lw_law.2.1 189 = .ok (.goto 1039, 3) := by decide +kernel
theorem d_Lw_law_192 : decode m_Lw_law.2.1 192 = .ok (.aload_n 1, 1) := by decide +kernel
theorem d_Lw_law_193 : decode m_Lw_law.2.1 193 = .ok (.aload_n 0, 1) := by decide +kernel
theorem d_Lw_law_194 : decode m_Lw_law.2.1 194 = .ok (.iload 4, 2) := by decide +kernel
theorem d_Lw_law_196 : decode m_Lw_law.2.1 196 = .ok (.iconst 1, 1) := by decide +kernel
theorem d_Lw_law_197 : decode m_Lw_law.2.1 197 = .ok (.iadd, 1) := by decide +kernel
theorem d_Lw_law_198 : decode m_Lw_law.2.1 198 = .ok (.iaload, 1) := by decide +kernel
theorem d_Lw_law_199 : decode m_Lw_law.2.1 199 = .ok (.aload_n 0, 1) := by decide +kernel
theorem d_Lw_law_200 : decode m_Lw_law.2.1 200 = .ok (.iload 4, 2) := by decide +kernel
theorem d_Lw_law_202 : decode m_Lw_law.2.1 202 = .ok (.iconst 2, 1) := by decide +kernel
theorem d_Lw_law_203 : decode m_Lw_law.2.1 203 = .ok (.iadd, 1) := by decide +kernel
theorem d_Lw_law_204 : decode m_Lw_law.2.1 204 = .ok (.iaload, 1) := by decide +kernel
theorem d_Lw_law_205 : decode m_Lw_law.2.1 205 = .ok (.aload_n 0, 1) := by decide +kernel
theorem d_Lw_law_206 : decode m_Lw_law.2.1 206 = .ok (.iload 4, 2) := by decide +kernel
theorem d_Lw_law_208 : decode m_Lw_law.2.1 208 = .ok (.iconst 3, 1) := by decide +kernel
theorem d_Lw_law_209 : decode m_Lw_law.2.1 209 = .ok (.iadd, 1) := by decide +kernel
theorem d_Lw_law_210 : decode m_Lw_law.2.1 210 = .ok (.iaload, 1) := by decide +kernel
theorem d_Lw_law_211 : decode m_Lw_law.2.1 211 = .ok (.aload_n 0, 1) := by decide +kernel
theorem d_Lw_law_212 : decode m_Lw_law.2.1 212 = .ok (.iload 4, 2) := by decide +kernel
theorem d_Lw_law_214 : decode m_Lw_law.2.1 214 = .ok (.iconst 4, 1) := by decide +kernel
theorem d_Lw_law_215 : decode m_Lw_law.2.1 215 = .ok (.iadd, 1) := by decide +kernel
theorem d_Lw_law_216 : decode m_Lw_law.2.1 216 = .ok (.iaload, 1) := by decide +kernel
theorem d_Lw_law_217 : decode m_Lw_law.2.1 217 = .ok (.aload_n 0, 1) := by decide +kernel
theorem d_Lw_law_218 : decode m_Lw_law.2.1 218 = .ok (.iload 4, 2) := by decide +kernel
theorem d_Lw_law_220 : decode m_Lw_law.2.1 220 = .ok (.iconst 5, 1) := by decide +kernel
theorem d_Lw_law_221 : decode m_Lw_law.2.1 221 = .ok (.iadd, 1) := by decide +kernel
theorem d_Lw_law_222 : decode m_Lw_law.2.1 222 = .ok (.iaload, 1) := by decide +kernel
theorem d_Lw_law_223 : decode m_Lw_law.2.1 223 = .ok (.aload_n 3, 1) := by decide +kernel
theorem d_Lw_law_224 : decode m_Lw_law.2.1 224 = .ok (.invokestatic 79, 3) := by decide +kernel
theorem d_Lw_law_227 : decode m_Lw_law.2.1 227 = .ok (.istore 5, 2) := by decide +kernel
theorem d_Lw_law_229 : decode m_Lw_law.2.1 229 = .ok (.aload_n 2, 1) := by decide +kernel
theorem d_Lw_law_230 : decode m_Lw_law.2.1 230 = .ok (.aload_n 0, 1) := by decide +kernel
theorem d_Lw_law_231 : decode m_Lw_law.2.1 231 = .ok (.iload 4, 2) := by decide +kernel
theorem d_Lw_law_233 : decode m_Lw_law.2.1 233 = .ok (.iconst 1, 1) := by decide +kernel
theorem d_Lw_law_234 : decode m_Lw_law.2.1 234 = .ok (.iadd, 1) := by decide +kernel
theorem d_Lw_law_235 : decode m_Lw_law.2.1 235 = .ok (.iaload, 1) := by decide +kernel
theorem d_Lw_law_236 : decode m_Lw_law.2.1 236 = .ok (.aload_n 0, 1) := by decide +kernel
theorem d_Lw_law_237 : decode m_Lw_law.2.1 237 = .ok (.iload 4, 2) := by decide +kernel
theorem d_Lw_law_239 : decode m_Lw_law.2.1 239 = .ok (.iconst 2, 1) := by decide +kernel
theorem d_Lw_law_240 : decode m_Lw_law.2.1 240 = .ok (.iadd, 1) := by decide +kernel
theorem d_Lw_law_241 : decode m_Lw_law.2.1 241 = .ok (.iaload, 1) := by decide +kernel
theorem d_Lw_law_242 : decode m_Lw_law.2.1 242 = .ok (.aload_n 0, 1) := by decide +kernel
theorem d_Lw_law_243 : decode m_Lw_law.2.1 243 = .ok (.iload 4, 2) := by decide +kernel
theorem d_Lw_law_245 : decode m_Lw_law.2.1 245 = .ok (.iconst 3, 1) := by decide +kernel
theorem d_Lw_law_246 : decode m_Lw_law.2.1 246 = .ok (.iadd, 1) := by decide +kernel
theorem d_Lw_law_247 : decode m_Lw_law.2.1 247 = .ok (.iaload, 1) := by decide +kernel
theorem d_Lw_law_248 : decode m_Lw_law.2.1 248 = .ok (.aload_n 0, 1) := by decide +kernel
theorem d_Lw_law_249 : decode m_Lw_law.2.1 249 = .ok (.iload 4, 2) := by decide +kernel
theorem d_Lw_law_251 : decode m_Lw_law.2.1 251 = .ok (.iconst 4, 1) := by decide +kernel
theorem d_Lw_law_252 : decode m_Lw_law.2.1 252 = .ok (.iadd, 1) := by decide +kernel
theorem d_Lw_law_253 : decode m_Lw_law.2.1 253 = .ok (.iaload, 1) := by decide +kernel
theorem d_Lw_law_254 : decode m_Lw_law.2.1 254 = .ok (.aload_n 0, 1) := by decide +kernel
theorem d_Lw_law_255 : decode m_Lw_law.2.1 255 = .ok (.iload 4, 2) := by decide +kernel
theorem d_Lw_law_257 : decode m_Lw_law.2.1 257 = .ok (.iconst 5, 1) := by decide +kernel
theorem d_Lw_law_258 : decode m_Lw_law.2.1 258 = .ok (.iadd, 1) := by decide +kernel
theorem d_Lw_law_259 : decode m_Lw_law.2.1 259 = .ok (.iaload, 1) := by decide +kernel
theorem d_Lw_law_260 : decode m_Lw_law.2.1 260 = .ok (.invokevirtual 82, 3) := by decide +kernel
theorem d_Lw_law_263 : decode m_Lw_law.2.1 263 = .ok (.istore 6, 2) := by decide +kernel
theorem d_Lw_law_265 : decode m_Lw_law.2.1 265 = .ok (.aload_n 2, 1) := by decide +kernel
theorem d_Lw_law_266 : decode m_Lw_law.2.1 266 = .ok (.invokevirtual 75, 3) := by decide +kernel
theorem d_Lw_law_269 : decode m_Lw_law.2.1 269 = .ok (.iload 5, 2) := by decide +kernel
theorem d_Lw_law_271 : decode m_Lw_law.2.1 271 = .ok (.if_icmp .eq 5, 3) := by decide +kernel
theorem d_Lw_law_274 : decode m_Lw_law.2.1 274 = .ok (.iconst 0, 1) := by decide +kernel
theorem d_Lw_law_275 : decode m_Lw_law.2.1 275 = .ok (.ireturn, 1) := by decide +kernel
theorem d_Lw_law_276 : decode m_Lw_law.2.1 276 = .ok (.iload 5, 2) := by decide +kernel
theorem d_Lw_law_278 : decode m_Lw_law.2.1 278 = .ok (.ifCond .ne 15, 3) := by decide +kernel
theorem d_Lw_law_281 : decode m_Lw_law.2.1 281 = .ok (.aload_n 3, 1) := by decide +kernel
theorem d_Lw_law_282 : decode m_Lw_law.2.1 282 = .ok (.iconst 0, 1) := by decide +kernel
theorem d_Lw_law_283 : decode m_Lw_law.2.1 283 = .ok (.laload, 1) := by decide +kernel
theorem d_Lw_law_284 : decode m_Lw_law.2.1 284 = .ok (.iload 6, 2) := by decide +kernel
theorem d_Lw_law_286 : decode m_Lw_law.2.1 286 = .ok (.i2l, 1) := by decide +kernel
theorem d_Lw_law_287 : decode m_Lw_law.2.1 287 = .ok (.lcmp, 1) := by decide +kernel
theorem d_Lw_law_288 : decode m_Lw_law.2.1 288 = .ok (.ifCond .eq 5, 3) := by decide +kernel
theorem d_Lw_law_291 : decode m_Lw_law.2.1 291 = .ok (.iconst 0, 1) := by decide +kernel
theorem d_Lw_law_292 : decode m_Lw_law.2.1 292 = .ok (.ireturn, 1) := by decide +kernel
theorem d_Lw_law_293 : decode m_Lw_law.2.1 293 = .ok (.goto 935, 3) := by decide +kernel
theorem d_Lw_law_296 : decode m_Lw_law.2.1 296 = .ok (.aload_n 1, 1) := by decide +kernel
theorem d_Lw_law_297 : decode m_Lw_law.2.1 297 = .ok (.aload_n 0, 1) := by decide +kernel
theorem d_Lw_law_298 : decode m_Lw_law.2.1 298 = .ok (.iload 4, 2) := by decide +kernel
theorem d_Lw_law_300 : decode m_Lw_law.2.1 300 = .ok (.iconst 1, 1) := by decide +kernel
theorem d_Lw_law_301 : decode m_Lw_law.2.1 301 = .ok (.iadd, 1) := by decide +kernel
theorem d_Lw_law_302 : decode m_Lw_law.2.1 302 = .ok (.iaload, 1) := by decide +kernel
theorem d_Lw_law_303 : decode m_Lw_law.2.1 303 = .ok (.aload_n 0, 1) := by decide +kernel
theorem d_Lw_law_304 : decode m_Lw_law.2.1 304 = .ok (.iload 4, 2) := by decide +kernel
theorem d_Lw_law_306 : decode m_Lw_law.2.1 306 = .ok (.iconst 2, 1) := by decide +kernel
theorem d_Lw_law_307 : decode m_Lw_law.2.1 307 = .ok (.iadd, 1) := by decide +kernel
theorem d_Lw_law_308 : decode m_Lw_law.2.1 308 = .ok (.iaload, 1) := by decide +kernel
theorem d_Lw_law_309 : decode m_Lw_law.2.1 309 = .ok (.aload_n 0, 1) := by decide +kernel
theorem d_Lw_law_310 : decode m_Lw_law.2.1 310 = .ok (.iload 4, 2) := by decide +kernel
theorem d_Lw_law_312 : decode m_Lw_law.2.1 312 = .ok (.iconst 3, 1) := by decide +kernel
theorem d_Lw_law_313 : decode m_Lw_law.2.1 313 = .ok (.iadd, 1) := by decide +kernel
theorem d_Lw_law_314 : decode m_Lw_law.2.1 314 = .ok (.iaload, 1) := by decide +kernel
theorem d_Lw_law_315 : decode m_Lw_law.2.1 315 = .ok (.ifCond .eq 7, 3) := by decide +kernel
theorem d_Lw_law_318 : decode m_Lw_law.2.1 318 = .ok (.iconst 1, 1) := by decide +kernel
theorem d_Lw_law_319 : decode m_Lw_law.2.1 319 = .ok (.goto 4, 3) := by decide +kernel
theorem d_Lw_law_322 : decode m_Lw_law.2.1 322 = .ok (.iconst 0, 1) := by decide +kernel
theorem d_Lw_law_323 : decode m_Lw_law.2.1 323 = .ok (.aload_n 0, 1) := by decide +kernel
theorem d_Lw_law_324 : decode m_Lw_law.2.1 324 = .ok (.iload 4, 2) := by decide +kernel
theorem d_Lw_law_326 : decode m_Lw_law.2.1 326 = .ok (.iconst 4, 1) := by decide +kernel
theorem d_Lw_law_327 : decode m_Lw_law.2.1 327 = .ok (.iadd, 1) := by decide +kernel
theorem d_Lw_law_328 : decode m_Lw_law.2.1 328 = .ok (.iaload, 1) := by decide +kernel
theorem d_Lw_law_329 : decode m_Lw_law.2.1 329 = .ok (.aload_n 3, 1) := by decide +kernel
theorem d_Lw_law_330 : decode m_Lw_law.2.1 330 = .ok (.invokestatic 83, 3) := by decide +kernel
theorem d_Lw_law_333 : decode m_Lw_law.2.1 333 = .ok (.istore 5, 2) := by decide +kernel
theorem d_Lw_law_335 : decode m_Lw_law.2.1 335 = .ok (.aload_n 2, 1) := by decide +kernel
theorem d_Lw_law_336 : decode m_Lw_law.2.1 336 = .ok (.aload_n 0, 1) := by decide +kernel
theorem d_Lw_law_337 : decode m_Lw_law.2.1 337 = .ok (.iload 4, 2) := by decide +kernel
theorem d_Lw_law_339 : decode m_Lw_law.2.1 339 = .ok (.iconst 1, 1) := by decide +kernel
theorem d_Lw_law_340 : decode m_Lw_law.2.1 340 = .ok (.iadd, 1) := by decide +kernel
theorem d_Lw_law_341 : decode m_Lw_law.2.1 341 = .ok (.iaload, 1) := by decide +kernel
theorem d_Lw_law_342 : decode m_Lw_law.2.1 342 = .ok (.aload_n 0, 1) := by decide +kernel
theorem d_Lw_law_343 : decode m_Lw_law.2.1 343 = .ok (.iload 4, 2) := by decide +kernel
theorem d_Lw_law_345 : decode m_Lw_law.2.1 345 = .ok (.iconst 2, 1) := by decide +kernel
theorem d_Lw_law_346 : decode m_Lw_law.2.1 346 = .ok (.iadd, 1) := by decide +kernel
theorem d_Lw_law_347 : decode m_Lw_law.2.1 347 = .ok (.iaload, 1) := by decide +kernel
theorem d_Lw_law_348 : decode m_Lw_law.2.1 348 = .ok (.aload_n 0, 1) := by decide +kernel
theorem d_Lw_law_349 : decode m_Lw_law.2.1 349 = .ok (.iload 4, 2) := by decide +kernel
theorem d_Lw_law_351 : decode m_Lw_law.2.1 351 = .ok (.iconst 3, 1) := by decide +kernel
theorem d_Lw_law_352 : decode m_Lw_law.2.1 352 = .ok (.iadd, 1) := by decide +kernel
theorem d_Lw_law_353 : decode m_Lw_law.2.1 353 = .ok (.iaload, 1) := by decide +kernel
theorem d_Lw_law_354 : decode m_Lw_law.2.1 354 = .ok (.ifCond .eq 7, 3) := by decide +kernel
theorem d_Lw_law_357 : decode m_Lw_law.2.1 357 = .ok (.iconst 1, 1) := by decide +kernel
theorem d_Lw_law_358 : decode m_Lw_law.2.1 358 = .ok (.goto 4, 3) := by decide +kernel
theorem d_Lw_law_361 : decode m_Lw_law.2.1 361 = .ok (.iconst 0, 1) := by decide +kernel
theorem d_Lw_law_362 : decode m_Lw_law.2.1 362 = .ok (.aload_n 0, 1) := by decide +kernel
theorem d_Lw_law_363 : decode m_Lw_law.2.1 363 = .ok (.iload 4, 2) := by decide +kernel
theorem d_Lw_law_365 : decode m_Lw_law.2.1 365 = .ok (.iconst 4, 1) := by decide +kernel
theorem d_Lw_law_366 : decode m_Lw_law.2.1 366 = .ok (.iadd, 1) := by decide +kernel
theorem d_Lw_law_367 : decode m_Lw_law.2.1 367 = .ok (.iaload, 1) := by decide +kernel
theorem d_Lw_law_368 : decode m_Lw_law.2.1 368 = .ok (.invokevirtual 86, 3) := by decide +kernel
theorem d_Lw_law_371 : decode m_Lw_law.2.1 371 = .ok (.istore 6, 2) := by decide +kernel
theorem d_Lw_law_373 : decode m_Lw_law.2.1 373 = .ok (.aload_n 2, 1) := by decide +kernel
theorem d_Lw_law_374 : decode m_Lw_law.2.1 374 = .ok (.invokevirtual 75, 3) := by decide +kernel
theorem d_Lw_law_377 : decode m_Lw_law.2.1 377 = .ok (.iload 5, 2) := by decide +kernel
theorem d_Lw_law_379 : decode m_Lw_law.2.1 379 = .ok (.if_icmp .eq 5, 3) := by decide +kernel
theorem d_Lw_law_382 : decode m_Lw_law.2.1 382 = .ok (.iconst 0, 1) := by decide +kernel
theorem d_Lw_law_383 : decode m_Lw_law.2.1 383 = .ok (.ireturn, 1) := by decide +kernel
theorem d_Lw_law_384 : decode m_Lw_law.2.1 384 = .ok (.iload 5, 2) := by decide +kernel
theorem d_Lw_law_386 : decode m_Lw_law.2.1 386 = .ok (.ifCond .ne 15, 3) := by decide +kernel
theorem d_Lw_law_389 : decode m_Lw_law.2.1 389 = .ok (.aload_n 3, 1) := by decide +kernel
theorem d_Lw_law_390 : decode m_Lw_law.2.1 390 = .ok (.iconst 0, 1) := by decide +kernel
theorem d_Lw_law_391 : decode m_Lw_law.2.1 391 = .ok (.laload, 1) := by decide +kernel
theorem d_Lw_law_392 : decode m_Lw_law.2.1 392 = .ok (.iload 6, 2) := by decide +kernel
theorem d_Lw_law_394 : decode m_Lw_law.2.1 394 = .ok (.i2l, 1) := by decide +kernel
theorem d_Lw_law_395 : decode m_Lw_law.2.1 395 = .ok (.lcmp, 1) := by decide +kernel
theorem d_Lw_law_396 : decode m_Lw_law.2.1 396 = .ok (.ifCond .eq 5, 3) := by decide +kernel
theorem d_Lw_law_399 : decode m_Lw_law.2.1 399 = .ok (.iconst 0, 1) := by decide +kernel
theorem d_Lw_law_400 : decode m_Lw_law.2.1 400 = .ok (.ireturn, 1) := by decide +kernel
theorem d_Lw_law_401 : decode m_Lw_law.2.1 401 = .ok (.goto 827, 3) := by decide +kernel
theorem d_Lw_law_404 : decode m_Lw_law.2.1 404 = .ok (.aload_n 1, 1) := by decide +kernel
theorem d_Lw_law_405 : decode m_Lw_law.2.1 405 = .ok (.aload_n 0, 1) := by decide +kernel
theorem d_Lw_law_406 : decode m_Lw_law.2.1 406 = .ok (.iload 4, 2) := by decide +kernel
theorem d_Lw_law_408 : decode m_Lw_law.2.1 408 = .ok (.iconst 1, 1) := by decide +kernel
theorem d_Lw_law_409 : decode m_Lw_law.2.1 409 = .ok (.iadd, 1) := by decide +kernel
theorem d_Lw_law_410 : decode m_Lw_law.2.1 410 = .ok (.iaload, 1) := by decide +kernel
theorem d_Lw_law_411 : decode m_Lw_law.2.1 411 = .ok (.aload_n 3, 1) := by decide +kernel
theorem d_Lw_law_412 : decode m_Lw_law.2.1 412 = .ok (.invokestatic 87, 3) := by decide +kernel
theorem d_Lw_law_415 : decode m_Lw_law.2.1 415 = .ok (.istore 5, 2) := by decide +kernel
theorem d_Lw_law_417 : decode m_Lw_law.2.1 417 = .ok (.aload_n 2, 1) := by decide +kernel
theorem d_Lw_law_418 : decode m_Lw_law.2.1 418 = .ok (.aload_n 0, 1) := by decide +kernel
theorem d_Lw_law_419 : decode m_Lw_law.2.1 419 = .ok (.iload 4, 2) := by decide +kernel
theorem d_Lw_law_421 : decode m_Lw_law.2.1 421 = .ok (.iconst 1, 1) := by decide +kernel
theorem d_Lw_law_422 : decode m_Lw_law.2.1 422 = .ok (.iadd, 1) := by decide +kernel
theorem d_Lw_law_423 : decode m_Lw_law.2.1 423 = .ok (.iaload, 1) := by decide +kernel
theorem d_Lw_law_424 : decode m_Lw_law.2.1 424 = .ok (.invokevirtual 90, 3) := by decide +kernel
theorem d_Lw_law_427 : decode m_Lw_law.2.1 427 = .ok (.istore 6, 2) := by decide +kernel
theorem d_Lw_law_429 : decode m_Lw_law.2.1 429 = .ok (.aload_n 2, 1) := by decide +kernel
theorem d_Lw_law_430 : decode m_Lw_law.2.1 430 = .ok (.invokevirtual 75, 3) := by decide +kernel
theorem d_Lw_law_433 : decode m_Lw_law.2.1 433 = .ok (.iload 5, 2) := by decide +kernel
theorem d_Lw_law_435 : decode m_Lw_law.2.1 435 = .ok (.if_icmp .eq 5, 3) := by decide +kernel
theorem d_Lw_law_438 : decode m_Lw_law.2.1 438 = .ok (.iconst 0, 1) := by decide +kernel
theorem d_Lw_law_439 : decode m_Lw_law.2.1 439 = .ok (.ireturn, 1) := by decide +kernel
theorem d_Lw_law_440 : decode m_Lw_law.2.1 440 = .ok (.iload 5, 2) := by decide +kernel
theorem d_Lw_law_442 : decode m_Lw_law.2.1 442 = .ok (.ifCond .ne 15, 3) := by decide +kernel
theorem d_Lw_law_445 : decode m_Lw_law.2.1 445 = .ok (.aload_n 3, 1) := by decide +kernel
theorem d_Lw_law_446 : decode m_Lw_law.2.1 446 = .ok (.iconst 0, 1) := by decide +kernel
theorem d_Lw_law_447 : decode m_Lw_law.2.1 447 = .ok (.laload, 1) := by decide +kernel
theorem d_Lw_law_448 : decode m_Lw_law.2.1 448 = .ok (.iload 6, 2) := by decide +kernel
theorem d_Lw_law_450 : decode m_Lw_law.2.1 450 = .ok (.i2l, 1) := by decide +kernel
theorem d_Lw_law_451 : decode m_Lw_law.2.1 451 = .ok (.lcmp, 1) := by decide +kernel
theorem d_Lw_law_452 : decode m_Lw_law.2.1 452 = .ok (.ifCond .eq 5, 3) := by decide +kernel
theorem d_Lw_law_455 : decode m_Lw_law.2.1 455 = .ok (.iconst 0, 1) := by decide +kernel
theorem d_Lw_law_456 : decode m_Lw_law.2.1 456 = .ok (.ireturn, 1) := by decide +kernel
theorem d_Lw_law_457 : decode m_Lw_law.2.1 457 = .ok (.goto 771, 3) := by decide +kernel
theorem d_Lw_law_460 : decode m_Lw_law.2.1 460 = .ok (.aload_n 1, 1) := by decide +kernel
theorem d_Lw_law_461 : decode m_Lw_law.2.1 461 = .ok (.aload_n 0, 1) := by decide +kernel
theorem d_Lw_law_462 : decode m_Lw_law.2.1 462 = .ok (.iload 4, 2) := by decide +kernel
theorem d_Lw_law_464 : decode m_Lw_law.2.1 464 = .ok (.iconst 1, 1) := by decide +kernel
theorem d_Lw_law_465 : decode m_Lw_law.2.1 465 = .ok (.iadd, 1) := by decide +kernel
theorem d_Lw_law_466 : decode m_Lw_law.2.1 466 = .ok (.iaload, 1) := by decide +kernel
theorem d_Lw_law_467 : decode m_Lw_law.2.1 467 = .ok (.aload_n 0, 1) := by decide +kernel
theorem d_Lw_law_468 : decode m_Lw_law.2.1 468 = .ok (.iload 4, 2) := by decide +kernel
theorem d_Lw_law_470 : decode m_Lw_law.2.1 470 = .ok (.iconst 2, 1) := by decide +kernel
theorem d_Lw_law_471 : decode m_Lw_law.2.1 471 = .ok (.iadd, 1) := by decide +kernel
theorem d_Lw_law_472 : decode m_Lw_law.2.1 472 = .ok (.iaload, 1) := by decide +kernel
theorem d_Lw_law_473 : decode m_Lw_law.2.1 473 = .ok (.aload_n 0, 1) := by decide +kernel
theorem d_Lw_law_474 : decode m_Lw_law.2.1 474 = .ok (.iload 4, 2) := by decide +kernel
theorem d_Lw_law_476 : decode m_Lw_law.2.1 476 = .ok (.iconst 3, 1) := by decide +kernel
theorem d_Lw_law_477 : decode m_Lw_law.2.1 477 = .ok (.iadd, 1) := by decide +kernel
theorem d_Lw_law_478 : decode m_Lw_law.2.1 478 = .ok (.iaload, 1) := by decide +kernel
theorem d_Lw_law_479 : decode m_Lw_law.2.1 479 = .ok (.aload_n 0, 1) := by decide +kernel
theorem d_Lw_law_480 : decode m_Lw_law.2.1 480 = .ok (.iload 4, 2) := by decide +kernel
theorem d_Lw_law_482 : decode m_Lw_law.2.1 482 = .ok (.iconst 4, 1) := by decide +kernel
theorem d_Lw_law_483 : decode m_Lw_law.2.1 483 = .ok (.iadd, 1) := by decide +kernel
theorem d_Lw_law_484 : decode m_Lw_law.2.1 484 = .ok (.iaload, 1) := by decide +kernel
theorem d_Lw_law_485 : decode m_Lw_law.2.1 485 = .ok (.aload_n 3, 1) := by decide +kernel
theorem d_Lw_law_486 : decode m_Lw_law.2.1 486 = .ok (.invokestatic 91, 3) := by decide +kernel
theorem d_Lw_law_489 : decode m_Lw_law.2.1 489 = .ok (.istore 5, 2) := by decide +kernel
theorem d_Lw_law_491 : decode m_Lw_law.2.1 491 = .ok (.aload_n 2, 1) := by decide +kernel
theorem d_Lw_law_492 : decode m_Lw_law.2.1 492 = .ok (.aload_n 0, 1) := by decide +kernel
theorem d_Lw_law_493 : decode m_Lw_law.2.1 493 = .ok (.iload 4, 2) := by decide +kernel
theorem d_Lw_law_495 : decode m_Lw_law.2.1 495 = .ok (.iconst 1, 1) := by decide +kernel
theorem d_Lw_law_496 : decode m_Lw_law.2.1 496 = .ok (.iadd, 1) := by decide +kernel
theorem d_Lw_law_497 : decode m_Lw_law.2.1 497 = .ok (.iaload, 1) := by decide +kernel
theorem d_Lw_law_498 : decode m_Lw_law.2.1 498 = .ok (.aload_n 0, 1) := by decide +kernel
theorem d_Lw_law_499 : decode m_Lw_law.2.1 499 = .ok (.iload 4, 2) := by decide +kernel
theorem d_Lw_law_501 : decode m_Lw_law.2.1 501 = .ok (.iconst 2, 1) := by decide +kernel
theorem d_Lw_law_502 : decode m_Lw_law.2.1 502 = .ok (.iadd, 1) := by decide +kernel
theorem d_Lw_law_503 : decode m_Lw_law.2.1 503 = .ok (.iaload, 1) := by decide +kernel
theorem d_Lw_law_504 : decode m_Lw_law.2.1 504 = .ok (.aload_n 0, 1) := by decide +kernel
theorem d_Lw_law_505 : decode m_Lw_law.2.1 505 = .ok (.iload 4, 2) := by decide +kernel
theorem d_Lw_law_507 : decode m_Lw_law.2.1 507 = .ok (.iconst 3, 1) := by decide +kernel
theorem d_Lw_law_508 : decode m_Lw_law.2.1 508 = .ok (.iadd, 1) := by decide +kernel
theorem d_Lw_law_509 : decode m_Lw_law.2.1 509 = .ok (.iaload, 1) := by decide +kernel
theorem d_Lw_law_510 : decode m_Lw_law.2.1 510 = .ok (.aload_n 0, 1) := by decide +kernel
theorem d_Lw_law_511 : decode m_Lw_law.2.1 511 = .ok (.iload 4, 2) := by decide +kernel
theorem d_Lw_law_513 : decode m_Lw_law.2.1 513 = .ok (.iconst 4, 1) := by decide +kernel
theorem d_Lw_law_514 : decode m_Lw_law.2.1 514 = .ok (.iadd, 1) := by decide +kernel
theorem d_Lw_law_515 : decode m_Lw_law.2.1 515 = .ok (.iaload, 1) := by decide +kernel
theorem d_Lw_law_516 : decode m_Lw_law.2.1 516 = .ok (.invokevirtual 94, 3) := by decide +kernel
theorem d_Lw_law_519 : decode m_Lw_law.2.1 519 = .ok (.istore 6, 2) := by decide +kernel
theorem d_Lw_law_521 : decode m_Lw_law.2.1 521 = .ok (.aload_n 2, 1) := by decide +kernel
theorem d_Lw_law_522 : decode m_Lw_law.2.1 522 = .ok (.invokevirtual 75, 3) := by decide +kernel
theorem d_Lw_law_525 : decode m_Lw_law.2.1 525 = .ok (.iload 5, 2) := by decide +kernel
theorem d_Lw_law_527 : decode m_Lw_law.2.1 527 = .ok (.if_icmp .eq 5, 3) := by decide +kernel
theorem d_Lw_law_530 : decode m_Lw_law.2.1 530 = .ok (.iconst 0, 1) := by decide +kernel
theorem d_Lw_law_531 : decode m_Lw_law.2.1 531 = .ok (.ireturn, 1) := by decide +kernel
theorem d_Lw_law_532 : decode m_Lw_law.2.1 532 = .ok (.iload 5, 2) := by decide +kernel
theorem d_Lw_law_534 : decode m_Lw_law.2.1 534 = .ok (.ifCond .ne 15, 3) := by decide +kernel
theorem d_Lw_law_537 : decode m_Lw_law.2.1 537 = .ok (.aload_n 3, 1) := by decide +kernel
theorem d_Lw_law_538 : decode m_Lw_law.2.1 538 = .ok (.iconst 0, 1) := by decide +kernel
theorem d_Lw_law_539 : decode m_Lw_law.2.1 539 = .ok (.laload, 1) := by decide +kernel
theorem d_Lw_law_540 : decode m_Lw_law.2.1 540 = .ok (.iload 6, 2) := by decide +kernel
theorem d_Lw_law_542 : decode m_Lw_law.2.1 542 = .ok (.i2l, 1) := by decide +kernel
theorem d_Lw_law_543 : decode m_Lw_law.2.1 543 = .ok (.lcmp, 1) := by decide +kernel
theorem d_Lw_law_544 : decode m_Lw_law.2.1 544 = .ok (.ifCond .eq 5, 3) := by decide +kernel
theorem d_Lw_law_547 : decode m_Lw_law.2.1 547 = .ok (.iconst 0, 1) := by decide +kernel
theorem d_Lw_law_548 : decode m_Lw_law.2.1 548 = .ok (.ireturn, 1) := by decide +kernel
theorem d_Lw_law_549 : decode m_Lw_law.2.1 549 = .ok (.goto 679, 3) := by decide +kernel
theorem d_Lw_law_552 : decode m_Lw_law.2.1 552 = .ok (.aload_n 1, 1) := by decide +kernel
theorem d_Lw_law_553 : decode m_Lw_law.2.1 553 = .ok (.aload_n 0, 1) := by decide +kernel
theorem d_Lw_law_554 : decode m_Lw_law.2.1 554 = .ok (.iload 4, 2) := by decide +kernel
theorem d_Lw_law_556 : decode m_Lw_law.2.1 556 = .ok (.iconst 1, 1) := by decide +kernel
theorem d_Lw_law_557 : decode m_Lw_law.2.1 557 = .ok (.iadd, 1) := by decide +kernel
theorem d_Lw_law_558 : decode m_Lw_law.2.1 558 = .ok (.iaload, 1) := by decide +kernel
theorem d_Lw_law_559 : decode m_Lw_law.2.1 559 = .ok (.aload_n 0, 1) := by decide +kernel
theorem d_Lw_law_560 : decode m_Lw_law.2.1 560 = .ok (.iload 4, 2) := by decide +kernel
theorem d_Lw_law_562 : decode m_Lw_law.2.1 562 = .ok (.iconst 2, 1) := by decide +kernel
theorem d_Lw_law_563 : decode m_Lw_law.2.1 563 = .ok (.iadd, 1) := by decide +kernel
theorem d_Lw_law_564 : decode m_Lw_law.2.1 564 = .ok (.iaload, 1) := by decide +kernel
theorem d_Lw_law_565 : decode m_Lw_law.2.1 565 = .ok (.aload_n 0, 1) := by decide +kernel
theorem d_Lw_law_566 : decode m_Lw_law.2.1 566 = .ok (.iload 4, 2) := by decide +kernel
theorem d_Lw_law_568 : decode m_Lw_law.2.1 568 = .ok (.iconst 3, 1) := by decide +kernel
theorem d_Lw_law_569 : decode m_Lw_law.2.1 569 = .ok (.iadd, 1) := by decide +kernel
theorem d_Lw_law_570 : decode m_Lw_law.2.1 570 = .ok (.iaload, 1) := by decide +kernel
theorem d_Lw_law_571 : decode m_Lw_law.2.1 571 = .ok (.aload_n 3, 1) := by decide +kernel
theorem d_Lw_law_572 : decode m_Lw_law.2.1 572 = .ok (.invokestatic 95, 3) := by decide +kernel
theorem d_Lw_law_575 : decode m_Lw_law.2.1 575 = .ok (.istore 5, 2) := by decide +kernel
theorem d_Lw_law_577 : decode m_Lw_law.2.1 577 = .ok (.aload_n 2, 1) := by decide +kernel
theorem d_Lw_law_578 : decode m_Lw_law.2.1 578 = .ok (.aload_n 0, 1) := by decide +kernel
theorem d_Lw_law_579 : decode m_Lw_law.2.1 579 = .ok (.iload 4, 2) := by decide +kernel
theorem d_Lw_law_581 : decode m_Lw_law.2.1 581 = .ok (.iconst 1, 1) := by decide +kernel
theorem d_Lw_law_582 : decode m_Lw_law.2.1 582 = .ok (.iadd, 1) := by decide +kernel
theorem d_Lw_law_583 : decode m_Lw_law.2.1 583 = .ok (.iaload, 1) := by decide +kernel
theorem d_Lw_law_584 : decode m_Lw_law.2.1 584 = .ok (.aload_n 0, 1) := by decide +kernel
theorem d_Lw_law_585 : decode m_Lw_law.2.1 585 = .ok (.iload 4, 2) := by decide +kernel
theorem d_Lw_law_587 : decode m_Lw_law.2.1 587 = .ok (.iconst 2, 1) := by decide +kernel
theorem d_Lw_law_588 : decode m_Lw_law.2.1 588 = .ok (.iadd, 1) := by decide +kernel
theorem d_Lw_law_589 : decode m_Lw_law.2.1 589 = .ok (.iaload, 1) := by decide +kernel
theorem d_Lw_law_590 : decode m_Lw_law.2.1 590 = .ok (.aload_n 0, 1) := by decide +kernel
theorem d_Lw_law_591 : decode m_Lw_law.2.1 591 = .ok (.iload 4, 2) := by decide +kernel
theorem d_Lw_law_593 : decode m_Lw_law.2.1 593 = .ok (.iconst 3, 1) := by decide +kernel
theorem d_Lw_law_594 : decode m_Lw_law.2.1 594 = .ok (.iadd, 1) := by decide +kernel
theorem d_Lw_law_595 : decode m_Lw_law.2.1 595 = .ok (.iaload, 1) := by decide +kernel
theorem d_Lw_law_596 : decode m_Lw_law.2.1 596 = .ok (.invokevirtual 98, 3) := by decide +kernel
theorem d_Lw_law_599 : decode m_Lw_law.2.1 599 = .ok (.istore 6, 2) := by decide +kernel
theorem d_Lw_law_601 : decode m_Lw_law.2.1 601 = .ok (.aload_n 2, 1) := by decide +kernel
theorem d_Lw_law_602 : decode m_Lw_law.2.1 602 = .ok (.invokevirtual 75, 3) := by decide +kernel
theorem d_Lw_law_605 : decode m_Lw_law.2.1 605 = .ok (.iload 5, 2) := by decide +kernel
theorem d_Lw_law_607 : decode m_Lw_law.2.1 607 = .ok (.if_icmp .eq 5, 3) := by decide +kernel
theorem d_Lw_law_610 : decode m_Lw_law.2.1 610 = .ok (.iconst 0, 1) := by decide +kernel
theorem d_Lw_law_611 : decode m_Lw_law.2.1 611 = .ok (.ireturn, 1) := by decide +kernel
theorem d_Lw_law_612 : decode m_Lw_law.2.1 612 = .ok (.iload 5, 2) := by decide +kernel
theorem d_Lw_law_614 : decode m_Lw_law.2.1 614 = .ok (.ifCond .ne 15, 3) := by decide +kernel
theorem d_Lw_law_617 : decode m_Lw_law.2.1 617 = .ok (.aload_n 3, 1) := by decide +kernel
theorem d_Lw_law_618 : decode m_Lw_law.2.1 618 = .ok (.iconst 0, 1) := by decide +kernel
theorem d_Lw_law_619 : decode m_Lw_law.2.1 619 = .ok (.laload, 1) := by decide +kernel
theorem d_Lw_law_620 : decode m_Lw_law.2.1 620 = .ok (.iload 6, 2) := by decide +kernel
theorem d_Lw_law_622 : decode m_Lw_law.2.1 622 = .ok (.i2l, 1) := by decide +kernel
theorem d_Lw_law_623 : decode m_Lw_law.2.1 623 = .ok (.lcmp, 1) := by decide +kernel
theorem d_Lw_law_624 : decode m_Lw_law.2.1 624 = .ok (.ifCond .eq 5, 3) := by decide +kernel
theorem d_Lw_law_627 : decode m_Lw_law.2.1 627 = .ok (.iconst 0, 1) := by decide +kernel
theorem d_Lw_law_628 : decode m_Lw_law.2.1 628 = .ok (.ireturn, 1) := by decide +kernel
theorem d_Lw_law_629 : decode m_Lw_law.2.1 629 = .ok (.goto 599, 3) := by decide +kernel
theorem d_Lw_law_632 : decode m_Lw_law.2.1 632 = .ok (.aload_n 1, 1) := by decide +kernel
theorem d_Lw_law_633 : decode m_Lw_law.2.1 633 = .ok (.aload_n 0, 1) := by decide +kernel
theorem d_Lw_law_634 : decode m_Lw_law.2.1 634 = .ok (.iload 4, 2) := by decide +kernel
theorem d_Lw_law_636 : decode m_Lw_law.2.1 636 = .ok (.iconst 1, 1) := by decide +kernel
theorem d_Lw_law_637 : decode m_Lw_law.2.1 637 = .ok (.iadd, 1) := by decide +kernel
theorem d_Lw_law_638 : decode m_Lw_law.2.1 638 = .ok (.iaload, 1) := by decide +kernel
theorem d_Lw_law_639 : decode m_Lw_law.2.1 639 = .ok (.aload_n 3, 1) := by decide +kernel
theorem d_Lw_law_640 : decode m_Lw_law.2.1 640 = .ok (.invokestatic 99, 3) := by decide +kernel
theorem d_Lw_law_643 : decode m_Lw_law.2.1 643 = .ok (.istore 5, 2) := by decide +kernel
theorem d_Lw_law_645 : decode m_Lw_law.2.1 645 = .ok (.aload_n 2, 1) := by decide +kernel
theorem d_Lw_law_646 : decode m_Lw_law.2.1 646 = .ok (.aload_n 0, 1) := by decide +kernel
theorem d_Lw_law_647 : decode m_Lw_law.2.1 647 = .ok (.iload 4, 2) := by decide +kernel
theorem d_Lw_law_649 : decode m_Lw_law.2.1 649 = .ok (.iconst 1, 1) := by decide +kernel
theorem d_Lw_law_650 : decode m_Lw_law.2.1 650 = .ok (.iadd, 1) := by decide +kernel
theorem d_Lw_law_651 : decode m_Lw_law.2.1 651 = .ok (.iaload, 1) := by decide +kernel
theorem d_Lw_law_652 : decode m_Lw_law.2.1 652 = .ok (.invokevirtual 101, 3) := by decide +kernel
theorem d_Lw_law_655 : decode m_Lw_law.2.1 655 = .ok (.istore 6, 2) := by decide +kernel
theorem d_Lw_law_657 : decode m_Lw_law.2.1 657 = .ok (.aload_n 2, 1) := by decide +kernel
theorem d_Lw_law_658 : decode m_Lw_law.2.1 658 = .ok (.invokevirtual 75, 3) := by decide +kernel
theorem d_Lw_law_661 : decode m_Lw_law.2.1 661 = .ok (.iload 5, 2) := by decide +kernel
theorem d_Lw_law_663 : decode m_Lw_law.2.1 663 = .ok (.if_icmp .eq 5, 3) := by decide +kernel
theorem d_Lw_law_666 : decode m_Lw_law.2.1 666 = .ok (.iconst 0, 1) := by decide +kernel
theorem d_Lw_law_667 : decode m_Lw_law.2.1 667 = .ok (.ireturn, 1) := by decide +kernel
theorem d_Lw_law_668 : decode m_Lw_law.2.1 668 = .ok (.iload 5, 2) := by decide +kernel
theorem d_Lw_law_670 : decode m_Lw_law.2.1 670 = .ok (.ifCond .ne 15, 3) := by decide +kernel
theorem d_Lw_law_673 : decode m_Lw_law.2.1 673 = .ok (.aload_n 3, 1) := by decide +kernel
theorem d_Lw_law_674 : decode m_Lw_law.2.1 674 = .ok (.iconst 0, 1) := by decide +kernel
theorem d_Lw_law_675 : decode m_Lw_law.2.1 675 = .ok (.laload, 1) := by decide +kernel
theorem d_Lw_law_676 : decode m_Lw_law.2.1 676 = .ok (.iload 6, 2) := by decide +kernel
theorem d_Lw_law_678 : decode m_Lw_law.2.1 678 = .ok (.i2l, 1) := by decide +kernel
theorem d_Lw_law_679 : decode m_Lw_law.2.1 679 = .ok (.lcmp, 1) := by decide +kernel
theorem d_Lw_law_680 : decode m_Lw_law.2.1 680 = .ok (.ifCond .eq 5, 3) := by decide +kernel
theorem d_Lw_law_683 : decode m_Lw_law.2.1 683 = .ok (.iconst 0, 1) := by decide +kernel
theorem d_Lw_law_684 : decode m_Lw_law.2.1 684 = .ok (.ireturn, 1) := by decide +kernel
theorem d_Lw_law_685 : decode m_Lw_law.2.1 685 = .ok (.goto 543, 3) := by decide +kernel
theorem d_Lw_law_688 : decode m_Lw_law.2.1 688 = .ok (.aload_n 1, 1) := by decide +kernel
theorem d_Lw_law_689 : decode m_Lw_law.2.1 689 = .ok (.aload_n 0, 1) := by decide +kernel
theorem d_Lw_law_690 : decode m_Lw_law.2.1 690 = .ok (.iload 4, 2) := by decide +kernel
theorem d_Lw_law_692 : decode m_Lw_law.2.1 692 = .ok (.iconst 1, 1) := by decide +kernel
theorem d_Lw_law_693 : decode m_Lw_law.2.1 693 = .ok (.iadd, 1) := by decide +kernel
theorem d_Lw_law_694 : decode m_Lw_law.2.1 694 = .ok (.iaload, 1) := by decide +kernel
theorem d_Lw_law_695 : decode m_Lw_law.2.1 695 = .ok (.aload_n 3, 1) := by decide +kernel
theorem d_Lw_law_696 : decode m_Lw_law.2.1 696 = .ok (.invokestatic 102, 3) := by decide +kernel
theorem d_Lw_law_699 : decode m_Lw_law.2.1 699 = .ok (.istore 5, 2) := by decide +kernel
theorem d_Lw_law_701 : decode m_Lw_law.2.1 701 = .ok (.aload_n 2, 1) := by decide +kernel
theorem d_Lw_law_702 : decode m_Lw_law.2.1 702 = .ok (.aload_n 0, 1) := by decide +kernel
theorem d_Lw_law_703 : decode m_Lw_law.2.1 703 = .ok (.iload 4, 2) := by decide +kernel
theorem d_Lw_law_705 : decode m_Lw_law.2.1 705 = .ok (.iconst 1, 1) := by decide +kernel
theorem d_Lw_law_706 : decode m_Lw_law.2.1 706 = .ok (.iadd, 1) := by decide +kernel
theorem d_Lw_law_707 : decode m_Lw_law.2.1 707 = .ok (.iaload, 1) := by decide +kernel
theorem d_Lw_law_708 : decode m_Lw_law.2.1 708 = .ok (.invokevirtual 104, 3) := by decide +kernel
theorem d_Lw_law_711 : decode m_Lw_law.2.1 711 = .ok (.istore 6, 2) := by decide +kernel
theorem d_Lw_law_713 : decode m_Lw_law.2.1 713 = .ok (.aload_n 2, 1) := by decide +kernel
theorem d_Lw_law_714 : decode m_Lw_law.2.1 714 = .ok (.invokevirtual 75, 3) := by decide +kernel
theorem d_Lw_law_717 : decode m_Lw_law.2.1 717 = .ok (.iload 5, 2) := by decide +kernel
theorem d_Lw_law_719 : decode m_Lw_law.2.1 719 = .ok (.if_icmp .eq 5, 3) := by decide +kernel
theorem d_Lw_law_722 : decode m_Lw_law.2.1 722 = .ok (.iconst 0, 1) := by decide +kernel
theorem d_Lw_law_723 : decode m_Lw_law.2.1 723 = .ok (.ireturn, 1) := by decide +kernel
theorem d_Lw_law_724 : decode m_Lw_law.2.1 724 = .ok (.iload 5, 2) := by decide +kernel
theorem d_Lw_law_726 : decode m_Lw_law.2.1 726 = .ok (.ifCond .ne 15, 3) := by decide +kernel
theorem d_Lw_law_729 : decode m_Lw_law.2.1 729 = .ok (.aload_n 3, 1) := by decide +kernel
theorem d_Lw_law_730 : decode m_Lw_law.2.1 730 = .ok (.iconst 0, 1) := by decide +kernel
theorem d_Lw_law_731 : decode m_Lw_law.2.1 731 = .ok (.laload, 1) := by decide +kernel
theorem d_Lw_law_732 : decode m_Lw_law.2.1 732 = .ok (.iload 6, 2) := by decide +kernel
theorem d_Lw_law_734 : decode m_Lw_law.2.1 734 = .ok (.i2l, 1) := by decide +kernel
theorem d_Lw_law_735 : decode m_Lw_law.2.1 735 = .ok (.lcmp, 1) := by decide +kernel
theorem d_Lw_law_736 : decode m_Lw_law.2.1 736 = .ok (.ifCond .eq 5, 3) := by decide +kernel
theorem d_Lw_law_739 : decode m_Lw_law.2.1 739 = .ok (.iconst 0, 1) := by decide +kernel
theorem d_Lw_law_740 : decode m_Lw_law.2.1 740 = .ok (.ireturn, 1) := by decide +kernel
theorem d_Lw_law_741 : decode m_Lw_law.2.1 741 = .ok (.goto 487, 3) := by decide +kernel
theorem d_Lw_law_744 : decode m_Lw_law.2.1 744 = .ok (.aload_n 1, 1) := by decide +kernel
theorem d_Lw_law_745 : decode m_Lw_law.2.1 745 = .ok (.aload_n 0, 1) := by decide +kernel
theorem d_Lw_law_746 : decode m_Lw_law.2.1 746 = .ok (.iload 4, 2) := by decide +kernel
theorem d_Lw_law_748 : decode m_Lw_law.2.1 748 = .ok (.iconst 1, 1) := by decide +kernel
theorem d_Lw_law_749 : decode m_Lw_law.2.1 749 = .ok (.iadd, 1) := by decide +kernel
theorem d_Lw_law_750 : decode m_Lw_law.2.1 750 = .ok (.iaload, 1) := by decide +kernel
theorem d_Lw_law_751 : decode m_Lw_law.2.1 751 = .ok (.aload_n 0, 1) := by decide +kernel
theorem d_Lw_law_752 : decode m_Lw_law.2.1 752 = .ok (.iload 4, 2) := by decide +kernel
theorem d_Lw_law_754 : decode m_Lw_law.2.1 754 = .ok (.iconst 2, 1) := by decide +kernel
theorem d_Lw_law_755 : decode m_Lw_law.2.1 755 = .ok (.iadd, 1) := by decide +kernel
theorem d_Lw_law_756 : decode m_Lw_law.2.1 756 = .ok (.iaload, 1) := by decide +kernel
theorem d_Lw_law_757 : decode m_Lw_law.2.1 757 = .ok (.aload_n 3, 1) := by decide +kernel
theorem d_Lw_law_758 : decode m_Lw_law.2.1 758 = .ok (.invokestatic 105, 3) := by decide +kernel
theorem d_Lw_law_761 : decode m_Lw_law.2.1 761 = .ok (.istore 5, 2) := by decide +kernel
theorem d_Lw_law_763 : decode m_Lw_law.2.1 763 = .ok (.aload_n 2, 1) := by decide +kernel
theorem d_Lw_law_764 : decode m_Lw_law.2.1 764 = .ok (.aload_n 0, 1) := by decide +kernel
theorem d_Lw_law_765 : decode m_Lw_law.2.1 765 = .ok (.iload 4, 2) := by decide +kernel
theorem d_Lw_law_767 : decode m_Lw_law.2.1 767 = .ok (.iconst 1, 1) := by decide +kernel
theorem d_Lw_law_768 : decode m_Lw_law.2.1 768 = .ok (.iadd, 1) := by decide +kernel
theorem d_Lw_law_769 : decode m_Lw_law.2.1 769 = .ok (.iaload, 1) := by decide +kernel
theorem d_Lw_law_770 : decode m_Lw_law.2.1 770 = .ok (.aload_n 0, 1) := by decide +kernel
theorem d_Lw_law_771 : decode m_Lw_law.2.1 771 = .ok (.iload 4, 2) := by decide +kernel
theorem d_Lw_law_773 : decode m_Lw_law.2.1 773 = .ok (.iconst 2, 1) := by decide +kernel
theorem d_Lw_law_774 : decode m_Lw_law.2.1 774 = .ok (.iadd, 1) := by decide +kernel
theorem d_Lw_law_775 : decode m_Lw_law.2.1 775 = .ok (.iaload, 1) := by decide +kernel
theorem d_Lw_law_776 : decode m_Lw_law.2.1 776 = .ok (.invokevirtual 107, 3) := by decide +kernel
theorem d_Lw_law_779 : decode m_Lw_law.2.1 779 = .ok (.istore 6, 2) := by decide +kernel
theorem d_Lw_law_781 : decode m_Lw_law.2.1 781 = .ok (.aload_n 2, 1) := by decide +kernel
theorem d_Lw_law_782 : decode m_Lw_law.2.1 782 = .ok (.invokevirtual 75, 3) := by decide +kernel
theorem d_Lw_law_785 : decode m_Lw_law.2.1 785 = .ok (.iload 5, 2) := by decide +kernel
theorem d_Lw_law_787 : decode m_Lw_law.2.1 787 = .ok (.if_icmp .eq 5, 3) := by decide +kernel
theorem d_Lw_law_790 : decode m_Lw_law.2.1 790 = .ok (.iconst 0, 1) := by decide +kernel
theorem d_Lw_law_791 : decode m_Lw_law.2.1 791 = .ok (.ireturn, 1) := by decide +kernel
theorem d_Lw_law_792 : decode m_Lw_law.2.1 792 = .ok (.iload 5, 2) := by decide +kernel
theorem d_Lw_law_794 : decode m_Lw_law.2.1 794 = .ok (.ifCond .ne 15, 3) := by decide +kernel
theorem d_Lw_law_797 : decode m_Lw_law.2.1 797 = .ok (.aload_n 3, 1) := by decide +kernel
theorem d_Lw_law_798 : decode m_Lw_law.2.1 798 = .ok (.iconst 0, 1) := by decide +kernel
theorem d_Lw_law_799 : decode m_Lw_law.2.1 799 = .ok (.laload, 1) := by decide +kernel
theorem d_Lw_law_800 : decode m_Lw_law.2.1 800 = .ok (.iload 6, 2) := by decide +kernel
theorem d_Lw_law_802 : decode m_Lw_law.2.1 802 = .ok (.i2l, 1) := by decide +kernel
theorem d_Lw_law_803 : decode m_Lw_law.2.1 803 = .ok (.lcmp, 1) := by decide +kernel
theorem d_Lw_law_804 : decode m_Lw_law.2.1 804 = .ok (.ifCond .eq 5, 3) := by decide +kernel
theorem d_Lw_law_807 : decode m_Lw_law.2.1 807 = .ok (.iconst 0, 1) := by decide +kernel
theorem d_Lw_law_808 : decode m_Lw_law.2.1 808 = .ok (.ireturn, 1) := by decide +kernel
theorem d_Lw_law_809 : decode m_Lw_law.2.1 809 = .ok (.goto 419, 3) := by decide +kernel
theorem d_Lw_law_812 : decode m_Lw_law.2.1 812 = .ok (.aload_n 1, 1) := by decide +kernel
theorem d_Lw_law_813 : decode m_Lw_law.2.1 813 = .ok (.aload_n 0, 1) := by decide +kernel
theorem d_Lw_law_814 : decode m_Lw_law.2.1 814 = .ok (.iload 4, 2) := by decide +kernel
theorem d_Lw_law_816 : decode m_Lw_law.2.1 816 = .ok (.iconst 1, 1) := by decide +kernel
theorem d_Lw_law_817 : decode m_Lw_law.2.1 817 = .ok (.iadd, 1) := by decide +kernel
theorem d_Lw_law_818 : decode m_Lw_law.2.1 818 = .ok (.iaload, 1) := by decide +kernel
theorem d_Lw_law_819 : decode m_Lw_law.2.1 819 = .ok (.aload_n 3, 1) := by decide +kernel
theorem d_Lw_law_820 : decode m_Lw_law.2.1 820 = .ok (.invokestatic 108, 3) := by decide +kernel
theorem d_Lw_law_823 : decode m_Lw_law.2.1 823 = .ok (.istore 5, 2) := by decide +kernel
theorem d_Lw_law_825 : decode m_Lw_law.2.1 825 = .ok (.aload_n 2, 1) := by decide +kernel
theorem d_Lw_law_826 : decode m_Lw_law.2.1 826 = .ok (.aload_n 0, 1) := by decide +kernel
theorem d_Lw_law_827 : decode m_Lw_law.2.1 827 = .ok (.iload 4, 2) := by decide +kernel
theorem d_Lw_law_829 : decode m_Lw_law.2.1 829 = .ok (.iconst 1, 1) := by decide +kernel
theorem d_Lw_law_830 : decode m_Lw_law.2.1 830 = .ok (.iadd, 1) := by decide +kernel
theorem d_Lw_law_831 : decode m_Lw_law.2.1 831 = .ok (.iaload, 1) := by decide +kernel
theorem d_Lw_law_832 : decode m_Lw_law.2.1 832 = .ok (.invokevirtual 110, 3) := by decide +kernel
theorem d_Lw_law_835 : decode m_Lw_law.2.1 835 = .ok (.istore 6, 2) := by decide +kernel
theorem d_Lw_law_837 : decode m_Lw_law.2.1 837 = .ok (.aload_n 2, 1) := by decide +kernel
theorem d_Lw_law_838 : decode m_Lw_law.2.1 838 = .ok (.invokevirtual 75, 3) := by decide +kernel
theorem d_Lw_law_841 : decode m_Lw_law.2.1 841 = .ok (.iload 5, 2) := by decide +kernel
theorem d_Lw_law_843 : decode m_Lw_law.2.1 843 = .ok (.if_icmp .eq 5, 3) := by decide +kernel
theorem d_Lw_law_846 : decode m_Lw_law.2.1 846 = .ok (.iconst 0, 1) := by decide +kernel
theorem d_Lw_law_847 : decode m_Lw_law.2.1 847 = .ok (.ireturn, 1) := by decide +kernel
theorem d_Lw_law_848 : decode m_Lw_law.2.1 848 = .ok (.iload 5, 2) := by decide +kernel
theorem d_Lw_law_850 : decode m_Lw_law.2.1 850 = .ok (.ifCond .ne 15, 3) := by decide +kernel
theorem d_Lw_law_853 : decode m_Lw_law.2.1 853 = .ok (.aload_n 3, 1) := by decide +kernel
theorem d_Lw_law_854 : decode m_Lw_law.2.1 854 = .ok (.iconst 0, 1) := by decide +kernel
theorem d_Lw_law_855 : decode m_Lw_law.2.1 855 = .ok (.laload, 1) := by decide +kernel
theorem d_Lw_law_856 : decode m_Lw_law.2.1 856 = .ok (.iload 6, 2) := by decide +kernel
theorem d_Lw_law_858 : decode m_Lw_law.2.1 858 = .ok (.i2l, 1) := by decide +kernel
theorem d_Lw_law_859 : decode m_Lw_law.2.1 859 = .ok (.lcmp, 1) := by decide +kernel
theorem d_Lw_law_860 : decode m_Lw_law.2.1 860 = .ok (.ifCond .eq 5, 3) := by decide +kernel
theorem d_Lw_law_863 : decode m_Lw_law.2.1 863 = .ok (.iconst 0, 1) := by decide +kernel
theorem d_Lw_law_864 : decode m_Lw_law.2.1 864 = .ok (.ireturn, 1) := by decide +kernel
theorem d_Lw_law_865 : decode m_Lw_law.2.1 865 = .ok (.goto 363, 3) := by decide +kernel
theorem d_Lw_law_868 : decode m_Lw_law.2.1 868 = .ok (.aload_n 1, 1) := by decide +kernel
theorem d_Lw_law_869 : decode m_Lw_law.2.1 869 = .ok (.aload_n 0, 1) := by decide +kernel
theorem d_Lw_law_870 : decode m_Lw_law.2.1 870 = .ok (.iload 4, 2) := by decide +kernel
theorem d_Lw_law_872 : decode m_Lw_law.2.1 872 = .ok (.iconst 1, 1) := by decide +kernel
theorem d_Lw_law_873 : decode m_Lw_law.2.1 873 = .ok (.iadd, 1) := by decide +kernel
theorem d_Lw_law_874 : decode m_Lw_law.2.1 874 = .ok (.iaload, 1) := by decide +kernel
theorem d_Lw_law_875 : decode m_Lw_law.2.1 875 = .ok (.aload_n 3, 1) := by decide +kernel
theorem d_Lw_law_876 : decode m_Lw_law.2.1 876 = .ok (.invokestatic 111, 3) := by decide +kernel
theorem d_Lw_law_879 : decode m_Lw_law.2.1 879 = .ok (.istore 5, 2) := by decide +kernel
theorem d_Lw_law_881 : decode m_Lw_law.2.1 881 = .ok (.aload_n 2, 1) := by decide +kernel
theorem d_Lw_law_882 : decode m_Lw_law.2.1 882 = .ok (.aload_n 0, 1) := by decide +kernel
theorem d_Lw_law_883 : decode m_Lw_law.2.1 883 = .ok (.iload 4, 2) := by decide +kernel
theorem d_Lw_law_885 : decode m_Lw_law.2.1 885 = .ok (.iconst 1, 1) := by decide +kernel
theorem d_Lw_law_886 : decode m_Lw_law.2.1 886 = .ok (.iadd, 1) := by decide +kernel
theorem d_Lw_law_887 : decode m_Lw_law.2.1 887 = .ok (.iaload, 1) := by decide +kernel
theorem d_Lw_law_888 : decode m_Lw_law.2.1 888 = .ok (.invokevirtual 113, 3) := by decide +kernel
theorem d_Lw_law_891 : decode m_Lw_law.2.1 891 = .ok (.istore 6, 2) := by decide +kernel
theorem d_Lw_law_893 : decode m_Lw_law.2.1 893 = .ok (.aload_n 2, 1) := by decide +kernel
theorem d_Lw_law_894 : decode m_Lw_law.2.1 894 = .ok (.invokevirtual 75, 3) := by decide +kernel
theorem d_Lw_law_897 : decode m_Lw_law.2.1 897 = .ok (.iload 5, 2) := by decide +kernel
theorem d_Lw_law_899 : decode m_Lw_law.2.1 899 = .ok (.if_icmp .eq 5, 3) := by decide +kernel
theorem d_Lw_law_902 : decode m_Lw_law.2.1 902 = .ok (.iconst 0, 1) := by decide +kernel
theorem d_Lw_law_903 : decode m_Lw_law.2.1 903 = .ok (.ireturn, 1) := by decide +kernel
theorem d_Lw_law_904 : decode m_Lw_law.2.1 904 = .ok (.iload 5, 2) := by decide +kernel
theorem d_Lw_law_906 : decode m_Lw_law.2.1 906 = .ok (.ifCond .ne 15, 3) := by decide +kernel
theorem d_Lw_law_909 : decode m_Lw_law.2.1 909 = .ok (.aload_n 3, 1) := by decide +kernel
theorem d_Lw_law_910 : decode m_Lw_law.2.1 910 = .ok (.iconst 0, 1) := by decide +kernel
theorem d_Lw_law_911 : decode m_Lw_law.2.1 911 = .ok (.laload, 1) := by decide +kernel
theorem d_Lw_law_912 : decode m_Lw_law.2.1 912 = .ok (.iload 6, 2) := by decide +kernel
theorem d_Lw_law_914 : decode m_Lw_law.2.1 914 = .ok (.i2l, 1) := by decide +kernel
theorem d_Lw_law_915 : decode m_Lw_law.2.1 915 = .ok (.lcmp, 1) := by decide +kernel
theorem d_Lw_law_916 : decode m_Lw_law.2.1 916 = .ok (.ifCond .eq 5, 3) := by decide +kernel
theorem d_Lw_law_919 : decode m_Lw_law.2.1 919 = .ok (.iconst 0, 1) := by decide +kernel
theorem d_Lw_law_920 : decode m_Lw_law.2.1 920 = .ok (.ireturn, 1) := by decide +kernel
