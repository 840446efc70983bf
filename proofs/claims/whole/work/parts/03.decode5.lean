theorem d_Mo_order_127 : decode m_Mo_order.2.1 127 = .ok (.ireturn, 1) := by decide +kernel
theorem d_Mo_plan_0 : decode m_Mo_plan.2.1 0 = .ok (.aload_n 0, 1) := by decide +kernel
theorem d_Mo_plan_1 : decode m_Mo_plan.2.1 1 = .ok (.iload_n 1, 1) := by decide +kernel
theorem d_Mo_plan_2 : decode m_Mo_plan.2.1 2 = .ok (.invokevirtual 166, 3) := by decide +kernel
theorem d_Mo_plan_5 : decode m_Mo_plan.2.1 5 = .ok (.istore_n 2, 1) := by decide +kernel
theorem d_Mo_plan_6 : decode m_Mo_plan.2.1 6 = .ok (.aload_n 0, 1) := by decide +kernel
theorem d_Mo_plan_7 : decode m_Mo_plan.2.1 7 = .ok (.iload_n 2, 1) := by decide +kernel
theorem d_Mo_plan_8 : decode m_Mo_plan.2.1 8 = .ok (.ifCond .ge 7, 3) := by decide +kernel
theorem d_Mo_plan_11 : decode m_Mo_plan.2.1 11 = .ok (.iconst 1, 1) := by decide +kernel
theorem d_Mo_plan_12 : decode m_Mo_plan.2.1 12 = .ok (.goto 17, 3) := by decide +kernel
theorem d_Mo_plan_15 : decode m_Mo_plan.2.1 15 = .ok (.aload_n 0, 1) := by decide +kernel
theorem d_Mo_plan_16 : decode m_Mo_plan.2.1 16 = .ok (.getfield 23, 3) := by decide +kernel
theorem d_Mo_plan_19 : decode m_Mo_plan.2.1 19 = .ok (.iload_n 2, 1) := by decide +kernel
theorem d_Mo_plan_20 : decode m_Mo_plan.2.1 20 = .ok (.baload, 1) := by decide +kernel
theorem d_Mo_plan_21 : decode m_Mo_plan.2.1 21 = .ok (.ifCond .eq 7, 3) := by decide +kernel
theorem d_Mo_plan_24 : decode m_Mo_plan.2.1 24 = .ok (.iconst 2, 1) := by decide +kernel
theorem d_Mo_plan_25 : decode m_Mo_plan.2.1 25 = .ok (.goto 4, 3) := by decide +kernel
theorem d_Mo_plan_28 : decode m_Mo_plan.2.1 28 = .ok (.iconst 0, 1) := by decide +kernel
theorem d_Mo_plan_29 : decode m_Mo_plan.2.1 29 = .ok (.putfield 140, 3) := by decide +kernel
theorem d_Mo_plan_32 : decode m_Mo_plan.2.1 32 = .ok (.aload_n 0, 1) := by decide +kernel
theorem d_Mo_plan_33 : decode m_Mo_plan.2.1 33 = .ok (.getfield 140, 3) := by decide +kernel
theorem d_Mo_plan_36 : decode m_Mo_plan.2.1 36 = .ok (.ifCond .le 5, 3) := by decide +kernel
theorem d_Mo_plan_39 : decode m_Mo_plan.2.1 39 = .ok (.iconst 0, 1) := by decide +kernel
theorem d_Mo_plan_40 : decode m_Mo_plan.2.1 40 = .ok (.ireturn, 1) := by decide +kernel
theorem d_Mo_plan_41 : decode m_Mo_plan.2.1 41 = .ok (.aload_n 0, 1) := by decide +kernel
theorem d_Mo_plan_42 : decode m_Mo_plan.2.1 42 = .ok (.iload_n 2, 1) := by decide +kernel
theorem d_Mo_plan_43 : decode m_Mo_plan.2.1 43 = .ok (.invokevirtual 241, 3) := by decide +kernel
theorem d_Mo_plan_46 : decode m_Mo_plan.2.1 46 = .ok (.aload_n 0, 1) := by decide +kernel
theorem d_Mo_plan_47 : decode m_Mo_plan.2.1 47 = .ok (.getfield 174, 3) := by decide +kernel
theorem d_Mo_plan_50 : decode m_Mo_plan.2.1 50 = .ok (.ifCond .ne 7, 3) := by decide +kernel
theorem d_Mo_plan_53 : decode m_Mo_plan.2.1 53 = .ok (.iconst 0, 1) := by decide +kernel
theorem d_Mo_plan_54 : decode m_Mo_plan.2.1 54 = .ok (.goto 8, 3) := by decide +kernel
theorem d_Mo_plan_57 : decode m_Mo_plan.2.1 57 = .ok (.aload_n 0, 1) := by decide +kernel
theorem d_Mo_plan_58 : decode m_Mo_plan.2.1 58 = .ok (.iload_n 2, 1) := by decide +kernel
theorem d_Mo_plan_59 : decode m_Mo_plan.2.1 59 = .ok (.invokevirtual 244, 3) := by decide +kernel
theorem d_Mo_plan_62 : decode m_Mo_plan.2.1 62 = .ok (.ireturn, 1) := by decide +kernel
theorem d_Mo_strips_0 : decode m_Mo_strips.2.1 0 = .ok (.aload_n 0, 1) := by decide +kernel
theorem d_Mo_strips_1 : decode m_Mo_strips.2.1 1 = .ok (.iconst 0, 1) := by decide +kernel
theorem d_Mo_strips_2 : decode m_Mo_strips.2.1 2 = .ok (.putfield 174, 3) := by decide +kernel
theorem d_Mo_strips_5 : decode m_Mo_strips.2.1 5 = .ok (.iconst 0, 1) := by decide +kernel
theorem d_Mo_strips_6 : decode m_Mo_strips.2.1 6 = .ok (.istore_n 2, 1) := by decide +kernel
theorem d_Mo_strips_7 : decode m_Mo_strips.2.1 7 = .ok (.iload_n 2, 1) := by decide +kernel
theorem d_Mo_strips_8 : decode m_Mo_strips.2.1 8 = .ok (.bipush 6, 2) := by decide +kernel
theorem d_Mo_strips_10 : decode m_Mo_strips.2.1 10 = .ok (.if_icmp .ge 16, 3) := by decide +kernel
theorem d_Mo_strips_13 : decode m_Mo_strips.2.1 13 = .ok (.aload_n 0, 1) := by decide +kernel
theorem d_Mo_strips_14 : decode m_Mo_strips.2.1 14 = .ok (.getfield 110, 3) := by decide +kernel
theorem d_Mo_strips_17 : decode m_Mo_strips.2.1 17 = .ok (.iload_n 2, 1) := by decide +kernel
theorem d_Mo_strips_18 : decode m_Mo_strips.2.1 18 = .ok (.iconst 0, 1) := by decide +kernel
theorem d_Mo_strips_19 : decode m_Mo_strips.2.1 19 = .ok (.iastore, 1) := by decide +kernel
theorem d_Mo_strips_20 : decode m_Mo_strips.2.1 20 = .ok (.iinc 2 1, 3) := by decide +kernel
theorem d_Mo_strips_23 : decode m_Mo_strips.2.1 23 = .ok (.goto (-16), 3) := by decide +kernel
theorem d_Mo_strips_26 : decode m_Mo_strips.2.1 26 = .ok (.iconst 0, 1) := by decide +kernel
theorem d_Mo_strips_27 : decode m_Mo_strips.2.1 27 = .ok (.istore_n 2, 1) := by decide +kernel
theorem d_Mo_strips_28 : decode m_Mo_strips.2.1 28 = .ok (.iconst 0, 1) := by decide +kernel
theorem d_Mo_strips_29 : decode m_Mo_strips.2.1 29 = .ok (.istore_n 3, 1) := by decide +kernel
theorem d_Mo_strips_30 : decode m_Mo_strips.2.1 30 = .ok (.iconst 1, 1) := by decide +kernel
theorem d_Mo_strips_31 : decode m_Mo_strips.2.1 31 = .ok (.istore 4, 2) := by decide +kernel
theorem d_Mo_strips_33 : decode m_Mo_strips.2.1 33 = .ok (.iload 4, 2) := by decide +kernel
theorem d_Mo_strips_35 : decode m_Mo_strips.2.1 35 = .ok (.ifCond .eq 156, 3) := by decide +kernel
theorem d_Mo_strips_38 : decode m_Mo_strips.2.1 38 = .ok (.iconst 0, 1) := by decide +kernel
theorem d_Mo_strips_39 : decode m_Mo_strips.2.1 39 = .ok (.istore 5, 2) := by decide +kernel
theorem d_Mo_strips_41 : decode m_Mo_strips.2.1 41 = .ok (.iconst 0, 1) := by decide +kernel
theorem d_Mo_strips_42 : decode m_Mo_strips.2.1 42 = .ok (.istore 6, 2) := by decide +kernel
theorem d_Mo_strips_44 : decode m_Mo_strips.2.1 44 = .ok (.aload_n 0, 1) := by decide +kernel
theorem d_Mo_strips_45 : decode m_Mo_strips.2.1 45 = .ok (.getfield 17, 3) := by decide +kernel
theorem d_Mo_strips_48 : decode m_Mo_strips.2.1 48 = .ok (.iload_n 1, 1) := by decide +kernel
theorem d_Mo_strips_49 : decode m_Mo_strips.2.1 49 = .ok (.iaload, 1) := by decide +kernel
theorem d_Mo_strips_50 : decode m_Mo_strips.2.1 50 = .ok (.iload_n 2, 1) := by decide +kernel
theorem d_Mo_strips_51 : decode m_Mo_strips.2.1 51 = .ok (.isub, 1) := by decide +kernel
theorem d_Mo_strips_52 : decode m_Mo_strips.2.1 52 = .ok (.istore 7, 2) := by decide +kernel
theorem d_Mo_strips_54 : decode m_Mo_strips.2.1 54 = .ok (.aload_n 0, 1) := by decide +kernel
theorem d_Mo_strips_55 : decode m_Mo_strips.2.1 55 = .ok (.iload_n 1, 1) := by decide +kernel
theorem d_Mo_strips_56 : decode m_Mo_strips.2.1 56 = .ok (.iload_n 2, 1) := by decide +kernel
theorem d_Mo_strips_57 : decode m_Mo_strips.2.1 57 = .ok (.iload 7, 2) := by decide +kernel
theorem d_Mo_strips_59 : decode m_Mo_strips.2.1 59 = .ok (.invokevirtual 208, 3) := by decide +kernel
theorem d_Mo_strips_62 : decode m_Mo_strips.2.1 62 = .ok (.istore 8, 2) := by decide +kernel
theorem d_Mo_strips_64 : decode m_Mo_strips.2.1 64 = .ok (.iload 8, 2) := by decide +kernel
theorem d_Mo_strips_66 : decode m_Mo_strips.2.1 66 = .ok (.ifCond .lt 7, 3) := by decide +kernel
theorem d_Mo_strips_69 : decode m_Mo_strips.2.1 69 = .ok (.iconst 1, 1) := by decide +kernel
theorem d_Mo_strips_70 : decode m_Mo_strips.2.1 70 = .ok (.goto 4, 3) := by decide +kernel
theorem d_Mo_strips_73 : decode m_Mo_strips.2.1 73 = .ok (.iconst 0, 1) := by decide +kernel
theorem d_Mo_strips_74 : decode m_Mo_strips.2.1 74 = .ok (.istore 4, 2) := by decide +kernel
theorem d_Mo_strips_76 : decode m_Mo_strips.2.1 76 = .ok (.iload 8, 2) := by decide +kernel
theorem d_Mo_strips_78 : decode m_Mo_strips.2.1 78 = .ok (.ifCond .lt 102, 3) := by decide +kernel
theorem d_Mo_strips_81 : decode m_Mo_strips.2.1 81 = .ok (.aload_n 0, 1) := by decide +kernel
theorem d_Mo_strips_82 : decode m_Mo_strips.2.1 82 = .ok (.iload 8, 2) := by decide +kernel
theorem d_Mo_strips_84 : decode m_Mo_strips.2.1 84 = .ok (.iconst 2, 1) := by decide +kernel
theorem d_Mo_strips_85 : decode m_Mo_strips.2.1 85 = .ok (.idiv, 1) := by decide +kernel
theorem d_Mo_strips_86 : decode m_Mo_strips.2.1 86 = .ok (.iload 8, 2) := by decide +kernel
theorem d_Mo_strips_88 : decode m_Mo_strips.2.1 88 = .ok (.iconst 2, 1) := by decide +kernel
theorem d_Mo_strips_89 : decode m_Mo_strips.2.1 89 = .ok (.irem, 1) := by decide +kernel
theorem d_Mo_strips_90 : decode m_Mo_strips.2.1 90 = .ok (.iconst 1, 1) := by decide +kernel
theorem d_Mo_strips_91 : decode m_Mo_strips.2.1 91 = .ok (.if_icmp .ne 7, 3) := by decide +kernel
theorem d_Mo_strips_94 : decode m_Mo_strips.2.1 94 = .ok (.iconst 1, 1) := by decide +kernel
theorem d_Mo_strips_95 : decode m_Mo_strips.2.1 95 = .ok (.goto 4, 3) := by decide +kernel
theorem d_Mo_strips_98 : decode m_Mo_strips.2.1 98 = .ok (.iconst 0, 1) := by decide +kernel
theorem d_Mo_strips_99 : decode m_Mo_strips.2.1 99 = .ok (.iload_n 3, 1) := by decide +kernel
theorem d_Mo_strips_100 : decode m_Mo_strips.2.1 100 = .ok (.iload 6, 2) := by decide +kernel
theorem d_Mo_strips_102 : decode m_Mo_strips.2.1 102 = .ok (.invokevirtual 212, 3) := by decide +kernel
theorem d_Mo_strips_105 : decode m_Mo_strips.2.1 105 = .ok (.aload_n 0, 1) := by decide +kernel
theorem d_Mo_strips_106 : decode m_Mo_strips.2.1 106 = .ok (.getfield 110, 3) := by decide +kernel
theorem d_Mo_strips_109 : decode m_Mo_strips.2.1 109 = .ok (.iload 8, 2) := by decide +kernel
theorem d_Mo_strips_111 : decode m_Mo_strips.2.1 111 = .ok (.iconst 2, 1) := by decide +kernel
theorem d_Mo_strips_112 : decode m_Mo_strips.2.1 112 = .ok (.idiv, 1) := by decide +kernel
theorem d_Mo_strips_113 : decode m_Mo_strips.2.1 113 = .ok (.dup2, 1) := by decide +kernel
theorem d_Mo_strips_114 : decode m_Mo_strips.2.1 114 = .ok (.iaload, 1) := by decide +kernel
theorem d_Mo_strips_115 : decode m_Mo_strips.2.1 115 = .ok (.iconst 1, 1) := by decide +kernel
theorem d_Mo_strips_116 : decode m_Mo_strips.2.1 116 = .ok (.iadd, 1) := by decide +kernel
theorem d_Mo_strips_117 : decode m_Mo_strips.2.1 117 = .ok (.iastore, 1) := by decide +kernel
theorem d_Mo_strips_118 : decode m_Mo_strips.2.1 118 = .ok (.iload 6, 2) := by decide +kernel
theorem d_Mo_strips_120 : decode m_Mo_strips.2.1 120 = .ok (.ifCond .ne 17, 3) := by decide +kernel
theorem d_Mo_strips_123 : decode m_Mo_strips.2.1 123 = .ok (.aload_n 0, 1) := by decide +kernel
theorem d_Mo_strips_124 : decode m_Mo_strips.2.1 124 = .ok (.getfield 98, 3) := by decide +kernel
theorem d_Mo_strips_127 : decode m_Mo_strips.2.1 127 = .ok (.aload_n 0, 1) := by decide +kernel
theorem d_Mo_strips_128 : decode m_Mo_strips.2.1 128 = .ok (.getfield 174, 3) := by decide +kernel
theorem d_Mo_strips_131 : decode m_Mo_strips.2.1 131 = .ok (.iconst 1, 1) := by decide +kernel
theorem d_Mo_strips_132 : decode m_Mo_strips.2.1 132 = .ok (.isub, 1) := by decide +kernel
theorem d_Mo_strips_133 : decode m_Mo_strips.2.1 133 = .ok (.iaload, 1) := by decide +kernel
theorem d_Mo_strips_134 : decode m_Mo_strips.2.1 134 = .ok (.goto 5, 3) := by decide +kernel
theorem d_Mo_strips_137 : decode m_Mo_strips.2.1 137 = .ok (.iload 7, 2) := by decide +kernel
theorem d_Mo_strips_139 : decode m_Mo_strips.2.1 139 = .ok (.istore 7, 2) := by decide +kernel
theorem d_Mo_strips_141 : decode m_Mo_strips.2.1 141 = .ok (.iload 5, 2) := by decide +kernel
theorem d_Mo_strips_143 : decode m_Mo_strips.2.1 143 = .ok (.aload_n 0, 1) := by decide +kernel
theorem d_Mo_strips_144 : decode m_Mo_strips.2.1 144 = .ok (.getfield 101, 3) := by decide +kernel
theorem d_Mo_strips_147 : decode m_Mo_strips.2.1 147 = .ok (.aload_n 0, 1) := by decide +kernel
theorem d_Mo_strips_148 : decode m_Mo_strips.2.1 148 = .ok (.getfield 174, 3) := by decide +kernel
theorem d_Mo_strips_151 : decode m_Mo_strips.2.1 151 = .ok (.iconst 1, 1) := by decide +kernel
theorem d_Mo_strips_152 : decode m_Mo_strips.2.1 152 = .ok (.isub, 1) := by decide +kernel
theorem d_Mo_strips_153 : decode m_Mo_strips.2.1 153 = .ok (.iaload, 1) := by decide +kernel
theorem d_Mo_strips_154 : decode m_Mo_strips.2.1 154 = .ok (.iadd, 1) := by decide +kernel
theorem d_Mo_strips_155 : decode m_Mo_strips.2.1 155 = .ok (.istore 5, 2) := by decide +kernel
theorem d_Mo_strips_157 : decode m_Mo_strips.2.1 157 = .ok (.iinc 6 1, 3) := by decide +kernel
theorem d_Mo_strips_160 : decode m_Mo_strips.2.1 160 = .ok (.aload_n 0, 1) := by decide +kernel
theorem d_Mo_strips_161 : decode m_Mo_strips.2.1 161 = .ok (.iload_n 1, 1) := by decide +kernel
theorem d_Mo_strips_162 : decode m_Mo_strips.2.1 162 = .ok (.sipush 8192, 3) := by decide +kernel
theorem d_Mo_strips_165 : decode m_Mo_strips.2.1 165 = .ok (.iload 5, 2) := by decide +kernel
theorem d_Mo_strips_167 : decode m_Mo_strips.2.1 167 = .ok (.imul, 1) := by decide +kernel
theorem d_Mo_strips_168 : decode m_Mo_strips.2.1 168 = .ok (.iload_n 2, 1) := by decide +kernel
theorem d_Mo_strips_169 : decode m_Mo_strips.2.1 169 = .ok (.iadd, 1) := by decide +kernel
theorem d_Mo_strips_170 : decode m_Mo_strips.2.1 170 = .ok (.iload 7, 2) := by decide +kernel
theorem d_Mo_strips_172 : decode m_Mo_strips.2.1 172 = .ok (.invokevirtual 208, 3) := by decide +kernel
theorem d_Mo_strips_175 : decode m_Mo_strips.2.1 175 = .ok (.istore 8, 2) := by decide +kernel
theorem d_Mo_strips_177 : decode m_Mo_strips.2.1 177 = .ok (.goto (-101), 3) := by decide +kernel
theorem d_Mo_strips_180 : decode m_Mo_strips.2.1 180 = .ok (.iload_n 2, 1) := by decide +kernel
theorem d_Mo_strips_181 : decode m_Mo_strips.2.1 181 = .ok (.iload 7, 2) := by decide +kernel
theorem d_Mo_strips_183 : decode m_Mo_strips.2.1 183 = .ok (.iadd, 1) := by decide +kernel
theorem d_Mo_strips_184 : decode m_Mo_strips.2.1 184 = .ok (.istore_n 2, 1) := by decide +kernel
theorem d_Mo_strips_185 : decode m_Mo_strips.2.1 185 = .ok (.iinc 3 1, 3) := by decide +kernel
theorem d_Mo_strips_188 : decode m_Mo_strips.2.1 188 = .ok (.goto (-155), 3) := by decide +kernel
theorem d_Mo_strips_191 : decode m_Mo_strips.2.1 191 = .ok (.return_, 1) := by decide +kernel
theorem d_Mo_choose_0 : decode m_Mo_choose.2.1 0 = .ok (.iconst (-1), 1) := by decide +kernel
theorem d_Mo_choose_1 : decode m_Mo_choose.2.1 1 = .ok (.istore 4, 2) := by decide +kernel
theorem d_Mo_choose_3 : decode m_Mo_choose.2.1 3 = .ok (.iconst 0, 1) := by decide +kernel
theorem d_Mo_choose_4 : decode m_Mo_choose.2.1 4 = .ok (.istore 5, 2) := by decide +kernel
theorem d_Mo_choose_6 : decode m_Mo_choose.2.1 6 = .ok (.iload 5, 2) := by decide +kernel
theorem d_Mo_choose_8 : decode m_Mo_choose.2.1 8 = .ok (.aload_n 0, 1) := by decide +kernel
theorem d_Mo_choose_9 : decode m_Mo_choose.2.1 9 = .ok (.getfield 144, 3) := by decide +kernel
theorem d_Mo_choose_12 : decode m_Mo_choose.2.1 12 = .ok (.if_icmp .ge 81, 3) := by decide +kernel
theorem d_Mo_choose_15 : decode m_Mo_choose.2.1 15 = .ok (.aload_n 0, 1) := by decide +kernel
theorem d_Mo_choose_16 : decode m_Mo_choose.2.1 16 = .ok (.iload_n 1, 1) := by decide +kernel
theorem d_Mo_choose_17 : decode m_Mo_choose.2.1 17 = .ok (.iload_n 2, 1) := by decide +kernel
theorem d_Mo_choose_18 : decode m_Mo_choose.2.1 18 = .ok (.iload_n 3, 1) := by decide +kernel
theorem d_Mo_choose_19 : decode m_Mo_choose.2.1 19 = .ok (.iload 5, 2) := by decide +kernel
theorem d_Mo_choose_21 : decode m_Mo_choose.2.1 21 = .ok (.iconst 0, 1) := by decide +kernel
theorem d_Mo_choose_22 : decode m_Mo_choose.2.1 22 = .ok (.invokevirtual 200, 3) := by decide +kernel
theorem d_Mo_choose_25 : decode m_Mo_choose.2.1 25 = .ok (.istore 6, 2) := by decide +kernel
theorem d_Mo_choose_27 : decode m_Mo_choose.2.1 27 = .ok (.aload_n 0, 1) := by decide +kernel
theorem d_Mo_choose_28 : decode m_Mo_choose.2.1 28 = .ok (.iload_n 1, 1) := by decide +kernel
theorem d_Mo_choose_29 : decode m_Mo_choose.2.1 29 = .ok (.iload_n 2, 1) := by decide +kernel
theorem d_Mo_choose_30 : decode m_Mo_choose.2.1 30 = .ok (.iload_n 3, 1) := by decide +kernel
theorem d_Mo_choose_31 : decode m_Mo_choose.2.1 31 = .ok (.iload 5, 2) := by decide +kernel
theorem d_Mo_choose_33 : decode m_Mo_choose.2.1 33 = .ok (.iconst 1, 1) := by decide +kernel
theorem d_Mo_choose_34 : decode m_Mo_choose.2.1 34 = .ok (.invokevirtual 200, 3) := by decide +kernel
theorem d_Mo_choose_37 : decode m_Mo_choose.2.1 37 = .ok (.istore 7, 2) := by decide +kernel
theorem d_Mo_choose_39 : decode m_Mo_choose.2.1 39 = .ok (.iload 6, 2) := by decide +kernel
theorem d_Mo_choose_41 : decode m_Mo_choose.2.1 41 = .ok (.ifCond .ne 8, 3) := by decide +kernel
theorem d_Mo_choose_44 : decode m_Mo_choose.2.1 44 = .ok (.iload 7, 2) := by decide +kernel
theorem d_Mo_choose_46 : decode m_Mo_choose.2.1 46 = .ok (.ifCond .eq 41, 3) := by decide +kernel
theorem d_Mo_choose_49 : decode m_Mo_choose.2.1 49 = .ok (.iload 4, 2) := by decide +kernel
theorem d_Mo_choose_51 : decode m_Mo_choose.2.1 51 = .ok (.ifCond .lt 16, 3) := by decide +kernel
theorem d_Mo_choose_54 : decode m_Mo_choose.2.1 54 = .ok (.aload_n 0, 1) := by decide +kernel
theorem d_Mo_choose_55 : decode m_Mo_choose.2.1 55 = .ok (.iload 5, 2) := by decide +kernel
theorem d_Mo_choose_57 : decode m_Mo_choose.2.1 57 = .ok (.iload 4, 2) := by decide +kernel
theorem d_Mo_choose_59 : decode m_Mo_choose.2.1 59 = .ok (.iconst 2, 1) := by decide +kernel
theorem d_Mo_choose_60 : decode m_Mo_choose.2.1 60 = .ok (.idiv, 1) := by decide +kernel
theorem d_Mo_choose_61 : decode m_Mo_choose.2.1 61 = .ok (.invokevirtual 204, 3) := by decide +kernel
theorem d_Mo_choose_64 : decode m_Mo_choose.2.1 64 = .ok (.ifCond .eq 23, 3) := by decide +kernel
theorem d_Mo_choose_67 : decode m_Mo_choose.2.1 67 = .ok (.iload 6, 2) := by decide +kernel
theorem d_Mo_choose_69 : decode m_Mo_choose.2.1 69 = .ok (.ifCond .eq 10, 3) := by decide +kernel
theorem d_Mo_choose_72 : decode m_Mo_choose.2.1 72 = .ok (.iconst 2, 1) := by decide +kernel
theorem d_Mo_choose_73 : decode m_Mo_choose.2.1 73 = .ok (.iload 5, 2) := by decide +kernel
theorem d_Mo_choose_75 : decode m_Mo_choose.2.1 75 = .ok (.imul, 1) := by decide +kernel
theorem d_Mo_choose_76 : decode m_Mo_choose.2.1 76 = .ok (.goto 9, 3) := by decide +kernel
theorem d_Mo_choose_79 : decode m_Mo_choose.2.1 79 = .ok (.iconst 2, 1) := by decide +kernel
theorem d_Mo_choose_80 : decode m_Mo_choose.2.1 80 = .ok (.iload 5, 2) := by decide +kernel
theorem d_Mo_choose_82 : decode m_Mo_choose.2.1 82 = .ok (.imul, 1) := by decide +kernel
theorem d_Mo_choose_83 : decode m_Mo_choose.2.1 83 = .ok (.iconst 1, 1) := by decide +kernel
theorem d_Mo_choose_84 : decode m_Mo_choose.2.1 84 = .ok (.iadd, 1) := by decide +kernel
theorem d_Mo_choose_85 : decode m_Mo_choose.2.1 85 = .ok (.istore 4, 2) := by decide +kernel
theorem d_Mo_choose_87 : decode m_Mo_choose.2.1 87 = .ok (.iinc 5 1, 3) := by decide +kernel
theorem d_Mo_choose_90 : decode m_Mo_choose.2.1 90 = .ok (.goto (-84), 3) := by decide +kernel
theorem d_Mo_choose_93 : decode m_Mo_choose.2.1 93 = .ok (.iload 4, 2) := by decide +kernel
theorem d_Mo_choose_95 : decode m_Mo_choose.2.1 95 = .ok (.ireturn, 1) := by decide +kernel
theorem d_Mo_isPossible_0 : decode m_Mo_isPossible.2.1 0 = .ok (.iload 5, 2) := by decide +kernel
theorem d_Mo_isPossible_2 : decode m_Mo_isPossible.2.1 2 = .ok (.ifCond .eq 13, 3) := by decide +kernel
theorem d_Mo_isPossible_5 : decode m_Mo_isPossible.2.1 5 = .ok (.aload_n 0, 1) := by decide +kernel
theorem d_Mo_isPossible_6 : decode m_Mo_isPossible.2.1 6 = .ok (.getfield 68, 3) := by decide +kernel
theorem d_Mo_isPossible_9 : decode m_Mo_isPossible.2.1 9 = .ok (.iload 4, 2) := by decide +kernel
theorem d_Mo_isPossible_11 : decode m_Mo_isPossible.2.1 11 = .ok (.iaload, 1) := by decide +kernel
theorem d_Mo_isPossible_12 : decode m_Mo_isPossible.2.1 12 = .ok (.goto 10, 3) := by decide +kernel
theorem d_Mo_isPossible_15 : decode m_Mo_isPossible.2.1 15 = .ok (.aload_n 0, 1) := by decide +kernel
theorem d_Mo_isPossible_16 : decode m_Mo_isPossible.2.1 16 = .ok (.getfield 65, 3) := by decide +kernel
theorem d_Mo_isPossible_19 : decode m_Mo_isPossible.2.1 19 = .ok (.iload 4, 2) := by decide +kernel
theorem d_Mo_isPossible_21 : decode m_Mo_isPossible.2.1 21 = .ok (.iaload, 1) := by decide +kernel
theorem d_Mo_isPossible_22 : decode m_Mo_isPossible.2.1 22 = .ok (.istore 6, 2) := by decide +kernel
theorem d_Mo_isPossible_24 : decode m_Mo_isPossible.2.1 24 = .ok (.iload 5, 2) := by decide +kernel
theorem d_Mo_isPossible_26 : decode m_Mo_isPossible.2.1 26 = .ok (.ifCond .eq 13, 3) := by decide +kernel
theorem d_Mo_isPossible_29 : decode m_Mo_isPossible.2.1 29 = .ok (.aload_n 0, 1) := by decide +kernel
theorem d_Mo_isPossible_30 : decode m_Mo_isPossible.2.1 30 = .ok (.getfield 65, 3) := by decide +kernel
theorem d_Mo_isPossible_33 : decode m_Mo_isPossible.2.1 33 = .ok (.iload 4, 2) := by decide +kernel
theorem d_Mo_isPossible_35 : decode m_Mo_isPossible.2.1 35 = .ok (.iaload, 1) := by decide +kernel
theorem d_Mo_isPossible_36 : decode m_Mo_isPossible.2.1 36 = .ok (.goto 10, 3) := by decide +kernel
theorem d_Mo_isPossible_39 : decode m_Mo_isPossible.2.1 39 = .ok (.aload_n 0, 1) := by decide +kernel
theorem d_Mo_isPossible_40 : decode m_Mo_isPossible.2.1 40 = .ok (.getfield 68, 3) := by decide +kernel
theorem d_Mo_isPossible_43 : decode m_Mo_isPossible.2.1 43 = .ok (.iload 4, 2) := by decide +kernel
theorem d_Mo_isPossible_45 : decode m_Mo_isPossible.2.1 45 = .ok (.iaload, 1) := by decide +kernel
theorem d_Mo_isPossible_46 : decode m_Mo_isPossible.2.1 46 = .ok (.istore 7, 2) := by decide +kernel
theorem d_Mo_isPossible_48 : decode m_Mo_isPossible.2.1 48 = .ok (.iload_n 2, 1) := by decide +kernel
theorem d_Mo_isPossible_49 : decode m_Mo_isPossible.2.1 49 = .ok (.sipush 8192, 3) := by decide +kernel
theorem d_Mo_isPossible_52 : decode m_Mo_isPossible.2.1 52 = .ok (.irem, 1) := by decide +kernel
theorem d_Mo_isPossible_53 : decode m_Mo_isPossible.2.1 53 = .ok (.istore 8, 2) := by decide +kernel
theorem d_Mo_isPossible_55 : decode m_Mo_isPossible.2.1 55 = .ok (.iload_n 2, 1) := by decide +kernel
theorem d_Mo_isPossible_56 : decode m_Mo_isPossible.2.1 56 = .ok (.sipush 8192, 3) := by decide +kernel
theorem d_Mo_isPossible_59 : decode m_Mo_isPossible.2.1 59 = .ok (.idiv, 1) := by decide +kernel
theorem d_Mo_isPossible_60 : decode m_Mo_isPossible.2.1 60 = .ok (.istore 9, 2) := by decide +kernel
theorem d_Mo_isPossible_62 : decode m_Mo_isPossible.2.1 62 = .ok (.aload_n 0, 1) := by decide +kernel
theorem d_Mo_isPossible_63 : decode m_Mo_isPossible.2.1 63 = .ok (.getfield 110, 3) := by decide +kernel
theorem d_Mo_isPossible_66 : decode m_Mo_isPossible.2.1 66 = .ok (.iload 4, 2) := by decide +kernel
theorem d_Mo_isPossible_68 : decode m_Mo_isPossible.2.1 68 = .ok (.iaload, 1) := by decide +kernel
theorem d_Mo_isPossible_69 : decode m_Mo_isPossible.2.1 69 = .ok (.aload_n 0, 1) := by decide +kernel
theorem d_Mo_isPossible_70 : decode m_Mo_isPossible.2.1 70 = .ok (.getfield 74, 3) := by decide +kernel
theorem d_Mo_isPossible_73 : decode m_Mo_isPossible.2.1 73 = .ok (.iload 4, 2) := by decide +kernel
theorem d_Mo_isPossible_75 : decode m_Mo_isPossible.2.1 75 = .ok (.iaload, 1) := by decide +kernel
theorem d_Mo_isPossible_76 : decode m_Mo_isPossible.2.1 76 = .ok (.if_icmp .ge 49, 3) := by decide +kernel
theorem d_Mo_isPossible_79 : decode m_Mo_isPossible.2.1 79 = .ok (.iload 6, 2) := by decide +kernel
theorem d_Mo_isPossible_81 : decode m_Mo_isPossible.2.1 81 = .ok (.iload_n 3, 1) := by decide +kernel
theorem d_Mo_isPossible_82 : decode m_Mo_isPossible.2.1 82 = .ok (.if_icmp .gt 43, 3) := by decide +kernel
theorem d_Mo_isPossible_85 : decode m_Mo_isPossible.2.1 85 = .ok (.iload 7, 2) := by decide +kernel
theorem d_Mo_isPossible_87 : decode m_Mo_isPossible.2.1 87 = .ok (.aload_n 0, 1) := by decide +kernel
theorem d_Mo_isPossible_88 : decode m_Mo_isPossible.2.1 88 = .ok (.getfield 20, 3) := by decide +kernel
theorem d_Mo_isPossible_91 : decode m_Mo_isPossible.2.1 91 = .ok (.iload_n 1, 1) := by decide +kernel
theorem d_Mo_isPossible_92 : decode m_Mo_isPossible.2.1 92 = .ok (.iaload, 1) := by decide +kernel
theorem d_Mo_isPossible_93 : decode m_Mo_isPossible.2.1 93 = .ok (.iload 9, 2) := by decide +kernel
theorem d_Mo_isPossible_95 : decode m_Mo_isPossible.2.1 95 = .ok (.isub, 1) := by decide +kernel
theorem d_Mo_isPossible_96 : decode m_Mo_isPossible.2.1 96 = .ok (.if_icmp .gt 29, 3) := by decide +kernel
theorem d_Mo_isPossible_99 : decode m_Mo_isPossible.2.1 99 = .ok (.iload 5, 2) := by decide +kernel
theorem d_Mo_isPossible_101 : decode m_Mo_isPossible.2.1 101 = .ok (.ifCond .eq 20, 3) := by decide +kernel
theorem d_Mo_isPossible_104 : decode m_Mo_isPossible.2.1 104 = .ok (.aload_n 0, 1) := by decide +kernel
theorem d_Mo_isPossible_105 : decode m_Mo_isPossible.2.1 105 = .ok (.getfield 71, 3) := by decide +kernel
theorem d_Mo_isPossible_108 : decode m_Mo_isPossible.2.1 108 = .ok (.iload 4, 2) := by decide +kernel
theorem d_Mo_isPossible_110 : decode m_Mo_isPossible.2.1 110 = .ok (.baload, 1) := by decide +kernel
theorem d_Mo_isPossible_111 : decode m_Mo_isPossible.2.1 111 = .ok (.ifCond .eq 14, 3) := by decide +kernel
theorem d_Mo_isPossible_114 : decode m_Mo_isPossible.2.1 114 = .ok (.iload 6, 2) := by decide +kernel
theorem d_Mo_isPossible_116 : decode m_Mo_isPossible.2.1 116 = .ok (.iload 7, 2) := by decide +kernel
theorem d_Mo_isPossible_118 : decode m_Mo_isPossible.2.1 118 = .ok (.if_icmp .eq 7, 3) := by decide +kernel
theorem d_Mo_isPossible_121 : decode m_Mo_isPossible.2.1 121 = .ok (.iconst 1, 1) := by decide +kernel
theorem d_Mo_isPossible_122 : decode m_Mo_isPossible.2.1 122 = .ok (.goto 4, 3) := by decide +kernel
theorem d_Mo_isPossible_125 : decode m_Mo_isPossible.2.1 125 = .ok (.iconst 0, 1) := by decide +kernel
theorem d_Mo_isPossible_126 : decode m_Mo_isPossible.2.1 126 = .ok (.istore 10, 2) := by decide +kernel
theorem d_Mo_isPossible_128 : decode m_Mo_isPossible.2.1 128 = .ok (.iconst 0, 1) := by decide +kernel
theorem d_Mo_isPossible_129 : decode m_Mo_isPossible.2.1 129 = .ok (.istore 11, 2) := by decide +kernel
theorem d_Mo_isPossible_131 : decode m_Mo_isPossible.2.1 131 = .ok (.iload 11, 2) := by decide +kernel
theorem d_Mo_isPossible_133 : decode m_Mo_isPossible.2.1 133 = .ok (.aload_n 0, 1) := by decide +kernel
theorem d_Mo_isPossible_134 : decode m_Mo_isPossible.2.1 134 = .ok (.getfield 29, 3) := by decide +kernel
theorem d_Mo_isPossible_137 : decode m_Mo_isPossible.2.1 137 = .ok (.iload_n 1, 1) := by decide +kernel
theorem d_Mo_isPossible_138 : decode m_Mo_isPossible.2.1 138 = .ok (.iaload, 1) := by decide +kernel
theorem d_Mo_isPossible_139 : decode m_Mo_isPossible.2.1 139 = .ok (.if_icmp .ge 39, 3) := by decide +kernel
theorem d_Mo_isPossible_142 : decode m_Mo_isPossible.2.1 142 = .ok (.iload 10, 2) := by decide +kernel
theorem d_Mo_isPossible_144 : decode m_Mo_isPossible.2.1 144 = .ok (.ifCond .eq 34, 3) := by decide +kernel
theorem d_Mo_isPossible_147 : decode m_Mo_isPossible.2.1 147 = .ok (.aload_n 0, 1) := by decide +kernel
theorem d_Mo_isPossible_148 : decode m_Mo_isPossible.2.1 148 = .ok (.iload_n 1, 1) := by decide +kernel
theorem d_Mo_isPossible_149 : decode m_Mo_isPossible.2.1 149 = .ok (.iload 11, 2) := by decide +kernel
theorem d_Mo_isPossible_151 : decode m_Mo_isPossible.2.1 151 = .ok (.iload 8, 2) := by decide +kernel
theorem d_Mo_isPossible_153 : decode m_Mo_isPossible.2.1 153 = .ok (.iload 9, 2) := by decide +kernel
theorem d_Mo_isPossible_155 : decode m_Mo_isPossible.2.1 155 = .ok (.iload 6, 2) := by decide +kernel
theorem d_Mo_isPossible_157 : decode m_Mo_isPossible.2.1 157 = .ok (.iload 7, 2) := by decide +kernel
theorem d_Mo_isPossible_159 : decode m_Mo_isPossible.2.1 159 = .ok (.invokevirtual 196, 3) := by decide +kernel
theorem d_Mo_isPossible_162 : decode m_Mo_isPossible.2.1 162 = .ok (.ifCond .ne 7, 3) := by decide +kernel
theorem d_Mo_isPossible_165 : decode m_Mo_isPossible.2.1 165 = .ok (.iconst 1, 1) := by decide +kernel
theorem d_Mo_isPossible_166 : decode m_Mo_isPossible.2.1 166 = .ok (.goto 4, 3) := by decide +kernel
theorem d_Mo_isPossible_169 : decode m_Mo_isPossible.2.1 169 = .ok (.iconst 0, 1) := by decide +kernel
theorem d_Mo_isPossible_170 : decode m_Mo_isPossible.2.1 170 = .ok (.istore 10, 2) := by decide +kernel
theorem d_Mo_isPossible_172 : decode m_Mo_isPossible.2.1 172 = .ok (.iinc 11 1, 3) := by decide +kernel
theorem d_Mo_isPossible_175 : decode m_Mo_isPossible.2.1 175 = .ok (.goto (-44), 3) := by decide +kernel
theorem d_Mo_isPossible_178 : decode m_Mo_isPossible.2.1 178 = .ok (.iload 10, 2) := by decide +kernel
theorem d_Mo_isPossible_180 : decode m_Mo_isPossible.2.1 180 = .ok (.ireturn, 1) := by decide +kernel
theorem d_Mo_meets_0 : decode m_Mo_meets.2.1 0 = .ok (.bipush 24, 2) := by decide +kernel
theorem d_Mo_meets_2 : decode m_Mo_meets.2.1 2 = .ok (.iload_n 1, 1) := by decide +kernel
theorem d_Mo_meets_3 : decode m_Mo_meets.2.1 3 = .ok (.imul, 1) := by decide +kernel
theorem d_Mo_meets_4 : decode m_Mo_meets.2.1 4 = .ok (.iconst 4, 1) := by decide +kernel
theorem d_Mo_meets_5 : decode m_Mo_meets.2.1 5 = .ok (.iload_n 2, 1) := by decide +kernel
theorem d_Mo_meets_6 : decode m_Mo_meets.2.1 6 = .ok (.imul, 1) := by decide +kernel
theorem d_Mo_meets_7 : decode m_Mo_meets.2.1 7 = .ok (.iadd, 1) := by decide +kernel
theorem d_Mo_meets_8 : decode m_Mo_meets.2.1 8 = .ok (.istore 7, 2) := by decide +kernel
theorem d_Mo_meets_10 : decode m_Mo_meets.2.1 10 = .ok (.aload_n 0, 1) := by decide +kernel
theorem d_Mo_meets_11 : decode m_Mo_meets.2.1 11 = .ok (.getfield 32, 3) := by decide +kernel
theorem d_Mo_meets_14 : decode m_Mo_meets.2.1 14 = .ok (.iload 7, 2) := by decide +kernel
theorem d_Mo_meets_16 : decode m_Mo_meets.2.1 16 = .ok (.iaload, 1) := by decide +kernel
theorem d_Mo_meets_17 : decode m_Mo_meets.2.1 17 = .ok (.aload_n 0, 1) := by decide +kernel
theorem d_Mo_meets_18 : decode m_Mo_meets.2.1 18 = .ok (.getfield 32, 3) := by decide +kernel
theorem d_Mo_meets_21 : decode m_Mo_meets.2.1 21 = .ok (.iload 7, 2) := by decide +kernel
theorem d_Mo_meets_23 : decode m_Mo_meets.2.1 23 = .ok (.iconst 2, 1) := by decide +kernel
theorem d_Mo_meets_24 : decode m_Mo_meets.2.1 24 = .ok (.iadd, 1) := by decide +kernel
theorem d_Mo_meets_25 : decode m_Mo_meets.2.1 25 = .ok (.iaload, 1) := by decide +kernel
theorem d_Mo_meets_26 : decode m_Mo_meets.2.1 26 = .ok (.iload_n 3, 1) := by decide +kernel
theorem d_Mo_meets_27 : decode m_Mo_meets.2.1 27 = .ok (.iload 5, 2) := by decide +kernel
theorem d_Mo_meets_29 : decode m_Mo_meets.2.1 29 = .ok (.invokestatic 192, 3) := by decide +kernel
theorem d_Mo_meets_32 : decode m_Mo_meets.2.1 32 = .ok (.ifCond .eq 35, 3) := by decide +kernel
theorem d_Mo_meets_35 : decode m_Mo_meets.2.1 35 = .ok (.aload_n 0, 1) := by decide +kernel
theorem d_Mo_meets_36 : decode m_Mo_meets.2.1 36 = .ok (.getfield 32, 3) := by decide +kernel
theorem d_Mo_meets_39 : decode m_Mo_meets.2.1 39 = .ok (.iload 7, 2) := by decide +kernel
theorem d_Mo_meets_41 : decode m_Mo_meets.2.1 41 = .ok (.iconst 1, 1) := by decide +kernel
theorem d_Mo_meets_42 : decode m_Mo_meets.2.1 42 = .ok (.iadd, 1) := by decide +kernel
theorem d_Mo_meets_43 : decode m_Mo_meets.2.1 43 = .ok (.iaload, 1) := by decide +kernel
theorem d_Mo_meets_44 : decode m_Mo_meets.2.1 44 = .ok (.aload_n 0, 1) := by decide +kernel
theorem d_Mo_meets_45 : decode m_Mo_meets.2.1 45 = .ok (.getfield 32, 3) := by decide +kernel
theorem d_Mo_meets_48 : decode m_Mo_meets.2.1 48 = .ok (.iload 7, 2) := by decide +kernel
theorem d_Mo_meets_50 : decode m_Mo_meets.2.1 50 = .ok (.iconst 3, 1) := by decide +kernel
theorem d_Mo_meets_51 : decode m_Mo_meets.2.1 51 = .ok (.iadd, 1) := by decide +kernel
theorem d_Mo_meets_52 : decode m_Mo_meets.2.1 52 = .ok (.iaload, 1) := by decide +kernel
theorem d_Mo_meets_53 : decode m_Mo_meets.2.1 53 = .ok (.iload 4, 2) := by decide +kernel
theorem d_Mo_meets_55 : decode m_Mo_meets.2.1 55 = .ok (.iload 6, 2) := by decide +kernel
theorem d_Mo_meets_57 : decode m_Mo_meets.2.1 57 = .ok (.invokestatic 192, 3) := by decide +kernel
theorem d_Mo_meets_60 : decode m_Mo_meets.2.1 60 = .ok (.ifCond .eq 7, 3) := by decide +kernel
theorem d_Mo_meets_63 : decode m_Mo_meets.2.1 63 = .ok (.iconst 1, 1) := by decide +kernel
theorem d_Mo_meets_64 : decode m_Mo_meets.2.1 64 = .ok (.goto 4, 3) := by decide +kernel
theorem d_Mo_meets_67 : decode m_Mo_meets.2.1 67 = .ok (.iconst 0, 1) := by decide +kernel
theorem d_Mo_meets_68 : decode m_Mo_meets.2.1 68 = .ok (.ireturn, 1) := by decide +kernel
theorem d_Mo_overlap_0 : decode m_Mo_overlap.2.1 0 = .ok (.iload_n 0, 1) := by decide +kernel
theorem d_Mo_overlap_1 : decode m_Mo_overlap.2.1 1 = .ok (.iload_n 2, 1) := by decide +kernel
theorem d_Mo_overlap_2 : decode m_Mo_overlap.2.1 2 = .ok (.iload_n 3, 1) := by decide +kernel
theorem d_Mo_overlap_3 : decode m_Mo_overlap.2.1 3 = .ok (.iadd, 1) := by decide +kernel
theorem d_Mo_overlap_4 : decode m_Mo_overlap.2.1 4 = .ok (.if_icmp .ge 14, 3) := by decide +kernel
theorem d_Mo_overlap_7 : decode m_Mo_overlap.2.1 7 = .ok (.iload_n 2, 1) := by decide +kernel
theorem d_Mo_overlap_8 : decode m_Mo_overlap.2.1 8 = .ok (.iload_n 0, 1) := by decide +kernel
theorem d_Mo_overlap_9 : decode m_Mo_overlap.2.1 9 = .ok (.iload_n 1, 1) := by decide +kernel
theorem d_Mo_overlap_10 : decode m_Mo_overlap.2.1 10 = .ok (.iadd, 1) := by decide +kernel
theorem d_Mo_overlap_11 : decode m_Mo_overlap.2.1 11 = .ok (.if_icmp .ge 7, 3) := by decide +kernel
theorem d_Mo_overlap_14 : decode m_Mo_overlap.2.1 14 = .ok (.iconst 1, 1) := by decide +kernel
theorem d_Mo_overlap_15 : decode m_Mo_overlap.2.1 15 = .ok (.goto 4, 3) := by decide +kernel
theorem d_Mo_overlap_18 : decode m_Mo_overlap.2.1 18 = .ok (.iconst 0, 1) := by decide +kernel
theorem d_Mo_overlap_19 : decode m_Mo_overlap.2.1 19 = .ok (.ireturn, 1) := by decide +kernel
theorem d_Mo_isBefore_0 : decode m_Mo_isBefore.2.1 0 = .ok (.aload_n 0, 1) := by decide +kernel
theorem d_Mo_isBefore_1 : decode m_Mo_isBefore.2.1 1 = .ok (.getfield 68, 3) := by decide +kernel
theorem d_Mo_isBefore_4 : decode m_Mo_isBefore.2.1 4 = .ok (.iload_n 1, 1) := by decide +kernel
theorem d_Mo_isBefore_5 : decode m_Mo_isBefore.2.1 5 = .ok (.iaload, 1) := by decide +kernel
theorem d_Mo_isBefore_6 : decode m_Mo_isBefore.2.1 6 = .ok (.aload_n 0, 1) := by decide +kernel
theorem d_Mo_isBefore_7 : decode m_Mo_isBefore.2.1 7 = .ok (.getfield 68, 3) := by decide +kernel
theorem d_Mo_isBefore_10 : decode m_Mo_isBefore.2.1 10 = .ok (.iload_n 2, 1) := by decide +kernel
theorem d_Mo_isBefore_11 : decode m_Mo_isBefore.2.1 11 = .ok (.iaload, 1) := by decide +kernel
theorem d_Mo_isBefore_12 : decode m_Mo_isBefore.2.1 12 = .ok (.if_icmp .gt 53, 3) := by decide +kernel
theorem d_Mo_isBefore_15 : decode m_Mo_isBefore.2.1 15 = .ok (.aload_n 0, 1) := by decide +kernel
theorem d_Mo_isBefore_16 : decode m_Mo_isBefore.2.1 16 = .ok (.getfield 68, 3) := by decide +kernel
theorem d_Mo_isBefore_19 : decode m_Mo_isBefore.2.1 19 = .ok (.iload_n 1, 1) := by decide +kernel
theorem d_Mo_isBefore_20 : decode m_Mo_isBefore.2.1 20 = .ok (.iaload, 1) := by decide +kernel
theorem d_Mo_isBefore_21 : decode m_Mo_isBefore.2.1 21 = .ok (.aload_n 0, 1) := by decide +kernel
theorem d_Mo_isBefore_22 : decode m_Mo_isBefore.2.1 22 = .ok (.getfield 68, 3) := by decide +kernel
theorem d_Mo_isBefore_25 : decode m_Mo_isBefore.2.1 25 = .ok (.iload_n 2, 1) := by decide +kernel
theorem d_Mo_isBefore_26 : decode m_Mo_isBefore.2.1 26 = .ok (.iaload, 1) := by decide +kernel
theorem d_Mo_isBefore_27 : decode m_Mo_isBefore.2.1 27 = .ok (.if_icmp .ne 42, 3) := by decide +kernel
theorem d_Mo_isBefore_30 : decode m_Mo_isBefore.2.1 30 = .ok (.aload_n 0, 1) := by decide +kernel
theorem d_Mo_isBefore_31 : decode m_Mo_isBefore.2.1 31 = .ok (.getfield 65, 3) := by decide +kernel
theorem d_Mo_isBefore_34 : decode m_Mo_isBefore.2.1 34 = .ok (.iload_n 1, 1) := by decide +kernel
theorem d_Mo_isBefore_35 : decode m_Mo_isBefore.2.1 35 = .ok (.iaload, 1) := by decide +kernel
theorem d_Mo_isBefore_36 : decode m_Mo_isBefore.2.1 36 = .ok (.aload_n 0, 1) := by decide +kernel
theorem d_Mo_isBefore_37 : decode m_Mo_isBefore.2.1 37 = .ok (.getfield 65, 3) := by decide +kernel
theorem d_Mo_isBefore_40 : decode m_Mo_isBefore.2.1 40 = .ok (.iload_n 2, 1) := by decide +kernel
theorem d_Mo_isBefore_41 : decode m_Mo_isBefore.2.1 41 = .ok (.iaload, 1) := by decide +kernel
theorem d_Mo_isBefore_42 : decode m_Mo_isBefore.2.1 42 = .ok (.if_icmp .gt 23, 3) := by decide +kernel
theorem d_Mo_isBefore_45 : decode m_Mo_isBefore.2.1 45 = .ok (.aload_n 0, 1) := by decide +kernel
theorem d_Mo_isBefore_46 : decode m_Mo_isBefore.2.1 46 = .ok (.getfield 65, 3) := by decide +kernel
theorem d_Mo_isBefore_49 : decode m_Mo_isBefore.2.1 49 = .ok (.iload_n 1, 1) := by decide +kernel
theorem d_Mo_isBefore_50 : decode m_Mo_isBefore.2.1 50 = .ok (.iaload, 1) := by decide +kernel
theorem d_Mo_isBefore_51 : decode m_Mo_isBefore.2.1 51 = .ok (.aload_n 0, 1) := by decide +kernel
theorem d_Mo_isBefore_52 : decode m_Mo_isBefore.2.1 52 = .ok (.getfield 65, 3) := by decide +kernel
theorem d_Mo_isBefore_55 : decode m_Mo_isBefore.2.1 55 = .ok (.iload_n 2, 1) := by decide +kernel
theorem d_Mo_isBefore_56 : decode m_Mo_isBefore.2.1 56 = .ok (.iaload, 1) := by decide +kernel
theorem d_Mo_isBefore_57 : decode m_Mo_isBefore.2.1 57 = .ok (.if_icmp .ne 12, 3) := by decide +kernel
theorem d_Mo_isBefore_60 : decode m_Mo_isBefore.2.1 60 = .ok (.iload_n 1, 1) := by decide +kernel
theorem d_Mo_isBefore_61 : decode m_Mo_isBefore.2.1 61 = .ok (.iload_n 2, 1) := by decide +kernel
theorem d_Mo_isBefore_62 : decode m_Mo_isBefore.2.1 62 = .ok (.if_icmp .ge 7, 3) := by decide +kernel
theorem d_Mo_isBefore_65 : decode m_Mo_isBefore.2.1 65 = .ok (.iconst 1, 1) := by decide +kernel
theorem d_Mo_isBefore_66 : decode m_Mo_isBefore.2.1 66 = .ok (.goto 4, 3) := by decide +kernel
theorem d_Mo_isBefore_69 : decode m_Mo_isBefore.2.1 69 = .ok (.iconst 0, 1) := by decide +kernel
theorem d_Mo_isBefore_70 : decode m_Mo_isBefore.2.1 70 = .ok (.ireturn, 1) := by decide +kernel
theorem d_Mo_lay_0 : decode m_Mo_lay.2.1 0 = .ok (.aload_n 0, 1) := by decide +kernel
theorem d_Mo_lay_1 : decode m_Mo_lay.2.1 1 = .ok (.getfield 95, 3) := by decide +kernel
theorem d_Mo_lay_4 : decode m_Mo_lay.2.1 4 = .ok (.aload_n 0, 1) := by decide +kernel
theorem d_Mo_lay_5 : decode m_Mo_lay.2.1 5 = .ok (.getfield 174, 3) := by decide +kernel
theorem d_Mo_lay_8 : decode m_Mo_lay.2.1 8 = .ok (.iload_n 1, 1) := by decide +kernel
theorem d_Mo_lay_9 : decode m_Mo_lay.2.1 9 = .ok (.iastore, 1) := by decide +kernel
theorem d_Mo_lay_10 : decode m_Mo_lay.2.1 10 = .ok (.aload_n 0, 1) := by decide +kernel
theorem d_Mo_lay_11 : decode m_Mo_lay.2.1 11 = .ok (.getfield 98, 3) := by decide +kernel
theorem d_Mo_lay_14 : decode m_Mo_lay.2.1 14 = .ok (.aload_n 0, 1) := by decide +kernel
theorem d_Mo_lay_15 : decode m_Mo_lay.2.1 15 = .ok (.getfield 174, 3) := by decide +kernel
theorem d_Mo_lay_18 : decode m_Mo_lay.2.1 18 = .ok (.iload_n 2, 1) := by decide +kernel
theorem d_Mo_lay_19 : decode m_Mo_lay.2.1 19 = .ok (.ifCond .eq 12, 3) := by decide +kernel
theorem d_Mo_lay_22 : decode m_Mo_lay.2.1 22 = .ok (.aload_n 0, 1) := by decide +kernel
theorem d_Mo_lay_23 : decode m_Mo_lay.2.1 23 = .ok (.getfield 68, 3) := by decide +kernel
theorem d_Mo_lay_26 : decode m_Mo_lay.2.1 26 = .ok (.iload_n 1, 1) := by decide +kernel
theorem d_Mo_lay_27 : decode m_Mo_lay.2.1 27 = .ok (.iaload, 1) := by decide +kernel
theorem d_Mo_lay_28 : decode m_Mo_lay.2.1 28 = .ok (.goto 9, 3) := by decide +kernel
theorem d_Mo_lay_31 : decode m_Mo_lay.2.1 31 = .ok (.aload_n 0, 1) := by decide +kernel
theorem d_Mo_lay_32 : decode m_Mo_lay.2.1 32 = .ok (.getfield 65, 3) := by decide +kernel
theorem d_Mo_lay_35 : decode m_Mo_lay.2.1 35 = .ok (.iload_n 1, 1) := by decide +kernel
theorem d_Mo_lay_36 : decode m_Mo_lay.2.1 36 = .ok (.iaload, 1) := by decide +kernel
theorem d_Mo_lay_37 : decode m_Mo_lay.2.1 37 = .ok (.iastore, 1) := by decide +kernel
theorem d_Mo_lay_38 : decode m_Mo_lay.2.1 38 = .ok (.aload_n 0, 1) := by decide +kernel
theorem d_Mo_lay_39 : decode m_Mo_lay.2.1 39 = .ok (.getfield 101, 3) := by decide +kernel
theorem d_Mo_lay_42 : decode m_Mo_lay.2.1 42 = .ok (.aload_n 0, 1) := by decide +kernel
theorem d_Mo_lay_43 : decode m_Mo_lay.2.1 43 = .ok (.getfield 174, 3) := by decide +kernel
theorem d_Mo_lay_46 : decode m_Mo_lay.2.1 46 = .ok (.iload_n 2, 1) := by decide +kernel
theorem d_Mo_lay_47 : decode m_Mo_lay.2.1 47 = .ok (.ifCond .eq 12, 3) := by decide +kernel
theorem d_Mo_lay_50 : decode m_Mo_lay.2.1 50 = .ok (.aload_n 0, 1) := by decide +kernel
theorem d_Mo_lay_51 : decode m_Mo_lay.2.1 51 = .ok (.getfield 65, 3) := by decide +kernel
theorem d_Mo_lay_54 : decode m_Mo_lay.2.1 54 = .ok (.iload_n 1, 1) := by decide +kernel
theorem d_Mo_lay_55 : decode m_Mo_lay.2.1 55 = .ok (.iaload, 1) := by decide +kernel
theorem d_Mo_lay_56 : decode m_Mo_lay.2.1 56 = .ok (.goto 9, 3) := by decide +kernel
theorem d_Mo_lay_59 : decode m_Mo_lay.2.1 59 = .ok (.aload_n 0, 1) := by decide +kernel
theorem d_Mo_lay_60 : decode m_Mo_lay.2.1 60 = .ok (.getfield 68, 3) := by decide +kernel
theorem d_Mo_lay_63 : decode m_Mo_lay.2.1 63 = .ok (.iload_n 1, 1) := by decide +kernel
theorem d_Mo_lay_64 : decode m_Mo_lay.2.1 64 = .ok (.iaload, 1) := by decide +kernel
theorem d_Mo_lay_65 : decode m_Mo_lay.2.1 65 = .ok (.iastore, 1) := by decide +kernel
theorem d_Mo_lay_66 : decode m_Mo_lay.2.1 66 = .ok (.aload_n 0, 1) := by decide +kernel
theorem d_Mo_lay_67 : decode m_Mo_lay.2.1 67 = .ok (.getfield 104, 3) := by decide +kernel
theorem d_Mo_lay_70 : decode m_Mo_lay.2.1 70 = .ok (.aload_n 0, 1) := by decide +kernel
theorem d_Mo_lay_71 : decode m_Mo_lay.2.1 71 = .ok (.getfield 174, 3) := by decide +kernel
theorem d_Mo_lay_74 : decode m_Mo_lay.2.1 74 = .ok (.iload_n 3, 1) := by decide +kernel
theorem d_Mo_lay_75 : decode m_Mo_lay.2.1 75 = .ok (.iastore, 1) := by decide +kernel
theorem d_Mo_lay_76 : decode m_Mo_lay.2.1 76 = .ok (.aload_n 0, 1) := by decide +kernel
theorem d_Mo_lay_77 : decode m_Mo_lay.2.1 77 = .ok (.getfield 107, 3) := by decide +kernel
theorem d_Mo_lay_80 : decode m_Mo_lay.2.1 80 = .ok (.aload_n 0, 1) := by decide +kernel
theorem d_Mo_lay_81 : decode m_Mo_lay.2.1 81 = .ok (.getfield 174, 3) := by decide +kernel
theorem d_Mo_lay_84 : decode m_Mo_lay.2.1 84 = .ok (.iload 4, 2) := by decide +kernel
theorem d_Mo_lay_86 : decode m_Mo_lay.2.1 86 = .ok (.iastore, 1) := by decide +kernel
theorem d_Mo_lay_87 : decode m_Mo_lay.2.1 87 = .ok (.aload_n 0, 1) := by decide +kernel
theorem d_Mo_lay_88 : decode m_Mo_lay.2.1 88 = .ok (.dup, 1) := by decide +kernel
theorem d_Mo_lay_89 : decode m_Mo_lay.2.1 89 = .ok (.getfield 174, 3) := by decide +kernel
theorem d_Mo_lay_92 : decode m_Mo_lay.2.1 92 = .ok (.iconst 1, 1) := by decide +kernel
theorem d_Mo_lay_93 : decode m_Mo_lay.2.1 93 = .ok (.iadd, 1) := by decide +kernel
theorem d_Mo_lay_94 : decode m_Mo_lay.2.1 94 = .ok (.putfield 174, 3) := by decide +kernel
theorem d_Mo_lay_97 : decode m_Mo_lay.2.1 97 = .ok (.return_, 1) := by decide +kernel
theorem d_Mo_adopt_0 : decode m_Mo_adopt.2.1 0 = .ok (.aload_n 0, 1) := by decide +kernel
theorem d_Mo_adopt_1 : decode m_Mo_adopt.2.1 1 = .ok (.getfield 35, 3) := by decide +kernel
theorem d_Mo_adopt_4 : decode m_Mo_adopt.2.1 4 = .ok (.iload_n 1, 1) := by decide +kernel
theorem d_Mo_adopt_5 : decode m_Mo_adopt.2.1 5 = .ok (.iconst 0, 1) := by decide +kernel
theorem d_Mo_adopt_6 : decode m_Mo_adopt.2.1 6 = .ok (.iastore, 1) := by decide +kernel
theorem d_Mo_adopt_7 : decode m_Mo_adopt.2.1 7 = .ok (.aload_n 0, 1) := by decide +kernel
theorem d_Mo_adopt_8 : decode m_Mo_adopt.2.1 8 = .ok (.iconst 0, 1) := by decide +kernel
theorem d_Mo_adopt_9 : decode m_Mo_adopt.2.1 9 = .ok (.putfield 216, 3) := by decide +kernel
theorem d_Mo_adopt_12 : decode m_Mo_adopt.2.1 12 = .ok (.aload_n 0, 1) := by decide +kernel
theorem d_Mo_adopt_13 : decode m_Mo_adopt.2.1 13 = .ok (.iconst 0, 1) := by decide +kernel
theorem d_Mo_adopt_14 : decode m_Mo_adopt.2.1 14 = .ok (.iconst 0, 1) := by decide +kernel
theorem d_Mo_adopt_15 : decode m_Mo_adopt.2.1 15 = .ok (.iconst 0, 1) := by decide +kernel
theorem d_Mo_adopt_16 : decode m_Mo_adopt.2.1 16 = .ok (.iconst 0, 1) := by decide +kernel
theorem d_Mo_adopt_17 : decode m_Mo_adopt.2.1 17 = .ok (.iconst (-1), 1) := by decide +kernel
theorem d_Mo_adopt_18 : decode m_Mo_adopt.2.1 18 = .ok (.invokevirtual 230, 3) := by decide +kernel
theorem d_Mo_adopt_21 : decode m_Mo_adopt.2.1 21 = .ok (.aload_n 0, 1) := by decide +kernel
theorem d_Mo_adopt_22 : decode m_Mo_adopt.2.1 22 = .ok (.iconst 0, 1) := by decide +kernel
theorem d_Mo_adopt_23 : decode m_Mo_adopt.2.1 23 = .ok (.iconst 0, 1) := by decide +kernel
theorem d_Mo_adopt_24 : decode m_Mo_adopt.2.1 24 = .ok (.aload_n 0, 1) := by decide +kernel
theorem d_Mo_adopt_25 : decode m_Mo_adopt.2.1 25 = .ok (.getfield 17, 3) := by decide +kernel
theorem d_Mo_adopt_28 : decode m_Mo_adopt.2.1 28 = .ok (.iload_n 1, 1) := by decide +kernel
theorem d_Mo_adopt_29 : decode m_Mo_adopt.2.1 29 = .ok (.iaload, 1) := by decide +kernel
theorem d_Mo_adopt_30 : decode m_Mo_adopt.2.1 30 = .ok (.aload_n 0, 1) := by decide +kernel
theorem d_Mo_adopt_31 : decode m_Mo_adopt.2.1 31 = .ok (.getfield 20, 3) := by decide +kernel
theorem d_Mo_adopt_34 : decode m_Mo_adopt.2.1 34 = .ok (.iload_n 1, 1) := by decide +kernel
theorem d_Mo_adopt_35 : decode m_Mo_adopt.2.1 35 = .ok (.iaload, 1) := by decide +kernel
theorem d_Mo_adopt_36 : decode m_Mo_adopt.2.1 36 = .ok (.invokevirtual 233, 3) := by decide +kernel
theorem d_Mo_adopt_39 : decode m_Mo_adopt.2.1 39 = .ok (.aload_n 0, 1) := by decide +kernel
theorem d_Mo_adopt_40 : decode m_Mo_adopt.2.1 40 = .ok (.getfield 216, 3) := by decide +kernel
theorem d_Mo_adopt_43 : decode m_Mo_adopt.2.1 43 = .ok (.ifCond .le 11, 3) := by decide +kernel
theorem d_Mo_adopt_46 : decode m_Mo_adopt.2.1 46 = .ok (.aload_n 0, 1) := by decide +kernel
theorem d_Mo_adopt_47 : decode m_Mo_adopt.2.1 47 = .ok (.iload_n 1, 1) := by decide +kernel
theorem d_Mo_adopt_48 : decode m_Mo_adopt.2.1 48 = .ok (.invokevirtual 237, 3) := by decide +kernel
theorem d_Mo_adopt_51 : decode m_Mo_adopt.2.1 51 = .ok (.goto (-12), 3) := by decide +kernel
theorem d_Mo_adopt_54 : decode m_Mo_adopt.2.1 54 = .ok (.aload_n 0, 1) := by decide +kernel
theorem d_Mo_adopt_55 : decode m_Mo_adopt.2.1 55 = .ok (.getfield 62, 3) := by decide +kernel
theorem d_Mo_adopt_58 : decode m_Mo_adopt.2.1 58 = .ok (.sipush 160, 3) := by decide +kernel
theorem d_Mo_adopt_61 : decode m_Mo_adopt.2.1 61 = .ok (.iload_n 1, 1) := by decide +kernel
theorem d_Mo_adopt_62 : decode m_Mo_adopt.2.1 62 = .ok (.imul, 1) := by decide +kernel
theorem d_Mo_adopt_63 : decode m_Mo_adopt.2.1 63 = .ok (.iconst 1, 1) := by decide +kernel
theorem d_Mo_adopt_64 : decode m_Mo_adopt.2.1 64 = .ok (.iastore, 1) := by decide +kernel
theorem d_Mo_adopt_65 : decode m_Mo_adopt.2.1 65 = .ok (.aload_n 0, 1) := by decide +kernel
theorem d_Mo_adopt_66 : decode m_Mo_adopt.2.1 66 = .ok (.getfield 23, 3) := by decide +kernel
theorem d_Mo_adopt_69 : decode m_Mo_adopt.2.1 69 = .ok (.iload_n 1, 1) := by decide +kernel
theorem d_Mo_adopt_70 : decode m_Mo_adopt.2.1 70 = .ok (.iconst 1, 1) := by decide +kernel
theorem d_Mo_adopt_71 : decode m_Mo_adopt.2.1 71 = .ok (.bastore, 1) := by decide +kernel
theorem d_Mo_adopt_72 : decode m_Mo_adopt.2.1 72 = .ok (.aload_n 0, 1) := by decide +kernel
theorem d_Mo_adopt_73 : decode m_Mo_adopt.2.1 73 = .ok (.getfield 26, 3) := by decide +kernel
theorem d_Mo_adopt_76 : decode m_Mo_adopt.2.1 76 = .ok (.iload_n 1, 1) := by decide +kernel
theorem d_Mo_adopt_77 : decode m_Mo_adopt.2.1 77 = .ok (.iconst 0, 1) := by decide +kernel
theorem d_Mo_adopt_78 : decode m_Mo_adopt.2.1 78 = .ok (.bastore, 1) := by decide +kernel
theorem d_Mo_adopt_79 : decode m_Mo_adopt.2.1 79 = .ok (.iconst 0, 1) := by decide +kernel
theorem d_Mo_adopt_80 : decode m_Mo_adopt.2.1 80 = .ok (.istore_n 2, 1) := by decide +kernel
theorem d_Mo_adopt_81 : decode m_Mo_adopt.2.1 81 = .ok (.iload_n 2, 1) := by decide +kernel
theorem d_Mo_adopt_82 : decode m_Mo_adopt.2.1 82 = .ok (.aload_n 0, 1) := by decide +kernel
theorem d_Mo_adopt_83 : decode m_Mo_adopt.2.1 83 = .ok (.getfield 174, 3) := by decide +kernel
theorem d_Mo_adopt_86 : decode m_Mo_adopt.2.1 86 = .ok (.if_icmp .ge 39, 3) := by decide +kernel
theorem d_Mo_adopt_89 : decode m_Mo_adopt.2.1 89 = .ok (.aload_n 0, 1) := by decide +kernel
theorem d_Mo_adopt_90 : decode m_Mo_adopt.2.1 90 = .ok (.getfield 74, 3) := by decide +kernel
theorem d_Mo_adopt_93 : decode m_Mo_adopt.2.1 93 = .ok (.aload_n 0, 1) := by decide +kernel
theorem d_Mo_adopt_94 : decode m_Mo_adopt.2.1 94 = .ok (.getfield 95, 3) := by decide +kernel
theorem d_Mo_adopt_97 : decode m_Mo_adopt.2.1 97 = .ok (.iload_n 2, 1) := by decide +kernel
theorem d_Mo_adopt_98 : decode m_Mo_adopt.2.1 98 = .ok (.iaload, 1) := by decide +kernel
theorem d_Mo_adopt_99 : decode m_Mo_adopt.2.1 99 = .ok (.dup2, 1) := by decide +kernel
theorem d_Mo_adopt_100 : decode m_Mo_adopt.2.1 100 = .ok (.iaload, 1) := by decide +kernel
theorem d_Mo_adopt_101 : decode m_Mo_adopt.2.1 101 = .ok (.iconst 1, 1) := by decide +kernel
theorem d_Mo_adopt_102 : decode m_Mo_adopt.2.1 102 = .ok (.isub, 1) := by decide +kernel
theorem d_Mo_adopt_103 : decode m_Mo_adopt.2.1 103 = .ok (.iastore, 1) := by decide +kernel
theorem d_Mo_adopt_104 : decode m_Mo_adopt.2.1 104 = .ok (.aload_n 0, 1) := by decide +kernel
theorem d_Mo_adopt_105 : decode m_Mo_adopt.2.1 105 = .ok (.getfield 77, 3) := by decide +kernel
theorem d_Mo_adopt_108 : decode m_Mo_adopt.2.1 108 = .ok (.aload_n 0, 1) := by decide +kernel
theorem d_Mo_adopt_109 : decode m_Mo_adopt.2.1 109 = .ok (.getfield 95, 3) := by decide +kernel
theorem d_Mo_adopt_112 : decode m_Mo_adopt.2.1 112 = .ok (.iload_n 2, 1) := by decide +kernel
theorem d_Mo_adopt_113 : decode m_Mo_adopt.2.1 113 = .ok (.iaload, 1) := by decide +kernel
theorem d_Mo_adopt_114 : decode m_Mo_adopt.2.1 114 = .ok (.dup2, 1) := by decide +kernel
theorem d_Mo_adopt_115 : decode m_Mo_adopt.2.1 115 = .ok (.iaload, 1) := by decide +kernel
theorem d_Mo_adopt_116 : decode m_Mo_adopt.2.1 116 = .ok (.iconst 1, 1) := by decide +kernel
theorem d_Mo_adopt_117 : decode m_Mo_adopt.2.1 117 = .ok (.iadd, 1) := by decide +kernel
theorem d_Mo_adopt_118 : decode m_Mo_adopt.2.1 118 = .ok (.iastore, 1) := by decide +kernel
theorem d_Mo_adopt_119 : decode m_Mo_adopt.2.1 119 = .ok (.iinc 2 1, 3) := by decide +kernel
theorem d_Mo_adopt_122 : decode m_Mo_adopt.2.1 122 = .ok (.goto (-41), 3) := by decide +kernel
theorem d_Mo_adopt_125 : decode m_Mo_adopt.2.1 125 = .ok (.aload_n 0, 1) := by decide +kernel
theorem d_Mo_adopt_126 : decode m_Mo_adopt.2.1 126 = .ok (.getfield 174, 3) := by decide +kernel
theorem d_Mo_adopt_129 : decode m_Mo_adopt.2.1 129 = .ok (.ireturn, 1) := by decide +kernel
theorem d_Mo_push_0 : decode m_Mo_push.2.1 0 = .ok (.aload_n 0, 1) := by decide +kernel
theorem d_Mo_push_1 : decode m_Mo_push.2.1 1 = .ok (.getfield 113, 3) := by decide +kernel
theorem d_Mo_push_4 : decode m_Mo_push.2.1 4 = .ok (.aload_n 0, 1) := by decide +kernel
theorem d_Mo_push_5 : decode m_Mo_push.2.1 5 = .ok (.getfield 216, 3) := by decide +kernel
theorem d_Mo_push_8 : decode m_Mo_push.2.1 8 = .ok (.iload_n 1, 1) := by decide +kernel
theorem d_Mo_push_9 : decode m_Mo_push.2.1 9 = .ok (.iastore, 1) := by decide +kernel
theorem d_Mo_push_10 : decode m_Mo_push.2.1 10 = .ok (.aload_n 0, 1) := by decide +kernel
theorem d_Mo_push_11 : decode m_Mo_push.2.1 11 = .ok (.getfield 116, 3) := by decide +kernel
theorem d_Mo_push_14 : decode m_Mo_push.2.1 14 = .ok (.aload_n 0, 1) := by decide +kernel
theorem d_Mo_push_15 : decode m_Mo_push.2.1 15 = .ok (.getfield 216, 3) := by decide +kernel
theorem d_Mo_push_18 : decode m_Mo_push.2.1 18 = .ok (.iload_n 2, 1) := by decide +kernel
theorem d_Mo_push_19 : decode m_Mo_push.2.1 19 = .ok (.iastore, 1) := by decide +kernel
theorem d_Mo_push_20 : decode m_Mo_push.2.1 20 = .ok (.aload_n 0, 1) := by decide +kernel
theorem d_Mo_push_21 : decode m_Mo_push.2.1 21 = .ok (.getfield 119, 3) := by decide +kernel
theorem d_Mo_push_24 : decode m_Mo_push.2.1 24 = .ok (.aload_n 0, 1) := by decide +kernel
theorem d_Mo_push_25 : decode m_Mo_push.2.1 25 = .ok (.getfield 216, 3) := by decide +kernel
theorem d_Mo_push_28 : decode m_Mo_push.2.1 28 = .ok (.iload_n 3, 1) := by decide +kernel
theorem d_Mo_push_29 : decode m_Mo_push.2.1 29 = .ok (.iastore, 1) := by decide +kernel
theorem d_Mo_push_30 : decode m_Mo_push.2.1 30 = .ok (.aload_n 0, 1) := by decide +kernel
theorem d_Mo_push_31 : decode m_Mo_push.2.1 31 = .ok (.getfield 122, 3) := by decide +kernel
theorem d_Mo_push_34 : decode m_Mo_push.2.1 34 = .ok (.aload_n 0, 1) := by decide +kernel
theorem d_Mo_push_35 : decode m_Mo_push.2.1 35 = .ok (.getfield 216, 3) := by decide +kernel
theorem d_Mo_push_38 : decode m_Mo_push.2.1 38 = .ok (.iload 4, 2) := by decide +kernel
theorem d_Mo_push_40 : decode m_Mo_push.2.1 40 = .ok (.iastore, 1) := by decide +kernel
theorem d_Mo_push_41 : decode m_Mo_push.2.1 41 = .ok (.aload_n 0, 1) := by decide +kernel
theorem d_Mo_push_42 : decode m_Mo_push.2.1 42 = .ok (.getfield 137, 3) := by decide +kernel
theorem d_Mo_push_45 : decode m_Mo_push.2.1 45 = .ok (.aload_n 0, 1) := by decide +kernel
theorem d_Mo_push_46 : decode m_Mo_push.2.1 46 = .ok (.getfield 216, 3) := by decide +kernel
theorem d_Mo_push_49 : decode m_Mo_push.2.1 49 = .ok (.iload 5, 2) := by decide +kernel
theorem d_Mo_push_51 : decode m_Mo_push.2.1 51 = .ok (.iastore, 1) := by decide +kernel
theorem d_Mo_push_52 : decode m_Mo_push.2.1 52 = .ok (.aload_n 0, 1) := by decide +kernel
theorem d_Mo_push_53 : decode m_Mo_push.2.1 53 = .ok (.dup, 1) := by decide +kernel
theorem d_Mo_push_54 : decode m_Mo_push.2.1 54 = .ok (.getfield 216, 3) := by decide +kernel
theorem d_Mo_push_57 : decode m_Mo_push.2.1 57 = .ok (.iconst 1, 1) := by decide +kernel
theorem d_Mo_push_58 : decode m_Mo_push.2.1 58 = .ok (.iadd, 1) := by decide +kernel
theorem d_Mo_push_59 : decode m_Mo_push.2.1 59 = .ok (.putfield 216, 3) := by decide +kernel
theorem d_Mo_push_62 : decode m_Mo_push.2.1 62 = .ok (.return_, 1) := by decide +kernel
theorem d_Mo_at_0 : decode m_Mo_at.2.1 0 = .ok (.aload_n 0, 1) := by decide +kernel
theorem d_Mo_at_1 : decode m_Mo_at.2.1 1 = .ok (.getfield 125, 3) := by decide +kernel
theorem d_Mo_at_4 : decode m_Mo_at.2.1 4 = .ok (.aload_n 0, 1) := by decide +kernel
theorem d_Mo_at_5 : decode m_Mo_at.2.1 5 = .ok (.getfield 216, 3) := by decide +kernel
theorem d_Mo_at_8 : decode m_Mo_at.2.1 8 = .ok (.iconst 1, 1) := by decide +kernel
theorem d_Mo_at_9 : decode m_Mo_at.2.1 9 = .ok (.isub, 1) := by decide +kernel
theorem d_Mo_at_10 : decode m_Mo_at.2.1 10 = .ok (.iload_n 1, 1) := by decide +kernel
theorem d_Mo_at_11 : decode m_Mo_at.2.1 11 = .ok (.iastore, 1) := by decide +kernel
theorem d_Mo_at_12 : decode m_Mo_at.2.1 12 = .ok (.aload_n 0, 1) := by decide +kernel
theorem d_Mo_at_13 : decode m_Mo_at.2.1 13 = .ok (.getfield 128, 3) := by decide +kernel
theorem d_Mo_at_16 : decode m_Mo_at.2.1 16 = .ok (.aload_n 0, 1) := by decide +kernel
theorem d_Mo_at_17 : decode m_Mo_at.2.1 17 = .ok (.getfield 216, 3) := by decide +kernel
theorem d_Mo_at_20 : decode m_Mo_at.2.1 20 = .ok (.iconst 1, 1) := by decide +kernel
theorem d_Mo_at_21 : decode m_Mo_at.2.1 21 = .ok (.isub, 1) := by decide +kernel
theorem d_Mo_at_22 : decode m_Mo_at.2.1 22 = .ok (.iload_n 2, 1) := by decide +kernel
theorem d_Mo_at_23 : decode m_Mo_at.2.1 23 = .ok (.iastore, 1) := by decide +kernel
theorem d_Mo_at_24 : decode m_Mo_at.2.1 24 = .ok (.aload_n 0, 1) := by decide +kernel
theorem d_Mo_at_25 : decode m_Mo_at.2.1 25 = .ok (.getfield 131, 3) := by decide +kernel
theorem d_Mo_at_28 : decode m_Mo_at.2.1 28 = .ok (.aload_n 0, 1) := by decide +kernel
theorem d_Mo_at_29 : decode m_Mo_at.2.1 29 = .ok (.getfield 216, 3) := by decide +kernel
theorem d_Mo_at_32 : decode m_Mo_at.2.1 32 = .ok (.iconst 1, 1) := by decide +kernel
theorem d_Mo_at_33 : decode m_Mo_at.2.1 33 = .ok (.isub, 1) := by decide +kernel
theorem d_Mo_at_34 : decode m_Mo_at.2.1 34 = .ok (.iload_n 3, 1) := by decide +kernel
theorem d_Mo_at_35 : decode m_Mo_at.2.1 35 = .ok (.iastore, 1) := by decide +kernel
theorem d_Mo_at_36 : decode m_Mo_at.2.1 36 = .ok (.aload_n 0, 1) := by decide +kernel
theorem d_Mo_at_37 : decode m_Mo_at.2.1 37 = .ok (.getfield 134, 3) := by decide +kernel
theorem d_Mo_at_40 : decode m_Mo_at.2.1 40 = .ok (.aload_n 0, 1) := by decide +kernel
theorem d_Mo_at_41 : decode m_Mo_at.2.1 41 = .ok (.getfield 216, 3) := by decide +kernel
theorem d_Mo_at_44 : decode m_Mo_at.2.1 44 = .ok (.iconst 1, 1) := by decide +kernel
theorem d_Mo_at_45 : decode m_Mo_at.2.1 45 = .ok (.isub, 1) := by decide +kernel
theorem d_Mo_at_46 : decode m_Mo_at.2.1 46 = .ok (.iload 4, 2) := by decide +kernel
theorem d_Mo_at_48 : decode m_Mo_at.2.1 48 = .ok (.iastore, 1) := by decide +kernel
theorem d_Mo_at_49 : decode m_Mo_at.2.1 49 = .ok (.return_, 1) := by decide +kernel
theorem d_Mo_grow_0 : decode m_Mo_grow.2.1 0 = .ok (.aload_n 0, 1) := by decide +kernel
theorem d_Mo_grow_1 : decode m_Mo_grow.2.1 1 = .ok (.dup, 1) := by decide +kernel
theorem d_Mo_grow_2 : decode m_Mo_grow.2.1 2 = .ok (.getfield 216, 3) := by decide +kernel
theorem d_Mo_grow_5 : decode m_Mo_grow.2.1 5 = .ok (.iconst 1, 1) := by decide +kernel
theorem d_Mo_grow_6 : decode m_Mo_grow.2.1 6 = .ok (.isub, 1) := by decide +kernel
theorem d_Mo_grow_7 : decode m_Mo_grow.2.1 7 = .ok (.putfield 216, 3) := by decide +kernel
theorem d_Mo_grow_10 : decode m_Mo_grow.2.1 10 = .ok (.aload_n 0, 1) := by decide +kernel
theorem d_Mo_grow_11 : decode m_Mo_grow.2.1 11 = .ok (.getfield 113, 3) := by decide +kernel
theorem d_Mo_grow_14 : decode m_Mo_grow.2.1 14 = .ok (.aload_n 0, 1) := by decide +kernel
theorem d_Mo_grow_15 : decode m_Mo_grow.2.1 15 = .ok (.getfield 216, 3) := by decide +kernel
theorem d_Mo_grow_18 : decode m_Mo_grow.2.1 18 = .ok (.iaload, 1) := by decide +kernel
theorem d_Mo_grow_19 : decode m_Mo_grow.2.1 19 = .ok (.istore_n 2, 1) := by decide +kernel
theorem d_Mo_grow_20 : decode m_Mo_grow.2.1 20 = .ok (.aload_n 0, 1) := by decide +kernel
theorem d_Mo_grow_21 : decode m_Mo_grow.2.1 21 = .ok (.getfield 116, 3) := by decide +kernel
theorem d_Mo_grow_24 : decode m_Mo_grow.2.1 24 = .ok (.aload_n 0, 1) := by decide +kernel
theorem d_Mo_grow_25 : decode m_Mo_grow.2.1 25 = .ok (.getfield 216, 3) := by decide +kernel
theorem d_Mo_grow_28 : decode m_Mo_grow.2.1 28 = .ok (.iaload, 1) := by decide +kernel
theorem d_Mo_grow_29 : decode m_Mo_grow.2.1 29 = .ok (.istore_n 3, 1) := by decide +kernel
theorem d_Mo_grow_30 : decode m_Mo_grow.2.1 30 = .ok (.aload_n 0, 1) := by decide +kernel
theorem d_Mo_grow_31 : decode m_Mo_grow.2.1 31 = .ok (.getfield 119, 3) := by decide +kernel
theorem d_Mo_grow_34 : decode m_Mo_grow.2.1 34 = .ok (.aload_n 0, 1) := by decide +kernel
theorem d_Mo_grow_35 : decode m_Mo_grow.2.1 35 = .ok (.getfield 216, 3) := by decide +kernel
theorem d_Mo_grow_38 : decode m_Mo_grow.2.1 38 = .ok (.iaload, 1) := by decide +kernel
theorem d_Mo_grow_39 : decode m_Mo_grow.2.1 39 = .ok (.istore 4, 2) := by decide +kernel
theorem d_Mo_grow_41 : decode m_Mo_grow.2.1 41 = .ok (.aload_n 0, 1) := by decide +kernel
theorem d_Mo_grow_42 : decode m_Mo_grow.2.1 42 = .ok (.getfield 122, 3) := by decide +kernel
theorem d_Mo_grow_45 : decode m_Mo_grow.2.1 45 = .ok (.aload_n 0, 1) := by decide +kernel
theorem d_Mo_grow_46 : decode m_Mo_grow.2.1 46 = .ok (.getfield 216, 3) := by decide +kernel
theorem d_Mo_grow_49 : decode m_Mo_grow.2.1 49 = .ok (.iaload, 1) := by decide +kernel
theorem d_Mo_grow_50 : decode m_Mo_grow.2.1 50 = .ok (.istore 5, 2) := by decide +kernel
theorem d_Mo_grow_52 : decode m_Mo_grow.2.1 52 = .ok (.sipush 160, 3) := by decide +kernel
theorem d_Mo_grow_55 : decode m_Mo_grow.2.1 55 = .ok (.iload_n 1, 1) := by decide +kernel
theorem d_Mo_grow_56 : decode m_Mo_grow.2.1 56 = .ok (.imul, 1) := by decide +kernel
theorem d_Mo_grow_57 : decode m_Mo_grow.2.1 57 = .ok (.aload_n 0, 1) := by decide +kernel
theorem d_Mo_grow_58 : decode m_Mo_grow.2.1 58 = .ok (.getfield 35, 3) := by decide +kernel
theorem d_Mo_grow_61 : decode m_Mo_grow.2.1 61 = .ok (.iload_n 1, 1) := by decide +kernel
theorem d_Mo_grow_62 : decode m_Mo_grow.2.1 62 = .ok (.iaload, 1) := by decide +kernel
theorem d_Mo_grow_63 : decode m_Mo_grow.2.1 63 = .ok (.iadd, 1) := by decide +kernel
theorem d_Mo_grow_64 : decode m_Mo_grow.2.1 64 = .ok (.istore 6, 2) := by decide +kernel
theorem d_Mo_grow_66 : decode m_Mo_grow.2.1 66 = .ok (.aload_n 0, 1) := by decide +kernel
theorem d_Mo_grow_67 : decode m_Mo_grow.2.1 67 = .ok (.getfield 35, 3) := by decide +kernel
theorem d_Mo_grow_70 : decode m_Mo_grow.2.1 70 = .ok (.iload_n 1, 1) := by decide +kernel
theorem d_Mo_grow_71 : decode m_Mo_grow.2.1 71 = .ok (.dup2, 1) := by decide +kernel
theorem d_Mo_grow_72 : decode m_Mo_grow.2.1 72 = .ok (.iaload, 1) := by decide +kernel
theorem d_Mo_grow_73 : decode m_Mo_grow.2.1 73 = .ok (.iconst 1, 1) := by decide +kernel
theorem d_Mo_grow_74 : decode m_Mo_grow.2.1 74 = .ok (.iadd, 1) := by decide +kernel
theorem d_Mo_grow_75 : decode m_Mo_grow.2.1 75 = .ok (.iastore, 1) := by decide +kernel
theorem d_Mo_grow_76 : decode m_Mo_grow.2.1 76 = .ok (.aload_n 0, 1) := by decide +kernel
theorem d_Mo_grow_77 : decode m_Mo_grow.2.1 77 = .ok (.getfield 41, 3) := by decide +kernel
theorem d_Mo_grow_80 : decode m_Mo_grow.2.1 80 = .ok (.iload 6, 2) := by decide +kernel
theorem d_Mo_grow_82 : decode m_Mo_grow.2.1 82 = .ok (.aload_n 0, 1) := by decide +kernel
theorem d_Mo_grow_83 : decode m_Mo_grow.2.1 83 = .ok (.getfield 125, 3) := by decide +kernel
theorem d_Mo_grow_86 : decode m_Mo_grow.2.1 86 = .ok (.aload_n 0, 1) := by decide +kernel
theorem d_Mo_grow_87 : decode m_Mo_grow.2.1 87 = .ok (.getfield 216, 3) := by decide +kernel
theorem d_Mo_grow_90 : decode m_Mo_grow.2.1 90 = .ok (.iaload, 1) := by decide +kernel
theorem d_Mo_grow_91 : decode m_Mo_grow.2.1 91 = .ok (.iastore, 1) := by decide +kernel
theorem d_Mo_grow_92 : decode m_Mo_grow.2.1 92 = .ok (.aload_n 0, 1) := by decide +kernel
theorem d_Mo_grow_93 : decode m_Mo_grow.2.1 93 = .ok (.getfield 44, 3) := by decide +kernel
theorem d_Mo_grow_96 : decode m_Mo_grow.2.1 96 = .ok (.iload 6, 2) := by decide +kernel
theorem d_Mo_grow_98 : decode m_Mo_grow.2.1 98 = .ok (.aload_n 0, 1) := by decide +kernel
theorem d_Mo_grow_99 : decode m_Mo_grow.2.1 99 = .ok (.getfield 128, 3) := by decide +kernel
theorem d_Mo_grow_102 : decode m_Mo_grow.2.1 102 = .ok (.aload_n 0, 1) := by decide +kernel
theorem d_Mo_grow_103 : decode m_Mo_grow.2.1 103 = .ok (.getfield 216, 3) := by decide +kernel
theorem d_Mo_grow_106 : decode m_Mo_grow.2.1 106 = .ok (.iaload, 1) := by decide +kernel
theorem d_Mo_grow_107 : decode m_Mo_grow.2.1 107 = .ok (.iastore, 1) := by decide +kernel
theorem d_Mo_grow_108 : decode m_Mo_grow.2.1 108 = .ok (.aload_n 0, 1) := by decide +kernel
theorem d_Mo_grow_109 : decode m_Mo_grow.2.1 109 = .ok (.getfield 47, 3) := by decide +kernel
theorem d_Mo_grow_112 : decode m_Mo_grow.2.1 112 = .ok (.iload 6, 2) := by decide +kernel
theorem d_Mo_grow_114 : decode m_Mo_grow.2.1 114 = .ok (.aload_n 0, 1) := by decide +kernel
theorem d_Mo_grow_115 : decode m_Mo_grow.2.1 115 = .ok (.getfield 131, 3) := by decide +kernel
theorem d_Mo_grow_118 : decode m_Mo_grow.2.1 118 = .ok (.aload_n 0, 1) := by decide +kernel
theorem d_Mo_grow_119 : decode m_Mo_grow.2.1 119 = .ok (.getfield 216, 3) := by decide +kernel
theorem d_Mo_grow_122 : decode m_Mo_grow.2.1 122 = .ok (.iaload, 1) := by decide +kernel
theorem d_Mo_grow_123 : decode m_Mo_grow.2.1 123 = .ok (.iastore, 1) := by decide +kernel
theorem d_Mo_grow_124 : decode m_Mo_grow.2.1 124 = .ok (.aload_n 0, 1) := by decide +kernel
theorem d_Mo_grow_125 : decode m_Mo_grow.2.1 125 = .ok (.getfield 50, 3) := by decide +kernel
theorem d_Mo_grow_128 : decode m_Mo_grow.2.1 128 = .ok (.iload 6, 2) := by decide +kernel
theorem d_Mo_grow_130 : decode m_Mo_grow.2.1 130 = .ok (.aload_n 0, 1) := by decide +kernel
theorem d_Mo_grow_131 : decode m_Mo_grow.2.1 131 = .ok (.getfield 134, 3) := by decide +kernel
theorem d_Mo_grow_134 : decode m_Mo_grow.2.1 134 = .ok (.aload_n 0, 1) := by decide +kernel
theorem d_Mo_grow_135 : decode m_Mo_grow.2.1 135 = .ok (.getfield 216, 3) := by decide +kernel
theorem d_Mo_grow_138 : decode m_Mo_grow.2.1 138 = .ok (.iaload, 1) := by decide +kernel
theorem d_Mo_grow_139 : decode m_Mo_grow.2.1 139 = .ok (.iastore, 1) := by decide +kernel
theorem d_Mo_grow_140 : decode m_Mo_grow.2.1 140 = .ok (.aload_n 0, 1) := by decide +kernel
theorem d_Mo_grow_141 : decode m_Mo_grow.2.1 141 = .ok (.getfield 56, 3) := by decide +kernel
theorem d_Mo_grow_144 : decode m_Mo_grow.2.1 144 = .ok (.iload 6, 2) := by decide +kernel
theorem d_Mo_grow_146 : decode m_Mo_grow.2.1 146 = .ok (.iconst (-1), 1) := by decide +kernel
theorem d_Mo_grow_147 : decode m_Mo_grow.2.1 147 = .ok (.iastore, 1) := by decide +kernel
theorem d_Mo_grow_148 : decode m_Mo_grow.2.1 148 = .ok (.aload_n 0, 1) := by decide +kernel
theorem d_Mo_grow_149 : decode m_Mo_grow.2.1 149 = .ok (.getfield 59, 3) := by decide +kernel
theorem d_Mo_grow_152 : decode m_Mo_grow.2.1 152 = .ok (.iload 6, 2) := by decide +kernel
theorem d_Mo_grow_154 : decode m_Mo_grow.2.1 154 = .ok (.iconst (-1), 1) := by decide +kernel
theorem d_Mo_grow_155 : decode m_Mo_grow.2.1 155 = .ok (.iastore, 1) := by decide +kernel
theorem d_Mo_grow_156 : decode m_Mo_grow.2.1 156 = .ok (.aload_n 0, 1) := by decide +kernel
theorem d_Mo_grow_157 : decode m_Mo_grow.2.1 157 = .ok (.getfield 62, 3) := by decide +kernel
theorem d_Mo_grow_160 : decode m_Mo_grow.2.1 160 = .ok (.iload 6, 2) := by decide +kernel
theorem d_Mo_grow_162 : decode m_Mo_grow.2.1 162 = .ok (.iconst 0, 1) := by decide +kernel
theorem d_Mo_grow_163 : decode m_Mo_grow.2.1 163 = .ok (.iastore, 1) := by decide +kernel
theorem d_Mo_grow_164 : decode m_Mo_grow.2.1 164 = .ok (.aload_n 0, 1) := by decide +kernel
theorem d_Mo_grow_165 : decode m_Mo_grow.2.1 165 = .ok (.getfield 137, 3) := by decide +kernel
theorem d_Mo_grow_168 : decode m_Mo_grow.2.1 168 = .ok (.aload_n 0, 1) := by decide +kernel
theorem d_Mo_grow_169 : decode m_Mo_grow.2.1 169 = .ok (.getfield 216, 3) := by decide +kernel
theorem d_Mo_grow_172 : decode m_Mo_grow.2.1 172 = .ok (.iaload, 1) := by decide +kernel
theorem d_Mo_grow_173 : decode m_Mo_grow.2.1 173 = .ok (.istore 7, 2) := by decide +kernel
theorem d_Mo_grow_175 : decode m_Mo_grow.2.1 175 = .ok (.iload 7, 2) := by decide +kernel
theorem d_Mo_grow_177 : decode m_Mo_grow.2.1 177 = .ok (.ifCond .lt 109, 3) := by decide +kernel
theorem d_Mo_grow_180 : decode m_Mo_grow.2.1 180 = .ok (.sipush 160, 3) := by decide +kernel
theorem d_Mo_grow_183 : decode m_Mo_grow.2.1 183 = .ok (.iload_n 1, 1) := by decide +kernel
theorem d_Mo_grow_184 : decode m_Mo_grow.2.1 184 = .ok (.imul, 1) := by decide +kernel
theorem d_Mo_grow_185 : decode m_Mo_grow.2.1 185 = .ok (.iload 7, 2) := by decide +kernel
theorem d_Mo_grow_187 : decode m_Mo_grow.2.1 187 = .ok (.iadd, 1) := by decide +kernel
theorem d_Mo_grow_188 : decode m_Mo_grow.2.1 188 = .ok (.iconst 1, 1) := by decide +kernel
theorem d_Mo_grow_189 : decode m_Mo_grow.2.1 189 = .ok (.iadd, 1) := by decide +kernel
theorem d_Mo_grow_190 : decode m_Mo_grow.2.1 190 = .ok (.iload 6, 2) := by decide +kernel
theorem d_Mo_grow_192 : decode m_Mo_grow.2.1 192 = .ok (.if_icmp .ne 7, 3) := by decide +kernel
theorem d_Mo_grow_195 : decode m_Mo_grow.2.1 195 = .ok (.iconst 1, 1) := by decide +kernel
theorem d_Mo_grow_196 : decode m_Mo_grow.2.1 196 = .ok (.goto 4, 3) := by decide +kernel
theorem d_Mo_grow_199 : decode m_Mo_grow.2.1 199 = .ok (.iconst 0, 1) := by decide +kernel
theorem d_Mo_grow_200 : decode m_Mo_grow.2.1 200 = .ok (.istore 8, 2) := by decide +kernel
theorem d_Mo_grow_202 : decode m_Mo_grow.2.1 202 = .ok (.aload_n 0, 1) := by decide +kernel
theorem d_Mo_grow_203 : decode m_Mo_grow.2.1 203 = .ok (.getfield 56, 3) := by decide +kernel
theorem d_Mo_grow_206 : decode m_Mo_grow.2.1 206 = .ok (.sipush 160, 3) := by decide +kernel
theorem d_Mo_grow_209 : decode m_Mo_grow.2.1 209 = .ok (.iload_n 1, 1) := by decide +kernel
theorem d_Mo_grow_210 : decode m_Mo_grow.2.1 210 = .ok (.imul, 1) := by decide +kernel
theorem d_Mo_grow_211 : decode m_Mo_grow.2.1 211 = .ok (.iload 7, 2) := by decide +kernel
theorem d_Mo_grow_213 : decode m_Mo_grow.2.1 213 = .ok (.iadd, 1) := by decide +kernel
theorem d_Mo_grow_214 : decode m_Mo_grow.2.1 214 = .ok (.iload 8, 2) := by decide +kernel
theorem d_Mo_grow_216 : decode m_Mo_grow.2.1 216 = .ok (.ifCond .eq 14, 3) := by decide +kernel
theorem d_Mo_grow_219 : decode m_Mo_grow.2.1 219 = .ok (.iload 6, 2) := by decide +kernel
theorem d_Mo_grow_221 : decode m_Mo_grow.2.1 221 = .ok (.sipush 160, 3) := by decide +kernel
theorem d_Mo_grow_224 : decode m_Mo_grow.2.1 224 = .ok (.iload_n 1, 1) := by decide +kernel
theorem d_Mo_grow_225 : decode m_Mo_grow.2.1 225 = .ok (.imul, 1) := by decide +kernel
theorem d_Mo_grow_226 : decode m_Mo_grow.2.1 226 = .ok (.isub, 1) := by decide +kernel
theorem d_Mo_grow_227 : decode m_Mo_grow.2.1 227 = .ok (.goto 16, 3) := by decide +kernel
theorem d_Mo_grow_230 : decode m_Mo_grow.2.1 230 = .ok (.aload_n 0, 1) := by decide +kernel
theorem d_Mo_grow_231 : decode m_Mo_grow.2.1 231 = .ok (.getfield 56, 3) := by decide +kernel
theorem d_Mo_grow_234 : decode m_Mo_grow.2.1 234 = .ok (.sipush 160, 3) := by decide +kernel
theorem d_Mo_grow_237 : decode m_Mo_grow.2.1 237 = .ok (.iload_n 1, 1) := by decide +kernel
theorem d_Mo_grow_238 : decode m_Mo_grow.2.1 238 = .ok (.imul, 1) := by decide +kernel
theorem d_Mo_grow_239 : decode m_Mo_grow.2.1 239 = .ok (.iload 7, 2) := by decide +kernel
theorem d_Mo_grow_241 : decode m_Mo_grow.2.1 241 = .ok (.iadd, 1) := by decide +kernel
theorem d_Mo_grow_242 : decode m_Mo_grow.2.1 242 = .ok (.iaload, 1) := by decide +kernel
theorem d_Mo_grow_243 : decode m_Mo_grow.2.1 243 = .ok (.iastore, 1) := by decide +kernel
theorem d_Mo_grow_244 : decode m_Mo_grow.2.1 244 = .ok (.aload_n 0, 1) := by decide +kernel
theorem d_Mo_grow_245 : decode m_Mo_grow.2.1 245 = .ok (.getfield 59, 3) := by decide +kernel
theorem d_Mo_grow_248 : decode m_Mo_grow.2.1 248 = .ok (.sipush 160, 3) := by decide +kernel
theorem d_Mo_grow_251 : decode m_Mo_grow.2.1 251 = .ok (.iload_n 1, 1) := by decide +kernel
theorem d_Mo_grow_252 : decode m_Mo_grow.2.1 252 = .ok (.imul, 1) := by decide +kernel
theorem d_Mo_grow_253 : decode m_Mo_grow.2.1 253 = .ok (.iload 7, 2) := by decide +kernel
theorem d_Mo_grow_255 : decode m_Mo_grow.2.1 255 = .ok (.iadd, 1) := by decide +kernel
theorem d_Mo_grow_256 : decode m_Mo_grow.2.1 256 = .ok (.iload 8, 2) := by decide +kernel
theorem d_Mo_grow_258 : decode m_Mo_grow.2.1 258 = .ok (.ifCond .eq 19, 3) := by decide +kernel
theorem d_Mo_grow_261 : decode m_Mo_grow.2.1 261 = .ok (.aload_n 0, 1) := by decide +kernel
theorem d_Mo_grow_262 : decode m_Mo_grow.2.1 262 = .ok (.getfield 59, 3) := by decide +kernel
theorem d_Mo_grow_265 : decode m_Mo_grow.2.1 265 = .ok (.sipush 160, 3) := by decide +kernel
theorem d_Mo_grow_268 : decode m_Mo_grow.2.1 268 = .ok (.iload_n 1, 1) := by decide +kernel
theorem d_Mo_grow_269 : decode m_Mo_grow.2.1 269 = .ok (.imul, 1) := by decide +kernel
theorem d_Mo_grow_270 : decode m_Mo_grow.2.1 270 = .ok (.iload 7, 2) := by decide +kernel
theorem d_Mo_grow_272 : decode m_Mo_grow.2.1 272 = .ok (.iadd, 1) := by decide +kernel
theorem d_Mo_grow_273 : decode m_Mo_grow.2.1 273 = .ok (.iaload, 1) := by decide +kernel
theorem d_Mo_grow_274 : decode m_Mo_grow.2.1 274 = .ok (.goto 11, 3) := by decide +kernel
theorem d_Mo_grow_277 : decode m_Mo_grow.2.1 277 = .ok (.iload 6, 2) := by decide +kernel
theorem d_Mo_grow_279 : decode m_Mo_grow.2.1 279 = .ok (.sipush 160, 3) := by decide +kernel
theorem d_Mo_grow_282 : decode m_Mo_grow.2.1 282 = .ok (.iload_n 1, 1) := by decide +kernel
theorem d_Mo_grow_283 : decode m_Mo_grow.2.1 283 = .ok (.imul, 1) := by decide +kernel
theorem d_Mo_grow_284 : decode m_Mo_grow.2.1 284 = .ok (.isub, 1) := by decide +kernel
theorem d_Mo_grow_285 : decode m_Mo_grow.2.1 285 = .ok (.iastore, 1) := by decide +kernel
theorem d_Mo_grow_286 : decode m_Mo_grow.2.1 286 = .ok (.aload_n 0, 1) := by decide +kernel
theorem d_Mo_grow_287 : decode m_Mo_grow.2.1 287 = .ok (.iload_n 2, 1) := by decide +kernel
theorem d_Mo_grow_288 : decode m_Mo_grow.2.1 288 = .ok (.iload_n 3, 1) := by decide +kernel
theorem d_Mo_grow_289 : decode m_Mo_grow.2.1 289 = .ok (.iload 4, 2) := by decide +kernel
theorem d_Mo_grow_291 : decode m_Mo_grow.2.1 291 = .ok (.iload 5, 2) := by decide +kernel
theorem d_Mo_grow_293 : decode m_Mo_grow.2.1 293 = .ok (.invokevirtual 222, 3) := by decide +kernel
theorem d_Mo_grow_296 : decode m_Mo_grow.2.1 296 = .ok (.istore 8, 2) := by decide +kernel
theorem d_Mo_grow_298 : decode m_Mo_grow.2.1 298 = .ok (.iload_n 2, 1) := by decide +kernel
theorem d_Mo_grow_299 : decode m_Mo_grow.2.1 299 = .ok (.iconst 3, 1) := by decide +kernel
theorem d_Mo_grow_300 : decode m_Mo_grow.2.1 300 = .ok (.if_icmp .ge 79, 3) := by decide +kernel
theorem d_Mo_grow_303 : decode m_Mo_grow.2.1 303 = .ok (.iload 8, 2) := by decide +kernel
theorem d_Mo_grow_305 : decode m_Mo_grow.2.1 305 = .ok (.ifCond .le 74, 3) := by decide +kernel
theorem d_Mo_grow_308 : decode m_Mo_grow.2.1 308 = .ok (.iload 8, 2) := by decide +kernel
theorem d_Mo_grow_310 : decode m_Mo_grow.2.1 310 = .ok (.iload_n 2, 1) := by decide +kernel
theorem d_Mo_grow_311 : decode m_Mo_grow.2.1 311 = .ok (.iconst 1, 1) := by decide +kernel
theorem d_Mo_grow_312 : decode m_Mo_grow.2.1 312 = .ok (.if_icmp .ne 13, 3) := by decide +kernel
theorem d_Mo_grow_315 : decode m_Mo_grow.2.1 315 = .ok (.aload_n 0, 1) := by decide +kernel
theorem d_Mo_grow_316 : decode m_Mo_grow.2.1 316 = .ok (.getfield 50, 3) := by decide +kernel
theorem d_Mo_grow_319 : decode m_Mo_grow.2.1 319 = .ok (.iload 6, 2) := by decide +kernel
theorem d_Mo_grow_321 : decode m_Mo_grow.2.1 321 = .ok (.iaload, 1) := by decide +kernel
theorem d_Mo_grow_322 : decode m_Mo_grow.2.1 322 = .ok (.goto 10, 3) := by decide +kernel
theorem d_Mo_grow_325 : decode m_Mo_grow.2.1 325 = .ok (.aload_n 0, 1) := by decide +kernel
theorem d_Mo_grow_326 : decode m_Mo_grow.2.1 326 = .ok (.getfield 47, 3) := by decide +kernel
theorem d_Mo_grow_329 : decode m_Mo_grow.2.1 329 = .ok (.iload 6, 2) := by decide +kernel
theorem d_Mo_grow_331 : decode m_Mo_grow.2.1 331 = .ok (.iaload, 1) := by decide +kernel
theorem d_Mo_grow_332 : decode m_Mo_grow.2.1 332 = .ok (.if_icmp .ne 47, 3) := by decide +kernel
theorem d_Mo_grow_335 : decode m_Mo_grow.2.1 335 = .ok (.iinc 2 1, 3) := by decide +kernel
theorem d_Mo_grow_338 : decode m_Mo_grow.2.1 338 = .ok (.iload_n 2, 1) := by decide +kernel
theorem d_Mo_grow_339 : decode m_Mo_grow.2.1 339 = .ok (.iconst 1, 1) := by decide +kernel
theorem d_Mo_grow_340 : decode m_Mo_grow.2.1 340 = .ok (.if_icmp .ne 7, 3) := by decide +kernel
theorem d_Mo_grow_343 : decode m_Mo_grow.2.1 343 = .ok (.iconst 0, 1) := by decide +kernel
theorem d_Mo_grow_344 : decode m_Mo_grow.2.1 344 = .ok (.goto 5, 3) := by decide +kernel
theorem d_Mo_grow_347 : decode m_Mo_grow.2.1 347 = .ok (.iload 4, 2) := by decide +kernel
theorem d_Mo_grow_349 : decode m_Mo_grow.2.1 349 = .ok (.istore 4, 2) := by decide +kernel
theorem d_Mo_grow_351 : decode m_Mo_grow.2.1 351 = .ok (.iload_n 2, 1) := by decide +kernel
theorem d_Mo_grow_352 : decode m_Mo_grow.2.1 352 = .ok (.iconst 2, 1) := by decide +kernel
theorem d_Mo_grow_353 : decode m_Mo_grow.2.1 353 = .ok (.if_icmp .ne 7, 3) := by decide +kernel
theorem d_Mo_grow_356 : decode m_Mo_grow.2.1 356 = .ok (.iconst 0, 1) := by decide +kernel
theorem d_Mo_grow_357 : decode m_Mo_grow.2.1 357 = .ok (.goto 5, 3) := by decide +kernel
theorem d_Mo_grow_360 : decode m_Mo_grow.2.1 360 = .ok (.iload 5, 2) := by decide +kernel
theorem d_Mo_grow_362 : decode m_Mo_grow.2.1 362 = .ok (.istore 5, 2) := by decide +kernel
theorem d_Mo_grow_364 : decode m_Mo_grow.2.1 364 = .ok (.aload_n 0, 1) := by decide +kernel
theorem d_Mo_grow_365 : decode m_Mo_grow.2.1 365 = .ok (.iload_n 2, 1) := by decide +kernel
theorem d_Mo_grow_366 : decode m_Mo_grow.2.1 366 = .ok (.iload_n 3, 1) := by decide +kernel
theorem d_Mo_grow_367 : decode m_Mo_grow.2.1 367 = .ok (.iload 4, 2) := by decide +kernel
theorem d_Mo_grow_369 : decode m_Mo_grow.2.1 369 = .ok (.iload 5, 2) := by decide +kernel
theorem d_Mo_grow_371 : decode m_Mo_grow.2.1 371 = .ok (.invokevirtual 222, 3) := by decide +kernel
theorem d_Mo_grow_374 : decode m_Mo_grow.2.1 374 = .ok (.istore 8, 2) := by decide +kernel
theorem d_Mo_grow_376 : decode m_Mo_grow.2.1 376 = .ok (.goto (-78), 3) := by decide +kernel
theorem d_Mo_grow_379 : decode m_Mo_grow.2.1 379 = .ok (.iload 8, 2) := by decide +kernel
theorem d_Mo_grow_381 : decode m_Mo_grow.2.1 381 = .ok (.ifCond .ne 22, 3) := by decide +kernel
theorem d_Mo_grow_384 : decode m_Mo_grow.2.1 384 = .ok (.aload_n 0, 1) := by decide +kernel
theorem d_Mo_grow_385 : decode m_Mo_grow.2.1 385 = .ok (.getfield 38, 3) := by decide +kernel
theorem d_Mo_grow_388 : decode m_Mo_grow.2.1 388 = .ok (.iload 6, 2) := by decide +kernel
theorem d_Mo_grow_390 : decode m_Mo_grow.2.1 390 = .ok (.iconst 3, 1) := by decide +kernel
theorem d_Mo_grow_391 : decode m_Mo_grow.2.1 391 = .ok (.iastore, 1) := by decide +kernel
theorem d_Mo_grow_392 : decode m_Mo_grow.2.1 392 = .ok (.aload_n 0, 1) := by decide +kernel
theorem d_Mo_grow_393 : decode m_Mo_grow.2.1 393 = .ok (.getfield 53, 3) := by decide +kernel
theorem d_Mo_grow_396 : decode m_Mo_grow.2.1 396 = .ok (.iload 6, 2) := by decide +kernel
theorem d_Mo_grow_398 : decode m_Mo_grow.2.1 398 = .ok (.iconst (-1), 1) := by decide +kernel
theorem d_Mo_grow_399 : decode m_Mo_grow.2.1 399 = .ok (.iastore, 1) := by decide +kernel
theorem d_Mo_grow_400 : decode m_Mo_grow.2.1 400 = .ok (.goto 65, 3) := by decide +kernel
theorem d_Mo_grow_403 : decode m_Mo_grow.2.1 403 = .ok (.iload_n 2, 1) := by decide +kernel
theorem d_Mo_grow_404 : decode m_Mo_grow.2.1 404 = .ok (.iconst 3, 1) := by decide +kernel
theorem d_Mo_grow_405 : decode m_Mo_grow.2.1 405 = .ok (.if_icmp .ne 47, 3) := by decide +kernel
theorem d_Mo_grow_408 : decode m_Mo_grow.2.1 408 = .ok (.iload 8, 2) := by decide +kernel
theorem d_Mo_grow_410 : decode m_Mo_grow.2.1 410 = .ok (.aload_n 0, 1) := by decide +kernel
theorem d_Mo_grow_411 : decode m_Mo_grow.2.1 411 = .ok (.getfield 50, 3) := by decide +kernel
theorem d_Mo_grow_414 : decode m_Mo_grow.2.1 414 = .ok (.iload 6, 2) := by decide +kernel
theorem d_Mo_grow_416 : decode m_Mo_grow.2.1 416 = .ok (.iaload, 1) := by decide +kernel
theorem d_Mo_grow_417 : decode m_Mo_grow.2.1 417 = .ok (.if_icmp .ne 35, 3) := by decide +kernel
theorem d_Mo_grow_420 : decode m_Mo_grow.2.1 420 = .ok (.aload_n 0, 1) := by decide +kernel
theorem d_Mo_grow_421 : decode m_Mo_grow.2.1 421 = .ok (.getfield 38, 3) := by decide +kernel
theorem d_Mo_grow_424 : decode m_Mo_grow.2.1 424 = .ok (.iload 6, 2) := by decide +kernel
theorem d_Mo_grow_426 : decode m_Mo_grow.2.1 426 = .ok (.iconst 2, 1) := by decide +kernel
theorem d_Mo_grow_427 : decode m_Mo_grow.2.1 427 = .ok (.iastore, 1) := by decide +kernel
theorem d_Mo_grow_428 : decode m_Mo_grow.2.1 428 = .ok (.aload_n 0, 1) := by decide +kernel
theorem d_Mo_grow_429 : decode m_Mo_grow.2.1 429 = .ok (.getfield 53, 3) := by decide +kernel
theorem d_Mo_grow_432 : decode m_Mo_grow.2.1 432 = .ok (.iload 6, 2) := by decide +kernel
theorem d_Mo_grow_434 : decode m_Mo_grow.2.1 434 = .ok (.aload_n 0, 1) := by decide +kernel
theorem d_Mo_grow_435 : decode m_Mo_grow.2.1 435 = .ok (.getfield 95, 3) := by decide +kernel
theorem d_Mo_grow_438 : decode m_Mo_grow.2.1 438 = .ok (.aload_n 0, 1) := by decide +kernel
theorem d_Mo_grow_439 : decode m_Mo_grow.2.1 439 = .ok (.iload_n 3, 1) := by decide +kernel
theorem d_Mo_grow_440 : decode m_Mo_grow.2.1 440 = .ok (.iload 4, 2) := by decide +kernel
theorem d_Mo_grow_442 : decode m_Mo_grow.2.1 442 = .ok (.iload 5, 2) := by decide +kernel
theorem d_Mo_grow_444 : decode m_Mo_grow.2.1 444 = .ok (.invokevirtual 219, 3) := by decide +kernel
theorem d_Mo_grow_447 : decode m_Mo_grow.2.1 447 = .ok (.iaload, 1) := by decide +kernel
theorem d_Mo_grow_448 : decode m_Mo_grow.2.1 448 = .ok (.iastore, 1) := by decide +kernel
theorem d_Mo_grow_449 : decode m_Mo_grow.2.1 449 = .ok (.goto 16, 3) := by decide +kernel
theorem d_Mo_grow_452 : decode m_Mo_grow.2.1 452 = .ok (.aload_n 0, 1) := by decide +kernel
theorem d_Mo_grow_453 : decode m_Mo_grow.2.1 453 = .ok (.iload_n 1, 1) := by decide +kernel
theorem d_Mo_grow_454 : decode m_Mo_grow.2.1 454 = .ok (.iload 6, 2) := by decide +kernel
theorem d_Mo_grow_456 : decode m_Mo_grow.2.1 456 = .ok (.iload_n 2, 1) := by decide +kernel
theorem d_Mo_grow_457 : decode m_Mo_grow.2.1 457 = .ok (.iload_n 3, 1) := by decide +kernel
theorem d_Mo_grow_458 : decode m_Mo_grow.2.1 458 = .ok (.iload 4, 2) := by decide +kernel
theorem d_Mo_grow_460 : decode m_Mo_grow.2.1 460 = .ok (.iload 5, 2) := by decide +kernel
theorem d_Mo_grow_462 : decode m_Mo_grow.2.1 462 = .ok (.invokevirtual 226, 3) := by decide +kernel
theorem d_Mo_grow_465 : decode m_Mo_grow.2.1 465 = .ok (.return_, 1) := by decide +kernel
theorem d_Mo_reach_0 : decode m_Mo_reach.2.1 0 = .ok (.iload_n 1, 1) := by decide +kernel
theorem d_Mo_reach_1 : decode m_Mo_reach.2.1 1 = .ok (.iconst 1, 1) := by decide +kernel
theorem d_Mo_reach_2 : decode m_Mo_reach.2.1 2 = .ok (.if_icmp .le 19, 3) := by decide +kernel
theorem d_Mo_reach_5 : decode m_Mo_reach.2.1 5 = .ok (.iload_n 1, 1) := by decide +kernel
theorem d_Mo_reach_6 : decode m_Mo_reach.2.1 6 = .ok (.iconst 4, 1) := by decide +kernel
theorem d_Mo_reach_7 : decode m_Mo_reach.2.1 7 = .ok (.if_icmp .ge 14, 3) := by decide +kernel
theorem d_Mo_reach_10 : decode m_Mo_reach.2.1 10 = .ok (.aload_n 0, 1) := by decide +kernel
theorem d_Mo_reach_11 : decode m_Mo_reach.2.1 11 = .ok (.iload_n 2, 1) := by decide +kernel
theorem d_Mo_reach_12 : decode m_Mo_reach.2.1 12 = .ok (.iload_n 3, 1) := by decide +kernel
theorem d_Mo_reach_13 : decode m_Mo_reach.2.1 13 = .ok (.iload 4, 2) := by decide +kernel
theorem d_Mo_reach_15 : decode m_Mo_reach.2.1 15 = .ok (.invokevirtual 219, 3) := by decide +kernel
theorem d_Mo_reach_18 : decode m_Mo_reach.2.1 18 = .ok (.goto 4, 3) := by decide +kernel
theorem d_Mo_reach_21 : decode m_Mo_reach.2.1 21 = .ok (.iconst (-1), 1) := by decide +kernel
theorem d_Mo_reach_22 : decode m_Mo_reach.2.1 22 = .ok (.istore 5, 2) := by decide +kernel
theorem d_Mo_reach_24 : decode m_Mo_reach.2.1 24 = .ok (.iload_n 1, 1) := by decide +kernel
theorem d_Mo_reach_25 : decode m_Mo_reach.2.1 25 = .ok (.ifCond .ne 9, 3) := by decide +kernel
theorem d_Mo_reach_28 : decode m_Mo_reach.2.1 28 = .ok (.aload_n 0, 1) := by decide +kernel
theorem d_Mo_reach_29 : decode m_Mo_reach.2.1 29 = .ok (.iload_n 2, 1) := by decide +kernel
theorem d_Mo_reach_30 : decode m_Mo_reach.2.1 30 = .ok (.invokevirtual 183, 3) := by decide +kernel
theorem d_Mo_reach_33 : decode m_Mo_reach.2.1 33 = .ok (.ireturn, 1) := by decide +kernel
theorem d_Mo_reach_34 : decode m_Mo_reach.2.1 34 = .ok (.iload_n 1, 1) := by decide +kernel
theorem d_Mo_reach_35 : decode m_Mo_reach.2.1 35 = .ok (.iconst 1, 1) := by decide +kernel
theorem d_Mo_reach_36 : decode m_Mo_reach.2.1 36 = .ok (.if_icmp .ne 10, 3) := by decide +kernel
theorem d_Mo_reach_39 : decode m_Mo_reach.2.1 39 = .ok (.aload_n 0, 1) := by decide +kernel
theorem d_Mo_reach_40 : decode m_Mo_reach.2.1 40 = .ok (.iload_n 2, 1) := by decide +kernel
theorem d_Mo_reach_41 : decode m_Mo_reach.2.1 41 = .ok (.iload_n 3, 1) := by decide +kernel
theorem d_Mo_reach_42 : decode m_Mo_reach.2.1 42 = .ok (.invokevirtual 189, 3) := by decide +kernel
theorem d_Mo_reach_45 : decode m_Mo_reach.2.1 45 = .ok (.ireturn, 1) := by decide +kernel
theorem d_Mo_reach_46 : decode m_Mo_reach.2.1 46 = .ok (.iload 5, 2) := by decide +kernel
