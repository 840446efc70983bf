theorem d_Ha_init_0 : decode m_Ha_init.2.1 0 = .ok (.aload_n 0, 1) := by decide +kernel
theorem d_Ha_init_1 : decode m_Ha_init.2.1 1 = .ok (.invokespecial 3, 3) := by decide +kernel
theorem d_Ha_init_4 : decode m_Ha_init.2.1 4 = .ok (.aload_n 0, 1) := by decide +kernel
theorem d_Ha_init_5 : decode m_Ha_init.2.1 5 = .ok (.bipush 8, 2) := by decide +kernel
theorem d_Ha_init_7 : decode m_Ha_init.2.1 7 = .ok (.anewarray 9, 3) := by decide +kernel
theorem d_Ha_init_10 : decode m_Ha_init.2.1 10 = .ok (.putfield 11, 3) := by decide +kernel
theorem d_Ha_init_13 : decode m_Ha_init.2.1 13 = .ok (.aload_n 0, 1) := by decide +kernel
theorem d_Ha_init_14 : decode m_Ha_init.2.1 14 = .ok (.new 15, 3) := by decide +kernel
theorem d_Ha_init_17 : decode m_Ha_init.2.1 17 = .ok (.dup, 1) := by decide +kernel
theorem d_Ha_init_18 : decode m_Ha_init.2.1 18 = .ok (.invokespecial 17, 3) := by decide +kernel
theorem d_Ha_init_21 : decode m_Ha_init.2.1 21 = .ok (.putfield 18, 3) := by decide +kernel
theorem d_Ha_init_24 : decode m_Ha_init.2.1 24 = .ok (.aload_n 0, 1) := by decide +kernel
theorem d_Ha_init_25 : decode m_Ha_init.2.1 25 = .ok (.new 22, 3) := by decide +kernel
theorem d_Ha_init_28 : decode m_Ha_init.2.1 28 = .ok (.dup, 1) := by decide +kernel
theorem d_Ha_init_29 : decode m_Ha_init.2.1 29 = .ok (.invokespecial 24, 3) := by decide +kernel
theorem d_Ha_init_32 : decode m_Ha_init.2.1 32 = .ok (.putfield 25, 3) := by decide +kernel
theorem d_Ha_init_35 : decode m_Ha_init.2.1 35 = .ok (.aload_n 0, 1) := by decide +kernel
theorem d_Ha_init_36 : decode m_Ha_init.2.1 36 = .ok (.new 29, 3) := by decide +kernel
theorem d_Ha_init_39 : decode m_Ha_init.2.1 39 = .ok (.dup, 1) := by decide +kernel
theorem d_Ha_init_40 : decode m_Ha_init.2.1 40 = .ok (.invokespecial 31, 3) := by decide +kernel
theorem d_Ha_init_43 : decode m_Ha_init.2.1 43 = .ok (.putfield 32, 3) := by decide +kernel
theorem d_Ha_init_46 : decode m_Ha_init.2.1 46 = .ok (.aload_n 0, 1) := by decide +kernel
theorem d_Ha_init_47 : decode m_Ha_init.2.1 47 = .ok (.new 36, 3) := by decide +kernel
theorem d_Ha_init_50 : decode m_Ha_init.2.1 50 = .ok (.dup, 1) := by decide +kernel
theorem d_Ha_init_51 : decode m_Ha_init.2.1 51 = .ok (.aload_n 0, 1) := by decide +kernel
theorem d_Ha_init_52 : decode m_Ha_init.2.1 52 = .ok (.getfield 18, 3) := by decide +kernel
theorem d_Ha_init_55 : decode m_Ha_init.2.1 55 = .ok (.aload_n 0, 1) := by decide +kernel
theorem d_Ha_init_56 : decode m_Ha_init.2.1 56 = .ok (.getfield 32, 3) := by decide +kernel
theorem d_Ha_init_59 : decode m_Ha_init.2.1 59 = .ok (.invokespecial 38, 3) := by decide +kernel
theorem d_Ha_init_62 : decode m_Ha_init.2.1 62 = .ok (.putfield 41, 3) := by decide +kernel
theorem d_Ha_init_65 : decode m_Ha_init.2.1 65 = .ok (.aload_n 0, 1) := by decide +kernel
theorem d_Ha_init_66 : decode m_Ha_init.2.1 66 = .ok (.new 45, 3) := by decide +kernel
theorem d_Ha_init_69 : decode m_Ha_init.2.1 69 = .ok (.dup, 1) := by decide +kernel
theorem d_Ha_init_70 : decode m_Ha_init.2.1 70 = .ok (.aload_n 0, 1) := by decide +kernel
theorem d_Ha_init_71 : decode m_Ha_init.2.1 71 = .ok (.getfield 18, 3) := by decide +kernel
theorem d_Ha_init_74 : decode m_Ha_init.2.1 74 = .ok (.aload_n 0, 1) := by decide +kernel
theorem d_Ha_init_75 : decode m_Ha_init.2.1 75 = .ok (.getfield 32, 3) := by decide +kernel
theorem d_Ha_init_78 : decode m_Ha_init.2.1 78 = .ok (.invokespecial 47, 3) := by decide +kernel
theorem d_Ha_init_81 : decode m_Ha_init.2.1 81 = .ok (.putfield 48, 3) := by decide +kernel
theorem d_Ha_init_84 : decode m_Ha_init.2.1 84 = .ok (.iconst 0, 1) := by decide +kernel
theorem d_Ha_init_85 : decode m_Ha_init.2.1 85 = .ok (.istore_n 1, 1) := by decide +kernel
theorem d_Ha_init_86 : decode m_Ha_init.2.1 86 = .ok (.iload_n 1, 1) := by decide +kernel
theorem d_Ha_init_87 : decode m_Ha_init.2.1 87 = .ok (.bipush 8, 2) := by decide +kernel
theorem d_Ha_init_89 : decode m_Ha_init.2.1 89 = .ok (.if_icmp .ge 22, 3) := by decide +kernel
theorem d_Ha_init_92 : decode m_Ha_init.2.1 92 = .ok (.aload_n 0, 1) := by decide +kernel
theorem d_Ha_init_93 : decode m_Ha_init.2.1 93 = .ok (.getfield 11, 3) := by decide +kernel
theorem d_Ha_init_96 : decode m_Ha_init.2.1 96 = .ok (.iload_n 1, 1) := by decide +kernel
theorem d_Ha_init_97 : decode m_Ha_init.2.1 97 = .ok (.new 9, 3) := by decide +kernel
theorem d_Ha_init_100 : decode m_Ha_init.2.1 100 = .ok (.dup, 1) := by decide +kernel
theorem d_Ha_init_101 : decode m_Ha_init.2.1 101 = .ok (.invokespecial 52, 3) := by decide +kernel
theorem d_Ha_init_104 : decode m_Ha_init.2.1 104 = .ok (.aastore, 1) := by decide +kernel
theorem d_Ha_init_105 : decode m_Ha_init.2.1 105 = .ok (.iinc 1 1, 3) := by decide +kernel
theorem d_Ha_init_108 : decode m_Ha_init.2.1 108 = .ok (.goto (-22), 3) := by decide +kernel
theorem d_Ha_init_111 : decode m_Ha_init.2.1 111 = .ok (.return_, 1) := by decide +kernel
theorem d_Bk_init_0 : decode m_Bk_init.2.1 0 = .ok (.aload_n 0, 1) := by decide +kernel
theorem d_Bk_init_1 : decode m_Bk_init.2.1 1 = .ok (.invokespecial 3, 3) := by decide +kernel
theorem d_Bk_init_4 : decode m_Bk_init.2.1 4 = .ok (.aload_n 0, 1) := by decide +kernel
theorem d_Bk_init_5 : decode m_Bk_init.2.1 5 = .ok (.bipush 6, 2) := by decide +kernel
theorem d_Bk_init_7 : decode m_Bk_init.2.1 7 = .ok (.anewarray 9, 3) := by decide +kernel
theorem d_Bk_init_10 : decode m_Bk_init.2.1 10 = .ok (.putfield 11, 3) := by decide +kernel
theorem d_Bk_init_13 : decode m_Bk_init.2.1 13 = .ok (.aload_n 0, 1) := by decide +kernel
theorem d_Bk_init_14 : decode m_Bk_init.2.1 14 = .ok (.bipush 6, 2) := by decide +kernel
theorem d_Bk_init_16 : decode m_Bk_init.2.1 16 = .ok (.newarray .int, 2) := by decide +kernel
theorem d_Bk_init_18 : decode m_Bk_init.2.1 18 = .ok (.putfield 17, 3) := by decide +kernel
theorem d_Bk_init_21 : decode m_Bk_init.2.1 21 = .ok (.return_, 1) := by decide +kernel
theorem d_Rk_init_0 : decode m_Rk_init.2.1 0 = .ok (.aload_n 0, 1) := by decide +kernel
theorem d_Rk_init_1 : decode m_Rk_init.2.1 1 = .ok (.invokespecial 3, 3) := by decide +kernel
theorem d_Rk_init_4 : decode m_Rk_init.2.1 4 = .ok (.aload_n 0, 1) := by decide +kernel
theorem d_Rk_init_5 : decode m_Rk_init.2.1 5 = .ok (.bipush 10, 2) := by decide +kernel
theorem d_Rk_init_7 : decode m_Rk_init.2.1 7 = .ok (.anewarray 9, 3) := by decide +kernel
theorem d_Rk_init_10 : decode m_Rk_init.2.1 10 = .ok (.putfield 11, 3) := by decide +kernel
theorem d_Rk_init_13 : decode m_Rk_init.2.1 13 = .ok (.iconst 0, 1) := by decide +kernel
theorem d_Rk_init_14 : decode m_Rk_init.2.1 14 = .ok (.istore_n 1, 1) := by decide +kernel
theorem d_Rk_init_15 : decode m_Rk_init.2.1 15 = .ok (.iload_n 1, 1) := by decide +kernel
theorem d_Rk_init_16 : decode m_Rk_init.2.1 16 = .ok (.bipush 10, 2) := by decide +kernel
theorem d_Rk_init_18 : decode m_Rk_init.2.1 18 = .ok (.if_icmp .ge 22, 3) := by decide +kernel
theorem d_Rk_init_21 : decode m_Rk_init.2.1 21 = .ok (.aload_n 0, 1) := by decide +kernel
theorem d_Rk_init_22 : decode m_Rk_init.2.1 22 = .ok (.getfield 11, 3) := by decide +kernel
theorem d_Rk_init_25 : decode m_Rk_init.2.1 25 = .ok (.iload_n 1, 1) := by decide +kernel
theorem d_Rk_init_26 : decode m_Rk_init.2.1 26 = .ok (.new 9, 3) := by decide +kernel
theorem d_Rk_init_29 : decode m_Rk_init.2.1 29 = .ok (.dup, 1) := by decide +kernel
theorem d_Rk_init_30 : decode m_Rk_init.2.1 30 = .ok (.invokespecial 17, 3) := by decide +kernel
theorem d_Rk_init_33 : decode m_Rk_init.2.1 33 = .ok (.aastore, 1) := by decide +kernel
theorem d_Rk_init_34 : decode m_Rk_init.2.1 34 = .ok (.iinc 1 1, 3) := by decide +kernel
theorem d_Rk_init_37 : decode m_Rk_init.2.1 37 = .ok (.goto (-22), 3) := by decide +kernel
theorem d_Rk_init_40 : decode m_Rk_init.2.1 40 = .ok (.return_, 1) := by decide +kernel
theorem d_Gl_init_0 : decode m_Gl_init.2.1 0 = .ok (.aload_n 0, 1) := by decide +kernel
theorem d_Gl_init_1 : decode m_Gl_init.2.1 1 = .ok (.invokespecial 3, 3) := by decide +kernel
theorem d_Gl_init_4 : decode m_Gl_init.2.1 4 = .ok (.aload_n 0, 1) := by decide +kernel
theorem d_Gl_init_5 : decode m_Gl_init.2.1 5 = .ok (.bipush 6, 2) := by decide +kernel
theorem d_Gl_init_7 : decode m_Gl_init.2.1 7 = .ok (.newarray .int, 2) := by decide +kernel
theorem d_Gl_init_9 : decode m_Gl_init.2.1 9 = .ok (.putfield 9, 3) := by decide +kernel
theorem d_Gl_init_12 : decode m_Gl_init.2.1 12 = .ok (.aload_n 0, 1) := by decide +kernel
theorem d_Gl_init_13 : decode m_Gl_init.2.1 13 = .ok (.bipush 6, 2) := by decide +kernel
theorem d_Gl_init_15 : decode m_Gl_init.2.1 15 = .ok (.newarray .int, 2) := by decide +kernel
theorem d_Gl_init_17 : decode m_Gl_init.2.1 17 = .ok (.putfield 15, 3) := by decide +kernel
theorem d_Gl_init_20 : decode m_Gl_init.2.1 20 = .ok (.aload_n 0, 1) := by decide +kernel
theorem d_Gl_init_21 : decode m_Gl_init.2.1 21 = .ok (.bipush 6, 2) := by decide +kernel
theorem d_Gl_init_23 : decode m_Gl_init.2.1 23 = .ok (.newarray .int, 2) := by decide +kernel
theorem d_Gl_init_25 : decode m_Gl_init.2.1 25 = .ok (.putfield 18, 3) := by decide +kernel
theorem d_Gl_init_28 : decode m_Gl_init.2.1 28 = .ok (.aload_n 0, 1) := by decide +kernel
theorem d_Gl_init_29 : decode m_Gl_init.2.1 29 = .ok (.bipush 6, 2) := by decide +kernel
theorem d_Gl_init_31 : decode m_Gl_init.2.1 31 = .ok (.newarray .int, 2) := by decide +kernel
theorem d_Gl_init_33 : decode m_Gl_init.2.1 33 = .ok (.putfield 21, 3) := by decide +kernel
theorem d_Gl_init_36 : decode m_Gl_init.2.1 36 = .ok (.return_, 1) := by decide +kernel
theorem d_La_init_0 : decode m_La_init.2.1 0 = .ok (.aload_n 0, 1) := by decide +kernel
theorem d_La_init_1 : decode m_La_init.2.1 1 = .ok (.invokespecial 3, 3) := by decide +kernel
theorem d_La_init_4 : decode m_La_init.2.1 4 = .ok (.aload_n 0, 1) := by decide +kernel
theorem d_La_init_5 : decode m_La_init.2.1 5 = .ok (.bipush 36, 2) := by decide +kernel
theorem d_La_init_7 : decode m_La_init.2.1 7 = .ok (.newarray .int, 2) := by decide +kernel
theorem d_La_init_9 : decode m_La_init.2.1 9 = .ok (.putfield 9, 3) := by decide +kernel
theorem d_La_init_12 : decode m_La_init.2.1 12 = .ok (.aload_n 0, 1) := by decide +kernel
theorem d_La_init_13 : decode m_La_init.2.1 13 = .ok (.bipush 36, 2) := by decide +kernel
theorem d_La_init_15 : decode m_La_init.2.1 15 = .ok (.newarray .int, 2) := by decide +kernel
theorem d_La_init_17 : decode m_La_init.2.1 17 = .ok (.putfield 15, 3) := by decide +kernel
theorem d_La_init_20 : decode m_La_init.2.1 20 = .ok (.aload_n 0, 1) := by decide +kernel
theorem d_La_init_21 : decode m_La_init.2.1 21 = .ok (.bipush 36, 2) := by decide +kernel
theorem d_La_init_23 : decode m_La_init.2.1 23 = .ok (.newarray .int, 2) := by decide +kernel
theorem d_La_init_25 : decode m_La_init.2.1 25 = .ok (.putfield 18, 3) := by decide +kernel
theorem d_La_init_28 : decode m_La_init.2.1 28 = .ok (.aload_n 0, 1) := by decide +kernel
theorem d_La_init_29 : decode m_La_init.2.1 29 = .ok (.bipush 36, 2) := by decide +kernel
theorem d_La_init_31 : decode m_La_init.2.1 31 = .ok (.newarray .int, 2) := by decide +kernel
theorem d_La_init_33 : decode m_La_init.2.1 33 = .ok (.putfield 21, 3) := by decide +kernel
theorem d_La_init_36 : decode m_La_init.2.1 36 = .ok (.aload_n 0, 1) := by decide +kernel
theorem d_La_init_37 : decode m_La_init.2.1 37 = .ok (.bipush 36, 2) := by decide +kernel
theorem d_La_init_39 : decode m_La_init.2.1 39 = .ok (.newarray .int, 2) := by decide +kernel
theorem d_La_init_41 : decode m_La_init.2.1 41 = .ok (.putfield 24, 3) := by decide +kernel
theorem d_La_init_44 : decode m_La_init.2.1 44 = .ok (.return_, 1) := by decide +kernel
theorem d_St_init_0 : decode m_St_init.2.1 0 = .ok (.aload_n 0, 1) := by decide +kernel
theorem d_St_init_1 : decode m_St_init.2.1 1 = .ok (.invokespecial 3, 3) := by decide +kernel
theorem d_St_init_4 : decode m_St_init.2.1 4 = .ok (.aload_n 0, 1) := by decide +kernel
theorem d_St_init_5 : decode m_St_init.2.1 5 = .ok (.aload_n 1, 1) := by decide +kernel
theorem d_St_init_6 : decode m_St_init.2.1 6 = .ok (.putfield 9, 3) := by decide +kernel
theorem d_St_init_9 : decode m_St_init.2.1 9 = .ok (.aload_n 0, 1) := by decide +kernel
theorem d_St_init_10 : decode m_St_init.2.1 10 = .ok (.aload_n 2, 1) := by decide +kernel
theorem d_St_init_11 : decode m_St_init.2.1 11 = .ok (.putfield 15, 3) := by decide +kernel
theorem d_St_init_14 : decode m_St_init.2.1 14 = .ok (.return_, 1) := by decide +kernel
theorem d_Ti_init_0 : decode m_Ti_init.2.1 0 = .ok (.aload_n 0, 1) := by decide +kernel
theorem d_Ti_init_1 : decode m_Ti_init.2.1 1 = .ok (.invokespecial 3, 3) := by decide +kernel
theorem d_Ti_init_4 : decode m_Ti_init.2.1 4 = .ok (.aload_n 0, 1) := by decide +kernel
theorem d_Ti_init_5 : decode m_Ti_init.2.1 5 = .ok (.iconst 3, 1) := by decide +kernel
theorem d_Ti_init_6 : decode m_Ti_init.2.1 6 = .ok (.newarray .int, 2) := by decide +kernel
theorem d_Ti_init_8 : decode m_Ti_init.2.1 8 = .ok (.putfield 9, 3) := by decide +kernel
theorem d_Ti_init_11 : decode m_Ti_init.2.1 11 = .ok (.aload_n 0, 1) := by decide +kernel
theorem d_Ti_init_12 : decode m_Ti_init.2.1 12 = .ok (.aload_n 1, 1) := by decide +kernel
theorem d_Ti_init_13 : decode m_Ti_init.2.1 13 = .ok (.putfield 15, 3) := by decide +kernel
theorem d_Ti_init_16 : decode m_Ti_init.2.1 16 = .ok (.aload_n 0, 1) := by decide +kernel
theorem d_Ti_init_17 : decode m_Ti_init.2.1 17 = .ok (.aload_n 2, 1) := by decide +kernel
theorem d_Ti_init_18 : decode m_Ti_init.2.1 18 = .ok (.putfield 19, 3) := by decide +kernel
theorem d_Ti_init_21 : decode m_Ti_init.2.1 21 = .ok (.return_, 1) := by decide +kernel
theorem d_Sh_init_0 : decode m_Sh_init.2.1 0 = .ok (.aload_n 0, 1) := by decide +kernel
theorem d_Sh_init_1 : decode m_Sh_init.2.1 1 = .ok (.invokespecial 1, 3) := by decide +kernel
theorem d_Sh_init_4 : decode m_Sh_init.2.1 4 = .ok (.aload_n 0, 1) := by decide +kernel
theorem d_Sh_init_5 : decode m_Sh_init.2.1 5 = .ok (.new 7, 3) := by decide +kernel
theorem d_Sh_init_8 : decode m_Sh_init.2.1 8 = .ok (.dup, 1) := by decide +kernel
theorem d_Sh_init_9 : decode m_Sh_init.2.1 9 = .ok (.invokespecial 9, 3) := by decide +kernel
theorem d_Sh_init_12 : decode m_Sh_init.2.1 12 = .ok (.putfield 10, 3) := by decide +kernel
theorem d_Sh_init_15 : decode m_Sh_init.2.1 15 = .ok (.aload_n 0, 1) := by decide +kernel
theorem d_Sh_init_16 : decode m_Sh_init.2.1 16 = .ok (.new 16, 3) := by decide +kernel
theorem d_Sh_init_19 : decode m_Sh_init.2.1 19 = .ok (.dup, 1) := by decide +kernel
theorem d_Sh_init_20 : decode m_Sh_init.2.1 20 = .ok (.invokespecial 18, 3) := by decide +kernel
theorem d_Sh_init_23 : decode m_Sh_init.2.1 23 = .ok (.putfield 19, 3) := by decide +kernel
theorem d_Sh_init_26 : decode m_Sh_init.2.1 26 = .ok (.return_, 1) := by decide +kernel
theorem d_Tr_init_0 : decode m_Tr_init.2.1 0 = .ok (.aload_n 0, 1) := by decide +kernel
theorem d_Tr_init_1 : decode m_Tr_init.2.1 1 = .ok (.invokespecial 3, 3) := by decide +kernel
theorem d_Tr_init_4 : decode m_Tr_init.2.1 4 = .ok (.aload_n 0, 1) := by decide +kernel
theorem d_Tr_init_5 : decode m_Tr_init.2.1 5 = .ok (.sipush 145, 3) := by decide +kernel
theorem d_Tr_init_8 : decode m_Tr_init.2.1 8 = .ok (.newarray .int, 2) := by decide +kernel
theorem d_Tr_init_10 : decode m_Tr_init.2.1 10 = .ok (.putfield 9, 3) := by decide +kernel
theorem d_Tr_init_13 : decode m_Tr_init.2.1 13 = .ok (.aload_n 0, 1) := by decide +kernel
theorem d_Tr_init_14 : decode m_Tr_init.2.1 14 = .ok (.sipush 145, 3) := by decide +kernel
theorem d_Tr_init_17 : decode m_Tr_init.2.1 17 = .ok (.newarray .int, 2) := by decide +kernel
theorem d_Tr_init_19 : decode m_Tr_init.2.1 19 = .ok (.putfield 15, 3) := by decide +kernel
theorem d_Tr_init_22 : decode m_Tr_init.2.1 22 = .ok (.aload_n 0, 1) := by decide +kernel
theorem d_Tr_init_23 : decode m_Tr_init.2.1 23 = .ok (.sipush 145, 3) := by decide +kernel
theorem d_Tr_init_26 : decode m_Tr_init.2.1 26 = .ok (.newarray .int, 2) := by decide +kernel
theorem d_Tr_init_28 : decode m_Tr_init.2.1 28 = .ok (.putfield 18, 3) := by decide +kernel
theorem d_Tr_init_31 : decode m_Tr_init.2.1 31 = .ok (.aload_n 0, 1) := by decide +kernel
theorem d_Tr_init_32 : decode m_Tr_init.2.1 32 = .ok (.sipush 145, 3) := by decide +kernel
theorem d_Tr_init_35 : decode m_Tr_init.2.1 35 = .ok (.newarray .int, 2) := by decide +kernel
theorem d_Tr_init_37 : decode m_Tr_init.2.1 37 = .ok (.putfield 21, 3) := by decide +kernel
theorem d_Tr_init_40 : decode m_Tr_init.2.1 40 = .ok (.aload_n 0, 1) := by decide +kernel
theorem d_Tr_init_41 : decode m_Tr_init.2.1 41 = .ok (.sipush 145, 3) := by decide +kernel
theorem d_Tr_init_44 : decode m_Tr_init.2.1 44 = .ok (.newarray .int, 2) := by decide +kernel
theorem d_Tr_init_46 : decode m_Tr_init.2.1 46 = .ok (.putfield 24, 3) := by decide +kernel
theorem d_Tr_init_49 : decode m_Tr_init.2.1 49 = .ok (.aload_n 0, 1) := by decide +kernel
theorem d_Tr_init_50 : decode m_Tr_init.2.1 50 = .ok (.sipush 145, 3) := by decide +kernel
theorem d_Tr_init_53 : decode m_Tr_init.2.1 53 = .ok (.newarray .int, 2) := by decide +kernel
theorem d_Tr_init_55 : decode m_Tr_init.2.1 55 = .ok (.putfield 27, 3) := by decide +kernel
theorem d_Tr_init_58 : decode m_Tr_init.2.1 58 = .ok (.aload_n 0, 1) := by decide +kernel
theorem d_Tr_init_59 : decode m_Tr_init.2.1 59 = .ok (.sipush 145, 3) := by decide +kernel
theorem d_Tr_init_62 : decode m_Tr_init.2.1 62 = .ok (.newarray .int, 2) := by decide +kernel
theorem d_Tr_init_64 : decode m_Tr_init.2.1 64 = .ok (.putfield 30, 3) := by decide +kernel
theorem d_Tr_init_67 : decode m_Tr_init.2.1 67 = .ok (.aload_n 0, 1) := by decide +kernel
theorem d_Tr_init_68 : decode m_Tr_init.2.1 68 = .ok (.sipush 145, 3) := by decide +kernel
theorem d_Tr_init_71 : decode m_Tr_init.2.1 71 = .ok (.newarray .int, 2) := by decide +kernel
theorem d_Tr_init_73 : decode m_Tr_init.2.1 73 = .ok (.putfield 33, 3) := by decide +kernel
theorem d_Tr_init_76 : decode m_Tr_init.2.1 76 = .ok (.return_, 1) := by decide +kernel
theorem d_Ha_fit_0 : decode m_Ha_fit.2.1 0 = .ok (.aload_n 0, 1) := by decide +kernel
theorem d_Ha_fit_1 : decode m_Ha_fit.2.1 1 = .ok (.getfield 25, 3) := by decide +kernel
theorem d_Ha_fit_4 : decode m_Ha_fit.2.1 4 = .ok (.iload_n 1, 1) := by decide +kernel
theorem d_Ha_fit_5 : decode m_Ha_fit.2.1 5 = .ok (.iload_n 2, 1) := by decide +kernel
theorem d_Ha_fit_6 : decode m_Ha_fit.2.1 6 = .ok (.invokevirtual 218, 3) := by decide +kernel
theorem d_Ha_fit_9 : decode m_Ha_fit.2.1 9 = .ok (.ireturn, 1) := by decide +kernel
theorem d_Rk_smallestFor_0 : decode m_Rk_smallestFor.2.1 0 = .ok (.iconst (-1), 1) := by decide +kernel
theorem d_Rk_smallestFor_1 : decode m_Rk_smallestFor.2.1 1 = .ok (.istore_n 3, 1) := by decide +kernel
theorem d_Rk_smallestFor_2 : decode m_Rk_smallestFor.2.1 2 = .ok (.iconst 0, 1) := by decide +kernel
theorem d_Rk_smallestFor_3 : decode m_Rk_smallestFor.2.1 3 = .ok (.istore 4, 2) := by decide +kernel
theorem d_Rk_smallestFor_5 : decode m_Rk_smallestFor.2.1 5 = .ok (.iload 4, 2) := by decide +kernel
theorem d_Rk_smallestFor_7 : decode m_Rk_smallestFor.2.1 7 = .ok (.aload_n 0, 1) := by decide +kernel
theorem d_Rk_smallestFor_8 : decode m_Rk_smallestFor.2.1 8 = .ok (.getfield 18, 3) := by decide +kernel
theorem d_Rk_smallestFor_11 : decode m_Rk_smallestFor.2.1 11 = .ok (.if_icmp .ge 104, 3) := by decide +kernel
theorem d_Rk_smallestFor_14 : decode m_Rk_smallestFor.2.1 14 = .ok (.aload_n 0, 1) := by decide +kernel
theorem d_Rk_smallestFor_15 : decode m_Rk_smallestFor.2.1 15 = .ok (.getfield 11, 3) := by decide +kernel
theorem d_Rk_smallestFor_18 : decode m_Rk_smallestFor.2.1 18 = .ok (.iload 4, 2) := by decide +kernel
theorem d_Rk_smallestFor_20 : decode m_Rk_smallestFor.2.1 20 = .ok (.aaload, 1) := by decide +kernel
theorem d_Rk_smallestFor_21 : decode m_Rk_smallestFor.2.1 21 = .ok (.astore 5, 2) := by decide +kernel
theorem d_Rk_smallestFor_23 : decode m_Rk_smallestFor.2.1 23 = .ok (.aload 5, 2) := by decide +kernel
theorem d_Rk_smallestFor_25 : decode m_Rk_smallestFor.2.1 25 = .ok (.getfield 30, 3) := by decide +kernel
theorem d_Rk_smallestFor_28 : decode m_Rk_smallestFor.2.1 28 = .ok (.iload_n 1, 1) := by decide +kernel
theorem d_Rk_smallestFor_29 : decode m_Rk_smallestFor.2.1 29 = .ok (.if_icmp .lt 16, 3) := by decide +kernel
theorem d_Rk_smallestFor_32 : decode m_Rk_smallestFor.2.1 32 = .ok (.aload 5, 2) := by decide +kernel
theorem d_Rk_smallestFor_34 : decode m_Rk_smallestFor.2.1 34 = .ok (.getfield 33, 3) := by decide +kernel
theorem d_Rk_smallestFor_37 : decode m_Rk_smallestFor.2.1 37 = .ok (.iload_n 2, 1) := by decide +kernel
theorem d_Rk_smallestFor_38 : decode m_Rk_smallestFor.2.1 38 = .ok (.if_icmp .lt 7, 3) := by decide +kernel
theorem d_Rk_smallestFor_41 : decode m_Rk_smallestFor.2.1 41 = .ok (.iconst 1, 1) := by decide +kernel
theorem d_Rk_smallestFor_42 : decode m_Rk_smallestFor.2.1 42 = .ok (.goto 4, 3) := by decide +kernel
theorem d_Rk_smallestFor_45 : decode m_Rk_smallestFor.2.1 45 = .ok (.iconst 0, 1) := by decide +kernel
theorem d_Rk_smallestFor_46 : decode m_Rk_smallestFor.2.1 46 = .ok (.istore 6, 2) := by decide +kernel
theorem d_Rk_smallestFor_48 : decode m_Rk_smallestFor.2.1 48 = .ok (.aload 5, 2) := by decide +kernel
theorem d_Rk_smallestFor_50 : decode m_Rk_smallestFor.2.1 50 = .ok (.getfield 30, 3) := by decide +kernel
theorem d_Rk_smallestFor_53 : decode m_Rk_smallestFor.2.1 53 = .ok (.iload_n 2, 1) := by decide +kernel
theorem d_Rk_smallestFor_54 : decode m_Rk_smallestFor.2.1 54 = .ok (.if_icmp .lt 16, 3) := by decide +kernel
theorem d_Rk_smallestFor_57 : decode m_Rk_smallestFor.2.1 57 = .ok (.aload 5, 2) := by decide +kernel
theorem d_Rk_smallestFor_59 : decode m_Rk_smallestFor.2.1 59 = .ok (.getfield 33, 3) := by decide +kernel
theorem d_Rk_smallestFor_62 : decode m_Rk_smallestFor.2.1 62 = .ok (.iload_n 1, 1) := by decide +kernel
theorem d_Rk_smallestFor_63 : decode m_Rk_smallestFor.2.1 63 = .ok (.if_icmp .lt 7, 3) := by decide +kernel
theorem d_Rk_smallestFor_66 : decode m_Rk_smallestFor.2.1 66 = .ok (.iconst 1, 1) := by decide +kernel
theorem d_Rk_smallestFor_67 : decode m_Rk_smallestFor.2.1 67 = .ok (.goto 4, 3) := by decide +kernel
theorem d_Rk_smallestFor_70 : decode m_Rk_smallestFor.2.1 70 = .ok (.iconst 0, 1) := by decide +kernel
theorem d_Rk_smallestFor_71 : decode m_Rk_smallestFor.2.1 71 = .ok (.istore 7, 2) := by decide +kernel
theorem d_Rk_smallestFor_73 : decode m_Rk_smallestFor.2.1 73 = .ok (.iload 6, 2) := by decide +kernel
theorem d_Rk_smallestFor_75 : decode m_Rk_smallestFor.2.1 75 = .ok (.ifCond .ne 8, 3) := by decide +kernel
theorem d_Rk_smallestFor_78 : decode m_Rk_smallestFor.2.1 78 = .ok (.iload 7, 2) := by decide +kernel
theorem d_Rk_smallestFor_80 : decode m_Rk_smallestFor.2.1 80 = .ok (.ifCond .eq 29, 3) := by decide +kernel
theorem d_Rk_smallestFor_83 : decode m_Rk_smallestFor.2.1 83 = .ok (.iload_n 3, 1) := by decide +kernel
theorem d_Rk_smallestFor_84 : decode m_Rk_smallestFor.2.1 84 = .ok (.iconst (-1), 1) := by decide +kernel
theorem d_Rk_smallestFor_85 : decode m_Rk_smallestFor.2.1 85 = .ok (.if_icmp .eq 21, 3) := by decide +kernel
theorem d_Rk_smallestFor_88 : decode m_Rk_smallestFor.2.1 88 = .ok (.aload 5, 2) := by decide +kernel
theorem d_Rk_smallestFor_90 : decode m_Rk_smallestFor.2.1 90 = .ok (.invokevirtual 36, 3) := by decide +kernel
theorem d_Rk_smallestFor_93 : decode m_Rk_smallestFor.2.1 93 = .ok (.aload_n 0, 1) := by decide +kernel
theorem d_Rk_smallestFor_94 : decode m_Rk_smallestFor.2.1 94 = .ok (.getfield 11, 3) := by decide +kernel
theorem d_Rk_smallestFor_97 : decode m_Rk_smallestFor.2.1 97 = .ok (.iload_n 3, 1) := by decide +kernel
theorem d_Rk_smallestFor_98 : decode m_Rk_smallestFor.2.1 98 = .ok (.aaload, 1) := by decide +kernel
theorem d_Rk_smallestFor_99 : decode m_Rk_smallestFor.2.1 99 = .ok (.invokevirtual 36, 3) := by decide +kernel
theorem d_Rk_smallestFor_102 : decode m_Rk_smallestFor.2.1 102 = .ok (.lcmp, 1) := by decide +kernel
theorem d_Rk_smallestFor_103 : decode m_Rk_smallestFor.2.1 103 = .ok (.ifCond .ge 6, 3) := by decide +kernel
theorem d_Rk_smallestFor_106 : decode m_Rk_smallestFor.2.1 106 = .ok (.iload 4, 2) := by decide +kernel
theorem d_Rk_smallestFor_108 : decode m_Rk_smallestFor.2.1 108 = .ok (.istore_n 3, 1) := by decide +kernel
theorem d_Rk_smallestFor_109 : decode m_Rk_smallestFor.2.1 109 = .ok (.iinc 4 1, 3) := by decide +kernel
theorem d_Rk_smallestFor_112 : decode m_Rk_smallestFor.2.1 112 = .ok (.goto (-107), 3) := by decide +kernel
theorem d_Rk_smallestFor_115 : decode m_Rk_smallestFor.2.1 115 = .ok (.iload_n 3, 1) := by decide +kernel
theorem d_Rk_smallestFor_116 : decode m_Rk_smallestFor.2.1 116 = .ok (.ireturn, 1) := by decide +kernel
theorem d_Gl_surface_0 : decode m_Gl_surface.2.1 0 = .ok (.aload_n 0, 1) := by decide +kernel
theorem d_Gl_surface_1 : decode m_Gl_surface.2.1 1 = .ok (.getfield 24, 3) := by decide +kernel
theorem d_Gl_surface_4 : decode m_Gl_surface.2.1 4 = .ok (.i2l, 1) := by decide +kernel
theorem d_Gl_surface_5 : decode m_Gl_surface.2.1 5 = .ok (.aload_n 0, 1) := by decide +kernel
theorem d_Gl_surface_6 : decode m_Gl_surface.2.1 6 = .ok (.getfield 28, 3) := by decide +kernel
theorem d_Gl_surface_9 : decode m_Gl_surface.2.1 9 = .ok (.i2l, 1) := by decide +kernel
theorem d_Gl_surface_10 : decode m_Gl_surface.2.1 10 = .ok (.lmul, 1) := by decide +kernel
theorem d_Gl_surface_11 : decode m_Gl_surface.2.1 11 = .ok (.lreturn, 1) := by decide +kernel
theorem d_Ha_area_0 : decode m_Ha_area.2.1 0 = .ok (.iload_n 1, 1) := by decide +kernel
theorem d_Ha_area_1 : decode m_Ha_area.2.1 1 = .ok (.tableswitch 81 0 6 #[43, 48, 53, 61, 66, 71, 76], 43) := by decide +kernel
theorem d_Ha_area_44 : decode m_Ha_area.2.1 44 = .ok (.aload_n 0, 1) := by decide +kernel
theorem d_Ha_area_45 : decode m_Ha_area.2.1 45 = .ok (.invokevirtual 246, 3) := by decide +kernel
theorem d_Ha_area_48 : decode m_Ha_area.2.1 48 = .ok (.lreturn, 1) := by decide +kernel
theorem d_Ha_area_49 : decode m_Ha_area.2.1 49 = .ok (.aload_n 0, 1) := by decide +kernel
theorem d_Ha_area_50 : decode m_Ha_area.2.1 50 = .ok (.getfield 249, 3) := by decide +kernel
theorem d_Ha_area_53 : decode m_Ha_area.2.1 53 = .ok (.lreturn, 1) := by decide +kernel
theorem d_Ha_area_54 : decode m_Ha_area.2.1 54 = .ok (.aload_n 0, 1) := by decide +kernel
theorem d_Ha_area_55 : decode m_Ha_area.2.1 55 = .ok (.getfield 25, 3) := by decide +kernel
theorem d_Ha_area_58 : decode m_Ha_area.2.1 58 = .ok (.invokevirtual 252, 3) := by decide +kernel
theorem d_Ha_area_61 : decode m_Ha_area.2.1 61 = .ok (.lreturn, 1) := by decide +kernel
theorem d_Ha_area_62 : decode m_Ha_area.2.1 62 = .ok (.aload_n 0, 1) := by decide +kernel
theorem d_Ha_area_63 : decode m_Ha_area.2.1 63 = .ok (.getfield 253, 3) := by decide +kernel
theorem d_Ha_area_66 : decode m_Ha_area.2.1 66 = .ok (.lreturn, 1) := by decide +kernel
theorem d_Ha_area_67 : decode m_Ha_area.2.1 67 = .ok (.aload_n 0, 1) := by decide +kernel
theorem d_Ha_area_68 : decode m_Ha_area.2.1 68 = .ok (.getfield 190, 3) := by decide +kernel
theorem d_Ha_area_71 : decode m_Ha_area.2.1 71 = .ok (.lreturn, 1) := by decide +kernel
theorem d_Ha_area_72 : decode m_Ha_area.2.1 72 = .ok (.aload_n 0, 1) := by decide +kernel
theorem d_Ha_area_73 : decode m_Ha_area.2.1 73 = .ok (.invokevirtual 256, 3) := by decide +kernel
theorem d_Ha_area_76 : decode m_Ha_area.2.1 76 = .ok (.lreturn, 1) := by decide +kernel
theorem d_Ha_area_77 : decode m_Ha_area.2.1 77 = .ok (.aload_n 0, 1) := by decide +kernel
theorem d_Ha_area_78 : decode m_Ha_area.2.1 78 = .ok (.getfield 77, 3) := by decide +kernel
theorem d_Ha_area_81 : decode m_Ha_area.2.1 81 = .ok (.lreturn, 1) := by decide +kernel
theorem d_Ha_area_82 : decode m_Ha_area.2.1 82 = .ok (.lconst 0, 1) := by decide +kernel
theorem d_Ha_area_83 : decode m_Ha_area.2.1 83 = .ok (.lreturn, 1) := by decide +kernel
theorem d_Ha_unplannedArea_0 : decode m_Ha_unplannedArea.2.1 0 = .ok (.lconst 0, 1) := by decide +kernel
theorem d_Ha_unplannedArea_1 : decode m_Ha_unplannedArea.2.1 1 = .ok (.lstore_n 1, 1) := by decide +kernel
theorem d_Ha_unplannedArea_2 : decode m_Ha_unplannedArea.2.1 2 = .ok (.aload_n 0, 1) := by decide +kernel
theorem d_Ha_unplannedArea_3 : decode m_Ha_unplannedArea.2.1 3 = .ok (.getfield 11, 3) := by decide +kernel
theorem d_Ha_unplannedArea_6 : decode m_Ha_unplannedArea.2.1 6 = .ok (.astore_n 3, 1) := by decide +kernel
theorem d_Ha_unplannedArea_7 : decode m_Ha_unplannedArea.2.1 7 = .ok (.aload_n 3, 1) := by decide +kernel
theorem d_Ha_unplannedArea_8 : decode m_Ha_unplannedArea.2.1 8 = .ok (.arraylength, 1) := by decide +kernel
theorem d_Ha_unplannedArea_9 : decode m_Ha_unplannedArea.2.1 9 = .ok (.istore 4, 2) := by decide +kernel
theorem d_Ha_unplannedArea_11 : decode m_Ha_unplannedArea.2.1 11 = .ok (.iconst 0, 1) := by decide +kernel
theorem d_Ha_unplannedArea_12 : decode m_Ha_unplannedArea.2.1 12 = .ok (.istore 5, 2) := by decide +kernel
theorem d_Ha_unplannedArea_14 : decode m_Ha_unplannedArea.2.1 14 = .ok (.iload 5, 2) := by decide +kernel
theorem d_Ha_unplannedArea_16 : decode m_Ha_unplannedArea.2.1 16 = .ok (.iload 4, 2) := by decide +kernel
theorem d_Ha_unplannedArea_18 : decode m_Ha_unplannedArea.2.1 18 = .ok (.if_icmp .ge 45, 3) := by decide +kernel
theorem d_Ha_unplannedArea_21 : decode m_Ha_unplannedArea.2.1 21 = .ok (.aload_n 3, 1) := by decide +kernel
theorem d_Ha_unplannedArea_22 : decode m_Ha_unplannedArea.2.1 22 = .ok (.iload 5, 2) := by decide +kernel
theorem d_Ha_unplannedArea_24 : decode m_Ha_unplannedArea.2.1 24 = .ok (.aaload, 1) := by decide +kernel
theorem d_Ha_unplannedArea_25 : decode m_Ha_unplannedArea.2.1 25 = .ok (.astore 6, 2) := by decide +kernel
theorem d_Ha_unplannedArea_27 : decode m_Ha_unplannedArea.2.1 27 = .ok (.aload 6, 2) := by decide +kernel
theorem d_Ha_unplannedArea_29 : decode m_Ha_unplannedArea.2.1 29 = .ok (.getfield 267, 3) := by decide +kernel
theorem d_Ha_unplannedArea_32 : decode m_Ha_unplannedArea.2.1 32 = .ok (.ifCond .eq 25, 3) := by decide +kernel
theorem d_Ha_unplannedArea_35 : decode m_Ha_unplannedArea.2.1 35 = .ok (.aload 6, 2) := by decide +kernel
theorem d_Ha_unplannedArea_37 : decode m_Ha_unplannedArea.2.1 37 = .ok (.getfield 104, 3) := by decide +kernel
theorem d_Ha_unplannedArea_40 : decode m_Ha_unplannedArea.2.1 40 = .ok (.invokevirtual 108, 3) := by decide +kernel
theorem d_Ha_unplannedArea_43 : decode m_Ha_unplannedArea.2.1 43 = .ok (.ifCond .ne 14, 3) := by decide +kernel
theorem d_Ha_unplannedArea_46 : decode m_Ha_unplannedArea.2.1 46 = .ok (.lload_n 1, 1) := by decide +kernel
theorem d_Ha_unplannedArea_47 : decode m_Ha_unplannedArea.2.1 47 = .ok (.aload 6, 2) := by decide +kernel
theorem d_Ha_unplannedArea_49 : decode m_Ha_unplannedArea.2.1 49 = .ok (.getfield 67, 3) := by decide +kernel
theorem d_Ha_unplannedArea_52 : decode m_Ha_unplannedArea.2.1 52 = .ok (.invokevirtual 81, 3) := by decide +kernel
theorem d_Ha_unplannedArea_55 : decode m_Ha_unplannedArea.2.1 55 = .ok (.ladd, 1) := by decide +kernel
theorem d_Ha_unplannedArea_56 : decode m_Ha_unplannedArea.2.1 56 = .ok (.lstore_n 1, 1) := by decide +kernel
theorem d_Ha_unplannedArea_57 : decode m_Ha_unplannedArea.2.1 57 = .ok (.iinc 5 1, 3) := by decide +kernel
theorem d_Ha_unplannedArea_60 : decode m_Ha_unplannedArea.2.1 60 = .ok (.goto (-46), 3) := by decide +kernel
theorem d_Ha_unplannedArea_63 : decode m_Ha_unplannedArea.2.1 63 = .ok (.lload_n 1, 1) := by decide +kernel
theorem d_Ha_unplannedArea_64 : decode m_Ha_unplannedArea.2.1 64 = .ok (.lreturn, 1) := by decide +kernel
theorem d_Tr_isGrown_0 : decode m_Tr_isGrown.2.1 0 = .ok (.aload_n 0, 1) := by decide +kernel
theorem d_Tr_isGrown_1 : decode m_Tr_isGrown.2.1 1 = .ok (.getfield 36, 3) := by decide +kernel
theorem d_Tr_isGrown_4 : decode m_Tr_isGrown.2.1 4 = .ok (.ifCond .le 7, 3) := by decide +kernel
theorem d_Tr_isGrown_7 : decode m_Tr_isGrown.2.1 7 = .ok (.iconst 1, 1) := by decide +kernel
theorem d_Tr_isGrown_8 : decode m_Tr_isGrown.2.1 8 = .ok (.goto 4, 3) := by decide +kernel
theorem d_Tr_isGrown_11 : decode m_Tr_isGrown.2.1 11 = .ok (.iconst 0, 1) := by decide +kernel
theorem d_Tr_isGrown_12 : decode m_Tr_isGrown.2.1 12 = .ok (.ireturn, 1) := by decide +kernel
theorem d_Rk_surface_0 : decode m_Rk_surface.2.1 0 = .ok (.lconst 0, 1) := by decide +kernel
theorem d_Rk_surface_1 : decode m_Rk_surface.2.1 1 = .ok (.lstore_n 1, 1) := by decide +kernel
theorem d_Rk_surface_2 : decode m_Rk_surface.2.1 2 = .ok (.iconst 0, 1) := by decide +kernel
theorem d_Rk_surface_3 : decode m_Rk_surface.2.1 3 = .ok (.istore_n 3, 1) := by decide +kernel
theorem d_Rk_surface_4 : decode m_Rk_surface.2.1 4 = .ok (.iload_n 3, 1) := by decide +kernel
theorem d_Rk_surface_5 : decode m_Rk_surface.2.1 5 = .ok (.aload_n 0, 1) := by decide +kernel
theorem d_Rk_surface_6 : decode m_Rk_surface.2.1 6 = .ok (.getfield 18, 3) := by decide +kernel
theorem d_Rk_surface_9 : decode m_Rk_surface.2.1 9 = .ok (.if_icmp .ge 21, 3) := by decide +kernel
theorem d_Rk_surface_12 : decode m_Rk_surface.2.1 12 = .ok (.lload_n 1, 1) := by decide +kernel
theorem d_Rk_surface_13 : decode m_Rk_surface.2.1 13 = .ok (.aload_n 0, 1) := by decide +kernel
theorem d_Rk_surface_14 : decode m_Rk_surface.2.1 14 = .ok (.getfield 11, 3) := by decide +kernel
theorem d_Rk_surface_17 : decode m_Rk_surface.2.1 17 = .ok (.iload_n 3, 1) := by decide +kernel
theorem d_Rk_surface_18 : decode m_Rk_surface.2.1 18 = .ok (.aaload, 1) := by decide +kernel
theorem d_Rk_surface_19 : decode m_Rk_surface.2.1 19 = .ok (.invokevirtual 36, 3) := by decide +kernel
theorem d_Rk_surface_22 : decode m_Rk_surface.2.1 22 = .ok (.ladd, 1) := by decide +kernel
theorem d_Rk_surface_23 : decode m_Rk_surface.2.1 23 = .ok (.lstore_n 1, 1) := by decide +kernel
theorem d_Rk_surface_24 : decode m_Rk_surface.2.1 24 = .ok (.iinc 3 1, 3) := by decide +kernel
theorem d_Rk_surface_27 : decode m_Rk_surface.2.1 27 = .ok (.goto (-23), 3) := by decide +kernel
theorem d_Rk_surface_30 : decode m_Rk_surface.2.1 30 = .ok (.lload_n 1, 1) := by decide +kernel
theorem d_Rk_surface_31 : decode m_Rk_surface.2.1 31 = .ok (.lreturn, 1) := by decide +kernel
theorem d_Ha_waitingArea_0 : decode m_Ha_waitingArea.2.1 0 = .ok (.lconst 0, 1) := by decide +kernel
theorem d_Ha_waitingArea_1 : decode m_Ha_waitingArea.2.1 1 = .ok (.lstore_n 1, 1) := by decide +kernel
theorem d_Ha_waitingArea_2 : decode m_Ha_waitingArea.2.1 2 = .ok (.aload_n 0, 1) := by decide +kernel
theorem d_Ha_waitingArea_3 : decode m_Ha_waitingArea.2.1 3 = .ok (.getfield 11, 3) := by decide +kernel
theorem d_Ha_waitingArea_6 : decode m_Ha_waitingArea.2.1 6 = .ok (.astore_n 3, 1) := by decide +kernel
theorem d_Ha_waitingArea_7 : decode m_Ha_waitingArea.2.1 7 = .ok (.aload_n 3, 1) := by decide +kernel
theorem d_Ha_waitingArea_8 : decode m_Ha_waitingArea.2.1 8 = .ok (.arraylength, 1) := by decide +kernel
theorem d_Ha_waitingArea_9 : decode m_Ha_waitingArea.2.1 9 = .ok (.istore 4, 2) := by decide +kernel
theorem d_Ha_waitingArea_11 : decode m_Ha_waitingArea.2.1 11 = .ok (.iconst 0, 1) := by decide +kernel
theorem d_Ha_waitingArea_12 : decode m_Ha_waitingArea.2.1 12 = .ok (.istore 5, 2) := by decide +kernel
theorem d_Ha_waitingArea_14 : decode m_Ha_waitingArea.2.1 14 = .ok (.iload 5, 2) := by decide +kernel
theorem d_Ha_waitingArea_16 : decode m_Ha_waitingArea.2.1 16 = .ok (.iload 4, 2) := by decide +kernel
theorem d_Ha_waitingArea_18 : decode m_Ha_waitingArea.2.1 18 = .ok (.if_icmp .ge 26, 3) := by decide +kernel
theorem d_Ha_waitingArea_21 : decode m_Ha_waitingArea.2.1 21 = .ok (.aload_n 3, 1) := by decide +kernel
theorem d_Ha_waitingArea_22 : decode m_Ha_waitingArea.2.1 22 = .ok (.iload 5, 2) := by decide +kernel
theorem d_Ha_waitingArea_24 : decode m_Ha_waitingArea.2.1 24 = .ok (.aaload, 1) := by decide +kernel
theorem d_Ha_waitingArea_25 : decode m_Ha_waitingArea.2.1 25 = .ok (.astore 6, 2) := by decide +kernel
theorem d_Ha_waitingArea_27 : decode m_Ha_waitingArea.2.1 27 = .ok (.lload_n 1, 1) := by decide +kernel
theorem d_Ha_waitingArea_28 : decode m_Ha_waitingArea.2.1 28 = .ok (.aload 6, 2) := by decide +kernel
theorem d_Ha_waitingArea_30 : decode m_Ha_waitingArea.2.1 30 = .ok (.getfield 104, 3) := by decide +kernel
theorem d_Ha_waitingArea_33 : decode m_Ha_waitingArea.2.1 33 = .ok (.invokevirtual 322, 3) := by decide +kernel
theorem d_Ha_waitingArea_36 : decode m_Ha_waitingArea.2.1 36 = .ok (.ladd, 1) := by decide +kernel
theorem d_Ha_waitingArea_37 : decode m_Ha_waitingArea.2.1 37 = .ok (.lstore_n 1, 1) := by decide +kernel
theorem d_Ha_waitingArea_38 : decode m_Ha_waitingArea.2.1 38 = .ok (.iinc 5 1, 3) := by decide +kernel
theorem d_Ha_waitingArea_41 : decode m_Ha_waitingArea.2.1 41 = .ok (.goto (-27), 3) := by decide +kernel
theorem d_Ha_waitingArea_44 : decode m_Ha_waitingArea.2.1 44 = .ok (.lload_n 1, 1) := by decide +kernel
theorem d_Ha_waitingArea_45 : decode m_Ha_waitingArea.2.1 45 = .ok (.lreturn, 1) := by decide +kernel
theorem d_Tr_waitingSurface_0 : decode m_Tr_waitingSurface.2.1 0 = .ok (.lconst 0, 1) := by decide +kernel
theorem d_Tr_waitingSurface_1 : decode m_Tr_waitingSurface.2.1 1 = .ok (.lstore_n 1, 1) := by decide +kernel
theorem d_Tr_waitingSurface_2 : decode m_Tr_waitingSurface.2.1 2 = .ok (.iconst 0, 1) := by decide +kernel
theorem d_Tr_waitingSurface_3 : decode m_Tr_waitingSurface.2.1 3 = .ok (.istore_n 3, 1) := by decide +kernel
theorem d_Tr_waitingSurface_4 : decode m_Tr_waitingSurface.2.1 4 = .ok (.iload_n 3, 1) := by decide +kernel
theorem d_Tr_waitingSurface_5 : decode m_Tr_waitingSurface.2.1 5 = .ok (.aload_n 0, 1) := by decide +kernel
theorem d_Tr_waitingSurface_6 : decode m_Tr_waitingSurface.2.1 6 = .ok (.getfield 36, 3) := by decide +kernel
theorem d_Tr_waitingSurface_9 : decode m_Tr_waitingSurface.2.1 9 = .ok (.if_icmp .ge 27, 3) := by decide +kernel
theorem d_Tr_waitingSurface_12 : decode m_Tr_waitingSurface.2.1 12 = .ok (.aload_n 0, 1) := by decide +kernel
theorem d_Tr_waitingSurface_13 : decode m_Tr_waitingSurface.2.1 13 = .ok (.getfield 33, 3) := by decide +kernel
theorem d_Tr_waitingSurface_16 : decode m_Tr_waitingSurface.2.1 16 = .ok (.iload_n 3, 1) := by decide +kernel
theorem d_Tr_waitingSurface_17 : decode m_Tr_waitingSurface.2.1 17 = .ok (.iaload, 1) := by decide +kernel
theorem d_Tr_waitingSurface_18 : decode m_Tr_waitingSurface.2.1 18 = .ok (.iconst 1, 1) := by decide +kernel
theorem d_Tr_waitingSurface_19 : decode m_Tr_waitingSurface.2.1 19 = .ok (.if_icmp .ne 11, 3) := by decide +kernel
theorem d_Tr_waitingSurface_22 : decode m_Tr_waitingSurface.2.1 22 = .ok (.lload_n 1, 1) := by decide +kernel
theorem d_Tr_waitingSurface_23 : decode m_Tr_waitingSurface.2.1 23 = .ok (.aload_n 0, 1) := by decide +kernel
theorem d_Tr_waitingSurface_24 : decode m_Tr_waitingSurface.2.1 24 = .ok (.iload_n 3, 1) := by decide +kernel
theorem d_Tr_waitingSurface_25 : decode m_Tr_waitingSurface.2.1 25 = .ok (.invokevirtual 93, 3) := by decide +kernel
theorem d_Tr_waitingSurface_28 : decode m_Tr_waitingSurface.2.1 28 = .ok (.ladd, 1) := by decide +kernel
theorem d_Tr_waitingSurface_29 : decode m_Tr_waitingSurface.2.1 29 = .ok (.lstore_n 1, 1) := by decide +kernel
theorem d_Tr_waitingSurface_30 : decode m_Tr_waitingSurface.2.1 30 = .ok (.iinc 3 1, 3) := by decide +kernel
theorem d_Tr_waitingSurface_33 : decode m_Tr_waitingSurface.2.1 33 = .ok (.goto (-29), 3) := by decide +kernel
theorem d_Tr_waitingSurface_36 : decode m_Tr_waitingSurface.2.1 36 = .ok (.lload_n 1, 1) := by decide +kernel
theorem d_Tr_waitingSurface_37 : decode m_Tr_waitingSurface.2.1 37 = .ok (.lreturn, 1) := by decide +kernel
theorem d_Tr_surface_0 : decode m_Tr_surface.2.1 0 = .ok (.aload_n 0, 1) := by decide +kernel
theorem d_Tr_surface_1 : decode m_Tr_surface.2.1 1 = .ok (.getfield 21, 3) := by decide +kernel
theorem d_Tr_surface_4 : decode m_Tr_surface.2.1 4 = .ok (.iload_n 1, 1) := by decide +kernel
theorem d_Tr_surface_5 : decode m_Tr_surface.2.1 5 = .ok (.iaload, 1) := by decide +kernel
theorem d_Tr_surface_6 : decode m_Tr_surface.2.1 6 = .ok (.i2l, 1) := by decide +kernel
theorem d_Tr_surface_7 : decode m_Tr_surface.2.1 7 = .ok (.aload_n 0, 1) := by decide +kernel
theorem d_Tr_surface_8 : decode m_Tr_surface.2.1 8 = .ok (.getfield 24, 3) := by decide +kernel
theorem d_Tr_surface_11 : decode m_Tr_surface.2.1 11 = .ok (.iload_n 1, 1) := by decide +kernel
theorem d_Tr_surface_12 : decode m_Tr_surface.2.1 12 = .ok (.iaload, 1) := by decide +kernel
theorem d_Tr_surface_13 : decode m_Tr_surface.2.1 13 = .ok (.i2l, 1) := by decide +kernel
theorem d_Tr_surface_14 : decode m_Tr_surface.2.1 14 = .ok (.lmul, 1) := by decide +kernel
theorem d_Tr_surface_15 : decode m_Tr_surface.2.1 15 = .ok (.lreturn, 1) := by decide +kernel
theorem d_Ha_total_0 : decode m_Ha_total.2.1 0 = .ok (.iload_n 1, 1) := by decide +kernel
theorem d_Ha_total_1 : decode m_Ha_total.2.1 1 = .ok (.tableswitch 68 0 4 #[35, 41, 47, 55, 63], 35) := by decide +kernel
theorem d_Ha_total_36 : decode m_Ha_total.2.1 36 = .ok (.aload_n 0, 1) := by decide +kernel
theorem d_Ha_total_37 : decode m_Ha_total.2.1 37 = .ok (.iconst 0, 1) := by decide +kernel
theorem d_Ha_total_38 : decode m_Ha_total.2.1 38 = .ok (.invokevirtual 259, 3) := by decide +kernel
theorem d_Ha_total_41 : decode m_Ha_total.2.1 41 = .ok (.ireturn, 1) := by decide +kernel
theorem d_Ha_total_42 : decode m_Ha_total.2.1 42 = .ok (.aload_n 0, 1) := by decide +kernel
theorem d_Ha_total_43 : decode m_Ha_total.2.1 43 = .ok (.iconst 1, 1) := by decide +kernel
theorem d_Ha_total_44 : decode m_Ha_total.2.1 44 = .ok (.invokevirtual 259, 3) := by decide +kernel
theorem d_Ha_total_47 : decode m_Ha_total.2.1 47 = .ok (.ireturn, 1) := by decide +kernel
theorem d_Ha_total_48 : decode m_Ha_total.2.1 48 = .ok (.aload_n 0, 1) := by decide +kernel
theorem d_Ha_total_49 : decode m_Ha_total.2.1 49 = .ok (.getfield 18, 3) := by decide +kernel
theorem d_Ha_total_52 : decode m_Ha_total.2.1 52 = .ok (.getfield 121, 3) := by decide +kernel
theorem d_Ha_total_55 : decode m_Ha_total.2.1 55 = .ok (.ireturn, 1) := by decide +kernel
theorem d_Ha_total_56 : decode m_Ha_total.2.1 56 = .ok (.aload_n 0, 1) := by decide +kernel
theorem d_Ha_total_57 : decode m_Ha_total.2.1 57 = .ok (.getfield 25, 3) := by decide +kernel
theorem d_Ha_total_60 : decode m_Ha_total.2.1 60 = .ok (.getfield 263, 3) := by decide +kernel
theorem d_Ha_total_63 : decode m_Ha_total.2.1 63 = .ok (.ireturn, 1) := by decide +kernel
theorem d_Ha_total_64 : decode m_Ha_total.2.1 64 = .ok (.aload_n 0, 1) := by decide +kernel
theorem d_Ha_total_65 : decode m_Ha_total.2.1 65 = .ok (.getfield 264, 3) := by decide +kernel
theorem d_Ha_total_68 : decode m_Ha_total.2.1 68 = .ok (.ireturn, 1) := by decide +kernel
theorem d_Ha_total_69 : decode m_Ha_total.2.1 69 = .ok (.iconst (-1), 1) := by decide +kernel
theorem d_Ha_total_70 : decode m_Ha_total.2.1 70 = .ok (.ireturn, 1) := by decide +kernel
theorem d_Ha_countSheets_0 : decode m_Ha_countSheets.2.1 0 = .ok (.iconst 0, 1) := by decide +kernel
theorem d_Ha_countSheets_1 : decode m_Ha_countSheets.2.1 1 = .ok (.istore_n 2, 1) := by decide +kernel
theorem d_Ha_countSheets_2 : decode m_Ha_countSheets.2.1 2 = .ok (.aload_n 0, 1) := by decide +kernel
theorem d_Ha_countSheets_3 : decode m_Ha_countSheets.2.1 3 = .ok (.getfield 11, 3) := by decide +kernel
theorem d_Ha_countSheets_6 : decode m_Ha_countSheets.2.1 6 = .ok (.astore_n 3, 1) := by decide +kernel
theorem d_Ha_countSheets_7 : decode m_Ha_countSheets.2.1 7 = .ok (.aload_n 3, 1) := by decide +kernel
theorem d_Ha_countSheets_8 : decode m_Ha_countSheets.2.1 8 = .ok (.arraylength, 1) := by decide +kernel
theorem d_Ha_countSheets_9 : decode m_Ha_countSheets.2.1 9 = .ok (.istore 4, 2) := by decide +kernel
theorem d_Ha_countSheets_11 : decode m_Ha_countSheets.2.1 11 = .ok (.iconst 0, 1) := by decide +kernel
theorem d_Ha_countSheets_12 : decode m_Ha_countSheets.2.1 12 = .ok (.istore 5, 2) := by decide +kernel
theorem d_Ha_countSheets_14 : decode m_Ha_countSheets.2.1 14 = .ok (.iload 5, 2) := by decide +kernel
theorem d_Ha_countSheets_16 : decode m_Ha_countSheets.2.1 16 = .ok (.iload 4, 2) := by decide +kernel
theorem d_Ha_countSheets_18 : decode m_Ha_countSheets.2.1 18 = .ok (.if_icmp .ge 41, 3) := by decide +kernel
theorem d_Ha_countSheets_21 : decode m_Ha_countSheets.2.1 21 = .ok (.aload_n 3, 1) := by decide +kernel
theorem d_Ha_countSheets_22 : decode m_Ha_countSheets.2.1 22 = .ok (.iload 5, 2) := by decide +kernel
theorem d_Ha_countSheets_24 : decode m_Ha_countSheets.2.1 24 = .ok (.aaload, 1) := by decide +kernel
theorem d_Ha_countSheets_25 : decode m_Ha_countSheets.2.1 25 = .ok (.astore 6, 2) := by decide +kernel
theorem d_Ha_countSheets_27 : decode m_Ha_countSheets.2.1 27 = .ok (.aload 6, 2) := by decide +kernel
theorem d_Ha_countSheets_29 : decode m_Ha_countSheets.2.1 29 = .ok (.getfield 267, 3) := by decide +kernel
theorem d_Ha_countSheets_32 : decode m_Ha_countSheets.2.1 32 = .ok (.ifCond .eq 21, 3) := by decide +kernel
theorem d_Ha_countSheets_35 : decode m_Ha_countSheets.2.1 35 = .ok (.iload_n 1, 1) := by decide +kernel
theorem d_Ha_countSheets_36 : decode m_Ha_countSheets.2.1 36 = .ok (.ifCond .eq 14, 3) := by decide +kernel
theorem d_Ha_countSheets_39 : decode m_Ha_countSheets.2.1 39 = .ok (.aload 6, 2) := by decide +kernel
theorem d_Ha_countSheets_41 : decode m_Ha_countSheets.2.1 41 = .ok (.getfield 104, 3) := by decide +kernel
theorem d_Ha_countSheets_44 : decode m_Ha_countSheets.2.1 44 = .ok (.invokevirtual 108, 3) := by decide +kernel
theorem d_Ha_countSheets_47 : decode m_Ha_countSheets.2.1 47 = .ok (.ifCond .eq 6, 3) := by decide +kernel
theorem d_Ha_countSheets_50 : decode m_Ha_countSheets.2.1 50 = .ok (.iinc 2 1, 3) := by decide +kernel
theorem d_Ha_countSheets_53 : decode m_Ha_countSheets.2.1 53 = .ok (.iinc 5 1, 3) := by decide +kernel
theorem d_Ha_countSheets_56 : decode m_Ha_countSheets.2.1 56 = .ok (.goto (-42), 3) := by decide +kernel
theorem d_Ha_countSheets_59 : decode m_Ha_countSheets.2.1 59 = .ok (.iload_n 2, 1) := by decide +kernel
theorem d_Ha_countSheets_60 : decode m_Ha_countSheets.2.1 60 = .ok (.ireturn, 1) := by decide +kernel
theorem d_Lw_sheet_0 : decode m_Lw_sheet.2.1 0 = .ok (.aload_n 3, 1) := by decide +kernel
theorem d_Lw_sheet_1 : decode m_Lw_sheet.2.1 1 = .ok (.iconst 0, 1) := by decide +kernel
theorem d_Lw_sheet_2 : decode m_Lw_sheet.2.1 2 = .ok (.aload_n 0, 1) := by decide +kernel
theorem d_Lw_sheet_3 : decode m_Lw_sheet.2.1 3 = .ok (.iload_n 1, 1) := by decide +kernel
theorem d_Lw_sheet_4 : decode m_Lw_sheet.2.1 4 = .ok (.iload_n 2, 1) := by decide +kernel
theorem d_Lw_sheet_5 : decode m_Lw_sheet.2.1 5 = .ok (.invokevirtual 7, 3) := by decide +kernel
theorem d_Lw_sheet_8 : decode m_Lw_sheet.2.1 8 = .ok (.i2l, 1) := by decide +kernel
theorem d_Lw_sheet_9 : decode m_Lw_sheet.2.1 9 = .ok (.lastore, 1) := by decide +kernel
theorem d_Lw_sheet_10 : decode m_Lw_sheet.2.1 10 = .ok (.goto 11, 3) := by decide +kernel
theorem d_Lw_sheet_13 : decode m_Lw_sheet.2.1 13 = .ok (.astore 4, 2) := by decide +kernel
theorem d_Lw_sheet_15 : decode m_Lw_sheet.2.1 15 = .ok (.iconst 1, 1) := by decide +kernel
theorem d_Lw_sheet_16 : decode m_Lw_sheet.2.1 16 = .ok (.ireturn, 1) := by decide +kernel
theorem d_Lw_sheet_17 : decode m_Lw_sheet.2.1 17 = .ok (.astore 4, 2) := by decide +kernel
theorem d_Lw_sheet_19 : decode m_Lw_sheet.2.1 19 = .ok (.iconst 2, 1) := by decide +kernel
theorem d_Lw_sheet_20 : decode m_Lw_sheet.2.1 20 = .ok (.ireturn, 1) := by decide +kernel
theorem d_Lw_sheet_21 : decode m_Lw_sheet.2.1 21 = .ok (.iconst 0, 1) := by decide +kernel
theorem d_Lw_sheet_22 : decode m_Lw_sheet.2.1 22 = .ok (.ireturn, 1) := by decide +kernel
theorem d_Ha_sheet_0 : decode m_Ha_sheet.2.1 0 = .ok (.iload_n 1, 1) := by decide +kernel
theorem d_Ha_sheet_1 : decode m_Ha_sheet.2.1 1 = .ok (.invokestatic 53, 3) := by decide +kernel
theorem d_Ha_sheet_4 : decode m_Ha_sheet.2.1 4 = .ok (.ifCond .eq 10, 3) := by decide +kernel
theorem d_Ha_sheet_7 : decode m_Ha_sheet.2.1 7 = .ok (.iload_n 2, 1) := by decide +kernel
theorem d_Ha_sheet_8 : decode m_Ha_sheet.2.1 8 = .ok (.invokestatic 53, 3) := by decide +kernel
theorem d_Ha_sheet_11 : decode m_Ha_sheet.2.1 11 = .ok (.ifCond .ne 11, 3) := by decide +kernel
theorem d_Ha_sheet_14 : decode m_Ha_sheet.2.1 14 = .ok (.new 57, 3) := by decide +kernel
theorem d_Ha_sheet_17 : decode m_Ha_sheet.2.1 17 = .ok (.dup, 1) := by decide +kernel
theorem d_Ha_sheet_18 : decode m_Ha_sheet.2.1 18 = .ok (.invokespecial 59, 3) := by decide +kernel
theorem d_Ha_sheet_21 : decode m_Ha_sheet.2.1 21 = .ok (.athrow, 1) := by decide +kernel
theorem d_Ha_sheet_22 : decode m_Ha_sheet.2.1 22 = .ok (.aload_n 0, 1) := by decide +kernel
theorem d_Ha_sheet_23 : decode m_Ha_sheet.2.1 23 = .ok (.invokevirtual 60, 3) := by decide +kernel
theorem d_Ha_sheet_26 : decode m_Ha_sheet.2.1 26 = .ok (.astore_n 3, 1) := by decide +kernel
theorem d_Ha_sheet_27 : decode m_Ha_sheet.2.1 27 = .ok (.aload_n 3, 1) := by decide +kernel
theorem d_Ha_sheet_28 : decode m_Ha_sheet.2.1 28 = .ok (.ifnonnull 11, 3) := by decide +kernel
theorem d_Ha_sheet_31 : decode m_Ha_sheet.2.1 31 = .ok (.new 64, 3) := by decide +kernel
theorem d_Ha_sheet_34 : decode m_Ha_sheet.2.1 34 = .ok (.dup, 1) := by decide +kernel
theorem d_Ha_sheet_35 : decode m_Ha_sheet.2.1 35 = .ok (.invokespecial 66, 3) := by decide +kernel
theorem d_Ha_sheet_38 : decode m_Ha_sheet.2.1 38 = .ok (.athrow, 1) := by decide +kernel
theorem d_Ha_sheet_39 : decode m_Ha_sheet.2.1 39 = .ok (.aload_n 3, 1) := by decide +kernel
theorem d_Ha_sheet_40 : decode m_Ha_sheet.2.1 40 = .ok (.getfield 67, 3) := by decide +kernel
theorem d_Ha_sheet_43 : decode m_Ha_sheet.2.1 43 = .ok (.iload_n 1, 1) := by decide +kernel
theorem d_Ha_sheet_44 : decode m_Ha_sheet.2.1 44 = .ok (.iload_n 2, 1) := by decide +kernel
theorem d_Ha_sheet_45 : decode m_Ha_sheet.2.1 45 = .ok (.invokevirtual 71, 3) := by decide +kernel
theorem d_Ha_sheet_48 : decode m_Ha_sheet.2.1 48 = .ok (.aload_n 0, 1) := by decide +kernel
theorem d_Ha_sheet_49 : decode m_Ha_sheet.2.1 49 = .ok (.dup, 1) := by decide +kernel
theorem d_Ha_sheet_50 : decode m_Ha_sheet.2.1 50 = .ok (.getfield 77, 3) := by decide +kernel
theorem d_Ha_sheet_53 : decode m_Ha_sheet.2.1 53 = .ok (.aload_n 3, 1) := by decide +kernel
theorem d_Ha_sheet_54 : decode m_Ha_sheet.2.1 54 = .ok (.getfield 67, 3) := by decide +kernel
theorem d_Ha_sheet_57 : decode m_Ha_sheet.2.1 57 = .ok (.invokevirtual 81, 3) := by decide +kernel
theorem d_Ha_sheet_60 : decode m_Ha_sheet.2.1 60 = .ok (.ladd, 1) := by decide +kernel
theorem d_Ha_sheet_61 : decode m_Ha_sheet.2.1 61 = .ok (.putfield 77, 3) := by decide +kernel
theorem d_Ha_sheet_64 : decode m_Ha_sheet.2.1 64 = .ok (.aload_n 0, 1) := by decide +kernel
theorem d_Ha_sheet_65 : decode m_Ha_sheet.2.1 65 = .ok (.aload_n 3, 1) := by decide +kernel
theorem d_Ha_sheet_66 : decode m_Ha_sheet.2.1 66 = .ok (.invokevirtual 85, 3) := by decide +kernel
theorem d_Ha_sheet_69 : decode m_Ha_sheet.2.1 69 = .ok (.ireturn, 1) := by decide +kernel
theorem d_Ha_isLength_0 : decode m_Ha_isLength.2.1 0 = .ok (.iload_n 0, 1) := by decide +kernel
theorem d_Ha_isLength_1 : decode m_Ha_isLength.2.1 1 = .ok (.iconst 1, 1) := by decide +kernel
theorem d_Ha_isLength_2 : decode m_Ha_isLength.2.1 2 = .ok (.if_icmp .lt 14, 3) := by decide +kernel
theorem d_Ha_isLength_5 : decode m_Ha_isLength.2.1 5 = .ok (.iload_n 0, 1) := by decide +kernel
theorem d_Ha_isLength_6 : decode m_Ha_isLength.2.1 6 = .ok (.sipush 6000, 3) := by decide +kernel
theorem d_Ha_isLength_9 : decode m_Ha_isLength.2.1 9 = .ok (.if_icmp .gt 7, 3) := by decide +kernel
theorem d_Ha_isLength_12 : decode m_Ha_isLength.2.1 12 = .ok (.iconst 1, 1) := by decide +kernel
theorem d_Ha_isLength_13 : decode m_Ha_isLength.2.1 13 = .ok (.goto 4, 3) := by decide +kernel
theorem d_Ha_isLength_16 : decode m_Ha_isLength.2.1 16 = .ok (.iconst 0, 1) := by decide +kernel
theorem d_Ha_isLength_17 : decode m_Ha_isLength.2.1 17 = .ok (.ireturn, 1) := by decide +kernel
theorem d_Ha_findFreeSlot_0 : decode m_Ha_findFreeSlot.2.1 0 = .ok (.aload_n 0, 1) := by decide +kernel
theorem d_Ha_findFreeSlot_1 : decode m_Ha_findFreeSlot.2.1 1 = .ok (.getfield 11, 3) := by decide +kernel
theorem d_Ha_findFreeSlot_4 : decode m_Ha_findFreeSlot.2.1 4 = .ok (.astore_n 1, 1) := by decide +kernel
theorem d_Ha_findFreeSlot_5 : decode m_Ha_findFreeSlot.2.1 5 = .ok (.aload_n 1, 1) := by decide +kernel
theorem d_Ha_findFreeSlot_6 : decode m_Ha_findFreeSlot.2.1 6 = .ok (.arraylength, 1) := by decide +kernel
theorem d_Ha_findFreeSlot_7 : decode m_Ha_findFreeSlot.2.1 7 = .ok (.istore_n 2, 1) := by decide +kernel
theorem d_Ha_findFreeSlot_8 : decode m_Ha_findFreeSlot.2.1 8 = .ok (.iconst 0, 1) := by decide +kernel
theorem d_Ha_findFreeSlot_9 : decode m_Ha_findFreeSlot.2.1 9 = .ok (.istore_n 3, 1) := by decide +kernel
theorem d_Ha_findFreeSlot_10 : decode m_Ha_findFreeSlot.2.1 10 = .ok (.iload_n 3, 1) := by decide +kernel
theorem d_Ha_findFreeSlot_11 : decode m_Ha_findFreeSlot.2.1 11 = .ok (.iload_n 2, 1) := by decide +kernel
theorem d_Ha_findFreeSlot_12 : decode m_Ha_findFreeSlot.2.1 12 = .ok (.if_icmp .ge 25, 3) := by decide +kernel
theorem d_Ha_findFreeSlot_15 : decode m_Ha_findFreeSlot.2.1 15 = .ok (.aload_n 1, 1) := by decide +kernel
theorem d_Ha_findFreeSlot_16 : decode m_Ha_findFreeSlot.2.1 16 = .ok (.iload_n 3, 1) := by decide +kernel
theorem d_Ha_findFreeSlot_17 : decode m_Ha_findFreeSlot.2.1 17 = .ok (.aaload, 1) := by decide +kernel
theorem d_Ha_findFreeSlot_18 : decode m_Ha_findFreeSlot.2.1 18 = .ok (.astore 4, 2) := by decide +kernel
theorem d_Ha_findFreeSlot_20 : decode m_Ha_findFreeSlot.2.1 20 = .ok (.aload 4, 2) := by decide +kernel
theorem d_Ha_findFreeSlot_22 : decode m_Ha_findFreeSlot.2.1 22 = .ok (.getfield 267, 3) := by decide +kernel
theorem d_Ha_findFreeSlot_25 : decode m_Ha_findFreeSlot.2.1 25 = .ok (.ifCond .ne 6, 3) := by decide +kernel
theorem d_Ha_findFreeSlot_28 : decode m_Ha_findFreeSlot.2.1 28 = .ok (.aload 4, 2) := by decide +kernel
theorem d_Ha_findFreeSlot_30 : decode m_Ha_findFreeSlot.2.1 30 = .ok (.areturn, 1) := by decide +kernel
theorem d_Ha_findFreeSlot_31 : decode m_Ha_findFreeSlot.2.1 31 = .ok (.iinc 3 1, 3) := by decide +kernel
theorem d_Ha_findFreeSlot_34 : decode m_Ha_findFreeSlot.2.1 34 = .ok (.goto (-24), 3) := by decide +kernel
theorem d_Ha_findFreeSlot_37 : decode m_Ha_findFreeSlot.2.1 37 = .ok (.aconst_null, 1) := by decide +kernel
theorem d_Ha_findFreeSlot_38 : decode m_Ha_findFreeSlot.2.1 38 = .ok (.areturn, 1) := by decide +kernel
theorem d_Gl_become_0 : decode m_Gl_become.2.1 0 = .ok (.aload_n 0, 1) := by decide +kernel
theorem d_Gl_become_1 : decode m_Gl_become.2.1 1 = .ok (.iload_n 1, 1) := by decide +kernel
theorem d_Gl_become_2 : decode m_Gl_become.2.1 2 = .ok (.putfield 24, 3) := by decide +kernel
theorem d_Gl_become_5 : decode m_Gl_become.2.1 5 = .ok (.aload_n 0, 1) := by decide +kernel
theorem d_Gl_become_6 : decode m_Gl_become.2.1 6 = .ok (.iload_n 2, 1) := by decide +kernel
theorem d_Gl_become_7 : decode m_Gl_become.2.1 7 = .ok (.putfield 28, 3) := by decide +kernel
theorem d_Gl_become_10 : decode m_Gl_become.2.1 10 = .ok (.aload_n 0, 1) := by decide +kernel
theorem d_Gl_become_11 : decode m_Gl_become.2.1 11 = .ok (.iconst 0, 1) := by decide +kernel
theorem d_Gl_become_12 : decode m_Gl_become.2.1 12 = .ok (.putfield 31, 3) := by decide +kernel
theorem d_Gl_become_15 : decode m_Gl_become.2.1 15 = .ok (.return_, 1) := by decide +kernel
theorem d_Ha_bringIn_0 : decode m_Ha_bringIn.2.1 0 = .ok (.aload_n 1, 1) := by decide +kernel
theorem d_Ha_bringIn_1 : decode m_Ha_bringIn.2.1 1 = .ok (.iconst 1, 1) := by decide +kernel
theorem d_Ha_bringIn_2 : decode m_Ha_bringIn.2.1 2 = .ok (.putfield 267, 3) := by decide +kernel
theorem d_Ha_bringIn_5 : decode m_Ha_bringIn.2.1 5 = .ok (.aload_n 1, 1) := by decide +kernel
theorem d_Ha_bringIn_6 : decode m_Ha_bringIn.2.1 6 = .ok (.aload_n 0, 1) := by decide +kernel
theorem d_Ha_bringIn_7 : decode m_Ha_bringIn.2.1 7 = .ok (.getfield 264, 3) := by decide +kernel
theorem d_Ha_bringIn_10 : decode m_Ha_bringIn.2.1 10 = .ok (.putfield 271, 3) := by decide +kernel
theorem d_Ha_bringIn_13 : decode m_Ha_bringIn.2.1 13 = .ok (.aload_n 0, 1) := by decide +kernel
theorem d_Ha_bringIn_14 : decode m_Ha_bringIn.2.1 14 = .ok (.dup, 1) := by decide +kernel
theorem d_Ha_bringIn_15 : decode m_Ha_bringIn.2.1 15 = .ok (.getfield 264, 3) := by decide +kernel
theorem d_Ha_bringIn_18 : decode m_Ha_bringIn.2.1 18 = .ok (.iconst 1, 1) := by decide +kernel
theorem d_Ha_bringIn_19 : decode m_Ha_bringIn.2.1 19 = .ok (.iadd, 1) := by decide +kernel
theorem d_Ha_bringIn_20 : decode m_Ha_bringIn.2.1 20 = .ok (.putfield 264, 3) := by decide +kernel
theorem d_Ha_bringIn_23 : decode m_Ha_bringIn.2.1 23 = .ok (.aload_n 1, 1) := by decide +kernel
theorem d_Ha_bringIn_24 : decode m_Ha_bringIn.2.1 24 = .ok (.getfield 271, 3) := by decide +kernel
theorem d_Ha_bringIn_27 : decode m_Ha_bringIn.2.1 27 = .ok (.ireturn, 1) := by decide +kernel
theorem d_Lw_flaw_0 : decode m_Lw_flaw.2.1 0 = .ok (.aload 6, 2) := by decide +kernel
theorem d_Lw_flaw_2 : decode m_Lw_flaw.2.1 2 = .ok (.iconst 0, 1) := by decide +kernel
theorem d_Lw_flaw_3 : decode m_Lw_flaw.2.1 3 = .ok (.aload_n 0, 1) := by decide +kernel
theorem d_Lw_flaw_4 : decode m_Lw_flaw.2.1 4 = .ok (.iload_n 1, 1) := by decide +kernel
theorem d_Lw_flaw_5 : decode m_Lw_flaw.2.1 5 = .ok (.iload_n 2, 1) := by decide +kernel
theorem d_Lw_flaw_6 : decode m_Lw_flaw.2.1 6 = .ok (.iload_n 3, 1) := by decide +kernel
theorem d_Lw_flaw_7 : decode m_Lw_flaw.2.1 7 = .ok (.iload 4, 2) := by decide +kernel
theorem d_Lw_flaw_9 : decode m_Lw_flaw.2.1 9 = .ok (.iload 5, 2) := by decide +kernel
theorem d_Lw_flaw_11 : decode m_Lw_flaw.2.1 11 = .ok (.invokevirtual 17, 3) := by decide +kernel
theorem d_Lw_flaw_14 : decode m_Lw_flaw.2.1 14 = .ok (.i2l, 1) := by decide +kernel
theorem d_Lw_flaw_15 : decode m_Lw_flaw.2.1 15 = .ok (.lastore, 1) := by decide +kernel
theorem d_Lw_flaw_16 : decode m_Lw_flaw.2.1 16 = .ok (.goto 15, 3) := by decide +kernel
theorem d_Lw_flaw_19 : decode m_Lw_flaw.2.1 19 = .ok (.astore 7, 2) := by decide +kernel
theorem d_Lw_flaw_21 : decode m_Lw_flaw.2.1 21 = .ok (.iconst 1, 1) := by decide +kernel
theorem d_Lw_flaw_22 : decode m_Lw_flaw.2.1 22 = .ok (.ireturn, 1) := by decide +kernel
theorem d_Lw_flaw_23 : decode m_Lw_flaw.2.1 23 = .ok (.astore 7, 2) := by decide +kernel
theorem d_Lw_flaw_25 : decode m_Lw_flaw.2.1 25 = .ok (.iconst 2, 1) := by decide +kernel
theorem d_Lw_flaw_26 : decode m_Lw_flaw.2.1 26 = .ok (.ireturn, 1) := by decide +kernel
theorem d_Lw_flaw_27 : decode m_Lw_flaw.2.1 27 = .ok (.astore 7, 2) := by decide +kernel
theorem d_Lw_flaw_29 : decode m_Lw_flaw.2.1 29 = .ok (.iconst 3, 1) := by decide +kernel
theorem d_Lw_flaw_30 : decode m_Lw_flaw.2.1 30 = .ok (.ireturn, 1) := by decide +kernel
theorem d_Lw_flaw_31 : decode m_Lw_flaw.2.1 31 = .ok (.iconst 0, 1) := by decide +kernel
theorem d_Lw_flaw_32 : decode m_Lw_flaw.2.1 32 = .ok (.ireturn, 1) := by decide +kernel
theorem d_Ha_flaw_0 : decode m_Ha_flaw.2.1 0 = .ok (.aload_n 0, 1) := by decide +kernel
theorem d_Ha_flaw_1 : decode m_Ha_flaw.2.1 1 = .ok (.iload_n 1, 1) := by decide +kernel
theorem d_Ha_flaw_2 : decode m_Ha_flaw.2.1 2 = .ok (.invokevirtual 89, 3) := by decide +kernel
theorem d_Ha_flaw_5 : decode m_Ha_flaw.2.1 5 = .ok (.astore 6, 2) := by decide +kernel
theorem d_Ha_flaw_7 : decode m_Ha_flaw.2.1 7 = .ok (.aload 6, 2) := by decide +kernel
theorem d_Ha_flaw_9 : decode m_Ha_flaw.2.1 9 = .ok (.getfield 67, 3) := by decide +kernel
theorem d_Ha_flaw_12 : decode m_Ha_flaw.2.1 12 = .ok (.astore 7, 2) := by decide +kernel
theorem d_Ha_flaw_14 : decode m_Ha_flaw.2.1 14 = .ok (.iload 4, 2) := by decide +kernel
theorem d_Ha_flaw_16 : decode m_Ha_flaw.2.1 16 = .ok (.iconst 1, 1) := by decide +kernel
theorem d_Ha_flaw_17 : decode m_Ha_flaw.2.1 17 = .ok (.if_icmp .lt 37, 3) := by decide +kernel
theorem d_Ha_flaw_20 : decode m_Ha_flaw.2.1 20 = .ok (.iload 5, 2) := by decide +kernel
theorem d_Ha_flaw_22 : decode m_Ha_flaw.2.1 22 = .ok (.iconst 1, 1) := by decide +kernel
theorem d_Ha_flaw_23 : decode m_Ha_flaw.2.1 23 = .ok (.if_icmp .lt 31, 3) := by decide +kernel
theorem d_Ha_flaw_26 : decode m_Ha_flaw.2.1 26 = .ok (.iload_n 2, 1) := by decide +kernel
theorem d_Ha_flaw_27 : decode m_Ha_flaw.2.1 27 = .ok (.iload 4, 2) := by decide +kernel
theorem d_Ha_flaw_29 : decode m_Ha_flaw.2.1 29 = .ok (.aload 7, 2) := by decide +kernel
theorem d_Ha_flaw_31 : decode m_Ha_flaw.2.1 31 = .ok (.getfield 93, 3) := by decide +kernel
theorem d_Ha_flaw_34 : decode m_Ha_flaw.2.1 34 = .ok (.invokestatic 97, 3) := by decide +kernel
theorem d_Ha_flaw_37 : decode m_Ha_flaw.2.1 37 = .ok (.ifCond .eq 17, 3) := by decide +kernel
theorem d_Ha_flaw_40 : decode m_Ha_flaw.2.1 40 = .ok (.iload_n 3, 1) := by decide +kernel
theorem d_Ha_flaw_41 : decode m_Ha_flaw.2.1 41 = .ok (.iload 5, 2) := by decide +kernel
theorem d_Ha_flaw_43 : decode m_Ha_flaw.2.1 43 = .ok (.aload 7, 2) := by decide +kernel
theorem d_Ha_flaw_45 : decode m_Ha_flaw.2.1 45 = .ok (.getfield 101, 3) := by decide +kernel
theorem d_Ha_flaw_48 : decode m_Ha_flaw.2.1 48 = .ok (.invokestatic 97, 3) := by decide +kernel
theorem d_Ha_flaw_51 : decode m_Ha_flaw.2.1 51 = .ok (.ifCond .ne 11, 3) := by decide +kernel
theorem d_Ha_flaw_54 : decode m_Ha_flaw.2.1 54 = .ok (.new 57, 3) := by decide +kernel
theorem d_Ha_flaw_57 : decode m_Ha_flaw.2.1 57 = .ok (.dup, 1) := by decide +kernel
theorem d_Ha_flaw_58 : decode m_Ha_flaw.2.1 58 = .ok (.invokespecial 59, 3) := by decide +kernel
theorem d_Ha_flaw_61 : decode m_Ha_flaw.2.1 61 = .ok (.athrow, 1) := by decide +kernel
theorem d_Ha_flaw_62 : decode m_Ha_flaw.2.1 62 = .ok (.aload 6, 2) := by decide +kernel
theorem d_Ha_flaw_64 : decode m_Ha_flaw.2.1 64 = .ok (.getfield 104, 3) := by decide +kernel
theorem d_Ha_flaw_67 : decode m_Ha_flaw.2.1 67 = .ok (.invokevirtual 108, 3) := by decide +kernel
theorem d_Ha_flaw_70 : decode m_Ha_flaw.2.1 70 = .ok (.ifCond .ne 13, 3) := by decide +kernel
theorem d_Ha_flaw_73 : decode m_Ha_flaw.2.1 73 = .ok (.aload 7, 2) := by decide +kernel
theorem d_Ha_flaw_75 : decode m_Ha_flaw.2.1 75 = .ok (.getfield 114, 3) := by decide +kernel
theorem d_Ha_flaw_78 : decode m_Ha_flaw.2.1 78 = .ok (.bipush 6, 2) := by decide +kernel
theorem d_Ha_flaw_80 : decode m_Ha_flaw.2.1 80 = .ok (.if_icmp .lt 11, 3) := by decide +kernel
theorem d_Ha_flaw_83 : decode m_Ha_flaw.2.1 83 = .ok (.new 64, 3) := by decide +kernel
theorem d_Ha_flaw_86 : decode m_Ha_flaw.2.1 86 = .ok (.dup, 1) := by decide +kernel
theorem d_Ha_flaw_87 : decode m_Ha_flaw.2.1 87 = .ok (.invokespecial 66, 3) := by decide +kernel
theorem d_Ha_flaw_90 : decode m_Ha_flaw.2.1 90 = .ok (.athrow, 1) := by decide +kernel
theorem d_Ha_flaw_91 : decode m_Ha_flaw.2.1 91 = .ok (.aload 7, 2) := by decide +kernel
theorem d_Ha_flaw_93 : decode m_Ha_flaw.2.1 93 = .ok (.iload_n 2, 1) := by decide +kernel
theorem d_Ha_flaw_94 : decode m_Ha_flaw.2.1 94 = .ok (.iload_n 3, 1) := by decide +kernel
theorem d_Ha_flaw_95 : decode m_Ha_flaw.2.1 95 = .ok (.iload 4, 2) := by decide +kernel
theorem d_Ha_flaw_97 : decode m_Ha_flaw.2.1 97 = .ok (.iload 5, 2) := by decide +kernel
theorem d_Ha_flaw_99 : decode m_Ha_flaw.2.1 99 = .ok (.invokevirtual 117, 3) := by decide +kernel
theorem d_Ha_flaw_102 : decode m_Ha_flaw.2.1 102 = .ok (.aload 7, 2) := by decide +kernel
theorem d_Ha_flaw_104 : decode m_Ha_flaw.2.1 104 = .ok (.getfield 114, 3) := by decide +kernel
theorem d_Ha_flaw_107 : decode m_Ha_flaw.2.1 107 = .ok (.ireturn, 1) := by decide +kernel
theorem d_Ha_findSheet_0 : decode m_Ha_findSheet.2.1 0 = .ok (.aload_n 0, 1) := by decide +kernel
theorem d_Ha_findSheet_1 : decode m_Ha_findSheet.2.1 1 = .ok (.getfield 11, 3) := by decide +kernel
theorem d_Ha_findSheet_4 : decode m_Ha_findSheet.2.1 4 = .ok (.astore_n 2, 1) := by decide +kernel
theorem d_Ha_findSheet_5 : decode m_Ha_findSheet.2.1 5 = .ok (.aload_n 2, 1) := by decide +kernel
theorem d_Ha_findSheet_6 : decode m_Ha_findSheet.2.1 6 = .ok (.arraylength, 1) := by decide +kernel
theorem d_Ha_findSheet_7 : decode m_Ha_findSheet.2.1 7 = .ok (.istore_n 3, 1) := by decide +kernel
theorem d_Ha_findSheet_8 : decode m_Ha_findSheet.2.1 8 = .ok (.iconst 0, 1) := by decide +kernel
theorem d_Ha_findSheet_9 : decode m_Ha_findSheet.2.1 9 = .ok (.istore 4, 2) := by decide +kernel
theorem d_Ha_findSheet_11 : decode m_Ha_findSheet.2.1 11 = .ok (.iload 4, 2) := by decide +kernel
theorem d_Ha_findSheet_13 : decode m_Ha_findSheet.2.1 13 = .ok (.iload_n 3, 1) := by decide +kernel
theorem d_Ha_findSheet_14 : decode m_Ha_findSheet.2.1 14 = .ok (.if_icmp .ge 35, 3) := by decide +kernel
theorem d_Ha_findSheet_17 : decode m_Ha_findSheet.2.1 17 = .ok (.aload_n 2, 1) := by decide +kernel
theorem d_Ha_findSheet_18 : decode m_Ha_findSheet.2.1 18 = .ok (.iload 4, 2) := by decide +kernel
theorem d_Ha_findSheet_20 : decode m_Ha_findSheet.2.1 20 = .ok (.aaload, 1) := by decide +kernel
theorem d_Ha_findSheet_21 : decode m_Ha_findSheet.2.1 21 = .ok (.astore 5, 2) := by decide +kernel
theorem d_Ha_findSheet_23 : decode m_Ha_findSheet.2.1 23 = .ok (.aload 5, 2) := by decide +kernel
theorem d_Ha_findSheet_25 : decode m_Ha_findSheet.2.1 25 = .ok (.getfield 267, 3) := by decide +kernel
theorem d_Ha_findSheet_28 : decode m_Ha_findSheet.2.1 28 = .ok (.ifCond .eq 15, 3) := by decide +kernel
theorem d_Ha_findSheet_31 : decode m_Ha_findSheet.2.1 31 = .ok (.aload 5, 2) := by decide +kernel
theorem d_Ha_findSheet_33 : decode m_Ha_findSheet.2.1 33 = .ok (.getfield 271, 3) := by decide +kernel
theorem d_Ha_findSheet_36 : decode m_Ha_findSheet.2.1 36 = .ok (.iload_n 1, 1) := by decide +kernel
theorem d_Ha_findSheet_37 : decode m_Ha_findSheet.2.1 37 = .ok (.if_icmp .ne 6, 3) := by decide +kernel
theorem d_Ha_findSheet_40 : decode m_Ha_findSheet.2.1 40 = .ok (.aload 5, 2) := by decide +kernel
theorem d_Ha_findSheet_42 : decode m_Ha_findSheet.2.1 42 = .ok (.areturn, 1) := by decide +kernel
theorem d_Ha_findSheet_43 : decode m_Ha_findSheet.2.1 43 = .ok (.iinc 4 1, 3) := by decide +kernel
theorem d_Ha_findSheet_46 : decode m_Ha_findSheet.2.1 46 = .ok (.goto (-35), 3) := by decide +kernel
theorem d_Ha_findSheet_49 : decode m_Ha_findSheet.2.1 49 = .ok (.new 147, 3) := by decide +kernel
theorem d_Ha_findSheet_52 : decode m_Ha_findSheet.2.1 52 = .ok (.dup, 1) := by decide +kernel
theorem d_Ha_findSheet_53 : decode m_Ha_findSheet.2.1 53 = .ok (.invokespecial 149, 3) := by decide +kernel
theorem d_Ha_findSheet_56 : decode m_Ha_findSheet.2.1 56 = .ok (.athrow, 1) := by decide +kernel
theorem d_Ha_liesIn_0 : decode m_Ha_liesIn.2.1 0 = .ok (.iload_n 0, 1) := by decide +kernel
theorem d_Ha_liesIn_1 : decode m_Ha_liesIn.2.1 1 = .ok (.ifCond .lt 14, 3) := by decide +kernel
theorem d_Ha_liesIn_4 : decode m_Ha_liesIn.2.1 4 = .ok (.iload_n 0, 1) := by decide +kernel
theorem d_Ha_liesIn_5 : decode m_Ha_liesIn.2.1 5 = .ok (.iload_n 2, 1) := by decide +kernel
theorem d_Ha_liesIn_6 : decode m_Ha_liesIn.2.1 6 = .ok (.iload_n 1, 1) := by decide +kernel
theorem d_Ha_liesIn_7 : decode m_Ha_liesIn.2.1 7 = .ok (.isub, 1) := by decide +kernel
theorem d_Ha_liesIn_8 : decode m_Ha_liesIn.2.1 8 = .ok (.if_icmp .gt 7, 3) := by decide +kernel
theorem d_Ha_liesIn_11 : decode m_Ha_liesIn.2.1 11 = .ok (.iconst 1, 1) := by decide +kernel
theorem d_Ha_liesIn_12 : decode m_Ha_liesIn.2.1 12 = .ok (.goto 4, 3) := by decide +kernel
theorem d_Ha_liesIn_15 : decode m_Ha_liesIn.2.1 15 = .ok (.iconst 0, 1) := by decide +kernel
theorem d_Ha_liesIn_16 : decode m_Ha_liesIn.2.1 16 = .ok (.ireturn, 1) := by decide +kernel
theorem d_Gl_addFlaw_0 : decode m_Gl_addFlaw.2.1 0 = .ok (.aload_n 0, 1) := by decide +kernel
theorem d_Gl_addFlaw_1 : decode m_Gl_addFlaw.2.1 1 = .ok (.getfield 31, 3) := by decide +kernel
theorem d_Gl_addFlaw_4 : decode m_Gl_addFlaw.2.1 4 = .ok (.bipush 6, 2) := by decide +kernel
theorem d_Gl_addFlaw_6 : decode m_Gl_addFlaw.2.1 6 = .ok (.if_icmp .lt 4, 3) := by decide +kernel
theorem d_Gl_addFlaw_9 : decode m_Gl_addFlaw.2.1 9 = .ok (.return_, 1) := by decide +kernel
theorem d_Gl_addFlaw_10 : decode m_Gl_addFlaw.2.1 10 = .ok (.aload_n 0, 1) := by decide +kernel
theorem d_Gl_addFlaw_11 : decode m_Gl_addFlaw.2.1 11 = .ok (.getfield 9, 3) := by decide +kernel
theorem d_Gl_addFlaw_14 : decode m_Gl_addFlaw.2.1 14 = .ok (.aload_n 0, 1) := by decide +kernel
theorem d_Gl_addFlaw_15 : decode m_Gl_addFlaw.2.1 15 = .ok (.getfield 31, 3) := by decide +kernel
theorem d_Gl_addFlaw_18 : decode m_Gl_addFlaw.2.1 18 = .ok (.iload_n 1, 1) := by decide +kernel
theorem d_Gl_addFlaw_19 : decode m_Gl_addFlaw.2.1 19 = .ok (.iastore, 1) := by decide +kernel
theorem d_Gl_addFlaw_20 : decode m_Gl_addFlaw.2.1 20 = .ok (.aload_n 0, 1) := by decide +kernel
theorem d_Gl_addFlaw_21 : decode m_Gl_addFlaw.2.1 21 = .ok (.getfield 15, 3) := by decide +kernel
theorem d_Gl_addFlaw_24 : decode m_Gl_addFlaw.2.1 24 = .ok (.aload_n 0, 1) := by decide +kernel
theorem d_Gl_addFlaw_25 : decode m_Gl_addFlaw.2.1 25 = .ok (.getfield 31, 3) := by decide +kernel
theorem d_Gl_addFlaw_28 : decode m_Gl_addFlaw.2.1 28 = .ok (.iload_n 2, 1) := by decide +kernel
theorem d_Gl_addFlaw_29 : decode m_Gl_addFlaw.2.1 29 = .ok (.iastore, 1) := by decide +kernel
theorem d_Gl_addFlaw_30 : decode m_Gl_addFlaw.2.1 30 = .ok (.aload_n 0, 1) := by decide +kernel
theorem d_Gl_addFlaw_31 : decode m_Gl_addFlaw.2.1 31 = .ok (.getfield 18, 3) := by decide +kernel
theorem d_Gl_addFlaw_34 : decode m_Gl_addFlaw.2.1 34 = .ok (.aload_n 0, 1) := by decide +kernel
theorem d_Gl_addFlaw_35 : decode m_Gl_addFlaw.2.1 35 = .ok (.getfield 31, 3) := by decide +kernel
theorem d_Gl_addFlaw_38 : decode m_Gl_addFlaw.2.1 38 = .ok (.iload_n 3, 1) := by decide +kernel
theorem d_Gl_addFlaw_39 : decode m_Gl_addFlaw.2.1 39 = .ok (.iastore, 1) := by decide +kernel
theorem d_Gl_addFlaw_40 : decode m_Gl_addFlaw.2.1 40 = .ok (.aload_n 0, 1) := by decide +kernel
theorem d_Gl_addFlaw_41 : decode m_Gl_addFlaw.2.1 41 = .ok (.getfield 21, 3) := by decide +kernel
theorem d_Gl_addFlaw_44 : decode m_Gl_addFlaw.2.1 44 = .ok (.aload_n 0, 1) := by decide +kernel
theorem d_Gl_addFlaw_45 : decode m_Gl_addFlaw.2.1 45 = .ok (.getfield 31, 3) := by decide +kernel
theorem d_Gl_addFlaw_48 : decode m_Gl_addFlaw.2.1 48 = .ok (.iload 4, 2) := by decide +kernel
theorem d_Gl_addFlaw_50 : decode m_Gl_addFlaw.2.1 50 = .ok (.iastore, 1) := by decide +kernel
theorem d_Gl_addFlaw_51 : decode m_Gl_addFlaw.2.1 51 = .ok (.aload_n 0, 1) := by decide +kernel
theorem d_Gl_addFlaw_52 : decode m_Gl_addFlaw.2.1 52 = .ok (.dup, 1) := by decide +kernel
theorem d_Gl_addFlaw_53 : decode m_Gl_addFlaw.2.1 53 = .ok (.getfield 31, 3) := by decide +kernel
theorem d_Gl_addFlaw_56 : decode m_Gl_addFlaw.2.1 56 = .ok (.iconst 1, 1) := by decide +kernel
theorem d_Gl_addFlaw_57 : decode m_Gl_addFlaw.2.1 57 = .ok (.iadd, 1) := by decide +kernel
theorem d_Gl_addFlaw_58 : decode m_Gl_addFlaw.2.1 58 = .ok (.putfield 31, 3) := by decide +kernel
theorem d_Gl_addFlaw_61 : decode m_Gl_addFlaw.2.1 61 = .ok (.return_, 1) := by decide +kernel
theorem d_Lw_order_0 : decode m_Lw_order.2.1 0 = .ok (.aload 5, 2) := by decide +kernel
theorem d_Lw_order_2 : decode m_Lw_order.2.1 2 = .ok (.iconst 0, 1) := by decide +kernel
theorem d_Lw_order_3 : decode m_Lw_order.2.1 3 = .ok (.aload_n 0, 1) := by decide +kernel
theorem d_Lw_order_4 : decode m_Lw_order.2.1 4 = .ok (.iload_n 1, 1) := by decide +kernel
theorem d_Lw_order_5 : decode m_Lw_order.2.1 5 = .ok (.iload_n 2, 1) := by decide +kernel
theorem d_Lw_order_6 : decode m_Lw_order.2.1 6 = .ok (.iload_n 3, 1) := by decide +kernel
theorem d_Lw_order_7 : decode m_Lw_order.2.1 7 = .ok (.iload 4, 2) := by decide +kernel
theorem d_Lw_order_9 : decode m_Lw_order.2.1 9 = .ok (.invokevirtual 23, 3) := by decide +kernel
theorem d_Lw_order_12 : decode m_Lw_order.2.1 12 = .ok (.i2l, 1) := by decide +kernel
theorem d_Lw_order_13 : decode m_Lw_order.2.1 13 = .ok (.lastore, 1) := by decide +kernel
theorem d_Lw_order_14 : decode m_Lw_order.2.1 14 = .ok (.goto 11, 3) := by decide +kernel
theorem d_Lw_order_17 : decode m_Lw_order.2.1 17 = .ok (.astore 6, 2) := by decide +kernel
theorem d_Lw_order_19 : decode m_Lw_order.2.1 19 = .ok (.iconst 1, 1) := by decide +kernel
theorem d_Lw_order_20 : decode m_Lw_order.2.1 20 = .ok (.ireturn, 1) := by decide +kernel
theorem d_Lw_order_21 : decode m_Lw_order.2.1 21 = .ok (.astore 6, 2) := by decide +kernel
theorem d_Lw_order_23 : decode m_Lw_order.2.1 23 = .ok (.iconst 2, 1) := by decide +kernel
theorem d_Lw_order_24 : decode m_Lw_order.2.1 24 = .ok (.ireturn, 1) := by decide +kernel
theorem d_Lw_order_25 : decode m_Lw_order.2.1 25 = .ok (.iconst 0, 1) := by decide +kernel
theorem d_Lw_order_26 : decode m_Lw_order.2.1 26 = .ok (.ireturn, 1) := by decide +kernel
theorem d_Ha_order_0 : decode m_Ha_order.2.1 0 = .ok (.iload_n 1, 1) := by decide +kernel
theorem d_Ha_order_1 : decode m_Ha_order.2.1 1 = .ok (.invokestatic 53, 3) := by decide +kernel
theorem d_Ha_order_4 : decode m_Ha_order.2.1 4 = .ok (.ifCond .eq 23, 3) := by decide +kernel
theorem d_Ha_order_7 : decode m_Ha_order.2.1 7 = .ok (.iload_n 2, 1) := by decide +kernel
theorem d_Ha_order_8 : decode m_Ha_order.2.1 8 = .ok (.invokestatic 53, 3) := by decide +kernel
theorem d_Ha_order_11 : decode m_Ha_order.2.1 11 = .ok (.ifCond .eq 16, 3) := by decide +kernel
theorem d_Ha_order_14 : decode m_Ha_order.2.1 14 = .ok (.iload 4, 2) := by decide +kernel
theorem d_Ha_order_16 : decode m_Ha_order.2.1 16 = .ok (.iconst 1, 1) := by decide +kernel
theorem d_Ha_order_17 : decode m_Ha_order.2.1 17 = .ok (.if_icmp .lt 10, 3) := by decide +kernel
theorem d_Ha_order_20 : decode m_Ha_order.2.1 20 = .ok (.iload 4, 2) := by decide +kernel
theorem d_Ha_order_22 : decode m_Ha_order.2.1 22 = .ok (.bipush 6, 2) := by decide +kernel
theorem d_Ha_order_24 : decode m_Ha_order.2.1 24 = .ok (.if_icmp .le 11, 3) := by decide +kernel
theorem d_Ha_order_27 : decode m_Ha_order.2.1 27 = .ok (.new 57, 3) := by decide +kernel
theorem d_Ha_order_30 : decode m_Ha_order.2.1 30 = .ok (.dup, 1) := by decide +kernel
theorem d_Ha_order_31 : decode m_Ha_order.2.1 31 = .ok (.invokespecial 59, 3) := by decide +kernel
theorem d_Ha_order_34 : decode m_Ha_order.2.1 34 = .ok (.athrow, 1) := by decide +kernel
theorem d_Ha_order_35 : decode m_Ha_order.2.1 35 = .ok (.aload_n 0, 1) := by decide +kernel
theorem d_Ha_order_36 : decode m_Ha_order.2.1 36 = .ok (.getfield 18, 3) := by decide +kernel
theorem d_Ha_order_39 : decode m_Ha_order.2.1 39 = .ok (.getfield 121, 3) := by decide +kernel
theorem d_Ha_order_42 : decode m_Ha_order.2.1 42 = .ok (.bipush 6, 2) := by decide +kernel
theorem d_Ha_order_44 : decode m_Ha_order.2.1 44 = .ok (.if_icmp .lt 11, 3) := by decide +kernel
theorem d_Ha_order_47 : decode m_Ha_order.2.1 47 = .ok (.new 64, 3) := by decide +kernel
theorem d_Ha_order_50 : decode m_Ha_order.2.1 50 = .ok (.dup, 1) := by decide +kernel
theorem d_Ha_order_51 : decode m_Ha_order.2.1 51 = .ok (.invokespecial 66, 3) := by decide +kernel
theorem d_Ha_order_54 : decode m_Ha_order.2.1 54 = .ok (.athrow, 1) := by decide +kernel
theorem d_Ha_order_55 : decode m_Ha_order.2.1 55 = .ok (.aload_n 0, 1) := by decide +kernel
theorem d_Ha_order_56 : decode m_Ha_order.2.1 56 = .ok (.getfield 18, 3) := by decide +kernel
theorem d_Ha_order_59 : decode m_Ha_order.2.1 59 = .ok (.new 124, 3) := by decide +kernel
theorem d_Ha_order_62 : decode m_Ha_order.2.1 62 = .ok (.dup, 1) := by decide +kernel
theorem d_Ha_order_63 : decode m_Ha_order.2.1 63 = .ok (.iload_n 1, 1) := by decide +kernel
theorem d_Ha_order_64 : decode m_Ha_order.2.1 64 = .ok (.iload_n 2, 1) := by decide +kernel
theorem d_Ha_order_65 : decode m_Ha_order.2.1 65 = .ok (.iload_n 3, 1) := by decide +kernel
theorem d_Ha_order_66 : decode m_Ha_order.2.1 66 = .ok (.iload 4, 2) := by decide +kernel
theorem d_Ha_order_68 : decode m_Ha_order.2.1 68 = .ok (.invokespecial 126, 3) := by decide +kernel
theorem d_Ha_order_71 : decode m_Ha_order.2.1 71 = .ok (.invokevirtual 129, 3) := by decide +kernel
theorem d_Ha_order_74 : decode m_Ha_order.2.1 74 = .ok (.ireturn, 1) := by decide +kernel
theorem d_Or_init_0 : decode m_Or_init.2.1 0 = .ok (.aload_n 0, 1) := by decide +kernel
theorem d_Or_init_1 : decode m_Or_init.2.1 1 = .ok (.invokespecial 1, 3) := by decide +kernel
theorem d_Or_init_4 : decode m_Or_init.2.1 4 = .ok (.aload_n 0, 1) := by decide +kernel
theorem d_Or_init_5 : decode m_Or_init.2.1 5 = .ok (.iload_n 1, 1) := by decide +kernel
theorem d_Or_init_6 : decode m_Or_init.2.1 6 = .ok (.putfield 7, 3) := by decide +kernel
theorem d_Or_init_9 : decode m_Or_init.2.1 9 = .ok (.aload_n 0, 1) := by decide +kernel
theorem d_Or_init_10 : decode m_Or_init.2.1 10 = .ok (.iload_n 2, 1) := by decide +kernel
theorem d_Or_init_11 : decode m_Or_init.2.1 11 = .ok (.putfield 13, 3) := by decide +kernel
theorem d_Or_init_14 : decode m_Or_init.2.1 14 = .ok (.aload_n 0, 1) := by decide +kernel
theorem d_Or_init_15 : decode m_Or_init.2.1 15 = .ok (.iload_n 3, 1) := by decide +kernel
theorem d_Or_init_16 : decode m_Or_init.2.1 16 = .ok (.putfield 16, 3) := by decide +kernel
theorem d_Or_init_19 : decode m_Or_init.2.1 19 = .ok (.aload_n 0, 1) := by decide +kernel
theorem d_Or_init_20 : decode m_Or_init.2.1 20 = .ok (.iload 4, 2) := by decide +kernel
theorem d_Or_init_22 : decode m_Or_init.2.1 22 = .ok (.putfield 20, 3) := by decide +kernel
theorem d_Or_init_25 : decode m_Or_init.2.1 25 = .ok (.return_, 1) := by decide +kernel
theorem d_Bk_add_0 : decode m_Bk_add.2.1 0 = .ok (.aload_n 0, 1) := by decide +kernel
theorem d_Bk_add_1 : decode m_Bk_add.2.1 1 = .ok (.getfield 21, 3) := by decide +kernel
theorem d_Bk_add_4 : decode m_Bk_add.2.1 4 = .ok (.bipush 6, 2) := by decide +kernel
theorem d_Bk_add_6 : decode m_Bk_add.2.1 6 = .ok (.if_icmp .lt 5, 3) := by decide +kernel
theorem d_Bk_add_9 : decode m_Bk_add.2.1 9 = .ok (.iconst (-1), 1) := by decide +kernel
theorem d_Bk_add_10 : decode m_Bk_add.2.1 10 = .ok (.ireturn, 1) := by decide +kernel
theorem d_Bk_add_11 : decode m_Bk_add.2.1 11 = .ok (.aload_n 0, 1) := by decide +kernel
theorem d_Bk_add_12 : decode m_Bk_add.2.1 12 = .ok (.getfield 21, 3) := by decide +kernel
theorem d_Bk_add_15 : decode m_Bk_add.2.1 15 = .ok (.istore_n 2, 1) := by decide +kernel
theorem d_Bk_add_16 : decode m_Bk_add.2.1 16 = .ok (.iload_n 2, 1) := by decide +kernel
theorem d_Bk_add_17 : decode m_Bk_add.2.1 17 = .ok (.istore_n 3, 1) := by decide +kernel
theorem d_Bk_add_18 : decode m_Bk_add.2.1 18 = .ok (.iload_n 3, 1) := by decide +kernel
theorem d_Bk_add_19 : decode m_Bk_add.2.1 19 = .ok (.ifCond .le 43, 3) := by decide +kernel
theorem d_Bk_add_22 : decode m_Bk_add.2.1 22 = .ok (.aload_n 1, 1) := by decide +kernel
theorem d_Bk_add_23 : decode m_Bk_add.2.1 23 = .ok (.aload_n 0, 1) := by decide +kernel
theorem d_Bk_add_24 : decode m_Bk_add.2.1 24 = .ok (.getfield 11, 3) := by decide +kernel
theorem d_Bk_add_27 : decode m_Bk_add.2.1 27 = .ok (.aload_n 0, 1) := by decide +kernel
theorem d_Bk_add_28 : decode m_Bk_add.2.1 28 = .ok (.getfield 17, 3) := by decide +kernel
theorem d_Bk_add_31 : decode m_Bk_add.2.1 31 = .ok (.iload_n 3, 1) := by decide +kernel
theorem d_Bk_add_32 : decode m_Bk_add.2.1 32 = .ok (.iconst 1, 1) := by decide +kernel
theorem d_Bk_add_33 : decode m_Bk_add.2.1 33 = .ok (.isub, 1) := by decide +kernel
theorem d_Bk_add_34 : decode m_Bk_add.2.1 34 = .ok (.iaload, 1) := by decide +kernel
theorem d_Bk_add_35 : decode m_Bk_add.2.1 35 = .ok (.aaload, 1) := by decide +kernel
theorem d_Bk_add_36 : decode m_Bk_add.2.1 36 = .ok (.invokevirtual 25, 3) := by decide +kernel
theorem d_Bk_add_39 : decode m_Bk_add.2.1 39 = .ok (.ifCond .eq 23, 3) := by decide +kernel
theorem d_Bk_add_42 : decode m_Bk_add.2.1 42 = .ok (.aload_n 0, 1) := by decide +kernel
theorem d_Bk_add_43 : decode m_Bk_add.2.1 43 = .ok (.getfield 17, 3) := by decide +kernel
theorem d_Bk_add_46 : decode m_Bk_add.2.1 46 = .ok (.iload_n 3, 1) := by decide +kernel
theorem d_Bk_add_47 : decode m_Bk_add.2.1 47 = .ok (.aload_n 0, 1) := by decide +kernel
theorem d_Bk_add_48 : decode m_Bk_add.2.1 48 = .ok (.getfield 17, 3) := by decide +kernel
theorem d_Bk_add_51 : decode m_Bk_add.2.1 51 = .ok (.iload_n 3, 1) := by decide +kernel
theorem d_Bk_add_52 : decode m_Bk_add.2.1 52 = .ok (.iconst 1, 1) := by decide +kernel
theorem d_Bk_add_53 : decode m_Bk_add.2.1 53 = .ok (.isub, 1) := by decide +kernel
theorem d_Bk_add_54 : decode m_Bk_add.2.1 54 = .ok (.iaload, 1) := by decide +kernel
theorem d_Bk_add_55 : decode m_Bk_add.2.1 55 = .ok (.iastore, 1) := by decide +kernel
theorem d_Bk_add_56 : decode m_Bk_add.2.1 56 = .ok (.iinc 3 (-1), 3) := by decide +kernel
theorem d_Bk_add_59 : decode m_Bk_add.2.1 59 = .ok (.goto (-41), 3) := by decide +kernel
theorem d_Bk_add_62 : decode m_Bk_add.2.1 62 = .ok (.aload_n 0, 1) := by decide +kernel
theorem d_Bk_add_63 : decode m_Bk_add.2.1 63 = .ok (.getfield 17, 3) := by decide +kernel
theorem d_Bk_add_66 : decode m_Bk_add.2.1 66 = .ok (.iload_n 3, 1) := by decide +kernel
theorem d_Bk_add_67 : decode m_Bk_add.2.1 67 = .ok (.iload_n 2, 1) := by decide +kernel
theorem d_Bk_add_68 : decode m_Bk_add.2.1 68 = .ok (.iastore, 1) := by decide +kernel
theorem d_Bk_add_69 : decode m_Bk_add.2.1 69 = .ok (.aload_n 0, 1) := by decide +kernel
theorem d_Bk_add_70 : decode m_Bk_add.2.1 70 = .ok (.getfield 11, 3) := by decide +kernel
theorem d_Bk_add_73 : decode m_Bk_add.2.1 73 = .ok (.iload_n 2, 1) := by decide +kernel
theorem d_Bk_add_74 : decode m_Bk_add.2.1 74 = .ok (.aload_n 1, 1) := by decide +kernel
theorem d_Bk_add_75 : decode m_Bk_add.2.1 75 = .ok (.aastore, 1) := by decide +kernel
theorem d_Bk_add_76 : decode m_Bk_add.2.1 76 = .ok (.aload_n 0, 1) := by decide +kernel
theorem d_Bk_add_77 : decode m_Bk_add.2.1 77 = .ok (.dup, 1) := by decide +kernel
theorem d_Bk_add_78 : decode m_Bk_add.2.1 78 = .ok (.getfield 21, 3) := by decide +kernel
theorem d_Bk_add_81 : decode m_Bk_add.2.1 81 = .ok (.iconst 1, 1) := by decide +kernel
theorem d_Bk_add_82 : decode m_Bk_add.2.1 82 = .ok (.iadd, 1) := by decide +kernel
theorem d_Bk_add_83 : decode m_Bk_add.2.1 83 = .ok (.putfield 21, 3) := by decide +kernel
theorem d_Bk_add_86 : decode m_Bk_add.2.1 86 = .ok (.iload_n 2, 1) := by decide +kernel
theorem d_Bk_add_87 : decode m_Bk_add.2.1 87 = .ok (.ireturn, 1) := by decide +kernel
theorem d_Or_goesBefore_0 : decode m_Or_goesBefore.2.1 0 = .ok (.aload_n 0, 1) := by decide +kernel
theorem d_Or_goesBefore_1 : decode m_Or_goesBefore.2.1 1 = .ok (.getfield 13, 3) := by decide +kernel
theorem d_Or_goesBefore_4 : decode m_Or_goesBefore.2.1 4 = .ok (.aload_n 1, 1) := by decide +kernel
theorem d_Or_goesBefore_5 : decode m_Or_goesBefore.2.1 5 = .ok (.getfield 13, 3) := by decide +kernel
theorem d_Or_goesBefore_8 : decode m_Or_goesBefore.2.1 8 = .ok (.if_icmp .eq 22, 3) := by decide +kernel
theorem d_Or_goesBefore_11 : decode m_Or_goesBefore.2.1 11 = .ok (.aload_n 0, 1) := by decide +kernel
theorem d_Or_goesBefore_12 : decode m_Or_goesBefore.2.1 12 = .ok (.getfield 13, 3) := by decide +kernel
theorem d_Or_goesBefore_15 : decode m_Or_goesBefore.2.1 15 = .ok (.aload_n 1, 1) := by decide +kernel
theorem d_Or_goesBefore_16 : decode m_Or_goesBefore.2.1 16 = .ok (.getfield 13, 3) := by decide +kernel
theorem d_Or_goesBefore_19 : decode m_Or_goesBefore.2.1 19 = .ok (.if_icmp .le 7, 3) := by decide +kernel
theorem d_Or_goesBefore_22 : decode m_Or_goesBefore.2.1 22 = .ok (.iconst 1, 1) := by decide +kernel
theorem d_Or_goesBefore_23 : decode m_Or_goesBefore.2.1 23 = .ok (.goto 23, 3) := by decide +kernel
theorem d_Or_goesBefore_26 : decode m_Or_goesBefore.2.1 26 = .ok (.iconst 0, 1) := by decide +kernel
theorem d_Or_goesBefore_27 : decode m_Or_goesBefore.2.1 27 = .ok (.goto 19, 3) := by decide +kernel
theorem d_Or_goesBefore_30 : decode m_Or_goesBefore.2.1 30 = .ok (.aload_n 0, 1) := by decide +kernel
theorem d_Or_goesBefore_31 : decode m_Or_goesBefore.2.1 31 = .ok (.getfield 7, 3) := by decide +kernel
theorem d_Or_goesBefore_34 : decode m_Or_goesBefore.2.1 34 = .ok (.aload_n 1, 1) := by decide +kernel
theorem d_Or_goesBefore_35 : decode m_Or_goesBefore.2.1 35 = .ok (.getfield 7, 3) := by decide +kernel
theorem d_Or_goesBefore_38 : decode m_Or_goesBefore.2.1 38 = .ok (.if_icmp .le 7, 3) := by decide +kernel
theorem d_Or_goesBefore_41 : decode m_Or_goesBefore.2.1 41 = .ok (.iconst 1, 1) := by decide +kernel
theorem d_Or_goesBefore_42 : decode m_Or_goesBefore.2.1 42 = .ok (.goto 4, 3) := by decide +kernel
theorem d_Or_goesBefore_45 : decode m_Or_goesBefore.2.1 45 = .ok (.iconst 0, 1) := by decide +kernel
theorem d_Or_goesBefore_46 : decode m_Or_goesBefore.2.1 46 = .ok (.ireturn, 1) := by decide +kernel
theorem d_Lw_plan_0 : decode m_Lw_plan.2.1 0 = .ok (.aload_n 2, 1) := by decide +kernel
theorem d_Lw_plan_1 : decode m_Lw_plan.2.1 1 = .ok (.iconst 0, 1) := by decide +kernel
theorem d_Lw_plan_2 : decode m_Lw_plan.2.1 2 = .ok (.aload_n 0, 1) := by decide +kernel
theorem d_Lw_plan_3 : decode m_Lw_plan.2.1 3 = .ok (.iload_n 1, 1) := by decide +kernel
theorem d_Lw_plan_4 : decode m_Lw_plan.2.1 4 = .ok (.invokevirtual 27, 3) := by decide +kernel
theorem d_Lw_plan_7 : decode m_Lw_plan.2.1 7 = .ok (.i2l, 1) := by decide +kernel
theorem d_Lw_plan_8 : decode m_Lw_plan.2.1 8 = .ok (.lastore, 1) := by decide +kernel
theorem d_Lw_plan_9 : decode m_Lw_plan.2.1 9 = .ok (.goto 9, 3) := by decide +kernel
theorem d_Lw_plan_12 : decode m_Lw_plan.2.1 12 = .ok (.astore_n 3, 1) := by decide +kernel
theorem d_Lw_plan_13 : decode m_Lw_plan.2.1 13 = .ok (.iconst 1, 1) := by decide +kernel
theorem d_Lw_plan_14 : decode m_Lw_plan.2.1 14 = .ok (.ireturn, 1) := by decide +kernel
theorem d_Lw_plan_15 : decode m_Lw_plan.2.1 15 = .ok (.astore_n 3, 1) := by decide +kernel
theorem d_Lw_plan_16 : decode m_Lw_plan.2.1 16 = .ok (.iconst 2, 1) := by decide +kernel
theorem d_Lw_plan_17 : decode m_Lw_plan.2.1 17 = .ok (.ireturn, 1) := by decide +kernel
