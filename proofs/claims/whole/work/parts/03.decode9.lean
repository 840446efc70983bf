theorem d_Lw_law_921 : decode m_Lw_law.2.1 921 = .ok (.goto 307, 3) := by decide +kernel
theorem d_Lw_law_924 : decode m_Lw_law.2.1 924 = .ok (.aload_n 1, 1) := by decide +kernel
theorem d_Lw_law_925 : decode m_Lw_law.2.1 925 = .ok (.aload_n 0, 1) := by decide +kernel
theorem d_Lw_law_926 : decode m_Lw_law.2.1 926 = .ok (.iload 4, 2) := by decide +kernel
theorem d_Lw_law_928 : decode m_Lw_law.2.1 928 = .ok (.iconst 1, 1) := by decide +kernel
theorem d_Lw_law_929 : decode m_Lw_law.2.1 929 = .ok (.iadd, 1) := by decide +kernel
theorem d_Lw_law_930 : decode m_Lw_law.2.1 930 = .ok (.iaload, 1) := by decide +kernel
theorem d_Lw_law_931 : decode m_Lw_law.2.1 931 = .ok (.aload_n 0, 1) := by decide +kernel
theorem d_Lw_law_932 : decode m_Lw_law.2.1 932 = .ok (.iload 4, 2) := by decide +kernel
theorem d_Lw_law_934 : decode m_Lw_law.2.1 934 = .ok (.iconst 2, 1) := by decide +kernel
theorem d_Lw_law_935 : decode m_Lw_law.2.1 935 = .ok (.iadd, 1) := by decide +kernel
theorem d_Lw_law_936 : decode m_Lw_law.2.1 936 = .ok (.iaload, 1) := by decide +kernel
theorem d_Lw_law_937 : decode m_Lw_law.2.1 937 = .ok (.aload_n 3, 1) := by decide +kernel
theorem d_Lw_law_938 : decode m_Lw_law.2.1 938 = .ok (.invokestatic 114, 3) := by decide +kernel
theorem d_Lw_law_941 : decode m_Lw_law.2.1 941 = .ok (.istore 5, 2) := by decide +kernel
theorem d_Lw_law_943 : decode m_Lw_law.2.1 943 = .ok (.aload_n 2, 1) := by decide +kernel
theorem d_Lw_law_944 : decode m_Lw_law.2.1 944 = .ok (.aload_n 0, 1) := by decide +kernel
theorem d_Lw_law_945 : decode m_Lw_law.2.1 945 = .ok (.iload 4, 2) := by decide +kernel
theorem d_Lw_law_947 : decode m_Lw_law.2.1 947 = .ok (.iconst 1, 1) := by decide +kernel
theorem d_Lw_law_948 : decode m_Lw_law.2.1 948 = .ok (.iadd, 1) := by decide +kernel
theorem d_Lw_law_949 : decode m_Lw_law.2.1 949 = .ok (.iaload, 1) := by decide +kernel
theorem d_Lw_law_950 : decode m_Lw_law.2.1 950 = .ok (.aload_n 0, 1) := by decide +kernel
theorem d_Lw_law_951 : decode m_Lw_law.2.1 951 = .ok (.iload 4, 2) := by decide +kernel
theorem d_Lw_law_953 : decode m_Lw_law.2.1 953 = .ok (.iconst 2, 1) := by decide +kernel
theorem d_Lw_law_954 : decode m_Lw_law.2.1 954 = .ok (.iadd, 1) := by decide +kernel
theorem d_Lw_law_955 : decode m_Lw_law.2.1 955 = .ok (.iaload, 1) := by decide +kernel
theorem d_Lw_law_956 : decode m_Lw_law.2.1 956 = .ok (.invokevirtual 116, 3) := by decide +kernel
theorem d_Lw_law_959 : decode m_Lw_law.2.1 959 = .ok (.istore 6, 2) := by decide +kernel
theorem d_Lw_law_961 : decode m_Lw_law.2.1 961 = .ok (.aload_n 2, 1) := by decide +kernel
theorem d_Lw_law_962 : decode m_Lw_law.2.1 962 = .ok (.invokevirtual 75, 3) := by decide +kernel
theorem d_Lw_law_965 : decode m_Lw_law.2.1 965 = .ok (.iload 5, 2) := by decide +kernel
theorem d_Lw_law_967 : decode m_Lw_law.2.1 967 = .ok (.if_icmp .eq 5, 3) := by decide +kernel
theorem d_Lw_law_970 : decode m_Lw_law.2.1 970 = .ok (.iconst 0, 1) := by decide +kernel
theorem d_Lw_law_971 : decode m_Lw_law.2.1 971 = .ok (.ireturn, 1) := by decide +kernel
theorem d_Lw_law_972 : decode m_Lw_law.2.1 972 = .ok (.iload 5, 2) := by decide +kernel
theorem d_Lw_law_974 : decode m_Lw_law.2.1 974 = .ok (.ifCond .ne 15, 3) := by decide +kernel
theorem d_Lw_law_977 : decode m_Lw_law.2.1 977 = .ok (.aload_n 3, 1) := by decide +kernel
theorem d_Lw_law_978 : decode m_Lw_law.2.1 978 = .ok (.iconst 0, 1) := by decide +kernel
theorem d_Lw_law_979 : decode m_Lw_law.2.1 979 = .ok (.laload, 1) := by decide +kernel
theorem d_Lw_law_980 : decode m_Lw_law.2.1 980 = .ok (.iload 6, 2) := by decide +kernel
theorem d_Lw_law_982 : decode m_Lw_law.2.1 982 = .ok (.i2l, 1) := by decide +kernel
theorem d_Lw_law_983 : decode m_Lw_law.2.1 983 = .ok (.lcmp, 1) := by decide +kernel
theorem d_Lw_law_984 : decode m_Lw_law.2.1 984 = .ok (.ifCond .eq 5, 3) := by decide +kernel
theorem d_Lw_law_987 : decode m_Lw_law.2.1 987 = .ok (.iconst 0, 1) := by decide +kernel
theorem d_Lw_law_988 : decode m_Lw_law.2.1 988 = .ok (.ireturn, 1) := by decide +kernel
theorem d_Lw_law_989 : decode m_Lw_law.2.1 989 = .ok (.goto 239, 3) := by decide +kernel
theorem d_Lw_law_992 : decode m_Lw_law.2.1 992 = .ok (.aload_n 1, 1) := by decide +kernel
theorem d_Lw_law_993 : decode m_Lw_law.2.1 993 = .ok (.aload_n 0, 1) := by decide +kernel
theorem d_Lw_law_994 : decode m_Lw_law.2.1 994 = .ok (.iload 4, 2) := by decide +kernel
theorem d_Lw_law_996 : decode m_Lw_law.2.1 996 = .ok (.iconst 1, 1) := by decide +kernel
theorem d_Lw_law_997 : decode m_Lw_law.2.1 997 = .ok (.iadd, 1) := by decide +kernel
theorem d_Lw_law_998 : decode m_Lw_law.2.1 998 = .ok (.iaload, 1) := by decide +kernel
theorem d_Lw_law_999 : decode m_Lw_law.2.1 999 = .ok (.aload_n 0, 1) := by decide +kernel
theorem d_Lw_law_1000 : decode m_Lw_law.2.1 1000 = .ok (.iload 4, 2) := by decide +kernel
theorem d_Lw_law_1002 : decode m_Lw_law.2.1 1002 = .ok (.iconst 2, 1) := by decide +kernel
theorem d_Lw_law_1003 : decode m_Lw_law.2.1 1003 = .ok (.iadd, 1) := by decide +kernel
theorem d_Lw_law_1004 : decode m_Lw_law.2.1 1004 = .ok (.iaload, 1) := by decide +kernel
theorem d_Lw_law_1005 : decode m_Lw_law.2.1 1005 = .ok (.invokevirtual 117, 3) := by decide +kernel
theorem d_Lw_law_1008 : decode m_Lw_law.2.1 1008 = .ok (.aload_n 2, 1) := by decide +kernel
theorem d_Lw_law_1009 : decode m_Lw_law.2.1 1009 = .ok (.aload_n 0, 1) := by decide +kernel
theorem d_Lw_law_1010 : decode m_Lw_law.2.1 1010 = .ok (.iload 4, 2) := by decide +kernel
theorem d_Lw_law_1012 : decode m_Lw_law.2.1 1012 = .ok (.iconst 1, 1) := by decide +kernel
theorem d_Lw_law_1013 : decode m_Lw_law.2.1 1013 = .ok (.iadd, 1) := by decide +kernel
theorem d_Lw_law_1014 : decode m_Lw_law.2.1 1014 = .ok (.iaload, 1) := by decide +kernel
theorem d_Lw_law_1015 : decode m_Lw_law.2.1 1015 = .ok (.aload_n 0, 1) := by decide +kernel
theorem d_Lw_law_1016 : decode m_Lw_law.2.1 1016 = .ok (.iload 4, 2) := by decide +kernel
theorem d_Lw_law_1018 : decode m_Lw_law.2.1 1018 = .ok (.iconst 2, 1) := by decide +kernel
theorem d_Lw_law_1019 : decode m_Lw_law.2.1 1019 = .ok (.iadd, 1) := by decide +kernel
theorem d_Lw_law_1020 : decode m_Lw_law.2.1 1020 = .ok (.iaload, 1) := by decide +kernel
theorem d_Lw_law_1021 : decode m_Lw_law.2.1 1021 = .ok (.invokevirtual 120, 3) := by decide +kernel
theorem d_Lw_law_1024 : decode m_Lw_law.2.1 1024 = .ok (.if_icmp .eq 204, 3) := by decide +kernel
theorem d_Lw_law_1027 : decode m_Lw_law.2.1 1027 = .ok (.iconst 0, 1) := by decide +kernel
theorem d_Lw_law_1028 : decode m_Lw_law.2.1 1028 = .ok (.ireturn, 1) := by decide +kernel
theorem d_Lw_law_1029 : decode m_Lw_law.2.1 1029 = .ok (.aload_n 1, 1) := by decide +kernel
theorem d_Lw_law_1030 : decode m_Lw_law.2.1 1030 = .ok (.aload_n 0, 1) := by decide +kernel
theorem d_Lw_law_1031 : decode m_Lw_law.2.1 1031 = .ok (.iload 4, 2) := by decide +kernel
theorem d_Lw_law_1033 : decode m_Lw_law.2.1 1033 = .ok (.iconst 1, 1) := by decide +kernel
theorem d_Lw_law_1034 : decode m_Lw_law.2.1 1034 = .ok (.iadd, 1) := by decide +kernel
theorem d_Lw_law_1035 : decode m_Lw_law.2.1 1035 = .ok (.iaload, 1) := by decide +kernel
theorem d_Lw_law_1036 : decode m_Lw_law.2.1 1036 = .ok (.aload_n 0, 1) := by decide +kernel
theorem d_Lw_law_1037 : decode m_Lw_law.2.1 1037 = .ok (.iload 4, 2) := by decide +kernel
theorem d_Lw_law_1039 : decode m_Lw_law.2.1 1039 = .ok (.iconst 2, 1) := by decide +kernel
theorem d_Lw_law_1040 : decode m_Lw_law.2.1 1040 = .ok (.iadd, 1) := by decide +kernel
theorem d_Lw_law_1041 : decode m_Lw_law.2.1 1041 = .ok (.iaload, 1) := by decide +kernel
theorem d_Lw_law_1042 : decode m_Lw_law.2.1 1042 = .ok (.aload_n 0, 1) := by decide +kernel
theorem d_Lw_law_1043 : decode m_Lw_law.2.1 1043 = .ok (.iload 4, 2) := by decide +kernel
theorem d_Lw_law_1045 : decode m_Lw_law.2.1 1045 = .ok (.iconst 3, 1) := by decide +kernel
theorem d_Lw_law_1046 : decode m_Lw_law.2.1 1046 = .ok (.iadd, 1) := by decide +kernel
theorem d_Lw_law_1047 : decode m_Lw_law.2.1 1047 = .ok (.iaload, 1) := by decide +kernel
theorem d_Lw_law_1048 : decode m_Lw_law.2.1 1048 = .ok (.aload_n 3, 1) := by decide +kernel
theorem d_Lw_law_1049 : decode m_Lw_law.2.1 1049 = .ok (.invokestatic 121, 3) := by decide +kernel
theorem d_Lw_law_1052 : decode m_Lw_law.2.1 1052 = .ok (.istore 5, 2) := by decide +kernel
theorem d_Lw_law_1054 : decode m_Lw_law.2.1 1054 = .ok (.aload_n 2, 1) := by decide +kernel
theorem d_Lw_law_1055 : decode m_Lw_law.2.1 1055 = .ok (.aload_n 0, 1) := by decide +kernel
theorem d_Lw_law_1056 : decode m_Lw_law.2.1 1056 = .ok (.iload 4, 2) := by decide +kernel
theorem d_Lw_law_1058 : decode m_Lw_law.2.1 1058 = .ok (.iconst 1, 1) := by decide +kernel
theorem d_Lw_law_1059 : decode m_Lw_law.2.1 1059 = .ok (.iadd, 1) := by decide +kernel
theorem d_Lw_law_1060 : decode m_Lw_law.2.1 1060 = .ok (.iaload, 1) := by decide +kernel
theorem d_Lw_law_1061 : decode m_Lw_law.2.1 1061 = .ok (.aload_n 0, 1) := by decide +kernel
theorem d_Lw_law_1062 : decode m_Lw_law.2.1 1062 = .ok (.iload 4, 2) := by decide +kernel
theorem d_Lw_law_1064 : decode m_Lw_law.2.1 1064 = .ok (.iconst 2, 1) := by decide +kernel
theorem d_Lw_law_1065 : decode m_Lw_law.2.1 1065 = .ok (.iadd, 1) := by decide +kernel
theorem d_Lw_law_1066 : decode m_Lw_law.2.1 1066 = .ok (.iaload, 1) := by decide +kernel
theorem d_Lw_law_1067 : decode m_Lw_law.2.1 1067 = .ok (.aload_n 0, 1) := by decide +kernel
theorem d_Lw_law_1068 : decode m_Lw_law.2.1 1068 = .ok (.iload 4, 2) := by decide +kernel
theorem d_Lw_law_1070 : decode m_Lw_law.2.1 1070 = .ok (.iconst 3, 1) := by decide +kernel
theorem d_Lw_law_1071 : decode m_Lw_law.2.1 1071 = .ok (.iadd, 1) := by decide +kernel
theorem d_Lw_law_1072 : decode m_Lw_law.2.1 1072 = .ok (.iaload, 1) := by decide +kernel
theorem d_Lw_law_1073 : decode m_Lw_law.2.1 1073 = .ok (.invokevirtual 123, 3) := by decide +kernel
theorem d_Lw_law_1076 : decode m_Lw_law.2.1 1076 = .ok (.istore 6, 2) := by decide +kernel
theorem d_Lw_law_1078 : decode m_Lw_law.2.1 1078 = .ok (.aload_n 2, 1) := by decide +kernel
theorem d_Lw_law_1079 : decode m_Lw_law.2.1 1079 = .ok (.invokevirtual 75, 3) := by decide +kernel
theorem d_Lw_law_1082 : decode m_Lw_law.2.1 1082 = .ok (.iload 5, 2) := by decide +kernel
theorem d_Lw_law_1084 : decode m_Lw_law.2.1 1084 = .ok (.if_icmp .eq 5, 3) := by decide +kernel
theorem d_Lw_law_1087 : decode m_Lw_law.2.1 1087 = .ok (.iconst 0, 1) := by decide +kernel
theorem d_Lw_law_1088 : decode m_Lw_law.2.1 1088 = .ok (.ireturn, 1) := by decide +kernel
theorem d_Lw_law_1089 : decode m_Lw_law.2.1 1089 = .ok (.iload 5, 2) := by decide +kernel
theorem d_Lw_law_1091 : decode m_Lw_law.2.1 1091 = .ok (.ifCond .ne 15, 3) := by decide +kernel
theorem d_Lw_law_1094 : decode m_Lw_law.2.1 1094 = .ok (.aload_n 3, 1) := by decide +kernel
theorem d_Lw_law_1095 : decode m_Lw_law.2.1 1095 = .ok (.iconst 0, 1) := by decide +kernel
theorem d_Lw_law_1096 : decode m_Lw_law.2.1 1096 = .ok (.laload, 1) := by decide +kernel
theorem d_Lw_law_1097 : decode m_Lw_law.2.1 1097 = .ok (.iload 6, 2) := by decide +kernel
theorem d_Lw_law_1099 : decode m_Lw_law.2.1 1099 = .ok (.i2l, 1) := by decide +kernel
theorem d_Lw_law_1100 : decode m_Lw_law.2.1 1100 = .ok (.lcmp, 1) := by decide +kernel
theorem d_Lw_law_1101 : decode m_Lw_law.2.1 1101 = .ok (.ifCond .eq 5, 3) := by decide +kernel
theorem d_Lw_law_1104 : decode m_Lw_law.2.1 1104 = .ok (.iconst 0, 1) := by decide +kernel
theorem d_Lw_law_1105 : decode m_Lw_law.2.1 1105 = .ok (.ireturn, 1) := by decide +kernel
theorem d_Lw_law_1106 : decode m_Lw_law.2.1 1106 = .ok (.goto 122, 3) := by decide +kernel
theorem d_Lw_law_1109 : decode m_Lw_law.2.1 1109 = .ok (.aload_n 1, 1) := by decide +kernel
theorem d_Lw_law_1110 : decode m_Lw_law.2.1 1110 = .ok (.aload_n 0, 1) := by decide +kernel
theorem d_Lw_law_1111 : decode m_Lw_law.2.1 1111 = .ok (.iload 4, 2) := by decide +kernel
theorem d_Lw_law_1113 : decode m_Lw_law.2.1 1113 = .ok (.iconst 1, 1) := by decide +kernel
theorem d_Lw_law_1114 : decode m_Lw_law.2.1 1114 = .ok (.iadd, 1) := by decide +kernel
theorem d_Lw_law_1115 : decode m_Lw_law.2.1 1115 = .ok (.iaload, 1) := by decide +kernel
theorem d_Lw_law_1116 : decode m_Lw_law.2.1 1116 = .ok (.aload_n 0, 1) := by decide +kernel
theorem d_Lw_law_1117 : decode m_Lw_law.2.1 1117 = .ok (.iload 4, 2) := by decide +kernel
theorem d_Lw_law_1119 : decode m_Lw_law.2.1 1119 = .ok (.iconst 2, 1) := by decide +kernel
theorem d_Lw_law_1120 : decode m_Lw_law.2.1 1120 = .ok (.iadd, 1) := by decide +kernel
theorem d_Lw_law_1121 : decode m_Lw_law.2.1 1121 = .ok (.iaload, 1) := by decide +kernel
theorem d_Lw_law_1122 : decode m_Lw_law.2.1 1122 = .ok (.aload_n 3, 1) := by decide +kernel
theorem d_Lw_law_1123 : decode m_Lw_law.2.1 1123 = .ok (.invokestatic 124, 3) := by decide +kernel
theorem d_Lw_law_1126 : decode m_Lw_law.2.1 1126 = .ok (.istore 5, 2) := by decide +kernel
theorem d_Lw_law_1128 : decode m_Lw_law.2.1 1128 = .ok (.aload_n 2, 1) := by decide +kernel
theorem d_Lw_law_1129 : decode m_Lw_law.2.1 1129 = .ok (.aload_n 0, 1) := by decide +kernel
theorem d_Lw_law_1130 : decode m_Lw_law.2.1 1130 = .ok (.iload 4, 2) := by decide +kernel
theorem d_Lw_law_1132 : decode m_Lw_law.2.1 1132 = .ok (.iconst 1, 1) := by decide +kernel
theorem d_Lw_law_1133 : decode m_Lw_law.2.1 1133 = .ok (.iadd, 1) := by decide +kernel
theorem d_Lw_law_1134 : decode m_Lw_law.2.1 1134 = .ok (.iaload, 1) := by decide +kernel
theorem d_Lw_law_1135 : decode m_Lw_law.2.1 1135 = .ok (.aload_n 0, 1) := by decide +kernel
theorem d_Lw_law_1136 : decode m_Lw_law.2.1 1136 = .ok (.iload 4, 2) := by decide +kernel
theorem d_Lw_law_1138 : decode m_Lw_law.2.1 1138 = .ok (.iconst 2, 1) := by decide +kernel
theorem d_Lw_law_1139 : decode m_Lw_law.2.1 1139 = .ok (.iadd, 1) := by decide +kernel
theorem d_Lw_law_1140 : decode m_Lw_law.2.1 1140 = .ok (.iaload, 1) := by decide +kernel
theorem d_Lw_law_1141 : decode m_Lw_law.2.1 1141 = .ok (.invokevirtual 126, 3) := by decide +kernel
theorem d_Lw_law_1144 : decode m_Lw_law.2.1 1144 = .ok (.istore 6, 2) := by decide +kernel
theorem d_Lw_law_1146 : decode m_Lw_law.2.1 1146 = .ok (.aload_n 2, 1) := by decide +kernel
theorem d_Lw_law_1147 : decode m_Lw_law.2.1 1147 = .ok (.invokevirtual 75, 3) := by decide +kernel
theorem d_Lw_law_1150 : decode m_Lw_law.2.1 1150 = .ok (.iload 5, 2) := by decide +kernel
theorem d_Lw_law_1152 : decode m_Lw_law.2.1 1152 = .ok (.if_icmp .eq 5, 3) := by decide +kernel
theorem d_Lw_law_1155 : decode m_Lw_law.2.1 1155 = .ok (.iconst 0, 1) := by decide +kernel
theorem d_Lw_law_1156 : decode m_Lw_law.2.1 1156 = .ok (.ireturn, 1) := by decide +kernel
theorem d_Lw_law_1157 : decode m_Lw_law.2.1 1157 = .ok (.iload 5, 2) := by decide +kernel
theorem d_Lw_law_1159 : decode m_Lw_law.2.1 1159 = .ok (.ifCond .ne 15, 3) := by decide +kernel
theorem d_Lw_law_1162 : decode m_Lw_law.2.1 1162 = .ok (.aload_n 3, 1) := by decide +kernel
theorem d_Lw_law_1163 : decode m_Lw_law.2.1 1163 = .ok (.iconst 0, 1) := by decide +kernel
theorem d_Lw_law_1164 : decode m_Lw_law.2.1 1164 = .ok (.laload, 1) := by decide +kernel
theorem d_Lw_law_1165 : decode m_Lw_law.2.1 1165 = .ok (.iload 6, 2) := by decide +kernel
theorem d_Lw_law_1167 : decode m_Lw_law.2.1 1167 = .ok (.i2l, 1) := by decide +kernel
theorem d_Lw_law_1168 : decode m_Lw_law.2.1 1168 = .ok (.lcmp, 1) := by decide +kernel
theorem d_Lw_law_1169 : decode m_Lw_law.2.1 1169 = .ok (.ifCond .eq 5, 3) := by decide +kernel
theorem d_Lw_law_1172 : decode m_Lw_law.2.1 1172 = .ok (.iconst 0, 1) := by decide +kernel
theorem d_Lw_law_1173 : decode m_Lw_law.2.1 1173 = .ok (.ireturn, 1) := by decide +kernel
theorem d_Lw_law_1174 : decode m_Lw_law.2.1 1174 = .ok (.goto 54, 3) := by decide +kernel
theorem d_Lw_law_1177 : decode m_Lw_law.2.1 1177 = .ok (.aload_n 1, 1) := by decide +kernel
theorem d_Lw_law_1178 : decode m_Lw_law.2.1 1178 = .ok (.aload_n 0, 1) := by decide +kernel
theorem d_Lw_law_1179 : decode m_Lw_law.2.1 1179 = .ok (.iload 4, 2) := by decide +kernel
theorem d_Lw_law_1181 : decode m_Lw_law.2.1 1181 = .ok (.iconst 1, 1) := by decide +kernel
theorem d_Lw_law_1182 : decode m_Lw_law.2.1 1182 = .ok (.iadd, 1) := by decide +kernel
theorem d_Lw_law_1183 : decode m_Lw_law.2.1 1183 = .ok (.iaload, 1) := by decide +kernel
theorem d_Lw_law_1184 : decode m_Lw_law.2.1 1184 = .ok (.invokevirtual 127, 3) := by decide +kernel
theorem d_Lw_law_1187 : decode m_Lw_law.2.1 1187 = .ok (.aload_n 2, 1) := by decide +kernel
theorem d_Lw_law_1188 : decode m_Lw_law.2.1 1188 = .ok (.aload_n 0, 1) := by decide +kernel
theorem d_Lw_law_1189 : decode m_Lw_law.2.1 1189 = .ok (.iload 4, 2) := by decide +kernel
theorem d_Lw_law_1191 : decode m_Lw_law.2.1 1191 = .ok (.iconst 1, 1) := by decide +kernel
theorem d_Lw_law_1192 : decode m_Lw_law.2.1 1192 = .ok (.iadd, 1) := by decide +kernel
theorem d_Lw_law_1193 : decode m_Lw_law.2.1 1193 = .ok (.iaload, 1) := by decide +kernel
theorem d_Lw_law_1194 : decode m_Lw_law.2.1 1194 = .ok (.invokevirtual 131, 3) := by decide +kernel
theorem d_Lw_law_1197 : decode m_Lw_law.2.1 1197 = .ok (.lcmp, 1) := by decide +kernel
theorem d_Lw_law_1198 : decode m_Lw_law.2.1 1198 = .ok (.ifCond .eq 30, 3) := by decide +kernel
theorem d_Lw_law_1201 : decode m_Lw_law.2.1 1201 = .ok (.iconst 0, 1) := by decide +kernel
theorem d_Lw_law_1202 : decode m_Lw_law.2.1 1202 = .ok (.ireturn, 1) := by decide +kernel
theorem d_Lw_law_1203 : decode m_Lw_law.2.1 1203 = .ok (.aload_n 1, 1) := by decide +kernel
theorem d_Lw_law_1204 : decode m_Lw_law.2.1 1204 = .ok (.aload_n 0, 1) := by decide +kernel
theorem d_Lw_law_1205 : decode m_Lw_law.2.1 1205 = .ok (.iload 4, 2) := by decide +kernel
theorem d_Lw_law_1207 : decode m_Lw_law.2.1 1207 = .ok (.iconst 1, 1) := by decide +kernel
theorem d_Lw_law_1208 : decode m_Lw_law.2.1 1208 = .ok (.iadd, 1) := by decide +kernel
theorem d_Lw_law_1209 : decode m_Lw_law.2.1 1209 = .ok (.iaload, 1) := by decide +kernel
theorem d_Lw_law_1210 : decode m_Lw_law.2.1 1210 = .ok (.invokevirtual 132, 3) := by decide +kernel
theorem d_Lw_law_1213 : decode m_Lw_law.2.1 1213 = .ok (.aload_n 2, 1) := by decide +kernel
theorem d_Lw_law_1214 : decode m_Lw_law.2.1 1214 = .ok (.aload_n 0, 1) := by decide +kernel
theorem d_Lw_law_1215 : decode m_Lw_law.2.1 1215 = .ok (.iload 4, 2) := by decide +kernel
theorem d_Lw_law_1217 : decode m_Lw_law.2.1 1217 = .ok (.iconst 1, 1) := by decide +kernel
theorem d_Lw_law_1218 : decode m_Lw_law.2.1 1218 = .ok (.iadd, 1) := by decide +kernel
theorem d_Lw_law_1219 : decode m_Lw_law.2.1 1219 = .ok (.iaload, 1) := by decide +kernel
theorem d_Lw_law_1220 : decode m_Lw_law.2.1 1220 = .ok (.invokevirtual 135, 3) := by decide +kernel
theorem d_Lw_law_1223 : decode m_Lw_law.2.1 1223 = .ok (.if_icmp .eq 5, 3) := by decide +kernel
theorem d_Lw_law_1226 : decode m_Lw_law.2.1 1226 = .ok (.iconst 0, 1) := by decide +kernel
theorem d_Lw_law_1227 : decode m_Lw_law.2.1 1227 = .ok (.ireturn, 1) := by decide +kernel
theorem d_Lw_law_1228 : decode m_Lw_law.2.1 1228 = .ok (.iinc 4 6, 3) := by decide +kernel
theorem d_Lw_law_1231 : decode m_Lw_law.2.1 1231 = .ok (.goto (-1208), 3) := by decide +kernel
theorem d_Lw_law_1234 : decode m_Lw_law.2.1 1234 = .ok (.iconst 1, 1) := by decide +kernel
theorem d_Lw_law_1235 : decode m_Lw_law.2.1 1235 = .ok (.ireturn, 1) := by decide +kernel
