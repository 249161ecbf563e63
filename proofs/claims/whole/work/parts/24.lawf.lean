-- the law's entry, decoded
theorem d_L_law_958 : decode code 958 = .ok (.if_icmp .eq 5, 3) := by decide +kernel
theorem d_L_law_961 : decode code 961 = .ok (.iconst 0, 1) := by decide +kernel
theorem d_L_law_962 : decode code 962 = .ok (.ireturn, 1) := by decide +kernel
theorem d_L_law_963 : decode code 963 = .ok (.iload 5, 2) := by decide +kernel
theorem d_L_law_965 : decode code 965 = .ok (.ifCond .ne 22, 3) := by decide +kernel
theorem d_L_law_968 : decode code 968 = .ok (.aload_n 3, 1) := by decide +kernel
theorem d_L_law_969 : decode code 969 = .ok (.iconst 0, 1) := by decide +kernel
theorem d_L_law_970 : decode code 970 = .ok (.laload, 1) := by decide +kernel
theorem d_L_law_971 : decode code 971 = .ok (.iload 6, 2) := by decide +kernel
theorem d_L_law_973 : decode code 973 = .ok (.ifCond .eq 7, 3) := by decide +kernel
theorem d_L_law_976 : decode code 976 = .ok (.lconst 1, 1) := by decide +kernel
theorem d_L_law_977 : decode code 977 = .ok (.goto 4, 3) := by decide +kernel
theorem d_L_law_980 : decode code 980 = .ok (.lconst 0, 1) := by decide +kernel
theorem d_L_law_981 : decode code 981 = .ok (.lcmp, 1) := by decide +kernel
theorem d_L_law_982 : decode code 982 = .ok (.ifCond .eq 5, 3) := by decide +kernel
theorem d_L_law_985 : decode code 985 = .ok (.iconst 0, 1) := by decide +kernel
theorem d_L_law_986 : decode code 986 = .ok (.ireturn, 1) := by decide +kernel
theorem d_L_law_987 : decode code 987 = .ok (.goto 127, 3) := by decide +kernel
theorem d_L_law_990 : decode code 990 = .ok (.aload_n 1, 1) := by decide +kernel
theorem d_L_law_991 : decode code 991 = .ok (.aload_n 0, 1) := by decide +kernel
theorem d_L_law_992 : decode code 992 = .ok (.iload 4, 2) := by decide +kernel
theorem d_L_law_994 : decode code 994 = .ok (.iconst 1, 1) := by decide +kernel
theorem d_L_law_995 : decode code 995 = .ok (.iadd, 1) := by decide +kernel
theorem d_L_law_996 : decode code 996 = .ok (.iaload, 1) := by decide +kernel
theorem d_L_law_997 : decode code 997 = .ok (.aload_n 3, 1) := by decide +kernel
theorem d_L_law_998 : decode code 998 = .ok (.invokestatic 118, 3) := by decide +kernel
theorem d_L_law_1001 : decode code 1001 = .ok (.istore 5, 2) := by decide +kernel
theorem d_L_law_1003 : decode code 1003 = .ok (.aload_n 2, 1) := by decide +kernel
theorem d_L_law_1004 : decode code 1004 = .ok (.aload_n 0, 1) := by decide +kernel
theorem d_L_law_1005 : decode code 1005 = .ok (.iload 4, 2) := by decide +kernel
theorem d_L_law_1007 : decode code 1007 = .ok (.iconst 1, 1) := by decide +kernel
theorem d_L_law_1008 : decode code 1008 = .ok (.iadd, 1) := by decide +kernel
theorem d_L_law_1009 : decode code 1009 = .ok (.iaload, 1) := by decide +kernel
theorem d_L_law_1010 : decode code 1010 = .ok (.invokevirtual 120, 3) := by decide +kernel
theorem d_L_law_1013 : decode code 1013 = .ok (.istore 6, 2) := by decide +kernel
theorem d_L_law_1015 : decode code 1015 = .ok (.aload_n 2, 1) := by decide +kernel
theorem d_L_law_1016 : decode code 1016 = .ok (.invokevirtual 74, 3) := by decide +kernel
theorem d_L_law_1019 : decode code 1019 = .ok (.iload 5, 2) := by decide +kernel
theorem d_L_law_1021 : decode code 1021 = .ok (.if_icmp .eq 5, 3) := by decide +kernel
theorem d_L_law_1024 : decode code 1024 = .ok (.iconst 0, 1) := by decide +kernel
theorem d_L_law_1025 : decode code 1025 = .ok (.ireturn, 1) := by decide +kernel
theorem d_L_law_1026 : decode code 1026 = .ok (.iload 5, 2) := by decide +kernel
theorem d_L_law_1028 : decode code 1028 = .ok (.ifCond .ne 15, 3) := by decide +kernel
theorem d_L_law_1031 : decode code 1031 = .ok (.aload_n 3, 1) := by decide +kernel
theorem d_L_law_1032 : decode code 1032 = .ok (.iconst 0, 1) := by decide +kernel
theorem d_L_law_1033 : decode code 1033 = .ok (.laload, 1) := by decide +kernel
theorem d_L_law_1034 : decode code 1034 = .ok (.iload 6, 2) := by decide +kernel
theorem d_L_law_1036 : decode code 1036 = .ok (.i2l, 1) := by decide +kernel
theorem d_L_law_1037 : decode code 1037 = .ok (.lcmp, 1) := by decide +kernel
theorem d_L_law_1038 : decode code 1038 = .ok (.ifCond .eq 5, 3) := by decide +kernel
theorem d_L_law_1041 : decode code 1041 = .ok (.iconst 0, 1) := by decide +kernel
theorem d_L_law_1042 : decode code 1042 = .ok (.ireturn, 1) := by decide +kernel
theorem d_L_law_1043 : decode code 1043 = .ok (.goto 71, 3) := by decide +kernel
theorem d_L_law_1046 : decode code 1046 = .ok (.aload_n 1, 1) := by decide +kernel
theorem d_L_law_1047 : decode code 1047 = .ok (.aload_n 0, 1) := by decide +kernel
theorem d_L_law_1048 : decode code 1048 = .ok (.iload 4, 2) := by decide +kernel
theorem d_L_law_1050 : decode code 1050 = .ok (.iconst 1, 1) := by decide +kernel
theorem d_L_law_1051 : decode code 1051 = .ok (.iadd, 1) := by decide +kernel
theorem d_L_law_1052 : decode code 1052 = .ok (.iaload, 1) := by decide +kernel
theorem d_L_law_1053 : decode code 1053 = .ok (.aload_n 0, 1) := by decide +kernel
theorem d_L_law_1054 : decode code 1054 = .ok (.iload 4, 2) := by decide +kernel
theorem d_L_law_1056 : decode code 1056 = .ok (.iconst 2, 1) := by decide +kernel
theorem d_L_law_1057 : decode code 1057 = .ok (.iadd, 1) := by decide +kernel
theorem d_L_law_1058 : decode code 1058 = .ok (.iaload, 1) := by decide +kernel
theorem d_L_law_1059 : decode code 1059 = .ok (.aload_n 3, 1) := by decide +kernel
theorem d_L_law_1060 : decode code 1060 = .ok (.invokestatic 121, 3) := by decide +kernel
theorem d_L_law_1063 : decode code 1063 = .ok (.istore 5, 2) := by decide +kernel
theorem d_L_law_1065 : decode code 1065 = .ok (.aload_n 2, 1) := by decide +kernel
theorem d_L_law_1066 : decode code 1066 = .ok (.aload_n 0, 1) := by decide +kernel
theorem d_L_law_1067 : decode code 1067 = .ok (.iload 4, 2) := by decide +kernel
theorem d_L_law_1069 : decode code 1069 = .ok (.iconst 1, 1) := by decide +kernel
theorem d_L_law_1070 : decode code 1070 = .ok (.iadd, 1) := by decide +kernel
theorem d_L_law_1071 : decode code 1071 = .ok (.iaload, 1) := by decide +kernel
theorem d_L_law_1072 : decode code 1072 = .ok (.aload_n 0, 1) := by decide +kernel
theorem d_L_law_1073 : decode code 1073 = .ok (.iload 4, 2) := by decide +kernel
theorem d_L_law_1075 : decode code 1075 = .ok (.iconst 2, 1) := by decide +kernel
theorem d_L_law_1076 : decode code 1076 = .ok (.iadd, 1) := by decide +kernel
theorem d_L_law_1077 : decode code 1077 = .ok (.iaload, 1) := by decide +kernel
theorem d_L_law_1078 : decode code 1078 = .ok (.invokevirtual 123, 3) := by decide +kernel
theorem d_L_law_1081 : decode code 1081 = .ok (.istore 6, 2) := by decide +kernel
theorem d_L_law_1083 : decode code 1083 = .ok (.aload_n 2, 1) := by decide +kernel
theorem d_L_law_1084 : decode code 1084 = .ok (.invokevirtual 74, 3) := by decide +kernel
theorem d_L_law_1087 : decode code 1087 = .ok (.iload 5, 2) := by decide +kernel
theorem d_L_law_1089 : decode code 1089 = .ok (.if_icmp .eq 5, 3) := by decide +kernel
theorem d_L_law_1092 : decode code 1092 = .ok (.iconst 0, 1) := by decide +kernel
theorem d_L_law_1093 : decode code 1093 = .ok (.ireturn, 1) := by decide +kernel
theorem d_L_law_1094 : decode code 1094 = .ok (.iload 5, 2) := by decide +kernel
theorem d_L_law_1096 : decode code 1096 = .ok (.ifCond .ne 15, 3) := by decide +kernel
theorem d_L_law_1099 : decode code 1099 = .ok (.aload_n 3, 1) := by decide +kernel
theorem d_L_law_1100 : decode code 1100 = .ok (.iconst 0, 1) := by decide +kernel
theorem d_L_law_1101 : decode code 1101 = .ok (.laload, 1) := by decide +kernel
theorem d_L_law_1102 : decode code 1102 = .ok (.iload 6, 2) := by decide +kernel
theorem d_L_law_1104 : decode code 1104 = .ok (.i2l, 1) := by decide +kernel
theorem d_L_law_1105 : decode code 1105 = .ok (.lcmp, 1) := by decide +kernel
theorem d_L_law_1106 : decode code 1106 = .ok (.ifCond .eq 5, 3) := by decide +kernel
theorem d_L_law_1109 : decode code 1109 = .ok (.iconst 0, 1) := by decide +kernel
theorem d_L_law_1110 : decode code 1110 = .ok (.ireturn, 1) := by decide +kernel
theorem d_L_law_1111 : decode code 1111 = .ok (.goto 3, 3) := by decide +kernel
theorem d_L_law_1114 : decode code 1114 = .ok (.iinc 4 5, 3) := by decide +kernel
theorem d_L_law_1117 : decode code 1117 = .ok (.goto (-1094), 3) := by decide +kernel
theorem d_L_law_1120 : decode code 1120 = .ok (.iconst 1, 1) := by decide +kernel
theorem d_L_law_1121 : decode code 1121 = .ok (.ireturn, 1) := by decide +kernel
