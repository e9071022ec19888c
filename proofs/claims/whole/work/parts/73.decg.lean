theorem dL_1010 : decode code 1010 = .ok (.aload_n 0, 1) := by decide +kernel
theorem dL_1011 : decode code 1011 = .ok (.iload_n 3, 1) := by decide +kernel
theorem dL_1012 : decode code 1012 = .ok (.iconst 2, 1) := by decide +kernel
theorem dL_1013 : decode code 1013 = .ok (.iadd, 1) := by decide +kernel
theorem dL_1014 : decode code 1014 = .ok (.iaload, 1) := by decide +kernel
theorem dL_1015 : decode code 1015 = .ok (.invokevirtual 121, 3) := by decide +kernel
theorem dL_1018 : decode code 1018 = .ok (.aload_n 2, 1) := by decide +kernel
theorem dL_1019 : decode code 1019 = .ok (.aload_n 0, 1) := by decide +kernel
theorem dL_1020 : decode code 1020 = .ok (.iload_n 3, 1) := by decide +kernel
theorem dL_1021 : decode code 1021 = .ok (.iconst 1, 1) := by decide +kernel
theorem dL_1022 : decode code 1022 = .ok (.iadd, 1) := by decide +kernel
theorem dL_1023 : decode code 1023 = .ok (.iaload, 1) := by decide +kernel
theorem dL_1024 : decode code 1024 = .ok (.aload_n 0, 1) := by decide +kernel
theorem dL_1025 : decode code 1025 = .ok (.iload_n 3, 1) := by decide +kernel
theorem dL_1026 : decode code 1026 = .ok (.iconst 2, 1) := by decide +kernel
theorem dL_1027 : decode code 1027 = .ok (.iadd, 1) := by decide +kernel
theorem dL_1028 : decode code 1028 = .ok (.iaload, 1) := by decide +kernel
theorem dL_1029 : decode code 1029 = .ok (.invokevirtual 124, 3) := by decide +kernel
theorem dL_1032 : decode code 1032 = .ok (.if_icmp .eq 460, 3) := by decide +kernel
theorem dL_1035 : decode code 1035 = .ok (.iconst 0, 1) := by decide +kernel
theorem dL_1036 : decode code 1036 = .ok (.ireturn, 1) := by decide +kernel
theorem dL_1037 : decode code 1037 = .ok (.aload_n 1, 1) := by decide +kernel
theorem dL_1038 : decode code 1038 = .ok (.aload_n 0, 1) := by decide +kernel
theorem dL_1039 : decode code 1039 = .ok (.iload_n 3, 1) := by decide +kernel
theorem dL_1040 : decode code 1040 = .ok (.iconst 1, 1) := by decide +kernel
theorem dL_1041 : decode code 1041 = .ok (.iadd, 1) := by decide +kernel
theorem dL_1042 : decode code 1042 = .ok (.iaload, 1) := by decide +kernel
theorem dL_1043 : decode code 1043 = .ok (.invokevirtual 125, 3) := by decide +kernel
theorem dL_1046 : decode code 1046 = .ok (.aload_n 2, 1) := by decide +kernel
theorem dL_1047 : decode code 1047 = .ok (.aload_n 0, 1) := by decide +kernel
theorem dL_1048 : decode code 1048 = .ok (.iload_n 3, 1) := by decide +kernel
theorem dL_1049 : decode code 1049 = .ok (.iconst 1, 1) := by decide +kernel
theorem dL_1050 : decode code 1050 = .ok (.iadd, 1) := by decide +kernel
theorem dL_1051 : decode code 1051 = .ok (.iaload, 1) := by decide +kernel
theorem dL_1052 : decode code 1052 = .ok (.invokevirtual 128, 3) := by decide +kernel
theorem dL_1055 : decode code 1055 = .ok (.if_icmp .eq 437, 3) := by decide +kernel
theorem dL_1058 : decode code 1058 = .ok (.iconst 0, 1) := by decide +kernel
theorem dL_1059 : decode code 1059 = .ok (.ireturn, 1) := by decide +kernel
theorem dL_1060 : decode code 1060 = .ok (.aload_n 1, 1) := by decide +kernel
theorem dL_1061 : decode code 1061 = .ok (.aload_n 0, 1) := by decide +kernel
theorem dL_1062 : decode code 1062 = .ok (.iload_n 3, 1) := by decide +kernel
theorem dL_1063 : decode code 1063 = .ok (.iconst 1, 1) := by decide +kernel
theorem dL_1064 : decode code 1064 = .ok (.iadd, 1) := by decide +kernel
theorem dL_1065 : decode code 1065 = .ok (.iaload, 1) := by decide +kernel
theorem dL_1066 : decode code 1066 = .ok (.aload_n 0, 1) := by decide +kernel
theorem dL_1067 : decode code 1067 = .ok (.iload_n 3, 1) := by decide +kernel
theorem dL_1068 : decode code 1068 = .ok (.iconst 2, 1) := by decide +kernel
theorem dL_1069 : decode code 1069 = .ok (.iadd, 1) := by decide +kernel
theorem dL_1070 : decode code 1070 = .ok (.iaload, 1) := by decide +kernel
theorem dL_1071 : decode code 1071 = .ok (.aload_n 0, 1) := by decide +kernel
theorem dL_1072 : decode code 1072 = .ok (.iload_n 3, 1) := by decide +kernel
theorem dL_1073 : decode code 1073 = .ok (.iconst 3, 1) := by decide +kernel
theorem dL_1074 : decode code 1074 = .ok (.iadd, 1) := by decide +kernel
theorem dL_1075 : decode code 1075 = .ok (.iaload, 1) := by decide +kernel
theorem dL_1076 : decode code 1076 = .ok (.invokevirtual 129, 3) := by decide +kernel
theorem dL_1079 : decode code 1079 = .ok (.aload_n 2, 1) := by decide +kernel
theorem dL_1080 : decode code 1080 = .ok (.aload_n 0, 1) := by decide +kernel
theorem dL_1081 : decode code 1081 = .ok (.iload_n 3, 1) := by decide +kernel
theorem dL_1082 : decode code 1082 = .ok (.iconst 1, 1) := by decide +kernel
theorem dL_1083 : decode code 1083 = .ok (.iadd, 1) := by decide +kernel
theorem dL_1084 : decode code 1084 = .ok (.iaload, 1) := by decide +kernel
theorem dL_1085 : decode code 1085 = .ok (.aload_n 0, 1) := by decide +kernel
theorem dL_1086 : decode code 1086 = .ok (.iload_n 3, 1) := by decide +kernel
theorem dL_1087 : decode code 1087 = .ok (.iconst 2, 1) := by decide +kernel
theorem dL_1088 : decode code 1088 = .ok (.iadd, 1) := by decide +kernel
theorem dL_1089 : decode code 1089 = .ok (.iaload, 1) := by decide +kernel
theorem dL_1090 : decode code 1090 = .ok (.aload_n 0, 1) := by decide +kernel
theorem dL_1091 : decode code 1091 = .ok (.iload_n 3, 1) := by decide +kernel
theorem dL_1092 : decode code 1092 = .ok (.iconst 3, 1) := by decide +kernel
theorem dL_1093 : decode code 1093 = .ok (.iadd, 1) := by decide +kernel
theorem dL_1094 : decode code 1094 = .ok (.iaload, 1) := by decide +kernel
theorem dL_1095 : decode code 1095 = .ok (.invokevirtual 132, 3) := by decide +kernel
theorem dL_1098 : decode code 1098 = .ok (.if_icmp .eq 394, 3) := by decide +kernel
theorem dL_1101 : decode code 1101 = .ok (.iconst 0, 1) := by decide +kernel
theorem dL_1102 : decode code 1102 = .ok (.ireturn, 1) := by decide +kernel
theorem dL_1103 : decode code 1103 = .ok (.aload_n 1, 1) := by decide +kernel
theorem dL_1104 : decode code 1104 = .ok (.aload_n 0, 1) := by decide +kernel
theorem dL_1105 : decode code 1105 = .ok (.iload_n 3, 1) := by decide +kernel
theorem dL_1106 : decode code 1106 = .ok (.iconst 1, 1) := by decide +kernel
theorem dL_1107 : decode code 1107 = .ok (.iadd, 1) := by decide +kernel
theorem dL_1108 : decode code 1108 = .ok (.iaload, 1) := by decide +kernel
theorem dL_1109 : decode code 1109 = .ok (.aload_n 0, 1) := by decide +kernel
theorem dL_1110 : decode code 1110 = .ok (.iload_n 3, 1) := by decide +kernel
theorem dL_1111 : decode code 1111 = .ok (.iconst 2, 1) := by decide +kernel
theorem dL_1112 : decode code 1112 = .ok (.iadd, 1) := by decide +kernel
theorem dL_1113 : decode code 1113 = .ok (.iaload, 1) := by decide +kernel
theorem dL_1114 : decode code 1114 = .ok (.aload_n 0, 1) := by decide +kernel
theorem dL_1115 : decode code 1115 = .ok (.iload_n 3, 1) := by decide +kernel
theorem dL_1116 : decode code 1116 = .ok (.iconst 3, 1) := by decide +kernel
theorem dL_1117 : decode code 1117 = .ok (.iadd, 1) := by decide +kernel
theorem dL_1118 : decode code 1118 = .ok (.iaload, 1) := by decide +kernel
theorem dL_1119 : decode code 1119 = .ok (.invokevirtual 133, 3) := by decide +kernel
theorem dL_1122 : decode code 1122 = .ok (.aload_n 2, 1) := by decide +kernel
theorem dL_1123 : decode code 1123 = .ok (.aload_n 0, 1) := by decide +kernel
theorem dL_1124 : decode code 1124 = .ok (.iload_n 3, 1) := by decide +kernel
theorem dL_1125 : decode code 1125 = .ok (.iconst 1, 1) := by decide +kernel
theorem dL_1126 : decode code 1126 = .ok (.iadd, 1) := by decide +kernel
theorem dL_1127 : decode code 1127 = .ok (.iaload, 1) := by decide +kernel
theorem dL_1128 : decode code 1128 = .ok (.aload_n 0, 1) := by decide +kernel
theorem dL_1129 : decode code 1129 = .ok (.iload_n 3, 1) := by decide +kernel
theorem dL_1130 : decode code 1130 = .ok (.iconst 2, 1) := by decide +kernel
theorem dL_1131 : decode code 1131 = .ok (.iadd, 1) := by decide +kernel
theorem dL_1132 : decode code 1132 = .ok (.iaload, 1) := by decide +kernel
theorem dL_1133 : decode code 1133 = .ok (.aload_n 0, 1) := by decide +kernel
theorem dL_1134 : decode code 1134 = .ok (.iload_n 3, 1) := by decide +kernel
theorem dL_1135 : decode code 1135 = .ok (.iconst 3, 1) := by decide +kernel
theorem dL_1136 : decode code 1136 = .ok (.iadd, 1) := by decide +kernel
theorem dL_1137 : decode code 1137 = .ok (.iaload, 1) := by decide +kernel
theorem dL_1138 : decode code 1138 = .ok (.invokevirtual 136, 3) := by decide +kernel
theorem dL_1141 : decode code 1141 = .ok (.if_icmp .eq 351, 3) := by decide +kernel
