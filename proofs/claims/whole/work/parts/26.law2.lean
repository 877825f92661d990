set_option maxRecDepth 100000 in
theorem d240_923 : decode (xmb 240) 923 = .ok (.aload_n 0, 1) := by decide +kernel
set_option maxRecDepth 100000 in
theorem d240_924 : decode (xmb 240) 924 = .ok (.iload 4, 2) := by decide +kernel
set_option maxRecDepth 100000 in
theorem d240_926 : decode (xmb 240) 926 = .ok (.iconst 1, 1) := by decide +kernel
set_option maxRecDepth 100000 in
theorem d240_927 : decode (xmb 240) 927 = .ok (.iadd, 1) := by decide +kernel
set_option maxRecDepth 100000 in
theorem d240_928 : decode (xmb 240) 928 = .ok (.iaload, 1) := by decide +kernel
set_option maxRecDepth 100000 in
theorem d240_929 : decode (xmb 240) 929 = .ok (.aload_n 0, 1) := by decide +kernel
set_option maxRecDepth 100000 in
theorem d240_930 : decode (xmb 240) 930 = .ok (.iload 4, 2) := by decide +kernel
set_option maxRecDepth 100000 in
theorem d240_932 : decode (xmb 240) 932 = .ok (.iconst 2, 1) := by decide +kernel
set_option maxRecDepth 100000 in
theorem d240_933 : decode (xmb 240) 933 = .ok (.iadd, 1) := by decide +kernel
set_option maxRecDepth 100000 in
theorem d240_934 : decode (xmb 240) 934 = .ok (.iaload, 1) := by decide +kernel
set_option maxRecDepth 100000 in
theorem d240_935 : decode (xmb 240) 935 = .ok (.aload_n 3, 1) := by decide +kernel
set_option maxRecDepth 100000 in
theorem d240_936 : decode (xmb 240) 936 = .ok (.invokestatic 161, 3) := by decide +kernel
set_option maxRecDepth 100000 in
theorem d240_939 : decode (xmb 240) 939 = .ok (.istore 5, 2) := by decide +kernel
set_option maxRecDepth 100000 in
theorem d240_941 : decode (xmb 240) 941 = .ok (.aload_n 2, 1) := by decide +kernel
set_option maxRecDepth 100000 in
theorem d240_942 : decode (xmb 240) 942 = .ok (.aload_n 0, 1) := by decide +kernel
set_option maxRecDepth 100000 in
theorem d240_943 : decode (xmb 240) 943 = .ok (.iload 4, 2) := by decide +kernel
set_option maxRecDepth 100000 in
theorem d240_945 : decode (xmb 240) 945 = .ok (.iconst 1, 1) := by decide +kernel
set_option maxRecDepth 100000 in
theorem d240_946 : decode (xmb 240) 946 = .ok (.iadd, 1) := by decide +kernel
set_option maxRecDepth 100000 in
theorem d240_947 : decode (xmb 240) 947 = .ok (.iaload, 1) := by decide +kernel
set_option maxRecDepth 100000 in
theorem d240_948 : decode (xmb 240) 948 = .ok (.aload_n 0, 1) := by decide +kernel
set_option maxRecDepth 100000 in
theorem d240_949 : decode (xmb 240) 949 = .ok (.iload 4, 2) := by decide +kernel
set_option maxRecDepth 100000 in
theorem d240_951 : decode (xmb 240) 951 = .ok (.iconst 2, 1) := by decide +kernel
set_option maxRecDepth 100000 in
theorem d240_952 : decode (xmb 240) 952 = .ok (.iadd, 1) := by decide +kernel
set_option maxRecDepth 100000 in
theorem d240_953 : decode (xmb 240) 953 = .ok (.iaload, 1) := by decide +kernel
set_option maxRecDepth 100000 in
theorem d240_954 : decode (xmb 240) 954 = .ok (.invokevirtual 163, 3) := by decide +kernel
set_option maxRecDepth 100000 in
theorem d240_957 : decode (xmb 240) 957 = .ok (.istore 6, 2) := by decide +kernel
set_option maxRecDepth 100000 in
theorem d240_959 : decode (xmb 240) 959 = .ok (.aload_n 2, 1) := by decide +kernel
set_option maxRecDepth 100000 in
theorem d240_960 : decode (xmb 240) 960 = .ok (.invokevirtual 115, 3) := by decide +kernel
set_option maxRecDepth 100000 in
theorem d240_963 : decode (xmb 240) 963 = .ok (.iload 5, 2) := by decide +kernel
set_option maxRecDepth 100000 in
theorem d240_965 : decode (xmb 240) 965 = .ok (.if_icmp .eq 5, 3) := by decide +kernel
set_option maxRecDepth 100000 in
theorem d240_968 : decode (xmb 240) 968 = .ok (.iconst 0, 1) := by decide +kernel
set_option maxRecDepth 100000 in
theorem d240_969 : decode (xmb 240) 969 = .ok (.ireturn, 1) := by decide +kernel
set_option maxRecDepth 100000 in
theorem d240_970 : decode (xmb 240) 970 = .ok (.iload 5, 2) := by decide +kernel
set_option maxRecDepth 100000 in
theorem d240_972 : decode (xmb 240) 972 = .ok (.ifCond .ne 15, 3) := by decide +kernel
set_option maxRecDepth 100000 in
theorem d240_975 : decode (xmb 240) 975 = .ok (.aload_n 3, 1) := by decide +kernel
set_option maxRecDepth 100000 in
theorem d240_976 : decode (xmb 240) 976 = .ok (.iconst 0, 1) := by decide +kernel
set_option maxRecDepth 100000 in
theorem d240_977 : decode (xmb 240) 977 = .ok (.laload, 1) := by decide +kernel
set_option maxRecDepth 100000 in
theorem d240_978 : decode (xmb 240) 978 = .ok (.iload 6, 2) := by decide +kernel
set_option maxRecDepth 100000 in
theorem d240_980 : decode (xmb 240) 980 = .ok (.i2l, 1) := by decide +kernel
set_option maxRecDepth 100000 in
theorem d240_981 : decode (xmb 240) 981 = .ok (.lcmp, 1) := by decide +kernel
set_option maxRecDepth 100000 in
theorem d240_982 : decode (xmb 240) 982 = .ok (.ifCond .eq 5, 3) := by decide +kernel
set_option maxRecDepth 100000 in
theorem d240_985 : decode (xmb 240) 985 = .ok (.iconst 0, 1) := by decide +kernel
set_option maxRecDepth 100000 in
theorem d240_986 : decode (xmb 240) 986 = .ok (.ireturn, 1) := by decide +kernel
set_option maxRecDepth 100000 in
theorem d240_987 : decode (xmb 240) 987 = .ok (.goto 1124, 3) := by decide +kernel
set_option maxRecDepth 100000 in
theorem d240_990 : decode (xmb 240) 990 = .ok (.aload_n 1, 1) := by decide +kernel
set_option maxRecDepth 100000 in
theorem d240_991 : decode (xmb 240) 991 = .ok (.aload_n 0, 1) := by decide +kernel
set_option maxRecDepth 100000 in
theorem d240_992 : decode (xmb 240) 992 = .ok (.iload 4, 2) := by decide +kernel
set_option maxRecDepth 100000 in
theorem d240_994 : decode (xmb 240) 994 = .ok (.iconst 1, 1) := by decide +kernel
set_option maxRecDepth 100000 in
theorem d240_995 : decode (xmb 240) 995 = .ok (.iadd, 1) := by decide +kernel
set_option maxRecDepth 100000 in
theorem d240_996 : decode (xmb 240) 996 = .ok (.iaload, 1) := by decide +kernel
set_option maxRecDepth 100000 in
theorem d240_997 : decode (xmb 240) 997 = .ok (.aload_n 0, 1) := by decide +kernel
set_option maxRecDepth 100000 in
theorem d240_998 : decode (xmb 240) 998 = .ok (.iload 4, 2) := by decide +kernel
set_option maxRecDepth 100000 in
theorem d240_1000 : decode (xmb 240) 1000 = .ok (.iconst 2, 1) := by decide +kernel
set_option maxRecDepth 100000 in
theorem d240_1001 : decode (xmb 240) 1001 = .ok (.iadd, 1) := by decide +kernel
set_option maxRecDepth 100000 in
theorem d240_1002 : decode (xmb 240) 1002 = .ok (.iaload, 1) := by decide +kernel
set_option maxRecDepth 100000 in
theorem d240_1003 : decode (xmb 240) 1003 = .ok (.aload_n 0, 1) := by decide +kernel
set_option maxRecDepth 100000 in
theorem d240_1004 : decode (xmb 240) 1004 = .ok (.iload 4, 2) := by decide +kernel
set_option maxRecDepth 100000 in
theorem d240_1006 : decode (xmb 240) 1006 = .ok (.iconst 3, 1) := by decide +kernel
set_option maxRecDepth 100000 in
theorem d240_1007 : decode (xmb 240) 1007 = .ok (.iadd, 1) := by decide +kernel
set_option maxRecDepth 100000 in
theorem d240_1008 : decode (xmb 240) 1008 = .ok (.iaload, 1) := by decide +kernel
set_option maxRecDepth 100000 in
theorem d240_1009 : decode (xmb 240) 1009 = .ok (.ifCond .eq 7, 3) := by decide +kernel
set_option maxRecDepth 100000 in
theorem d240_1012 : decode (xmb 240) 1012 = .ok (.iconst 1, 1) := by decide +kernel
set_option maxRecDepth 100000 in
theorem d240_1013 : decode (xmb 240) 1013 = .ok (.goto 4, 3) := by decide +kernel
set_option maxRecDepth 100000 in
theorem d240_1016 : decode (xmb 240) 1016 = .ok (.iconst 0, 1) := by decide +kernel
set_option maxRecDepth 100000 in
theorem d240_1017 : decode (xmb 240) 1017 = .ok (.aload_n 3, 1) := by decide +kernel
set_option maxRecDepth 100000 in
theorem d240_1018 : decode (xmb 240) 1018 = .ok (.invokestatic 164, 3) := by decide +kernel
set_option maxRecDepth 100000 in
theorem d240_1021 : decode (xmb 240) 1021 = .ok (.istore 5, 2) := by decide +kernel
set_option maxRecDepth 100000 in
theorem d240_1023 : decode (xmb 240) 1023 = .ok (.aload_n 2, 1) := by decide +kernel
set_option maxRecDepth 100000 in
theorem d240_1024 : decode (xmb 240) 1024 = .ok (.aload_n 0, 1) := by decide +kernel
set_option maxRecDepth 100000 in
theorem d240_1025 : decode (xmb 240) 1025 = .ok (.iload 4, 2) := by decide +kernel
set_option maxRecDepth 100000 in
theorem d240_1027 : decode (xmb 240) 1027 = .ok (.iconst 1, 1) := by decide +kernel
set_option maxRecDepth 100000 in
theorem d240_1028 : decode (xmb 240) 1028 = .ok (.iadd, 1) := by decide +kernel
set_option maxRecDepth 100000 in
theorem d240_1029 : decode (xmb 240) 1029 = .ok (.iaload, 1) := by decide +kernel
set_option maxRecDepth 100000 in
theorem d240_1030 : decode (xmb 240) 1030 = .ok (.aload_n 0, 1) := by decide +kernel
set_option maxRecDepth 100000 in
theorem d240_1031 : decode (xmb 240) 1031 = .ok (.iload 4, 2) := by decide +kernel
set_option maxRecDepth 100000 in
theorem d240_1033 : decode (xmb 240) 1033 = .ok (.iconst 2, 1) := by decide +kernel
set_option maxRecDepth 100000 in
theorem d240_1034 : decode (xmb 240) 1034 = .ok (.iadd, 1) := by decide +kernel
set_option maxRecDepth 100000 in
theorem d240_1035 : decode (xmb 240) 1035 = .ok (.iaload, 1) := by decide +kernel
set_option maxRecDepth 100000 in
theorem d240_1036 : decode (xmb 240) 1036 = .ok (.aload_n 0, 1) := by decide +kernel
set_option maxRecDepth 100000 in
theorem d240_1037 : decode (xmb 240) 1037 = .ok (.iload 4, 2) := by decide +kernel
set_option maxRecDepth 100000 in
theorem d240_1039 : decode (xmb 240) 1039 = .ok (.iconst 3, 1) := by decide +kernel
set_option maxRecDepth 100000 in
theorem d240_1040 : decode (xmb 240) 1040 = .ok (.iadd, 1) := by decide +kernel
set_option maxRecDepth 100000 in
theorem d240_1041 : decode (xmb 240) 1041 = .ok (.iaload, 1) := by decide +kernel
set_option maxRecDepth 100000 in
theorem d240_1042 : decode (xmb 240) 1042 = .ok (.ifCond .eq 7, 3) := by decide +kernel
set_option maxRecDepth 100000 in
theorem d240_1045 : decode (xmb 240) 1045 = .ok (.iconst 1, 1) := by decide +kernel
set_option maxRecDepth 100000 in
theorem d240_1046 : decode (xmb 240) 1046 = .ok (.goto 4, 3) := by decide +kernel
set_option maxRecDepth 100000 in
theorem d240_1049 : decode (xmb 240) 1049 = .ok (.iconst 0, 1) := by decide +kernel
set_option maxRecDepth 100000 in
theorem d240_1050 : decode (xmb 240) 1050 = .ok (.invokevirtual 167, 3) := by decide +kernel
set_option maxRecDepth 100000 in
theorem d240_1053 : decode (xmb 240) 1053 = .ok (.istore 6, 2) := by decide +kernel
set_option maxRecDepth 100000 in
theorem d240_1055 : decode (xmb 240) 1055 = .ok (.aload_n 2, 1) := by decide +kernel
set_option maxRecDepth 100000 in
theorem d240_1056 : decode (xmb 240) 1056 = .ok (.invokevirtual 115, 3) := by decide +kernel
set_option maxRecDepth 100000 in
theorem d240_1059 : decode (xmb 240) 1059 = .ok (.iload 5, 2) := by decide +kernel
set_option maxRecDepth 100000 in
theorem d240_1061 : decode (xmb 240) 1061 = .ok (.if_icmp .eq 5, 3) := by decide +kernel
set_option maxRecDepth 100000 in
theorem d240_1064 : decode (xmb 240) 1064 = .ok (.iconst 0, 1) := by decide +kernel
set_option maxRecDepth 100000 in
theorem d240_1065 : decode (xmb 240) 1065 = .ok (.ireturn, 1) := by decide +kernel
set_option maxRecDepth 100000 in
theorem d240_1066 : decode (xmb 240) 1066 = .ok (.iload 5, 2) := by decide +kernel
set_option maxRecDepth 100000 in
theorem d240_1068 : decode (xmb 240) 1068 = .ok (.ifCond .ne 15, 3) := by decide +kernel
set_option maxRecDepth 100000 in
theorem d240_1071 : decode (xmb 240) 1071 = .ok (.aload_n 3, 1) := by decide +kernel
set_option maxRecDepth 100000 in
theorem d240_1072 : decode (xmb 240) 1072 = .ok (.iconst 0, 1) := by decide +kernel
set_option maxRecDepth 100000 in
theorem d240_1073 : decode (xmb 240) 1073 = .ok (.laload, 1) := by decide +kernel
set_option maxRecDepth 100000 in
theorem d240_1074 : decode (xmb 240) 1074 = .ok (.iload 6, 2) := by decide +kernel
set_option maxRecDepth 100000 in
theorem d240_1076 : decode (xmb 240) 1076 = .ok (.i2l, 1) := by decide +kernel
set_option maxRecDepth 100000 in
theorem d240_1077 : decode (xmb 240) 1077 = .ok (.lcmp, 1) := by decide +kernel
set_option maxRecDepth 100000 in
theorem d240_1078 : decode (xmb 240) 1078 = .ok (.ifCond .eq 5, 3) := by decide +kernel
set_option maxRecDepth 100000 in
theorem d240_1081 : decode (xmb 240) 1081 = .ok (.iconst 0, 1) := by decide +kernel
set_option maxRecDepth 100000 in
theorem d240_1082 : decode (xmb 240) 1082 = .ok (.ireturn, 1) := by decide +kernel
set_option maxRecDepth 100000 in
theorem d240_1083 : decode (xmb 240) 1083 = .ok (.goto 1028, 3) := by decide +kernel
set_option maxRecDepth 100000 in
theorem d240_1086 : decode (xmb 240) 1086 = .ok (.aload_n 1, 1) := by decide +kernel
set_option maxRecDepth 100000 in
theorem d240_1087 : decode (xmb 240) 1087 = .ok (.aload_n 0, 1) := by decide +kernel
set_option maxRecDepth 100000 in
theorem d240_1088 : decode (xmb 240) 1088 = .ok (.iload 4, 2) := by decide +kernel
set_option maxRecDepth 100000 in
theorem d240_1090 : decode (xmb 240) 1090 = .ok (.iconst 1, 1) := by decide +kernel
set_option maxRecDepth 100000 in
theorem d240_1091 : decode (xmb 240) 1091 = .ok (.iadd, 1) := by decide +kernel
set_option maxRecDepth 100000 in
theorem d240_1092 : decode (xmb 240) 1092 = .ok (.iaload, 1) := by decide +kernel
set_option maxRecDepth 100000 in
theorem d240_1093 : decode (xmb 240) 1093 = .ok (.aload_n 0, 1) := by decide +kernel
set_option maxRecDepth 100000 in
theorem d240_1094 : decode (xmb 240) 1094 = .ok (.iload 4, 2) := by decide +kernel
set_option maxRecDepth 100000 in
theorem d240_1096 : decode (xmb 240) 1096 = .ok (.iconst 2, 1) := by decide +kernel
set_option maxRecDepth 100000 in
theorem d240_1097 : decode (xmb 240) 1097 = .ok (.iadd, 1) := by decide +kernel
set_option maxRecDepth 100000 in
theorem d240_1098 : decode (xmb 240) 1098 = .ok (.iaload, 1) := by decide +kernel
set_option maxRecDepth 100000 in
theorem d240_1099 : decode (xmb 240) 1099 = .ok (.aload_n 3, 1) := by decide +kernel
set_option maxRecDepth 100000 in
theorem d240_1100 : decode (xmb 240) 1100 = .ok (.invokestatic 168, 3) := by decide +kernel
set_option maxRecDepth 100000 in
theorem d240_1103 : decode (xmb 240) 1103 = .ok (.istore 5, 2) := by decide +kernel
set_option maxRecDepth 100000 in
theorem d240_1105 : decode (xmb 240) 1105 = .ok (.aload_n 2, 1) := by decide +kernel
set_option maxRecDepth 100000 in
theorem d240_1106 : decode (xmb 240) 1106 = .ok (.aload_n 0, 1) := by decide +kernel
set_option maxRecDepth 100000 in
theorem d240_1107 : decode (xmb 240) 1107 = .ok (.iload 4, 2) := by decide +kernel
set_option maxRecDepth 100000 in
theorem d240_1109 : decode (xmb 240) 1109 = .ok (.iconst 1, 1) := by decide +kernel
set_option maxRecDepth 100000 in
theorem d240_1110 : decode (xmb 240) 1110 = .ok (.iadd, 1) := by decide +kernel
set_option maxRecDepth 100000 in
theorem d240_1111 : decode (xmb 240) 1111 = .ok (.iaload, 1) := by decide +kernel
set_option maxRecDepth 100000 in
theorem d240_1112 : decode (xmb 240) 1112 = .ok (.aload_n 0, 1) := by decide +kernel
set_option maxRecDepth 100000 in
theorem d240_1113 : decode (xmb 240) 1113 = .ok (.iload 4, 2) := by decide +kernel
set_option maxRecDepth 100000 in
theorem d240_1115 : decode (xmb 240) 1115 = .ok (.iconst 2, 1) := by decide +kernel
set_option maxRecDepth 100000 in
theorem d240_1116 : decode (xmb 240) 1116 = .ok (.iadd, 1) := by decide +kernel
set_option maxRecDepth 100000 in
theorem d240_1117 : decode (xmb 240) 1117 = .ok (.iaload, 1) := by decide +kernel
set_option maxRecDepth 100000 in
theorem d240_1118 : decode (xmb 240) 1118 = .ok (.invokevirtual 170, 3) := by decide +kernel
set_option maxRecDepth 100000 in
theorem d240_1121 : decode (xmb 240) 1121 = .ok (.istore 6, 2) := by decide +kernel
set_option maxRecDepth 100000 in
theorem d240_1123 : decode (xmb 240) 1123 = .ok (.aload_n 2, 1) := by decide +kernel
set_option maxRecDepth 100000 in
theorem d240_1124 : decode (xmb 240) 1124 = .ok (.invokevirtual 115, 3) := by decide +kernel
set_option maxRecDepth 100000 in
theorem d240_1127 : decode (xmb 240) 1127 = .ok (.iload 5, 2) := by decide +kernel
set_option maxRecDepth 100000 in
theorem d240_1129 : decode (xmb 240) 1129 = .ok (.if_icmp .eq 5, 3) := by decide +kernel
set_option maxRecDepth 100000 in
theorem d240_1132 : decode (xmb 240) 1132 = .ok (.iconst 0, 1) := by decide +kernel
set_option maxRecDepth 100000 in
theorem d240_1133 : decode (xmb 240) 1133 = .ok (.ireturn, 1) := by decide +kernel
set_option maxRecDepth 100000 in
theorem d240_1134 : decode (xmb 240) 1134 = .ok (.iload 5, 2) := by decide +kernel
set_option maxRecDepth 100000 in
theorem d240_1136 : decode (xmb 240) 1136 = .ok (.ifCond .ne 15, 3) := by decide +kernel
set_option maxRecDepth 100000 in
theorem d240_1139 : decode (xmb 240) 1139 = .ok (.aload_n 3, 1) := by decide +kernel
set_option maxRecDepth 100000 in
theorem d240_1140 : decode (xmb 240) 1140 = .ok (.iconst 0, 1) := by decide +kernel
set_option maxRecDepth 100000 in
theorem d240_1141 : decode (xmb 240) 1141 = .ok (.laload, 1) := by decide +kernel
set_option maxRecDepth 100000 in
theorem d240_1142 : decode (xmb 240) 1142 = .ok (.iload 6, 2) := by decide +kernel
set_option maxRecDepth 100000 in
theorem d240_1144 : decode (xmb 240) 1144 = .ok (.i2l, 1) := by decide +kernel
set_option maxRecDepth 100000 in
theorem d240_1145 : decode (xmb 240) 1145 = .ok (.lcmp, 1) := by decide +kernel
set_option maxRecDepth 100000 in
theorem d240_1146 : decode (xmb 240) 1146 = .ok (.ifCond .eq 5, 3) := by decide +kernel
set_option maxRecDepth 100000 in
theorem d240_1149 : decode (xmb 240) 1149 = .ok (.iconst 0, 1) := by decide +kernel
set_option maxRecDepth 100000 in
theorem d240_1150 : decode (xmb 240) 1150 = .ok (.ireturn, 1) := by decide +kernel
set_option maxRecDepth 100000 in
theorem d240_1151 : decode (xmb 240) 1151 = .ok (.goto 960, 3) := by decide +kernel
set_option maxRecDepth 100000 in
theorem d240_1154 : decode (xmb 240) 1154 = .ok (.aload_n 1, 1) := by decide +kernel
set_option maxRecDepth 100000 in
theorem d240_1155 : decode (xmb 240) 1155 = .ok (.aload_n 0, 1) := by decide +kernel
set_option maxRecDepth 100000 in
theorem d240_1156 : decode (xmb 240) 1156 = .ok (.iload 4, 2) := by decide +kernel
set_option maxRecDepth 100000 in
theorem d240_1158 : decode (xmb 240) 1158 = .ok (.iconst 1, 1) := by decide +kernel
set_option maxRecDepth 100000 in
theorem d240_1159 : decode (xmb 240) 1159 = .ok (.iadd, 1) := by decide +kernel
set_option maxRecDepth 100000 in
theorem d240_1160 : decode (xmb 240) 1160 = .ok (.iaload, 1) := by decide +kernel
set_option maxRecDepth 100000 in
theorem d240_1161 : decode (xmb 240) 1161 = .ok (.aload_n 0, 1) := by decide +kernel
set_option maxRecDepth 100000 in
theorem d240_1162 : decode (xmb 240) 1162 = .ok (.iload 4, 2) := by decide +kernel
set_option maxRecDepth 100000 in
theorem d240_1164 : decode (xmb 240) 1164 = .ok (.iconst 2, 1) := by decide +kernel
set_option maxRecDepth 100000 in
theorem d240_1165 : decode (xmb 240) 1165 = .ok (.iadd, 1) := by decide +kernel
set_option maxRecDepth 100000 in
theorem d240_1166 : decode (xmb 240) 1166 = .ok (.iaload, 1) := by decide +kernel
set_option maxRecDepth 100000 in
theorem d240_1167 : decode (xmb 240) 1167 = .ok (.aload_n 0, 1) := by decide +kernel
set_option maxRecDepth 100000 in
theorem d240_1168 : decode (xmb 240) 1168 = .ok (.iload 4, 2) := by decide +kernel
set_option maxRecDepth 100000 in
theorem d240_1170 : decode (xmb 240) 1170 = .ok (.iconst 3, 1) := by decide +kernel
set_option maxRecDepth 100000 in
theorem d240_1171 : decode (xmb 240) 1171 = .ok (.iadd, 1) := by decide +kernel
set_option maxRecDepth 100000 in
theorem d240_1172 : decode (xmb 240) 1172 = .ok (.iaload, 1) := by decide +kernel
set_option maxRecDepth 100000 in
theorem d240_1173 : decode (xmb 240) 1173 = .ok (.ifCond .eq 7, 3) := by decide +kernel
set_option maxRecDepth 100000 in
theorem d240_1176 : decode (xmb 240) 1176 = .ok (.iconst 1, 1) := by decide +kernel
set_option maxRecDepth 100000 in
theorem d240_1177 : decode (xmb 240) 1177 = .ok (.goto 4, 3) := by decide +kernel
set_option maxRecDepth 100000 in
theorem d240_1180 : decode (xmb 240) 1180 = .ok (.iconst 0, 1) := by decide +kernel
set_option maxRecDepth 100000 in
theorem d240_1181 : decode (xmb 240) 1181 = .ok (.aload_n 3, 1) := by decide +kernel
set_option maxRecDepth 100000 in
theorem d240_1182 : decode (xmb 240) 1182 = .ok (.invokestatic 171, 3) := by decide +kernel
set_option maxRecDepth 100000 in
theorem d240_1185 : decode (xmb 240) 1185 = .ok (.istore 5, 2) := by decide +kernel
set_option maxRecDepth 100000 in
theorem d240_1187 : decode (xmb 240) 1187 = .ok (.aload_n 2, 1) := by decide +kernel
set_option maxRecDepth 100000 in
theorem d240_1188 : decode (xmb 240) 1188 = .ok (.aload_n 0, 1) := by decide +kernel
set_option maxRecDepth 100000 in
theorem d240_1189 : decode (xmb 240) 1189 = .ok (.iload 4, 2) := by decide +kernel
set_option maxRecDepth 100000 in
theorem d240_1191 : decode (xmb 240) 1191 = .ok (.iconst 1, 1) := by decide +kernel
set_option maxRecDepth 100000 in
theorem d240_1192 : decode (xmb 240) 1192 = .ok (.iadd, 1) := by decide +kernel
set_option maxRecDepth 100000 in
theorem d240_1193 : decode (xmb 240) 1193 = .ok (.iaload, 1) := by decide +kernel
set_option maxRecDepth 100000 in
theorem d240_1194 : decode (xmb 240) 1194 = .ok (.aload_n 0, 1) := by decide +kernel
set_option maxRecDepth 100000 in
theorem d240_1195 : decode (xmb 240) 1195 = .ok (.iload 4, 2) := by decide +kernel
set_option maxRecDepth 100000 in
theorem d240_1197 : decode (xmb 240) 1197 = .ok (.iconst 2, 1) := by decide +kernel
set_option maxRecDepth 100000 in
theorem d240_1198 : decode (xmb 240) 1198 = .ok (.iadd, 1) := by decide +kernel
set_option maxRecDepth 100000 in
theorem d240_1199 : decode (xmb 240) 1199 = .ok (.iaload, 1) := by decide +kernel
set_option maxRecDepth 100000 in
theorem d240_1200 : decode (xmb 240) 1200 = .ok (.aload_n 0, 1) := by decide +kernel
set_option maxRecDepth 100000 in
theorem d240_1201 : decode (xmb 240) 1201 = .ok (.iload 4, 2) := by decide +kernel
set_option maxRecDepth 100000 in
theorem d240_1203 : decode (xmb 240) 1203 = .ok (.iconst 3, 1) := by decide +kernel
set_option maxRecDepth 100000 in
theorem d240_1204 : decode (xmb 240) 1204 = .ok (.iadd, 1) := by decide +kernel
set_option maxRecDepth 100000 in
theorem d240_1205 : decode (xmb 240) 1205 = .ok (.iaload, 1) := by decide +kernel
set_option maxRecDepth 100000 in
theorem d240_1206 : decode (xmb 240) 1206 = .ok (.ifCond .eq 7, 3) := by decide +kernel
set_option maxRecDepth 100000 in
theorem d240_1209 : decode (xmb 240) 1209 = .ok (.iconst 1, 1) := by decide +kernel
set_option maxRecDepth 100000 in
theorem d240_1210 : decode (xmb 240) 1210 = .ok (.goto 4, 3) := by decide +kernel
set_option maxRecDepth 100000 in
theorem d240_1213 : decode (xmb 240) 1213 = .ok (.iconst 0, 1) := by decide +kernel
set_option maxRecDepth 100000 in
theorem d240_1214 : decode (xmb 240) 1214 = .ok (.invokevirtual 173, 3) := by decide +kernel
set_option maxRecDepth 100000 in
theorem d240_1217 : decode (xmb 240) 1217 = .ok (.istore 6, 2) := by decide +kernel
set_option maxRecDepth 100000 in
theorem d240_1219 : decode (xmb 240) 1219 = .ok (.aload_n 2, 1) := by decide +kernel
set_option maxRecDepth 100000 in
theorem d240_1220 : decode (xmb 240) 1220 = .ok (.invokevirtual 115, 3) := by decide +kernel
set_option maxRecDepth 100000 in
theorem d240_1223 : decode (xmb 240) 1223 = .ok (.iload 5, 2) := by decide +kernel
set_option maxRecDepth 100000 in
theorem d240_1225 : decode (xmb 240) 1225 = .ok (.if_icmp .eq 5, 3) := by decide +kernel
set_option maxRecDepth 100000 in
theorem d240_1228 : decode (xmb 240) 1228 = .ok (.iconst 0, 1) := by decide +kernel
set_option maxRecDepth 100000 in
theorem d240_1229 : decode (xmb 240) 1229 = .ok (.ireturn, 1) := by decide +kernel
set_option maxRecDepth 100000 in
theorem d240_1230 : decode (xmb 240) 1230 = .ok (.iload 5, 2) := by decide +kernel
set_option maxRecDepth 100000 in
theorem d240_1232 : decode (xmb 240) 1232 = .ok (.ifCond .ne 15, 3) := by decide +kernel
set_option maxRecDepth 100000 in
theorem d240_1235 : decode (xmb 240) 1235 = .ok (.aload_n 3, 1) := by decide +kernel
set_option maxRecDepth 100000 in
theorem d240_1236 : decode (xmb 240) 1236 = .ok (.iconst 0, 1) := by decide +kernel
set_option maxRecDepth 100000 in
theorem d240_1237 : decode (xmb 240) 1237 = .ok (.laload, 1) := by decide +kernel
set_option maxRecDepth 100000 in
theorem d240_1238 : decode (xmb 240) 1238 = .ok (.iload 6, 2) := by decide +kernel
set_option maxRecDepth 100000 in
theorem d240_1240 : decode (xmb 240) 1240 = .ok (.i2l, 1) := by decide +kernel
set_option maxRecDepth 100000 in
theorem d240_1241 : decode (xmb 240) 1241 = .ok (.lcmp, 1) := by decide +kernel
set_option maxRecDepth 100000 in
theorem d240_1242 : decode (xmb 240) 1242 = .ok (.ifCond .eq 5, 3) := by decide +kernel
set_option maxRecDepth 100000 in
theorem d240_1245 : decode (xmb 240) 1245 = .ok (.iconst 0, 1) := by decide +kernel
set_option maxRecDepth 100000 in
theorem d240_1246 : decode (xmb 240) 1246 = .ok (.ireturn, 1) := by decide +kernel
set_option maxRecDepth 100000 in
theorem d240_1247 : decode (xmb 240) 1247 = .ok (.goto 864, 3) := by decide +kernel
set_option maxRecDepth 100000 in
theorem d240_1250 : decode (xmb 240) 1250 = .ok (.aload_n 1, 1) := by decide +kernel
set_option maxRecDepth 100000 in
theorem d240_1251 : decode (xmb 240) 1251 = .ok (.aload_n 0, 1) := by decide +kernel
set_option maxRecDepth 100000 in
theorem d240_1252 : decode (xmb 240) 1252 = .ok (.iload 4, 2) := by decide +kernel
set_option maxRecDepth 100000 in
theorem d240_1254 : decode (xmb 240) 1254 = .ok (.iconst 1, 1) := by decide +kernel
set_option maxRecDepth 100000 in
theorem d240_1255 : decode (xmb 240) 1255 = .ok (.iadd, 1) := by decide +kernel
set_option maxRecDepth 100000 in
theorem d240_1256 : decode (xmb 240) 1256 = .ok (.iaload, 1) := by decide +kernel
set_option maxRecDepth 100000 in
theorem d240_1257 : decode (xmb 240) 1257 = .ok (.aload_n 0, 1) := by decide +kernel
set_option maxRecDepth 100000 in
theorem d240_1258 : decode (xmb 240) 1258 = .ok (.iload 4, 2) := by decide +kernel
set_option maxRecDepth 100000 in
theorem d240_1260 : decode (xmb 240) 1260 = .ok (.iconst 2, 1) := by decide +kernel
set_option maxRecDepth 100000 in
theorem d240_1261 : decode (xmb 240) 1261 = .ok (.iadd, 1) := by decide +kernel
set_option maxRecDepth 100000 in
theorem d240_1262 : decode (xmb 240) 1262 = .ok (.iaload, 1) := by decide +kernel
set_option maxRecDepth 100000 in
theorem d240_1263 : decode (xmb 240) 1263 = .ok (.aload_n 0, 1) := by decide +kernel
set_option maxRecDepth 100000 in
theorem d240_1264 : decode (xmb 240) 1264 = .ok (.iload 4, 2) := by decide +kernel
set_option maxRecDepth 100000 in
theorem d240_1266 : decode (xmb 240) 1266 = .ok (.iconst 3, 1) := by decide +kernel
set_option maxRecDepth 100000 in
theorem d240_1267 : decode (xmb 240) 1267 = .ok (.iadd, 1) := by decide +kernel
set_option maxRecDepth 100000 in
theorem d240_1268 : decode (xmb 240) 1268 = .ok (.iaload, 1) := by decide +kernel
set_option maxRecDepth 100000 in
theorem d240_1269 : decode (xmb 240) 1269 = .ok (.ifCond .eq 7, 3) := by decide +kernel
set_option maxRecDepth 100000 in
theorem d240_1272 : decode (xmb 240) 1272 = .ok (.iconst 1, 1) := by decide +kernel
set_option maxRecDepth 100000 in
theorem d240_1273 : decode (xmb 240) 1273 = .ok (.goto 4, 3) := by decide +kernel
set_option maxRecDepth 100000 in
theorem d240_1276 : decode (xmb 240) 1276 = .ok (.iconst 0, 1) := by decide +kernel
set_option maxRecDepth 100000 in
theorem d240_1277 : decode (xmb 240) 1277 = .ok (.aload_n 3, 1) := by decide +kernel
set_option maxRecDepth 100000 in
theorem d240_1278 : decode (xmb 240) 1278 = .ok (.invokestatic 174, 3) := by decide +kernel
set_option maxRecDepth 100000 in
theorem d240_1281 : decode (xmb 240) 1281 = .ok (.istore 5, 2) := by decide +kernel
set_option maxRecDepth 100000 in
theorem d240_1283 : decode (xmb 240) 1283 = .ok (.aload_n 2, 1) := by decide +kernel
set_option maxRecDepth 100000 in
theorem d240_1284 : decode (xmb 240) 1284 = .ok (.aload_n 0, 1) := by decide +kernel
set_option maxRecDepth 100000 in
theorem d240_1285 : decode (xmb 240) 1285 = .ok (.iload 4, 2) := by decide +kernel
set_option maxRecDepth 100000 in
theorem d240_1287 : decode (xmb 240) 1287 = .ok (.iconst 1, 1) := by decide +kernel
set_option maxRecDepth 100000 in
theorem d240_1288 : decode (xmb 240) 1288 = .ok (.iadd, 1) := by decide +kernel
set_option maxRecDepth 100000 in
theorem d240_1289 : decode (xmb 240) 1289 = .ok (.iaload, 1) := by decide +kernel
set_option maxRecDepth 100000 in
theorem d240_1290 : decode (xmb 240) 1290 = .ok (.aload_n 0, 1) := by decide +kernel
set_option maxRecDepth 100000 in
theorem d240_1291 : decode (xmb 240) 1291 = .ok (.iload 4, 2) := by decide +kernel
set_option maxRecDepth 100000 in
theorem d240_1293 : decode (xmb 240) 1293 = .ok (.iconst 2, 1) := by decide +kernel
set_option maxRecDepth 100000 in
theorem d240_1294 : decode (xmb 240) 1294 = .ok (.iadd, 1) := by decide +kernel
set_option maxRecDepth 100000 in
theorem d240_1295 : decode (xmb 240) 1295 = .ok (.iaload, 1) := by decide +kernel
set_option maxRecDepth 100000 in
theorem d240_1296 : decode (xmb 240) 1296 = .ok (.aload_n 0, 1) := by decide +kernel
