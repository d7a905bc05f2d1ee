/-! the law's instructions, 3 -/
theorem dl_867 : decode code 867 = .ok (.aload_n 0, 1) := by decide +kernel
theorem dl_868 : decode code 868 = .ok (.iload 4, 2) := by decide +kernel
theorem dl_870 : decode code 870 = .ok (.iconst 2, 1) := by decide +kernel
theorem dl_871 : decode code 871 = .ok (.iadd, 1) := by decide +kernel
theorem dl_872 : decode code 872 = .ok (.iaload, 1) := by decide +kernel
theorem dl_873 : decode code 873 = .ok (.aload_n 3, 1) := by decide +kernel
theorem dl_874 : decode code 874 = .ok (.invokestatic 152, 3) := by decide +kernel
theorem dl_877 : decode code 877 = .ok (.istore 5, 2) := by decide +kernel
theorem dl_879 : decode code 879 = .ok (.aload_n 2, 1) := by decide +kernel
theorem dl_880 : decode code 880 = .ok (.aload_n 0, 1) := by decide +kernel
theorem dl_881 : decode code 881 = .ok (.iload 4, 2) := by decide +kernel
theorem dl_883 : decode code 883 = .ok (.iconst 1, 1) := by decide +kernel
theorem dl_884 : decode code 884 = .ok (.iadd, 1) := by decide +kernel
theorem dl_885 : decode code 885 = .ok (.iaload, 1) := by decide +kernel
theorem dl_886 : decode code 886 = .ok (.aload_n 0, 1) := by decide +kernel
theorem dl_887 : decode code 887 = .ok (.iload 4, 2) := by decide +kernel
theorem dl_889 : decode code 889 = .ok (.iconst 2, 1) := by decide +kernel
theorem dl_890 : decode code 890 = .ok (.iadd, 1) := by decide +kernel
theorem dl_891 : decode code 891 = .ok (.iaload, 1) := by decide +kernel
theorem dl_892 : decode code 892 = .ok (.invokevirtual 154, 3) := by decide +kernel
theorem dl_895 : decode code 895 = .ok (.istore 6, 2) := by decide +kernel
theorem dl_897 : decode code 897 = .ok (.aload_n 2, 1) := by decide +kernel
theorem dl_898 : decode code 898 = .ok (.invokevirtual 94, 3) := by decide +kernel
theorem dl_901 : decode code 901 = .ok (.iload 5, 2) := by decide +kernel
theorem dl_903 : decode code 903 = .ok (.if_icmp .eq 5, 3) := by decide +kernel
theorem dl_906 : decode code 906 = .ok (.iconst 0, 1) := by decide +kernel
theorem dl_907 : decode code 907 = .ok (.ireturn, 1) := by decide +kernel
theorem dl_908 : decode code 908 = .ok (.iload 5, 2) := by decide +kernel
theorem dl_910 : decode code 910 = .ok (.ifCond .ne 15, 3) := by decide +kernel
theorem dl_913 : decode code 913 = .ok (.aload_n 3, 1) := by decide +kernel
theorem dl_914 : decode code 914 = .ok (.iconst 0, 1) := by decide +kernel
theorem dl_915 : decode code 915 = .ok (.laload, 1) := by decide +kernel
theorem dl_916 : decode code 916 = .ok (.iload 6, 2) := by decide +kernel
theorem dl_918 : decode code 918 = .ok (.i2l, 1) := by decide +kernel
theorem dl_919 : decode code 919 = .ok (.lcmp, 1) := by decide +kernel
theorem dl_920 : decode code 920 = .ok (.ifCond .eq 5, 3) := by decide +kernel
theorem dl_923 : decode code 923 = .ok (.iconst 0, 1) := by decide +kernel
theorem dl_924 : decode code 924 = .ok (.ireturn, 1) := by decide +kernel
theorem dl_925 : decode code 925 = .ok (.goto 289, 3) := by decide +kernel
theorem dl_928 : decode code 928 = .ok (.aload_n 1, 1) := by decide +kernel
theorem dl_929 : decode code 929 = .ok (.aload_n 0, 1) := by decide +kernel
theorem dl_930 : decode code 930 = .ok (.iload 4, 2) := by decide +kernel
theorem dl_932 : decode code 932 = .ok (.iconst 1, 1) := by decide +kernel
theorem dl_933 : decode code 933 = .ok (.iadd, 1) := by decide +kernel
theorem dl_934 : decode code 934 = .ok (.iaload, 1) := by decide +kernel
theorem dl_935 : decode code 935 = .ok (.aload_n 3, 1) := by decide +kernel
theorem dl_936 : decode code 936 = .ok (.invokestatic 155, 3) := by decide +kernel
theorem dl_939 : decode code 939 = .ok (.istore 5, 2) := by decide +kernel
theorem dl_941 : decode code 941 = .ok (.aload_n 2, 1) := by decide +kernel
theorem dl_942 : decode code 942 = .ok (.aload_n 0, 1) := by decide +kernel
theorem dl_943 : decode code 943 = .ok (.iload 4, 2) := by decide +kernel
theorem dl_945 : decode code 945 = .ok (.iconst 1, 1) := by decide +kernel
theorem dl_946 : decode code 946 = .ok (.iadd, 1) := by decide +kernel
theorem dl_947 : decode code 947 = .ok (.iaload, 1) := by decide +kernel
theorem dl_948 : decode code 948 = .ok (.invokevirtual 157, 3) := by decide +kernel
theorem dl_951 : decode code 951 = .ok (.istore 6, 2) := by decide +kernel
theorem dl_953 : decode code 953 = .ok (.aload_n 2, 1) := by decide +kernel
theorem dl_954 : decode code 954 = .ok (.invokevirtual 94, 3) := by decide +kernel
theorem dl_957 : decode code 957 = .ok (.iload 5, 2) := by decide +kernel
theorem dl_959 : decode code 959 = .ok (.if_icmp .eq 5, 3) := by decide +kernel
theorem dl_962 : decode code 962 = .ok (.iconst 0, 1) := by decide +kernel
theorem dl_963 : decode code 963 = .ok (.ireturn, 1) := by decide +kernel
theorem dl_964 : decode code 964 = .ok (.iload 5, 2) := by decide +kernel
theorem dl_966 : decode code 966 = .ok (.ifCond .ne 15, 3) := by decide +kernel
theorem dl_969 : decode code 969 = .ok (.aload_n 3, 1) := by decide +kernel
theorem dl_970 : decode code 970 = .ok (.iconst 0, 1) := by decide +kernel
theorem dl_971 : decode code 971 = .ok (.laload, 1) := by decide +kernel
theorem dl_972 : decode code 972 = .ok (.iload 6, 2) := by decide +kernel
theorem dl_974 : decode code 974 = .ok (.i2l, 1) := by decide +kernel
theorem dl_975 : decode code 975 = .ok (.lcmp, 1) := by decide +kernel
theorem dl_976 : decode code 976 = .ok (.ifCond .eq 5, 3) := by decide +kernel
theorem dl_979 : decode code 979 = .ok (.iconst 0, 1) := by decide +kernel
theorem dl_980 : decode code 980 = .ok (.ireturn, 1) := by decide +kernel
theorem dl_981 : decode code 981 = .ok (.goto 233, 3) := by decide +kernel
theorem dl_984 : decode code 984 = .ok (.aload_n 1, 1) := by decide +kernel
theorem dl_985 : decode code 985 = .ok (.invokevirtual 158, 3) := by decide +kernel
theorem dl_988 : decode code 988 = .ok (.aload_n 2, 1) := by decide +kernel
theorem dl_989 : decode code 989 = .ok (.invokevirtual 161, 3) := by decide +kernel
theorem dl_992 : decode code 992 = .ok (.if_icmp .eq 222, 3) := by decide +kernel
theorem dl_995 : decode code 995 = .ok (.iconst 0, 1) := by decide +kernel
theorem dl_996 : decode code 996 = .ok (.ireturn, 1) := by decide +kernel
theorem dl_997 : decode code 997 = .ok (.aload_n 1, 1) := by decide +kernel
theorem dl_998 : decode code 998 = .ok (.aload_n 0, 1) := by decide +kernel
theorem dl_999 : decode code 999 = .ok (.iload 4, 2) := by decide +kernel
theorem dl_1001 : decode code 1001 = .ok (.iconst 1, 1) := by decide +kernel
theorem dl_1002 : decode code 1002 = .ok (.iadd, 1) := by decide +kernel
theorem dl_1003 : decode code 1003 = .ok (.iaload, 1) := by decide +kernel
theorem dl_1004 : decode code 1004 = .ok (.aload_n 0, 1) := by decide +kernel
theorem dl_1005 : decode code 1005 = .ok (.iload 4, 2) := by decide +kernel
theorem dl_1007 : decode code 1007 = .ok (.iconst 2, 1) := by decide +kernel
theorem dl_1008 : decode code 1008 = .ok (.iadd, 1) := by decide +kernel
theorem dl_1009 : decode code 1009 = .ok (.iaload, 1) := by decide +kernel
theorem dl_1010 : decode code 1010 = .ok (.aload_n 3, 1) := by decide +kernel
theorem dl_1011 : decode code 1011 = .ok (.invokestatic 162, 3) := by decide +kernel
theorem dl_1014 : decode code 1014 = .ok (.istore 5, 2) := by decide +kernel
theorem dl_1016 : decode code 1016 = .ok (.aload_n 2, 1) := by decide +kernel
theorem dl_1017 : decode code 1017 = .ok (.aload_n 0, 1) := by decide +kernel
theorem dl_1018 : decode code 1018 = .ok (.iload 4, 2) := by decide +kernel
theorem dl_1020 : decode code 1020 = .ok (.iconst 1, 1) := by decide +kernel
theorem dl_1021 : decode code 1021 = .ok (.iadd, 1) := by decide +kernel
theorem dl_1022 : decode code 1022 = .ok (.iaload, 1) := by decide +kernel
theorem dl_1023 : decode code 1023 = .ok (.aload_n 0, 1) := by decide +kernel
theorem dl_1024 : decode code 1024 = .ok (.iload 4, 2) := by decide +kernel
theorem dl_1026 : decode code 1026 = .ok (.iconst 2, 1) := by decide +kernel
theorem dl_1027 : decode code 1027 = .ok (.iadd, 1) := by decide +kernel
theorem dl_1028 : decode code 1028 = .ok (.iaload, 1) := by decide +kernel
theorem dl_1029 : decode code 1029 = .ok (.invokevirtual 164, 3) := by decide +kernel
theorem dl_1032 : decode code 1032 = .ok (.istore 6, 2) := by decide +kernel
theorem dl_1034 : decode code 1034 = .ok (.aload_n 2, 1) := by decide +kernel
theorem dl_1035 : decode code 1035 = .ok (.invokevirtual 94, 3) := by decide +kernel
theorem dl_1038 : decode code 1038 = .ok (.iload 5, 2) := by decide +kernel
theorem dl_1040 : decode code 1040 = .ok (.if_icmp .eq 5, 3) := by decide +kernel
theorem dl_1043 : decode code 1043 = .ok (.iconst 0, 1) := by decide +kernel
theorem dl_1044 : decode code 1044 = .ok (.ireturn, 1) := by decide +kernel
theorem dl_1045 : decode code 1045 = .ok (.iload 5, 2) := by decide +kernel
theorem dl_1047 : decode code 1047 = .ok (.ifCond .ne 15, 3) := by decide +kernel
theorem dl_1050 : decode code 1050 = .ok (.aload_n 3, 1) := by decide +kernel
theorem dl_1051 : decode code 1051 = .ok (.iconst 0, 1) := by decide +kernel
theorem dl_1052 : decode code 1052 = .ok (.laload, 1) := by decide +kernel
theorem dl_1053 : decode code 1053 = .ok (.iload 6, 2) := by decide +kernel
theorem dl_1055 : decode code 1055 = .ok (.i2l, 1) := by decide +kernel
theorem dl_1056 : decode code 1056 = .ok (.lcmp, 1) := by decide +kernel
theorem dl_1057 : decode code 1057 = .ok (.ifCond .eq 5, 3) := by decide +kernel
theorem dl_1060 : decode code 1060 = .ok (.iconst 0, 1) := by decide +kernel
theorem dl_1061 : decode code 1061 = .ok (.ireturn, 1) := by decide +kernel
theorem dl_1062 : decode code 1062 = .ok (.goto 152, 3) := by decide +kernel
theorem dl_1065 : decode code 1065 = .ok (.aload_n 1, 1) := by decide +kernel
theorem dl_1066 : decode code 1066 = .ok (.aload_n 0, 1) := by decide +kernel
theorem dl_1067 : decode code 1067 = .ok (.iload 4, 2) := by decide +kernel
theorem dl_1069 : decode code 1069 = .ok (.iconst 1, 1) := by decide +kernel
theorem dl_1070 : decode code 1070 = .ok (.iadd, 1) := by decide +kernel
theorem dl_1071 : decode code 1071 = .ok (.iaload, 1) := by decide +kernel
theorem dl_1072 : decode code 1072 = .ok (.aload_n 0, 1) := by decide +kernel
theorem dl_1073 : decode code 1073 = .ok (.iload 4, 2) := by decide +kernel
theorem dl_1075 : decode code 1075 = .ok (.iconst 2, 1) := by decide +kernel
theorem dl_1076 : decode code 1076 = .ok (.iadd, 1) := by decide +kernel
theorem dl_1077 : decode code 1077 = .ok (.iaload, 1) := by decide +kernel
theorem dl_1078 : decode code 1078 = .ok (.aload_n 3, 1) := by decide +kernel
theorem dl_1079 : decode code 1079 = .ok (.invokestatic 165, 3) := by decide +kernel
theorem dl_1082 : decode code 1082 = .ok (.istore 5, 2) := by decide +kernel
theorem dl_1084 : decode code 1084 = .ok (.aload_n 2, 1) := by decide +kernel
theorem dl_1085 : decode code 1085 = .ok (.aload_n 0, 1) := by decide +kernel
theorem dl_1086 : decode code 1086 = .ok (.iload 4, 2) := by decide +kernel
theorem dl_1088 : decode code 1088 = .ok (.iconst 1, 1) := by decide +kernel
theorem dl_1089 : decode code 1089 = .ok (.iadd, 1) := by decide +kernel
theorem dl_1090 : decode code 1090 = .ok (.iaload, 1) := by decide +kernel
theorem dl_1091 : decode code 1091 = .ok (.aload_n 0, 1) := by decide +kernel
theorem dl_1092 : decode code 1092 = .ok (.iload 4, 2) := by decide +kernel
theorem dl_1094 : decode code 1094 = .ok (.iconst 2, 1) := by decide +kernel
theorem dl_1095 : decode code 1095 = .ok (.iadd, 1) := by decide +kernel
theorem dl_1096 : decode code 1096 = .ok (.iaload, 1) := by decide +kernel
theorem dl_1097 : decode code 1097 = .ok (.invokevirtual 167, 3) := by decide +kernel
theorem dl_1100 : decode code 1100 = .ok (.istore 6, 2) := by decide +kernel
theorem dl_1102 : decode code 1102 = .ok (.aload_n 2, 1) := by decide +kernel
theorem dl_1103 : decode code 1103 = .ok (.invokevirtual 94, 3) := by decide +kernel
theorem dl_1106 : decode code 1106 = .ok (.iload 5, 2) := by decide +kernel
theorem dl_1108 : decode code 1108 = .ok (.if_icmp .eq 5, 3) := by decide +kernel
theorem dl_1111 : decode code 1111 = .ok (.iconst 0, 1) := by decide +kernel
theorem dl_1112 : decode code 1112 = .ok (.ireturn, 1) := by decide +kernel
theorem dl_1113 : decode code 1113 = .ok (.iload 5, 2) := by decide +kernel
theorem dl_1115 : decode code 1115 = .ok (.ifCond .ne 15, 3) := by decide +kernel
theorem dl_1118 : decode code 1118 = .ok (.aload_n 3, 1) := by decide +kernel
theorem dl_1119 : decode code 1119 = .ok (.iconst 0, 1) := by decide +kernel
theorem dl_1120 : decode code 1120 = .ok (.laload, 1) := by decide +kernel
theorem dl_1121 : decode code 1121 = .ok (.iload 6, 2) := by decide +kernel
theorem dl_1123 : decode code 1123 = .ok (.i2l, 1) := by decide +kernel
theorem dl_1124 : decode code 1124 = .ok (.lcmp, 1) := by decide +kernel
theorem dl_1125 : decode code 1125 = .ok (.ifCond .eq 5, 3) := by decide +kernel
theorem dl_1128 : decode code 1128 = .ok (.iconst 0, 1) := by decide +kernel
theorem dl_1129 : decode code 1129 = .ok (.ireturn, 1) := by decide +kernel
theorem dl_1130 : decode code 1130 = .ok (.goto 84, 3) := by decide +kernel
theorem dl_1133 : decode code 1133 = .ok (.aload_n 1, 1) := by decide +kernel
theorem dl_1134 : decode code 1134 = .ok (.aload_n 0, 1) := by decide +kernel
theorem dl_1135 : decode code 1135 = .ok (.iload 4, 2) := by decide +kernel
theorem dl_1137 : decode code 1137 = .ok (.iconst 1, 1) := by decide +kernel
theorem dl_1138 : decode code 1138 = .ok (.iadd, 1) := by decide +kernel
theorem dl_1139 : decode code 1139 = .ok (.iaload, 1) := by decide +kernel
theorem dl_1140 : decode code 1140 = .ok (.aload_n 0, 1) := by decide +kernel
theorem dl_1141 : decode code 1141 = .ok (.iload 4, 2) := by decide +kernel
theorem dl_1143 : decode code 1143 = .ok (.iconst 2, 1) := by decide +kernel
theorem dl_1144 : decode code 1144 = .ok (.iadd, 1) := by decide +kernel
theorem dl_1145 : decode code 1145 = .ok (.iaload, 1) := by decide +kernel
theorem dl_1146 : decode code 1146 = .ok (.aload_n 3, 1) := by decide +kernel
theorem dl_1147 : decode code 1147 = .ok (.invokestatic 168, 3) := by decide +kernel
theorem dl_1150 : decode code 1150 = .ok (.istore 5, 2) := by decide +kernel
theorem dl_1152 : decode code 1152 = .ok (.aload_n 2, 1) := by decide +kernel
theorem dl_1153 : decode code 1153 = .ok (.aload_n 0, 1) := by decide +kernel
theorem dl_1154 : decode code 1154 = .ok (.iload 4, 2) := by decide +kernel
theorem dl_1156 : decode code 1156 = .ok (.iconst 1, 1) := by decide +kernel
theorem dl_1157 : decode code 1157 = .ok (.iadd, 1) := by decide +kernel
theorem dl_1158 : decode code 1158 = .ok (.iaload, 1) := by decide +kernel
theorem dl_1159 : decode code 1159 = .ok (.aload_n 0, 1) := by decide +kernel
theorem dl_1160 : decode code 1160 = .ok (.iload 4, 2) := by decide +kernel
theorem dl_1162 : decode code 1162 = .ok (.iconst 2, 1) := by decide +kernel
theorem dl_1163 : decode code 1163 = .ok (.iadd, 1) := by decide +kernel
theorem dl_1164 : decode code 1164 = .ok (.iaload, 1) := by decide +kernel
theorem dl_1165 : decode code 1165 = .ok (.invokevirtual 170, 3) := by decide +kernel
theorem dl_1168 : decode code 1168 = .ok (.istore 6, 2) := by decide +kernel
theorem dl_1170 : decode code 1170 = .ok (.aload_n 2, 1) := by decide +kernel
theorem dl_1171 : decode code 1171 = .ok (.invokevirtual 94, 3) := by decide +kernel
theorem dl_1174 : decode code 1174 = .ok (.iload 5, 2) := by decide +kernel
theorem dl_1176 : decode code 1176 = .ok (.if_icmp .eq 5, 3) := by decide +kernel
theorem dl_1179 : decode code 1179 = .ok (.iconst 0, 1) := by decide +kernel
theorem dl_1180 : decode code 1180 = .ok (.ireturn, 1) := by decide +kernel
theorem dl_1181 : decode code 1181 = .ok (.iload 5, 2) := by decide +kernel
theorem dl_1183 : decode code 1183 = .ok (.ifCond .ne 15, 3) := by decide +kernel
theorem dl_1186 : decode code 1186 = .ok (.aload_n 3, 1) := by decide +kernel
theorem dl_1187 : decode code 1187 = .ok (.iconst 0, 1) := by decide +kernel
theorem dl_1188 : decode code 1188 = .ok (.laload, 1) := by decide +kernel
theorem dl_1189 : decode code 1189 = .ok (.iload 6, 2) := by decide +kernel
theorem dl_1191 : decode code 1191 = .ok (.i2l, 1) := by decide +kernel
theorem dl_1192 : decode code 1192 = .ok (.lcmp, 1) := by decide +kernel
theorem dl_1193 : decode code 1193 = .ok (.ifCond .eq 5, 3) := by decide +kernel
theorem dl_1196 : decode code 1196 = .ok (.iconst 0, 1) := by decide +kernel
theorem dl_1197 : decode code 1197 = .ok (.ireturn, 1) := by decide +kernel
theorem dl_1198 : decode code 1198 = .ok (.goto 16, 3) := by decide +kernel
theorem dl_1201 : decode code 1201 = .ok (.aload_n 1, 1) := by decide +kernel
theorem dl_1202 : decode code 1202 = .ok (.invokevirtual 171, 3) := by decide +kernel
theorem dl_1205 : decode code 1205 = .ok (.aload_n 2, 1) := by decide +kernel
theorem dl_1206 : decode code 1206 = .ok (.invokevirtual 174, 3) := by decide +kernel
theorem dl_1209 : decode code 1209 = .ok (.if_icmp .eq 5, 3) := by decide +kernel
theorem dl_1212 : decode code 1212 = .ok (.iconst 0, 1) := by decide +kernel
theorem dl_1213 : decode code 1213 = .ok (.ireturn, 1) := by decide +kernel
theorem dl_1214 : decode code 1214 = .ok (.iinc 4 3, 3) := by decide +kernel
theorem dl_1217 : decode code 1217 = .ok (.goto (-1194), 3) := by decide +kernel
theorem dl_1220 : decode code 1220 = .ok (.iconst 1, 1) := by decide +kernel
theorem dl_1221 : decode code 1221 = .ok (.ireturn, 1) := by decide +kernel
