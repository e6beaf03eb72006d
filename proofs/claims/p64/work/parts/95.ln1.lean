/-! ===== the law: names (2) ===== -/
theorem dL_law_770 : decode cL_law 770 = .ok (.iload 8, 2) := by decide +kernel
theorem dL_law_772 : decode cL_law 772 = .ok (.iload 14, 2) := by decide +kernel
theorem dL_law_774 : decode cL_law 774 = .ok (.ishr, 1) := by decide +kernel
theorem dL_law_775 : decode cL_law 775 = .ok (.iconst 1, 1) := by decide +kernel
theorem dL_law_776 : decode cL_law 776 = .ok (.iand, 1) := by decide +kernel
theorem dL_law_777 : decode cL_law 777 = .ok (.iconst 1, 1) := by decide +kernel
theorem dL_law_778 : decode cL_law 778 = .ok (.if_icmp .ne 7, 3) := by decide +kernel
theorem dL_law_781 : decode cL_law 781 = .ok (.iconst 1, 1) := by decide +kernel
theorem dL_law_782 : decode cL_law 782 = .ok (.goto 4, 3) := by decide +kernel
theorem dL_law_785 : decode cL_law 785 = .ok (.iconst 0, 1) := by decide +kernel
theorem dL_law_786 : decode cL_law 786 = .ok (.if_icmp .eq 5, 3) := by decide +kernel
theorem dL_law_789 : decode cL_law 789 = .ok (.iconst 0, 1) := by decide +kernel
theorem dL_law_790 : decode cL_law 790 = .ok (.ireturn, 1) := by decide +kernel
theorem dL_law_791 : decode cL_law 791 = .ok (.new 158, 3) := by decide +kernel
theorem dL_law_794 : decode cL_law 794 = .ok (.dup, 1) := by decide +kernel
theorem dL_law_795 : decode cL_law 795 = .ok (.invokespecial 160, 3) := by decide +kernel
theorem dL_law_798 : decode cL_law 798 = .ok (.aload 13, 2) := by decide +kernel
theorem dL_law_800 : decode cL_law 800 = .ok (.invokevirtual 167, 3) := by decide +kernel
theorem dL_law_803 : decode cL_law 803 = .ok (.iload 14, 2) := by decide +kernel
theorem dL_law_805 : decode cL_law 805 = .ok (.ifCond .le 8, 3) := by decide +kernel
theorem dL_law_808 : decode cL_law 808 = .ok (.ldc 220, 2) := by decide +kernel
theorem dL_law_810 : decode cL_law 810 = .ok (.goto 5, 3) := by decide +kernel
theorem dL_law_813 : decode cL_law 813 = .ok (.ldc 218, 2) := by decide +kernel
theorem dL_law_815 : decode cL_law 815 = .ok (.invokevirtual 167, 3) := by decide +kernel
theorem dL_law_818 : decode cL_law 818 = .ok (.iload 15, 2) := by decide +kernel
theorem dL_law_820 : decode cL_law 820 = .ok (.ifCond .lt 30, 3) := by decide +kernel
theorem dL_law_823 : decode cL_law 823 = .ok (.new 158, 3) := by decide +kernel
theorem dL_law_826 : decode cL_law 826 = .ok (.dup, 1) := by decide +kernel
theorem dL_law_827 : decode cL_law 827 = .ok (.invokespecial 160, 3) := by decide +kernel
theorem dL_law_830 : decode cL_law 830 = .ok (.ldc 218, 2) := by decide +kernel
theorem dL_law_832 : decode cL_law 832 = .ok (.invokevirtual 167, 3) := by decide +kernel
theorem dL_law_835 : decode cL_law 835 = .ok (.aload_n 1, 1) := by decide +kernel
theorem dL_law_836 : decode cL_law 836 = .ok (.iload 15, 2) := by decide +kernel
theorem dL_law_838 : decode cL_law 838 = .ok (.invokevirtual 136, 3) := by decide +kernel
theorem dL_law_841 : decode cL_law 841 = .ok (.invokevirtual 161, 3) := by decide +kernel
theorem dL_law_844 : decode cL_law 844 = .ok (.invokevirtual 170, 3) := by decide +kernel
theorem dL_law_847 : decode cL_law 847 = .ok (.goto 5, 3) := by decide +kernel
theorem dL_law_850 : decode cL_law 850 = .ok (.ldc 165, 2) := by decide +kernel
theorem dL_law_852 : decode cL_law 852 = .ok (.invokevirtual 167, 3) := by decide +kernel
theorem dL_law_855 : decode cL_law 855 = .ok (.invokevirtual 170, 3) := by decide +kernel
theorem dL_law_858 : decode cL_law 858 = .ok (.astore 13, 2) := by decide +kernel
theorem dL_law_860 : decode cL_law 860 = .ok (.iinc 14 1, 3) := by decide +kernel
theorem dL_law_863 : decode cL_law 863 = .ok (.goto (-117), 3) := by decide +kernel
theorem dL_law_866 : decode cL_law 866 = .ok (.sipush (-30000), 3) := by decide +kernel
theorem dL_law_869 : decode cL_law 869 = .ok (.istore 14, 2) := by decide +kernel
theorem dL_law_871 : decode cL_law 871 = .ok (.sipush (-30000), 3) := by decide +kernel
theorem dL_law_874 : decode cL_law 874 = .ok (.istore 15, 2) := by decide +kernel
theorem dL_law_876 : decode cL_law 876 = .ok (.bipush 59, 2) := by decide +kernel
theorem dL_law_878 : decode cL_law 878 = .ok (.istore 16, 2) := by decide +kernel
theorem dL_law_880 : decode cL_law 880 = .ok (.iload 16, 2) := by decide +kernel
theorem dL_law_882 : decode cL_law 882 = .ok (.ifCond .lt 114, 3) := by decide +kernel
theorem dL_law_885 : decode cL_law 885 = .ok (.aload 10, 2) := by decide +kernel
theorem dL_law_887 : decode cL_law 887 = .ok (.iload 16, 2) := by decide +kernel
theorem dL_law_889 : decode cL_law 889 = .ok (.iaload, 1) := by decide +kernel
theorem dL_law_890 : decode cL_law 890 = .ok (.sipush (-30000), 3) := by decide +kernel
theorem dL_law_893 : decode cL_law 893 = .ok (.if_icmp .eq 11, 3) := by decide +kernel
theorem dL_law_896 : decode cL_law 896 = .ok (.aload 10, 2) := by decide +kernel
theorem dL_law_898 : decode cL_law 898 = .ok (.iload 16, 2) := by decide +kernel
theorem dL_law_900 : decode cL_law 900 = .ok (.iaload, 1) := by decide +kernel
theorem dL_law_901 : decode cL_law 901 = .ok (.goto 5, 3) := by decide +kernel
theorem dL_law_904 : decode cL_law 904 = .ok (.iload 14, 2) := by decide +kernel
theorem dL_law_906 : decode cL_law 906 = .ok (.istore 14, 2) := by decide +kernel
theorem dL_law_908 : decode cL_law 908 = .ok (.aload_n 1, 1) := by decide +kernel
theorem dL_law_909 : decode cL_law 909 = .ok (.iload 16, 2) := by decide +kernel
theorem dL_law_911 : decode cL_law 911 = .ok (.invokestatic 222, 3) := by decide +kernel
theorem dL_law_914 : decode cL_law 914 = .ok (.iload 14, 2) := by decide +kernel
theorem dL_law_916 : decode cL_law 916 = .ok (.if_icmp .ne 42, 3) := by decide +kernel
theorem dL_law_919 : decode cL_law 919 = .ok (.aload_n 1, 1) := by decide +kernel
theorem dL_law_920 : decode cL_law 920 = .ok (.iload 16, 2) := by decide +kernel
theorem dL_law_922 : decode cL_law 922 = .ok (.invokevirtual 224, 3) := by decide +kernel
theorem dL_law_925 : decode cL_law 925 = .ok (.aload 10, 2) := by decide +kernel
theorem dL_law_927 : decode cL_law 927 = .ok (.iload 16, 2) := by decide +kernel
theorem dL_law_929 : decode cL_law 929 = .ok (.iaload, 1) := by decide +kernel
theorem dL_law_930 : decode cL_law 930 = .ok (.sipush (-30000), 3) := by decide +kernel
theorem dL_law_933 : decode cL_law 933 = .ok (.if_icmp .eq 7, 3) := by decide +kernel
theorem dL_law_936 : decode cL_law 936 = .ok (.iconst 1, 1) := by decide +kernel
theorem dL_law_937 : decode cL_law 937 = .ok (.goto 4, 3) := by decide +kernel
theorem dL_law_940 : decode cL_law 940 = .ok (.iconst 0, 1) := by decide +kernel
theorem dL_law_941 : decode cL_law 941 = .ok (.if_icmp .ne 17, 3) := by decide +kernel
theorem dL_law_944 : decode cL_law 944 = .ok (.aload_n 1, 1) := by decide +kernel
theorem dL_law_945 : decode cL_law 945 = .ok (.iload 16, 2) := by decide +kernel
theorem dL_law_947 : decode cL_law 947 = .ok (.invokestatic 227, 3) := by decide +kernel
theorem dL_law_950 : decode cL_law 950 = .ok (.aload 10, 2) := by decide +kernel
theorem dL_law_952 : decode cL_law 952 = .ok (.iload 16, 2) := by decide +kernel
theorem dL_law_954 : decode cL_law 954 = .ok (.iaload, 1) := by decide +kernel
theorem dL_law_955 : decode cL_law 955 = .ok (.if_icmp .eq 5, 3) := by decide +kernel
theorem dL_law_958 : decode cL_law 958 = .ok (.iconst 0, 1) := by decide +kernel
theorem dL_law_959 : decode cL_law 959 = .ok (.ireturn, 1) := by decide +kernel
theorem dL_law_960 : decode cL_law 960 = .ok (.iload 16, 2) := by decide +kernel
theorem dL_law_962 : decode cL_law 962 = .ok (.iload 9, 2) := by decide +kernel
theorem dL_law_964 : decode cL_law 964 = .ok (.if_icmp .le 22, 3) := by decide +kernel
theorem dL_law_967 : decode cL_law 967 = .ok (.aload 10, 2) := by decide +kernel
theorem dL_law_969 : decode cL_law 969 = .ok (.iload 16, 2) := by decide +kernel
theorem dL_law_971 : decode cL_law 971 = .ok (.iaload, 1) := by decide +kernel
theorem dL_law_972 : decode cL_law 972 = .ok (.sipush (-30000), 3) := by decide +kernel
theorem dL_law_975 : decode cL_law 975 = .ok (.if_icmp .eq 11, 3) := by decide +kernel
theorem dL_law_978 : decode cL_law 978 = .ok (.iload 16, 2) := by decide +kernel
theorem dL_law_980 : decode cL_law 980 = .ok (.iload 9, 2) := by decide +kernel
theorem dL_law_982 : decode cL_law 982 = .ok (.isub, 1) := by decide +kernel
theorem dL_law_983 : decode cL_law 983 = .ok (.goto 5, 3) := by decide +kernel
theorem dL_law_986 : decode cL_law 986 = .ok (.iload 15, 2) := by decide +kernel
theorem dL_law_988 : decode cL_law 988 = .ok (.istore 15, 2) := by decide +kernel
theorem dL_law_990 : decode cL_law 990 = .ok (.iinc 16 (-1), 3) := by decide +kernel
theorem dL_law_993 : decode cL_law 993 = .ok (.goto (-113), 3) := by decide +kernel
theorem dL_law_996 : decode cL_law 996 = .ok (.sipush (-30000), 3) := by decide +kernel
theorem dL_law_999 : decode cL_law 999 = .ok (.istore 16, 2) := by decide +kernel
theorem dL_law_1001 : decode cL_law 1001 = .ok (.iconst 0, 1) := by decide +kernel
theorem dL_law_1002 : decode cL_law 1002 = .ok (.istore 17, 2) := by decide +kernel
theorem dL_law_1004 : decode cL_law 1004 = .ok (.iload 17, 2) := by decide +kernel
theorem dL_law_1006 : decode cL_law 1006 = .ok (.bipush 60, 2) := by decide +kernel
theorem dL_law_1008 : decode cL_law 1008 = .ok (.if_icmp .ge 110, 3) := by decide +kernel
theorem dL_law_1011 : decode cL_law 1011 = .ok (.aload 10, 2) := by decide +kernel
theorem dL_law_1013 : decode cL_law 1013 = .ok (.iload 17, 2) := by decide +kernel
theorem dL_law_1015 : decode cL_law 1015 = .ok (.iaload, 1) := by decide +kernel
theorem dL_law_1016 : decode cL_law 1016 = .ok (.sipush (-30000), 3) := by decide +kernel
theorem dL_law_1019 : decode cL_law 1019 = .ok (.if_icmp .eq 11, 3) := by decide +kernel
theorem dL_law_1022 : decode cL_law 1022 = .ok (.aload 10, 2) := by decide +kernel
theorem dL_law_1024 : decode cL_law 1024 = .ok (.iload 17, 2) := by decide +kernel
theorem dL_law_1026 : decode cL_law 1026 = .ok (.iaload, 1) := by decide +kernel
theorem dL_law_1027 : decode cL_law 1027 = .ok (.goto 5, 3) := by decide +kernel
theorem dL_law_1030 : decode cL_law 1030 = .ok (.iload 16, 2) := by decide +kernel
theorem dL_law_1032 : decode cL_law 1032 = .ok (.istore 16, 2) := by decide +kernel
theorem dL_law_1034 : decode cL_law 1034 = .ok (.aload_n 1, 1) := by decide +kernel
theorem dL_law_1035 : decode cL_law 1035 = .ok (.iload 17, 2) := by decide +kernel
theorem dL_law_1037 : decode cL_law 1037 = .ok (.invokestatic 222, 3) := by decide +kernel
theorem dL_law_1040 : decode cL_law 1040 = .ok (.istore 14, 2) := by decide +kernel
theorem dL_law_1042 : decode cL_law 1042 = .ok (.iload 16, 2) := by decide +kernel
theorem dL_law_1044 : decode cL_law 1044 = .ok (.sipush (-30000), 3) := by decide +kernel
theorem dL_law_1047 : decode cL_law 1047 = .ok (.if_icmp .eq 32, 3) := by decide +kernel
theorem dL_law_1050 : decode cL_law 1050 = .ok (.iload 14, 2) := by decide +kernel
theorem dL_law_1052 : decode cL_law 1052 = .ok (.sipush (-30000), 3) := by decide +kernel
theorem dL_law_1055 : decode cL_law 1055 = .ok (.if_icmp .eq 29, 3) := by decide +kernel
theorem dL_law_1058 : decode cL_law 1058 = .ok (.aload_n 1, 1) := by decide +kernel
theorem dL_law_1059 : decode cL_law 1059 = .ok (.iload 14, 2) := by decide +kernel
theorem dL_law_1061 : decode cL_law 1061 = .ok (.invokevirtual 136, 3) := by decide +kernel
theorem dL_law_1064 : decode cL_law 1064 = .ok (.iload 17, 2) := by decide +kernel
theorem dL_law_1066 : decode cL_law 1066 = .ok (.isub, 1) := by decide +kernel
theorem dL_law_1067 : decode cL_law 1067 = .ok (.iload 17, 2) := by decide +kernel
theorem dL_law_1069 : decode cL_law 1069 = .ok (.aload_n 1, 1) := by decide +kernel
theorem dL_law_1070 : decode cL_law 1070 = .ok (.iload 16, 2) := by decide +kernel
theorem dL_law_1072 : decode cL_law 1072 = .ok (.invokevirtual 136, 3) := by decide +kernel
theorem dL_law_1075 : decode cL_law 1075 = .ok (.isub, 1) := by decide +kernel
theorem dL_law_1076 : decode cL_law 1076 = .ok (.if_icmp .ge 8, 3) := by decide +kernel
theorem dL_law_1079 : decode cL_law 1079 = .ok (.iload 14, 2) := by decide +kernel
theorem dL_law_1081 : decode cL_law 1081 = .ok (.goto 5, 3) := by decide +kernel
theorem dL_law_1084 : decode cL_law 1084 = .ok (.iload 16, 2) := by decide +kernel
theorem dL_law_1086 : decode cL_law 1086 = .ok (.istore 18, 2) := by decide +kernel
theorem dL_law_1088 : decode cL_law 1088 = .ok (.aload_n 1, 1) := by decide +kernel
theorem dL_law_1089 : decode cL_law 1089 = .ok (.iload 17, 2) := by decide +kernel
theorem dL_law_1091 : decode cL_law 1091 = .ok (.invokestatic 229, 3) := by decide +kernel
theorem dL_law_1094 : decode cL_law 1094 = .ok (.iload 16, 2) := by decide +kernel
theorem dL_law_1096 : decode cL_law 1096 = .ok (.if_icmp .ne 14, 3) := by decide +kernel
theorem dL_law_1099 : decode cL_law 1099 = .ok (.aload_n 1, 1) := by decide +kernel
theorem dL_law_1100 : decode cL_law 1100 = .ok (.iload 17, 2) := by decide +kernel
theorem dL_law_1102 : decode cL_law 1102 = .ok (.invokestatic 231, 3) := by decide +kernel
theorem dL_law_1105 : decode cL_law 1105 = .ok (.iload 18, 2) := by decide +kernel
theorem dL_law_1107 : decode cL_law 1107 = .ok (.if_icmp .eq 5, 3) := by decide +kernel
theorem dL_law_1110 : decode cL_law 1110 = .ok (.iconst 0, 1) := by decide +kernel
theorem dL_law_1111 : decode cL_law 1111 = .ok (.ireturn, 1) := by decide +kernel
theorem dL_law_1112 : decode cL_law 1112 = .ok (.iinc 17 1, 3) := by decide +kernel
theorem dL_law_1115 : decode cL_law 1115 = .ok (.goto (-111), 3) := by decide +kernel
theorem dL_law_1118 : decode cL_law 1118 = .ok (.aload_n 1, 1) := by decide +kernel
theorem dL_law_1119 : decode cL_law 1119 = .ok (.aload_n 1, 1) := by decide +kernel
theorem dL_law_1120 : decode cL_law 1120 = .ok (.invokevirtual 233, 3) := by decide +kernel
theorem dL_law_1123 : decode cL_law 1123 = .ok (.aload 13, 2) := by decide +kernel
theorem dL_law_1125 : decode cL_law 1125 = .ok (.invokestatic 211, 3) := by decide +kernel
theorem dL_law_1128 : decode cL_law 1128 = .ok (.ifCond .eq 12, 3) := by decide +kernel
theorem dL_law_1131 : decode cL_law 1131 = .ok (.aload_n 1, 1) := by decide +kernel
theorem dL_law_1132 : decode cL_law 1132 = .ok (.invokestatic 236, 3) := by decide +kernel
theorem dL_law_1135 : decode cL_law 1135 = .ok (.iload 15, 2) := by decide +kernel
theorem dL_law_1137 : decode cL_law 1137 = .ok (.if_icmp .eq 5, 3) := by decide +kernel
theorem dL_law_1140 : decode cL_law 1140 = .ok (.iconst 0, 1) := by decide +kernel
theorem dL_law_1141 : decode cL_law 1141 = .ok (.ireturn, 1) := by decide +kernel
theorem dL_law_1142 : decode cL_law 1142 = .ok (.iconst 1, 1) := by decide +kernel
theorem dL_law_1143 : decode cL_law 1143 = .ok (.istore 17, 2) := by decide +kernel
theorem dL_law_1145 : decode cL_law 1145 = .ok (.iload 17, 2) := by decide +kernel
theorem dL_law_1147 : decode cL_law 1147 = .ok (.bipush 21, 2) := by decide +kernel
theorem dL_law_1149 : decode cL_law 1149 = .ok (.if_icmp .ge 133, 3) := by decide +kernel
theorem dL_law_1152 : decode cL_law 1152 = .ok (.iconst 0, 1) := by decide +kernel
theorem dL_law_1153 : decode cL_law 1153 = .ok (.istore 18, 2) := by decide +kernel
theorem dL_law_1155 : decode cL_law 1155 = .ok (.iconst 0, 1) := by decide +kernel
theorem dL_law_1156 : decode cL_law 1156 = .ok (.istore 19, 2) := by decide +kernel
theorem dL_law_1158 : decode cL_law 1158 = .ok (.iconst 0, 1) := by decide +kernel
theorem dL_law_1159 : decode cL_law 1159 = .ok (.istore 20, 2) := by decide +kernel
theorem dL_law_1161 : decode cL_law 1161 = .ok (.iload 20, 2) := by decide +kernel
theorem dL_law_1163 : decode cL_law 1163 = .ok (.iload_n 3, 1) := by decide +kernel
theorem dL_law_1164 : decode cL_law 1164 = .ok (.if_icmp .ge 86, 3) := by decide +kernel
theorem dL_law_1167 : decode cL_law 1167 = .ok (.aload_n 1, 1) := by decide +kernel
theorem dL_law_1168 : decode cL_law 1168 = .ok (.iload 20, 2) := by decide +kernel
theorem dL_law_1170 : decode cL_law 1170 = .ok (.invokevirtual 72, 3) := by decide +kernel
theorem dL_law_1173 : decode cL_law 1173 = .ok (.istore 21, 2) := by decide +kernel
theorem dL_law_1175 : decode cL_law 1175 = .ok (.aload_n 1, 1) := by decide +kernel
theorem dL_law_1176 : decode cL_law 1176 = .ok (.iload 21, 2) := by decide +kernel
theorem dL_law_1178 : decode cL_law 1178 = .ok (.invokevirtual 136, 3) := by decide +kernel
theorem dL_law_1181 : decode cL_law 1181 = .ok (.iload 9, 2) := by decide +kernel
theorem dL_law_1183 : decode cL_law 1183 = .ok (.isub, 1) := by decide +kernel
theorem dL_law_1184 : decode cL_law 1184 = .ok (.istore 22, 2) := by decide +kernel
theorem dL_law_1186 : decode cL_law 1186 = .ok (.aload_n 1, 1) := by decide +kernel
theorem dL_law_1187 : decode cL_law 1187 = .ok (.iload 21, 2) := by decide +kernel
theorem dL_law_1189 : decode cL_law 1189 = .ok (.invokevirtual 147, 3) := by decide +kernel
theorem dL_law_1192 : decode cL_law 1192 = .ok (.iconst 2, 1) := by decide +kernel
theorem dL_law_1193 : decode cL_law 1193 = .ok (.if_icmp .ge 6, 3) := by decide +kernel
theorem dL_law_1196 : decode cL_law 1196 = .ok (.goto 48, 3) := by decide +kernel
theorem dL_law_1199 : decode cL_law 1199 = .ok (.iload 18, 2) := by decide +kernel
theorem dL_law_1201 : decode cL_law 1201 = .ok (.iload 22, 2) := by decide +kernel
theorem dL_law_1203 : decode cL_law 1203 = .ok (.ifCond .le 14, 3) := by decide +kernel
theorem dL_law_1206 : decode cL_law 1206 = .ok (.iload 22, 2) := by decide +kernel
theorem dL_law_1208 : decode cL_law 1208 = .ok (.iload 17, 2) := by decide +kernel
theorem dL_law_1210 : decode cL_law 1210 = .ok (.if_icmp .gt 7, 3) := by decide +kernel
theorem dL_law_1213 : decode cL_law 1213 = .ok (.iconst 1, 1) := by decide +kernel
theorem dL_law_1214 : decode cL_law 1214 = .ok (.goto 4, 3) := by decide +kernel
theorem dL_law_1217 : decode cL_law 1217 = .ok (.iconst 0, 1) := by decide +kernel
theorem dL_law_1218 : decode cL_law 1218 = .ok (.iadd, 1) := by decide +kernel
theorem dL_law_1219 : decode cL_law 1219 = .ok (.istore 18, 2) := by decide +kernel
theorem dL_law_1221 : decode cL_law 1221 = .ok (.iload 19, 2) := by decide +kernel
theorem dL_law_1223 : decode cL_law 1223 = .ok (.iload 22, 2) := by decide +kernel
theorem dL_law_1225 : decode cL_law 1225 = .ok (.ifCond .ge 15, 3) := by decide +kernel
theorem dL_law_1228 : decode cL_law 1228 = .ok (.iload 22, 2) := by decide +kernel
theorem dL_law_1230 : decode cL_law 1230 = .ok (.ineg, 1) := by decide +kernel
theorem dL_law_1231 : decode cL_law 1231 = .ok (.iload 17, 2) := by decide +kernel
theorem dL_law_1233 : decode cL_law 1233 = .ok (.if_icmp .gt 7, 3) := by decide +kernel
theorem dL_law_1236 : decode cL_law 1236 = .ok (.iconst 1, 1) := by decide +kernel
theorem dL_law_1237 : decode cL_law 1237 = .ok (.goto 4, 3) := by decide +kernel
theorem dL_law_1240 : decode cL_law 1240 = .ok (.iconst 0, 1) := by decide +kernel
theorem dL_law_1241 : decode cL_law 1241 = .ok (.iadd, 1) := by decide +kernel
theorem dL_law_1242 : decode cL_law 1242 = .ok (.istore 19, 2) := by decide +kernel
theorem dL_law_1244 : decode cL_law 1244 = .ok (.iinc 20 1, 3) := by decide +kernel
theorem dL_law_1247 : decode cL_law 1247 = .ok (.goto (-86), 3) := by decide +kernel
theorem dL_law_1250 : decode cL_law 1250 = .ok (.aload_n 1, 1) := by decide +kernel
theorem dL_law_1251 : decode cL_law 1251 = .ok (.iload 17, 2) := by decide +kernel
theorem dL_law_1253 : decode cL_law 1253 = .ok (.iconst 1, 1) := by decide +kernel
theorem dL_law_1254 : decode cL_law 1254 = .ok (.invokevirtual 239, 3) := by decide +kernel
theorem dL_law_1257 : decode cL_law 1257 = .ok (.iload 18, 2) := by decide +kernel
theorem dL_law_1259 : decode cL_law 1259 = .ok (.if_icmp .ne 15, 3) := by decide +kernel
theorem dL_law_1262 : decode cL_law 1262 = .ok (.aload_n 1, 1) := by decide +kernel
theorem dL_law_1263 : decode cL_law 1263 = .ok (.iload 17, 2) := by decide +kernel
theorem dL_law_1265 : decode cL_law 1265 = .ok (.iconst 0, 1) := by decide +kernel
theorem dL_law_1266 : decode cL_law 1266 = .ok (.invokevirtual 239, 3) := by decide +kernel
theorem dL_law_1269 : decode cL_law 1269 = .ok (.iload 19, 2) := by decide +kernel
theorem dL_law_1271 : decode cL_law 1271 = .ok (.if_icmp .eq 5, 3) := by decide +kernel
theorem dL_law_1274 : decode cL_law 1274 = .ok (.iconst 0, 1) := by decide +kernel
theorem dL_law_1275 : decode cL_law 1275 = .ok (.ireturn, 1) := by decide +kernel
theorem dL_law_1276 : decode cL_law 1276 = .ok (.iinc 17 1, 3) := by decide +kernel
theorem dL_law_1279 : decode cL_law 1279 = .ok (.goto (-134), 3) := by decide +kernel
theorem dL_law_1282 : decode cL_law 1282 = .ok (.iload_n 3, 1) := by decide +kernel
theorem dL_law_1283 : decode cL_law 1283 = .ok (.iconst 2, 1) := by decide +kernel
theorem dL_law_1284 : decode cL_law 1284 = .ok (.if_icmp .ge 7, 3) := by decide +kernel
theorem dL_law_1287 : decode cL_law 1287 = .ok (.iconst 0, 1) := by decide +kernel
theorem dL_law_1288 : decode cL_law 1288 = .ok (.goto 24, 3) := by decide +kernel
theorem dL_law_1291 : decode cL_law 1291 = .ok (.aload_n 1, 1) := by decide +kernel
theorem dL_law_1292 : decode cL_law 1292 = .ok (.aload_n 1, 1) := by decide +kernel
theorem dL_law_1293 : decode cL_law 1293 = .ok (.iload_n 3, 1) := by decide +kernel
theorem dL_law_1294 : decode cL_law 1294 = .ok (.iconst 1, 1) := by decide +kernel
theorem dL_law_1295 : decode cL_law 1295 = .ok (.isub, 1) := by decide +kernel
theorem dL_law_1296 : decode cL_law 1296 = .ok (.invokevirtual 72, 3) := by decide +kernel
theorem dL_law_1299 : decode cL_law 1299 = .ok (.invokevirtual 136, 3) := by decide +kernel
theorem dL_law_1302 : decode cL_law 1302 = .ok (.aload_n 1, 1) := by decide +kernel
theorem dL_law_1303 : decode cL_law 1303 = .ok (.aload_n 1, 1) := by decide +kernel
theorem dL_law_1304 : decode cL_law 1304 = .ok (.iconst 0, 1) := by decide +kernel
theorem dL_law_1305 : decode cL_law 1305 = .ok (.invokevirtual 72, 3) := by decide +kernel
theorem dL_law_1308 : decode cL_law 1308 = .ok (.invokevirtual 136, 3) := by decide +kernel
theorem dL_law_1311 : decode cL_law 1311 = .ok (.isub, 1) := by decide +kernel
theorem dL_law_1312 : decode cL_law 1312 = .ok (.istore 17, 2) := by decide +kernel
theorem dL_law_1314 : decode cL_law 1314 = .ok (.aload_n 1, 1) := by decide +kernel
theorem dL_law_1315 : decode cL_law 1315 = .ok (.invokevirtual 242, 3) := by decide +kernel
theorem dL_law_1318 : decode cL_law 1318 = .ok (.iload 17, 2) := by decide +kernel
theorem dL_law_1320 : decode cL_law 1320 = .ok (.if_icmp .ne 100, 3) := by decide +kernel
theorem dL_law_1323 : decode cL_law 1323 = .ok (.aload_n 1, 1) := by decide +kernel
theorem dL_law_1324 : decode cL_law 1324 = .ok (.invokevirtual 245, 3) := by decide +kernel
theorem dL_law_1327 : decode cL_law 1327 = .ok (.iload 17, 2) := by decide +kernel
theorem dL_law_1329 : decode cL_law 1329 = .ok (.if_icmp .ne 91, 3) := by decide +kernel
theorem dL_law_1332 : decode cL_law 1332 = .ok (.aload_n 1, 1) := by decide +kernel
theorem dL_law_1333 : decode cL_law 1333 = .ok (.invokevirtual 248, 3) := by decide +kernel
theorem dL_law_1336 : decode cL_law 1336 = .ok (.iload 5, 2) := by decide +kernel
theorem dL_law_1338 : decode cL_law 1338 = .ok (.if_icmp .ne 82, 3) := by decide +kernel
theorem dL_law_1341 : decode cL_law 1341 = .ok (.aload_n 1, 1) := by decide +kernel
theorem dL_law_1342 : decode cL_law 1342 = .ok (.invokevirtual 251, 3) := by decide +kernel
theorem dL_law_1345 : decode cL_law 1345 = .ok (.iload 6, 2) := by decide +kernel
theorem dL_law_1347 : decode cL_law 1347 = .ok (.if_icmp .ne 73, 3) := by decide +kernel
theorem dL_law_1350 : decode cL_law 1350 = .ok (.aload_n 1, 1) := by decide +kernel
theorem dL_law_1351 : decode cL_law 1351 = .ok (.invokevirtual 254, 3) := by decide +kernel
theorem dL_law_1354 : decode cL_law 1354 = .ok (.iload 7, 2) := by decide +kernel
theorem dL_law_1356 : decode cL_law 1356 = .ok (.if_icmp .ne 64, 3) := by decide +kernel
theorem dL_law_1359 : decode cL_law 1359 = .ok (.iload_n 3, 1) := by decide +kernel
theorem dL_law_1360 : decode cL_law 1360 = .ok (.ifCond .le 20, 3) := by decide +kernel
theorem dL_law_1363 : decode cL_law 1363 = .ok (.aload_n 1, 1) := by decide +kernel
theorem dL_law_1364 : decode cL_law 1364 = .ok (.invokevirtual 257, 3) := by decide +kernel
theorem dL_law_1367 : decode cL_law 1367 = .ok (.iload 6, 2) := by decide +kernel
theorem dL_law_1369 : decode cL_law 1369 = .ok (.iload 7, 2) := by decide +kernel
theorem dL_law_1371 : decode cL_law 1371 = .ok (.iadd, 1) := by decide +kernel
theorem dL_law_1372 : decode cL_law 1372 = .ok (.i2d, 1) := by decide +kernel
theorem dL_law_1373 : decode cL_law 1373 = .ok (.iload_n 3, 1) := by decide +kernel
theorem dL_law_1374 : decode cL_law 1374 = .ok (.i2d, 1) := by decide +kernel
theorem dL_law_1375 : decode cL_law 1375 = .ok (.ddiv, 1) := by decide +kernel
theorem dL_law_1376 : decode cL_law 1376 = .ok (.dcmp .l, 1) := by decide +kernel
theorem dL_law_1377 : decode cL_law 1377 = .ok (.ifCond .ne 43, 3) := by decide +kernel
theorem dL_law_1380 : decode cL_law 1380 = .ok (.aload_n 1, 1) := by decide +kernel
theorem dL_law_1381 : decode cL_law 1381 = .ok (.invokevirtual 261, 3) := by decide +kernel
theorem dL_law_1384 : decode cL_law 1384 = .ok (.ifCond .eq 36, 3) := by decide +kernel
theorem dL_law_1387 : decode cL_law 1387 = .ok (.aload_n 1, 1) := by decide +kernel
theorem dL_law_1388 : decode cL_law 1388 = .ok (.invokevirtual 265, 3) := by decide +kernel
theorem dL_law_1391 : decode cL_law 1391 = .ok (.aload_n 1, 1) := by decide +kernel
theorem dL_law_1392 : decode cL_law 1392 = .ok (.invokevirtual 268, 3) := by decide +kernel
theorem dL_law_1395 : decode cL_law 1395 = .ok (.if_icmp .gt 25, 3) := by decide +kernel
theorem dL_law_1398 : decode cL_law 1398 = .ok (.aload_n 1, 1) := by decide +kernel
theorem dL_law_1399 : decode cL_law 1399 = .ok (.iload_n 3, 1) := by decide +kernel
theorem dL_law_1400 : decode cL_law 1400 = .ok (.invokestatic 271, 3) := by decide +kernel
theorem dL_law_1403 : decode cL_law 1403 = .ok (.sipush (-30000), 3) := by decide +kernel
theorem dL_law_1406 : decode cL_law 1406 = .ok (.if_icmp .ne 14, 3) := by decide +kernel
theorem dL_law_1409 : decode cL_law 1409 = .ok (.aload_n 1, 1) := by decide +kernel
theorem dL_law_1410 : decode cL_law 1410 = .ok (.iload_n 3, 1) := by decide +kernel
theorem dL_law_1411 : decode cL_law 1411 = .ok (.invokestatic 273, 3) := by decide +kernel
theorem dL_law_1414 : decode cL_law 1414 = .ok (.sipush (-30000), 3) := by decide +kernel
theorem dL_law_1417 : decode cL_law 1417 = .ok (.if_icmp .eq 5, 3) := by decide +kernel
theorem dL_law_1420 : decode cL_law 1420 = .ok (.iconst 0, 1) := by decide +kernel
theorem dL_law_1421 : decode cL_law 1421 = .ok (.ireturn, 1) := by decide +kernel
theorem dL_law_1422 : decode cL_law 1422 = .ok (.iconst 1, 1) := by decide +kernel
theorem dL_law_1423 : decode cL_law 1423 = .ok (.istore 18, 2) := by decide +kernel
theorem dL_law_1425 : decode cL_law 1425 = .ok (.iload 18, 2) := by decide +kernel
theorem dL_law_1427 : decode cL_law 1427 = .ok (.iload_n 3, 1) := by decide +kernel
theorem dL_law_1428 : decode cL_law 1428 = .ok (.if_icmp .ge 110, 3) := by decide +kernel
theorem dL_law_1431 : decode cL_law 1431 = .ok (.aload_n 1, 1) := by decide +kernel
theorem dL_law_1432 : decode cL_law 1432 = .ok (.iload 18, 2) := by decide +kernel
theorem dL_law_1434 : decode cL_law 1434 = .ok (.iconst 1, 1) := by decide +kernel
theorem dL_law_1435 : decode cL_law 1435 = .ok (.isub, 1) := by decide +kernel
theorem dL_law_1436 : decode cL_law 1436 = .ok (.invokevirtual 75, 3) := by decide +kernel
theorem dL_law_1439 : decode cL_law 1439 = .ok (.istore 19, 2) := by decide +kernel
theorem dL_law_1441 : decode cL_law 1441 = .ok (.aload_n 1, 1) := by decide +kernel
theorem dL_law_1442 : decode cL_law 1442 = .ok (.iload 18, 2) := by decide +kernel
theorem dL_law_1444 : decode cL_law 1444 = .ok (.invokevirtual 75, 3) := by decide +kernel
theorem dL_law_1447 : decode cL_law 1447 = .ok (.istore 20, 2) := by decide +kernel
theorem dL_law_1449 : decode cL_law 1449 = .ok (.aload_n 1, 1) := by decide +kernel
theorem dL_law_1450 : decode cL_law 1450 = .ok (.iload 19, 2) := by decide +kernel
theorem dL_law_1452 : decode cL_law 1452 = .ok (.invokevirtual 139, 3) := by decide +kernel
theorem dL_law_1455 : decode cL_law 1455 = .ok (.aload_n 1, 1) := by decide +kernel
theorem dL_law_1456 : decode cL_law 1456 = .ok (.iload 20, 2) := by decide +kernel
theorem dL_law_1458 : decode cL_law 1458 = .ok (.invokevirtual 139, 3) := by decide +kernel
theorem dL_law_1461 : decode cL_law 1461 = .ok (.isub, 1) := by decide +kernel
theorem dL_law_1462 : decode cL_law 1462 = .ok (.istore 21, 2) := by decide +kernel
theorem dL_law_1464 : decode cL_law 1464 = .ok (.aload_n 1, 1) := by decide +kernel
theorem dL_law_1465 : decode cL_law 1465 = .ok (.iload 19, 2) := by decide +kernel
theorem dL_law_1467 : decode cL_law 1467 = .ok (.invokevirtual 144, 3) := by decide +kernel
theorem dL_law_1470 : decode cL_law 1470 = .ok (.ifCond .eq 7, 3) := by decide +kernel
theorem dL_law_1473 : decode cL_law 1473 = .ok (.iconst 1, 1) := by decide +kernel
theorem dL_law_1474 : decode cL_law 1474 = .ok (.goto 4, 3) := by decide +kernel
theorem dL_law_1477 : decode cL_law 1477 = .ok (.iconst 0, 1) := by decide +kernel
theorem dL_law_1478 : decode cL_law 1478 = .ok (.aload_n 1, 1) := by decide +kernel
theorem dL_law_1479 : decode cL_law 1479 = .ok (.iload 20, 2) := by decide +kernel
theorem dL_law_1481 : decode cL_law 1481 = .ok (.invokevirtual 144, 3) := by decide +kernel
theorem dL_law_1484 : decode cL_law 1484 = .ok (.ifCond .eq 7, 3) := by decide +kernel
theorem dL_law_1487 : decode cL_law 1487 = .ok (.iconst 1, 1) := by decide +kernel
theorem dL_law_1488 : decode cL_law 1488 = .ok (.goto 4, 3) := by decide +kernel
theorem dL_law_1491 : decode cL_law 1491 = .ok (.iconst 0, 1) := by decide +kernel
theorem dL_law_1492 : decode cL_law 1492 = .ok (.isub, 1) := by decide +kernel
theorem dL_law_1493 : decode cL_law 1493 = .ok (.istore 22, 2) := by decide +kernel
theorem dL_law_1495 : decode cL_law 1495 = .ok (.iload 21, 2) := by decide +kernel
theorem dL_law_1497 : decode cL_law 1497 = .ok (.ifCond .lt 33, 3) := by decide +kernel
theorem dL_law_1500 : decode cL_law 1500 = .ok (.iload 21, 2) := by decide +kernel
theorem dL_law_1502 : decode cL_law 1502 = .ok (.ifCond .ne 30, 3) := by decide +kernel
theorem dL_law_1505 : decode cL_law 1505 = .ok (.iload 22, 2) := by decide +kernel
theorem dL_law_1507 : decode cL_law 1507 = .ok (.ifCond .lt 23, 3) := by decide +kernel
theorem dL_law_1510 : decode cL_law 1510 = .ok (.iload 22, 2) := by decide +kernel
theorem dL_law_1512 : decode cL_law 1512 = .ok (.ifCond .ne 20, 3) := by decide +kernel
theorem dL_law_1515 : decode cL_law 1515 = .ok (.aload_n 1, 1) := by decide +kernel
theorem dL_law_1516 : decode cL_law 1516 = .ok (.iload 19, 2) := by decide +kernel
theorem dL_law_1518 : decode cL_law 1518 = .ok (.invokevirtual 136, 3) := by decide +kernel
theorem dL_law_1521 : decode cL_law 1521 = .ok (.aload_n 1, 1) := by decide +kernel
theorem dL_law_1522 : decode cL_law 1522 = .ok (.iload 20, 2) := by decide +kernel
theorem dL_law_1524 : decode cL_law 1524 = .ok (.invokevirtual 136, 3) := by decide +kernel
theorem dL_law_1527 : decode cL_law 1527 = .ok (.if_icmp .le 5, 3) := by decide +kernel
theorem dL_law_1530 : decode cL_law 1530 = .ok (.iconst 0, 1) := by decide +kernel
theorem dL_law_1531 : decode cL_law 1531 = .ok (.ireturn, 1) := by decide +kernel
theorem dL_law_1532 : decode cL_law 1532 = .ok (.iinc 18 1, 3) := by decide +kernel
theorem dL_law_1535 : decode cL_law 1535 = .ok (.goto (-110), 3) := by decide +kernel
theorem dL_law_1538 : decode cL_law 1538 = .ok (.aload_n 1, 1) := by decide +kernel
theorem dL_law_1539 : decode cL_law 1539 = .ok (.aload_n 0, 1) := by decide +kernel
theorem dL_law_1540 : decode cL_law 1540 = .ok (.bipush 104, 2) := by decide +kernel
theorem dL_law_1542 : decode cL_law 1542 = .ok (.iconst 4, 1) := by decide +kernel
theorem dL_law_1543 : decode cL_law 1543 = .ok (.iload_n 2, 1) := by decide +kernel
theorem dL_law_1544 : decode cL_law 1544 = .ok (.imul, 1) := by decide +kernel
theorem dL_law_1545 : decode cL_law 1545 = .ok (.iadd, 1) := by decide +kernel
theorem dL_law_1546 : decode cL_law 1546 = .ok (.invokestatic 94, 3) := by decide +kernel
theorem dL_law_1549 : decode cL_law 1549 = .ok (.iinc 2 1, 3) := by decide +kernel
theorem dL_law_1552 : decode cL_law 1552 = .ok (.goto (-1537), 3) := by decide +kernel
theorem dL_law_1555 : decode cL_law 1555 = .ok (.iconst 1, 1) := by decide +kernel
theorem dL_law_1556 : decode cL_law 1556 = .ok (.ireturn, 1) := by decide +kernel
