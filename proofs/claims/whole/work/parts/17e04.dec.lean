theorem d_w_899 : decode code 899 = .ok (.iadd, 1) := by decide +kernel
theorem d_w_900 : decode code 900 = .ok (.iaload, 1) := by decide +kernel
theorem d_w_901 : decode code 901 = .ok (.invokevirtual 161, 3) := by decide +kernel
theorem d_w_904 : decode code 904 = .ok (.aload_n 2, 1) := by decide +kernel
theorem d_w_905 : decode code 905 = .ok (.aload_n 0, 1) := by decide +kernel
theorem d_w_906 : decode code 906 = .ok (.iload 5, 2) := by decide +kernel
theorem d_w_908 : decode code 908 = .ok (.iconst 1, 1) := by decide +kernel
theorem d_w_909 : decode code 909 = .ok (.iadd, 1) := by decide +kernel
theorem d_w_910 : decode code 910 = .ok (.iaload, 1) := by decide +kernel
theorem d_w_911 : decode code 911 = .ok (.invokevirtual 164, 3) := by decide +kernel
theorem d_w_914 : decode code 914 = .ok (.if_icmp .eq 1325, 3) := by decide +kernel
theorem d_w_917 : decode code 917 = .ok (.iconst 0, 1) := by decide +kernel
theorem d_w_918 : decode code 918 = .ok (.ireturn, 1) := by decide +kernel
theorem d_w_919 : decode code 919 = .ok (.aload_n 1, 1) := by decide +kernel
theorem d_w_920 : decode code 920 = .ok (.invokevirtual 165, 3) := by decide +kernel
theorem d_w_923 : decode code 923 = .ok (.dstore 6, 2) := by decide +kernel
theorem d_w_925 : decode code 925 = .ok (.aload_n 2, 1) := by decide +kernel
theorem d_w_926 : decode code 926 = .ok (.invokevirtual 169, 3) := by decide +kernel
theorem d_w_929 : decode code 929 = .ok (.dstore 8, 2) := by decide +kernel
theorem d_w_931 : decode code 931 = .ok (.dload 6, 2) := by decide +kernel
theorem d_w_933 : decode code 933 = .ok (.dload 8, 2) := by decide +kernel
theorem d_w_935 : decode code 935 = .ok (.dcmp .l, 1) := by decide +kernel
theorem d_w_936 : decode code 936 = .ok (.ifCond .eq 21, 3) := by decide +kernel
theorem d_w_939 : decode code 939 = .ok (.dload 6, 2) := by decide +kernel
theorem d_w_941 : decode code 941 = .ok (.dload 6, 2) := by decide +kernel
theorem d_w_943 : decode code 943 = .ok (.dcmp .l, 1) := by decide +kernel
theorem d_w_944 : decode code 944 = .ok (.ifCond .eq 11, 3) := by decide +kernel
theorem d_w_947 : decode code 947 = .ok (.dload 8, 2) := by decide +kernel
theorem d_w_949 : decode code 949 = .ok (.dload 8, 2) := by decide +kernel
theorem d_w_951 : decode code 951 = .ok (.dcmp .l, 1) := by decide +kernel
theorem d_w_952 : decode code 952 = .ok (.ifCond .ne 5, 3) := by decide +kernel
theorem d_w_955 : decode code 955 = .ok (.iconst 0, 1) := by decide +kernel
theorem d_w_956 : decode code 956 = .ok (.ireturn, 1) := by decide +kernel
theorem d_w_957 : decode code 957 = .ok (.goto 1282, 3) := by decide +kernel
theorem d_w_960 : decode code 960 = .ok (.aload_n 1, 1) := by decide +kernel
theorem d_w_961 : decode code 961 = .ok (.invokevirtual 170, 3) := by decide +kernel
theorem d_w_964 : decode code 964 = .ok (.f2d, 1) := by decide +kernel
theorem d_w_965 : decode code 965 = .ok (.dstore 6, 2) := by decide +kernel
theorem d_w_967 : decode code 967 = .ok (.aload_n 2, 1) := by decide +kernel
theorem d_w_968 : decode code 968 = .ok (.invokevirtual 174, 3) := by decide +kernel
theorem d_w_971 : decode code 971 = .ok (.f2d, 1) := by decide +kernel
theorem d_w_972 : decode code 972 = .ok (.dstore 8, 2) := by decide +kernel
theorem d_w_974 : decode code 974 = .ok (.dload 6, 2) := by decide +kernel
theorem d_w_976 : decode code 976 = .ok (.dload 8, 2) := by decide +kernel
theorem d_w_978 : decode code 978 = .ok (.dcmp .l, 1) := by decide +kernel
theorem d_w_979 : decode code 979 = .ok (.ifCond .eq 21, 3) := by decide +kernel
theorem d_w_982 : decode code 982 = .ok (.dload 6, 2) := by decide +kernel
theorem d_w_984 : decode code 984 = .ok (.dload 6, 2) := by decide +kernel
theorem d_w_986 : decode code 986 = .ok (.dcmp .l, 1) := by decide +kernel
theorem d_w_987 : decode code 987 = .ok (.ifCond .eq 11, 3) := by decide +kernel
theorem d_w_990 : decode code 990 = .ok (.dload 8, 2) := by decide +kernel
theorem d_w_992 : decode code 992 = .ok (.dload 8, 2) := by decide +kernel
theorem d_w_994 : decode code 994 = .ok (.dcmp .l, 1) := by decide +kernel
theorem d_w_995 : decode code 995 = .ok (.ifCond .ne 5, 3) := by decide +kernel
theorem d_w_998 : decode code 998 = .ok (.iconst 0, 1) := by decide +kernel
theorem d_w_999 : decode code 999 = .ok (.ireturn, 1) := by decide +kernel
theorem d_w_1000 : decode code 1000 = .ok (.goto 1239, 3) := by decide +kernel
theorem d_w_1003 : decode code 1003 = .ok (.aload_n 1, 1) := by decide +kernel
theorem d_w_1004 : decode code 1004 = .ok (.aload_n 0, 1) := by decide +kernel
theorem d_w_1005 : decode code 1005 = .ok (.iload 5, 2) := by decide +kernel
theorem d_w_1007 : decode code 1007 = .ok (.iconst 1, 1) := by decide +kernel
theorem d_w_1008 : decode code 1008 = .ok (.iadd, 1) := by decide +kernel
theorem d_w_1009 : decode code 1009 = .ok (.iaload, 1) := by decide +kernel
theorem d_w_1010 : decode code 1010 = .ok (.aload_n 0, 1) := by decide +kernel
theorem d_w_1011 : decode code 1011 = .ok (.iload 5, 2) := by decide +kernel
theorem d_w_1013 : decode code 1013 = .ok (.iconst 2, 1) := by decide +kernel
theorem d_w_1014 : decode code 1014 = .ok (.iadd, 1) := by decide +kernel
theorem d_w_1015 : decode code 1015 = .ok (.iaload, 1) := by decide +kernel
theorem d_w_1016 : decode code 1016 = .ok (.aload_n 3, 1) := by decide +kernel
theorem d_w_1017 : decode code 1017 = .ok (.invokestatic 175, 3) := by decide +kernel
theorem d_w_1020 : decode code 1020 = .ok (.istore 6, 2) := by decide +kernel
theorem d_w_1022 : decode code 1022 = .ok (.aload_n 2, 1) := by decide +kernel
theorem d_w_1023 : decode code 1023 = .ok (.aload_n 0, 1) := by decide +kernel
theorem d_w_1024 : decode code 1024 = .ok (.iload 5, 2) := by decide +kernel
theorem d_w_1026 : decode code 1026 = .ok (.iconst 1, 1) := by decide +kernel
theorem d_w_1027 : decode code 1027 = .ok (.iadd, 1) := by decide +kernel
theorem d_w_1028 : decode code 1028 = .ok (.iaload, 1) := by decide +kernel
theorem d_w_1029 : decode code 1029 = .ok (.aload_n 0, 1) := by decide +kernel
theorem d_w_1030 : decode code 1030 = .ok (.iload 5, 2) := by decide +kernel
theorem d_w_1032 : decode code 1032 = .ok (.iconst 2, 1) := by decide +kernel
theorem d_w_1033 : decode code 1033 = .ok (.iadd, 1) := by decide +kernel
theorem d_w_1034 : decode code 1034 = .ok (.iaload, 1) := by decide +kernel
theorem d_w_1035 : decode code 1035 = .ok (.invokevirtual 177, 3) := by decide +kernel
theorem d_w_1038 : decode code 1038 = .ok (.istore 7, 2) := by decide +kernel
theorem d_w_1040 : decode code 1040 = .ok (.aload_n 2, 1) := by decide +kernel
theorem d_w_1041 : decode code 1041 = .ok (.invokevirtual 114, 3) := by decide +kernel
theorem d_w_1044 : decode code 1044 = .ok (.iload 6, 2) := by decide +kernel
theorem d_w_1046 : decode code 1046 = .ok (.if_icmp .eq 5, 3) := by decide +kernel
theorem d_w_1049 : decode code 1049 = .ok (.iconst 0, 1) := by decide +kernel
theorem d_w_1050 : decode code 1050 = .ok (.ireturn, 1) := by decide +kernel
theorem d_w_1051 : decode code 1051 = .ok (.iload 6, 2) := by decide +kernel
theorem d_w_1053 : decode code 1053 = .ok (.ifCond .ne 15, 3) := by decide +kernel
theorem d_w_1056 : decode code 1056 = .ok (.aload_n 3, 1) := by decide +kernel
theorem d_w_1057 : decode code 1057 = .ok (.iconst 0, 1) := by decide +kernel
theorem d_w_1058 : decode code 1058 = .ok (.laload, 1) := by decide +kernel
theorem d_w_1059 : decode code 1059 = .ok (.iload 7, 2) := by decide +kernel
theorem d_w_1061 : decode code 1061 = .ok (.i2l, 1) := by decide +kernel
theorem d_w_1062 : decode code 1062 = .ok (.lcmp, 1) := by decide +kernel
theorem d_w_1063 : decode code 1063 = .ok (.ifCond .eq 5, 3) := by decide +kernel
theorem d_w_1066 : decode code 1066 = .ok (.iconst 0, 1) := by decide +kernel
theorem d_w_1067 : decode code 1067 = .ok (.ireturn, 1) := by decide +kernel
theorem d_w_1068 : decode code 1068 = .ok (.goto 1171, 3) := by decide +kernel
theorem d_w_1071 : decode code 1071 = .ok (.aload_n 1, 1) := by decide +kernel
theorem d_w_1072 : decode code 1072 = .ok (.aload_n 0, 1) := by decide +kernel
theorem d_w_1073 : decode code 1073 = .ok (.iload 5, 2) := by decide +kernel
theorem d_w_1075 : decode code 1075 = .ok (.iconst 1, 1) := by decide +kernel
theorem d_w_1076 : decode code 1076 = .ok (.iadd, 1) := by decide +kernel
theorem d_w_1077 : decode code 1077 = .ok (.iaload, 1) := by decide +kernel
theorem d_w_1078 : decode code 1078 = .ok (.aload_n 0, 1) := by decide +kernel
theorem d_w_1079 : decode code 1079 = .ok (.iload 5, 2) := by decide +kernel
