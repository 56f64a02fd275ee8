theorem dL_law_890 : decode cL_law 890 = .ok (.istore 15, 2) := by decide +kernel
theorem dL_law_892 : decode cL_law 892 = .ok (.aload_n 3, 1) := by decide +kernel
theorem dL_law_893 : decode cL_law 893 = .ok (.iload 15, 2) := by decide +kernel
theorem dL_law_895 : decode cL_law 895 = .ok (.iload 10, 2) := by decide +kernel
theorem dL_law_897 : decode cL_law 897 = .ok (.iload 11, 2) := by decide +kernel
theorem dL_law_899 : decode cL_law 899 = .ok (.iload 9, 2) := by decide +kernel
theorem dL_law_901 : decode cL_law 901 = .ok (.invokevirtual 146, 3) := by decide +kernel
theorem dL_law_904 : decode cL_law 904 = .ok (.istore 16, 2) := by decide +kernel
theorem dL_law_906 : decode cL_law 906 = .ok (.iload 16, 2) := by decide +kernel
theorem dL_law_908 : decode cL_law 908 = .ok (.ifCond .lt 31, 3) := by decide +kernel
theorem dL_law_911 : decode cL_law 911 = .ok (.aload_n 3, 1) := by decide +kernel
theorem dL_law_912 : decode cL_law 912 = .ok (.iload 16, 2) := by decide +kernel
theorem dL_law_914 : decode cL_law 914 = .ok (.iload 10, 2) := by decide +kernel
theorem dL_law_916 : decode cL_law 916 = .ok (.iload 11, 2) := by decide +kernel
theorem dL_law_918 : decode cL_law 918 = .ok (.iload 9, 2) := by decide +kernel
theorem dL_law_920 : decode cL_law 920 = .ok (.invokevirtual 112, 3) := by decide +kernel
theorem dL_law_923 : decode cL_law 923 = .ok (.ifCond .eq 31, 3) := by decide +kernel
theorem dL_law_926 : decode cL_law 926 = .ok (.aload_n 3, 1) := by decide +kernel
theorem dL_law_927 : decode cL_law 927 = .ok (.iload 16, 2) := by decide +kernel
theorem dL_law_929 : decode cL_law 929 = .ok (.iload 15, 2) := by decide +kernel
theorem dL_law_931 : decode cL_law 931 = .ok (.invokevirtual 149, 3) := by decide +kernel
theorem dL_law_934 : decode cL_law 934 = .ok (.iload 15, 2) := by decide +kernel
theorem dL_law_936 : decode cL_law 936 = .ok (.if_icmp .eq 18, 3) := by decide +kernel
theorem dL_law_939 : decode cL_law 939 = .ok (.aload_n 3, 1) := by decide +kernel
theorem dL_law_940 : decode cL_law 940 = .ok (.iconst 0, 1) := by decide +kernel
theorem dL_law_941 : decode cL_law 941 = .ok (.iload 10, 2) := by decide +kernel
theorem dL_law_943 : decode cL_law 943 = .ok (.iload 11, 2) := by decide +kernel
theorem dL_law_945 : decode cL_law 945 = .ok (.iload 9, 2) := by decide +kernel
theorem dL_law_947 : decode cL_law 947 = .ok (.invokevirtual 146, 3) := by decide +kernel
theorem dL_law_950 : decode cL_law 950 = .ok (.iconst (-1), 1) := by decide +kernel
theorem dL_law_951 : decode cL_law 951 = .ok (.if_icmp .eq 5, 3) := by decide +kernel
theorem dL_law_954 : decode cL_law 954 = .ok (.iconst 0, 1) := by decide +kernel
theorem dL_law_955 : decode cL_law 955 = .ok (.ireturn, 1) := by decide +kernel
theorem dL_law_956 : decode cL_law 956 = .ok (.aload_n 3, 1) := by decide +kernel
theorem dL_law_957 : decode cL_law 957 = .ok (.iload 10, 2) := by decide +kernel
theorem dL_law_959 : decode cL_law 959 = .ok (.iload 11, 2) := by decide +kernel
theorem dL_law_961 : decode cL_law 961 = .ok (.iload 9, 2) := by decide +kernel
theorem dL_law_963 : decode cL_law 963 = .ok (.bipush 20, 2) := by decide +kernel
theorem dL_law_965 : decode cL_law 965 = .ok (.invokevirtual 152, 3) := by decide +kernel
theorem dL_law_968 : decode cL_law 968 = .ok (.istore 17, 2) := by decide +kernel
theorem dL_law_970 : decode cL_law 970 = .ok (.iload 17, 2) := by decide +kernel
theorem dL_law_972 : decode cL_law 972 = .ok (.ifCond .lt 67, 3) := by decide +kernel
theorem dL_law_975 : decode cL_law 975 = .ok (.iload 17, 2) := by decide +kernel
theorem dL_law_977 : decode cL_law 977 = .ok (.aload_n 2, 1) := by decide +kernel
theorem dL_law_978 : decode cL_law 978 = .ok (.getfield 50, 3) := by decide +kernel
theorem dL_law_981 : decode cL_law 981 = .ok (.if_icmp .le 56, 3) := by decide +kernel
theorem dL_law_984 : decode cL_law 984 = .ok (.iload 17, 2) := by decide +kernel
theorem dL_law_986 : decode cL_law 986 = .ok (.aload_n 2, 1) := by decide +kernel
theorem dL_law_987 : decode cL_law 987 = .ok (.getfield 50, 3) := by decide +kernel
theorem dL_law_990 : decode cL_law 990 = .ok (.bipush 20, 2) := by decide +kernel
theorem dL_law_992 : decode cL_law 992 = .ok (.iadd, 1) := by decide +kernel
theorem dL_law_993 : decode cL_law 993 = .ok (.if_icmp .gt 44, 3) := by decide +kernel
theorem dL_law_996 : decode cL_law 996 = .ok (.aload_n 3, 1) := by decide +kernel
theorem dL_law_997 : decode cL_law 997 = .ok (.iload 17, 2) := by decide +kernel
theorem dL_law_999 : decode cL_law 999 = .ok (.invokevirtual 54, 3) := by decide +kernel
theorem dL_law_1002 : decode cL_law 1002 = .ok (.aload_n 2, 1) := by decide +kernel
theorem dL_law_1003 : decode cL_law 1003 = .ok (.getfield 50, 3) := by decide +kernel
theorem dL_law_1006 : decode cL_law 1006 = .ok (.if_icmp .ne 31, 3) := by decide +kernel
theorem dL_law_1009 : decode cL_law 1009 = .ok (.aload_n 3, 1) := by decide +kernel
theorem dL_law_1010 : decode cL_law 1010 = .ok (.iload 10, 2) := by decide +kernel
theorem dL_law_1012 : decode cL_law 1012 = .ok (.iload 11, 2) := by decide +kernel
theorem dL_law_1014 : decode cL_law 1014 = .ok (.iload 9, 2) := by decide +kernel
theorem dL_law_1016 : decode cL_law 1016 = .ok (.invokevirtual 134, 3) := by decide +kernel
theorem dL_law_1019 : decode cL_law 1019 = .ok (.iload 13, 2) := by decide +kernel
theorem dL_law_1021 : decode cL_law 1021 = .ok (.if_icmp .eq 16, 3) := by decide +kernel
theorem dL_law_1024 : decode cL_law 1024 = .ok (.aload_n 3, 1) := by decide +kernel
theorem dL_law_1025 : decode cL_law 1025 = .ok (.aload_n 2, 1) := by decide +kernel
theorem dL_law_1026 : decode cL_law 1026 = .ok (.getfield 50, 3) := by decide +kernel
theorem dL_law_1029 : decode cL_law 1029 = .ok (.invokevirtual 54, 3) := by decide +kernel
theorem dL_law_1032 : decode cL_law 1032 = .ok (.iload 17, 2) := by decide +kernel
theorem dL_law_1034 : decode cL_law 1034 = .ok (.if_icmp .eq 5, 3) := by decide +kernel
theorem dL_law_1037 : decode cL_law 1037 = .ok (.iconst 0, 1) := by decide +kernel
theorem dL_law_1038 : decode cL_law 1038 = .ok (.ireturn, 1) := by decide +kernel
theorem dL_law_1039 : decode cL_law 1039 = .ok (.aload_n 3, 1) := by decide +kernel
theorem dL_law_1040 : decode cL_law 1040 = .ok (.invokevirtual 62, 3) := by decide +kernel
theorem dL_law_1043 : decode cL_law 1043 = .ok (.lload 5, 2) := by decide +kernel
theorem dL_law_1045 : decode cL_law 1045 = .ok (.lcmp, 1) := by decide +kernel
theorem dL_law_1046 : decode cL_law 1046 = .ok (.ifCond .eq 5, 3) := by decide +kernel
theorem dL_law_1049 : decode cL_law 1049 = .ok (.iconst 0, 1) := by decide +kernel
theorem dL_law_1050 : decode cL_law 1050 = .ok (.ireturn, 1) := by decide +kernel
theorem dL_law_1051 : decode cL_law 1051 = .ok (.iinc 4 1, 3) := by decide +kernel
theorem dL_law_1054 : decode cL_law 1054 = .ok (.goto (-985), 3) := by decide +kernel
theorem dL_law_1057 : decode cL_law 1057 = .ok (.iinc 1 1, 3) := by decide +kernel
theorem dL_law_1060 : decode cL_law 1060 = .ok (.goto (-1058), 3) := by decide +kernel
theorem dL_law_1063 : decode cL_law 1063 = .ok (.iconst 1, 1) := by decide +kernel
theorem dL_law_1064 : decode cL_law 1064 = .ok (.ireturn, 1) := by decide +kernel
