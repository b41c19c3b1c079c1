/-! decode rows of the law -/
theorem d_lw_law_906 : decode code 906 = .ok (.aload_n 2, 1) := by decide +kernel
theorem d_lw_law_907 : decode code 907 = .ok (.aload_n 0, 1) := by decide +kernel
theorem d_lw_law_908 : decode code 908 = .ok (.iload_n 3, 1) := by decide +kernel
theorem d_lw_law_909 : decode code 909 = .ok (.iconst 1, 1) := by decide +kernel
theorem d_lw_law_910 : decode code 910 = .ok (.iadd, 1) := by decide +kernel
theorem d_lw_law_911 : decode code 911 = .ok (.iaload, 1) := by decide +kernel
theorem d_lw_law_912 : decode code 912 = .ok (.invokevirtual 113, 3) := by decide +kernel
theorem d_lw_law_915 : decode code 915 = .ok (.if_icmp .eq 452, 3) := by decide +kernel
theorem d_lw_law_918 : decode code 918 = .ok (.iconst 0, 1) := by decide +kernel
theorem d_lw_law_919 : decode code 919 = .ok (.ireturn, 1) := by decide +kernel
theorem d_lw_law_920 : decode code 920 = .ok (.aload_n 1, 1) := by decide +kernel
theorem d_lw_law_921 : decode code 921 = .ok (.aload_n 0, 1) := by decide +kernel
theorem d_lw_law_922 : decode code 922 = .ok (.iload_n 3, 1) := by decide +kernel
theorem d_lw_law_923 : decode code 923 = .ok (.iconst 1, 1) := by decide +kernel
theorem d_lw_law_924 : decode code 924 = .ok (.iadd, 1) := by decide +kernel
theorem d_lw_law_925 : decode code 925 = .ok (.iaload, 1) := by decide +kernel
theorem d_lw_law_926 : decode code 926 = .ok (.invokevirtual 114, 3) := by decide +kernel
theorem d_lw_law_929 : decode code 929 = .ok (.aload_n 2, 1) := by decide +kernel
theorem d_lw_law_930 : decode code 930 = .ok (.aload_n 0, 1) := by decide +kernel
theorem d_lw_law_931 : decode code 931 = .ok (.iload_n 3, 1) := by decide +kernel
theorem d_lw_law_932 : decode code 932 = .ok (.iconst 1, 1) := by decide +kernel
theorem d_lw_law_933 : decode code 933 = .ok (.iadd, 1) := by decide +kernel
theorem d_lw_law_934 : decode code 934 = .ok (.iaload, 1) := by decide +kernel
theorem d_lw_law_935 : decode code 935 = .ok (.invokevirtual 117, 3) := by decide +kernel
theorem d_lw_law_938 : decode code 938 = .ok (.if_icmp .eq 429, 3) := by decide +kernel
theorem d_lw_law_941 : decode code 941 = .ok (.iconst 0, 1) := by decide +kernel
theorem d_lw_law_942 : decode code 942 = .ok (.ireturn, 1) := by decide +kernel
theorem d_lw_law_943 : decode code 943 = .ok (.aload_n 1, 1) := by decide +kernel
theorem d_lw_law_944 : decode code 944 = .ok (.aload_n 0, 1) := by decide +kernel
theorem d_lw_law_945 : decode code 945 = .ok (.iload_n 3, 1) := by decide +kernel
theorem d_lw_law_946 : decode code 946 = .ok (.iconst 1, 1) := by decide +kernel
theorem d_lw_law_947 : decode code 947 = .ok (.iadd, 1) := by decide +kernel
theorem d_lw_law_948 : decode code 948 = .ok (.iaload, 1) := by decide +kernel
theorem d_lw_law_949 : decode code 949 = .ok (.aload_n 0, 1) := by decide +kernel
theorem d_lw_law_950 : decode code 950 = .ok (.iload_n 3, 1) := by decide +kernel
theorem d_lw_law_951 : decode code 951 = .ok (.iconst 2, 1) := by decide +kernel
theorem d_lw_law_952 : decode code 952 = .ok (.iadd, 1) := by decide +kernel
theorem d_lw_law_953 : decode code 953 = .ok (.iaload, 1) := by decide +kernel
theorem d_lw_law_954 : decode code 954 = .ok (.aload_n 0, 1) := by decide +kernel
theorem d_lw_law_955 : decode code 955 = .ok (.iload_n 3, 1) := by decide +kernel
theorem d_lw_law_956 : decode code 956 = .ok (.iconst 3, 1) := by decide +kernel
theorem d_lw_law_957 : decode code 957 = .ok (.iadd, 1) := by decide +kernel
theorem d_lw_law_958 : decode code 958 = .ok (.iaload, 1) := by decide +kernel
theorem d_lw_law_959 : decode code 959 = .ok (.aload_n 0, 1) := by decide +kernel
theorem d_lw_law_960 : decode code 960 = .ok (.iload_n 3, 1) := by decide +kernel
theorem d_lw_law_961 : decode code 961 = .ok (.iconst 4, 1) := by decide +kernel
theorem d_lw_law_962 : decode code 962 = .ok (.iadd, 1) := by decide +kernel
theorem d_lw_law_963 : decode code 963 = .ok (.iaload, 1) := by decide +kernel
theorem d_lw_law_964 : decode code 964 = .ok (.aload_n 0, 1) := by decide +kernel
theorem d_lw_law_965 : decode code 965 = .ok (.iload_n 3, 1) := by decide +kernel
theorem d_lw_law_966 : decode code 966 = .ok (.iconst 5, 1) := by decide +kernel
theorem d_lw_law_967 : decode code 967 = .ok (.iadd, 1) := by decide +kernel
theorem d_lw_law_968 : decode code 968 = .ok (.iaload, 1) := by decide +kernel
theorem d_lw_law_969 : decode code 969 = .ok (.aload_n 0, 1) := by decide +kernel
theorem d_lw_law_970 : decode code 970 = .ok (.iload_n 3, 1) := by decide +kernel
theorem d_lw_law_971 : decode code 971 = .ok (.bipush 6, 2) := by decide +kernel
theorem d_lw_law_973 : decode code 973 = .ok (.iadd, 1) := by decide +kernel
theorem d_lw_law_974 : decode code 974 = .ok (.iaload, 1) := by decide +kernel
theorem d_lw_law_975 : decode code 975 = .ok (.invokevirtual 118, 3) := by decide +kernel
theorem d_lw_law_978 : decode code 978 = .ok (.aload_n 2, 1) := by decide +kernel
theorem d_lw_law_979 : decode code 979 = .ok (.aload_n 0, 1) := by decide +kernel
theorem d_lw_law_980 : decode code 980 = .ok (.iload_n 3, 1) := by decide +kernel
theorem d_lw_law_981 : decode code 981 = .ok (.iconst 1, 1) := by decide +kernel
theorem d_lw_law_982 : decode code 982 = .ok (.iadd, 1) := by decide +kernel
theorem d_lw_law_983 : decode code 983 = .ok (.iaload, 1) := by decide +kernel
theorem d_lw_law_984 : decode code 984 = .ok (.aload_n 0, 1) := by decide +kernel
theorem d_lw_law_985 : decode code 985 = .ok (.iload_n 3, 1) := by decide +kernel
theorem d_lw_law_986 : decode code 986 = .ok (.iconst 2, 1) := by decide +kernel
theorem d_lw_law_987 : decode code 987 = .ok (.iadd, 1) := by decide +kernel
theorem d_lw_law_988 : decode code 988 = .ok (.iaload, 1) := by decide +kernel
theorem d_lw_law_989 : decode code 989 = .ok (.aload_n 0, 1) := by decide +kernel
theorem d_lw_law_990 : decode code 990 = .ok (.iload_n 3, 1) := by decide +kernel
theorem d_lw_law_991 : decode code 991 = .ok (.iconst 3, 1) := by decide +kernel
theorem d_lw_law_992 : decode code 992 = .ok (.iadd, 1) := by decide +kernel
theorem d_lw_law_993 : decode code 993 = .ok (.iaload, 1) := by decide +kernel
theorem d_lw_law_994 : decode code 994 = .ok (.aload_n 0, 1) := by decide +kernel
theorem d_lw_law_995 : decode code 995 = .ok (.iload_n 3, 1) := by decide +kernel
theorem d_lw_law_996 : decode code 996 = .ok (.iconst 4, 1) := by decide +kernel
theorem d_lw_law_997 : decode code 997 = .ok (.iadd, 1) := by decide +kernel
theorem d_lw_law_998 : decode code 998 = .ok (.iaload, 1) := by decide +kernel
theorem d_lw_law_999 : decode code 999 = .ok (.aload_n 0, 1) := by decide +kernel
theorem d_lw_law_1000 : decode code 1000 = .ok (.iload_n 3, 1) := by decide +kernel
theorem d_lw_law_1001 : decode code 1001 = .ok (.iconst 5, 1) := by decide +kernel
theorem d_lw_law_1002 : decode code 1002 = .ok (.iadd, 1) := by decide +kernel
theorem d_lw_law_1003 : decode code 1003 = .ok (.iaload, 1) := by decide +kernel
theorem d_lw_law_1004 : decode code 1004 = .ok (.aload_n 0, 1) := by decide +kernel
theorem d_lw_law_1005 : decode code 1005 = .ok (.iload_n 3, 1) := by decide +kernel
theorem d_lw_law_1006 : decode code 1006 = .ok (.bipush 6, 2) := by decide +kernel
theorem d_lw_law_1008 : decode code 1008 = .ok (.iadd, 1) := by decide +kernel
theorem d_lw_law_1009 : decode code 1009 = .ok (.iaload, 1) := by decide +kernel
theorem d_lw_law_1010 : decode code 1010 = .ok (.invokevirtual 122, 3) := by decide +kernel
theorem d_lw_law_1013 : decode code 1013 = .ok (.lcmp, 1) := by decide +kernel
theorem d_lw_law_1014 : decode code 1014 = .ok (.ifCond .eq 353, 3) := by decide +kernel
theorem d_lw_law_1017 : decode code 1017 = .ok (.iconst 0, 1) := by decide +kernel
theorem d_lw_law_1018 : decode code 1018 = .ok (.ireturn, 1) := by decide +kernel
theorem d_lw_law_1019 : decode code 1019 = .ok (.aload_n 1, 1) := by decide +kernel
theorem d_lw_law_1020 : decode code 1020 = .ok (.aload_n 0, 1) := by decide +kernel
theorem d_lw_law_1021 : decode code 1021 = .ok (.iload_n 3, 1) := by decide +kernel
theorem d_lw_law_1022 : decode code 1022 = .ok (.iconst 1, 1) := by decide +kernel
theorem d_lw_law_1023 : decode code 1023 = .ok (.iadd, 1) := by decide +kernel
theorem d_lw_law_1024 : decode code 1024 = .ok (.iaload, 1) := by decide +kernel
theorem d_lw_law_1025 : decode code 1025 = .ok (.aload_n 0, 1) := by decide +kernel
theorem d_lw_law_1026 : decode code 1026 = .ok (.iload_n 3, 1) := by decide +kernel
theorem d_lw_law_1027 : decode code 1027 = .ok (.iconst 2, 1) := by decide +kernel
theorem d_lw_law_1028 : decode code 1028 = .ok (.iadd, 1) := by decide +kernel
theorem d_lw_law_1029 : decode code 1029 = .ok (.iaload, 1) := by decide +kernel
theorem d_lw_law_1030 : decode code 1030 = .ok (.aload_n 0, 1) := by decide +kernel
theorem d_lw_law_1031 : decode code 1031 = .ok (.iload_n 3, 1) := by decide +kernel
theorem d_lw_law_1032 : decode code 1032 = .ok (.iconst 3, 1) := by decide +kernel
theorem d_lw_law_1033 : decode code 1033 = .ok (.iadd, 1) := by decide +kernel
theorem d_lw_law_1034 : decode code 1034 = .ok (.iaload, 1) := by decide +kernel
theorem d_lw_law_1035 : decode code 1035 = .ok (.invokevirtual 123, 3) := by decide +kernel
theorem d_lw_law_1038 : decode code 1038 = .ok (.aload_n 2, 1) := by decide +kernel
theorem d_lw_law_1039 : decode code 1039 = .ok (.aload_n 0, 1) := by decide +kernel
theorem d_lw_law_1040 : decode code 1040 = .ok (.iload_n 3, 1) := by decide +kernel
theorem d_lw_law_1041 : decode code 1041 = .ok (.iconst 1, 1) := by decide +kernel
theorem d_lw_law_1042 : decode code 1042 = .ok (.iadd, 1) := by decide +kernel
theorem d_lw_law_1043 : decode code 1043 = .ok (.iaload, 1) := by decide +kernel
theorem d_lw_law_1044 : decode code 1044 = .ok (.aload_n 0, 1) := by decide +kernel
theorem d_lw_law_1045 : decode code 1045 = .ok (.iload_n 3, 1) := by decide +kernel
