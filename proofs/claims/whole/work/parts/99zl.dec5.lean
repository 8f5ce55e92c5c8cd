theorem dW_890 : decode code 890 = .ok (.iaload, 1) := by decide +kernel
theorem dW_891 : decode code 891 = .ok (.invokevirtual 106, 3) := by decide +kernel
theorem dW_894 : decode code 894 = .ok (.aload_n 2, 1) := by decide +kernel
theorem dW_895 : decode code 895 = .ok (.aload_n 0, 1) := by decide +kernel
theorem dW_896 : decode code 896 = .ok (.iload_n 3, 1) := by decide +kernel
theorem dW_897 : decode code 897 = .ok (.iconst 1, 1) := by decide +kernel
theorem dW_898 : decode code 898 = .ok (.iadd, 1) := by decide +kernel
theorem dW_899 : decode code 899 = .ok (.iaload, 1) := by decide +kernel
theorem dW_900 : decode code 900 = .ok (.aload_n 0, 1) := by decide +kernel
theorem dW_901 : decode code 901 = .ok (.iload_n 3, 1) := by decide +kernel
theorem dW_902 : decode code 902 = .ok (.iconst 2, 1) := by decide +kernel
theorem dW_903 : decode code 903 = .ok (.iadd, 1) := by decide +kernel
theorem dW_904 : decode code 904 = .ok (.iaload, 1) := by decide +kernel
theorem dW_905 : decode code 905 = .ok (.invokevirtual 110, 3) := by decide +kernel
theorem dW_908 : decode code 908 = .ok (.lcmp, 1) := by decide +kernel
theorem dW_909 : decode code 909 = .ok (.ifCond .eq 338, 3) := by decide +kernel
theorem dW_912 : decode code 912 = .ok (.iconst 0, 1) := by decide +kernel
theorem dW_913 : decode code 913 = .ok (.ireturn, 1) := by decide +kernel
theorem dW_914 : decode code 914 = .ok (.aload_n 1, 1) := by decide +kernel
theorem dW_915 : decode code 915 = .ok (.aload_n 0, 1) := by decide +kernel
theorem dW_916 : decode code 916 = .ok (.iload_n 3, 1) := by decide +kernel
theorem dW_917 : decode code 917 = .ok (.iconst 1, 1) := by decide +kernel
theorem dW_918 : decode code 918 = .ok (.iadd, 1) := by decide +kernel
theorem dW_919 : decode code 919 = .ok (.iaload, 1) := by decide +kernel
theorem dW_920 : decode code 920 = .ok (.aload_n 0, 1) := by decide +kernel
theorem dW_921 : decode code 921 = .ok (.iload_n 3, 1) := by decide +kernel
theorem dW_922 : decode code 922 = .ok (.iconst 2, 1) := by decide +kernel
theorem dW_923 : decode code 923 = .ok (.iadd, 1) := by decide +kernel
theorem dW_924 : decode code 924 = .ok (.iaload, 1) := by decide +kernel
theorem dW_925 : decode code 925 = .ok (.invokevirtual 111, 3) := by decide +kernel
theorem dW_928 : decode code 928 = .ok (.aload_n 2, 1) := by decide +kernel
theorem dW_929 : decode code 929 = .ok (.aload_n 0, 1) := by decide +kernel
theorem dW_930 : decode code 930 = .ok (.iload_n 3, 1) := by decide +kernel
theorem dW_931 : decode code 931 = .ok (.iconst 1, 1) := by decide +kernel
theorem dW_932 : decode code 932 = .ok (.iadd, 1) := by decide +kernel
theorem dW_933 : decode code 933 = .ok (.iaload, 1) := by decide +kernel
theorem dW_934 : decode code 934 = .ok (.aload_n 0, 1) := by decide +kernel
theorem dW_935 : decode code 935 = .ok (.iload_n 3, 1) := by decide +kernel
theorem dW_936 : decode code 936 = .ok (.iconst 2, 1) := by decide +kernel
theorem dW_937 : decode code 937 = .ok (.iadd, 1) := by decide +kernel
theorem dW_938 : decode code 938 = .ok (.iaload, 1) := by decide +kernel
theorem dW_939 : decode code 939 = .ok (.invokevirtual 114, 3) := by decide +kernel
theorem dW_942 : decode code 942 = .ok (.if_icmp .eq 305, 3) := by decide +kernel
theorem dW_945 : decode code 945 = .ok (.iconst 0, 1) := by decide +kernel
theorem dW_946 : decode code 946 = .ok (.ireturn, 1) := by decide +kernel
theorem dW_947 : decode code 947 = .ok (.aload_n 1, 1) := by decide +kernel
theorem dW_948 : decode code 948 = .ok (.aload_n 0, 1) := by decide +kernel
theorem dW_949 : decode code 949 = .ok (.iload_n 3, 1) := by decide +kernel
theorem dW_950 : decode code 950 = .ok (.iconst 1, 1) := by decide +kernel
theorem dW_951 : decode code 951 = .ok (.iadd, 1) := by decide +kernel
theorem dW_952 : decode code 952 = .ok (.iaload, 1) := by decide +kernel
theorem dW_953 : decode code 953 = .ok (.aload_n 0, 1) := by decide +kernel
theorem dW_954 : decode code 954 = .ok (.iload_n 3, 1) := by decide +kernel
theorem dW_955 : decode code 955 = .ok (.iconst 2, 1) := by decide +kernel
theorem dW_956 : decode code 956 = .ok (.iadd, 1) := by decide +kernel
theorem dW_957 : decode code 957 = .ok (.iaload, 1) := by decide +kernel
theorem dW_958 : decode code 958 = .ok (.invokevirtual 115, 3) := by decide +kernel
theorem dW_961 : decode code 961 = .ok (.aload_n 2, 1) := by decide +kernel
theorem dW_962 : decode code 962 = .ok (.aload_n 0, 1) := by decide +kernel
theorem dW_963 : decode code 963 = .ok (.iload_n 3, 1) := by decide +kernel
theorem dW_964 : decode code 964 = .ok (.iconst 1, 1) := by decide +kernel
theorem dW_965 : decode code 965 = .ok (.iadd, 1) := by decide +kernel
theorem dW_966 : decode code 966 = .ok (.iaload, 1) := by decide +kernel
theorem dW_967 : decode code 967 = .ok (.aload_n 0, 1) := by decide +kernel
theorem dW_968 : decode code 968 = .ok (.iload_n 3, 1) := by decide +kernel
theorem dW_969 : decode code 969 = .ok (.iconst 2, 1) := by decide +kernel
theorem dW_970 : decode code 970 = .ok (.iadd, 1) := by decide +kernel
theorem dW_971 : decode code 971 = .ok (.iaload, 1) := by decide +kernel
theorem dW_972 : decode code 972 = .ok (.invokevirtual 118, 3) := by decide +kernel
theorem dW_975 : decode code 975 = .ok (.if_icmp .eq 272, 3) := by decide +kernel
theorem dW_978 : decode code 978 = .ok (.iconst 0, 1) := by decide +kernel
theorem dW_979 : decode code 979 = .ok (.ireturn, 1) := by decide +kernel
theorem dW_980 : decode code 980 = .ok (.aload_n 1, 1) := by decide +kernel
theorem dW_981 : decode code 981 = .ok (.aload_n 0, 1) := by decide +kernel
theorem dW_982 : decode code 982 = .ok (.iload_n 3, 1) := by decide +kernel
theorem dW_983 : decode code 983 = .ok (.iconst 1, 1) := by decide +kernel
theorem dW_984 : decode code 984 = .ok (.iadd, 1) := by decide +kernel
theorem dW_985 : decode code 985 = .ok (.iaload, 1) := by decide +kernel
theorem dW_986 : decode code 986 = .ok (.aload_n 0, 1) := by decide +kernel
theorem dW_987 : decode code 987 = .ok (.iload_n 3, 1) := by decide +kernel
theorem dW_988 : decode code 988 = .ok (.iconst 2, 1) := by decide +kernel
theorem dW_989 : decode code 989 = .ok (.iadd, 1) := by decide +kernel
theorem dW_990 : decode code 990 = .ok (.iaload, 1) := by decide +kernel
theorem dW_991 : decode code 991 = .ok (.i2l, 1) := by decide +kernel
theorem dW_992 : decode code 992 = .ok (.bipush 32, 2) := by decide +kernel
theorem dW_994 : decode code 994 = .ok (.lshl, 1) := by decide +kernel
theorem dW_995 : decode code 995 = .ok (.aload_n 0, 1) := by decide +kernel
theorem dW_996 : decode code 996 = .ok (.iload_n 3, 1) := by decide +kernel
theorem dW_997 : decode code 997 = .ok (.iconst 3, 1) := by decide +kernel
theorem dW_998 : decode code 998 = .ok (.iadd, 1) := by decide +kernel
theorem dW_999 : decode code 999 = .ok (.iaload, 1) := by decide +kernel
theorem dW_1000 : decode code 1000 = .ok (.i2l, 1) := by decide +kernel
theorem dW_1001 : decode code 1001 = .ok (.ldc2_w 13, 3) := by decide +kernel
theorem dW_1004 : decode code 1004 = .ok (.land, 1) := by decide +kernel
theorem dW_1005 : decode code 1005 = .ok (.lor, 1) := by decide +kernel
theorem dW_1006 : decode code 1006 = .ok (.aload_n 0, 1) := by decide +kernel
theorem dW_1007 : decode code 1007 = .ok (.iload_n 3, 1) := by decide +kernel
theorem dW_1008 : decode code 1008 = .ok (.iconst 4, 1) := by decide +kernel
theorem dW_1009 : decode code 1009 = .ok (.iadd, 1) := by decide +kernel
theorem dW_1010 : decode code 1010 = .ok (.iaload, 1) := by decide +kernel
theorem dW_1011 : decode code 1011 = .ok (.i2l, 1) := by decide +kernel
theorem dW_1012 : decode code 1012 = .ok (.bipush 32, 2) := by decide +kernel
theorem dW_1014 : decode code 1014 = .ok (.lshl, 1) := by decide +kernel
theorem dW_1015 : decode code 1015 = .ok (.aload_n 0, 1) := by decide +kernel
theorem dW_1016 : decode code 1016 = .ok (.iload_n 3, 1) := by decide +kernel
theorem dW_1017 : decode code 1017 = .ok (.iconst 5, 1) := by decide +kernel
theorem dW_1018 : decode code 1018 = .ok (.iadd, 1) := by decide +kernel
theorem dW_1019 : decode code 1019 = .ok (.iaload, 1) := by decide +kernel
theorem dW_1020 : decode code 1020 = .ok (.i2l, 1) := by decide +kernel
theorem dW_1021 : decode code 1021 = .ok (.ldc2_w 13, 3) := by decide +kernel
theorem dW_1024 : decode code 1024 = .ok (.land, 1) := by decide +kernel
theorem dW_1025 : decode code 1025 = .ok (.lor, 1) := by decide +kernel
theorem dW_1026 : decode code 1026 = .ok (.aload_n 0, 1) := by decide +kernel
theorem dW_1027 : decode code 1027 = .ok (.iload_n 3, 1) := by decide +kernel
theorem dW_1028 : decode code 1028 = .ok (.bipush 6, 2) := by decide +kernel
theorem dW_1030 : decode code 1030 = .ok (.iadd, 1) := by decide +kernel
theorem dW_1031 : decode code 1031 = .ok (.iaload, 1) := by decide +kernel
theorem dW_1032 : decode code 1032 = .ok (.aload_n 0, 1) := by decide +kernel
theorem dW_1033 : decode code 1033 = .ok (.iload_n 3, 1) := by decide +kernel
theorem dW_1034 : decode code 1034 = .ok (.bipush 7, 2) := by decide +kernel
theorem dW_1036 : decode code 1036 = .ok (.iadd, 1) := by decide +kernel
theorem dW_1037 : decode code 1037 = .ok (.iaload, 1) := by decide +kernel
theorem dW_1038 : decode code 1038 = .ok (.aload_n 0, 1) := by decide +kernel
theorem dW_1039 : decode code 1039 = .ok (.iload_n 3, 1) := by decide +kernel
theorem dW_1040 : decode code 1040 = .ok (.bipush 8, 2) := by decide +kernel
theorem dW_1042 : decode code 1042 = .ok (.iadd, 1) := by decide +kernel
theorem dW_1043 : decode code 1043 = .ok (.iaload, 1) := by decide +kernel
theorem dW_1044 : decode code 1044 = .ok (.invokevirtual 119, 3) := by decide +kernel
theorem dW_1047 : decode code 1047 = .ok (.aload_n 2, 1) := by decide +kernel
theorem dW_1048 : decode code 1048 = .ok (.aload_n 0, 1) := by decide +kernel
theorem dW_1049 : decode code 1049 = .ok (.iload_n 3, 1) := by decide +kernel
theorem dW_1050 : decode code 1050 = .ok (.iconst 1, 1) := by decide +kernel
theorem dW_1051 : decode code 1051 = .ok (.iadd, 1) := by decide +kernel
theorem dW_1052 : decode code 1052 = .ok (.iaload, 1) := by decide +kernel
theorem dW_1053 : decode code 1053 = .ok (.aload_n 0, 1) := by decide +kernel
theorem dW_1054 : decode code 1054 = .ok (.iload_n 3, 1) := by decide +kernel
theorem dW_1055 : decode code 1055 = .ok (.iconst 2, 1) := by decide +kernel
theorem dW_1056 : decode code 1056 = .ok (.iadd, 1) := by decide +kernel
theorem dW_1057 : decode code 1057 = .ok (.iaload, 1) := by decide +kernel
theorem dW_1058 : decode code 1058 = .ok (.i2l, 1) := by decide +kernel
theorem dW_1059 : decode code 1059 = .ok (.bipush 32, 2) := by decide +kernel
theorem dW_1061 : decode code 1061 = .ok (.lshl, 1) := by decide +kernel
theorem dW_1062 : decode code 1062 = .ok (.aload_n 0, 1) := by decide +kernel
theorem dW_1063 : decode code 1063 = .ok (.iload_n 3, 1) := by decide +kernel
theorem dW_1064 : decode code 1064 = .ok (.iconst 3, 1) := by decide +kernel
