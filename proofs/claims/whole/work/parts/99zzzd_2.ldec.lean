/-! the law decoded -/
theorem dL_804 : decode code 804 = .ok (.iconst 1, 1) := by decide +kernel
theorem dL_805 : decode code 805 = .ok (.iadd, 1) := by decide +kernel
theorem dL_806 : decode code 806 = .ok (.iaload, 1) := by decide +kernel
theorem dL_807 : decode code 807 = .ok (.aload_n 0, 1) := by decide +kernel
theorem dL_808 : decode code 808 = .ok (.iload_n 3, 1) := by decide +kernel
theorem dL_809 : decode code 809 = .ok (.iconst 2, 1) := by decide +kernel
theorem dL_810 : decode code 810 = .ok (.iadd, 1) := by decide +kernel
theorem dL_811 : decode code 811 = .ok (.iaload, 1) := by decide +kernel
theorem dL_812 : decode code 812 = .ok (.invokevirtual 95, 3) := by decide +kernel
theorem dL_815 : decode code 815 = .ok (.aload_n 2, 1) := by decide +kernel
theorem dL_816 : decode code 816 = .ok (.aload_n 0, 1) := by decide +kernel
theorem dL_817 : decode code 817 = .ok (.iload_n 3, 1) := by decide +kernel
theorem dL_818 : decode code 818 = .ok (.iconst 1, 1) := by decide +kernel
theorem dL_819 : decode code 819 = .ok (.iadd, 1) := by decide +kernel
theorem dL_820 : decode code 820 = .ok (.iaload, 1) := by decide +kernel
theorem dL_821 : decode code 821 = .ok (.aload_n 0, 1) := by decide +kernel
theorem dL_822 : decode code 822 = .ok (.iload_n 3, 1) := by decide +kernel
theorem dL_823 : decode code 823 = .ok (.iconst 2, 1) := by decide +kernel
theorem dL_824 : decode code 824 = .ok (.iadd, 1) := by decide +kernel
theorem dL_825 : decode code 825 = .ok (.iaload, 1) := by decide +kernel
theorem dL_826 : decode code 826 = .ok (.invokevirtual 98, 3) := by decide +kernel
theorem dL_829 : decode code 829 = .ok (.if_icmp .eq 618, 3) := by decide +kernel
theorem dL_834 : decode code 834 = .ok (.aload_n 1, 1) := by decide +kernel
theorem dL_835 : decode code 835 = .ok (.aload_n 0, 1) := by decide +kernel
theorem dL_836 : decode code 836 = .ok (.iload_n 3, 1) := by decide +kernel
theorem dL_837 : decode code 837 = .ok (.iconst 1, 1) := by decide +kernel
theorem dL_838 : decode code 838 = .ok (.iadd, 1) := by decide +kernel
theorem dL_839 : decode code 839 = .ok (.iaload, 1) := by decide +kernel
theorem dL_840 : decode code 840 = .ok (.aload_n 0, 1) := by decide +kernel
theorem dL_841 : decode code 841 = .ok (.iload_n 3, 1) := by decide +kernel
theorem dL_842 : decode code 842 = .ok (.iconst 2, 1) := by decide +kernel
theorem dL_843 : decode code 843 = .ok (.iadd, 1) := by decide +kernel
theorem dL_844 : decode code 844 = .ok (.iaload, 1) := by decide +kernel
theorem dL_845 : decode code 845 = .ok (.invokevirtual 99, 3) := by decide +kernel
theorem dL_848 : decode code 848 = .ok (.aload_n 2, 1) := by decide +kernel
theorem dL_849 : decode code 849 = .ok (.aload_n 0, 1) := by decide +kernel
theorem dL_850 : decode code 850 = .ok (.iload_n 3, 1) := by decide +kernel
theorem dL_851 : decode code 851 = .ok (.iconst 1, 1) := by decide +kernel
theorem dL_852 : decode code 852 = .ok (.iadd, 1) := by decide +kernel
theorem dL_853 : decode code 853 = .ok (.iaload, 1) := by decide +kernel
theorem dL_854 : decode code 854 = .ok (.aload_n 0, 1) := by decide +kernel
theorem dL_855 : decode code 855 = .ok (.iload_n 3, 1) := by decide +kernel
theorem dL_856 : decode code 856 = .ok (.iconst 2, 1) := by decide +kernel
theorem dL_857 : decode code 857 = .ok (.iadd, 1) := by decide +kernel
theorem dL_858 : decode code 858 = .ok (.iaload, 1) := by decide +kernel
theorem dL_859 : decode code 859 = .ok (.invokevirtual 102, 3) := by decide +kernel
theorem dL_862 : decode code 862 = .ok (.if_icmp .eq 585, 3) := by decide +kernel
theorem dL_867 : decode code 867 = .ok (.aload_n 1, 1) := by decide +kernel
theorem dL_868 : decode code 868 = .ok (.aload_n 0, 1) := by decide +kernel
theorem dL_869 : decode code 869 = .ok (.iload_n 3, 1) := by decide +kernel
theorem dL_870 : decode code 870 = .ok (.iconst 1, 1) := by decide +kernel
theorem dL_871 : decode code 871 = .ok (.iadd, 1) := by decide +kernel
theorem dL_872 : decode code 872 = .ok (.iaload, 1) := by decide +kernel
theorem dL_873 : decode code 873 = .ok (.invokevirtual 103, 3) := by decide +kernel
theorem dL_876 : decode code 876 = .ok (.aload_n 2, 1) := by decide +kernel
theorem dL_877 : decode code 877 = .ok (.aload_n 0, 1) := by decide +kernel
theorem dL_878 : decode code 878 = .ok (.iload_n 3, 1) := by decide +kernel
theorem dL_879 : decode code 879 = .ok (.iconst 1, 1) := by decide +kernel
theorem dL_880 : decode code 880 = .ok (.iadd, 1) := by decide +kernel
theorem dL_881 : decode code 881 = .ok (.iaload, 1) := by decide +kernel
theorem dL_882 : decode code 882 = .ok (.invokevirtual 106, 3) := by decide +kernel
theorem dL_885 : decode code 885 = .ok (.if_icmp .eq 562, 3) := by decide +kernel
theorem dL_890 : decode code 890 = .ok (.aload_n 1, 1) := by decide +kernel
theorem dL_891 : decode code 891 = .ok (.invokevirtual 107, 3) := by decide +kernel
theorem dL_894 : decode code 894 = .ok (.aload_n 2, 1) := by decide +kernel
theorem dL_895 : decode code 895 = .ok (.invokevirtual 110, 3) := by decide +kernel
theorem dL_898 : decode code 898 = .ok (.if_icmp .eq 549, 3) := by decide +kernel
theorem dL_903 : decode code 903 = .ok (.aload_n 1, 1) := by decide +kernel
theorem dL_904 : decode code 904 = .ok (.aload_n 0, 1) := by decide +kernel
theorem dL_905 : decode code 905 = .ok (.iload_n 3, 1) := by decide +kernel
theorem dL_906 : decode code 906 = .ok (.iconst 1, 1) := by decide +kernel
theorem dL_907 : decode code 907 = .ok (.iadd, 1) := by decide +kernel
theorem dL_908 : decode code 908 = .ok (.iaload, 1) := by decide +kernel
theorem dL_909 : decode code 909 = .ok (.invokevirtual 111, 3) := by decide +kernel
theorem dL_912 : decode code 912 = .ok (.aload_n 2, 1) := by decide +kernel
theorem dL_913 : decode code 913 = .ok (.aload_n 0, 1) := by decide +kernel
theorem dL_914 : decode code 914 = .ok (.iload_n 3, 1) := by decide +kernel
theorem dL_915 : decode code 915 = .ok (.iconst 1, 1) := by decide +kernel
theorem dL_916 : decode code 916 = .ok (.iadd, 1) := by decide +kernel
theorem dL_917 : decode code 917 = .ok (.iaload, 1) := by decide +kernel
theorem dL_918 : decode code 918 = .ok (.invokevirtual 114, 3) := by decide +kernel
theorem dL_921 : decode code 921 = .ok (.if_icmp .eq 526, 3) := by decide +kernel
theorem dL_926 : decode code 926 = .ok (.aload_n 1, 1) := by decide +kernel
theorem dL_927 : decode code 927 = .ok (.aload_n 0, 1) := by decide +kernel
theorem dL_928 : decode code 928 = .ok (.iload_n 3, 1) := by decide +kernel
theorem dL_929 : decode code 929 = .ok (.iconst 1, 1) := by decide +kernel
theorem dL_930 : decode code 930 = .ok (.iadd, 1) := by decide +kernel
theorem dL_931 : decode code 931 = .ok (.iaload, 1) := by decide +kernel
theorem dL_932 : decode code 932 = .ok (.invokevirtual 115, 3) := by decide +kernel
theorem dL_935 : decode code 935 = .ok (.aload_n 2, 1) := by decide +kernel
theorem dL_936 : decode code 936 = .ok (.aload_n 0, 1) := by decide +kernel
theorem dL_937 : decode code 937 = .ok (.iload_n 3, 1) := by decide +kernel
theorem dL_938 : decode code 938 = .ok (.iconst 1, 1) := by decide +kernel
theorem dL_939 : decode code 939 = .ok (.iadd, 1) := by decide +kernel
theorem dL_940 : decode code 940 = .ok (.iaload, 1) := by decide +kernel
theorem dL_941 : decode code 941 = .ok (.invokevirtual 118, 3) := by decide +kernel
theorem dL_944 : decode code 944 = .ok (.if_icmp .eq 503, 3) := by decide +kernel
theorem dL_949 : decode code 949 = .ok (.aload_n 1, 1) := by decide +kernel
theorem dL_950 : decode code 950 = .ok (.aload_n 0, 1) := by decide +kernel
theorem dL_951 : decode code 951 = .ok (.iload_n 3, 1) := by decide +kernel
theorem dL_952 : decode code 952 = .ok (.iconst 1, 1) := by decide +kernel
theorem dL_953 : decode code 953 = .ok (.iadd, 1) := by decide +kernel
theorem dL_954 : decode code 954 = .ok (.iaload, 1) := by decide +kernel
theorem dL_955 : decode code 955 = .ok (.invokevirtual 119, 3) := by decide +kernel
theorem dL_958 : decode code 958 = .ok (.aload_n 2, 1) := by decide +kernel
theorem dL_959 : decode code 959 = .ok (.aload_n 0, 1) := by decide +kernel
theorem dL_960 : decode code 960 = .ok (.iload_n 3, 1) := by decide +kernel
theorem dL_961 : decode code 961 = .ok (.iconst 1, 1) := by decide +kernel
theorem dL_962 : decode code 962 = .ok (.iadd, 1) := by decide +kernel
theorem dL_963 : decode code 963 = .ok (.iaload, 1) := by decide +kernel
theorem dL_964 : decode code 964 = .ok (.invokevirtual 122, 3) := by decide +kernel
theorem dL_967 : decode code 967 = .ok (.if_icmp .eq 480, 3) := by decide +kernel
theorem dL_972 : decode code 972 = .ok (.aload_n 1, 1) := by decide +kernel
theorem dL_973 : decode code 973 = .ok (.aload_n 0, 1) := by decide +kernel
theorem dL_974 : decode code 974 = .ok (.iload_n 3, 1) := by decide +kernel
theorem dL_975 : decode code 975 = .ok (.iconst 1, 1) := by decide +kernel
theorem dL_976 : decode code 976 = .ok (.iadd, 1) := by decide +kernel
theorem dL_977 : decode code 977 = .ok (.iaload, 1) := by decide +kernel
theorem dL_978 : decode code 978 = .ok (.invokevirtual 123, 3) := by decide +kernel
theorem dL_981 : decode code 981 = .ok (.aload_n 2, 1) := by decide +kernel
theorem dL_982 : decode code 982 = .ok (.aload_n 0, 1) := by decide +kernel
theorem dL_983 : decode code 983 = .ok (.iload_n 3, 1) := by decide +kernel
theorem dL_984 : decode code 984 = .ok (.iconst 1, 1) := by decide +kernel
theorem dL_985 : decode code 985 = .ok (.iadd, 1) := by decide +kernel
theorem dL_986 : decode code 986 = .ok (.iaload, 1) := by decide +kernel
theorem dL_987 : decode code 987 = .ok (.invokevirtual 126, 3) := by decide +kernel
theorem dL_990 : decode code 990 = .ok (.if_icmp .eq 457, 3) := by decide +kernel
theorem dL_995 : decode code 995 = .ok (.aload_n 1, 1) := by decide +kernel
theorem dL_996 : decode code 996 = .ok (.aload_n 0, 1) := by decide +kernel
theorem dL_997 : decode code 997 = .ok (.iload_n 3, 1) := by decide +kernel
theorem dL_998 : decode code 998 = .ok (.iconst 1, 1) := by decide +kernel
theorem dL_999 : decode code 999 = .ok (.iadd, 1) := by decide +kernel
theorem dL_1000 : decode code 1000 = .ok (.iaload, 1) := by decide +kernel
theorem dL_1001 : decode code 1001 = .ok (.invokevirtual 127, 3) := by decide +kernel
theorem dL_1004 : decode code 1004 = .ok (.aload_n 2, 1) := by decide +kernel
theorem dL_1005 : decode code 1005 = .ok (.aload_n 0, 1) := by decide +kernel
theorem dL_1006 : decode code 1006 = .ok (.iload_n 3, 1) := by decide +kernel
theorem dL_1007 : decode code 1007 = .ok (.iconst 1, 1) := by decide +kernel
theorem dL_1008 : decode code 1008 = .ok (.iadd, 1) := by decide +kernel
theorem dL_1009 : decode code 1009 = .ok (.iaload, 1) := by decide +kernel
theorem dL_1010 : decode code 1010 = .ok (.invokevirtual 130, 3) := by decide +kernel
theorem dL_1013 : decode code 1013 = .ok (.if_icmp .eq 434, 3) := by decide +kernel
theorem dL_1018 : decode code 1018 = .ok (.aload_n 1, 1) := by decide +kernel
theorem dL_1019 : decode code 1019 = .ok (.invokevirtual 131, 3) := by decide +kernel
theorem dL_1022 : decode code 1022 = .ok (.aload_n 2, 1) := by decide +kernel
theorem dL_1023 : decode code 1023 = .ok (.invokevirtual 134, 3) := by decide +kernel
theorem dL_1026 : decode code 1026 = .ok (.if_icmp .eq 421, 3) := by decide +kernel
theorem dL_1031 : decode code 1031 = .ok (.aload_n 1, 1) := by decide +kernel
theorem dL_1032 : decode code 1032 = .ok (.aload_n 0, 1) := by decide +kernel
theorem dL_1033 : decode code 1033 = .ok (.iload_n 3, 1) := by decide +kernel
theorem dL_1034 : decode code 1034 = .ok (.iconst 1, 1) := by decide +kernel
theorem dL_1035 : decode code 1035 = .ok (.iadd, 1) := by decide +kernel
theorem dL_1036 : decode code 1036 = .ok (.iaload, 1) := by decide +kernel
theorem dL_1037 : decode code 1037 = .ok (.invokevirtual 135, 3) := by decide +kernel
theorem dL_1040 : decode code 1040 = .ok (.aload_n 2, 1) := by decide +kernel
theorem dL_1041 : decode code 1041 = .ok (.aload_n 0, 1) := by decide +kernel
theorem dL_1042 : decode code 1042 = .ok (.iload_n 3, 1) := by decide +kernel
theorem dL_1043 : decode code 1043 = .ok (.iconst 1, 1) := by decide +kernel
theorem dL_1044 : decode code 1044 = .ok (.iadd, 1) := by decide +kernel
theorem dL_1045 : decode code 1045 = .ok (.iaload, 1) := by decide +kernel
theorem dL_1046 : decode code 1046 = .ok (.invokevirtual 138, 3) := by decide +kernel
theorem dL_1049 : decode code 1049 = .ok (.if_icmp .eq 398, 3) := by decide +kernel
theorem dL_1054 : decode code 1054 = .ok (.aload_n 1, 1) := by decide +kernel
theorem dL_1055 : decode code 1055 = .ok (.aload_n 0, 1) := by decide +kernel
theorem dL_1056 : decode code 1056 = .ok (.iload_n 3, 1) := by decide +kernel
theorem dL_1057 : decode code 1057 = .ok (.iconst 1, 1) := by decide +kernel
theorem dL_1058 : decode code 1058 = .ok (.iadd, 1) := by decide +kernel
theorem dL_1059 : decode code 1059 = .ok (.iaload, 1) := by decide +kernel
theorem dL_1060 : decode code 1060 = .ok (.invokevirtual 139, 3) := by decide +kernel
theorem dL_1063 : decode code 1063 = .ok (.aload_n 2, 1) := by decide +kernel
theorem dL_1064 : decode code 1064 = .ok (.aload_n 0, 1) := by decide +kernel
theorem dL_1065 : decode code 1065 = .ok (.iload_n 3, 1) := by decide +kernel
theorem dL_1066 : decode code 1066 = .ok (.iconst 1, 1) := by decide +kernel
theorem dL_1067 : decode code 1067 = .ok (.iadd, 1) := by decide +kernel
theorem dL_1068 : decode code 1068 = .ok (.iaload, 1) := by decide +kernel
theorem dL_1069 : decode code 1069 = .ok (.invokevirtual 142, 3) := by decide +kernel
theorem dL_1072 : decode code 1072 = .ok (.if_icmp .eq 375, 3) := by decide +kernel
theorem dL_1077 : decode code 1077 = .ok (.aload_n 1, 1) := by decide +kernel
theorem dL_1078 : decode code 1078 = .ok (.aload_n 0, 1) := by decide +kernel
theorem dL_1079 : decode code 1079 = .ok (.iload_n 3, 1) := by decide +kernel
theorem dL_1080 : decode code 1080 = .ok (.iconst 1, 1) := by decide +kernel
theorem dL_1081 : decode code 1081 = .ok (.iadd, 1) := by decide +kernel
theorem dL_1082 : decode code 1082 = .ok (.iaload, 1) := by decide +kernel
theorem dL_1083 : decode code 1083 = .ok (.invokevirtual 143, 3) := by decide +kernel
theorem dL_1086 : decode code 1086 = .ok (.aload_n 2, 1) := by decide +kernel
theorem dL_1087 : decode code 1087 = .ok (.aload_n 0, 1) := by decide +kernel
theorem dL_1088 : decode code 1088 = .ok (.iload_n 3, 1) := by decide +kernel
theorem dL_1089 : decode code 1089 = .ok (.iconst 1, 1) := by decide +kernel
theorem dL_1090 : decode code 1090 = .ok (.iadd, 1) := by decide +kernel
theorem dL_1091 : decode code 1091 = .ok (.iaload, 1) := by decide +kernel
theorem dL_1092 : decode code 1092 = .ok (.invokevirtual 147, 3) := by decide +kernel
theorem dL_1095 : decode code 1095 = .ok (.lcmp, 1) := by decide +kernel
theorem dL_1096 : decode code 1096 = .ok (.ifCond .eq 351, 3) := by decide +kernel
theorem dL_1101 : decode code 1101 = .ok (.aload_n 1, 1) := by decide +kernel
theorem dL_1102 : decode code 1102 = .ok (.aload_n 0, 1) := by decide +kernel
theorem dL_1103 : decode code 1103 = .ok (.iload_n 3, 1) := by decide +kernel
theorem dL_1104 : decode code 1104 = .ok (.iconst 1, 1) := by decide +kernel
theorem dL_1105 : decode code 1105 = .ok (.iadd, 1) := by decide +kernel
theorem dL_1106 : decode code 1106 = .ok (.iaload, 1) := by decide +kernel
theorem dL_1107 : decode code 1107 = .ok (.aload_n 0, 1) := by decide +kernel
theorem dL_1108 : decode code 1108 = .ok (.iload_n 3, 1) := by decide +kernel
theorem dL_1109 : decode code 1109 = .ok (.iconst 2, 1) := by decide +kernel
theorem dL_1110 : decode code 1110 = .ok (.iadd, 1) := by decide +kernel
theorem dL_1111 : decode code 1111 = .ok (.iaload, 1) := by decide +kernel
theorem dL_1112 : decode code 1112 = .ok (.aload_n 0, 1) := by decide +kernel
theorem dL_1113 : decode code 1113 = .ok (.iload_n 3, 1) := by decide +kernel
theorem dL_1114 : decode code 1114 = .ok (.iconst 3, 1) := by decide +kernel
theorem dL_1115 : decode code 1115 = .ok (.iadd, 1) := by decide +kernel
theorem dL_1116 : decode code 1116 = .ok (.iaload, 1) := by decide +kernel
theorem dL_1117 : decode code 1117 = .ok (.aload_n 0, 1) := by decide +kernel
theorem dL_1118 : decode code 1118 = .ok (.iload_n 3, 1) := by decide +kernel
theorem dL_1119 : decode code 1119 = .ok (.iconst 4, 1) := by decide +kernel
theorem dL_1120 : decode code 1120 = .ok (.iadd, 1) := by decide +kernel
theorem dL_1121 : decode code 1121 = .ok (.iaload, 1) := by decide +kernel
theorem dL_1122 : decode code 1122 = .ok (.invokevirtual 148, 3) := by decide +kernel
theorem dL_1125 : decode code 1125 = .ok (.aload_n 2, 1) := by decide +kernel
theorem dL_1126 : decode code 1126 = .ok (.aload_n 0, 1) := by decide +kernel
theorem dL_1127 : decode code 1127 = .ok (.iload_n 3, 1) := by decide +kernel
theorem dL_1128 : decode code 1128 = .ok (.iconst 1, 1) := by decide +kernel
theorem dL_1129 : decode code 1129 = .ok (.iadd, 1) := by decide +kernel
theorem dL_1130 : decode code 1130 = .ok (.iaload, 1) := by decide +kernel
theorem dL_1131 : decode code 1131 = .ok (.aload_n 0, 1) := by decide +kernel
theorem dL_1132 : decode code 1132 = .ok (.iload_n 3, 1) := by decide +kernel
theorem dL_1133 : decode code 1133 = .ok (.iconst 2, 1) := by decide +kernel
theorem dL_1134 : decode code 1134 = .ok (.iadd, 1) := by decide +kernel
