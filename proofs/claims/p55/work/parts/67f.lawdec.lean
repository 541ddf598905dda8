theorem d_L_786 : decode code 786 = .ok (.iadd, 1) := by decide +kernel
theorem d_L_787 : decode code 787 = .ok (.iaload, 1) := by decide +kernel
theorem d_L_788 : decode code 788 = .ok (.invokevirtual 80, 3) := by decide +kernel
theorem d_L_791 : decode code 791 = .ok (.istore 6, 2) := by decide +kernel
theorem d_L_793 : decode code 793 = .ok (.goto 1613, 3) := by decide +kernel
theorem d_L_796 : decode code 796 = .ok (.aload_n 1, 1) := by decide +kernel
theorem d_L_797 : decode code 797 = .ok (.aload_n 0, 1) := by decide +kernel
theorem d_L_798 : decode code 798 = .ok (.iload 4, 2) := by decide +kernel
theorem d_L_800 : decode code 800 = .ok (.iconst 1, 1) := by decide +kernel
theorem d_L_801 : decode code 801 = .ok (.iadd, 1) := by decide +kernel
theorem d_L_802 : decode code 802 = .ok (.iaload, 1) := by decide +kernel
theorem d_L_803 : decode code 803 = .ok (.aload_n 0, 1) := by decide +kernel
theorem d_L_804 : decode code 804 = .ok (.iload 4, 2) := by decide +kernel
theorem d_L_806 : decode code 806 = .ok (.iconst 2, 1) := by decide +kernel
theorem d_L_807 : decode code 807 = .ok (.iadd, 1) := by decide +kernel
theorem d_L_808 : decode code 808 = .ok (.iaload, 1) := by decide +kernel
theorem d_L_809 : decode code 809 = .ok (.invokevirtual 81, 3) := by decide +kernel
theorem d_L_812 : decode code 812 = .ok (.pop, 1) := by decide +kernel
theorem d_L_813 : decode code 813 = .ok (.aload_n 2, 1) := by decide +kernel
theorem d_L_814 : decode code 814 = .ok (.aload_n 0, 1) := by decide +kernel
theorem d_L_815 : decode code 815 = .ok (.iload 4, 2) := by decide +kernel
theorem d_L_817 : decode code 817 = .ok (.iconst 1, 1) := by decide +kernel
theorem d_L_818 : decode code 818 = .ok (.iadd, 1) := by decide +kernel
theorem d_L_819 : decode code 819 = .ok (.iaload, 1) := by decide +kernel
theorem d_L_820 : decode code 820 = .ok (.aload_n 0, 1) := by decide +kernel
theorem d_L_821 : decode code 821 = .ok (.iload 4, 2) := by decide +kernel
theorem d_L_823 : decode code 823 = .ok (.iconst 2, 1) := by decide +kernel
theorem d_L_824 : decode code 824 = .ok (.iadd, 1) := by decide +kernel
theorem d_L_825 : decode code 825 = .ok (.iaload, 1) := by decide +kernel
theorem d_L_826 : decode code 826 = .ok (.invokevirtual 84, 3) := by decide +kernel
theorem d_L_829 : decode code 829 = .ok (.pop, 1) := by decide +kernel
theorem d_L_830 : decode code 830 = .ok (.goto 1576, 3) := by decide +kernel
theorem d_L_833 : decode code 833 = .ok (.aload_n 1, 1) := by decide +kernel
theorem d_L_834 : decode code 834 = .ok (.aload_n 0, 1) := by decide +kernel
theorem d_L_835 : decode code 835 = .ok (.iload 4, 2) := by decide +kernel
theorem d_L_837 : decode code 837 = .ok (.iconst 1, 1) := by decide +kernel
theorem d_L_838 : decode code 838 = .ok (.iadd, 1) := by decide +kernel
theorem d_L_839 : decode code 839 = .ok (.iaload, 1) := by decide +kernel
theorem d_L_840 : decode code 840 = .ok (.aload_n 0, 1) := by decide +kernel
theorem d_L_841 : decode code 841 = .ok (.iload 4, 2) := by decide +kernel
theorem d_L_843 : decode code 843 = .ok (.iconst 2, 1) := by decide +kernel
theorem d_L_844 : decode code 844 = .ok (.iadd, 1) := by decide +kernel
theorem d_L_845 : decode code 845 = .ok (.iaload, 1) := by decide +kernel
theorem d_L_846 : decode code 846 = .ok (.aload_n 0, 1) := by decide +kernel
theorem d_L_847 : decode code 847 = .ok (.iload 4, 2) := by decide +kernel
theorem d_L_849 : decode code 849 = .ok (.iconst 3, 1) := by decide +kernel
theorem d_L_850 : decode code 850 = .ok (.iadd, 1) := by decide +kernel
theorem d_L_851 : decode code 851 = .ok (.iaload, 1) := by decide +kernel
theorem d_L_852 : decode code 852 = .ok (.invokevirtual 85, 3) := by decide +kernel
theorem d_L_855 : decode code 855 = .ok (.pop, 1) := by decide +kernel
theorem d_L_856 : decode code 856 = .ok (.aload_n 2, 1) := by decide +kernel
theorem d_L_857 : decode code 857 = .ok (.aload_n 0, 1) := by decide +kernel
theorem d_L_858 : decode code 858 = .ok (.iload 4, 2) := by decide +kernel
theorem d_L_860 : decode code 860 = .ok (.iconst 1, 1) := by decide +kernel
theorem d_L_861 : decode code 861 = .ok (.iadd, 1) := by decide +kernel
theorem d_L_862 : decode code 862 = .ok (.iaload, 1) := by decide +kernel
theorem d_L_863 : decode code 863 = .ok (.aload_n 0, 1) := by decide +kernel
theorem d_L_864 : decode code 864 = .ok (.iload 4, 2) := by decide +kernel
theorem d_L_866 : decode code 866 = .ok (.iconst 2, 1) := by decide +kernel
theorem d_L_867 : decode code 867 = .ok (.iadd, 1) := by decide +kernel
theorem d_L_868 : decode code 868 = .ok (.iaload, 1) := by decide +kernel
theorem d_L_869 : decode code 869 = .ok (.aload_n 0, 1) := by decide +kernel
theorem d_L_870 : decode code 870 = .ok (.iload 4, 2) := by decide +kernel
theorem d_L_872 : decode code 872 = .ok (.iconst 3, 1) := by decide +kernel
theorem d_L_873 : decode code 873 = .ok (.iadd, 1) := by decide +kernel
theorem d_L_874 : decode code 874 = .ok (.iaload, 1) := by decide +kernel
theorem d_L_875 : decode code 875 = .ok (.invokevirtual 88, 3) := by decide +kernel
theorem d_L_878 : decode code 878 = .ok (.pop, 1) := by decide +kernel
theorem d_L_879 : decode code 879 = .ok (.goto 1527, 3) := by decide +kernel
theorem d_L_882 : decode code 882 = .ok (.aload_n 1, 1) := by decide +kernel
theorem d_L_883 : decode code 883 = .ok (.aload_n 0, 1) := by decide +kernel
theorem d_L_884 : decode code 884 = .ok (.iload 4, 2) := by decide +kernel
theorem d_L_886 : decode code 886 = .ok (.iconst 1, 1) := by decide +kernel
theorem d_L_887 : decode code 887 = .ok (.iadd, 1) := by decide +kernel
theorem d_L_888 : decode code 888 = .ok (.iaload, 1) := by decide +kernel
theorem d_L_889 : decode code 889 = .ok (.aload_n 0, 1) := by decide +kernel
theorem d_L_890 : decode code 890 = .ok (.iload 4, 2) := by decide +kernel
theorem d_L_892 : decode code 892 = .ok (.iconst 2, 1) := by decide +kernel
theorem d_L_893 : decode code 893 = .ok (.iadd, 1) := by decide +kernel
theorem d_L_894 : decode code 894 = .ok (.iaload, 1) := by decide +kernel
theorem d_L_895 : decode code 895 = .ok (.invokevirtual 89, 3) := by decide +kernel
theorem d_L_898 : decode code 898 = .ok (.pop, 1) := by decide +kernel
theorem d_L_899 : decode code 899 = .ok (.aload_n 2, 1) := by decide +kernel
theorem d_L_900 : decode code 900 = .ok (.aload_n 0, 1) := by decide +kernel
theorem d_L_901 : decode code 901 = .ok (.iload 4, 2) := by decide +kernel
theorem d_L_903 : decode code 903 = .ok (.iconst 1, 1) := by decide +kernel
theorem d_L_904 : decode code 904 = .ok (.iadd, 1) := by decide +kernel
theorem d_L_905 : decode code 905 = .ok (.iaload, 1) := by decide +kernel
theorem d_L_906 : decode code 906 = .ok (.aload_n 0, 1) := by decide +kernel
theorem d_L_907 : decode code 907 = .ok (.iload 4, 2) := by decide +kernel
theorem d_L_909 : decode code 909 = .ok (.iconst 2, 1) := by decide +kernel
theorem d_L_910 : decode code 910 = .ok (.iadd, 1) := by decide +kernel
theorem d_L_911 : decode code 911 = .ok (.iaload, 1) := by decide +kernel
theorem d_L_912 : decode code 912 = .ok (.invokevirtual 92, 3) := by decide +kernel
theorem d_L_915 : decode code 915 = .ok (.pop, 1) := by decide +kernel
theorem d_L_916 : decode code 916 = .ok (.goto 1490, 3) := by decide +kernel
theorem d_L_919 : decode code 919 = .ok (.aload_n 1, 1) := by decide +kernel
theorem d_L_920 : decode code 920 = .ok (.aload_n 0, 1) := by decide +kernel
theorem d_L_921 : decode code 921 = .ok (.iload 4, 2) := by decide +kernel
theorem d_L_923 : decode code 923 = .ok (.iconst 1, 1) := by decide +kernel
theorem d_L_924 : decode code 924 = .ok (.iadd, 1) := by decide +kernel
theorem d_L_925 : decode code 925 = .ok (.iaload, 1) := by decide +kernel
theorem d_L_926 : decode code 926 = .ok (.aload_n 0, 1) := by decide +kernel
theorem d_L_927 : decode code 927 = .ok (.iload 4, 2) := by decide +kernel
theorem d_L_929 : decode code 929 = .ok (.iconst 2, 1) := by decide +kernel
theorem d_L_930 : decode code 930 = .ok (.iadd, 1) := by decide +kernel
theorem d_L_931 : decode code 931 = .ok (.iaload, 1) := by decide +kernel
theorem d_L_932 : decode code 932 = .ok (.invokevirtual 93, 3) := by decide +kernel
theorem d_L_935 : decode code 935 = .ok (.pop, 1) := by decide +kernel
theorem d_L_936 : decode code 936 = .ok (.aload_n 2, 1) := by decide +kernel
theorem d_L_937 : decode code 937 = .ok (.aload_n 0, 1) := by decide +kernel
theorem d_L_938 : decode code 938 = .ok (.iload 4, 2) := by decide +kernel
theorem d_L_940 : decode code 940 = .ok (.iconst 1, 1) := by decide +kernel
theorem d_L_941 : decode code 941 = .ok (.iadd, 1) := by decide +kernel
theorem d_L_942 : decode code 942 = .ok (.iaload, 1) := by decide +kernel
theorem d_L_943 : decode code 943 = .ok (.aload_n 0, 1) := by decide +kernel
theorem d_L_944 : decode code 944 = .ok (.iload 4, 2) := by decide +kernel
theorem d_L_946 : decode code 946 = .ok (.iconst 2, 1) := by decide +kernel
theorem d_L_947 : decode code 947 = .ok (.iadd, 1) := by decide +kernel
theorem d_L_948 : decode code 948 = .ok (.iaload, 1) := by decide +kernel
theorem d_L_949 : decode code 949 = .ok (.invokevirtual 96, 3) := by decide +kernel
theorem d_L_952 : decode code 952 = .ok (.pop, 1) := by decide +kernel
theorem d_L_953 : decode code 953 = .ok (.goto 1453, 3) := by decide +kernel
theorem d_L_956 : decode code 956 = .ok (.aload_n 1, 1) := by decide +kernel
theorem d_L_957 : decode code 957 = .ok (.aload_n 0, 1) := by decide +kernel
theorem d_L_958 : decode code 958 = .ok (.iload 4, 2) := by decide +kernel
theorem d_L_960 : decode code 960 = .ok (.iconst 1, 1) := by decide +kernel
theorem d_L_961 : decode code 961 = .ok (.iadd, 1) := by decide +kernel
theorem d_L_962 : decode code 962 = .ok (.iaload, 1) := by decide +kernel
theorem d_L_963 : decode code 963 = .ok (.aload_n 0, 1) := by decide +kernel
theorem d_L_964 : decode code 964 = .ok (.iload 4, 2) := by decide +kernel
theorem d_L_966 : decode code 966 = .ok (.iconst 2, 1) := by decide +kernel
theorem d_L_967 : decode code 967 = .ok (.iadd, 1) := by decide +kernel
theorem d_L_968 : decode code 968 = .ok (.iaload, 1) := by decide +kernel
theorem d_L_969 : decode code 969 = .ok (.aload_n 0, 1) := by decide +kernel
theorem d_L_970 : decode code 970 = .ok (.iload 4, 2) := by decide +kernel
theorem d_L_972 : decode code 972 = .ok (.iconst 3, 1) := by decide +kernel
theorem d_L_973 : decode code 973 = .ok (.iadd, 1) := by decide +kernel
theorem d_L_974 : decode code 974 = .ok (.iaload, 1) := by decide +kernel
theorem d_L_975 : decode code 975 = .ok (.aload_n 0, 1) := by decide +kernel
theorem d_L_976 : decode code 976 = .ok (.iload 4, 2) := by decide +kernel
theorem d_L_978 : decode code 978 = .ok (.iconst 4, 1) := by decide +kernel
theorem d_L_979 : decode code 979 = .ok (.iadd, 1) := by decide +kernel
theorem d_L_980 : decode code 980 = .ok (.iaload, 1) := by decide +kernel
theorem d_L_981 : decode code 981 = .ok (.aload_n 0, 1) := by decide +kernel
theorem d_L_982 : decode code 982 = .ok (.iload 4, 2) := by decide +kernel
theorem d_L_984 : decode code 984 = .ok (.iconst 5, 1) := by decide +kernel
theorem d_L_985 : decode code 985 = .ok (.iadd, 1) := by decide +kernel
theorem d_L_986 : decode code 986 = .ok (.iaload, 1) := by decide +kernel
theorem d_L_987 : decode code 987 = .ok (.invokevirtual 97, 3) := by decide +kernel
theorem d_L_990 : decode code 990 = .ok (.pop, 1) := by decide +kernel
theorem d_L_991 : decode code 991 = .ok (.aload_n 2, 1) := by decide +kernel
theorem d_L_992 : decode code 992 = .ok (.aload_n 0, 1) := by decide +kernel
theorem d_L_993 : decode code 993 = .ok (.iload 4, 2) := by decide +kernel
theorem d_L_995 : decode code 995 = .ok (.iconst 1, 1) := by decide +kernel
theorem d_L_996 : decode code 996 = .ok (.iadd, 1) := by decide +kernel
theorem d_L_997 : decode code 997 = .ok (.iaload, 1) := by decide +kernel
theorem d_L_998 : decode code 998 = .ok (.aload_n 0, 1) := by decide +kernel
theorem d_L_999 : decode code 999 = .ok (.iload 4, 2) := by decide +kernel
theorem d_L_1001 : decode code 1001 = .ok (.iconst 2, 1) := by decide +kernel
theorem d_L_1002 : decode code 1002 = .ok (.iadd, 1) := by decide +kernel
theorem d_L_1003 : decode code 1003 = .ok (.iaload, 1) := by decide +kernel
theorem d_L_1004 : decode code 1004 = .ok (.aload_n 0, 1) := by decide +kernel
theorem d_L_1005 : decode code 1005 = .ok (.iload 4, 2) := by decide +kernel
theorem d_L_1007 : decode code 1007 = .ok (.iconst 3, 1) := by decide +kernel
theorem d_L_1008 : decode code 1008 = .ok (.iadd, 1) := by decide +kernel
theorem d_L_1009 : decode code 1009 = .ok (.iaload, 1) := by decide +kernel
theorem d_L_1010 : decode code 1010 = .ok (.aload_n 0, 1) := by decide +kernel
theorem d_L_1011 : decode code 1011 = .ok (.iload 4, 2) := by decide +kernel
theorem d_L_1013 : decode code 1013 = .ok (.iconst 4, 1) := by decide +kernel
theorem d_L_1014 : decode code 1014 = .ok (.iadd, 1) := by decide +kernel
theorem d_L_1015 : decode code 1015 = .ok (.iaload, 1) := by decide +kernel
theorem d_L_1016 : decode code 1016 = .ok (.aload_n 0, 1) := by decide +kernel
theorem d_L_1017 : decode code 1017 = .ok (.iload 4, 2) := by decide +kernel
theorem d_L_1019 : decode code 1019 = .ok (.iconst 5, 1) := by decide +kernel
theorem d_L_1020 : decode code 1020 = .ok (.iadd, 1) := by decide +kernel
theorem d_L_1021 : decode code 1021 = .ok (.iaload, 1) := by decide +kernel
theorem d_L_1022 : decode code 1022 = .ok (.invokevirtual 100, 3) := by decide +kernel
theorem d_L_1025 : decode code 1025 = .ok (.pop, 1) := by decide +kernel
theorem d_L_1026 : decode code 1026 = .ok (.goto 1380, 3) := by decide +kernel
theorem d_L_1029 : decode code 1029 = .ok (.aload_n 1, 1) := by decide +kernel
theorem d_L_1030 : decode code 1030 = .ok (.aload_n 0, 1) := by decide +kernel
theorem d_L_1031 : decode code 1031 = .ok (.iload 4, 2) := by decide +kernel
theorem d_L_1033 : decode code 1033 = .ok (.iconst 1, 1) := by decide +kernel
theorem d_L_1034 : decode code 1034 = .ok (.iadd, 1) := by decide +kernel
theorem d_L_1035 : decode code 1035 = .ok (.iaload, 1) := by decide +kernel
theorem d_L_1036 : decode code 1036 = .ok (.invokevirtual 101, 3) := by decide +kernel
theorem d_L_1039 : decode code 1039 = .ok (.pop, 1) := by decide +kernel
theorem d_L_1040 : decode code 1040 = .ok (.aload_n 2, 1) := by decide +kernel
theorem d_L_1041 : decode code 1041 = .ok (.aload_n 0, 1) := by decide +kernel
theorem d_L_1042 : decode code 1042 = .ok (.iload 4, 2) := by decide +kernel
theorem d_L_1044 : decode code 1044 = .ok (.iconst 1, 1) := by decide +kernel
theorem d_L_1045 : decode code 1045 = .ok (.iadd, 1) := by decide +kernel
theorem d_L_1046 : decode code 1046 = .ok (.iaload, 1) := by decide +kernel
theorem d_L_1047 : decode code 1047 = .ok (.invokevirtual 104, 3) := by decide +kernel
theorem d_L_1050 : decode code 1050 = .ok (.pop, 1) := by decide +kernel
theorem d_L_1051 : decode code 1051 = .ok (.goto 1355, 3) := by decide +kernel
theorem d_L_1054 : decode code 1054 = .ok (.aload_n 1, 1) := by decide +kernel
theorem d_L_1055 : decode code 1055 = .ok (.aload_n 0, 1) := by decide +kernel
theorem d_L_1056 : decode code 1056 = .ok (.iload 4, 2) := by decide +kernel
theorem d_L_1058 : decode code 1058 = .ok (.iconst 1, 1) := by decide +kernel
theorem d_L_1059 : decode code 1059 = .ok (.iadd, 1) := by decide +kernel
theorem d_L_1060 : decode code 1060 = .ok (.iaload, 1) := by decide +kernel
theorem d_L_1061 : decode code 1061 = .ok (.aload_n 0, 1) := by decide +kernel
theorem d_L_1062 : decode code 1062 = .ok (.iload 4, 2) := by decide +kernel
theorem d_L_1064 : decode code 1064 = .ok (.iconst 2, 1) := by decide +kernel
theorem d_L_1065 : decode code 1065 = .ok (.iadd, 1) := by decide +kernel
theorem d_L_1066 : decode code 1066 = .ok (.iaload, 1) := by decide +kernel
theorem d_L_1067 : decode code 1067 = .ok (.invokevirtual 105, 3) := by decide +kernel
theorem d_L_1070 : decode code 1070 = .ok (.pop, 1) := by decide +kernel
theorem d_L_1071 : decode code 1071 = .ok (.aload_n 2, 1) := by decide +kernel
theorem d_L_1072 : decode code 1072 = .ok (.aload_n 0, 1) := by decide +kernel
theorem d_L_1073 : decode code 1073 = .ok (.iload 4, 2) := by decide +kernel
theorem d_L_1075 : decode code 1075 = .ok (.iconst 1, 1) := by decide +kernel
theorem d_L_1076 : decode code 1076 = .ok (.iadd, 1) := by decide +kernel
theorem d_L_1077 : decode code 1077 = .ok (.iaload, 1) := by decide +kernel
theorem d_L_1078 : decode code 1078 = .ok (.aload_n 0, 1) := by decide +kernel
theorem d_L_1079 : decode code 1079 = .ok (.iload 4, 2) := by decide +kernel
theorem d_L_1081 : decode code 1081 = .ok (.iconst 2, 1) := by decide +kernel
theorem d_L_1082 : decode code 1082 = .ok (.iadd, 1) := by decide +kernel
theorem d_L_1083 : decode code 1083 = .ok (.iaload, 1) := by decide +kernel
theorem d_L_1084 : decode code 1084 = .ok (.invokevirtual 108, 3) := by decide +kernel
theorem d_L_1087 : decode code 1087 = .ok (.pop, 1) := by decide +kernel
theorem d_L_1088 : decode code 1088 = .ok (.goto 1318, 3) := by decide +kernel
theorem d_L_1091 : decode code 1091 = .ok (.aload_n 1, 1) := by decide +kernel
theorem d_L_1092 : decode code 1092 = .ok (.aload_n 0, 1) := by decide +kernel
theorem d_L_1093 : decode code 1093 = .ok (.iload 4, 2) := by decide +kernel
theorem d_L_1095 : decode code 1095 = .ok (.iconst 1, 1) := by decide +kernel
theorem d_L_1096 : decode code 1096 = .ok (.iadd, 1) := by decide +kernel
theorem d_L_1097 : decode code 1097 = .ok (.iaload, 1) := by decide +kernel
theorem d_L_1098 : decode code 1098 = .ok (.aload_n 0, 1) := by decide +kernel
theorem d_L_1099 : decode code 1099 = .ok (.iload 4, 2) := by decide +kernel
theorem d_L_1101 : decode code 1101 = .ok (.iconst 2, 1) := by decide +kernel
theorem d_L_1102 : decode code 1102 = .ok (.iadd, 1) := by decide +kernel
theorem d_L_1103 : decode code 1103 = .ok (.iaload, 1) := by decide +kernel
theorem d_L_1104 : decode code 1104 = .ok (.invokevirtual 109, 3) := by decide +kernel
theorem d_L_1107 : decode code 1107 = .ok (.pop, 1) := by decide +kernel
theorem d_L_1108 : decode code 1108 = .ok (.aload_n 2, 1) := by decide +kernel
theorem d_L_1109 : decode code 1109 = .ok (.aload_n 0, 1) := by decide +kernel
theorem d_L_1110 : decode code 1110 = .ok (.iload 4, 2) := by decide +kernel
theorem d_L_1112 : decode code 1112 = .ok (.iconst 1, 1) := by decide +kernel
theorem d_L_1113 : decode code 1113 = .ok (.iadd, 1) := by decide +kernel
theorem d_L_1114 : decode code 1114 = .ok (.iaload, 1) := by decide +kernel
theorem d_L_1115 : decode code 1115 = .ok (.aload_n 0, 1) := by decide +kernel
theorem d_L_1116 : decode code 1116 = .ok (.iload 4, 2) := by decide +kernel
theorem d_L_1118 : decode code 1118 = .ok (.iconst 2, 1) := by decide +kernel
theorem d_L_1119 : decode code 1119 = .ok (.iadd, 1) := by decide +kernel
theorem d_L_1120 : decode code 1120 = .ok (.iaload, 1) := by decide +kernel
theorem d_L_1121 : decode code 1121 = .ok (.invokevirtual 112, 3) := by decide +kernel
theorem d_L_1124 : decode code 1124 = .ok (.pop, 1) := by decide +kernel
theorem d_L_1125 : decode code 1125 = .ok (.goto 1281, 3) := by decide +kernel
theorem d_L_1128 : decode code 1128 = .ok (.aload_n 1, 1) := by decide +kernel
theorem d_L_1129 : decode code 1129 = .ok (.aload_n 0, 1) := by decide +kernel
theorem d_L_1130 : decode code 1130 = .ok (.iload 4, 2) := by decide +kernel
theorem d_L_1132 : decode code 1132 = .ok (.iconst 1, 1) := by decide +kernel
theorem d_L_1133 : decode code 1133 = .ok (.iadd, 1) := by decide +kernel
theorem d_L_1134 : decode code 1134 = .ok (.iaload, 1) := by decide +kernel
theorem d_L_1135 : decode code 1135 = .ok (.aload_n 0, 1) := by decide +kernel
theorem d_L_1136 : decode code 1136 = .ok (.iload 4, 2) := by decide +kernel
theorem d_L_1138 : decode code 1138 = .ok (.iconst 2, 1) := by decide +kernel
theorem d_L_1139 : decode code 1139 = .ok (.iadd, 1) := by decide +kernel
theorem d_L_1140 : decode code 1140 = .ok (.iaload, 1) := by decide +kernel
theorem d_L_1141 : decode code 1141 = .ok (.invokevirtual 113, 3) := by decide +kernel
theorem d_L_1144 : decode code 1144 = .ok (.pop, 1) := by decide +kernel
theorem d_L_1145 : decode code 1145 = .ok (.aload_n 2, 1) := by decide +kernel
theorem d_L_1146 : decode code 1146 = .ok (.aload_n 0, 1) := by decide +kernel
theorem d_L_1147 : decode code 1147 = .ok (.iload 4, 2) := by decide +kernel
theorem d_L_1149 : decode code 1149 = .ok (.iconst 1, 1) := by decide +kernel
theorem d_L_1150 : decode code 1150 = .ok (.iadd, 1) := by decide +kernel
theorem d_L_1151 : decode code 1151 = .ok (.iaload, 1) := by decide +kernel
theorem d_L_1152 : decode code 1152 = .ok (.aload_n 0, 1) := by decide +kernel
theorem d_L_1153 : decode code 1153 = .ok (.iload 4, 2) := by decide +kernel
theorem d_L_1155 : decode code 1155 = .ok (.iconst 2, 1) := by decide +kernel
theorem d_L_1156 : decode code 1156 = .ok (.iadd, 1) := by decide +kernel
theorem d_L_1157 : decode code 1157 = .ok (.iaload, 1) := by decide +kernel
theorem d_L_1158 : decode code 1158 = .ok (.invokevirtual 116, 3) := by decide +kernel
theorem d_L_1161 : decode code 1161 = .ok (.pop, 1) := by decide +kernel
theorem d_L_1162 : decode code 1162 = .ok (.goto 1244, 3) := by decide +kernel
theorem d_L_1165 : decode code 1165 = .ok (.aload_n 1, 1) := by decide +kernel
theorem d_L_1166 : decode code 1166 = .ok (.aload_n 0, 1) := by decide +kernel
theorem d_L_1167 : decode code 1167 = .ok (.iload 4, 2) := by decide +kernel
theorem d_L_1169 : decode code 1169 = .ok (.iconst 1, 1) := by decide +kernel
theorem d_L_1170 : decode code 1170 = .ok (.iadd, 1) := by decide +kernel
theorem d_L_1171 : decode code 1171 = .ok (.iaload, 1) := by decide +kernel
theorem d_L_1172 : decode code 1172 = .ok (.invokevirtual 117, 3) := by decide +kernel
theorem d_L_1175 : decode code 1175 = .ok (.pop, 1) := by decide +kernel
theorem d_L_1176 : decode code 1176 = .ok (.aload_n 2, 1) := by decide +kernel
theorem d_L_1177 : decode code 1177 = .ok (.aload_n 0, 1) := by decide +kernel
theorem d_L_1178 : decode code 1178 = .ok (.iload 4, 2) := by decide +kernel
theorem d_L_1180 : decode code 1180 = .ok (.iconst 1, 1) := by decide +kernel
theorem d_L_1181 : decode code 1181 = .ok (.iadd, 1) := by decide +kernel
theorem d_L_1182 : decode code 1182 = .ok (.iaload, 1) := by decide +kernel
theorem d_L_1183 : decode code 1183 = .ok (.invokevirtual 120, 3) := by decide +kernel
theorem d_L_1186 : decode code 1186 = .ok (.pop, 1) := by decide +kernel
theorem d_L_1187 : decode code 1187 = .ok (.goto 1219, 3) := by decide +kernel
theorem d_L_1190 : decode code 1190 = .ok (.aload_n 1, 1) := by decide +kernel
theorem d_L_1191 : decode code 1191 = .ok (.aload_n 0, 1) := by decide +kernel
theorem d_L_1192 : decode code 1192 = .ok (.iload 4, 2) := by decide +kernel
theorem d_L_1194 : decode code 1194 = .ok (.iconst 1, 1) := by decide +kernel
theorem d_L_1195 : decode code 1195 = .ok (.iadd, 1) := by decide +kernel
theorem d_L_1196 : decode code 1196 = .ok (.iaload, 1) := by decide +kernel
theorem d_L_1197 : decode code 1197 = .ok (.invokevirtual 121, 3) := by decide +kernel
theorem d_L_1200 : decode code 1200 = .ok (.pop, 1) := by decide +kernel
theorem d_L_1201 : decode code 1201 = .ok (.aload_n 2, 1) := by decide +kernel
theorem d_L_1202 : decode code 1202 = .ok (.aload_n 0, 1) := by decide +kernel
theorem d_L_1203 : decode code 1203 = .ok (.iload 4, 2) := by decide +kernel
theorem d_L_1205 : decode code 1205 = .ok (.iconst 1, 1) := by decide +kernel
theorem d_L_1206 : decode code 1206 = .ok (.iadd, 1) := by decide +kernel
theorem d_L_1207 : decode code 1207 = .ok (.iaload, 1) := by decide +kernel
theorem d_L_1208 : decode code 1208 = .ok (.invokevirtual 124, 3) := by decide +kernel
theorem d_L_1211 : decode code 1211 = .ok (.pop, 1) := by decide +kernel
theorem d_L_1212 : decode code 1212 = .ok (.goto 1194, 3) := by decide +kernel
theorem d_L_1215 : decode code 1215 = .ok (.aload_n 1, 1) := by decide +kernel
theorem d_L_1216 : decode code 1216 = .ok (.aload_n 0, 1) := by decide +kernel
theorem d_L_1217 : decode code 1217 = .ok (.iload 4, 2) := by decide +kernel
theorem d_L_1219 : decode code 1219 = .ok (.iconst 1, 1) := by decide +kernel
theorem d_L_1220 : decode code 1220 = .ok (.iadd, 1) := by decide +kernel
theorem d_L_1221 : decode code 1221 = .ok (.iaload, 1) := by decide +kernel
theorem d_L_1222 : decode code 1222 = .ok (.aload_n 0, 1) := by decide +kernel
theorem d_L_1223 : decode code 1223 = .ok (.iload 4, 2) := by decide +kernel
theorem d_L_1225 : decode code 1225 = .ok (.iconst 2, 1) := by decide +kernel
theorem d_L_1226 : decode code 1226 = .ok (.iadd, 1) := by decide +kernel
theorem d_L_1227 : decode code 1227 = .ok (.iaload, 1) := by decide +kernel
theorem d_L_1228 : decode code 1228 = .ok (.invokevirtual 125, 3) := by decide +kernel
theorem d_L_1231 : decode code 1231 = .ok (.pop, 1) := by decide +kernel
theorem d_L_1232 : decode code 1232 = .ok (.aload_n 2, 1) := by decide +kernel
theorem d_L_1233 : decode code 1233 = .ok (.aload_n 0, 1) := by decide +kernel
theorem d_L_1234 : decode code 1234 = .ok (.iload 4, 2) := by decide +kernel
theorem d_L_1236 : decode code 1236 = .ok (.iconst 1, 1) := by decide +kernel
theorem d_L_1237 : decode code 1237 = .ok (.iadd, 1) := by decide +kernel
theorem d_L_1238 : decode code 1238 = .ok (.iaload, 1) := by decide +kernel
theorem d_L_1239 : decode code 1239 = .ok (.aload_n 0, 1) := by decide +kernel
theorem d_L_1240 : decode code 1240 = .ok (.iload 4, 2) := by decide +kernel
theorem d_L_1242 : decode code 1242 = .ok (.iconst 2, 1) := by decide +kernel
theorem d_L_1243 : decode code 1243 = .ok (.iadd, 1) := by decide +kernel
theorem d_L_1244 : decode code 1244 = .ok (.iaload, 1) := by decide +kernel
theorem d_L_1245 : decode code 1245 = .ok (.invokevirtual 128, 3) := by decide +kernel
theorem d_L_1248 : decode code 1248 = .ok (.pop, 1) := by decide +kernel
theorem d_L_1249 : decode code 1249 = .ok (.goto 1157, 3) := by decide +kernel
theorem d_L_1252 : decode code 1252 = .ok (.aload_n 1, 1) := by decide +kernel
theorem d_L_1253 : decode code 1253 = .ok (.aload_n 0, 1) := by decide +kernel
theorem d_L_1254 : decode code 1254 = .ok (.iload 4, 2) := by decide +kernel
theorem d_L_1256 : decode code 1256 = .ok (.iconst 1, 1) := by decide +kernel
theorem d_L_1257 : decode code 1257 = .ok (.iadd, 1) := by decide +kernel
theorem d_L_1258 : decode code 1258 = .ok (.iaload, 1) := by decide +kernel
theorem d_L_1259 : decode code 1259 = .ok (.aload_n 0, 1) := by decide +kernel
theorem d_L_1260 : decode code 1260 = .ok (.iload 4, 2) := by decide +kernel
theorem d_L_1262 : decode code 1262 = .ok (.iconst 2, 1) := by decide +kernel
theorem d_L_1263 : decode code 1263 = .ok (.iadd, 1) := by decide +kernel
theorem d_L_1264 : decode code 1264 = .ok (.iaload, 1) := by decide +kernel
theorem d_L_1265 : decode code 1265 = .ok (.invokevirtual 129, 3) := by decide +kernel
theorem d_L_1268 : decode code 1268 = .ok (.pop, 1) := by decide +kernel
theorem d_L_1269 : decode code 1269 = .ok (.aload_n 2, 1) := by decide +kernel
theorem d_L_1270 : decode code 1270 = .ok (.aload_n 0, 1) := by decide +kernel
theorem d_L_1271 : decode code 1271 = .ok (.iload 4, 2) := by decide +kernel
theorem d_L_1273 : decode code 1273 = .ok (.iconst 1, 1) := by decide +kernel
theorem d_L_1274 : decode code 1274 = .ok (.iadd, 1) := by decide +kernel
theorem d_L_1275 : decode code 1275 = .ok (.iaload, 1) := by decide +kernel
theorem d_L_1276 : decode code 1276 = .ok (.aload_n 0, 1) := by decide +kernel
theorem d_L_1277 : decode code 1277 = .ok (.iload 4, 2) := by decide +kernel
theorem d_L_1279 : decode code 1279 = .ok (.iconst 2, 1) := by decide +kernel
theorem d_L_1280 : decode code 1280 = .ok (.iadd, 1) := by decide +kernel
theorem d_L_1281 : decode code 1281 = .ok (.iaload, 1) := by decide +kernel
theorem d_L_1282 : decode code 1282 = .ok (.invokevirtual 132, 3) := by decide +kernel
theorem d_L_1285 : decode code 1285 = .ok (.pop, 1) := by decide +kernel
theorem d_L_1286 : decode code 1286 = .ok (.goto 1120, 3) := by decide +kernel
theorem d_L_1289 : decode code 1289 = .ok (.aload_n 1, 1) := by decide +kernel
theorem d_L_1290 : decode code 1290 = .ok (.aload_n 0, 1) := by decide +kernel
theorem d_L_1291 : decode code 1291 = .ok (.iload 4, 2) := by decide +kernel
theorem d_L_1293 : decode code 1293 = .ok (.iconst 1, 1) := by decide +kernel
theorem d_L_1294 : decode code 1294 = .ok (.iadd, 1) := by decide +kernel
theorem d_L_1295 : decode code 1295 = .ok (.iaload, 1) := by decide +kernel
theorem d_L_1296 : decode code 1296 = .ok (.aload_n 0, 1) := by decide +kernel
theorem d_L_1297 : decode code 1297 = .ok (.iload 4, 2) := by decide +kernel
theorem d_L_1299 : decode code 1299 = .ok (.iconst 2, 1) := by decide +kernel
theorem d_L_1300 : decode code 1300 = .ok (.iadd, 1) := by decide +kernel
theorem d_L_1301 : decode code 1301 = .ok (.iaload, 1) := by decide +kernel
theorem d_L_1302 : decode code 1302 = .ok (.aload_n 0, 1) := by decide +kernel
theorem d_L_1303 : decode code 1303 = .ok (.iload 4, 2) := by decide +kernel
theorem d_L_1305 : decode code 1305 = .ok (.iconst 3, 1) := by decide +kernel
theorem d_L_1306 : decode code 1306 = .ok (.iadd, 1) := by decide +kernel
theorem d_L_1307 : decode code 1307 = .ok (.iaload, 1) := by decide +kernel
theorem d_L_1308 : decode code 1308 = .ok (.aload_n 0, 1) := by decide +kernel
theorem d_L_1309 : decode code 1309 = .ok (.iload 4, 2) := by decide +kernel
theorem d_L_1311 : decode code 1311 = .ok (.iconst 4, 1) := by decide +kernel
theorem d_L_1312 : decode code 1312 = .ok (.iadd, 1) := by decide +kernel
theorem d_L_1313 : decode code 1313 = .ok (.iaload, 1) := by decide +kernel
theorem d_L_1314 : decode code 1314 = .ok (.ifCond .eq 7, 3) := by decide +kernel
theorem d_L_1317 : decode code 1317 = .ok (.iconst 1, 1) := by decide +kernel
theorem d_L_1318 : decode code 1318 = .ok (.goto 4, 3) := by decide +kernel
