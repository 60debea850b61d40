theorem dX9_init_817 : decode cX9_init 817 = .ok (.iconst 1, 1) := by decide +kernel
theorem dX9_init_818 : decode cX9_init 818 = .ok (.bipush 111, 2) := by decide +kernel
theorem dX9_init_820 : decode cX9_init 820 = .ok (.castore, 1) := by decide +kernel
theorem dX9_init_821 : decode cX9_init 821 = .ok (.dup, 1) := by decide +kernel
theorem dX9_init_822 : decode cX9_init 822 = .ok (.iconst 2, 1) := by decide +kernel
theorem dX9_init_823 : decode cX9_init 823 = .ok (.bipush 115, 2) := by decide +kernel
theorem dX9_init_825 : decode cX9_init 825 = .ok (.castore, 1) := by decide +kernel
theorem dX9_init_826 : decode cX9_init 826 = .ok (.dup, 1) := by decide +kernel
theorem dX9_init_827 : decode cX9_init 827 = .ok (.iconst 3, 1) := by decide +kernel
theorem dX9_init_828 : decode cX9_init 828 = .ok (.bipush 116, 2) := by decide +kernel
theorem dX9_init_830 : decode cX9_init 830 = .ok (.castore, 1) := by decide +kernel
theorem dX9_init_831 : decode cX9_init 831 = .ok (.putfield 96, 3) := by decide +kernel
theorem dX9_init_834 : decode cX9_init 834 = .ok (.aload_n 0, 1) := by decide +kernel
theorem dX9_init_835 : decode cX9_init 835 = .ok (.iconst 4, 1) := by decide +kernel
theorem dX9_init_836 : decode cX9_init 836 = .ok (.newarray .char, 2) := by decide +kernel
theorem dX9_init_838 : decode cX9_init 838 = .ok (.dup, 1) := by decide +kernel
theorem dX9_init_839 : decode cX9_init 839 = .ok (.iconst 0, 1) := by decide +kernel
theorem dX9_init_840 : decode cX9_init 840 = .ok (.bipush 109, 2) := by decide +kernel
theorem dX9_init_842 : decode cX9_init 842 = .ok (.castore, 1) := by decide +kernel
theorem dX9_init_843 : decode cX9_init 843 = .ok (.dup, 1) := by decide +kernel
theorem dX9_init_844 : decode cX9_init 844 = .ok (.iconst 1, 1) := by decide +kernel
theorem dX9_init_845 : decode cX9_init 845 = .ok (.bipush 101, 2) := by decide +kernel
theorem dX9_init_847 : decode cX9_init 847 = .ok (.castore, 1) := by decide +kernel
theorem dX9_init_848 : decode cX9_init 848 = .ok (.dup, 1) := by decide +kernel
theorem dX9_init_849 : decode cX9_init 849 = .ok (.iconst 2, 1) := by decide +kernel
theorem dX9_init_850 : decode cX9_init 850 = .ok (.bipush 97, 2) := by decide +kernel
theorem dX9_init_852 : decode cX9_init 852 = .ok (.castore, 1) := by decide +kernel
theorem dX9_init_853 : decode cX9_init 853 = .ok (.dup, 1) := by decide +kernel
theorem dX9_init_854 : decode cX9_init 854 = .ok (.iconst 3, 1) := by decide +kernel
theorem dX9_init_855 : decode cX9_init 855 = .ok (.bipush 110, 2) := by decide +kernel
theorem dX9_init_857 : decode cX9_init 857 = .ok (.castore, 1) := by decide +kernel
theorem dX9_init_858 : decode cX9_init 858 = .ok (.putfield 99, 3) := by decide +kernel
theorem dX9_init_861 : decode cX9_init 861 = .ok (.aload_n 0, 1) := by decide +kernel
theorem dX9_init_862 : decode cX9_init 862 = .ok (.iconst 5, 1) := by decide +kernel
theorem dX9_init_863 : decode cX9_init 863 = .ok (.newarray .char, 2) := by decide +kernel
theorem dX9_init_865 : decode cX9_init 865 = .ok (.dup, 1) := by decide +kernel
theorem dX9_init_866 : decode cX9_init 866 = .ok (.iconst 0, 1) := by decide +kernel
theorem dX9_init_867 : decode cX9_init 867 = .ok (.bipush 100, 2) := by decide +kernel
theorem dX9_init_869 : decode cX9_init 869 = .ok (.castore, 1) := by decide +kernel
theorem dX9_init_870 : decode cX9_init 870 = .ok (.dup, 1) := by decide +kernel
theorem dX9_init_871 : decode cX9_init 871 = .ok (.iconst 1, 1) := by decide +kernel
theorem dX9_init_872 : decode cX9_init 872 = .ok (.bipush 114, 2) := by decide +kernel
theorem dX9_init_874 : decode cX9_init 874 = .ok (.castore, 1) := by decide +kernel
theorem dX9_init_875 : decode cX9_init 875 = .ok (.dup, 1) := by decide +kernel
theorem dX9_init_876 : decode cX9_init 876 = .ok (.iconst 2, 1) := by decide +kernel
theorem dX9_init_877 : decode cX9_init 877 = .ok (.bipush 105, 2) := by decide +kernel
theorem dX9_init_879 : decode cX9_init 879 = .ok (.castore, 1) := by decide +kernel
theorem dX9_init_880 : decode cX9_init 880 = .ok (.dup, 1) := by decide +kernel
theorem dX9_init_881 : decode cX9_init 881 = .ok (.iconst 3, 1) := by decide +kernel
theorem dX9_init_882 : decode cX9_init 882 = .ok (.bipush 102, 2) := by decide +kernel
theorem dX9_init_884 : decode cX9_init 884 = .ok (.castore, 1) := by decide +kernel
theorem dX9_init_885 : decode cX9_init 885 = .ok (.dup, 1) := by decide +kernel
theorem dX9_init_886 : decode cX9_init 886 = .ok (.iconst 4, 1) := by decide +kernel
theorem dX9_init_887 : decode cX9_init 887 = .ok (.bipush 116, 2) := by decide +kernel
theorem dX9_init_889 : decode cX9_init 889 = .ok (.castore, 1) := by decide +kernel
theorem dX9_init_890 : decode cX9_init 890 = .ok (.putfield 102, 3) := by decide +kernel
theorem dX9_init_893 : decode cX9_init 893 = .ok (.aload_n 0, 1) := by decide +kernel
theorem dX9_init_894 : decode cX9_init 894 = .ok (.iconst 3, 1) := by decide +kernel
theorem dX9_init_895 : decode cX9_init 895 = .ok (.newarray .char, 2) := by decide +kernel
theorem dX9_init_897 : decode cX9_init 897 = .ok (.dup, 1) := by decide +kernel
theorem dX9_init_898 : decode cX9_init 898 = .ok (.iconst 0, 1) := by decide +kernel
theorem dX9_init_899 : decode cX9_init 899 = .ok (.bipush 109, 2) := by decide +kernel
theorem dX9_init_901 : decode cX9_init 901 = .ok (.castore, 1) := by decide +kernel
theorem dX9_init_902 : decode cX9_init 902 = .ok (.dup, 1) := by decide +kernel
theorem dX9_init_903 : decode cX9_init 903 = .ok (.iconst 1, 1) := by decide +kernel
theorem dX9_init_904 : decode cX9_init 904 = .ok (.bipush 105, 2) := by decide +kernel
theorem dX9_init_906 : decode cX9_init 906 = .ok (.castore, 1) := by decide +kernel
theorem dX9_init_907 : decode cX9_init 907 = .ok (.dup, 1) := by decide +kernel
theorem dX9_init_908 : decode cX9_init 908 = .ok (.iconst 2, 1) := by decide +kernel
theorem dX9_init_909 : decode cX9_init 909 = .ok (.bipush 110, 2) := by decide +kernel
theorem dX9_init_911 : decode cX9_init 911 = .ok (.castore, 1) := by decide +kernel
theorem dX9_init_912 : decode cX9_init 912 = .ok (.putfield 105, 3) := by decide +kernel
theorem dX9_init_915 : decode cX9_init 915 = .ok (.aload_n 0, 1) := by decide +kernel
theorem dX9_init_916 : decode cX9_init 916 = .ok (.iconst 3, 1) := by decide +kernel
theorem dX9_init_917 : decode cX9_init 917 = .ok (.newarray .char, 2) := by decide +kernel
theorem dX9_init_919 : decode cX9_init 919 = .ok (.dup, 1) := by decide +kernel
theorem dX9_init_920 : decode cX9_init 920 = .ok (.iconst 0, 1) := by decide +kernel
theorem dX9_init_921 : decode cX9_init 921 = .ok (.bipush 109, 2) := by decide +kernel
theorem dX9_init_923 : decode cX9_init 923 = .ok (.castore, 1) := by decide +kernel
theorem dX9_init_924 : decode cX9_init 924 = .ok (.dup, 1) := by decide +kernel
theorem dX9_init_925 : decode cX9_init 925 = .ok (.iconst 1, 1) := by decide +kernel
theorem dX9_init_926 : decode cX9_init 926 = .ok (.bipush 97, 2) := by decide +kernel
theorem dX9_init_928 : decode cX9_init 928 = .ok (.castore, 1) := by decide +kernel
theorem dX9_init_929 : decode cX9_init 929 = .ok (.dup, 1) := by decide +kernel
theorem dX9_init_930 : decode cX9_init 930 = .ok (.iconst 2, 1) := by decide +kernel
theorem dX9_init_931 : decode cX9_init 931 = .ok (.bipush 120, 2) := by decide +kernel
theorem dX9_init_933 : decode cX9_init 933 = .ok (.castore, 1) := by decide +kernel
theorem dX9_init_934 : decode cX9_init 934 = .ok (.putfield 108, 3) := by decide +kernel
theorem dX9_init_937 : decode cX9_init 937 = .ok (.aload_n 0, 1) := by decide +kernel
theorem dX9_init_938 : decode cX9_init 938 = .ok (.bipush 7, 2) := by decide +kernel
theorem dX9_init_940 : decode cX9_init 940 = .ok (.newarray .char, 2) := by decide +kernel
theorem dX9_init_942 : decode cX9_init 942 = .ok (.dup, 1) := by decide +kernel
theorem dX9_init_943 : decode cX9_init 943 = .ok (.iconst 0, 1) := by decide +kernel
theorem dX9_init_944 : decode cX9_init 944 = .ok (.bipush 115, 2) := by decide +kernel
theorem dX9_init_946 : decode cX9_init 946 = .ok (.castore, 1) := by decide +kernel
theorem dX9_init_947 : decode cX9_init 947 = .ok (.dup, 1) := by decide +kernel
theorem dX9_init_948 : decode cX9_init 948 = .ok (.iconst 1, 1) := by decide +kernel
theorem dX9_init_949 : decode cX9_init 949 = .ok (.bipush 116, 2) := by decide +kernel
theorem dX9_init_951 : decode cX9_init 951 = .ok (.castore, 1) := by decide +kernel
theorem dX9_init_952 : decode cX9_init 952 = .ok (.dup, 1) := by decide +kernel
theorem dX9_init_953 : decode cX9_init 953 = .ok (.iconst 2, 1) := by decide +kernel
theorem dX9_init_954 : decode cX9_init 954 = .ok (.bipush 111, 2) := by decide +kernel
theorem dX9_init_956 : decode cX9_init 956 = .ok (.castore, 1) := by decide +kernel
theorem dX9_init_957 : decode cX9_init 957 = .ok (.dup, 1) := by decide +kernel
theorem dX9_init_958 : decode cX9_init 958 = .ok (.iconst 3, 1) := by decide +kernel
theorem dX9_init_959 : decode cX9_init 959 = .ok (.bipush 112, 2) := by decide +kernel
theorem dX9_init_961 : decode cX9_init 961 = .ok (.castore, 1) := by decide +kernel
theorem dX9_init_962 : decode cX9_init 962 = .ok (.dup, 1) := by decide +kernel
theorem dX9_init_963 : decode cX9_init 963 = .ok (.iconst 4, 1) := by decide +kernel
theorem dX9_init_964 : decode cX9_init 964 = .ok (.bipush 112, 2) := by decide +kernel
theorem dX9_init_966 : decode cX9_init 966 = .ok (.castore, 1) := by decide +kernel
theorem dX9_init_967 : decode cX9_init 967 = .ok (.dup, 1) := by decide +kernel
theorem dX9_init_968 : decode cX9_init 968 = .ok (.iconst 5, 1) := by decide +kernel
theorem dX9_init_969 : decode cX9_init 969 = .ok (.bipush 101, 2) := by decide +kernel
theorem dX9_init_971 : decode cX9_init 971 = .ok (.castore, 1) := by decide +kernel
theorem dX9_init_972 : decode cX9_init 972 = .ok (.dup, 1) := by decide +kernel
theorem dX9_init_973 : decode cX9_init 973 = .ok (.bipush 6, 2) := by decide +kernel
theorem dX9_init_975 : decode cX9_init 975 = .ok (.bipush 100, 2) := by decide +kernel
theorem dX9_init_977 : decode cX9_init 977 = .ok (.castore, 1) := by decide +kernel
theorem dX9_init_978 : decode cX9_init 978 = .ok (.putfield 111, 3) := by decide +kernel
theorem dX9_init_981 : decode cX9_init 981 = .ok (.aload_n 0, 1) := by decide +kernel
theorem dX9_init_982 : decode cX9_init 982 = .ok (.sipush 1600, 3) := by decide +kernel
theorem dX9_init_985 : decode cX9_init 985 = .ok (.newarray .int, 2) := by decide +kernel
theorem dX9_init_987 : decode cX9_init 987 = .ok (.putfield 114, 3) := by decide +kernel
theorem dX9_init_990 : decode cX9_init 990 = .ok (.aload_n 0, 1) := by decide +kernel
theorem dX9_init_991 : decode cX9_init 991 = .ok (.sipush 800, 3) := by decide +kernel
theorem dX9_init_994 : decode cX9_init 994 = .ok (.newarray .int, 2) := by decide +kernel
theorem dX9_init_996 : decode cX9_init 996 = .ok (.putfield 117, 3) := by decide +kernel
theorem dX9_init_999 : decode cX9_init 999 = .ok (.aload_n 0, 1) := by decide +kernel
theorem dX9_init_1000 : decode cX9_init 1000 = .ok (.bipush 6, 2) := by decide +kernel
theorem dX9_init_1002 : decode cX9_init 1002 = .ok (.newarray .long, 2) := by decide +kernel
theorem dX9_init_1004 : decode cX9_init 1004 = .ok (.putfield 120, 3) := by decide +kernel
theorem dX9_init_1007 : decode cX9_init 1007 = .ok (.aload_n 0, 1) := by decide +kernel
theorem dX9_init_1008 : decode cX9_init 1008 = .ok (.iconst 4, 1) := by decide +kernel
theorem dX9_init_1009 : decode cX9_init 1009 = .ok (.newarray .boolean, 2) := by decide +kernel
theorem dX9_init_1011 : decode cX9_init 1011 = .ok (.putfield 124, 3) := by decide +kernel
theorem dX9_init_1014 : decode cX9_init 1014 = .ok (.aload_n 0, 1) := by decide +kernel
theorem dX9_init_1015 : decode cX9_init 1015 = .ok (.iconst 4, 1) := by decide +kernel
theorem dX9_init_1016 : decode cX9_init 1016 = .ok (.newarray .int, 2) := by decide +kernel
theorem dX9_init_1018 : decode cX9_init 1018 = .ok (.putfield 128, 3) := by decide +kernel
theorem dX9_init_1021 : decode cX9_init 1021 = .ok (.aload_n 0, 1) := by decide +kernel
theorem dX9_init_1022 : decode cX9_init 1022 = .ok (.iconst 4, 1) := by decide +kernel
theorem dX9_init_1023 : decode cX9_init 1023 = .ok (.newarray .int, 2) := by decide +kernel
theorem dX9_init_1025 : decode cX9_init 1025 = .ok (.putfield 131, 3) := by decide +kernel
theorem dX9_init_1028 : decode cX9_init 1028 = .ok (.aload_n 0, 1) := by decide +kernel
theorem dX9_init_1029 : decode cX9_init 1029 = .ok (.iconst 4, 1) := by decide +kernel
theorem dX9_init_1030 : decode cX9_init 1030 = .ok (.newarray .int, 2) := by decide +kernel
theorem dX9_init_1032 : decode cX9_init 1032 = .ok (.putfield 134, 3) := by decide +kernel
theorem dX9_init_1035 : decode cX9_init 1035 = .ok (.aload_n 0, 1) := by decide +kernel
theorem dX9_init_1036 : decode cX9_init 1036 = .ok (.bipush 20, 2) := by decide +kernel
theorem dX9_init_1038 : decode cX9_init 1038 = .ok (.newarray .int, 2) := by decide +kernel
theorem dX9_init_1040 : decode cX9_init 1040 = .ok (.putfield 137, 3) := by decide +kernel
theorem dX9_init_1043 : decode cX9_init 1043 = .ok (.aload_n 0, 1) := by decide +kernel
theorem dX9_init_1044 : decode cX9_init 1044 = .ok (.bipush 20, 2) := by decide +kernel
theorem dX9_init_1046 : decode cX9_init 1046 = .ok (.newarray .int, 2) := by decide +kernel
theorem dX9_init_1048 : decode cX9_init 1048 = .ok (.putfield 140, 3) := by decide +kernel
theorem dX9_init_1051 : decode cX9_init 1051 = .ok (.aload_n 0, 1) := by decide +kernel
theorem dX9_init_1052 : decode cX9_init 1052 = .ok (.bipush 20, 2) := by decide +kernel
theorem dX9_init_1054 : decode cX9_init 1054 = .ok (.newarray .int, 2) := by decide +kernel
theorem dX9_init_1056 : decode cX9_init 1056 = .ok (.putfield 143, 3) := by decide +kernel
theorem dX9_init_1059 : decode cX9_init 1059 = .ok (.aload_n 0, 1) := by decide +kernel
theorem dX9_init_1060 : decode cX9_init 1060 = .ok (.bipush 8, 2) := by decide +kernel
theorem dX9_init_1062 : decode cX9_init 1062 = .ok (.newarray .long, 2) := by decide +kernel
theorem dX9_init_1064 : decode cX9_init 1064 = .ok (.putfield 146, 3) := by decide +kernel
theorem dX9_init_1067 : decode cX9_init 1067 = .ok (.aload_n 0, 1) := by decide +kernel
theorem dX9_init_1068 : decode cX9_init 1068 = .ok (.bipush 8, 2) := by decide +kernel
theorem dX9_init_1070 : decode cX9_init 1070 = .ok (.newarray .int, 2) := by decide +kernel
theorem dX9_init_1072 : decode cX9_init 1072 = .ok (.putfield 149, 3) := by decide +kernel
theorem dX9_init_1075 : decode cX9_init 1075 = .ok (.aload_n 0, 1) := by decide +kernel
theorem dX9_init_1076 : decode cX9_init 1076 = .ok (.iconst 4, 1) := by decide +kernel
theorem dX9_init_1077 : decode cX9_init 1077 = .ok (.newarray .boolean, 2) := by decide +kernel
theorem dX9_init_1079 : decode cX9_init 1079 = .ok (.putfield 152, 3) := by decide +kernel
theorem dX9_init_1082 : decode cX9_init 1082 = .ok (.aload_n 0, 1) := by decide +kernel
theorem dX9_init_1083 : decode cX9_init 1083 = .ok (.iconst 4, 1) := by decide +kernel
theorem dX9_init_1084 : decode cX9_init 1084 = .ok (.newarray .int, 2) := by decide +kernel
theorem dX9_init_1086 : decode cX9_init 1086 = .ok (.putfield 155, 3) := by decide +kernel
theorem dX9_init_1089 : decode cX9_init 1089 = .ok (.aload_n 0, 1) := by decide +kernel
theorem dX9_init_1090 : decode cX9_init 1090 = .ok (.iconst 4, 1) := by decide +kernel
theorem dX9_init_1091 : decode cX9_init 1091 = .ok (.newarray .int, 2) := by decide +kernel
theorem dX9_init_1093 : decode cX9_init 1093 = .ok (.putfield 158, 3) := by decide +kernel
theorem dX9_init_1096 : decode cX9_init 1096 = .ok (.aload_n 0, 1) := by decide +kernel
theorem dX9_init_1097 : decode cX9_init 1097 = .ok (.iconst 4, 1) := by decide +kernel
theorem dX9_init_1098 : decode cX9_init 1098 = .ok (.newarray .int, 2) := by decide +kernel
theorem dX9_init_1100 : decode cX9_init 1100 = .ok (.putfield 161, 3) := by decide +kernel
theorem dX9_init_1103 : decode cX9_init 1103 = .ok (.aload_n 0, 1) := by decide +kernel
theorem dX9_init_1104 : decode cX9_init 1104 = .ok (.bipush 20, 2) := by decide +kernel
theorem dX9_init_1106 : decode cX9_init 1106 = .ok (.newarray .int, 2) := by decide +kernel
theorem dX9_init_1108 : decode cX9_init 1108 = .ok (.putfield 164, 3) := by decide +kernel
theorem dX9_init_1111 : decode cX9_init 1111 = .ok (.aload_n 0, 1) := by decide +kernel
theorem dX9_init_1112 : decode cX9_init 1112 = .ok (.bipush 20, 2) := by decide +kernel
theorem dX9_init_1114 : decode cX9_init 1114 = .ok (.newarray .int, 2) := by decide +kernel
theorem dX9_init_1116 : decode cX9_init 1116 = .ok (.putfield 167, 3) := by decide +kernel
theorem dX9_init_1119 : decode cX9_init 1119 = .ok (.aload_n 0, 1) := by decide +kernel
theorem dX9_init_1120 : decode cX9_init 1120 = .ok (.bipush 20, 2) := by decide +kernel
theorem dX9_init_1122 : decode cX9_init 1122 = .ok (.newarray .int, 2) := by decide +kernel
theorem dX9_init_1124 : decode cX9_init 1124 = .ok (.putfield 170, 3) := by decide +kernel
theorem dX9_init_1127 : decode cX9_init 1127 = .ok (.aload_n 0, 1) := by decide +kernel
theorem dX9_init_1128 : decode cX9_init 1128 = .ok (.iconst 1, 1) := by decide +kernel
theorem dX9_init_1129 : decode cX9_init 1129 = .ok (.putfield 173, 3) := by decide +kernel
theorem dX9_init_1132 : decode cX9_init 1132 = .ok (.aload_n 0, 1) := by decide +kernel
theorem dX9_init_1133 : decode cX9_init 1133 = .ok (.iconst (-1), 1) := by decide +kernel
theorem dX9_init_1134 : decode cX9_init 1134 = .ok (.putfield 176, 3) := by decide +kernel
theorem dX9_init_1137 : decode cX9_init 1137 = .ok (.aload_n 0, 1) := by decide +kernel
theorem dX9_init_1138 : decode cX9_init 1138 = .ok (.bipush 8, 2) := by decide +kernel
theorem dX9_init_1140 : decode cX9_init 1140 = .ok (.newarray .int, 2) := by decide +kernel
theorem dX9_init_1142 : decode cX9_init 1142 = .ok (.putfield 179, 3) := by decide +kernel
theorem dX9_init_1145 : decode cX9_init 1145 = .ok (.aload_n 0, 1) := by decide +kernel
theorem dX9_init_1146 : decode cX9_init 1146 = .ok (.sipush 360, 3) := by decide +kernel
theorem dX9_init_1149 : decode cX9_init 1149 = .ok (.newarray .int, 2) := by decide +kernel
theorem dX9_init_1151 : decode cX9_init 1151 = .ok (.putfield 182, 3) := by decide +kernel
theorem dX9_init_1154 : decode cX9_init 1154 = .ok (.aload_n 0, 1) := by decide +kernel
theorem dX9_init_1155 : decode cX9_init 1155 = .ok (.sipush 1000, 3) := by decide +kernel
theorem dX9_init_1158 : decode cX9_init 1158 = .ok (.newarray .boolean, 2) := by decide +kernel
theorem dX9_init_1160 : decode cX9_init 1160 = .ok (.putfield 185, 3) := by decide +kernel
theorem dX9_init_1163 : decode cX9_init 1163 = .ok (.aload_n 0, 1) := by decide +kernel
theorem dX9_init_1164 : decode cX9_init 1164 = .ok (.sipush 251, 3) := by decide +kernel
theorem dX9_init_1167 : decode cX9_init 1167 = .ok (.newarray .int, 2) := by decide +kernel
theorem dX9_init_1169 : decode cX9_init 1169 = .ok (.putfield 188, 3) := by decide +kernel
theorem dX9_init_1172 : decode cX9_init 1172 = .ok (.aload_n 0, 1) := by decide +kernel
theorem dX9_init_1173 : decode cX9_init 1173 = .ok (.sipush 251, 3) := by decide +kernel
theorem dX9_init_1176 : decode cX9_init 1176 = .ok (.newarray .int, 2) := by decide +kernel
theorem dX9_init_1178 : decode cX9_init 1178 = .ok (.putfield 191, 3) := by decide +kernel
theorem dX9_init_1181 : decode cX9_init 1181 = .ok (.aload_n 0, 1) := by decide +kernel
theorem dX9_init_1182 : decode cX9_init 1182 = .ok (.sipush 251, 3) := by decide +kernel
theorem dX9_init_1185 : decode cX9_init 1185 = .ok (.newarray .int, 2) := by decide +kernel
theorem dX9_init_1187 : decode cX9_init 1187 = .ok (.putfield 194, 3) := by decide +kernel
theorem dX9_init_1190 : decode cX9_init 1190 = .ok (.aload_n 0, 1) := by decide +kernel
theorem dX9_init_1191 : decode cX9_init 1191 = .ok (.sipush 251, 3) := by decide +kernel
theorem dX9_init_1194 : decode cX9_init 1194 = .ok (.newarray .int, 2) := by decide +kernel
theorem dX9_init_1196 : decode cX9_init 1196 = .ok (.putfield 197, 3) := by decide +kernel
theorem dX9_init_1199 : decode cX9_init 1199 = .ok (.aload_n 0, 1) := by decide +kernel
theorem dX9_init_1200 : decode cX9_init 1200 = .ok (.sipush 251, 3) := by decide +kernel
theorem dX9_init_1203 : decode cX9_init 1203 = .ok (.newarray .int, 2) := by decide +kernel
theorem dX9_init_1205 : decode cX9_init 1205 = .ok (.putfield 200, 3) := by decide +kernel
theorem dX9_init_1208 : decode cX9_init 1208 = .ok (.aload_n 0, 1) := by decide +kernel
theorem dX9_init_1209 : decode cX9_init 1209 = .ok (.sipush 251, 3) := by decide +kernel
theorem dX9_init_1212 : decode cX9_init 1212 = .ok (.newarray .int, 2) := by decide +kernel
theorem dX9_init_1214 : decode cX9_init 1214 = .ok (.putfield 203, 3) := by decide +kernel
theorem dX9_init_1217 : decode cX9_init 1217 = .ok (.aload_n 0, 1) := by decide +kernel
theorem dX9_init_1218 : decode cX9_init 1218 = .ok (.iconst (-1), 1) := by decide +kernel
theorem dX9_init_1219 : decode cX9_init 1219 = .ok (.putfield 206, 3) := by decide +kernel
theorem dX9_init_1222 : decode cX9_init 1222 = .ok (.aload_n 0, 1) := by decide +kernel
theorem dX9_init_1223 : decode cX9_init 1223 = .ok (.bipush 90, 2) := by decide +kernel
theorem dX9_init_1225 : decode cX9_init 1225 = .ok (.newarray .int, 2) := by decide +kernel
theorem dX9_init_1227 : decode cX9_init 1227 = .ok (.putfield 209, 3) := by decide +kernel
theorem dX9_init_1230 : decode cX9_init 1230 = .ok (.aload_n 0, 1) := by decide +kernel
theorem dX9_init_1231 : decode cX9_init 1231 = .ok (.bipush 30, 2) := by decide +kernel
theorem dX9_init_1233 : decode cX9_init 1233 = .ok (.newarray .boolean, 2) := by decide +kernel
theorem dX9_init_1235 : decode cX9_init 1235 = .ok (.putfield 212, 3) := by decide +kernel
theorem dX9_init_1238 : decode cX9_init 1238 = .ok (.aload_n 0, 1) := by decide +kernel
theorem dX9_init_1239 : decode cX9_init 1239 = .ok (.bipush 32, 2) := by decide +kernel
theorem dX9_init_1241 : decode cX9_init 1241 = .ok (.newarray .long, 2) := by decide +kernel
theorem dX9_init_1243 : decode cX9_init 1243 = .ok (.putfield 215, 3) := by decide +kernel
theorem dX9_init_1246 : decode cX9_init 1246 = .ok (.aload_n 0, 1) := by decide +kernel
theorem dX9_init_1247 : decode cX9_init 1247 = .ok (.sipush 1800, 3) := by decide +kernel
theorem dX9_init_1250 : decode cX9_init 1250 = .ok (.newarray .int, 2) := by decide +kernel
theorem dX9_init_1252 : decode cX9_init 1252 = .ok (.putfield 218, 3) := by decide +kernel
theorem dX9_init_1255 : decode cX9_init 1255 = .ok (.aload_n 0, 1) := by decide +kernel
theorem dX9_init_1256 : decode cX9_init 1256 = .ok (.bipush 30, 2) := by decide +kernel
theorem dX9_init_1258 : decode cX9_init 1258 = .ok (.newarray .int, 2) := by decide +kernel
theorem dX9_init_1260 : decode cX9_init 1260 = .ok (.putfield 221, 3) := by decide +kernel
theorem dX9_init_1263 : decode cX9_init 1263 = .ok (.aload_n 0, 1) := by decide +kernel
theorem dX9_init_1264 : decode cX9_init 1264 = .ok (.bipush 30, 2) := by decide +kernel
theorem dX9_init_1266 : decode cX9_init 1266 = .ok (.newarray .int, 2) := by decide +kernel
theorem dX9_init_1268 : decode cX9_init 1268 = .ok (.putfield 224, 3) := by decide +kernel
theorem dX9_init_1271 : decode cX9_init 1271 = .ok (.aload_n 0, 1) := by decide +kernel
theorem dX9_init_1272 : decode cX9_init 1272 = .ok (.bipush 10, 2) := by decide +kernel
theorem dX9_init_1274 : decode cX9_init 1274 = .ok (.newarray .int, 2) := by decide +kernel
theorem dX9_init_1276 : decode cX9_init 1276 = .ok (.putfield 227, 3) := by decide +kernel
theorem dX9_init_1279 : decode cX9_init 1279 = .ok (.aload_n 0, 1) := by decide +kernel
theorem dX9_init_1280 : decode cX9_init 1280 = .ok (.sipush 800, 3) := by decide +kernel
theorem dX9_init_1283 : decode cX9_init 1283 = .ok (.newarray .long, 2) := by decide +kernel
theorem dX9_init_1285 : decode cX9_init 1285 = .ok (.putfield 230, 3) := by decide +kernel
theorem dX9_init_1288 : decode cX9_init 1288 = .ok (.aload_n 0, 1) := by decide +kernel
theorem dX9_init_1289 : decode cX9_init 1289 = .ok (.sipush 150, 3) := by decide +kernel
theorem dX9_init_1292 : decode cX9_init 1292 = .ok (.newarray .int, 2) := by decide +kernel
theorem dX9_init_1294 : decode cX9_init 1294 = .ok (.putfield 233, 3) := by decide +kernel
theorem dX9_init_1297 : decode cX9_init 1297 = .ok (.aload_n 0, 1) := by decide +kernel
theorem dX9_init_1298 : decode cX9_init 1298 = .ok (.bipush 25, 2) := by decide +kernel
theorem dX9_init_1300 : decode cX9_init 1300 = .ok (.newarray .int, 2) := by decide +kernel
theorem dX9_init_1302 : decode cX9_init 1302 = .ok (.putfield 236, 3) := by decide +kernel
theorem dX9_init_1305 : decode cX9_init 1305 = .ok (.aload_n 0, 1) := by decide +kernel
theorem dX9_init_1306 : decode cX9_init 1306 = .ok (.bipush 25, 2) := by decide +kernel
theorem dX9_init_1308 : decode cX9_init 1308 = .ok (.newarray .int, 2) := by decide +kernel
theorem dX9_init_1310 : decode cX9_init 1310 = .ok (.putfield 239, 3) := by decide +kernel
theorem dX9_init_1313 : decode cX9_init 1313 = .ok (.return_, 1) := by decide +kernel
theorem dX9_isIn_0 : decode cX9_isIn 0 = .ok (.lload_n 0, 1) := by decide +kernel
theorem dX9_isIn_1 : decode cX9_isIn 1 = .ok (.lload_n 2, 1) := by decide +kernel
theorem dX9_isIn_2 : decode cX9_isIn 2 = .ok (.lcmp, 1) := by decide +kernel
theorem dX9_isIn_3 : decode cX9_isIn 3 = .ok (.ifCond .lt 14, 3) := by decide +kernel
theorem dX9_isIn_6 : decode cX9_isIn 6 = .ok (.lload_n 0, 1) := by decide +kernel
theorem dX9_isIn_7 : decode cX9_isIn 7 = .ok (.lload 4, 2) := by decide +kernel
theorem dX9_isIn_9 : decode cX9_isIn 9 = .ok (.lcmp, 1) := by decide +kernel
theorem dX9_isIn_10 : decode cX9_isIn 10 = .ok (.ifCond .gt 7, 3) := by decide +kernel
theorem dX9_isIn_13 : decode cX9_isIn 13 = .ok (.iconst 1, 1) := by decide +kernel
theorem dX9_isIn_14 : decode cX9_isIn 14 = .ok (.goto 4, 3) := by decide +kernel
theorem dX9_isIn_17 : decode cX9_isIn 17 = .ok (.iconst 0, 1) := by decide +kernel
theorem dX9_isIn_18 : decode cX9_isIn 18 = .ok (.ireturn, 1) := by decide +kernel
theorem dX9_feed_0 : decode cX9_feed 0 = .ok (.aload_n 0, 1) := by decide +kernel
theorem dX9_feed_1 : decode cX9_feed 1 = .ok (.getfield 242, 3) := by decide +kernel
theorem dX9_feed_4 : decode cX9_feed 4 = .ok (.bipush 20, 2) := by decide +kernel
theorem dX9_feed_6 : decode cX9_feed 6 = .ok (.iadd, 1) := by decide +kernel
theorem dX9_feed_7 : decode cX9_feed 7 = .ok (.sipush 700, 3) := by decide +kernel
theorem dX9_feed_10 : decode cX9_feed 10 = .ok (.if_icmp .le 5, 3) := by decide +kernel
theorem dX9_feed_13 : decode cX9_feed 13 = .ok (.iconst (-1), 1) := by decide +kernel
theorem dX9_feed_14 : decode cX9_feed 14 = .ok (.ireturn, 1) := by decide +kernel
theorem dX9_feed_15 : decode cX9_feed 15 = .ok (.iconst 0, 1) := by decide +kernel
theorem dX9_feed_16 : decode cX9_feed 16 = .ok (.istore 6, 2) := by decide +kernel
theorem dX9_feed_18 : decode cX9_feed 18 = .ok (.iload 6, 2) := by decide +kernel
theorem dX9_feed_20 : decode cX9_feed 20 = .ok (.bipush 20, 2) := by decide +kernel
theorem dX9_feed_22 : decode cX9_feed 22 = .ok (.if_icmp .ge 92, 3) := by decide +kernel
theorem dX9_feed_25 : decode cX9_feed 25 = .ok (.iload 6, 2) := by decide +kernel
theorem dX9_feed_27 : decode cX9_feed 27 = .ok (.iconst 4, 1) := by decide +kernel
theorem dX9_feed_28 : decode cX9_feed 28 = .ok (.if_icmp .ge 7, 3) := by decide +kernel
theorem dX9_feed_31 : decode cX9_feed 31 = .ok (.iload_n 1, 1) := by decide +kernel
theorem dX9_feed_32 : decode cX9_feed 32 = .ok (.goto 39, 3) := by decide +kernel
theorem dX9_feed_35 : decode cX9_feed 35 = .ok (.iload 6, 2) := by decide +kernel
theorem dX9_feed_37 : decode cX9_feed 37 = .ok (.bipush 8, 2) := by decide +kernel
theorem dX9_feed_39 : decode cX9_feed 39 = .ok (.if_icmp .ge 7, 3) := by decide +kernel
theorem dX9_feed_42 : decode cX9_feed 42 = .ok (.iload_n 2, 1) := by decide +kernel
theorem dX9_feed_43 : decode cX9_feed 43 = .ok (.goto 28, 3) := by decide +kernel
theorem dX9_feed_46 : decode cX9_feed 46 = .ok (.iload 6, 2) := by decide +kernel
theorem dX9_feed_48 : decode cX9_feed 48 = .ok (.bipush 12, 2) := by decide +kernel
theorem dX9_feed_50 : decode cX9_feed 50 = .ok (.if_icmp .ge 7, 3) := by decide +kernel
theorem dX9_feed_53 : decode cX9_feed 53 = .ok (.iload_n 3, 1) := by decide +kernel
theorem dX9_feed_54 : decode cX9_feed 54 = .ok (.goto 17, 3) := by decide +kernel
theorem dX9_feed_57 : decode cX9_feed 57 = .ok (.iload 6, 2) := by decide +kernel
theorem dX9_feed_59 : decode cX9_feed 59 = .ok (.bipush 16, 2) := by decide +kernel
theorem dX9_feed_61 : decode cX9_feed 61 = .ok (.if_icmp .ge 8, 3) := by decide +kernel
theorem dX9_feed_64 : decode cX9_feed 64 = .ok (.iload 4, 2) := by decide +kernel
theorem dX9_feed_66 : decode cX9_feed 66 = .ok (.goto 5, 3) := by decide +kernel
theorem dX9_feed_69 : decode cX9_feed 69 = .ok (.iload 5, 2) := by decide +kernel
theorem dX9_feed_71 : decode cX9_feed 71 = .ok (.istore 7, 2) := by decide +kernel
theorem dX9_feed_73 : decode cX9_feed 73 = .ok (.aload_n 0, 1) := by decide +kernel
theorem dX9_feed_74 : decode cX9_feed 74 = .ok (.getfield 7, 3) := by decide +kernel
theorem dX9_feed_77 : decode cX9_feed 77 = .ok (.aload_n 0, 1) := by decide +kernel
theorem dX9_feed_78 : decode cX9_feed 78 = .ok (.getfield 242, 3) := by decide +kernel
theorem dX9_feed_81 : decode cX9_feed 81 = .ok (.iload 7, 2) := by decide +kernel
theorem dX9_feed_83 : decode cX9_feed 83 = .ok (.bipush 8, 2) := by decide +kernel
theorem dX9_feed_85 : decode cX9_feed 85 = .ok (.iconst 3, 1) := by decide +kernel
theorem dX9_feed_86 : decode cX9_feed 86 = .ok (.iload 6, 2) := by decide +kernel
theorem dX9_feed_88 : decode cX9_feed 88 = .ok (.iconst 4, 1) := by decide +kernel
theorem dX9_feed_89 : decode cX9_feed 89 = .ok (.irem, 1) := by decide +kernel
theorem dX9_feed_90 : decode cX9_feed 90 = .ok (.isub, 1) := by decide +kernel
theorem dX9_feed_91 : decode cX9_feed 91 = .ok (.imul, 1) := by decide +kernel
theorem dX9_feed_92 : decode cX9_feed 92 = .ok (.ishr, 1) := by decide +kernel
theorem dX9_feed_93 : decode cX9_feed 93 = .ok (.sipush 255, 3) := by decide +kernel
theorem dX9_feed_96 : decode cX9_feed 96 = .ok (.iand, 1) := by decide +kernel
theorem dX9_feed_97 : decode cX9_feed 97 = .ok (.iastore, 1) := by decide +kernel
theorem dX9_feed_98 : decode cX9_feed 98 = .ok (.aload_n 0, 1) := by decide +kernel
theorem dX9_feed_99 : decode cX9_feed 99 = .ok (.dup, 1) := by decide +kernel
theorem dX9_feed_100 : decode cX9_feed 100 = .ok (.getfield 242, 3) := by decide +kernel
theorem dX9_feed_103 : decode cX9_feed 103 = .ok (.iconst 1, 1) := by decide +kernel
theorem dX9_feed_104 : decode cX9_feed 104 = .ok (.iadd, 1) := by decide +kernel
theorem dX9_feed_105 : decode cX9_feed 105 = .ok (.putfield 242, 3) := by decide +kernel
theorem dX9_feed_108 : decode cX9_feed 108 = .ok (.iinc 6 1, 3) := by decide +kernel
theorem dX9_feed_111 : decode cX9_feed 111 = .ok (.goto (-93), 3) := by decide +kernel
theorem dX9_feed_114 : decode cX9_feed 114 = .ok (.aload_n 0, 1) := by decide +kernel
theorem dX9_feed_115 : decode cX9_feed 115 = .ok (.getfield 242, 3) := by decide +kernel
theorem dX9_feed_118 : decode cX9_feed 118 = .ok (.ireturn, 1) := by decide +kernel
theorem dX9_end_0 : decode cX9_end 0 = .ok (.iload_n 1, 1) := by decide +kernel
theorem dX9_end_1 : decode cX9_end 1 = .ok (.ifCond .lt 11, 3) := by decide +kernel
theorem dX9_end_4 : decode cX9_end 4 = .ok (.iload_n 1, 1) := by decide +kernel
theorem dX9_end_5 : decode cX9_end 5 = .ok (.aload_n 0, 1) := by decide +kernel
theorem dX9_end_6 : decode cX9_end 6 = .ok (.getfield 242, 3) := by decide +kernel
theorem dX9_end_9 : decode cX9_end 9 = .ok (.if_icmp .le 5, 3) := by decide +kernel
theorem dX9_end_12 : decode cX9_end 12 = .ok (.iconst 0, 1) := by decide +kernel
theorem dX9_end_13 : decode cX9_end 13 = .ok (.ireturn, 1) := by decide +kernel
theorem dX9_end_14 : decode cX9_end 14 = .ok (.aload_n 0, 1) := by decide +kernel
theorem dX9_end_15 : decode cX9_end 15 = .ok (.iload_n 1, 1) := by decide +kernel
theorem dX9_end_16 : decode cX9_end 16 = .ok (.putfield 242, 3) := by decide +kernel
theorem dX9_end_19 : decode cX9_end 19 = .ok (.iconst 1, 1) := by decide +kernel
theorem dX9_end_20 : decode cX9_end 20 = .ok (.ireturn, 1) := by decide +kernel
theorem dX9_fail_0 : decode cX9_fail 0 = .ok (.aload_n 0, 1) := by decide +kernel
theorem dX9_fail_1 : decode cX9_fail 1 = .ok (.getfield 245, 3) := by decide +kernel
theorem dX9_fail_4 : decode cX9_fail 4 = .ok (.ifCond .eq 4, 3) := by decide +kernel
theorem dX9_fail_7 : decode cX9_fail 7 = .ok (.return_, 1) := by decide +kernel
theorem dX9_fail_8 : decode cX9_fail 8 = .ok (.aload_n 0, 1) := by decide +kernel
theorem dX9_fail_9 : decode cX9_fail 9 = .ok (.iload_n 1, 1) := by decide +kernel
theorem dX9_fail_10 : decode cX9_fail 10 = .ok (.putfield 245, 3) := by decide +kernel
theorem dX9_fail_13 : decode cX9_fail 13 = .ok (.aload_n 0, 1) := by decide +kernel
theorem dX9_fail_14 : decode cX9_fail 14 = .ok (.iload_n 2, 1) := by decide +kernel
theorem dX9_fail_15 : decode cX9_fail 15 = .ok (.putfield 248, 3) := by decide +kernel
theorem dX9_fail_18 : decode cX9_fail 18 = .ok (.return_, 1) := by decide +kernel
theorem dX9_isLetter_0 : decode cX9_isLetter 0 = .ok (.iload_n 0, 1) := by decide +kernel
theorem dX9_isLetter_1 : decode cX9_isLetter 1 = .ok (.bipush 97, 2) := by decide +kernel
theorem dX9_isLetter_3 : decode cX9_isLetter 3 = .ok (.if_icmp .lt 13, 3) := by decide +kernel
theorem dX9_isLetter_6 : decode cX9_isLetter 6 = .ok (.iload_n 0, 1) := by decide +kernel
theorem dX9_isLetter_7 : decode cX9_isLetter 7 = .ok (.bipush 122, 2) := by decide +kernel
theorem dX9_isLetter_9 : decode cX9_isLetter 9 = .ok (.if_icmp .gt 7, 3) := by decide +kernel
theorem dX9_isLetter_12 : decode cX9_isLetter 12 = .ok (.iconst 1, 1) := by decide +kernel
theorem dX9_isLetter_13 : decode cX9_isLetter 13 = .ok (.goto 4, 3) := by decide +kernel
theorem dX9_isLetter_16 : decode cX9_isLetter 16 = .ok (.iconst 0, 1) := by decide +kernel
theorem dX9_isLetter_17 : decode cX9_isLetter 17 = .ok (.ireturn, 1) := by decide +kernel
theorem dX9_isDigit_0 : decode cX9_isDigit 0 = .ok (.iload_n 0, 1) := by decide +kernel
theorem dX9_isDigit_1 : decode cX9_isDigit 1 = .ok (.bipush 48, 2) := by decide +kernel
theorem dX9_isDigit_3 : decode cX9_isDigit 3 = .ok (.if_icmp .lt 13, 3) := by decide +kernel
theorem dX9_isDigit_6 : decode cX9_isDigit 6 = .ok (.iload_n 0, 1) := by decide +kernel
theorem dX9_isDigit_7 : decode cX9_isDigit 7 = .ok (.bipush 57, 2) := by decide +kernel
theorem dX9_isDigit_9 : decode cX9_isDigit 9 = .ok (.if_icmp .gt 7, 3) := by decide +kernel
theorem dX9_isDigit_12 : decode cX9_isDigit 12 = .ok (.iconst 1, 1) := by decide +kernel
theorem dX9_isDigit_13 : decode cX9_isDigit 13 = .ok (.goto 4, 3) := by decide +kernel
theorem dX9_isDigit_16 : decode cX9_isDigit 16 = .ok (.iconst 0, 1) := by decide +kernel
theorem dX9_isDigit_17 : decode cX9_isDigit 17 = .ok (.ireturn, 1) := by decide +kernel
theorem dX9_look_0 : decode cX9_look 0 = .ok (.aload_n 0, 1) := by decide +kernel
theorem dX9_look_1 : decode cX9_look 1 = .ok (.getfield 251, 3) := by decide +kernel
theorem dX9_look_4 : decode cX9_look 4 = .ok (.aload_n 0, 1) := by decide +kernel
theorem dX9_look_5 : decode cX9_look 5 = .ok (.getfield 254, 3) := by decide +kernel
theorem dX9_look_8 : decode cX9_look 8 = .ok (.if_icmp .ge 44, 3) := by decide +kernel
theorem dX9_look_11 : decode cX9_look 11 = .ok (.aload_n 0, 1) := by decide +kernel
theorem dX9_look_12 : decode cX9_look 12 = .ok (.getfield 7, 3) := by decide +kernel
theorem dX9_look_15 : decode cX9_look 15 = .ok (.aload_n 0, 1) := by decide +kernel
theorem dX9_look_16 : decode cX9_look 16 = .ok (.getfield 251, 3) := by decide +kernel
theorem dX9_look_19 : decode cX9_look 19 = .ok (.iaload, 1) := by decide +kernel
theorem dX9_look_20 : decode cX9_look 20 = .ok (.bipush 10, 2) := by decide +kernel
theorem dX9_look_22 : decode cX9_look 22 = .ok (.if_icmp .eq 17, 3) := by decide +kernel
theorem dX9_look_25 : decode cX9_look 25 = .ok (.aload_n 0, 1) := by decide +kernel
theorem dX9_look_26 : decode cX9_look 26 = .ok (.getfield 7, 3) := by decide +kernel
theorem dX9_look_29 : decode cX9_look 29 = .ok (.aload_n 0, 1) := by decide +kernel
theorem dX9_look_30 : decode cX9_look 30 = .ok (.getfield 251, 3) := by decide +kernel
theorem dX9_look_33 : decode cX9_look 33 = .ok (.iaload, 1) := by decide +kernel
theorem dX9_look_34 : decode cX9_look 34 = .ok (.bipush 32, 2) := by decide +kernel
theorem dX9_look_36 : decode cX9_look 36 = .ok (.if_icmp .ne 16, 3) := by decide +kernel
theorem dX9_look_39 : decode cX9_look 39 = .ok (.aload_n 0, 1) := by decide +kernel
theorem dX9_look_40 : decode cX9_look 40 = .ok (.dup, 1) := by decide +kernel
theorem dX9_look_41 : decode cX9_look 41 = .ok (.getfield 251, 3) := by decide +kernel
theorem dX9_look_44 : decode cX9_look 44 = .ok (.iconst 1, 1) := by decide +kernel
theorem dX9_look_45 : decode cX9_look 45 = .ok (.iadd, 1) := by decide +kernel
theorem dX9_look_46 : decode cX9_look 46 = .ok (.putfield 251, 3) := by decide +kernel
theorem dX9_look_49 : decode cX9_look 49 = .ok (.goto (-49), 3) := by decide +kernel
theorem dX9_look_52 : decode cX9_look 52 = .ok (.aload_n 0, 1) := by decide +kernel
theorem dX9_look_53 : decode cX9_look 53 = .ok (.getfield 251, 3) := by decide +kernel
theorem dX9_look_56 : decode cX9_look 56 = .ok (.aload_n 0, 1) := by decide +kernel
theorem dX9_look_57 : decode cX9_look 57 = .ok (.getfield 254, 3) := by decide +kernel
theorem dX9_look_60 : decode cX9_look 60 = .ok (.if_icmp .ge 15, 3) := by decide +kernel
theorem dX9_look_63 : decode cX9_look 63 = .ok (.aload_n 0, 1) := by decide +kernel
theorem dX9_look_64 : decode cX9_look 64 = .ok (.getfield 7, 3) := by decide +kernel
theorem dX9_look_67 : decode cX9_look 67 = .ok (.aload_n 0, 1) := by decide +kernel
theorem dX9_look_68 : decode cX9_look 68 = .ok (.getfield 251, 3) := by decide +kernel
theorem dX9_look_71 : decode cX9_look 71 = .ok (.iaload, 1) := by decide +kernel
theorem dX9_look_72 : decode cX9_look 72 = .ok (.goto 4, 3) := by decide +kernel
theorem dX9_look_75 : decode cX9_look 75 = .ok (.iconst (-1), 1) := by decide +kernel
theorem dX9_look_76 : decode cX9_look 76 = .ok (.ireturn, 1) := by decide +kernel
theorem dX9_isHere_0 : decode cX9_isHere 0 = .ok (.aload_n 0, 1) := by decide +kernel
theorem dX9_isHere_1 : decode cX9_isHere 1 = .ok (.getfield 245, 3) := by decide +kernel
theorem dX9_isHere_4 : decode cX9_isHere 4 = .ok (.ifCond .ne 24, 3) := by decide +kernel
theorem dX9_isHere_7 : decode cX9_isHere 7 = .ok (.aload_n 0, 1) := by decide +kernel
theorem dX9_isHere_8 : decode cX9_isHere 8 = .ok (.invokevirtual 257, 3) := by decide +kernel
theorem dX9_isHere_11 : decode cX9_isHere 11 = .ok (.invokestatic 261, 3) := by decide +kernel
theorem dX9_isHere_14 : decode cX9_isHere 14 = .ok (.ifCond .eq 14, 3) := by decide +kernel
theorem dX9_isHere_17 : decode cX9_isHere 17 = .ok (.aload_n 0, 1) := by decide +kernel
theorem dX9_isHere_18 : decode cX9_isHere 18 = .ok (.getfield 251, 3) := by decide +kernel
theorem dX9_isHere_21 : decode cX9_isHere 21 = .ok (.aload_n 0, 1) := by decide +kernel
theorem dX9_isHere_22 : decode cX9_isHere 22 = .ok (.getfield 265, 3) := by decide +kernel
theorem dX9_isHere_25 : decode cX9_isHere 25 = .ok (.if_icmp .ne 5, 3) := by decide +kernel
theorem dX9_isHere_28 : decode cX9_isHere 28 = .ok (.iconst 0, 1) := by decide +kernel
theorem dX9_isHere_29 : decode cX9_isHere 29 = .ok (.ireturn, 1) := by decide +kernel
theorem dX9_isHere_30 : decode cX9_isHere 30 = .ok (.aload_n 0, 1) := by decide +kernel
theorem dX9_isHere_31 : decode cX9_isHere 31 = .ok (.getfield 251, 3) := by decide +kernel
theorem dX9_isHere_34 : decode cX9_isHere 34 = .ok (.istore_n 2, 1) := by decide +kernel
theorem dX9_isHere_35 : decode cX9_isHere 35 = .ok (.iload_n 2, 1) := by decide +kernel
theorem dX9_isHere_36 : decode cX9_isHere 36 = .ok (.aload_n 0, 1) := by decide +kernel
theorem dX9_isHere_37 : decode cX9_isHere 37 = .ok (.getfield 254, 3) := by decide +kernel
theorem dX9_isHere_40 : decode cX9_isHere 40 = .ok (.if_icmp .ge 21, 3) := by decide +kernel
theorem dX9_isHere_43 : decode cX9_isHere 43 = .ok (.aload_n 0, 1) := by decide +kernel
theorem dX9_isHere_44 : decode cX9_isHere 44 = .ok (.getfield 7, 3) := by decide +kernel
theorem dX9_isHere_47 : decode cX9_isHere 47 = .ok (.iload_n 2, 1) := by decide +kernel
theorem dX9_isHere_48 : decode cX9_isHere 48 = .ok (.iaload, 1) := by decide +kernel
theorem dX9_isHere_49 : decode cX9_isHere 49 = .ok (.invokestatic 261, 3) := by decide +kernel
theorem dX9_isHere_52 : decode cX9_isHere 52 = .ok (.ifCond .eq 9, 3) := by decide +kernel
theorem dX9_isHere_55 : decode cX9_isHere 55 = .ok (.iinc 2 1, 3) := by decide +kernel
theorem dX9_isHere_58 : decode cX9_isHere 58 = .ok (.goto (-23), 3) := by decide +kernel
theorem dX9_isHere_61 : decode cX9_isHere 61 = .ok (.iload_n 2, 1) := by decide +kernel
theorem dX9_isHere_62 : decode cX9_isHere 62 = .ok (.aload_n 0, 1) := by decide +kernel
theorem dX9_isHere_63 : decode cX9_isHere 63 = .ok (.getfield 251, 3) := by decide +kernel
theorem dX9_isHere_66 : decode cX9_isHere 66 = .ok (.isub, 1) := by decide +kernel
theorem dX9_isHere_67 : decode cX9_isHere 67 = .ok (.aload_n 1, 1) := by decide +kernel
theorem dX9_isHere_68 : decode cX9_isHere 68 = .ok (.arraylength, 1) := by decide +kernel
theorem dX9_isHere_69 : decode cX9_isHere 69 = .ok (.if_icmp .eq 5, 3) := by decide +kernel
theorem dX9_isHere_72 : decode cX9_isHere 72 = .ok (.iconst 0, 1) := by decide +kernel
theorem dX9_isHere_73 : decode cX9_isHere 73 = .ok (.ireturn, 1) := by decide +kernel
theorem dX9_isHere_74 : decode cX9_isHere 74 = .ok (.iconst 0, 1) := by decide +kernel
theorem dX9_isHere_75 : decode cX9_isHere 75 = .ok (.istore_n 3, 1) := by decide +kernel
theorem dX9_isHere_76 : decode cX9_isHere 76 = .ok (.iload_n 3, 1) := by decide +kernel
theorem dX9_isHere_77 : decode cX9_isHere 77 = .ok (.aload_n 1, 1) := by decide +kernel
theorem dX9_isHere_78 : decode cX9_isHere 78 = .ok (.arraylength, 1) := by decide +kernel
theorem dX9_isHere_79 : decode cX9_isHere 79 = .ok (.if_icmp .ge 28, 3) := by decide +kernel
theorem dX9_isHere_82 : decode cX9_isHere 82 = .ok (.aload_n 0, 1) := by decide +kernel
theorem dX9_isHere_83 : decode cX9_isHere 83 = .ok (.getfield 7, 3) := by decide +kernel
theorem dX9_isHere_86 : decode cX9_isHere 86 = .ok (.aload_n 0, 1) := by decide +kernel
theorem dX9_isHere_87 : decode cX9_isHere 87 = .ok (.getfield 251, 3) := by decide +kernel
theorem dX9_isHere_90 : decode cX9_isHere 90 = .ok (.iload_n 3, 1) := by decide +kernel
theorem dX9_isHere_91 : decode cX9_isHere 91 = .ok (.iadd, 1) := by decide +kernel
theorem dX9_isHere_92 : decode cX9_isHere 92 = .ok (.iaload, 1) := by decide +kernel
theorem dX9_isHere_93 : decode cX9_isHere 93 = .ok (.aload_n 1, 1) := by decide +kernel
theorem dX9_isHere_94 : decode cX9_isHere 94 = .ok (.iload_n 3, 1) := by decide +kernel
theorem dX9_isHere_95 : decode cX9_isHere 95 = .ok (.caload, 1) := by decide +kernel
theorem dX9_isHere_96 : decode cX9_isHere 96 = .ok (.if_icmp .eq 5, 3) := by decide +kernel
theorem dX9_isHere_99 : decode cX9_isHere 99 = .ok (.iconst 0, 1) := by decide +kernel
theorem dX9_isHere_100 : decode cX9_isHere 100 = .ok (.ireturn, 1) := by decide +kernel
theorem dX9_isHere_101 : decode cX9_isHere 101 = .ok (.iinc 3 1, 3) := by decide +kernel
theorem dX9_isHere_104 : decode cX9_isHere 104 = .ok (.goto (-28), 3) := by decide +kernel
theorem dX9_isHere_107 : decode cX9_isHere 107 = .ok (.iconst 1, 1) := by decide +kernel
theorem dX9_isHere_108 : decode cX9_isHere 108 = .ok (.ireturn, 1) := by decide +kernel
theorem dX9_takes_0 : decode cX9_takes 0 = .ok (.aload_n 0, 1) := by decide +kernel
theorem dX9_takes_1 : decode cX9_takes 1 = .ok (.aload_n 1, 1) := by decide +kernel
theorem dX9_takes_2 : decode cX9_takes 2 = .ok (.invokevirtual 268, 3) := by decide +kernel
theorem dX9_takes_5 : decode cX9_takes 5 = .ok (.ifCond .ne 5, 3) := by decide +kernel
theorem dX9_takes_8 : decode cX9_takes 8 = .ok (.iconst 0, 1) := by decide +kernel
theorem dX9_takes_9 : decode cX9_takes 9 = .ok (.ireturn, 1) := by decide +kernel
theorem dX9_takes_10 : decode cX9_takes 10 = .ok (.aload_n 0, 1) := by decide +kernel
theorem dX9_takes_11 : decode cX9_takes 11 = .ok (.dup, 1) := by decide +kernel
theorem dX9_takes_12 : decode cX9_takes 12 = .ok (.getfield 251, 3) := by decide +kernel
theorem dX9_takes_15 : decode cX9_takes 15 = .ok (.aload_n 1, 1) := by decide +kernel
theorem dX9_takes_16 : decode cX9_takes 16 = .ok (.arraylength, 1) := by decide +kernel
theorem dX9_takes_17 : decode cX9_takes 17 = .ok (.iadd, 1) := by decide +kernel
theorem dX9_takes_18 : decode cX9_takes 18 = .ok (.putfield 251, 3) := by decide +kernel
theorem dX9_takes_21 : decode cX9_takes 21 = .ok (.aload_n 0, 1) := by decide +kernel
theorem dX9_takes_22 : decode cX9_takes 22 = .ok (.aload_n 0, 1) := by decide +kernel
theorem dX9_takes_23 : decode cX9_takes 23 = .ok (.getfield 251, 3) := by decide +kernel
theorem dX9_takes_26 : decode cX9_takes 26 = .ok (.putfield 265, 3) := by decide +kernel
theorem dX9_takes_29 : decode cX9_takes 29 = .ok (.iconst 1, 1) := by decide +kernel
theorem dX9_takes_30 : decode cX9_takes 30 = .ok (.ireturn, 1) := by decide +kernel
theorem dX9_asks_0 : decode cX9_asks 0 = .ok (.aload_n 0, 1) := by decide +kernel
theorem dX9_asks_1 : decode cX9_asks 1 = .ok (.getfield 245, 3) := by decide +kernel
theorem dX9_asks_4 : decode cX9_asks 4 = .ok (.ifCond .ne 20, 3) := by decide +kernel
theorem dX9_asks_7 : decode cX9_asks 7 = .ok (.aload_n 0, 1) := by decide +kernel
theorem dX9_asks_8 : decode cX9_asks 8 = .ok (.aload_n 1, 1) := by decide +kernel
theorem dX9_asks_9 : decode cX9_asks 9 = .ok (.invokevirtual 272, 3) := by decide +kernel
theorem dX9_asks_12 : decode cX9_asks 12 = .ok (.ifCond .ne 12, 3) := by decide +kernel
theorem dX9_asks_15 : decode cX9_asks 15 = .ok (.aload_n 0, 1) := by decide +kernel
theorem dX9_asks_16 : decode cX9_asks 16 = .ok (.iconst 1, 1) := by decide +kernel
theorem dX9_asks_17 : decode cX9_asks 17 = .ok (.aload_n 0, 1) := by decide +kernel
theorem dX9_asks_18 : decode cX9_asks 18 = .ok (.getfield 251, 3) := by decide +kernel
theorem dX9_asks_21 : decode cX9_asks 21 = .ok (.invokevirtual 275, 3) := by decide +kernel
theorem dX9_asks_24 : decode cX9_asks 24 = .ok (.return_, 1) := by decide +kernel
theorem dX9_takesSign_0 : decode cX9_takesSign 0 = .ok (.aload_n 0, 1) := by decide +kernel
theorem dX9_takesSign_1 : decode cX9_takesSign 1 = .ok (.getfield 245, 3) := by decide +kernel
theorem dX9_takesSign_4 : decode cX9_takesSign 4 = .ok (.ifCond .ne 11, 3) := by decide +kernel
theorem dX9_takesSign_7 : decode cX9_takesSign 7 = .ok (.aload_n 0, 1) := by decide +kernel
theorem dX9_takesSign_8 : decode cX9_takesSign 8 = .ok (.invokevirtual 257, 3) := by decide +kernel
theorem dX9_takesSign_11 : decode cX9_takesSign 11 = .ok (.iload_n 1, 1) := by decide +kernel
theorem dX9_takesSign_12 : decode cX9_takesSign 12 = .ok (.if_icmp .eq 5, 3) := by decide +kernel
theorem dX9_takesSign_15 : decode cX9_takesSign 15 = .ok (.iconst 0, 1) := by decide +kernel
theorem dX9_takesSign_16 : decode cX9_takesSign 16 = .ok (.ireturn, 1) := by decide +kernel
theorem dX9_takesSign_17 : decode cX9_takesSign 17 = .ok (.aload_n 0, 1) := by decide +kernel
theorem dX9_takesSign_18 : decode cX9_takesSign 18 = .ok (.dup, 1) := by decide +kernel
theorem dX9_takesSign_19 : decode cX9_takesSign 19 = .ok (.getfield 251, 3) := by decide +kernel
theorem dX9_takesSign_22 : decode cX9_takesSign 22 = .ok (.iconst 1, 1) := by decide +kernel
theorem dX9_takesSign_23 : decode cX9_takesSign 23 = .ok (.iadd, 1) := by decide +kernel
theorem dX9_takesSign_24 : decode cX9_takesSign 24 = .ok (.putfield 251, 3) := by decide +kernel
theorem dX9_takesSign_27 : decode cX9_takesSign 27 = .ok (.iconst 1, 1) := by decide +kernel
theorem dX9_takesSign_28 : decode cX9_takesSign 28 = .ok (.ireturn, 1) := by decide +kernel
theorem dX9_asksSign_0 : decode cX9_asksSign 0 = .ok (.aload_n 0, 1) := by decide +kernel
theorem dX9_asksSign_1 : decode cX9_asksSign 1 = .ok (.getfield 245, 3) := by decide +kernel
theorem dX9_asksSign_4 : decode cX9_asksSign 4 = .ok (.ifCond .ne 20, 3) := by decide +kernel
theorem dX9_asksSign_7 : decode cX9_asksSign 7 = .ok (.aload_n 0, 1) := by decide +kernel
theorem dX9_asksSign_8 : decode cX9_asksSign 8 = .ok (.iload_n 1, 1) := by decide +kernel
theorem dX9_asksSign_9 : decode cX9_asksSign 9 = .ok (.invokevirtual 279, 3) := by decide +kernel
theorem dX9_asksSign_12 : decode cX9_asksSign 12 = .ok (.ifCond .ne 12, 3) := by decide +kernel
theorem dX9_asksSign_15 : decode cX9_asksSign 15 = .ok (.aload_n 0, 1) := by decide +kernel
theorem dX9_asksSign_16 : decode cX9_asksSign 16 = .ok (.iconst 1, 1) := by decide +kernel
theorem dX9_asksSign_17 : decode cX9_asksSign 17 = .ok (.aload_n 0, 1) := by decide +kernel
theorem dX9_asksSign_18 : decode cX9_asksSign 18 = .ok (.getfield 251, 3) := by decide +kernel
theorem dX9_asksSign_21 : decode cX9_asksSign 21 = .ok (.invokevirtual 275, 3) := by decide +kernel
theorem dX9_asksSign_24 : decode cX9_asksSign 24 = .ok (.return_, 1) := by decide +kernel
theorem dX9_number_0 : decode cX9_number 0 = .ok (.aload_n 0, 1) := by decide +kernel
theorem dX9_number_1 : decode cX9_number 1 = .ok (.getfield 245, 3) := by decide +kernel
theorem dX9_number_4 : decode cX9_number 4 = .ok (.ifCond .eq 5, 3) := by decide +kernel
theorem dX9_number_7 : decode cX9_number 7 = .ok (.iconst 0, 1) := by decide +kernel
theorem dX9_number_8 : decode cX9_number 8 = .ok (.ireturn, 1) := by decide +kernel
theorem dX9_number_9 : decode cX9_number 9 = .ok (.aload_n 0, 1) := by decide +kernel
theorem dX9_number_10 : decode cX9_number 10 = .ok (.invokevirtual 257, 3) := by decide +kernel
theorem dX9_number_13 : decode cX9_number 13 = .ok (.invokestatic 282, 3) := by decide +kernel
theorem dX9_number_16 : decode cX9_number 16 = .ok (.ifCond .eq 14, 3) := by decide +kernel
theorem dX9_number_19 : decode cX9_number 19 = .ok (.aload_n 0, 1) := by decide +kernel
theorem dX9_number_20 : decode cX9_number 20 = .ok (.getfield 251, 3) := by decide +kernel
theorem dX9_number_23 : decode cX9_number 23 = .ok (.aload_n 0, 1) := by decide +kernel
theorem dX9_number_24 : decode cX9_number 24 = .ok (.getfield 265, 3) := by decide +kernel
theorem dX9_number_27 : decode cX9_number 27 = .ok (.if_icmp .ne 14, 3) := by decide +kernel
theorem dX9_number_30 : decode cX9_number 30 = .ok (.aload_n 0, 1) := by decide +kernel
theorem dX9_number_31 : decode cX9_number 31 = .ok (.iconst 1, 1) := by decide +kernel
theorem dX9_number_32 : decode cX9_number 32 = .ok (.aload_n 0, 1) := by decide +kernel
theorem dX9_number_33 : decode cX9_number 33 = .ok (.getfield 251, 3) := by decide +kernel
theorem dX9_number_36 : decode cX9_number 36 = .ok (.invokevirtual 275, 3) := by decide +kernel
theorem dX9_number_39 : decode cX9_number 39 = .ok (.iconst 0, 1) := by decide +kernel
theorem dX9_number_40 : decode cX9_number 40 = .ok (.ireturn, 1) := by decide +kernel
theorem dX9_number_41 : decode cX9_number 41 = .ok (.aload_n 0, 1) := by decide +kernel
theorem dX9_number_42 : decode cX9_number 42 = .ok (.getfield 251, 3) := by decide +kernel
theorem dX9_number_45 : decode cX9_number 45 = .ok (.istore_n 3, 1) := by decide +kernel
theorem dX9_number_46 : decode cX9_number 46 = .ok (.iconst 0, 1) := by decide +kernel
theorem dX9_number_47 : decode cX9_number 47 = .ok (.istore 4, 2) := by decide +kernel
theorem dX9_number_49 : decode cX9_number 49 = .ok (.aload_n 0, 1) := by decide +kernel
theorem dX9_number_50 : decode cX9_number 50 = .ok (.getfield 251, 3) := by decide +kernel
theorem dX9_number_53 : decode cX9_number 53 = .ok (.aload_n 0, 1) := by decide +kernel
theorem dX9_number_54 : decode cX9_number 54 = .ok (.getfield 254, 3) := by decide +kernel
theorem dX9_number_57 : decode cX9_number 57 = .ok (.if_icmp .ge 72, 3) := by decide +kernel
theorem dX9_number_60 : decode cX9_number 60 = .ok (.aload_n 0, 1) := by decide +kernel
theorem dX9_number_61 : decode cX9_number 61 = .ok (.getfield 7, 3) := by decide +kernel
theorem dX9_number_64 : decode cX9_number 64 = .ok (.aload_n 0, 1) := by decide +kernel
theorem dX9_number_65 : decode cX9_number 65 = .ok (.getfield 251, 3) := by decide +kernel
theorem dX9_number_68 : decode cX9_number 68 = .ok (.iaload, 1) := by decide +kernel
theorem dX9_number_69 : decode cX9_number 69 = .ok (.invokestatic 282, 3) := by decide +kernel
theorem dX9_number_72 : decode cX9_number 72 = .ok (.ifCond .eq 57, 3) := by decide +kernel
theorem dX9_number_75 : decode cX9_number 75 = .ok (.aload_n 0, 1) := by decide +kernel
theorem dX9_number_76 : decode cX9_number 76 = .ok (.getfield 251, 3) := by decide +kernel
theorem dX9_number_79 : decode cX9_number 79 = .ok (.iload_n 3, 1) := by decide +kernel
theorem dX9_number_80 : decode cX9_number 80 = .ok (.isub, 1) := by decide +kernel
theorem dX9_number_81 : decode cX9_number 81 = .ok (.iconst 4, 1) := by decide +kernel
theorem dX9_number_82 : decode cX9_number 82 = .ok (.if_icmp .ne 14, 3) := by decide +kernel
theorem dX9_number_85 : decode cX9_number 85 = .ok (.aload_n 0, 1) := by decide +kernel
theorem dX9_number_86 : decode cX9_number 86 = .ok (.iconst 1, 1) := by decide +kernel
theorem dX9_number_87 : decode cX9_number 87 = .ok (.aload_n 0, 1) := by decide +kernel
theorem dX9_number_88 : decode cX9_number 88 = .ok (.getfield 251, 3) := by decide +kernel
theorem dX9_number_91 : decode cX9_number 91 = .ok (.invokevirtual 275, 3) := by decide +kernel
theorem dX9_number_94 : decode cX9_number 94 = .ok (.iconst 0, 1) := by decide +kernel
theorem dX9_number_95 : decode cX9_number 95 = .ok (.ireturn, 1) := by decide +kernel
theorem dX9_number_96 : decode cX9_number 96 = .ok (.bipush 10, 2) := by decide +kernel
theorem dX9_number_98 : decode cX9_number 98 = .ok (.iload 4, 2) := by decide +kernel
theorem dX9_number_100 : decode cX9_number 100 = .ok (.imul, 1) := by decide +kernel
theorem dX9_number_101 : decode cX9_number 101 = .ok (.aload_n 0, 1) := by decide +kernel
theorem dX9_number_102 : decode cX9_number 102 = .ok (.getfield 7, 3) := by decide +kernel
theorem dX9_number_105 : decode cX9_number 105 = .ok (.aload_n 0, 1) := by decide +kernel
theorem dX9_number_106 : decode cX9_number 106 = .ok (.getfield 251, 3) := by decide +kernel
theorem dX9_number_109 : decode cX9_number 109 = .ok (.iaload, 1) := by decide +kernel
theorem dX9_number_110 : decode cX9_number 110 = .ok (.iadd, 1) := by decide +kernel
theorem dX9_number_111 : decode cX9_number 111 = .ok (.bipush 48, 2) := by decide +kernel
theorem dX9_number_113 : decode cX9_number 113 = .ok (.isub, 1) := by decide +kernel
theorem dX9_number_114 : decode cX9_number 114 = .ok (.istore 4, 2) := by decide +kernel
theorem dX9_number_116 : decode cX9_number 116 = .ok (.aload_n 0, 1) := by decide +kernel
theorem dX9_number_117 : decode cX9_number 117 = .ok (.dup, 1) := by decide +kernel
theorem dX9_number_118 : decode cX9_number 118 = .ok (.getfield 251, 3) := by decide +kernel
theorem dX9_number_121 : decode cX9_number 121 = .ok (.iconst 1, 1) := by decide +kernel
theorem dX9_number_122 : decode cX9_number 122 = .ok (.iadd, 1) := by decide +kernel
theorem dX9_number_123 : decode cX9_number 123 = .ok (.putfield 251, 3) := by decide +kernel
theorem dX9_number_126 : decode cX9_number 126 = .ok (.goto (-77), 3) := by decide +kernel
theorem dX9_number_129 : decode cX9_number 129 = .ok (.aload_n 0, 1) := by decide +kernel
theorem dX9_number_130 : decode cX9_number 130 = .ok (.aload_n 0, 1) := by decide +kernel
theorem dX9_number_131 : decode cX9_number 131 = .ok (.getfield 251, 3) := by decide +kernel
theorem dX9_number_134 : decode cX9_number 134 = .ok (.putfield 265, 3) := by decide +kernel
theorem dX9_number_137 : decode cX9_number 137 = .ok (.iload 4, 2) := by decide +kernel
theorem dX9_number_139 : decode cX9_number 139 = .ok (.i2l, 1) := by decide +kernel
theorem dX9_number_140 : decode cX9_number 140 = .ok (.iload_n 1, 1) := by decide +kernel
theorem dX9_number_141 : decode cX9_number 141 = .ok (.i2l, 1) := by decide +kernel
theorem dX9_number_142 : decode cX9_number 142 = .ok (.iload_n 2, 1) := by decide +kernel
theorem dX9_number_143 : decode cX9_number 143 = .ok (.i2l, 1) := by decide +kernel
theorem dX9_number_144 : decode cX9_number 144 = .ok (.invokestatic 285, 3) := by decide +kernel
theorem dX9_number_147 : decode cX9_number 147 = .ok (.ifCond .ne 9, 3) := by decide +kernel
theorem dX9_number_150 : decode cX9_number 150 = .ok (.aload_n 0, 1) := by decide +kernel
theorem dX9_number_151 : decode cX9_number 151 = .ok (.iconst 2, 1) := by decide +kernel
theorem dX9_number_152 : decode cX9_number 152 = .ok (.iload_n 3, 1) := by decide +kernel
theorem dX9_number_153 : decode cX9_number 153 = .ok (.invokevirtual 275, 3) := by decide +kernel
theorem dX9_number_156 : decode cX9_number 156 = .ok (.iload 4, 2) := by decide +kernel
theorem dX9_number_158 : decode cX9_number 158 = .ok (.ireturn, 1) := by decide +kernel
theorem dX9_isOwnHere_0 : decode cX9_isOwnHere 0 = .ok (.aload_n 0, 1) := by decide +kernel
theorem dX9_isOwnHere_1 : decode cX9_isOwnHere 1 = .ok (.aload_n 0, 1) := by decide +kernel
theorem dX9_isOwnHere_2 : decode cX9_isOwnHere 2 = .ok (.getfield 17, 3) := by decide +kernel
theorem dX9_isOwnHere_5 : decode cX9_isOwnHere 5 = .ok (.invokevirtual 268, 3) := by decide +kernel
theorem dX9_isOwnHere_8 : decode cX9_isOwnHere 8 = .ok (.ifCond .ne 102, 3) := by decide +kernel
theorem dX9_isOwnHere_11 : decode cX9_isOwnHere 11 = .ok (.aload_n 0, 1) := by decide +kernel
theorem dX9_isOwnHere_12 : decode cX9_isOwnHere 12 = .ok (.aload_n 0, 1) := by decide +kernel
theorem dX9_isOwnHere_13 : decode cX9_isOwnHere 13 = .ok (.getfield 21, 3) := by decide +kernel
theorem dX9_isOwnHere_16 : decode cX9_isOwnHere 16 = .ok (.invokevirtual 268, 3) := by decide +kernel
theorem dX9_isOwnHere_19 : decode cX9_isOwnHere 19 = .ok (.ifCond .ne 91, 3) := by decide +kernel
theorem dX9_isOwnHere_22 : decode cX9_isOwnHere 22 = .ok (.aload_n 0, 1) := by decide +kernel
theorem dX9_isOwnHere_23 : decode cX9_isOwnHere 23 = .ok (.aload_n 0, 1) := by decide +kernel
theorem dX9_isOwnHere_24 : decode cX9_isOwnHere 24 = .ok (.getfield 24, 3) := by decide +kernel
theorem dX9_isOwnHere_27 : decode cX9_isOwnHere 27 = .ok (.invokevirtual 268, 3) := by decide +kernel
theorem dX9_isOwnHere_30 : decode cX9_isOwnHere 30 = .ok (.ifCond .ne 80, 3) := by decide +kernel
theorem dX9_isOwnHere_33 : decode cX9_isOwnHere 33 = .ok (.aload_n 0, 1) := by decide +kernel
theorem dX9_isOwnHere_34 : decode cX9_isOwnHere 34 = .ok (.aload_n 0, 1) := by decide +kernel
theorem dX9_isOwnHere_35 : decode cX9_isOwnHere 35 = .ok (.getfield 27, 3) := by decide +kernel
theorem dX9_isOwnHere_38 : decode cX9_isOwnHere 38 = .ok (.invokevirtual 268, 3) := by decide +kernel
theorem dX9_isOwnHere_41 : decode cX9_isOwnHere 41 = .ok (.ifCond .ne 69, 3) := by decide +kernel
theorem dX9_isOwnHere_44 : decode cX9_isOwnHere 44 = .ok (.aload_n 0, 1) := by decide +kernel
theorem dX9_isOwnHere_45 : decode cX9_isOwnHere 45 = .ok (.aload_n 0, 1) := by decide +kernel
theorem dX9_isOwnHere_46 : decode cX9_isOwnHere 46 = .ok (.getfield 30, 3) := by decide +kernel
theorem dX9_isOwnHere_49 : decode cX9_isOwnHere 49 = .ok (.invokevirtual 268, 3) := by decide +kernel
theorem dX9_isOwnHere_52 : decode cX9_isOwnHere 52 = .ok (.ifCond .ne 58, 3) := by decide +kernel
theorem dX9_isOwnHere_55 : decode cX9_isOwnHere 55 = .ok (.aload_n 0, 1) := by decide +kernel
theorem dX9_isOwnHere_56 : decode cX9_isOwnHere 56 = .ok (.aload_n 0, 1) := by decide +kernel
theorem dX9_isOwnHere_57 : decode cX9_isOwnHere 57 = .ok (.getfield 33, 3) := by decide +kernel
theorem dX9_isOwnHere_60 : decode cX9_isOwnHere 60 = .ok (.invokevirtual 268, 3) := by decide +kernel
theorem dX9_isOwnHere_63 : decode cX9_isOwnHere 63 = .ok (.ifCond .ne 47, 3) := by decide +kernel
theorem dX9_isOwnHere_66 : decode cX9_isOwnHere 66 = .ok (.aload_n 0, 1) := by decide +kernel
theorem dX9_isOwnHere_67 : decode cX9_isOwnHere 67 = .ok (.aload_n 0, 1) := by decide +kernel
theorem dX9_isOwnHere_68 : decode cX9_isOwnHere 68 = .ok (.getfield 36, 3) := by decide +kernel
theorem dX9_isOwnHere_71 : decode cX9_isOwnHere 71 = .ok (.invokevirtual 268, 3) := by decide +kernel
theorem dX9_isOwnHere_74 : decode cX9_isOwnHere 74 = .ok (.ifCond .ne 36, 3) := by decide +kernel
theorem dX9_isOwnHere_77 : decode cX9_isOwnHere 77 = .ok (.aload_n 0, 1) := by decide +kernel
theorem dX9_isOwnHere_78 : decode cX9_isOwnHere 78 = .ok (.aload_n 0, 1) := by decide +kernel
theorem dX9_isOwnHere_79 : decode cX9_isOwnHere 79 = .ok (.getfield 39, 3) := by decide +kernel
theorem dX9_isOwnHere_82 : decode cX9_isOwnHere 82 = .ok (.invokevirtual 268, 3) := by decide +kernel
theorem dX9_isOwnHere_85 : decode cX9_isOwnHere 85 = .ok (.ifCond .ne 25, 3) := by decide +kernel
theorem dX9_isOwnHere_88 : decode cX9_isOwnHere 88 = .ok (.aload_n 0, 1) := by decide +kernel
theorem dX9_isOwnHere_89 : decode cX9_isOwnHere 89 = .ok (.aload_n 0, 1) := by decide +kernel
theorem dX9_isOwnHere_90 : decode cX9_isOwnHere 90 = .ok (.getfield 42, 3) := by decide +kernel
theorem dX9_isOwnHere_93 : decode cX9_isOwnHere 93 = .ok (.invokevirtual 268, 3) := by decide +kernel
theorem dX9_isOwnHere_96 : decode cX9_isOwnHere 96 = .ok (.ifCond .ne 14, 3) := by decide +kernel
theorem dX9_isOwnHere_99 : decode cX9_isOwnHere 99 = .ok (.aload_n 0, 1) := by decide +kernel
theorem dX9_isOwnHere_100 : decode cX9_isOwnHere 100 = .ok (.aload_n 0, 1) := by decide +kernel
theorem dX9_isOwnHere_101 : decode cX9_isOwnHere 101 = .ok (.getfield 45, 3) := by decide +kernel
theorem dX9_isOwnHere_104 : decode cX9_isOwnHere 104 = .ok (.invokevirtual 268, 3) := by decide +kernel
theorem dX9_isOwnHere_107 : decode cX9_isOwnHere 107 = .ok (.ifCond .eq 7, 3) := by decide +kernel
theorem dX9_isOwnHere_110 : decode cX9_isOwnHere 110 = .ok (.iconst 1, 1) := by decide +kernel
theorem dX9_isOwnHere_111 : decode cX9_isOwnHere 111 = .ok (.goto 4, 3) := by decide +kernel
theorem dX9_isOwnHere_114 : decode cX9_isOwnHere 114 = .ok (.iconst 0, 1) := by decide +kernel
theorem dX9_isOwnHere_115 : decode cX9_isOwnHere 115 = .ok (.istore_n 1, 1) := by decide +kernel
theorem dX9_isOwnHere_116 : decode cX9_isOwnHere 116 = .ok (.iload_n 1, 1) := by decide +kernel
theorem dX9_isOwnHere_117 : decode cX9_isOwnHere 117 = .ok (.ifCond .ne 124, 3) := by decide +kernel
theorem dX9_isOwnHere_120 : decode cX9_isOwnHere 120 = .ok (.aload_n 0, 1) := by decide +kernel
theorem dX9_isOwnHere_121 : decode cX9_isOwnHere 121 = .ok (.aload_n 0, 1) := by decide +kernel
theorem dX9_isOwnHere_122 : decode cX9_isOwnHere 122 = .ok (.getfield 48, 3) := by decide +kernel
theorem dX9_isOwnHere_125 : decode cX9_isOwnHere 125 = .ok (.invokevirtual 268, 3) := by decide +kernel
theorem dX9_isOwnHere_128 : decode cX9_isOwnHere 128 = .ok (.ifCond .ne 113, 3) := by decide +kernel
theorem dX9_isOwnHere_131 : decode cX9_isOwnHere 131 = .ok (.aload_n 0, 1) := by decide +kernel
theorem dX9_isOwnHere_132 : decode cX9_isOwnHere 132 = .ok (.aload_n 0, 1) := by decide +kernel
theorem dX9_isOwnHere_133 : decode cX9_isOwnHere 133 = .ok (.getfield 51, 3) := by decide +kernel
theorem dX9_isOwnHere_136 : decode cX9_isOwnHere 136 = .ok (.invokevirtual 268, 3) := by decide +kernel
theorem dX9_isOwnHere_139 : decode cX9_isOwnHere 139 = .ok (.ifCond .ne 102, 3) := by decide +kernel
theorem dX9_isOwnHere_142 : decode cX9_isOwnHere 142 = .ok (.aload_n 0, 1) := by decide +kernel
theorem dX9_isOwnHere_143 : decode cX9_isOwnHere 143 = .ok (.aload_n 0, 1) := by decide +kernel
theorem dX9_isOwnHere_144 : decode cX9_isOwnHere 144 = .ok (.getfield 54, 3) := by decide +kernel
theorem dX9_isOwnHere_147 : decode cX9_isOwnHere 147 = .ok (.invokevirtual 268, 3) := by decide +kernel
theorem dX9_isOwnHere_150 : decode cX9_isOwnHere 150 = .ok (.ifCond .ne 91, 3) := by decide +kernel
theorem dX9_isOwnHere_153 : decode cX9_isOwnHere 153 = .ok (.aload_n 0, 1) := by decide +kernel
theorem dX9_isOwnHere_154 : decode cX9_isOwnHere 154 = .ok (.aload_n 0, 1) := by decide +kernel
theorem dX9_isOwnHere_155 : decode cX9_isOwnHere 155 = .ok (.getfield 57, 3) := by decide +kernel
theorem dX9_isOwnHere_158 : decode cX9_isOwnHere 158 = .ok (.invokevirtual 268, 3) := by decide +kernel
theorem dX9_isOwnHere_161 : decode cX9_isOwnHere 161 = .ok (.ifCond .ne 80, 3) := by decide +kernel
theorem dX9_isOwnHere_164 : decode cX9_isOwnHere 164 = .ok (.aload_n 0, 1) := by decide +kernel
theorem dX9_isOwnHere_165 : decode cX9_isOwnHere 165 = .ok (.aload_n 0, 1) := by decide +kernel
theorem dX9_isOwnHere_166 : decode cX9_isOwnHere 166 = .ok (.getfield 60, 3) := by decide +kernel
theorem dX9_isOwnHere_169 : decode cX9_isOwnHere 169 = .ok (.invokevirtual 268, 3) := by decide +kernel
theorem dX9_isOwnHere_172 : decode cX9_isOwnHere 172 = .ok (.ifCond .ne 69, 3) := by decide +kernel
theorem dX9_isOwnHere_175 : decode cX9_isOwnHere 175 = .ok (.aload_n 0, 1) := by decide +kernel
theorem dX9_isOwnHere_176 : decode cX9_isOwnHere 176 = .ok (.aload_n 0, 1) := by decide +kernel
theorem dX9_isOwnHere_177 : decode cX9_isOwnHere 177 = .ok (.getfield 63, 3) := by decide +kernel
theorem dX9_isOwnHere_180 : decode cX9_isOwnHere 180 = .ok (.invokevirtual 268, 3) := by decide +kernel
theorem dX9_isOwnHere_183 : decode cX9_isOwnHere 183 = .ok (.ifCond .ne 58, 3) := by decide +kernel
theorem dX9_isOwnHere_186 : decode cX9_isOwnHere 186 = .ok (.aload_n 0, 1) := by decide +kernel
theorem dX9_isOwnHere_187 : decode cX9_isOwnHere 187 = .ok (.aload_n 0, 1) := by decide +kernel
theorem dX9_isOwnHere_188 : decode cX9_isOwnHere 188 = .ok (.getfield 66, 3) := by decide +kernel
theorem dX9_isOwnHere_191 : decode cX9_isOwnHere 191 = .ok (.invokevirtual 268, 3) := by decide +kernel
theorem dX9_isOwnHere_194 : decode cX9_isOwnHere 194 = .ok (.ifCond .ne 47, 3) := by decide +kernel
theorem dX9_isOwnHere_197 : decode cX9_isOwnHere 197 = .ok (.aload_n 0, 1) := by decide +kernel
theorem dX9_isOwnHere_198 : decode cX9_isOwnHere 198 = .ok (.aload_n 0, 1) := by decide +kernel
theorem dX9_isOwnHere_199 : decode cX9_isOwnHere 199 = .ok (.getfield 69, 3) := by decide +kernel
theorem dX9_isOwnHere_202 : decode cX9_isOwnHere 202 = .ok (.invokevirtual 268, 3) := by decide +kernel
theorem dX9_isOwnHere_205 : decode cX9_isOwnHere 205 = .ok (.ifCond .ne 36, 3) := by decide +kernel
theorem dX9_isOwnHere_208 : decode cX9_isOwnHere 208 = .ok (.aload_n 0, 1) := by decide +kernel
theorem dX9_isOwnHere_209 : decode cX9_isOwnHere 209 = .ok (.aload_n 0, 1) := by decide +kernel
theorem dX9_isOwnHere_210 : decode cX9_isOwnHere 210 = .ok (.getfield 72, 3) := by decide +kernel
theorem dX9_isOwnHere_213 : decode cX9_isOwnHere 213 = .ok (.invokevirtual 268, 3) := by decide +kernel
theorem dX9_isOwnHere_216 : decode cX9_isOwnHere 216 = .ok (.ifCond .ne 25, 3) := by decide +kernel
theorem dX9_isOwnHere_219 : decode cX9_isOwnHere 219 = .ok (.aload_n 0, 1) := by decide +kernel
theorem dX9_isOwnHere_220 : decode cX9_isOwnHere 220 = .ok (.aload_n 0, 1) := by decide +kernel
theorem dX9_isOwnHere_221 : decode cX9_isOwnHere 221 = .ok (.getfield 75, 3) := by decide +kernel
theorem dX9_isOwnHere_224 : decode cX9_isOwnHere 224 = .ok (.invokevirtual 268, 3) := by decide +kernel
theorem dX9_isOwnHere_227 : decode cX9_isOwnHere 227 = .ok (.ifCond .ne 14, 3) := by decide +kernel
theorem dX9_isOwnHere_230 : decode cX9_isOwnHere 230 = .ok (.aload_n 0, 1) := by decide +kernel
theorem dX9_isOwnHere_231 : decode cX9_isOwnHere 231 = .ok (.aload_n 0, 1) := by decide +kernel
theorem dX9_isOwnHere_232 : decode cX9_isOwnHere 232 = .ok (.getfield 78, 3) := by decide +kernel
theorem dX9_isOwnHere_235 : decode cX9_isOwnHere 235 = .ok (.invokevirtual 268, 3) := by decide +kernel
theorem dX9_isOwnHere_238 : decode cX9_isOwnHere 238 = .ok (.ifCond .eq 7, 3) := by decide +kernel
theorem dX9_isOwnHere_241 : decode cX9_isOwnHere 241 = .ok (.iconst 1, 1) := by decide +kernel
theorem dX9_isOwnHere_242 : decode cX9_isOwnHere 242 = .ok (.goto 4, 3) := by decide +kernel
theorem dX9_isOwnHere_245 : decode cX9_isOwnHere 245 = .ok (.iconst 0, 1) := by decide +kernel
theorem dX9_isOwnHere_246 : decode cX9_isOwnHere 246 = .ok (.istore_n 1, 1) := by decide +kernel
theorem dX9_isOwnHere_247 : decode cX9_isOwnHere 247 = .ok (.iload_n 1, 1) := by decide +kernel
theorem dX9_isOwnHere_248 : decode cX9_isOwnHere 248 = .ok (.ifCond .ne 124, 3) := by decide +kernel
theorem dX9_isOwnHere_251 : decode cX9_isOwnHere 251 = .ok (.aload_n 0, 1) := by decide +kernel
theorem dX9_isOwnHere_252 : decode cX9_isOwnHere 252 = .ok (.aload_n 0, 1) := by decide +kernel
theorem dX9_isOwnHere_253 : decode cX9_isOwnHere 253 = .ok (.getfield 81, 3) := by decide +kernel
theorem dX9_isOwnHere_256 : decode cX9_isOwnHere 256 = .ok (.invokevirtual 268, 3) := by decide +kernel
theorem dX9_isOwnHere_259 : decode cX9_isOwnHere 259 = .ok (.ifCond .ne 113, 3) := by decide +kernel
theorem dX9_isOwnHere_262 : decode cX9_isOwnHere 262 = .ok (.aload_n 0, 1) := by decide +kernel
theorem dX9_isOwnHere_263 : decode cX9_isOwnHere 263 = .ok (.aload_n 0, 1) := by decide +kernel
theorem dX9_isOwnHere_264 : decode cX9_isOwnHere 264 = .ok (.getfield 84, 3) := by decide +kernel
theorem dX9_isOwnHere_267 : decode cX9_isOwnHere 267 = .ok (.invokevirtual 268, 3) := by decide +kernel
theorem dX9_isOwnHere_270 : decode cX9_isOwnHere 270 = .ok (.ifCond .ne 102, 3) := by decide +kernel
theorem dX9_isOwnHere_273 : decode cX9_isOwnHere 273 = .ok (.aload_n 0, 1) := by decide +kernel
theorem dX9_isOwnHere_274 : decode cX9_isOwnHere 274 = .ok (.aload_n 0, 1) := by decide +kernel
theorem dX9_isOwnHere_275 : decode cX9_isOwnHere 275 = .ok (.getfield 87, 3) := by decide +kernel
theorem dX9_isOwnHere_278 : decode cX9_isOwnHere 278 = .ok (.invokevirtual 268, 3) := by decide +kernel
theorem dX9_isOwnHere_281 : decode cX9_isOwnHere 281 = .ok (.ifCond .ne 91, 3) := by decide +kernel
theorem dX9_isOwnHere_284 : decode cX9_isOwnHere 284 = .ok (.aload_n 0, 1) := by decide +kernel
theorem dX9_isOwnHere_285 : decode cX9_isOwnHere 285 = .ok (.aload_n 0, 1) := by decide +kernel
theorem dX9_isOwnHere_286 : decode cX9_isOwnHere 286 = .ok (.getfield 90, 3) := by decide +kernel
theorem dX9_isOwnHere_289 : decode cX9_isOwnHere 289 = .ok (.invokevirtual 268, 3) := by decide +kernel
theorem dX9_isOwnHere_292 : decode cX9_isOwnHere 292 = .ok (.ifCond .ne 80, 3) := by decide +kernel
theorem dX9_isOwnHere_295 : decode cX9_isOwnHere 295 = .ok (.aload_n 0, 1) := by decide +kernel
theorem dX9_isOwnHere_296 : decode cX9_isOwnHere 296 = .ok (.aload_n 0, 1) := by decide +kernel
theorem dX9_isOwnHere_297 : decode cX9_isOwnHere 297 = .ok (.getfield 93, 3) := by decide +kernel
theorem dX9_isOwnHere_300 : decode cX9_isOwnHere 300 = .ok (.invokevirtual 268, 3) := by decide +kernel
theorem dX9_isOwnHere_303 : decode cX9_isOwnHere 303 = .ok (.ifCond .ne 69, 3) := by decide +kernel
theorem dX9_isOwnHere_306 : decode cX9_isOwnHere 306 = .ok (.aload_n 0, 1) := by decide +kernel
theorem dX9_isOwnHere_307 : decode cX9_isOwnHere 307 = .ok (.aload_n 0, 1) := by decide +kernel
theorem dX9_isOwnHere_308 : decode cX9_isOwnHere 308 = .ok (.getfield 96, 3) := by decide +kernel
theorem dX9_isOwnHere_311 : decode cX9_isOwnHere 311 = .ok (.invokevirtual 268, 3) := by decide +kernel
theorem dX9_isOwnHere_314 : decode cX9_isOwnHere 314 = .ok (.ifCond .ne 58, 3) := by decide +kernel
theorem dX9_isOwnHere_317 : decode cX9_isOwnHere 317 = .ok (.aload_n 0, 1) := by decide +kernel
theorem dX9_isOwnHere_318 : decode cX9_isOwnHere 318 = .ok (.aload_n 0, 1) := by decide +kernel
theorem dX9_isOwnHere_319 : decode cX9_isOwnHere 319 = .ok (.getfield 99, 3) := by decide +kernel
theorem dX9_isOwnHere_322 : decode cX9_isOwnHere 322 = .ok (.invokevirtual 268, 3) := by decide +kernel
theorem dX9_isOwnHere_325 : decode cX9_isOwnHere 325 = .ok (.ifCond .ne 47, 3) := by decide +kernel
theorem dX9_isOwnHere_328 : decode cX9_isOwnHere 328 = .ok (.aload_n 0, 1) := by decide +kernel
theorem dX9_isOwnHere_329 : decode cX9_isOwnHere 329 = .ok (.aload_n 0, 1) := by decide +kernel
theorem dX9_isOwnHere_330 : decode cX9_isOwnHere 330 = .ok (.getfield 102, 3) := by decide +kernel
theorem dX9_isOwnHere_333 : decode cX9_isOwnHere 333 = .ok (.invokevirtual 268, 3) := by decide +kernel
theorem dX9_isOwnHere_336 : decode cX9_isOwnHere 336 = .ok (.ifCond .ne 36, 3) := by decide +kernel
theorem dX9_isOwnHere_339 : decode cX9_isOwnHere 339 = .ok (.aload_n 0, 1) := by decide +kernel
theorem dX9_isOwnHere_340 : decode cX9_isOwnHere 340 = .ok (.aload_n 0, 1) := by decide +kernel
theorem dX9_isOwnHere_341 : decode cX9_isOwnHere 341 = .ok (.getfield 105, 3) := by decide +kernel
theorem dX9_isOwnHere_344 : decode cX9_isOwnHere 344 = .ok (.invokevirtual 268, 3) := by decide +kernel
theorem dX9_isOwnHere_347 : decode cX9_isOwnHere 347 = .ok (.ifCond .ne 25, 3) := by decide +kernel
theorem dX9_isOwnHere_350 : decode cX9_isOwnHere 350 = .ok (.aload_n 0, 1) := by decide +kernel
theorem dX9_isOwnHere_351 : decode cX9_isOwnHere 351 = .ok (.aload_n 0, 1) := by decide +kernel
theorem dX9_isOwnHere_352 : decode cX9_isOwnHere 352 = .ok (.getfield 108, 3) := by decide +kernel
theorem dX9_isOwnHere_355 : decode cX9_isOwnHere 355 = .ok (.invokevirtual 268, 3) := by decide +kernel
theorem dX9_isOwnHere_358 : decode cX9_isOwnHere 358 = .ok (.ifCond .ne 14, 3) := by decide +kernel
theorem dX9_isOwnHere_361 : decode cX9_isOwnHere 361 = .ok (.aload_n 0, 1) := by decide +kernel
theorem dX9_isOwnHere_362 : decode cX9_isOwnHere 362 = .ok (.aload_n 0, 1) := by decide +kernel
theorem dX9_isOwnHere_363 : decode cX9_isOwnHere 363 = .ok (.getfield 111, 3) := by decide +kernel
theorem dX9_isOwnHere_366 : decode cX9_isOwnHere 366 = .ok (.invokevirtual 268, 3) := by decide +kernel
theorem dX9_isOwnHere_369 : decode cX9_isOwnHere 369 = .ok (.ifCond .eq 7, 3) := by decide +kernel
theorem dX9_isOwnHere_372 : decode cX9_isOwnHere 372 = .ok (.iconst 1, 1) := by decide +kernel
theorem dX9_isOwnHere_373 : decode cX9_isOwnHere 373 = .ok (.goto 4, 3) := by decide +kernel
theorem dX9_isOwnHere_376 : decode cX9_isOwnHere 376 = .ok (.iconst 0, 1) := by decide +kernel
theorem dX9_isOwnHere_377 : decode cX9_isOwnHere 377 = .ok (.ireturn, 1) := by decide +kernel
theorem dX9_name_0 : decode cX9_name 0 = .ok (.aload_n 0, 1) := by decide +kernel
theorem dX9_name_1 : decode cX9_name 1 = .ok (.getfield 245, 3) := by decide +kernel
theorem dX9_name_4 : decode cX9_name 4 = .ok (.ifCond .eq 5, 3) := by decide +kernel
theorem dX9_name_7 : decode cX9_name 7 = .ok (.lconst 0, 1) := by decide +kernel
theorem dX9_name_8 : decode cX9_name 8 = .ok (.lreturn, 1) := by decide +kernel
theorem dX9_name_9 : decode cX9_name 9 = .ok (.aload_n 0, 1) := by decide +kernel
theorem dX9_name_10 : decode cX9_name 10 = .ok (.invokevirtual 257, 3) := by decide +kernel
theorem dX9_name_13 : decode cX9_name 13 = .ok (.invokestatic 261, 3) := by decide +kernel
theorem dX9_name_16 : decode cX9_name 16 = .ok (.ifCond .eq 21, 3) := by decide +kernel
theorem dX9_name_19 : decode cX9_name 19 = .ok (.aload_n 0, 1) := by decide +kernel
theorem dX9_name_20 : decode cX9_name 20 = .ok (.getfield 251, 3) := by decide +kernel
theorem dX9_name_23 : decode cX9_name 23 = .ok (.aload_n 0, 1) := by decide +kernel
theorem dX9_name_24 : decode cX9_name 24 = .ok (.getfield 265, 3) := by decide +kernel
theorem dX9_name_27 : decode cX9_name 27 = .ok (.if_icmp .eq 10, 3) := by decide +kernel
theorem dX9_name_30 : decode cX9_name 30 = .ok (.aload_n 0, 1) := by decide +kernel
theorem dX9_name_31 : decode cX9_name 31 = .ok (.invokevirtual 289, 3) := by decide +kernel
theorem dX9_name_34 : decode cX9_name 34 = .ok (.ifCond .eq 14, 3) := by decide +kernel
theorem dX9_name_37 : decode cX9_name 37 = .ok (.aload_n 0, 1) := by decide +kernel
theorem dX9_name_38 : decode cX9_name 38 = .ok (.iconst 1, 1) := by decide +kernel
theorem dX9_name_39 : decode cX9_name 39 = .ok (.aload_n 0, 1) := by decide +kernel
theorem dX9_name_40 : decode cX9_name 40 = .ok (.getfield 251, 3) := by decide +kernel
theorem dX9_name_43 : decode cX9_name 43 = .ok (.invokevirtual 275, 3) := by decide +kernel
theorem dX9_name_46 : decode cX9_name 46 = .ok (.lconst 0, 1) := by decide +kernel
theorem dX9_name_47 : decode cX9_name 47 = .ok (.lreturn, 1) := by decide +kernel
theorem dX9_name_48 : decode cX9_name 48 = .ok (.aload_n 0, 1) := by decide +kernel
theorem dX9_name_49 : decode cX9_name 49 = .ok (.aload_n 0, 1) := by decide +kernel
theorem dX9_name_50 : decode cX9_name 50 = .ok (.getfield 251, 3) := by decide +kernel
theorem dX9_name_53 : decode cX9_name 53 = .ok (.putfield 293, 3) := by decide +kernel
theorem dX9_name_56 : decode cX9_name 56 = .ok (.lconst 0, 1) := by decide +kernel
theorem dX9_name_57 : decode cX9_name 57 = .ok (.lstore_n 1, 1) := by decide +kernel
theorem dX9_name_58 : decode cX9_name 58 = .ok (.aload_n 0, 1) := by decide +kernel
theorem dX9_name_59 : decode cX9_name 59 = .ok (.getfield 251, 3) := by decide +kernel
theorem dX9_name_62 : decode cX9_name 62 = .ok (.aload_n 0, 1) := by decide +kernel
theorem dX9_name_63 : decode cX9_name 63 = .ok (.getfield 254, 3) := by decide +kernel
theorem dX9_name_66 : decode cX9_name 66 = .ok (.if_icmp .ge 79, 3) := by decide +kernel
theorem dX9_name_69 : decode cX9_name 69 = .ok (.aload_n 0, 1) := by decide +kernel
theorem dX9_name_70 : decode cX9_name 70 = .ok (.getfield 7, 3) := by decide +kernel
theorem dX9_name_73 : decode cX9_name 73 = .ok (.aload_n 0, 1) := by decide +kernel
theorem dX9_name_74 : decode cX9_name 74 = .ok (.getfield 251, 3) := by decide +kernel
theorem dX9_name_77 : decode cX9_name 77 = .ok (.iaload, 1) := by decide +kernel
theorem dX9_name_78 : decode cX9_name 78 = .ok (.invokestatic 261, 3) := by decide +kernel
theorem dX9_name_81 : decode cX9_name 81 = .ok (.ifCond .eq 64, 3) := by decide +kernel
theorem dX9_name_84 : decode cX9_name 84 = .ok (.aload_n 0, 1) := by decide +kernel
theorem dX9_name_85 : decode cX9_name 85 = .ok (.getfield 251, 3) := by decide +kernel
theorem dX9_name_88 : decode cX9_name 88 = .ok (.aload_n 0, 1) := by decide +kernel
theorem dX9_name_89 : decode cX9_name 89 = .ok (.getfield 293, 3) := by decide +kernel
theorem dX9_name_92 : decode cX9_name 92 = .ok (.isub, 1) := by decide +kernel
theorem dX9_name_93 : decode cX9_name 93 = .ok (.bipush 6, 2) := by decide +kernel
theorem dX9_name_95 : decode cX9_name 95 = .ok (.if_icmp .ne 14, 3) := by decide +kernel
theorem dX9_name_98 : decode cX9_name 98 = .ok (.aload_n 0, 1) := by decide +kernel
theorem dX9_name_99 : decode cX9_name 99 = .ok (.iconst 1, 1) := by decide +kernel
theorem dX9_name_100 : decode cX9_name 100 = .ok (.aload_n 0, 1) := by decide +kernel
theorem dX9_name_101 : decode cX9_name 101 = .ok (.getfield 251, 3) := by decide +kernel
theorem dX9_name_104 : decode cX9_name 104 = .ok (.invokevirtual 275, 3) := by decide +kernel
theorem dX9_name_107 : decode cX9_name 107 = .ok (.lconst 0, 1) := by decide +kernel
theorem dX9_name_108 : decode cX9_name 108 = .ok (.lreturn, 1) := by decide +kernel
theorem dX9_name_109 : decode cX9_name 109 = .ok (.ldc2_w 296, 3) := by decide +kernel
theorem dX9_name_112 : decode cX9_name 112 = .ok (.lload_n 1, 1) := by decide +kernel
theorem dX9_name_113 : decode cX9_name 113 = .ok (.lmul, 1) := by decide +kernel
theorem dX9_name_114 : decode cX9_name 114 = .ok (.aload_n 0, 1) := by decide +kernel
theorem dX9_name_115 : decode cX9_name 115 = .ok (.getfield 7, 3) := by decide +kernel
theorem dX9_name_118 : decode cX9_name 118 = .ok (.aload_n 0, 1) := by decide +kernel
theorem dX9_name_119 : decode cX9_name 119 = .ok (.getfield 251, 3) := by decide +kernel
theorem dX9_name_122 : decode cX9_name 122 = .ok (.iaload, 1) := by decide +kernel
theorem dX9_name_123 : decode cX9_name 123 = .ok (.i2l, 1) := by decide +kernel
theorem dX9_name_124 : decode cX9_name 124 = .ok (.ladd, 1) := by decide +kernel
theorem dX9_name_125 : decode cX9_name 125 = .ok (.ldc2_w 298, 3) := by decide +kernel
theorem dX9_name_128 : decode cX9_name 128 = .ok (.lsub, 1) := by decide +kernel
theorem dX9_name_129 : decode cX9_name 129 = .ok (.lconst 1, 1) := by decide +kernel
theorem dX9_name_130 : decode cX9_name 130 = .ok (.ladd, 1) := by decide +kernel
theorem dX9_name_131 : decode cX9_name 131 = .ok (.lstore_n 1, 1) := by decide +kernel
theorem dX9_name_132 : decode cX9_name 132 = .ok (.aload_n 0, 1) := by decide +kernel
theorem dX9_name_133 : decode cX9_name 133 = .ok (.dup, 1) := by decide +kernel
theorem dX9_name_134 : decode cX9_name 134 = .ok (.getfield 251, 3) := by decide +kernel
theorem dX9_name_137 : decode cX9_name 137 = .ok (.iconst 1, 1) := by decide +kernel
theorem dX9_name_138 : decode cX9_name 138 = .ok (.iadd, 1) := by decide +kernel
theorem dX9_name_139 : decode cX9_name 139 = .ok (.putfield 251, 3) := by decide +kernel
theorem dX9_name_142 : decode cX9_name 142 = .ok (.goto (-84), 3) := by decide +kernel
theorem dX9_name_145 : decode cX9_name 145 = .ok (.aload_n 0, 1) := by decide +kernel
theorem dX9_name_146 : decode cX9_name 146 = .ok (.aload_n 0, 1) := by decide +kernel
theorem dX9_name_147 : decode cX9_name 147 = .ok (.getfield 251, 3) := by decide +kernel
theorem dX9_name_150 : decode cX9_name 150 = .ok (.putfield 265, 3) := by decide +kernel
theorem dX9_name_153 : decode cX9_name 153 = .ok (.lload_n 1, 1) := by decide +kernel
theorem dX9_name_154 : decode cX9_name 154 = .ok (.lreturn, 1) := by decide +kernel
theorem dX9_productOf_0 : decode cX9_productOf 0 = .ok (.iconst 0, 1) := by decide +kernel
theorem dX9_productOf_1 : decode cX9_productOf 1 = .ok (.istore_n 3, 1) := by decide +kernel
theorem dX9_productOf_2 : decode cX9_productOf 2 = .ok (.iload_n 3, 1) := by decide +kernel
theorem dX9_productOf_3 : decode cX9_productOf 3 = .ok (.aload_n 0, 1) := by decide +kernel
theorem dX9_productOf_4 : decode cX9_productOf 4 = .ok (.getfield 300, 3) := by decide +kernel
theorem dX9_productOf_7 : decode cX9_productOf 7 = .ok (.if_icmp .ge 22, 3) := by decide +kernel
theorem dX9_productOf_10 : decode cX9_productOf 10 = .ok (.aload_n 0, 1) := by decide +kernel
theorem dX9_productOf_11 : decode cX9_productOf 11 = .ok (.getfield 120, 3) := by decide +kernel
theorem dX9_productOf_14 : decode cX9_productOf 14 = .ok (.iload_n 3, 1) := by decide +kernel
theorem dX9_productOf_15 : decode cX9_productOf 15 = .ok (.laload, 1) := by decide +kernel
theorem dX9_productOf_16 : decode cX9_productOf 16 = .ok (.lload_n 1, 1) := by decide +kernel
theorem dX9_productOf_17 : decode cX9_productOf 17 = .ok (.lcmp, 1) := by decide +kernel
theorem dX9_productOf_18 : decode cX9_productOf 18 = .ok (.ifCond .ne 5, 3) := by decide +kernel
theorem dX9_productOf_21 : decode cX9_productOf 21 = .ok (.iload_n 3, 1) := by decide +kernel
theorem dX9_productOf_22 : decode cX9_productOf 22 = .ok (.ireturn, 1) := by decide +kernel
theorem dX9_productOf_23 : decode cX9_productOf 23 = .ok (.iinc 3 1, 3) := by decide +kernel
theorem dX9_productOf_26 : decode cX9_productOf 26 = .ok (.goto (-24), 3) := by decide +kernel
theorem dX9_productOf_29 : decode cX9_productOf 29 = .ok (.iconst (-1), 1) := by decide +kernel
theorem dX9_productOf_30 : decode cX9_productOf 30 = .ok (.ireturn, 1) := by decide +kernel
theorem dX9_product_0 : decode cX9_product 0 = .ok (.aload_n 0, 1) := by decide +kernel
theorem dX9_product_1 : decode cX9_product 1 = .ok (.invokevirtual 303, 3) := by decide +kernel
theorem dX9_product_4 : decode cX9_product 4 = .ok (.lstore_n 1, 1) := by decide +kernel
theorem dX9_product_5 : decode cX9_product 5 = .ok (.aload_n 0, 1) := by decide +kernel
theorem dX9_product_6 : decode cX9_product 6 = .ok (.getfield 245, 3) := by decide +kernel
theorem dX9_product_9 : decode cX9_product 9 = .ok (.ifCond .eq 5, 3) := by decide +kernel
theorem dX9_product_12 : decode cX9_product 12 = .ok (.iconst 0, 1) := by decide +kernel
theorem dX9_product_13 : decode cX9_product 13 = .ok (.ireturn, 1) := by decide +kernel
theorem dX9_product_14 : decode cX9_product 14 = .ok (.aload_n 0, 1) := by decide +kernel
theorem dX9_product_15 : decode cX9_product 15 = .ok (.lload_n 1, 1) := by decide +kernel
theorem dX9_product_16 : decode cX9_product 16 = .ok (.invokevirtual 307, 3) := by decide +kernel
theorem dX9_product_19 : decode cX9_product 19 = .ok (.istore_n 3, 1) := by decide +kernel
theorem dX9_product_20 : decode cX9_product 20 = .ok (.iload_n 3, 1) := by decide +kernel
theorem dX9_product_21 : decode cX9_product 21 = .ok (.iconst (-1), 1) := by decide +kernel
theorem dX9_product_22 : decode cX9_product 22 = .ok (.if_icmp .ne 12, 3) := by decide +kernel
theorem dX9_product_25 : decode cX9_product 25 = .ok (.aload_n 0, 1) := by decide +kernel
theorem dX9_product_26 : decode cX9_product 26 = .ok (.iconst 3, 1) := by decide +kernel
theorem dX9_product_27 : decode cX9_product 27 = .ok (.aload_n 0, 1) := by decide +kernel
theorem dX9_product_28 : decode cX9_product 28 = .ok (.getfield 293, 3) := by decide +kernel
theorem dX9_product_31 : decode cX9_product 31 = .ok (.invokevirtual 275, 3) := by decide +kernel
theorem dX9_product_34 : decode cX9_product 34 = .ok (.iload_n 3, 1) := by decide +kernel
theorem dX9_product_35 : decode cX9_product 35 = .ok (.iconst (-1), 1) := by decide +kernel
theorem dX9_product_36 : decode cX9_product 36 = .ok (.if_icmp .ne 7, 3) := by decide +kernel
theorem dX9_product_39 : decode cX9_product 39 = .ok (.iconst 0, 1) := by decide +kernel
theorem dX9_product_40 : decode cX9_product 40 = .ok (.goto 4, 3) := by decide +kernel
theorem dX9_product_43 : decode cX9_product 43 = .ok (.iload_n 3, 1) := by decide +kernel
theorem dX9_product_44 : decode cX9_product 44 = .ok (.ireturn, 1) := by decide +kernel
theorem dX9_fresh_0 : decode cX9_fresh 0 = .ok (.aload_n 0, 1) := by decide +kernel
theorem dX9_fresh_1 : decode cX9_fresh 1 = .ok (.invokevirtual 303, 3) := by decide +kernel
theorem dX9_fresh_4 : decode cX9_fresh 4 = .ok (.lstore_n 1, 1) := by decide +kernel
theorem dX9_fresh_5 : decode cX9_fresh 5 = .ok (.aload_n 0, 1) := by decide +kernel
theorem dX9_fresh_6 : decode cX9_fresh 6 = .ok (.getfield 245, 3) := by decide +kernel
theorem dX9_fresh_9 : decode cX9_fresh 9 = .ok (.ifCond .eq 5, 3) := by decide +kernel
theorem dX9_fresh_12 : decode cX9_fresh 12 = .ok (.lconst 0, 1) := by decide +kernel
theorem dX9_fresh_13 : decode cX9_fresh 13 = .ok (.lreturn, 1) := by decide +kernel
theorem dX9_fresh_14 : decode cX9_fresh 14 = .ok (.aload_n 0, 1) := by decide +kernel
theorem dX9_fresh_15 : decode cX9_fresh 15 = .ok (.lload_n 1, 1) := by decide +kernel
theorem dX9_fresh_16 : decode cX9_fresh 16 = .ok (.invokevirtual 307, 3) := by decide +kernel
theorem dX9_fresh_19 : decode cX9_fresh 19 = .ok (.iconst (-1), 1) := by decide +kernel
theorem dX9_fresh_20 : decode cX9_fresh 20 = .ok (.if_icmp .eq 7, 3) := by decide +kernel
theorem dX9_fresh_23 : decode cX9_fresh 23 = .ok (.iconst 1, 1) := by decide +kernel
theorem dX9_fresh_24 : decode cX9_fresh 24 = .ok (.goto 4, 3) := by decide +kernel
theorem dX9_fresh_27 : decode cX9_fresh 27 = .ok (.iconst 0, 1) := by decide +kernel
theorem dX9_fresh_28 : decode cX9_fresh 28 = .ok (.istore_n 3, 1) := by decide +kernel
theorem dX9_fresh_29 : decode cX9_fresh 29 = .ok (.iconst 0, 1) := by decide +kernel
theorem dX9_fresh_30 : decode cX9_fresh 30 = .ok (.istore 4, 2) := by decide +kernel
theorem dX9_fresh_32 : decode cX9_fresh 32 = .ok (.iload 4, 2) := by decide +kernel
theorem dX9_fresh_34 : decode cX9_fresh 34 = .ok (.aload_n 0, 1) := by decide +kernel
theorem dX9_fresh_35 : decode cX9_fresh 35 = .ok (.getfield 311, 3) := by decide +kernel
theorem dX9_fresh_38 : decode cX9_fresh 38 = .ok (.if_icmp .ge 31, 3) := by decide +kernel
theorem dX9_fresh_41 : decode cX9_fresh 41 = .ok (.iload_n 3, 1) := by decide +kernel
theorem dX9_fresh_42 : decode cX9_fresh 42 = .ok (.ifCond .ne 15, 3) := by decide +kernel
theorem dX9_fresh_45 : decode cX9_fresh 45 = .ok (.aload_n 0, 1) := by decide +kernel
theorem dX9_fresh_46 : decode cX9_fresh 46 = .ok (.getfield 146, 3) := by decide +kernel
theorem dX9_fresh_49 : decode cX9_fresh 49 = .ok (.iload 4, 2) := by decide +kernel
theorem dX9_fresh_51 : decode cX9_fresh 51 = .ok (.laload, 1) := by decide +kernel
theorem dX9_fresh_52 : decode cX9_fresh 52 = .ok (.lload_n 1, 1) := by decide +kernel
theorem dX9_fresh_53 : decode cX9_fresh 53 = .ok (.lcmp, 1) := by decide +kernel
theorem dX9_fresh_54 : decode cX9_fresh 54 = .ok (.ifCond .ne 7, 3) := by decide +kernel
theorem dX9_fresh_57 : decode cX9_fresh 57 = .ok (.iconst 1, 1) := by decide +kernel
theorem dX9_fresh_58 : decode cX9_fresh 58 = .ok (.goto 4, 3) := by decide +kernel
theorem dX9_fresh_61 : decode cX9_fresh 61 = .ok (.iconst 0, 1) := by decide +kernel
theorem dX9_fresh_62 : decode cX9_fresh 62 = .ok (.istore_n 3, 1) := by decide +kernel
theorem dX9_fresh_63 : decode cX9_fresh 63 = .ok (.iinc 4 1, 3) := by decide +kernel
theorem dX9_fresh_66 : decode cX9_fresh 66 = .ok (.goto (-34), 3) := by decide +kernel
theorem dX9_fresh_69 : decode cX9_fresh 69 = .ok (.iload_n 3, 1) := by decide +kernel
theorem dX9_fresh_70 : decode cX9_fresh 70 = .ok (.ifCond .eq 12, 3) := by decide +kernel
theorem dX9_fresh_73 : decode cX9_fresh 73 = .ok (.aload_n 0, 1) := by decide +kernel
theorem dX9_fresh_74 : decode cX9_fresh 74 = .ok (.iconst 3, 1) := by decide +kernel
theorem dX9_fresh_75 : decode cX9_fresh 75 = .ok (.aload_n 0, 1) := by decide +kernel
theorem dX9_fresh_76 : decode cX9_fresh 76 = .ok (.getfield 293, 3) := by decide +kernel
theorem dX9_fresh_79 : decode cX9_fresh 79 = .ok (.invokevirtual 275, 3) := by decide +kernel
theorem dX9_fresh_82 : decode cX9_fresh 82 = .ok (.lload_n 1, 1) := by decide +kernel
theorem dX9_fresh_83 : decode cX9_fresh 83 = .ok (.lreturn, 1) := by decide +kernel
theorem dX9_puts_0 : decode cX9_puts 0 = .ok (.aload_n 0, 1) := by decide +kernel
theorem dX9_puts_1 : decode cX9_puts 1 = .ok (.getfield 114, 3) := by decide +kernel
theorem dX9_puts_4 : decode cX9_puts 4 = .ok (.iconst 0, 1) := by decide +kernel
theorem dX9_puts_5 : decode cX9_puts 5 = .ok (.aload_n 0, 1) := by decide +kernel
theorem dX9_puts_6 : decode cX9_puts 6 = .ok (.getfield 314, 3) := by decide +kernel
theorem dX9_puts_9 : decode cX9_puts 9 = .ok (.iadd, 1) := by decide +kernel
theorem dX9_puts_10 : decode cX9_puts 10 = .ok (.iload_n 1, 1) := by decide +kernel
theorem dX9_puts_11 : decode cX9_puts 11 = .ok (.iastore, 1) := by decide +kernel
theorem dX9_puts_12 : decode cX9_puts 12 = .ok (.aload_n 0, 1) := by decide +kernel
theorem dX9_puts_13 : decode cX9_puts 13 = .ok (.dup, 1) := by decide +kernel
theorem dX9_puts_14 : decode cX9_puts 14 = .ok (.getfield 314, 3) := by decide +kernel
theorem dX9_puts_17 : decode cX9_puts 17 = .ok (.iconst 1, 1) := by decide +kernel
theorem dX9_puts_18 : decode cX9_puts 18 = .ok (.iadd, 1) := by decide +kernel
theorem dX9_puts_19 : decode cX9_puts 19 = .ok (.putfield 314, 3) := by decide +kernel
theorem dX9_puts_22 : decode cX9_puts 22 = .ok (.return_, 1) := by decide +kernel
theorem dX9_opens_0 : decode cX9_opens 0 = .ok (.aload_n 0, 1) := by decide +kernel
theorem dX9_opens_1 : decode cX9_opens 1 = .ok (.getfield 317, 3) := by decide +kernel
theorem dX9_opens_4 : decode cX9_opens 4 = .ok (.bipush 6, 2) := by decide +kernel
theorem dX9_opens_6 : decode cX9_opens 6 = .ok (.if_icmp .ne 10, 3) := by decide +kernel
theorem dX9_opens_9 : decode cX9_opens 9 = .ok (.aload_n 0, 1) := by decide +kernel
theorem dX9_opens_10 : decode cX9_opens 10 = .ok (.iconst 4, 1) := by decide +kernel
theorem dX9_opens_11 : decode cX9_opens 11 = .ok (.iload_n 2, 1) := by decide +kernel
theorem dX9_opens_12 : decode cX9_opens 12 = .ok (.invokevirtual 275, 3) := by decide +kernel
theorem dX9_opens_15 : decode cX9_opens 15 = .ok (.return_, 1) := by decide +kernel
theorem dX9_opens_16 : decode cX9_opens 16 = .ok (.aload_n 0, 1) := by decide +kernel
theorem dX9_opens_17 : decode cX9_opens 17 = .ok (.dup, 1) := by decide +kernel
theorem dX9_opens_18 : decode cX9_opens 18 = .ok (.getfield 317, 3) := by decide +kernel
theorem dX9_opens_21 : decode cX9_opens 21 = .ok (.iconst 1, 1) := by decide +kernel
theorem dX9_opens_22 : decode cX9_opens 22 = .ok (.iadd, 1) := by decide +kernel
theorem dX9_opens_23 : decode cX9_opens 23 = .ok (.putfield 317, 3) := by decide +kernel
theorem dX9_opens_26 : decode cX9_opens 26 = .ok (.aload_n 0, 1) := by decide +kernel
theorem dX9_opens_27 : decode cX9_opens 27 = .ok (.getfield 117, 3) := by decide +kernel
theorem dX9_opens_30 : decode cX9_opens 30 = .ok (.aload_n 0, 1) := by decide +kernel
theorem dX9_opens_31 : decode cX9_opens 31 = .ok (.getfield 320, 3) := by decide +kernel
theorem dX9_opens_34 : decode cX9_opens 34 = .ok (.iload_n 1, 1) := by decide +kernel
theorem dX9_opens_35 : decode cX9_opens 35 = .ok (.iastore, 1) := by decide +kernel
theorem dX9_opens_36 : decode cX9_opens 36 = .ok (.aload_n 0, 1) := by decide +kernel
theorem dX9_opens_37 : decode cX9_opens 37 = .ok (.dup, 1) := by decide +kernel
theorem dX9_opens_38 : decode cX9_opens 38 = .ok (.getfield 320, 3) := by decide +kernel
theorem dX9_opens_41 : decode cX9_opens 41 = .ok (.iconst 1, 1) := by decide +kernel
theorem dX9_opens_42 : decode cX9_opens 42 = .ok (.iadd, 1) := by decide +kernel
theorem dX9_opens_43 : decode cX9_opens 43 = .ok (.putfield 320, 3) := by decide +kernel
theorem dX9_opens_46 : decode cX9_opens 46 = .ok (.return_, 1) := by decide +kernel
theorem dX9_isOn_0 : decode cX9_isOn 0 = .ok (.aload_n 0, 1) := by decide +kernel
theorem dX9_isOn_1 : decode cX9_isOn 1 = .ok (.getfield 320, 3) := by decide +kernel
theorem dX9_isOn_4 : decode cX9_isOn 4 = .ok (.ifCond .le 22, 3) := by decide +kernel
theorem dX9_isOn_7 : decode cX9_isOn 7 = .ok (.aload_n 0, 1) := by decide +kernel
theorem dX9_isOn_8 : decode cX9_isOn 8 = .ok (.getfield 117, 3) := by decide +kernel
theorem dX9_isOn_11 : decode cX9_isOn 11 = .ok (.aload_n 0, 1) := by decide +kernel
theorem dX9_isOn_12 : decode cX9_isOn 12 = .ok (.getfield 320, 3) := by decide +kernel
theorem dX9_isOn_15 : decode cX9_isOn 15 = .ok (.iconst 1, 1) := by decide +kernel
theorem dX9_isOn_16 : decode cX9_isOn 16 = .ok (.isub, 1) := by decide +kernel
theorem dX9_isOn_17 : decode cX9_isOn 17 = .ok (.iaload, 1) := by decide +kernel
theorem dX9_isOn_18 : decode cX9_isOn 18 = .ok (.iload_n 1, 1) := by decide +kernel
theorem dX9_isOn_19 : decode cX9_isOn 19 = .ok (.if_icmp .ne 7, 3) := by decide +kernel
theorem dX9_isOn_22 : decode cX9_isOn 22 = .ok (.iconst 1, 1) := by decide +kernel
theorem dX9_isOn_23 : decode cX9_isOn 23 = .ok (.goto 4, 3) := by decide +kernel
theorem dX9_isOn_26 : decode cX9_isOn 26 = .ok (.iconst 0, 1) := by decide +kernel
theorem dX9_isOn_27 : decode cX9_isOn 27 = .ok (.ireturn, 1) := by decide +kernel
theorem dX9_drops_0 : decode cX9_drops 0 = .ok (.aload_n 0, 1) := by decide +kernel
theorem dX9_drops_1 : decode cX9_drops 1 = .ok (.dup, 1) := by decide +kernel
theorem dX9_drops_2 : decode cX9_drops 2 = .ok (.getfield 320, 3) := by decide +kernel
theorem dX9_drops_5 : decode cX9_drops 5 = .ok (.iconst 1, 1) := by decide +kernel
theorem dX9_drops_6 : decode cX9_drops 6 = .ok (.isub, 1) := by decide +kernel
theorem dX9_drops_7 : decode cX9_drops 7 = .ok (.putfield 320, 3) := by decide +kernel
theorem dX9_drops_10 : decode cX9_drops 10 = .ok (.aload_n 0, 1) := by decide +kernel
theorem dX9_drops_11 : decode cX9_drops 11 = .ok (.aload_n 0, 1) := by decide +kernel
theorem dX9_drops_12 : decode cX9_drops 12 = .ok (.getfield 117, 3) := by decide +kernel
theorem dX9_drops_15 : decode cX9_drops 15 = .ok (.aload_n 0, 1) := by decide +kernel
theorem dX9_drops_16 : decode cX9_drops 16 = .ok (.getfield 320, 3) := by decide +kernel
theorem dX9_drops_19 : decode cX9_drops 19 = .ok (.iaload, 1) := by decide +kernel
theorem dX9_drops_20 : decode cX9_drops 20 = .ok (.invokevirtual 323, 3) := by decide +kernel
theorem dX9_drops_23 : decode cX9_drops 23 = .ok (.return_, 1) := by decide +kernel
theorem dX9_isMark_0 : decode cX9_isMark 0 = .ok (.iload_n 1, 1) := by decide +kernel
theorem dX9_isMark_1 : decode cX9_isMark 1 = .ok (.bipush 20, 2) := by decide +kernel
theorem dX9_isMark_3 : decode cX9_isMark 3 = .ok (.if_icmp .lt 13, 3) := by decide +kernel
theorem dX9_isMark_6 : decode cX9_isMark 6 = .ok (.iload_n 1, 1) := by decide +kernel
theorem dX9_isMark_7 : decode cX9_isMark 7 = .ok (.bipush 24, 2) := by decide +kernel
theorem dX9_isMark_9 : decode cX9_isMark 9 = .ok (.if_icmp .gt 7, 3) := by decide +kernel
theorem dX9_isMark_12 : decode cX9_isMark 12 = .ok (.iconst 1, 1) := by decide +kernel
theorem dX9_isMark_13 : decode cX9_isMark 13 = .ok (.goto 4, 3) := by decide +kernel
theorem dX9_isMark_16 : decode cX9_isMark 16 = .ok (.iconst 0, 1) := by decide +kernel
theorem dX9_isMark_17 : decode cX9_isMark 17 = .ok (.ireturn, 1) := by decide +kernel
theorem dX9_mark_0 : decode cX9_mark 0 = .ok (.aload_n 0, 1) := by decide +kernel
theorem dX9_mark_1 : decode cX9_mark 1 = .ok (.getfield 320, 3) := by decide +kernel
theorem dX9_mark_4 : decode cX9_mark 4 = .ok (.iconst 1, 1) := by decide +kernel
theorem dX9_mark_5 : decode cX9_mark 5 = .ok (.isub, 1) := by decide +kernel
theorem dX9_mark_6 : decode cX9_mark 6 = .ok (.istore_n 1, 1) := by decide +kernel
theorem dX9_mark_7 : decode cX9_mark 7 = .ok (.iload_n 1, 1) := by decide +kernel
theorem dX9_mark_8 : decode cX9_mark 8 = .ok (.aload_n 0, 1) := by decide +kernel
theorem dX9_mark_9 : decode cX9_mark 9 = .ok (.getfield 327, 3) := by decide +kernel
theorem dX9_mark_12 : decode cX9_mark 12 = .ok (.if_icmp .lt 22, 3) := by decide +kernel
theorem dX9_mark_15 : decode cX9_mark 15 = .ok (.aload_n 0, 1) := by decide +kernel
theorem dX9_mark_16 : decode cX9_mark 16 = .ok (.aload_n 0, 1) := by decide +kernel
theorem dX9_mark_17 : decode cX9_mark 17 = .ok (.getfield 117, 3) := by decide +kernel
theorem dX9_mark_20 : decode cX9_mark 20 = .ok (.iload_n 1, 1) := by decide +kernel
theorem dX9_mark_21 : decode cX9_mark 21 = .ok (.iaload, 1) := by decide +kernel
theorem dX9_mark_22 : decode cX9_mark 22 = .ok (.invokevirtual 330, 3) := by decide +kernel
theorem dX9_mark_25 : decode cX9_mark 25 = .ok (.ifCond .ne 9, 3) := by decide +kernel
theorem dX9_mark_28 : decode cX9_mark 28 = .ok (.iinc 1 (-1), 3) := by decide +kernel
theorem dX9_mark_31 : decode cX9_mark 31 = .ok (.goto (-24), 3) := by decide +kernel
theorem dX9_mark_34 : decode cX9_mark 34 = .ok (.iload_n 1, 1) := by decide +kernel
theorem dX9_mark_35 : decode cX9_mark 35 = .ok (.aload_n 0, 1) := by decide +kernel
theorem dX9_mark_36 : decode cX9_mark 36 = .ok (.getfield 327, 3) := by decide +kernel
theorem dX9_mark_39 : decode cX9_mark 39 = .ok (.if_icmp .lt 12, 3) := by decide +kernel
theorem dX9_mark_42 : decode cX9_mark 42 = .ok (.aload_n 0, 1) := by decide +kernel
theorem dX9_mark_43 : decode cX9_mark 43 = .ok (.getfield 117, 3) := by decide +kernel
theorem dX9_mark_46 : decode cX9_mark 46 = .ok (.iload_n 1, 1) := by decide +kernel
theorem dX9_mark_47 : decode cX9_mark 47 = .ok (.iaload, 1) := by decide +kernel
theorem dX9_mark_48 : decode cX9_mark 48 = .ok (.goto 4, 3) := by decide +kernel
theorem dX9_mark_51 : decode cX9_mark 51 = .ok (.iconst (-1), 1) := by decide +kernel
theorem dX9_mark_52 : decode cX9_mark 52 = .ok (.ireturn, 1) := by decide +kernel
theorem dX9_dropsToMark_0 : decode cX9_dropsToMark 0 = .ok (.aload_n 0, 1) := by decide +kernel
theorem dX9_dropsToMark_1 : decode cX9_dropsToMark 1 = .ok (.getfield 320, 3) := by decide +kernel
theorem dX9_dropsToMark_4 : decode cX9_dropsToMark 4 = .ok (.aload_n 0, 1) := by decide +kernel
theorem dX9_dropsToMark_5 : decode cX9_dropsToMark 5 = .ok (.getfield 327, 3) := by decide +kernel
theorem dX9_dropsToMark_8 : decode cX9_dropsToMark 8 = .ok (.if_icmp .le 28, 3) := by decide +kernel
theorem dX9_dropsToMark_11 : decode cX9_dropsToMark 11 = .ok (.aload_n 0, 1) := by decide +kernel
theorem dX9_dropsToMark_12 : decode cX9_dropsToMark 12 = .ok (.aload_n 0, 1) := by decide +kernel
theorem dX9_dropsToMark_13 : decode cX9_dropsToMark 13 = .ok (.getfield 117, 3) := by decide +kernel
theorem dX9_dropsToMark_16 : decode cX9_dropsToMark 16 = .ok (.aload_n 0, 1) := by decide +kernel
theorem dX9_dropsToMark_17 : decode cX9_dropsToMark 17 = .ok (.getfield 320, 3) := by decide +kernel
theorem dX9_dropsToMark_20 : decode cX9_dropsToMark 20 = .ok (.iconst 1, 1) := by decide +kernel
theorem dX9_dropsToMark_21 : decode cX9_dropsToMark 21 = .ok (.isub, 1) := by decide +kernel
theorem dX9_dropsToMark_22 : decode cX9_dropsToMark 22 = .ok (.iaload, 1) := by decide +kernel
theorem dX9_dropsToMark_23 : decode cX9_dropsToMark 23 = .ok (.invokevirtual 330, 3) := by decide +kernel
theorem dX9_dropsToMark_26 : decode cX9_dropsToMark 26 = .ok (.ifCond .ne 10, 3) := by decide +kernel
theorem dX9_dropsToMark_29 : decode cX9_dropsToMark 29 = .ok (.aload_n 0, 1) := by decide +kernel
theorem dX9_dropsToMark_30 : decode cX9_dropsToMark 30 = .ok (.invokevirtual 333, 3) := by decide +kernel
theorem dX9_dropsToMark_33 : decode cX9_dropsToMark 33 = .ok (.goto (-33), 3) := by decide +kernel
theorem dX9_dropsToMark_36 : decode cX9_dropsToMark 36 = .ok (.return_, 1) := by decide +kernel
theorem dX9_onePart_0 : decode cX9_onePart 0 = .ok (.iconst 1, 1) := by decide +kernel
theorem dX9_onePart_1 : decode cX9_onePart 1 = .ok (.istore_n 1, 1) := by decide +kernel
theorem dX9_onePart_2 : decode cX9_onePart 2 = .ok (.iload_n 1, 1) := by decide +kernel
theorem dX9_onePart_3 : decode cX9_onePart 3 = .ok (.ifCond .eq 143, 3) := by decide +kernel
theorem dX9_onePart_6 : decode cX9_onePart 6 = .ok (.aload_n 0, 1) := by decide +kernel
theorem dX9_onePart_7 : decode cX9_onePart 7 = .ok (.getfield 245, 3) := by decide +kernel
theorem dX9_onePart_10 : decode cX9_onePart 10 = .ok (.ifCond .ne 136, 3) := by decide +kernel
theorem dX9_onePart_13 : decode cX9_onePart 13 = .ok (.aload_n 0, 1) := by decide +kernel
theorem dX9_onePart_14 : decode cX9_onePart 14 = .ok (.invokevirtual 257, 3) := by decide +kernel
theorem dX9_onePart_17 : decode cX9_onePart 17 = .ok (.istore_n 2, 1) := by decide +kernel
theorem dX9_onePart_18 : decode cX9_onePart 18 = .ok (.iload_n 2, 1) := by decide +kernel
theorem dX9_onePart_19 : decode cX9_onePart 19 = .ok (.bipush 40, 2) := by decide +kernel
theorem dX9_onePart_21 : decode cX9_onePart 21 = .ok (.if_icmp .ne 26, 3) := by decide +kernel
theorem dX9_onePart_24 : decode cX9_onePart 24 = .ok (.aload_n 0, 1) := by decide +kernel
theorem dX9_onePart_25 : decode cX9_onePart 25 = .ok (.bipush 20, 2) := by decide +kernel
theorem dX9_onePart_27 : decode cX9_onePart 27 = .ok (.aload_n 0, 1) := by decide +kernel
theorem dX9_onePart_28 : decode cX9_onePart 28 = .ok (.getfield 251, 3) := by decide +kernel
theorem dX9_onePart_31 : decode cX9_onePart 31 = .ok (.invokevirtual 336, 3) := by decide +kernel
theorem dX9_onePart_34 : decode cX9_onePart 34 = .ok (.aload_n 0, 1) := by decide +kernel
theorem dX9_onePart_35 : decode cX9_onePart 35 = .ok (.dup, 1) := by decide +kernel
theorem dX9_onePart_36 : decode cX9_onePart 36 = .ok (.getfield 251, 3) := by decide +kernel
theorem dX9_onePart_39 : decode cX9_onePart 39 = .ok (.iconst 1, 1) := by decide +kernel
theorem dX9_onePart_40 : decode cX9_onePart 40 = .ok (.iadd, 1) := by decide +kernel
theorem dX9_onePart_41 : decode cX9_onePart 41 = .ok (.putfield 251, 3) := by decide +kernel
theorem dX9_onePart_44 : decode cX9_onePart 44 = .ok (.goto 99, 3) := by decide +kernel
theorem dX9_onePart_47 : decode cX9_onePart 47 = .ok (.aload_n 0, 1) := by decide +kernel
theorem dX9_onePart_48 : decode cX9_onePart 48 = .ok (.aload_n 0, 1) := by decide +kernel
theorem dX9_onePart_49 : decode cX9_onePart 49 = .ok (.getfield 105, 3) := by decide +kernel
theorem dX9_onePart_52 : decode cX9_onePart 52 = .ok (.invokevirtual 268, 3) := by decide +kernel
theorem dX9_onePart_55 : decode cX9_onePart 55 = .ok (.ifCond .ne 14, 3) := by decide +kernel
theorem dX9_onePart_58 : decode cX9_onePart 58 = .ok (.aload_n 0, 1) := by decide +kernel
theorem dX9_onePart_59 : decode cX9_onePart 59 = .ok (.aload_n 0, 1) := by decide +kernel
theorem dX9_onePart_60 : decode cX9_onePart 60 = .ok (.getfield 108, 3) := by decide +kernel
theorem dX9_onePart_63 : decode cX9_onePart 63 = .ok (.invokevirtual 268, 3) := by decide +kernel
theorem dX9_onePart_66 : decode cX9_onePart 66 = .ok (.ifCond .eq 75, 3) := by decide +kernel
theorem dX9_onePart_69 : decode cX9_onePart 69 = .ok (.aload_n 0, 1) := by decide +kernel
theorem dX9_onePart_70 : decode cX9_onePart 70 = .ok (.aload_n 0, 1) := by decide +kernel
theorem dX9_onePart_71 : decode cX9_onePart 71 = .ok (.getfield 105, 3) := by decide +kernel
theorem dX9_onePart_74 : decode cX9_onePart 74 = .ok (.invokevirtual 272, 3) := by decide +kernel
theorem dX9_onePart_77 : decode cX9_onePart 77 = .ok (.istore_n 3, 1) := by decide +kernel
theorem dX9_onePart_78 : decode cX9_onePart 78 = .ok (.iload_n 3, 1) := by decide +kernel
theorem dX9_onePart_79 : decode cX9_onePart 79 = .ok (.ifCond .ne 11, 3) := by decide +kernel
theorem dX9_onePart_82 : decode cX9_onePart 82 = .ok (.aload_n 0, 1) := by decide +kernel
theorem dX9_onePart_83 : decode cX9_onePart 83 = .ok (.aload_n 0, 1) := by decide +kernel
theorem dX9_onePart_84 : decode cX9_onePart 84 = .ok (.getfield 108, 3) := by decide +kernel
theorem dX9_onePart_87 : decode cX9_onePart 87 = .ok (.invokevirtual 339, 3) := by decide +kernel
theorem dX9_onePart_90 : decode cX9_onePart 90 = .ok (.aload_n 0, 1) := by decide +kernel
theorem dX9_onePart_91 : decode cX9_onePart 91 = .ok (.invokevirtual 257, 3) := by decide +kernel
theorem dX9_onePart_94 : decode cX9_onePart 94 = .ok (.bipush 40, 2) := by decide +kernel
theorem dX9_onePart_96 : decode cX9_onePart 96 = .ok (.if_icmp .ne 10, 3) := by decide +kernel
theorem dX9_onePart_99 : decode cX9_onePart 99 = .ok (.aload_n 0, 1) := by decide +kernel
theorem dX9_onePart_100 : decode cX9_onePart 100 = .ok (.getfield 251, 3) := by decide +kernel
theorem dX9_onePart_103 : decode cX9_onePart 103 = .ok (.goto 4, 3) := by decide +kernel
theorem dX9_onePart_106 : decode cX9_onePart 106 = .ok (.iconst (-1), 1) := by decide +kernel
theorem dX9_onePart_107 : decode cX9_onePart 107 = .ok (.istore 4, 2) := by decide +kernel
theorem dX9_onePart_109 : decode cX9_onePart 109 = .ok (.iload 4, 2) := by decide +kernel
theorem dX9_onePart_111 : decode cX9_onePart 111 = .ok (.iconst (-1), 1) := by decide +kernel
theorem dX9_onePart_112 : decode cX9_onePart 112 = .ok (.if_icmp .eq 20, 3) := by decide +kernel
theorem dX9_onePart_115 : decode cX9_onePart 115 = .ok (.aload_n 0, 1) := by decide +kernel
theorem dX9_onePart_116 : decode cX9_onePart 116 = .ok (.iload_n 3, 1) := by decide +kernel
theorem dX9_onePart_117 : decode cX9_onePart 117 = .ok (.ifCond .eq 8, 3) := by decide +kernel
theorem dX9_onePart_120 : decode cX9_onePart 120 = .ok (.bipush 21, 2) := by decide +kernel
theorem dX9_onePart_122 : decode cX9_onePart 122 = .ok (.goto 5, 3) := by decide +kernel
theorem dX9_onePart_125 : decode cX9_onePart 125 = .ok (.bipush 22, 2) := by decide +kernel
theorem dX9_onePart_127 : decode cX9_onePart 127 = .ok (.iload 4, 2) := by decide +kernel
theorem dX9_onePart_129 : decode cX9_onePart 129 = .ok (.invokevirtual 336, 3) := by decide +kernel
theorem dX9_onePart_132 : decode cX9_onePart 132 = .ok (.aload_n 0, 1) := by decide +kernel
theorem dX9_onePart_133 : decode cX9_onePart 133 = .ok (.bipush 40, 2) := by decide +kernel
theorem dX9_onePart_135 : decode cX9_onePart 135 = .ok (.invokevirtual 343, 3) := by decide +kernel
theorem dX9_onePart_138 : decode cX9_onePart 138 = .ok (.goto 5, 3) := by decide +kernel
theorem dX9_onePart_141 : decode cX9_onePart 141 = .ok (.iconst 0, 1) := by decide +kernel
theorem dX9_onePart_142 : decode cX9_onePart 142 = .ok (.istore_n 1, 1) := by decide +kernel
theorem dX9_onePart_143 : decode cX9_onePart 143 = .ok (.goto (-141), 3) := by decide +kernel
theorem dX9_onePart_146 : decode cX9_onePart 146 = .ok (.aload_n 0, 1) := by decide +kernel
theorem dX9_onePart_147 : decode cX9_onePart 147 = .ok (.getfield 245, 3) := by decide +kernel
theorem dX9_onePart_150 : decode cX9_onePart 150 = .ok (.ifCond .eq 4, 3) := by decide +kernel
theorem dX9_onePart_153 : decode cX9_onePart 153 = .ok (.return_, 1) := by decide +kernel
theorem dX9_onePart_154 : decode cX9_onePart 154 = .ok (.aload_n 0, 1) := by decide +kernel
theorem dX9_onePart_155 : decode cX9_onePart 155 = .ok (.aload_n 0, 1) := by decide +kernel
theorem dX9_onePart_156 : decode cX9_onePart 156 = .ok (.getfield 81, 3) := by decide +kernel
theorem dX9_onePart_159 : decode cX9_onePart 159 = .ok (.invokevirtual 272, 3) := by decide +kernel
theorem dX9_onePart_162 : decode cX9_onePart 162 = .ok (.ifCond .eq 8, 3) := by decide +kernel
theorem dX9_onePart_165 : decode cX9_onePart 165 = .ok (.bipush 100, 2) := by decide +kernel
theorem dX9_onePart_167 : decode cX9_onePart 167 = .ok (.goto 87, 3) := by decide +kernel
theorem dX9_onePart_170 : decode cX9_onePart 170 = .ok (.aload_n 0, 1) := by decide +kernel
theorem dX9_onePart_171 : decode cX9_onePart 171 = .ok (.aload_n 0, 1) := by decide +kernel
theorem dX9_onePart_172 : decode cX9_onePart 172 = .ok (.getfield 84, 3) := by decide +kernel
theorem dX9_onePart_175 : decode cX9_onePart 175 = .ok (.invokevirtual 272, 3) := by decide +kernel
theorem dX9_onePart_178 : decode cX9_onePart 178 = .ok (.ifCond .eq 8, 3) := by decide +kernel
theorem dX9_onePart_181 : decode cX9_onePart 181 = .ok (.bipush 110, 2) := by decide +kernel
theorem dX9_onePart_183 : decode cX9_onePart 183 = .ok (.goto 71, 3) := by decide +kernel
theorem dX9_onePart_186 : decode cX9_onePart 186 = .ok (.aload_n 0, 1) := by decide +kernel
theorem dX9_onePart_187 : decode cX9_onePart 187 = .ok (.aload_n 0, 1) := by decide +kernel
theorem dX9_onePart_188 : decode cX9_onePart 188 = .ok (.getfield 87, 3) := by decide +kernel
theorem dX9_onePart_191 : decode cX9_onePart 191 = .ok (.invokevirtual 272, 3) := by decide +kernel
theorem dX9_onePart_194 : decode cX9_onePart 194 = .ok (.ifCond .eq 8, 3) := by decide +kernel
theorem dX9_onePart_197 : decode cX9_onePart 197 = .ok (.bipush 120, 2) := by decide +kernel
theorem dX9_onePart_199 : decode cX9_onePart 199 = .ok (.goto 55, 3) := by decide +kernel
theorem dX9_onePart_202 : decode cX9_onePart 202 = .ok (.aload_n 0, 1) := by decide +kernel
theorem dX9_onePart_203 : decode cX9_onePart 203 = .ok (.aload_n 0, 1) := by decide +kernel
theorem dX9_onePart_204 : decode cX9_onePart 204 = .ok (.getfield 90, 3) := by decide +kernel
theorem dX9_onePart_207 : decode cX9_onePart 207 = .ok (.invokevirtual 272, 3) := by decide +kernel
theorem dX9_onePart_210 : decode cX9_onePart 210 = .ok (.ifCond .eq 9, 3) := by decide +kernel
theorem dX9_onePart_213 : decode cX9_onePart 213 = .ok (.sipush 130, 3) := by decide +kernel
theorem dX9_onePart_216 : decode cX9_onePart 216 = .ok (.goto 38, 3) := by decide +kernel
theorem dX9_onePart_219 : decode cX9_onePart 219 = .ok (.aload_n 0, 1) := by decide +kernel
theorem dX9_onePart_220 : decode cX9_onePart 220 = .ok (.aload_n 0, 1) := by decide +kernel
theorem dX9_onePart_221 : decode cX9_onePart 221 = .ok (.getfield 93, 3) := by decide +kernel
theorem dX9_onePart_224 : decode cX9_onePart 224 = .ok (.invokevirtual 272, 3) := by decide +kernel
theorem dX9_onePart_227 : decode cX9_onePart 227 = .ok (.ifCond .eq 9, 3) := by decide +kernel
theorem dX9_onePart_230 : decode cX9_onePart 230 = .ok (.sipush 140, 3) := by decide +kernel
theorem dX9_onePart_233 : decode cX9_onePart 233 = .ok (.goto 21, 3) := by decide +kernel
theorem dX9_onePart_236 : decode cX9_onePart 236 = .ok (.aload_n 0, 1) := by decide +kernel
theorem dX9_onePart_237 : decode cX9_onePart 237 = .ok (.aload_n 0, 1) := by decide +kernel
theorem dX9_onePart_238 : decode cX9_onePart 238 = .ok (.getfield 96, 3) := by decide +kernel
theorem dX9_onePart_241 : decode cX9_onePart 241 = .ok (.invokevirtual 272, 3) := by decide +kernel
theorem dX9_onePart_244 : decode cX9_onePart 244 = .ok (.ifCond .eq 9, 3) := by decide +kernel
theorem dX9_onePart_247 : decode cX9_onePart 247 = .ok (.sipush 150, 3) := by decide +kernel
theorem dX9_onePart_250 : decode cX9_onePart 250 = .ok (.goto 4, 3) := by decide +kernel
theorem dX9_onePart_253 : decode cX9_onePart 253 = .ok (.iconst (-1), 1) := by decide +kernel
theorem dX9_onePart_254 : decode cX9_onePart 254 = .ok (.istore_n 2, 1) := by decide +kernel
theorem dX9_onePart_255 : decode cX9_onePart 255 = .ok (.iload_n 2, 1) := by decide +kernel
theorem dX9_onePart_256 : decode cX9_onePart 256 = .ok (.iconst (-1), 1) := by decide +kernel
theorem dX9_onePart_257 : decode cX9_onePart 257 = .ok (.if_icmp .eq 23, 3) := by decide +kernel
theorem dX9_onePart_260 : decode cX9_onePart 260 = .ok (.aload_n 0, 1) := by decide +kernel
theorem dX9_onePart_261 : decode cX9_onePart 261 = .ok (.iload_n 2, 1) := by decide +kernel
theorem dX9_onePart_262 : decode cX9_onePart 262 = .ok (.aload_n 0, 1) := by decide +kernel
theorem dX9_onePart_263 : decode cX9_onePart 263 = .ok (.iconst 0, 1) := by decide +kernel
theorem dX9_onePart_264 : decode cX9_onePart 264 = .ok (.aload_n 0, 1) := by decide +kernel
theorem dX9_onePart_265 : decode cX9_onePart 265 = .ok (.getfield 346, 3) := by decide +kernel
theorem dX9_onePart_268 : decode cX9_onePart 268 = .ok (.iconst 1, 1) := by decide +kernel
theorem dX9_onePart_269 : decode cX9_onePart 269 = .ok (.isub, 1) := by decide +kernel
theorem dX9_onePart_270 : decode cX9_onePart 270 = .ok (.invokevirtual 349, 3) := by decide +kernel
theorem dX9_onePart_273 : decode cX9_onePart 273 = .ok (.iadd, 1) := by decide +kernel
theorem dX9_onePart_274 : decode cX9_onePart 274 = .ok (.invokevirtual 323, 3) := by decide +kernel
theorem dX9_onePart_277 : decode cX9_onePart 277 = .ok (.goto 74, 3) := by decide +kernel
theorem dX9_onePart_280 : decode cX9_onePart 280 = .ok (.aload_n 0, 1) := by decide +kernel
theorem dX9_onePart_281 : decode cX9_onePart 281 = .ok (.aload_n 0, 1) := by decide +kernel
theorem dX9_onePart_282 : decode cX9_onePart 282 = .ok (.getfield 99, 3) := by decide +kernel
theorem dX9_onePart_285 : decode cX9_onePart 285 = .ok (.invokevirtual 272, 3) := by decide +kernel
theorem dX9_onePart_288 : decode cX9_onePart 288 = .ok (.ifCond .eq 18, 3) := by decide +kernel
theorem dX9_onePart_291 : decode cX9_onePart 291 = .ok (.aload_n 0, 1) := by decide +kernel
theorem dX9_onePart_292 : decode cX9_onePart 292 = .ok (.sipush 160, 3) := by decide +kernel
theorem dX9_onePart_295 : decode cX9_onePart 295 = .ok (.aload_n 0, 1) := by decide +kernel
theorem dX9_onePart_296 : decode cX9_onePart 296 = .ok (.invokevirtual 353, 3) := by decide +kernel
theorem dX9_onePart_299 : decode cX9_onePart 299 = .ok (.iadd, 1) := by decide +kernel
theorem dX9_onePart_300 : decode cX9_onePart 300 = .ok (.invokevirtual 323, 3) := by decide +kernel
theorem dX9_onePart_303 : decode cX9_onePart 303 = .ok (.goto 48, 3) := by decide +kernel
theorem dX9_onePart_306 : decode cX9_onePart 306 = .ok (.aload_n 0, 1) := by decide +kernel
theorem dX9_onePart_307 : decode cX9_onePart 307 = .ok (.aload_n 0, 1) := by decide +kernel
theorem dX9_onePart_308 : decode cX9_onePart 308 = .ok (.getfield 102, 3) := by decide +kernel
theorem dX9_onePart_311 : decode cX9_onePart 311 = .ok (.invokevirtual 272, 3) := by decide +kernel
theorem dX9_onePart_314 : decode cX9_onePart 314 = .ok (.ifCond .eq 21, 3) := by decide +kernel
theorem dX9_onePart_317 : decode cX9_onePart 317 = .ok (.aload_n 0, 1) := by decide +kernel
theorem dX9_onePart_318 : decode cX9_onePart 318 = .ok (.sipush 170, 3) := by decide +kernel
theorem dX9_onePart_321 : decode cX9_onePart 321 = .ok (.aload_n 0, 1) := by decide +kernel
theorem dX9_onePart_322 : decode cX9_onePart 322 = .ok (.iconst 0, 1) := by decide +kernel
theorem dX9_onePart_323 : decode cX9_onePart 323 = .ok (.bipush 9, 2) := by decide +kernel
theorem dX9_onePart_325 : decode cX9_onePart 325 = .ok (.invokevirtual 349, 3) := by decide +kernel
theorem dX9_onePart_328 : decode cX9_onePart 328 = .ok (.iadd, 1) := by decide +kernel
theorem dX9_onePart_329 : decode cX9_onePart 329 = .ok (.invokevirtual 323, 3) := by decide +kernel
theorem dX9_onePart_332 : decode cX9_onePart 332 = .ok (.goto 19, 3) := by decide +kernel
theorem dX9_onePart_335 : decode cX9_onePart 335 = .ok (.aload_n 0, 1) := by decide +kernel
theorem dX9_onePart_336 : decode cX9_onePart 336 = .ok (.sipush 1000, 3) := by decide +kernel
theorem dX9_onePart_339 : decode cX9_onePart 339 = .ok (.aload_n 0, 1) := by decide +kernel
theorem dX9_onePart_340 : decode cX9_onePart 340 = .ok (.iconst 0, 1) := by decide +kernel
theorem dX9_onePart_341 : decode cX9_onePart 341 = .ok (.sipush 9999, 3) := by decide +kernel
theorem dX9_onePart_344 : decode cX9_onePart 344 = .ok (.invokevirtual 349, 3) := by decide +kernel
theorem dX9_onePart_347 : decode cX9_onePart 347 = .ok (.iadd, 1) := by decide +kernel
theorem dX9_onePart_348 : decode cX9_onePart 348 = .ok (.invokevirtual 323, 3) := by decide +kernel
theorem dX9_onePart_351 : decode cX9_onePart 351 = .ok (.return_, 1) := by decide +kernel
theorem dX9_goesOn_0 : decode cX9_goesOn 0 = .ok (.aload_n 0, 1) := by decide +kernel
theorem dX9_goesOn_1 : decode cX9_goesOn 1 = .ok (.getfield 245, 3) := by decide +kernel
theorem dX9_goesOn_4 : decode cX9_goesOn 4 = .ok (.ifCond .ne 114, 3) := by decide +kernel
theorem dX9_goesOn_7 : decode cX9_goesOn 7 = .ok (.aload_n 0, 1) := by decide +kernel
theorem dX9_goesOn_8 : decode cX9_goesOn 8 = .ok (.invokevirtual 257, 3) := by decide +kernel
theorem dX9_goesOn_11 : decode cX9_goesOn 11 = .ok (.bipush 41, 2) := by decide +kernel
theorem dX9_goesOn_13 : decode cX9_goesOn 13 = .ok (.if_icmp .ne 105, 3) := by decide +kernel
theorem dX9_goesOn_16 : decode cX9_goesOn 16 = .ok (.aload_n 0, 1) := by decide +kernel
theorem dX9_goesOn_17 : decode cX9_goesOn 17 = .ok (.invokevirtual 356, 3) := by decide +kernel
theorem dX9_goesOn_20 : decode cX9_goesOn 20 = .ok (.bipush 20, 2) := by decide +kernel
theorem dX9_goesOn_22 : decode cX9_goesOn 22 = .ok (.if_icmp .eq 21, 3) := by decide +kernel
theorem dX9_goesOn_25 : decode cX9_goesOn 25 = .ok (.aload_n 0, 1) := by decide +kernel
theorem dX9_goesOn_26 : decode cX9_goesOn 26 = .ok (.invokevirtual 356, 3) := by decide +kernel
theorem dX9_goesOn_29 : decode cX9_goesOn 29 = .ok (.bipush 23, 2) := by decide +kernel
theorem dX9_goesOn_31 : decode cX9_goesOn 31 = .ok (.if_icmp .eq 12, 3) := by decide +kernel
theorem dX9_goesOn_34 : decode cX9_goesOn 34 = .ok (.aload_n 0, 1) := by decide +kernel
theorem dX9_goesOn_35 : decode cX9_goesOn 35 = .ok (.invokevirtual 356, 3) := by decide +kernel
theorem dX9_goesOn_38 : decode cX9_goesOn 38 = .ok (.bipush 24, 2) := by decide +kernel
theorem dX9_goesOn_40 : decode cX9_goesOn 40 = .ok (.if_icmp .ne 78, 3) := by decide +kernel
theorem dX9_goesOn_43 : decode cX9_goesOn 43 = .ok (.aload_n 0, 1) := by decide +kernel
theorem dX9_goesOn_44 : decode cX9_goesOn 44 = .ok (.dup, 1) := by decide +kernel
theorem dX9_goesOn_45 : decode cX9_goesOn 45 = .ok (.getfield 251, 3) := by decide +kernel
theorem dX9_goesOn_48 : decode cX9_goesOn 48 = .ok (.iconst 1, 1) := by decide +kernel
theorem dX9_goesOn_49 : decode cX9_goesOn 49 = .ok (.iadd, 1) := by decide +kernel
theorem dX9_goesOn_50 : decode cX9_goesOn 50 = .ok (.putfield 251, 3) := by decide +kernel
theorem dX9_goesOn_53 : decode cX9_goesOn 53 = .ok (.aload_n 0, 1) := by decide +kernel
theorem dX9_goesOn_54 : decode cX9_goesOn 54 = .ok (.invokevirtual 359, 3) := by decide +kernel
theorem dX9_goesOn_57 : decode cX9_goesOn 57 = .ok (.aload_n 0, 1) := by decide +kernel
theorem dX9_goesOn_58 : decode cX9_goesOn 58 = .ok (.dup, 1) := by decide +kernel
theorem dX9_goesOn_59 : decode cX9_goesOn 59 = .ok (.getfield 320, 3) := by decide +kernel
theorem dX9_goesOn_62 : decode cX9_goesOn 62 = .ok (.iconst 1, 1) := by decide +kernel
theorem dX9_goesOn_63 : decode cX9_goesOn 63 = .ok (.isub, 1) := by decide +kernel
theorem dX9_goesOn_64 : decode cX9_goesOn 64 = .ok (.putfield 320, 3) := by decide +kernel
theorem dX9_goesOn_67 : decode cX9_goesOn 67 = .ok (.aload_n 0, 1) := by decide +kernel
theorem dX9_goesOn_68 : decode cX9_goesOn 68 = .ok (.dup, 1) := by decide +kernel
theorem dX9_goesOn_69 : decode cX9_goesOn 69 = .ok (.getfield 317, 3) := by decide +kernel
theorem dX9_goesOn_72 : decode cX9_goesOn 72 = .ok (.iconst 1, 1) := by decide +kernel
theorem dX9_goesOn_73 : decode cX9_goesOn 73 = .ok (.isub, 1) := by decide +kernel
theorem dX9_goesOn_74 : decode cX9_goesOn 74 = .ok (.putfield 317, 3) := by decide +kernel
theorem dX9_goesOn_77 : decode cX9_goesOn 77 = .ok (.aload_n 0, 1) := by decide +kernel
theorem dX9_goesOn_78 : decode cX9_goesOn 78 = .ok (.getfield 117, 3) := by decide +kernel
theorem dX9_goesOn_81 : decode cX9_goesOn 81 = .ok (.aload_n 0, 1) := by decide +kernel
theorem dX9_goesOn_82 : decode cX9_goesOn 82 = .ok (.getfield 320, 3) := by decide +kernel
theorem dX9_goesOn_85 : decode cX9_goesOn 85 = .ok (.iaload, 1) := by decide +kernel
theorem dX9_goesOn_86 : decode cX9_goesOn 86 = .ok (.bipush 20, 2) := by decide +kernel
theorem dX9_goesOn_88 : decode cX9_goesOn 88 = .ok (.if_icmp .eq (-88), 3) := by decide +kernel
theorem dX9_goesOn_91 : decode cX9_goesOn 91 = .ok (.aload_n 0, 1) := by decide +kernel
theorem dX9_goesOn_92 : decode cX9_goesOn 92 = .ok (.aload_n 0, 1) := by decide +kernel
theorem dX9_goesOn_93 : decode cX9_goesOn 93 = .ok (.getfield 117, 3) := by decide +kernel
theorem dX9_goesOn_96 : decode cX9_goesOn 96 = .ok (.aload_n 0, 1) := by decide +kernel
theorem dX9_goesOn_97 : decode cX9_goesOn 97 = .ok (.getfield 320, 3) := by decide +kernel
theorem dX9_goesOn_100 : decode cX9_goesOn 100 = .ok (.iaload, 1) := by decide +kernel
theorem dX9_goesOn_101 : decode cX9_goesOn 101 = .ok (.bipush 23, 2) := by decide +kernel
theorem dX9_goesOn_103 : decode cX9_goesOn 103 = .ok (.if_icmp .ne 7, 3) := by decide +kernel
theorem dX9_goesOn_106 : decode cX9_goesOn 106 = .ok (.iconst 5, 1) := by decide +kernel
theorem dX9_goesOn_107 : decode cX9_goesOn 107 = .ok (.goto 5, 3) := by decide +kernel
theorem dX9_goesOn_110 : decode cX9_goesOn 110 = .ok (.bipush 6, 2) := by decide +kernel
theorem dX9_goesOn_112 : decode cX9_goesOn 112 = .ok (.invokevirtual 323, 3) := by decide +kernel
theorem dX9_goesOn_115 : decode cX9_goesOn 115 = .ok (.goto (-115), 3) := by decide +kernel
theorem dX9_goesOn_118 : decode cX9_goesOn 118 = .ok (.aload_n 0, 1) := by decide +kernel
theorem dX9_goesOn_119 : decode cX9_goesOn 119 = .ok (.bipush 42, 2) := by decide +kernel
theorem dX9_goesOn_121 : decode cX9_goesOn 121 = .ok (.invokevirtual 279, 3) := by decide +kernel
theorem dX9_goesOn_124 : decode cX9_goesOn 124 = .ok (.ifCond .ne 12, 3) := by decide +kernel
theorem dX9_goesOn_127 : decode cX9_goesOn 127 = .ok (.aload_n 0, 1) := by decide +kernel
theorem dX9_goesOn_128 : decode cX9_goesOn 128 = .ok (.bipush 47, 2) := by decide +kernel
theorem dX9_goesOn_130 : decode cX9_goesOn 130 = .ok (.invokevirtual 279, 3) := by decide +kernel
theorem dX9_goesOn_133 : decode cX9_goesOn 133 = .ok (.ifCond .eq 70, 3) := by decide +kernel
theorem dX9_goesOn_136 : decode cX9_goesOn 136 = .ok (.aload_n 0, 1) := by decide +kernel
theorem dX9_goesOn_137 : decode cX9_goesOn 137 = .ok (.getfield 7, 3) := by decide +kernel
theorem dX9_goesOn_140 : decode cX9_goesOn 140 = .ok (.aload_n 0, 1) := by decide +kernel
theorem dX9_goesOn_141 : decode cX9_goesOn 141 = .ok (.getfield 251, 3) := by decide +kernel
theorem dX9_goesOn_144 : decode cX9_goesOn 144 = .ok (.iconst 1, 1) := by decide +kernel
theorem dX9_goesOn_145 : decode cX9_goesOn 145 = .ok (.isub, 1) := by decide +kernel
theorem dX9_goesOn_146 : decode cX9_goesOn 146 = .ok (.iaload, 1) := by decide +kernel
theorem dX9_goesOn_147 : decode cX9_goesOn 147 = .ok (.bipush 42, 2) := by decide +kernel
theorem dX9_goesOn_149 : decode cX9_goesOn 149 = .ok (.if_icmp .ne 7, 3) := by decide +kernel
theorem dX9_goesOn_152 : decode cX9_goesOn 152 = .ok (.iconst 3, 1) := by decide +kernel
theorem dX9_goesOn_153 : decode cX9_goesOn 153 = .ok (.goto 4, 3) := by decide +kernel
theorem dX9_goesOn_156 : decode cX9_goesOn 156 = .ok (.iconst 4, 1) := by decide +kernel
theorem dX9_goesOn_157 : decode cX9_goesOn 157 = .ok (.istore_n 1, 1) := by decide +kernel
theorem dX9_goesOn_158 : decode cX9_goesOn 158 = .ok (.aload_n 0, 1) := by decide +kernel
theorem dX9_goesOn_159 : decode cX9_goesOn 159 = .ok (.iconst 3, 1) := by decide +kernel
theorem dX9_goesOn_160 : decode cX9_goesOn 160 = .ok (.invokevirtual 362, 3) := by decide +kernel
theorem dX9_goesOn_163 : decode cX9_goesOn 163 = .ok (.ifCond .ne 11, 3) := by decide +kernel
theorem dX9_goesOn_166 : decode cX9_goesOn 166 = .ok (.aload_n 0, 1) := by decide +kernel
theorem dX9_goesOn_167 : decode cX9_goesOn 167 = .ok (.iconst 4, 1) := by decide +kernel
theorem dX9_goesOn_168 : decode cX9_goesOn 168 = .ok (.invokevirtual 362, 3) := by decide +kernel
theorem dX9_goesOn_171 : decode cX9_goesOn 171 = .ok (.ifCond .eq 10, 3) := by decide +kernel
theorem dX9_goesOn_174 : decode cX9_goesOn 174 = .ok (.aload_n 0, 1) := by decide +kernel
theorem dX9_goesOn_175 : decode cX9_goesOn 175 = .ok (.invokevirtual 333, 3) := by decide +kernel
theorem dX9_goesOn_178 : decode cX9_goesOn 178 = .ok (.goto (-20), 3) := by decide +kernel
theorem dX9_goesOn_181 : decode cX9_goesOn 181 = .ok (.aload_n 0, 1) := by decide +kernel
theorem dX9_goesOn_182 : decode cX9_goesOn 182 = .ok (.getfield 117, 3) := by decide +kernel
theorem dX9_goesOn_185 : decode cX9_goesOn 185 = .ok (.aload_n 0, 1) := by decide +kernel
theorem dX9_goesOn_186 : decode cX9_goesOn 186 = .ok (.getfield 320, 3) := by decide +kernel
theorem dX9_goesOn_189 : decode cX9_goesOn 189 = .ok (.iload_n 1, 1) := by decide +kernel
theorem dX9_goesOn_190 : decode cX9_goesOn 190 = .ok (.iastore, 1) := by decide +kernel
theorem dX9_goesOn_191 : decode cX9_goesOn 191 = .ok (.aload_n 0, 1) := by decide +kernel
theorem dX9_goesOn_192 : decode cX9_goesOn 192 = .ok (.dup, 1) := by decide +kernel
theorem dX9_goesOn_193 : decode cX9_goesOn 193 = .ok (.getfield 320, 3) := by decide +kernel
theorem dX9_goesOn_196 : decode cX9_goesOn 196 = .ok (.iconst 1, 1) := by decide +kernel
theorem dX9_goesOn_197 : decode cX9_goesOn 197 = .ok (.iadd, 1) := by decide +kernel
theorem dX9_goesOn_198 : decode cX9_goesOn 198 = .ok (.putfield 320, 3) := by decide +kernel
theorem dX9_goesOn_201 : decode cX9_goesOn 201 = .ok (.iconst 1, 1) := by decide +kernel
theorem dX9_goesOn_202 : decode cX9_goesOn 202 = .ok (.ireturn, 1) := by decide +kernel
theorem dX9_goesOn_203 : decode cX9_goesOn 203 = .ok (.aload_n 0, 1) := by decide +kernel
theorem dX9_goesOn_204 : decode cX9_goesOn 204 = .ok (.bipush 43, 2) := by decide +kernel
theorem dX9_goesOn_206 : decode cX9_goesOn 206 = .ok (.invokevirtual 279, 3) := by decide +kernel
theorem dX9_goesOn_209 : decode cX9_goesOn 209 = .ok (.ifCond .ne 12, 3) := by decide +kernel
theorem dX9_goesOn_212 : decode cX9_goesOn 212 = .ok (.aload_n 0, 1) := by decide +kernel
theorem dX9_goesOn_213 : decode cX9_goesOn 213 = .ok (.bipush 45, 2) := by decide +kernel
theorem dX9_goesOn_215 : decode cX9_goesOn 215 = .ok (.invokevirtual 279, 3) := by decide +kernel
theorem dX9_goesOn_218 : decode cX9_goesOn 218 = .ok (.ifCond .eq 86, 3) := by decide +kernel
theorem dX9_goesOn_221 : decode cX9_goesOn 221 = .ok (.aload_n 0, 1) := by decide +kernel
theorem dX9_goesOn_222 : decode cX9_goesOn 222 = .ok (.getfield 7, 3) := by decide +kernel
theorem dX9_goesOn_225 : decode cX9_goesOn 225 = .ok (.aload_n 0, 1) := by decide +kernel
theorem dX9_goesOn_226 : decode cX9_goesOn 226 = .ok (.getfield 251, 3) := by decide +kernel
theorem dX9_goesOn_229 : decode cX9_goesOn 229 = .ok (.iconst 1, 1) := by decide +kernel
theorem dX9_goesOn_230 : decode cX9_goesOn 230 = .ok (.isub, 1) := by decide +kernel
theorem dX9_goesOn_231 : decode cX9_goesOn 231 = .ok (.iaload, 1) := by decide +kernel
theorem dX9_goesOn_232 : decode cX9_goesOn 232 = .ok (.bipush 43, 2) := by decide +kernel
theorem dX9_goesOn_234 : decode cX9_goesOn 234 = .ok (.if_icmp .ne 7, 3) := by decide +kernel
theorem dX9_goesOn_237 : decode cX9_goesOn 237 = .ok (.iconst 1, 1) := by decide +kernel
theorem dX9_goesOn_238 : decode cX9_goesOn 238 = .ok (.goto 4, 3) := by decide +kernel
theorem dX9_goesOn_241 : decode cX9_goesOn 241 = .ok (.iconst 2, 1) := by decide +kernel
theorem dX9_goesOn_242 : decode cX9_goesOn 242 = .ok (.istore_n 1, 1) := by decide +kernel
theorem dX9_goesOn_243 : decode cX9_goesOn 243 = .ok (.aload_n 0, 1) := by decide +kernel
theorem dX9_goesOn_244 : decode cX9_goesOn 244 = .ok (.iconst 3, 1) := by decide +kernel
theorem dX9_goesOn_245 : decode cX9_goesOn 245 = .ok (.invokevirtual 362, 3) := by decide +kernel
theorem dX9_goesOn_248 : decode cX9_goesOn 248 = .ok (.ifCond .ne 27, 3) := by decide +kernel
theorem dX9_goesOn_251 : decode cX9_goesOn 251 = .ok (.aload_n 0, 1) := by decide +kernel
theorem dX9_goesOn_252 : decode cX9_goesOn 252 = .ok (.iconst 4, 1) := by decide +kernel
theorem dX9_goesOn_253 : decode cX9_goesOn 253 = .ok (.invokevirtual 362, 3) := by decide +kernel
theorem dX9_goesOn_256 : decode cX9_goesOn 256 = .ok (.ifCond .ne 19, 3) := by decide +kernel
theorem dX9_goesOn_259 : decode cX9_goesOn 259 = .ok (.aload_n 0, 1) := by decide +kernel
theorem dX9_goesOn_260 : decode cX9_goesOn 260 = .ok (.iconst 1, 1) := by decide +kernel
theorem dX9_goesOn_261 : decode cX9_goesOn 261 = .ok (.invokevirtual 362, 3) := by decide +kernel
theorem dX9_goesOn_264 : decode cX9_goesOn 264 = .ok (.ifCond .ne 11, 3) := by decide +kernel
theorem dX9_goesOn_267 : decode cX9_goesOn 267 = .ok (.aload_n 0, 1) := by decide +kernel
theorem dX9_goesOn_268 : decode cX9_goesOn 268 = .ok (.iconst 2, 1) := by decide +kernel
theorem dX9_goesOn_269 : decode cX9_goesOn 269 = .ok (.invokevirtual 362, 3) := by decide +kernel
theorem dX9_goesOn_272 : decode cX9_goesOn 272 = .ok (.ifCond .eq 10, 3) := by decide +kernel
theorem dX9_goesOn_275 : decode cX9_goesOn 275 = .ok (.aload_n 0, 1) := by decide +kernel
theorem dX9_goesOn_276 : decode cX9_goesOn 276 = .ok (.invokevirtual 333, 3) := by decide +kernel
theorem dX9_goesOn_279 : decode cX9_goesOn 279 = .ok (.goto (-36), 3) := by decide +kernel
theorem dX9_goesOn_282 : decode cX9_goesOn 282 = .ok (.aload_n 0, 1) := by decide +kernel
theorem dX9_goesOn_283 : decode cX9_goesOn 283 = .ok (.getfield 117, 3) := by decide +kernel
theorem dX9_goesOn_286 : decode cX9_goesOn 286 = .ok (.aload_n 0, 1) := by decide +kernel
theorem dX9_goesOn_287 : decode cX9_goesOn 287 = .ok (.getfield 320, 3) := by decide +kernel
theorem dX9_goesOn_290 : decode cX9_goesOn 290 = .ok (.iload_n 1, 1) := by decide +kernel
theorem dX9_goesOn_291 : decode cX9_goesOn 291 = .ok (.iastore, 1) := by decide +kernel
theorem dX9_goesOn_292 : decode cX9_goesOn 292 = .ok (.aload_n 0, 1) := by decide +kernel
theorem dX9_goesOn_293 : decode cX9_goesOn 293 = .ok (.dup, 1) := by decide +kernel
theorem dX9_goesOn_294 : decode cX9_goesOn 294 = .ok (.getfield 320, 3) := by decide +kernel
theorem dX9_goesOn_297 : decode cX9_goesOn 297 = .ok (.iconst 1, 1) := by decide +kernel
theorem dX9_goesOn_298 : decode cX9_goesOn 298 = .ok (.iadd, 1) := by decide +kernel
theorem dX9_goesOn_299 : decode cX9_goesOn 299 = .ok (.putfield 320, 3) := by decide +kernel
theorem dX9_goesOn_302 : decode cX9_goesOn 302 = .ok (.iconst 1, 1) := by decide +kernel
theorem dX9_goesOn_303 : decode cX9_goesOn 303 = .ok (.ireturn, 1) := by decide +kernel
theorem dX9_goesOn_304 : decode cX9_goesOn 304 = .ok (.aload_n 0, 1) := by decide +kernel
theorem dX9_goesOn_305 : decode cX9_goesOn 305 = .ok (.invokevirtual 356, 3) := by decide +kernel
theorem dX9_goesOn_308 : decode cX9_goesOn 308 = .ok (.bipush 21, 2) := by decide +kernel
theorem dX9_goesOn_310 : decode cX9_goesOn 310 = .ok (.if_icmp .eq 12, 3) := by decide +kernel
theorem dX9_goesOn_313 : decode cX9_goesOn 313 = .ok (.aload_n 0, 1) := by decide +kernel
theorem dX9_goesOn_314 : decode cX9_goesOn 314 = .ok (.invokevirtual 356, 3) := by decide +kernel
theorem dX9_goesOn_317 : decode cX9_goesOn 317 = .ok (.bipush 22, 2) := by decide +kernel
theorem dX9_goesOn_319 : decode cX9_goesOn 319 = .ok (.if_icmp .ne 39, 3) := by decide +kernel
theorem dX9_goesOn_322 : decode cX9_goesOn 322 = .ok (.aload_n 0, 1) := by decide +kernel
theorem dX9_goesOn_323 : decode cX9_goesOn 323 = .ok (.bipush 44, 2) := by decide +kernel
theorem dX9_goesOn_325 : decode cX9_goesOn 325 = .ok (.invokevirtual 343, 3) := by decide +kernel
theorem dX9_goesOn_328 : decode cX9_goesOn 328 = .ok (.aload_n 0, 1) := by decide +kernel
theorem dX9_goesOn_329 : decode cX9_goesOn 329 = .ok (.getfield 245, 3) := by decide +kernel
theorem dX9_goesOn_332 : decode cX9_goesOn 332 = .ok (.ifCond .eq 5, 3) := by decide +kernel
theorem dX9_goesOn_335 : decode cX9_goesOn 335 = .ok (.iconst 0, 1) := by decide +kernel
theorem dX9_goesOn_336 : decode cX9_goesOn 336 = .ok (.ireturn, 1) := by decide +kernel
theorem dX9_goesOn_337 : decode cX9_goesOn 337 = .ok (.aload_n 0, 1) := by decide +kernel
theorem dX9_goesOn_338 : decode cX9_goesOn 338 = .ok (.invokevirtual 359, 3) := by decide +kernel
theorem dX9_goesOn_341 : decode cX9_goesOn 341 = .ok (.aload_n 0, 1) := by decide +kernel
theorem dX9_goesOn_342 : decode cX9_goesOn 342 = .ok (.getfield 117, 3) := by decide +kernel
theorem dX9_goesOn_345 : decode cX9_goesOn 345 = .ok (.aload_n 0, 1) := by decide +kernel
theorem dX9_goesOn_346 : decode cX9_goesOn 346 = .ok (.getfield 320, 3) := by decide +kernel
theorem dX9_goesOn_349 : decode cX9_goesOn 349 = .ok (.iconst 1, 1) := by decide +kernel
theorem dX9_goesOn_350 : decode cX9_goesOn 350 = .ok (.isub, 1) := by decide +kernel
theorem dX9_goesOn_351 : decode cX9_goesOn 351 = .ok (.dup2, 1) := by decide +kernel
theorem dX9_goesOn_352 : decode cX9_goesOn 352 = .ok (.iaload, 1) := by decide +kernel
theorem dX9_goesOn_353 : decode cX9_goesOn 353 = .ok (.iconst 2, 1) := by decide +kernel
theorem dX9_goesOn_354 : decode cX9_goesOn 354 = .ok (.iadd, 1) := by decide +kernel
theorem dX9_goesOn_355 : decode cX9_goesOn 355 = .ok (.iastore, 1) := by decide +kernel
theorem dX9_goesOn_356 : decode cX9_goesOn 356 = .ok (.iconst 1, 1) := by decide +kernel
theorem dX9_goesOn_357 : decode cX9_goesOn 357 = .ok (.ireturn, 1) := by decide +kernel
theorem dX9_goesOn_358 : decode cX9_goesOn 358 = .ok (.aload_n 0, 1) := by decide +kernel
theorem dX9_goesOn_359 : decode cX9_goesOn 359 = .ok (.invokevirtual 356, 3) := by decide +kernel
theorem dX9_goesOn_362 : decode cX9_goesOn 362 = .ok (.iconst (-1), 1) := by decide +kernel
theorem dX9_goesOn_363 : decode cX9_goesOn 363 = .ok (.if_icmp .eq 19, 3) := by decide +kernel
theorem dX9_goesOn_366 : decode cX9_goesOn 366 = .ok (.aload_n 0, 1) := by decide +kernel
theorem dX9_goesOn_367 : decode cX9_goesOn 367 = .ok (.getfield 245, 3) := by decide +kernel
theorem dX9_goesOn_370 : decode cX9_goesOn 370 = .ok (.ifCond .ne 12, 3) := by decide +kernel
theorem dX9_goesOn_373 : decode cX9_goesOn 373 = .ok (.aload_n 0, 1) := by decide +kernel
theorem dX9_goesOn_374 : decode cX9_goesOn 374 = .ok (.iconst 1, 1) := by decide +kernel
theorem dX9_goesOn_375 : decode cX9_goesOn 375 = .ok (.aload_n 0, 1) := by decide +kernel
theorem dX9_goesOn_376 : decode cX9_goesOn 376 = .ok (.getfield 251, 3) := by decide +kernel
theorem dX9_goesOn_379 : decode cX9_goesOn 379 = .ok (.invokevirtual 275, 3) := by decide +kernel
theorem dX9_goesOn_382 : decode cX9_goesOn 382 = .ok (.iconst 0, 1) := by decide +kernel
theorem dX9_goesOn_383 : decode cX9_goesOn 383 = .ok (.ireturn, 1) := by decide +kernel
theorem dX9_sum_0 : decode cX9_sum 0 = .ok (.aload_n 0, 1) := by decide +kernel
theorem dX9_sum_1 : decode cX9_sum 1 = .ok (.getfield 327, 3) := by decide +kernel
theorem dX9_sum_4 : decode cX9_sum 4 = .ok (.istore_n 1, 1) := by decide +kernel
theorem dX9_sum_5 : decode cX9_sum 5 = .ok (.aload_n 0, 1) := by decide +kernel
theorem dX9_sum_6 : decode cX9_sum 6 = .ok (.aload_n 0, 1) := by decide +kernel
theorem dX9_sum_7 : decode cX9_sum 7 = .ok (.getfield 320, 3) := by decide +kernel
theorem dX9_sum_10 : decode cX9_sum 10 = .ok (.putfield 327, 3) := by decide +kernel
theorem dX9_sum_13 : decode cX9_sum 13 = .ok (.iconst 1, 1) := by decide +kernel
theorem dX9_sum_14 : decode cX9_sum 14 = .ok (.istore_n 2, 1) := by decide +kernel
theorem dX9_sum_15 : decode cX9_sum 15 = .ok (.iload_n 2, 1) := by decide +kernel
theorem dX9_sum_16 : decode cX9_sum 16 = .ok (.ifCond .eq 37, 3) := by decide +kernel
theorem dX9_sum_19 : decode cX9_sum 19 = .ok (.aload_n 0, 1) := by decide +kernel
theorem dX9_sum_20 : decode cX9_sum 20 = .ok (.getfield 245, 3) := by decide +kernel
theorem dX9_sum_23 : decode cX9_sum 23 = .ok (.ifCond .ne 30, 3) := by decide +kernel
theorem dX9_sum_26 : decode cX9_sum 26 = .ok (.aload_n 0, 1) := by decide +kernel
theorem dX9_sum_27 : decode cX9_sum 27 = .ok (.invokevirtual 365, 3) := by decide +kernel
theorem dX9_sum_30 : decode cX9_sum 30 = .ok (.aload_n 0, 1) := by decide +kernel
theorem dX9_sum_31 : decode cX9_sum 31 = .ok (.getfield 245, 3) := by decide +kernel
theorem dX9_sum_34 : decode cX9_sum 34 = .ok (.ifCond .ne 14, 3) := by decide +kernel
theorem dX9_sum_37 : decode cX9_sum 37 = .ok (.aload_n 0, 1) := by decide +kernel
theorem dX9_sum_38 : decode cX9_sum 38 = .ok (.invokevirtual 368, 3) := by decide +kernel
theorem dX9_sum_41 : decode cX9_sum 41 = .ok (.ifCond .eq 7, 3) := by decide +kernel
theorem dX9_sum_44 : decode cX9_sum 44 = .ok (.iconst 1, 1) := by decide +kernel
theorem dX9_sum_45 : decode cX9_sum 45 = .ok (.goto 4, 3) := by decide +kernel
theorem dX9_sum_48 : decode cX9_sum 48 = .ok (.iconst 0, 1) := by decide +kernel
theorem dX9_sum_49 : decode cX9_sum 49 = .ok (.istore_n 2, 1) := by decide +kernel
theorem dX9_sum_50 : decode cX9_sum 50 = .ok (.goto (-35), 3) := by decide +kernel
theorem dX9_sum_53 : decode cX9_sum 53 = .ok (.aload_n 0, 1) := by decide +kernel
theorem dX9_sum_54 : decode cX9_sum 54 = .ok (.getfield 245, 3) := by decide +kernel
theorem dX9_sum_57 : decode cX9_sum 57 = .ok (.ifCond .ne 21, 3) := by decide +kernel
theorem dX9_sum_60 : decode cX9_sum 60 = .ok (.aload_n 0, 1) := by decide +kernel
theorem dX9_sum_61 : decode cX9_sum 61 = .ok (.getfield 320, 3) := by decide +kernel
theorem dX9_sum_64 : decode cX9_sum 64 = .ok (.aload_n 0, 1) := by decide +kernel
theorem dX9_sum_65 : decode cX9_sum 65 = .ok (.getfield 327, 3) := by decide +kernel
theorem dX9_sum_68 : decode cX9_sum 68 = .ok (.if_icmp .le 10, 3) := by decide +kernel
theorem dX9_sum_71 : decode cX9_sum 71 = .ok (.aload_n 0, 1) := by decide +kernel
theorem dX9_sum_72 : decode cX9_sum 72 = .ok (.invokevirtual 333, 3) := by decide +kernel
theorem dX9_sum_75 : decode cX9_sum 75 = .ok (.goto (-22), 3) := by decide +kernel
theorem dX9_sum_78 : decode cX9_sum 78 = .ok (.aload_n 0, 1) := by decide +kernel
theorem dX9_sum_79 : decode cX9_sum 79 = .ok (.iload_n 1, 1) := by decide +kernel
theorem dX9_sum_80 : decode cX9_sum 80 = .ok (.putfield 327, 3) := by decide +kernel
theorem dX9_sum_83 : decode cX9_sum 83 = .ok (.return_, 1) := by decide +kernel
theorem dX9_fact_0 : decode cX9_fact 0 = .ok (.aload_n 0, 1) := by decide +kernel
theorem dX9_fact_1 : decode cX9_fact 1 = .ok (.aload_n 0, 1) := by decide +kernel
theorem dX9_fact_2 : decode cX9_fact 2 = .ok (.getfield 111, 3) := by decide +kernel
theorem dX9_fact_5 : decode cX9_fact 5 = .ok (.invokevirtual 272, 3) := by decide +kernel
theorem dX9_fact_8 : decode cX9_fact 8 = .ok (.ifCond .eq 23, 3) := by decide +kernel
theorem dX9_fact_11 : decode cX9_fact 11 = .ok (.aload_n 0, 1) := by decide +kernel
theorem dX9_fact_12 : decode cX9_fact 12 = .ok (.sipush 180, 3) := by decide +kernel
theorem dX9_fact_15 : decode cX9_fact 15 = .ok (.aload_n 0, 1) := by decide +kernel
theorem dX9_fact_16 : decode cX9_fact 16 = .ok (.iconst 0, 1) := by decide +kernel
theorem dX9_fact_17 : decode cX9_fact 17 = .ok (.aload_n 0, 1) := by decide +kernel
theorem dX9_fact_18 : decode cX9_fact 18 = .ok (.getfield 346, 3) := by decide +kernel
theorem dX9_fact_21 : decode cX9_fact 21 = .ok (.iconst 1, 1) := by decide +kernel
theorem dX9_fact_22 : decode cX9_fact 22 = .ok (.isub, 1) := by decide +kernel
theorem dX9_fact_23 : decode cX9_fact 23 = .ok (.invokevirtual 349, 3) := by decide +kernel
theorem dX9_fact_26 : decode cX9_fact 26 = .ok (.iadd, 1) := by decide +kernel
theorem dX9_fact_27 : decode cX9_fact 27 = .ok (.invokevirtual 323, 3) := by decide +kernel
theorem dX9_fact_30 : decode cX9_fact 30 = .ok (.return_, 1) := by decide +kernel
theorem dX9_fact_31 : decode cX9_fact 31 = .ok (.aload_n 0, 1) := by decide +kernel
theorem dX9_fact_32 : decode cX9_fact 32 = .ok (.invokevirtual 371, 3) := by decide +kernel
theorem dX9_fact_35 : decode cX9_fact 35 = .ok (.aload_n 0, 1) := by decide +kernel
theorem dX9_fact_36 : decode cX9_fact 36 = .ok (.getfield 245, 3) := by decide +kernel
theorem dX9_fact_39 : decode cX9_fact 39 = .ok (.ifCond .eq 4, 3) := by decide +kernel
theorem dX9_fact_42 : decode cX9_fact 42 = .ok (.return_, 1) := by decide +kernel
theorem dX9_fact_43 : decode cX9_fact 43 = .ok (.aload_n 0, 1) := by decide +kernel
theorem dX9_fact_44 : decode cX9_fact 44 = .ok (.invokevirtual 257, 3) := by decide +kernel
theorem dX9_fact_47 : decode cX9_fact 47 = .ok (.istore_n 1, 1) := by decide +kernel
theorem dX9_fact_48 : decode cX9_fact 48 = .ok (.iload_n 1, 1) := by decide +kernel
theorem dX9_fact_49 : decode cX9_fact 49 = .ok (.bipush 60, 2) := by decide +kernel
theorem dX9_fact_51 : decode cX9_fact 51 = .ok (.if_icmp .eq 25, 3) := by decide +kernel
theorem dX9_fact_54 : decode cX9_fact 54 = .ok (.iload_n 1, 1) := by decide +kernel
theorem dX9_fact_55 : decode cX9_fact 55 = .ok (.bipush 62, 2) := by decide +kernel
theorem dX9_fact_57 : decode cX9_fact 57 = .ok (.if_icmp .eq 19, 3) := by decide +kernel
theorem dX9_fact_60 : decode cX9_fact 60 = .ok (.iload_n 1, 1) := by decide +kernel
theorem dX9_fact_61 : decode cX9_fact 61 = .ok (.bipush 61, 2) := by decide +kernel
theorem dX9_fact_63 : decode cX9_fact 63 = .ok (.if_icmp .eq 13, 3) := by decide +kernel
theorem dX9_fact_66 : decode cX9_fact 66 = .ok (.aload_n 0, 1) := by decide +kernel
theorem dX9_fact_67 : decode cX9_fact 67 = .ok (.iconst 1, 1) := by decide +kernel
theorem dX9_fact_68 : decode cX9_fact 68 = .ok (.aload_n 0, 1) := by decide +kernel
theorem dX9_fact_69 : decode cX9_fact 69 = .ok (.getfield 251, 3) := by decide +kernel
theorem dX9_fact_72 : decode cX9_fact 72 = .ok (.invokevirtual 275, 3) := by decide +kernel
theorem dX9_fact_75 : decode cX9_fact 75 = .ok (.return_, 1) := by decide +kernel
theorem dX9_fact_76 : decode cX9_fact 76 = .ok (.aload_n 0, 1) := by decide +kernel
theorem dX9_fact_77 : decode cX9_fact 77 = .ok (.dup, 1) := by decide +kernel
theorem dX9_fact_78 : decode cX9_fact 78 = .ok (.getfield 251, 3) := by decide +kernel
theorem dX9_fact_81 : decode cX9_fact 81 = .ok (.iconst 1, 1) := by decide +kernel
theorem dX9_fact_82 : decode cX9_fact 82 = .ok (.iadd, 1) := by decide +kernel
theorem dX9_fact_83 : decode cX9_fact 83 = .ok (.putfield 251, 3) := by decide +kernel
theorem dX9_fact_86 : decode cX9_fact 86 = .ok (.aload_n 0, 1) := by decide +kernel
theorem dX9_fact_87 : decode cX9_fact 87 = .ok (.invokevirtual 371, 3) := by decide +kernel
theorem dX9_fact_90 : decode cX9_fact 90 = .ok (.aload_n 0, 1) := by decide +kernel
theorem dX9_fact_91 : decode cX9_fact 91 = .ok (.iload_n 1, 1) := by decide +kernel
theorem dX9_fact_92 : decode cX9_fact 92 = .ok (.bipush 60, 2) := by decide +kernel
theorem dX9_fact_94 : decode cX9_fact 94 = .ok (.if_icmp .ne 8, 3) := by decide +kernel
theorem dX9_fact_97 : decode cX9_fact 97 = .ok (.bipush 11, 2) := by decide +kernel
theorem dX9_fact_99 : decode cX9_fact 99 = .ok (.goto 16, 3) := by decide +kernel
theorem dX9_fact_102 : decode cX9_fact 102 = .ok (.iload_n 1, 1) := by decide +kernel
theorem dX9_fact_103 : decode cX9_fact 103 = .ok (.bipush 62, 2) := by decide +kernel
theorem dX9_fact_105 : decode cX9_fact 105 = .ok (.if_icmp .ne 8, 3) := by decide +kernel
theorem dX9_fact_108 : decode cX9_fact 108 = .ok (.bipush 12, 2) := by decide +kernel
theorem dX9_fact_110 : decode cX9_fact 110 = .ok (.goto 5, 3) := by decide +kernel
theorem dX9_fact_113 : decode cX9_fact 113 = .ok (.bipush 13, 2) := by decide +kernel
theorem dX9_fact_115 : decode cX9_fact 115 = .ok (.invokevirtual 323, 3) := by decide +kernel
theorem dX9_fact_118 : decode cX9_fact 118 = .ok (.return_, 1) := by decide +kernel
theorem dX9_hasSquare_0 : decode cX9_hasSquare 0 = .ok (.iconst 0, 1) := by decide +kernel
theorem dX9_hasSquare_1 : decode cX9_hasSquare 1 = .ok (.istore_n 1, 1) := by decide +kernel
theorem dX9_hasSquare_2 : decode cX9_hasSquare 2 = .ok (.iload_n 1, 1) := by decide +kernel
theorem dX9_hasSquare_3 : decode cX9_hasSquare 3 = .ok (.aload_n 0, 1) := by decide +kernel
theorem dX9_hasSquare_4 : decode cX9_hasSquare 4 = .ok (.getfield 320, 3) := by decide +kernel
theorem dX9_hasSquare_7 : decode cX9_hasSquare 7 = .ok (.if_icmp .ge 22, 3) := by decide +kernel
theorem dX9_hasSquare_10 : decode cX9_hasSquare 10 = .ok (.aload_n 0, 1) := by decide +kernel
theorem dX9_hasSquare_11 : decode cX9_hasSquare 11 = .ok (.getfield 117, 3) := by decide +kernel
theorem dX9_hasSquare_14 : decode cX9_hasSquare 14 = .ok (.iload_n 1, 1) := by decide +kernel
theorem dX9_hasSquare_15 : decode cX9_hasSquare 15 = .ok (.iaload, 1) := by decide +kernel
theorem dX9_hasSquare_16 : decode cX9_hasSquare 16 = .ok (.bipush 25, 2) := by decide +kernel
theorem dX9_hasSquare_18 : decode cX9_hasSquare 18 = .ok (.if_icmp .ne 5, 3) := by decide +kernel
theorem dX9_hasSquare_21 : decode cX9_hasSquare 21 = .ok (.iconst 1, 1) := by decide +kernel
theorem dX9_hasSquare_22 : decode cX9_hasSquare 22 = .ok (.ireturn, 1) := by decide +kernel
theorem dX9_hasSquare_23 : decode cX9_hasSquare 23 = .ok (.iinc 1 1, 3) := by decide +kernel
theorem dX9_hasSquare_26 : decode cX9_hasSquare 26 = .ok (.goto (-24), 3) := by decide +kernel
theorem dX9_hasSquare_29 : decode cX9_hasSquare 29 = .ok (.iconst 0, 1) := by decide +kernel
theorem dX9_hasSquare_30 : decode cX9_hasSquare 30 = .ok (.ireturn, 1) := by decide +kernel
theorem dX9_dropsNots_0 : decode cX9_dropsNots 0 = .ok (.aload_n 0, 1) := by decide +kernel
theorem dX9_dropsNots_1 : decode cX9_dropsNots 1 = .ok (.getfield 245, 3) := by decide +kernel
theorem dX9_dropsNots_4 : decode cX9_dropsNots 4 = .ok (.ifCond .ne 29, 3) := by decide +kernel
theorem dX9_dropsNots_7 : decode cX9_dropsNots 7 = .ok (.aload_n 0, 1) := by decide +kernel
theorem dX9_dropsNots_8 : decode cX9_dropsNots 8 = .ok (.bipush 16, 2) := by decide +kernel
theorem dX9_dropsNots_10 : decode cX9_dropsNots 10 = .ok (.invokevirtual 362, 3) := by decide +kernel
theorem dX9_dropsNots_13 : decode cX9_dropsNots 13 = .ok (.ifCond .eq 20, 3) := by decide +kernel
theorem dX9_dropsNots_16 : decode cX9_dropsNots 16 = .ok (.aload_n 0, 1) := by decide +kernel
theorem dX9_dropsNots_17 : decode cX9_dropsNots 17 = .ok (.dup, 1) := by decide +kernel
theorem dX9_dropsNots_18 : decode cX9_dropsNots 18 = .ok (.getfield 317, 3) := by decide +kernel
theorem dX9_dropsNots_21 : decode cX9_dropsNots 21 = .ok (.iconst 1, 1) := by decide +kernel
theorem dX9_dropsNots_22 : decode cX9_dropsNots 22 = .ok (.isub, 1) := by decide +kernel
theorem dX9_dropsNots_23 : decode cX9_dropsNots 23 = .ok (.putfield 317, 3) := by decide +kernel
theorem dX9_dropsNots_26 : decode cX9_dropsNots 26 = .ok (.aload_n 0, 1) := by decide +kernel
theorem dX9_dropsNots_27 : decode cX9_dropsNots 27 = .ok (.invokevirtual 333, 3) := by decide +kernel
theorem dX9_dropsNots_30 : decode cX9_dropsNots 30 = .ok (.goto (-30), 3) := by decide +kernel
theorem dX9_dropsNots_33 : decode cX9_dropsNots 33 = .ok (.return_, 1) := by decide +kernel
theorem dX9_test_0 : decode cX9_test 0 = .ok (.iconst 1, 1) := by decide +kernel
theorem dX9_test_1 : decode cX9_test 1 = .ok (.istore_n 1, 1) := by decide +kernel
theorem dX9_test_2 : decode cX9_test 2 = .ok (.iload_n 1, 1) := by decide +kernel
theorem dX9_test_3 : decode cX9_test 3 = .ok (.ifCond .eq 107, 3) := by decide +kernel
theorem dX9_test_6 : decode cX9_test 6 = .ok (.aload_n 0, 1) := by decide +kernel
theorem dX9_test_7 : decode cX9_test 7 = .ok (.getfield 245, 3) := by decide +kernel
theorem dX9_test_10 : decode cX9_test 10 = .ok (.ifCond .ne 100, 3) := by decide +kernel
theorem dX9_test_13 : decode cX9_test 13 = .ok (.aload_n 0, 1) := by decide +kernel
theorem dX9_test_14 : decode cX9_test 14 = .ok (.invokevirtual 257, 3) := by decide +kernel
theorem dX9_test_17 : decode cX9_test 17 = .ok (.istore_n 2, 1) := by decide +kernel
theorem dX9_test_18 : decode cX9_test 18 = .ok (.iload_n 2, 1) := by decide +kernel
theorem dX9_test_19 : decode cX9_test 19 = .ok (.bipush 91, 2) := by decide +kernel
theorem dX9_test_21 : decode cX9_test 21 = .ok (.if_icmp .ne 26, 3) := by decide +kernel
theorem dX9_test_24 : decode cX9_test 24 = .ok (.aload_n 0, 1) := by decide +kernel
theorem dX9_test_25 : decode cX9_test 25 = .ok (.bipush 25, 2) := by decide +kernel
theorem dX9_test_27 : decode cX9_test 27 = .ok (.aload_n 0, 1) := by decide +kernel
theorem dX9_test_28 : decode cX9_test 28 = .ok (.getfield 251, 3) := by decide +kernel
theorem dX9_test_31 : decode cX9_test 31 = .ok (.invokevirtual 336, 3) := by decide +kernel
theorem dX9_test_34 : decode cX9_test 34 = .ok (.aload_n 0, 1) := by decide +kernel
theorem dX9_test_35 : decode cX9_test 35 = .ok (.dup, 1) := by decide +kernel
theorem dX9_test_36 : decode cX9_test 36 = .ok (.getfield 251, 3) := by decide +kernel
theorem dX9_test_39 : decode cX9_test 39 = .ok (.iconst 1, 1) := by decide +kernel
theorem dX9_test_40 : decode cX9_test 40 = .ok (.iadd, 1) := by decide +kernel
theorem dX9_test_41 : decode cX9_test 41 = .ok (.putfield 251, 3) := by decide +kernel
theorem dX9_test_44 : decode cX9_test 44 = .ok (.goto (-42), 3) := by decide +kernel
theorem dX9_test_47 : decode cX9_test 47 = .ok (.aload_n 0, 1) := by decide +kernel
theorem dX9_test_48 : decode cX9_test 48 = .ok (.aload_n 0, 1) := by decide +kernel
theorem dX9_test_49 : decode cX9_test 49 = .ok (.getfield 75, 3) := by decide +kernel
theorem dX9_test_52 : decode cX9_test 52 = .ok (.invokevirtual 268, 3) := by decide +kernel
theorem dX9_test_55 : decode cX9_test 55 = .ok (.ifCond .eq 24, 3) := by decide +kernel
theorem dX9_test_58 : decode cX9_test 58 = .ok (.aload_n 0, 1) := by decide +kernel
theorem dX9_test_59 : decode cX9_test 59 = .ok (.bipush 16, 2) := by decide +kernel
theorem dX9_test_61 : decode cX9_test 61 = .ok (.aload_n 0, 1) := by decide +kernel
theorem dX9_test_62 : decode cX9_test 62 = .ok (.getfield 251, 3) := by decide +kernel
theorem dX9_test_65 : decode cX9_test 65 = .ok (.invokevirtual 336, 3) := by decide +kernel
theorem dX9_test_68 : decode cX9_test 68 = .ok (.aload_n 0, 1) := by decide +kernel
theorem dX9_test_69 : decode cX9_test 69 = .ok (.aload_n 0, 1) := by decide +kernel
theorem dX9_test_70 : decode cX9_test 70 = .ok (.getfield 75, 3) := by decide +kernel
theorem dX9_test_73 : decode cX9_test 73 = .ok (.invokevirtual 339, 3) := by decide +kernel
theorem dX9_test_76 : decode cX9_test 76 = .ok (.goto (-74), 3) := by decide +kernel
theorem dX9_test_79 : decode cX9_test 79 = .ok (.aload_n 0, 1) := by decide +kernel
theorem dX9_test_80 : decode cX9_test 80 = .ok (.invokevirtual 374, 3) := by decide +kernel
theorem dX9_test_83 : decode cX9_test 83 = .ok (.aload_n 0, 1) := by decide +kernel
theorem dX9_test_84 : decode cX9_test 84 = .ok (.invokevirtual 377, 3) := by decide +kernel
theorem dX9_test_87 : decode cX9_test 87 = .ok (.aload_n 0, 1) := by decide +kernel
theorem dX9_test_88 : decode cX9_test 88 = .ok (.getfield 245, 3) := by decide +kernel
theorem dX9_test_91 : decode cX9_test 91 = .ok (.ifCond .ne 14, 3) := by decide +kernel
theorem dX9_test_94 : decode cX9_test 94 = .ok (.aload_n 0, 1) := by decide +kernel
theorem dX9_test_95 : decode cX9_test 95 = .ok (.invokevirtual 380, 3) := by decide +kernel
theorem dX9_test_98 : decode cX9_test 98 = .ok (.ifCond .eq 7, 3) := by decide +kernel
theorem dX9_test_101 : decode cX9_test 101 = .ok (.iconst 1, 1) := by decide +kernel
theorem dX9_test_102 : decode cX9_test 102 = .ok (.goto 4, 3) := by decide +kernel
theorem dX9_test_105 : decode cX9_test 105 = .ok (.iconst 0, 1) := by decide +kernel
theorem dX9_test_106 : decode cX9_test 106 = .ok (.istore_n 1, 1) := by decide +kernel
theorem dX9_test_107 : decode cX9_test 107 = .ok (.goto (-105), 3) := by decide +kernel
theorem dX9_test_110 : decode cX9_test 110 = .ok (.aload_n 0, 1) := by decide +kernel
theorem dX9_test_111 : decode cX9_test 111 = .ok (.getfield 245, 3) := by decide +kernel
theorem dX9_test_114 : decode cX9_test 114 = .ok (.ifCond .ne 17, 3) := by decide +kernel
theorem dX9_test_117 : decode cX9_test 117 = .ok (.aload_n 0, 1) := by decide +kernel
theorem dX9_test_118 : decode cX9_test 118 = .ok (.getfield 320, 3) := by decide +kernel
theorem dX9_test_121 : decode cX9_test 121 = .ok (.ifCond .le 10, 3) := by decide +kernel
theorem dX9_test_124 : decode cX9_test 124 = .ok (.aload_n 0, 1) := by decide +kernel
theorem dX9_test_125 : decode cX9_test 125 = .ok (.invokevirtual 333, 3) := by decide +kernel
theorem dX9_test_128 : decode cX9_test 128 = .ok (.goto (-18), 3) := by decide +kernel
theorem dX9_test_131 : decode cX9_test 131 = .ok (.return_, 1) := by decide +kernel
theorem dX9_goesOnTest_0 : decode cX9_goesOnTest 0 = .ok (.aload_n 0, 1) := by decide +kernel
theorem dX9_goesOnTest_1 : decode cX9_goesOnTest 1 = .ok (.getfield 245, 3) := by decide +kernel
theorem dX9_goesOnTest_4 : decode cX9_goesOnTest 4 = .ok (.ifCond .ne 72, 3) := by decide +kernel
theorem dX9_goesOnTest_7 : decode cX9_goesOnTest 7 = .ok (.aload_n 0, 1) := by decide +kernel
theorem dX9_goesOnTest_8 : decode cX9_goesOnTest 8 = .ok (.invokevirtual 257, 3) := by decide +kernel
theorem dX9_goesOnTest_11 : decode cX9_goesOnTest 11 = .ok (.bipush 93, 2) := by decide +kernel
theorem dX9_goesOnTest_13 : decode cX9_goesOnTest 13 = .ok (.if_icmp .ne 63, 3) := by decide +kernel
theorem dX9_goesOnTest_16 : decode cX9_goesOnTest 16 = .ok (.aload_n 0, 1) := by decide +kernel
theorem dX9_goesOnTest_17 : decode cX9_goesOnTest 17 = .ok (.invokevirtual 383, 3) := by decide +kernel
theorem dX9_goesOnTest_20 : decode cX9_goesOnTest 20 = .ok (.ifCond .eq 56, 3) := by decide +kernel
theorem dX9_goesOnTest_23 : decode cX9_goesOnTest 23 = .ok (.aload_n 0, 1) := by decide +kernel
theorem dX9_goesOnTest_24 : decode cX9_goesOnTest 24 = .ok (.dup, 1) := by decide +kernel
theorem dX9_goesOnTest_25 : decode cX9_goesOnTest 25 = .ok (.getfield 251, 3) := by decide +kernel
theorem dX9_goesOnTest_28 : decode cX9_goesOnTest 28 = .ok (.iconst 1, 1) := by decide +kernel
theorem dX9_goesOnTest_29 : decode cX9_goesOnTest 29 = .ok (.iadd, 1) := by decide +kernel
theorem dX9_goesOnTest_30 : decode cX9_goesOnTest 30 = .ok (.putfield 251, 3) := by decide +kernel
theorem dX9_goesOnTest_33 : decode cX9_goesOnTest 33 = .ok (.aload_n 0, 1) := by decide +kernel
theorem dX9_goesOnTest_34 : decode cX9_goesOnTest 34 = .ok (.bipush 25, 2) := by decide +kernel
theorem dX9_goesOnTest_36 : decode cX9_goesOnTest 36 = .ok (.invokevirtual 362, 3) := by decide +kernel
theorem dX9_goesOnTest_39 : decode cX9_goesOnTest 39 = .ok (.ifCond .ne 10, 3) := by decide +kernel
theorem dX9_goesOnTest_42 : decode cX9_goesOnTest 42 = .ok (.aload_n 0, 1) := by decide +kernel
theorem dX9_goesOnTest_43 : decode cX9_goesOnTest 43 = .ok (.invokevirtual 333, 3) := by decide +kernel
theorem dX9_goesOnTest_46 : decode cX9_goesOnTest 46 = .ok (.goto (-13), 3) := by decide +kernel
theorem dX9_goesOnTest_49 : decode cX9_goesOnTest 49 = .ok (.aload_n 0, 1) := by decide +kernel
theorem dX9_goesOnTest_50 : decode cX9_goesOnTest 50 = .ok (.dup, 1) := by decide +kernel
theorem dX9_goesOnTest_51 : decode cX9_goesOnTest 51 = .ok (.getfield 320, 3) := by decide +kernel
theorem dX9_goesOnTest_54 : decode cX9_goesOnTest 54 = .ok (.iconst 1, 1) := by decide +kernel
theorem dX9_goesOnTest_55 : decode cX9_goesOnTest 55 = .ok (.isub, 1) := by decide +kernel
theorem dX9_goesOnTest_56 : decode cX9_goesOnTest 56 = .ok (.putfield 320, 3) := by decide +kernel
theorem dX9_goesOnTest_59 : decode cX9_goesOnTest 59 = .ok (.aload_n 0, 1) := by decide +kernel
theorem dX9_goesOnTest_60 : decode cX9_goesOnTest 60 = .ok (.dup, 1) := by decide +kernel
theorem dX9_goesOnTest_61 : decode cX9_goesOnTest 61 = .ok (.getfield 317, 3) := by decide +kernel
theorem dX9_goesOnTest_64 : decode cX9_goesOnTest 64 = .ok (.iconst 1, 1) := by decide +kernel
theorem dX9_goesOnTest_65 : decode cX9_goesOnTest 65 = .ok (.isub, 1) := by decide +kernel
theorem dX9_goesOnTest_66 : decode cX9_goesOnTest 66 = .ok (.putfield 317, 3) := by decide +kernel
theorem dX9_goesOnTest_69 : decode cX9_goesOnTest 69 = .ok (.aload_n 0, 1) := by decide +kernel
theorem dX9_goesOnTest_70 : decode cX9_goesOnTest 70 = .ok (.invokevirtual 377, 3) := by decide +kernel
theorem dX9_goesOnTest_73 : decode cX9_goesOnTest 73 = .ok (.goto (-73), 3) := by decide +kernel
theorem dX9_goesOnTest_76 : decode cX9_goesOnTest 76 = .ok (.aload_n 0, 1) := by decide +kernel
theorem dX9_goesOnTest_77 : decode cX9_goesOnTest 77 = .ok (.aload_n 0, 1) := by decide +kernel
theorem dX9_goesOnTest_78 : decode cX9_goesOnTest 78 = .ok (.getfield 72, 3) := by decide +kernel
theorem dX9_goesOnTest_81 : decode cX9_goesOnTest 81 = .ok (.invokevirtual 272, 3) := by decide +kernel
theorem dX9_goesOnTest_84 : decode cX9_goesOnTest 84 = .ok (.ifCond .eq 42, 3) := by decide +kernel
theorem dX9_goesOnTest_87 : decode cX9_goesOnTest 87 = .ok (.aload_n 0, 1) := by decide +kernel
theorem dX9_goesOnTest_88 : decode cX9_goesOnTest 88 = .ok (.bipush 14, 2) := by decide +kernel
theorem dX9_goesOnTest_90 : decode cX9_goesOnTest 90 = .ok (.invokevirtual 362, 3) := by decide +kernel
theorem dX9_goesOnTest_93 : decode cX9_goesOnTest 93 = .ok (.ifCond .eq 10, 3) := by decide +kernel
theorem dX9_goesOnTest_96 : decode cX9_goesOnTest 96 = .ok (.aload_n 0, 1) := by decide +kernel
theorem dX9_goesOnTest_97 : decode cX9_goesOnTest 97 = .ok (.invokevirtual 333, 3) := by decide +kernel
theorem dX9_goesOnTest_100 : decode cX9_goesOnTest 100 = .ok (.goto (-13), 3) := by decide +kernel
theorem dX9_goesOnTest_103 : decode cX9_goesOnTest 103 = .ok (.aload_n 0, 1) := by decide +kernel
theorem dX9_goesOnTest_104 : decode cX9_goesOnTest 104 = .ok (.getfield 117, 3) := by decide +kernel
theorem dX9_goesOnTest_107 : decode cX9_goesOnTest 107 = .ok (.aload_n 0, 1) := by decide +kernel
theorem dX9_goesOnTest_108 : decode cX9_goesOnTest 108 = .ok (.getfield 320, 3) := by decide +kernel
theorem dX9_goesOnTest_111 : decode cX9_goesOnTest 111 = .ok (.bipush 14, 2) := by decide +kernel
theorem dX9_goesOnTest_113 : decode cX9_goesOnTest 113 = .ok (.iastore, 1) := by decide +kernel
theorem dX9_goesOnTest_114 : decode cX9_goesOnTest 114 = .ok (.aload_n 0, 1) := by decide +kernel
theorem dX9_goesOnTest_115 : decode cX9_goesOnTest 115 = .ok (.dup, 1) := by decide +kernel
theorem dX9_goesOnTest_116 : decode cX9_goesOnTest 116 = .ok (.getfield 320, 3) := by decide +kernel
theorem dX9_goesOnTest_119 : decode cX9_goesOnTest 119 = .ok (.iconst 1, 1) := by decide +kernel
theorem dX9_goesOnTest_120 : decode cX9_goesOnTest 120 = .ok (.iadd, 1) := by decide +kernel
theorem dX9_goesOnTest_121 : decode cX9_goesOnTest 121 = .ok (.putfield 320, 3) := by decide +kernel
theorem dX9_goesOnTest_124 : decode cX9_goesOnTest 124 = .ok (.iconst 1, 1) := by decide +kernel
theorem dX9_goesOnTest_125 : decode cX9_goesOnTest 125 = .ok (.ireturn, 1) := by decide +kernel
theorem dX9_goesOnTest_126 : decode cX9_goesOnTest 126 = .ok (.aload_n 0, 1) := by decide +kernel
theorem dX9_goesOnTest_127 : decode cX9_goesOnTest 127 = .ok (.aload_n 0, 1) := by decide +kernel
theorem dX9_goesOnTest_128 : decode cX9_goesOnTest 128 = .ok (.getfield 69, 3) := by decide +kernel
theorem dX9_goesOnTest_131 : decode cX9_goesOnTest 131 = .ok (.invokevirtual 272, 3) := by decide +kernel
theorem dX9_goesOnTest_134 : decode cX9_goesOnTest 134 = .ok (.ifCond .eq 51, 3) := by decide +kernel
theorem dX9_goesOnTest_137 : decode cX9_goesOnTest 137 = .ok (.aload_n 0, 1) := by decide +kernel
theorem dX9_goesOnTest_138 : decode cX9_goesOnTest 138 = .ok (.bipush 14, 2) := by decide +kernel
theorem dX9_goesOnTest_140 : decode cX9_goesOnTest 140 = .ok (.invokevirtual 362, 3) := by decide +kernel
theorem dX9_goesOnTest_143 : decode cX9_goesOnTest 143 = .ok (.ifCond .ne 12, 3) := by decide +kernel
theorem dX9_goesOnTest_146 : decode cX9_goesOnTest 146 = .ok (.aload_n 0, 1) := by decide +kernel
theorem dX9_goesOnTest_147 : decode cX9_goesOnTest 147 = .ok (.bipush 15, 2) := by decide +kernel
theorem dX9_goesOnTest_149 : decode cX9_goesOnTest 149 = .ok (.invokevirtual 362, 3) := by decide +kernel
theorem dX9_goesOnTest_152 : decode cX9_goesOnTest 152 = .ok (.ifCond .eq 10, 3) := by decide +kernel
theorem dX9_goesOnTest_155 : decode cX9_goesOnTest 155 = .ok (.aload_n 0, 1) := by decide +kernel
theorem dX9_goesOnTest_156 : decode cX9_goesOnTest 156 = .ok (.invokevirtual 333, 3) := by decide +kernel
theorem dX9_goesOnTest_159 : decode cX9_goesOnTest 159 = .ok (.goto (-22), 3) := by decide +kernel
theorem dX9_goesOnTest_162 : decode cX9_goesOnTest 162 = .ok (.aload_n 0, 1) := by decide +kernel
theorem dX9_goesOnTest_163 : decode cX9_goesOnTest 163 = .ok (.getfield 117, 3) := by decide +kernel
theorem dX9_goesOnTest_166 : decode cX9_goesOnTest 166 = .ok (.aload_n 0, 1) := by decide +kernel
theorem dX9_goesOnTest_167 : decode cX9_goesOnTest 167 = .ok (.getfield 320, 3) := by decide +kernel
theorem dX9_goesOnTest_170 : decode cX9_goesOnTest 170 = .ok (.bipush 15, 2) := by decide +kernel
theorem dX9_goesOnTest_172 : decode cX9_goesOnTest 172 = .ok (.iastore, 1) := by decide +kernel
theorem dX9_goesOnTest_173 : decode cX9_goesOnTest 173 = .ok (.aload_n 0, 1) := by decide +kernel
theorem dX9_goesOnTest_174 : decode cX9_goesOnTest 174 = .ok (.dup, 1) := by decide +kernel
theorem dX9_goesOnTest_175 : decode cX9_goesOnTest 175 = .ok (.getfield 320, 3) := by decide +kernel
theorem dX9_goesOnTest_178 : decode cX9_goesOnTest 178 = .ok (.iconst 1, 1) := by decide +kernel
theorem dX9_goesOnTest_179 : decode cX9_goesOnTest 179 = .ok (.iadd, 1) := by decide +kernel
theorem dX9_goesOnTest_180 : decode cX9_goesOnTest 180 = .ok (.putfield 320, 3) := by decide +kernel
theorem dX9_goesOnTest_183 : decode cX9_goesOnTest 183 = .ok (.iconst 1, 1) := by decide +kernel
theorem dX9_goesOnTest_184 : decode cX9_goesOnTest 184 = .ok (.ireturn, 1) := by decide +kernel
theorem dX9_goesOnTest_185 : decode cX9_goesOnTest 185 = .ok (.aload_n 0, 1) := by decide +kernel
theorem dX9_goesOnTest_186 : decode cX9_goesOnTest 186 = .ok (.getfield 245, 3) := by decide +kernel
theorem dX9_goesOnTest_189 : decode cX9_goesOnTest 189 = .ok (.ifCond .ne 19, 3) := by decide +kernel
theorem dX9_goesOnTest_192 : decode cX9_goesOnTest 192 = .ok (.aload_n 0, 1) := by decide +kernel
theorem dX9_goesOnTest_193 : decode cX9_goesOnTest 193 = .ok (.invokevirtual 383, 3) := by decide +kernel
theorem dX9_goesOnTest_196 : decode cX9_goesOnTest 196 = .ok (.ifCond .eq 12, 3) := by decide +kernel
theorem dX9_goesOnTest_199 : decode cX9_goesOnTest 199 = .ok (.aload_n 0, 1) := by decide +kernel
theorem dX9_goesOnTest_200 : decode cX9_goesOnTest 200 = .ok (.iconst 1, 1) := by decide +kernel
theorem dX9_goesOnTest_201 : decode cX9_goesOnTest 201 = .ok (.aload_n 0, 1) := by decide +kernel
theorem dX9_goesOnTest_202 : decode cX9_goesOnTest 202 = .ok (.getfield 251, 3) := by decide +kernel
theorem dX9_goesOnTest_205 : decode cX9_goesOnTest 205 = .ok (.invokevirtual 275, 3) := by decide +kernel
theorem dX9_goesOnTest_208 : decode cX9_goesOnTest 208 = .ok (.iconst 0, 1) := by decide +kernel
theorem dX9_goesOnTest_209 : decode cX9_goesOnTest 209 = .ok (.ireturn, 1) := by decide +kernel
theorem dX9_trialTold_0 : decode cX9_trialTold 0 = .ok (.aload_n 0, 1) := by decide +kernel
theorem dX9_trialTold_1 : decode cX9_trialTold 1 = .ok (.getfield 346, 3) := by decide +kernel
theorem dX9_trialTold_4 : decode cX9_trialTold 4 = .ok (.iconst 4, 1) := by decide +kernel
theorem dX9_trialTold_5 : decode cX9_trialTold 5 = .ok (.if_icmp .ne 13, 3) := by decide +kernel
theorem dX9_trialTold_8 : decode cX9_trialTold 8 = .ok (.aload_n 0, 1) := by decide +kernel
theorem dX9_trialTold_9 : decode cX9_trialTold 9 = .ok (.iconst 5, 1) := by decide +kernel
theorem dX9_trialTold_10 : decode cX9_trialTold 10 = .ok (.aload_n 0, 1) := by decide +kernel
theorem dX9_trialTold_11 : decode cX9_trialTold 11 = .ok (.getfield 386, 3) := by decide +kernel
theorem dX9_trialTold_14 : decode cX9_trialTold 14 = .ok (.invokevirtual 275, 3) := by decide +kernel
theorem dX9_trialTold_17 : decode cX9_trialTold 17 = .ok (.return_, 1) := by decide +kernel
theorem dX9_trialTold_18 : decode cX9_trialTold 18 = .ok (.aload_n 0, 1) := by decide +kernel
theorem dX9_trialTold_19 : decode cX9_trialTold 19 = .ok (.getfield 124, 3) := by decide +kernel
theorem dX9_trialTold_22 : decode cX9_trialTold 22 = .ok (.aload_n 0, 1) := by decide +kernel
theorem dX9_trialTold_23 : decode cX9_trialTold 23 = .ok (.getfield 346, 3) := by decide +kernel
theorem dX9_trialTold_26 : decode cX9_trialTold 26 = .ok (.iload_n 1, 1) := by decide +kernel
theorem dX9_trialTold_27 : decode cX9_trialTold 27 = .ok (.bastore, 1) := by decide +kernel
theorem dX9_trialTold_28 : decode cX9_trialTold 28 = .ok (.aload_n 0, 1) := by decide +kernel
theorem dX9_trialTold_29 : decode cX9_trialTold 29 = .ok (.getfield 128, 3) := by decide +kernel
theorem dX9_trialTold_32 : decode cX9_trialTold 32 = .ok (.aload_n 0, 1) := by decide +kernel
theorem dX9_trialTold_33 : decode cX9_trialTold 33 = .ok (.getfield 346, 3) := by decide +kernel
theorem dX9_trialTold_36 : decode cX9_trialTold 36 = .ok (.aload_n 0, 1) := by decide +kernel
theorem dX9_trialTold_37 : decode cX9_trialTold 37 = .ok (.invokevirtual 353, 3) := by decide +kernel
theorem dX9_trialTold_40 : decode cX9_trialTold 40 = .ok (.iastore, 1) := by decide +kernel
theorem dX9_trialTold_41 : decode cX9_trialTold 41 = .ok (.aload_n 0, 1) := by decide +kernel
theorem dX9_trialTold_42 : decode cX9_trialTold 42 = .ok (.aload_n 0, 1) := by decide +kernel
theorem dX9_trialTold_43 : decode cX9_trialTold 43 = .ok (.getfield 24, 3) := by decide +kernel
theorem dX9_trialTold_46 : decode cX9_trialTold 46 = .ok (.invokevirtual 339, 3) := by decide +kernel
theorem dX9_trialTold_49 : decode cX9_trialTold 49 = .ok (.aload_n 0, 1) := by decide +kernel
theorem dX9_trialTold_50 : decode cX9_trialTold 50 = .ok (.getfield 131, 3) := by decide +kernel
theorem dX9_trialTold_53 : decode cX9_trialTold 53 = .ok (.aload_n 0, 1) := by decide +kernel
theorem dX9_trialTold_54 : decode cX9_trialTold 54 = .ok (.getfield 346, 3) := by decide +kernel
theorem dX9_trialTold_57 : decode cX9_trialTold 57 = .ok (.aload_n 0, 1) := by decide +kernel
theorem dX9_trialTold_58 : decode cX9_trialTold 58 = .ok (.invokevirtual 353, 3) := by decide +kernel
theorem dX9_trialTold_61 : decode cX9_trialTold 61 = .ok (.iastore, 1) := by decide +kernel
theorem dX9_trialTold_62 : decode cX9_trialTold 62 = .ok (.aload_n 0, 1) := by decide +kernel
theorem dX9_trialTold_63 : decode cX9_trialTold 63 = .ok (.getfield 245, 3) := by decide +kernel
theorem dX9_trialTold_66 : decode cX9_trialTold 66 = .ok (.ifCond .ne 33, 3) := by decide +kernel
theorem dX9_trialTold_69 : decode cX9_trialTold 69 = .ok (.aload_n 0, 1) := by decide +kernel
theorem dX9_trialTold_70 : decode cX9_trialTold 70 = .ok (.getfield 128, 3) := by decide +kernel
theorem dX9_trialTold_73 : decode cX9_trialTold 73 = .ok (.aload_n 0, 1) := by decide +kernel
theorem dX9_trialTold_74 : decode cX9_trialTold 74 = .ok (.getfield 346, 3) := by decide +kernel
theorem dX9_trialTold_77 : decode cX9_trialTold 77 = .ok (.iaload, 1) := by decide +kernel
theorem dX9_trialTold_78 : decode cX9_trialTold 78 = .ok (.aload_n 0, 1) := by decide +kernel
theorem dX9_trialTold_79 : decode cX9_trialTold 79 = .ok (.getfield 131, 3) := by decide +kernel
theorem dX9_trialTold_82 : decode cX9_trialTold 82 = .ok (.aload_n 0, 1) := by decide +kernel
theorem dX9_trialTold_83 : decode cX9_trialTold 83 = .ok (.getfield 346, 3) := by decide +kernel
theorem dX9_trialTold_86 : decode cX9_trialTold 86 = .ok (.iaload, 1) := by decide +kernel
theorem dX9_trialTold_87 : decode cX9_trialTold 87 = .ok (.if_icmp .ne 12, 3) := by decide +kernel
theorem dX9_trialTold_90 : decode cX9_trialTold 90 = .ok (.aload_n 0, 1) := by decide +kernel
theorem dX9_trialTold_91 : decode cX9_trialTold 91 = .ok (.iconst 3, 1) := by decide +kernel
theorem dX9_trialTold_92 : decode cX9_trialTold 92 = .ok (.aload_n 0, 1) := by decide +kernel
theorem dX9_trialTold_93 : decode cX9_trialTold 93 = .ok (.getfield 293, 3) := by decide +kernel
theorem dX9_trialTold_96 : decode cX9_trialTold 96 = .ok (.invokevirtual 275, 3) := by decide +kernel
theorem dX9_trialTold_99 : decode cX9_trialTold 99 = .ok (.aload_n 0, 1) := by decide +kernel
theorem dX9_trialTold_100 : decode cX9_trialTold 100 = .ok (.getfield 134, 3) := by decide +kernel
theorem dX9_trialTold_103 : decode cX9_trialTold 103 = .ok (.aload_n 0, 1) := by decide +kernel
theorem dX9_trialTold_104 : decode cX9_trialTold 104 = .ok (.getfield 346, 3) := by decide +kernel
theorem dX9_trialTold_107 : decode cX9_trialTold 107 = .ok (.iconst 0, 1) := by decide +kernel
theorem dX9_trialTold_108 : decode cX9_trialTold 108 = .ok (.iastore, 1) := by decide +kernel
theorem dX9_trialTold_109 : decode cX9_trialTold 109 = .ok (.aload_n 0, 1) := by decide +kernel
theorem dX9_trialTold_110 : decode cX9_trialTold 110 = .ok (.dup, 1) := by decide +kernel
theorem dX9_trialTold_111 : decode cX9_trialTold 111 = .ok (.getfield 346, 3) := by decide +kernel
theorem dX9_trialTold_114 : decode cX9_trialTold 114 = .ok (.iconst 1, 1) := by decide +kernel
theorem dX9_trialTold_115 : decode cX9_trialTold 115 = .ok (.iadd, 1) := by decide +kernel
theorem dX9_trialTold_116 : decode cX9_trialTold 116 = .ok (.putfield 346, 3) := by decide +kernel
theorem dX9_trialTold_119 : decode cX9_trialTold 119 = .ok (.return_, 1) := by decide +kernel
theorem dX9_lookTold_0 : decode cX9_lookTold 0 = .ok (.aload_n 0, 1) := by decide +kernel
theorem dX9_lookTold_1 : decode cX9_lookTold 1 = .ok (.getfield 346, 3) := by decide +kernel
theorem dX9_lookTold_4 : decode cX9_lookTold 4 = .ok (.ifCond .ne 13, 3) := by decide +kernel
theorem dX9_lookTold_7 : decode cX9_lookTold 7 = .ok (.aload_n 0, 1) := by decide +kernel
theorem dX9_lookTold_8 : decode cX9_lookTold 8 = .ok (.iconst 1, 1) := by decide +kernel
theorem dX9_lookTold_9 : decode cX9_lookTold 9 = .ok (.aload_n 0, 1) := by decide +kernel
theorem dX9_lookTold_10 : decode cX9_lookTold 10 = .ok (.getfield 386, 3) := by decide +kernel
theorem dX9_lookTold_13 : decode cX9_lookTold 13 = .ok (.invokevirtual 275, 3) := by decide +kernel
theorem dX9_lookTold_16 : decode cX9_lookTold 16 = .ok (.return_, 1) := by decide +kernel
theorem dX9_lookTold_17 : decode cX9_lookTold 17 = .ok (.aload_n 0, 1) := by decide +kernel
theorem dX9_lookTold_18 : decode cX9_lookTold 18 = .ok (.getfield 346, 3) := by decide +kernel
theorem dX9_lookTold_21 : decode cX9_lookTold 21 = .ok (.iconst 1, 1) := by decide +kernel
theorem dX9_lookTold_22 : decode cX9_lookTold 22 = .ok (.isub, 1) := by decide +kernel
theorem dX9_lookTold_23 : decode cX9_lookTold 23 = .ok (.istore_n 1, 1) := by decide +kernel
theorem dX9_lookTold_24 : decode cX9_lookTold 24 = .ok (.aload_n 0, 1) := by decide +kernel
theorem dX9_lookTold_25 : decode cX9_lookTold 25 = .ok (.getfield 134, 3) := by decide +kernel
theorem dX9_lookTold_28 : decode cX9_lookTold 28 = .ok (.iload_n 1, 1) := by decide +kernel
theorem dX9_lookTold_29 : decode cX9_lookTold 29 = .ok (.iaload, 1) := by decide +kernel
theorem dX9_lookTold_30 : decode cX9_lookTold 30 = .ok (.istore_n 2, 1) := by decide +kernel
theorem dX9_lookTold_31 : decode cX9_lookTold 31 = .ok (.iload_n 2, 1) := by decide +kernel
theorem dX9_lookTold_32 : decode cX9_lookTold 32 = .ok (.iconst 5, 1) := by decide +kernel
theorem dX9_lookTold_33 : decode cX9_lookTold 33 = .ok (.if_icmp .ne 13, 3) := by decide +kernel
theorem dX9_lookTold_36 : decode cX9_lookTold 36 = .ok (.aload_n 0, 1) := by decide +kernel
theorem dX9_lookTold_37 : decode cX9_lookTold 37 = .ok (.iconst 5, 1) := by decide +kernel
theorem dX9_lookTold_38 : decode cX9_lookTold 38 = .ok (.aload_n 0, 1) := by decide +kernel
theorem dX9_lookTold_39 : decode cX9_lookTold 39 = .ok (.getfield 386, 3) := by decide +kernel
theorem dX9_lookTold_42 : decode cX9_lookTold 42 = .ok (.invokevirtual 275, 3) := by decide +kernel
theorem dX9_lookTold_45 : decode cX9_lookTold 45 = .ok (.return_, 1) := by decide +kernel
theorem dX9_lookTold_46 : decode cX9_lookTold 46 = .ok (.iconst 5, 1) := by decide +kernel
theorem dX9_lookTold_47 : decode cX9_lookTold 47 = .ok (.iload_n 1, 1) := by decide +kernel
theorem dX9_lookTold_48 : decode cX9_lookTold 48 = .ok (.imul, 1) := by decide +kernel
theorem dX9_lookTold_49 : decode cX9_lookTold 49 = .ok (.iload_n 2, 1) := by decide +kernel
theorem dX9_lookTold_50 : decode cX9_lookTold 50 = .ok (.iadd, 1) := by decide +kernel
theorem dX9_lookTold_51 : decode cX9_lookTold 51 = .ok (.istore_n 3, 1) := by decide +kernel
theorem dX9_lookTold_52 : decode cX9_lookTold 52 = .ok (.aload_n 0, 1) := by decide +kernel
theorem dX9_lookTold_53 : decode cX9_lookTold 53 = .ok (.getfield 137, 3) := by decide +kernel
theorem dX9_lookTold_56 : decode cX9_lookTold 56 = .ok (.iload_n 3, 1) := by decide +kernel
theorem dX9_lookTold_57 : decode cX9_lookTold 57 = .ok (.aload_n 0, 1) := by decide +kernel
theorem dX9_lookTold_58 : decode cX9_lookTold 58 = .ok (.iload_n 2, 1) := by decide +kernel
theorem dX9_lookTold_59 : decode cX9_lookTold 59 = .ok (.ifCond .ne 7, 3) := by decide +kernel
theorem dX9_lookTold_62 : decode cX9_lookTold 62 = .ok (.iconst 1, 1) := by decide +kernel
theorem dX9_lookTold_63 : decode cX9_lookTold 63 = .ok (.goto 13, 3) := by decide +kernel
theorem dX9_lookTold_66 : decode cX9_lookTold 66 = .ok (.aload_n 0, 1) := by decide +kernel
theorem dX9_lookTold_67 : decode cX9_lookTold 67 = .ok (.getfield 137, 3) := by decide +kernel
theorem dX9_lookTold_70 : decode cX9_lookTold 70 = .ok (.iload_n 3, 1) := by decide +kernel
theorem dX9_lookTold_71 : decode cX9_lookTold 71 = .ok (.iconst 1, 1) := by decide +kernel
theorem dX9_lookTold_72 : decode cX9_lookTold 72 = .ok (.isub, 1) := by decide +kernel
theorem dX9_lookTold_73 : decode cX9_lookTold 73 = .ok (.iaload, 1) := by decide +kernel
theorem dX9_lookTold_74 : decode cX9_lookTold 74 = .ok (.iconst 1, 1) := by decide +kernel
theorem dX9_lookTold_75 : decode cX9_lookTold 75 = .ok (.iadd, 1) := by decide +kernel
theorem dX9_lookTold_76 : decode cX9_lookTold 76 = .ok (.bipush 30, 2) := by decide +kernel
theorem dX9_lookTold_78 : decode cX9_lookTold 78 = .ok (.invokevirtual 349, 3) := by decide +kernel
theorem dX9_lookTold_81 : decode cX9_lookTold 81 = .ok (.iastore, 1) := by decide +kernel
theorem dX9_lookTold_82 : decode cX9_lookTold 82 = .ok (.aload_n 0, 1) := by decide +kernel
theorem dX9_lookTold_83 : decode cX9_lookTold 83 = .ok (.aload_n 0, 1) := by decide +kernel
theorem dX9_lookTold_84 : decode cX9_lookTold 84 = .ok (.getfield 33, 3) := by decide +kernel
theorem dX9_lookTold_87 : decode cX9_lookTold 87 = .ok (.invokevirtual 339, 3) := by decide +kernel
theorem dX9_lookTold_90 : decode cX9_lookTold 90 = .ok (.aload_n 0, 1) := by decide +kernel
theorem dX9_lookTold_91 : decode cX9_lookTold 91 = .ok (.getfield 140, 3) := by decide +kernel
theorem dX9_lookTold_94 : decode cX9_lookTold 94 = .ok (.iload_n 3, 1) := by decide +kernel
theorem dX9_lookTold_95 : decode cX9_lookTold 95 = .ok (.aload_n 0, 1) := by decide +kernel
theorem dX9_lookTold_96 : decode cX9_lookTold 96 = .ok (.iconst 1, 1) := by decide +kernel
theorem dX9_lookTold_97 : decode cX9_lookTold 97 = .ok (.sipush 1000, 3) := by decide +kernel
theorem dX9_lookTold_100 : decode cX9_lookTold 100 = .ok (.invokevirtual 349, 3) := by decide +kernel
theorem dX9_lookTold_103 : decode cX9_lookTold 103 = .ok (.iastore, 1) := by decide +kernel
theorem dX9_lookTold_104 : decode cX9_lookTold 104 = .ok (.aload_n 0, 1) := by decide +kernel
theorem dX9_lookTold_105 : decode cX9_lookTold 105 = .ok (.aload_n 0, 1) := by decide +kernel
theorem dX9_lookTold_106 : decode cX9_lookTold 106 = .ok (.getfield 36, 3) := by decide +kernel
theorem dX9_lookTold_109 : decode cX9_lookTold 109 = .ok (.invokevirtual 339, 3) := by decide +kernel
theorem dX9_lookTold_112 : decode cX9_lookTold 112 = .ok (.aload_n 0, 1) := by decide +kernel
theorem dX9_lookTold_113 : decode cX9_lookTold 113 = .ok (.getfield 143, 3) := by decide +kernel
theorem dX9_lookTold_116 : decode cX9_lookTold 116 = .ok (.iload_n 3, 1) := by decide +kernel
theorem dX9_lookTold_117 : decode cX9_lookTold 117 = .ok (.aload_n 0, 1) := by decide +kernel
theorem dX9_lookTold_118 : decode cX9_lookTold 118 = .ok (.aload_n 0, 1) := by decide +kernel
theorem dX9_lookTold_119 : decode cX9_lookTold 119 = .ok (.getfield 140, 3) := by decide +kernel
theorem dX9_lookTold_122 : decode cX9_lookTold 122 = .ok (.iload_n 3, 1) := by decide +kernel
theorem dX9_lookTold_123 : decode cX9_lookTold 123 = .ok (.iaload, 1) := by decide +kernel
theorem dX9_lookTold_124 : decode cX9_lookTold 124 = .ok (.sipush 1000, 3) := by decide +kernel
theorem dX9_lookTold_127 : decode cX9_lookTold 127 = .ok (.invokevirtual 349, 3) := by decide +kernel
theorem dX9_lookTold_130 : decode cX9_lookTold 130 = .ok (.iastore, 1) := by decide +kernel
theorem dX9_lookTold_131 : decode cX9_lookTold 131 = .ok (.aload_n 0, 1) := by decide +kernel
theorem dX9_lookTold_132 : decode cX9_lookTold 132 = .ok (.getfield 134, 3) := by decide +kernel
theorem dX9_lookTold_135 : decode cX9_lookTold 135 = .ok (.iload_n 1, 1) := by decide +kernel
theorem dX9_lookTold_136 : decode cX9_lookTold 136 = .ok (.dup2, 1) := by decide +kernel
theorem dX9_lookTold_137 : decode cX9_lookTold 137 = .ok (.iaload, 1) := by decide +kernel
theorem dX9_lookTold_138 : decode cX9_lookTold 138 = .ok (.iconst 1, 1) := by decide +kernel
theorem dX9_lookTold_139 : decode cX9_lookTold 139 = .ok (.iadd, 1) := by decide +kernel
theorem dX9_lookTold_140 : decode cX9_lookTold 140 = .ok (.iastore, 1) := by decide +kernel
theorem dX9_lookTold_141 : decode cX9_lookTold 141 = .ok (.return_, 1) := by decide +kernel
theorem dX9_claimTold_0 : decode cX9_claimTold 0 = .ok (.aload_n 0, 1) := by decide +kernel
theorem dX9_claimTold_1 : decode cX9_claimTold 1 = .ok (.getfield 311, 3) := by decide +kernel
theorem dX9_claimTold_4 : decode cX9_claimTold 4 = .ok (.bipush 8, 2) := by decide +kernel
theorem dX9_claimTold_6 : decode cX9_claimTold 6 = .ok (.if_icmp .ne 13, 3) := by decide +kernel
theorem dX9_claimTold_9 : decode cX9_claimTold 9 = .ok (.aload_n 0, 1) := by decide +kernel
theorem dX9_claimTold_10 : decode cX9_claimTold 10 = .ok (.iconst 5, 1) := by decide +kernel
theorem dX9_claimTold_11 : decode cX9_claimTold 11 = .ok (.aload_n 0, 1) := by decide +kernel
theorem dX9_claimTold_12 : decode cX9_claimTold 12 = .ok (.getfield 386, 3) := by decide +kernel
theorem dX9_claimTold_15 : decode cX9_claimTold 15 = .ok (.invokevirtual 275, 3) := by decide +kernel
theorem dX9_claimTold_18 : decode cX9_claimTold 18 = .ok (.return_, 1) := by decide +kernel
theorem dX9_claimTold_19 : decode cX9_claimTold 19 = .ok (.aload_n 0, 1) := by decide +kernel
theorem dX9_claimTold_20 : decode cX9_claimTold 20 = .ok (.invokevirtual 389, 3) := by decide +kernel
theorem dX9_claimTold_23 : decode cX9_claimTold 23 = .ok (.lstore_n 1, 1) := by decide +kernel
theorem dX9_claimTold_24 : decode cX9_claimTold 24 = .ok (.aload_n 0, 1) := by decide +kernel
theorem dX9_claimTold_25 : decode cX9_claimTold 25 = .ok (.aload_n 0, 1) := by decide +kernel
theorem dX9_claimTold_26 : decode cX9_claimTold 26 = .ok (.getfield 66, 3) := by decide +kernel
theorem dX9_claimTold_29 : decode cX9_claimTold 29 = .ok (.invokevirtual 339, 3) := by decide +kernel
theorem dX9_claimTold_32 : decode cX9_claimTold 32 = .ok (.aload_n 0, 1) := by decide +kernel
theorem dX9_claimTold_33 : decode cX9_claimTold 33 = .ok (.iconst 0, 1) := by decide +kernel
theorem dX9_claimTold_34 : decode cX9_claimTold 34 = .ok (.putfield 320, 3) := by decide +kernel
theorem dX9_claimTold_37 : decode cX9_claimTold 37 = .ok (.aload_n 0, 1) := by decide +kernel
theorem dX9_claimTold_38 : decode cX9_claimTold 38 = .ok (.iconst 0, 1) := by decide +kernel
theorem dX9_claimTold_39 : decode cX9_claimTold 39 = .ok (.putfield 317, 3) := by decide +kernel
theorem dX9_claimTold_42 : decode cX9_claimTold 42 = .ok (.aload_n 0, 1) := by decide +kernel
theorem dX9_claimTold_43 : decode cX9_claimTold 43 = .ok (.iconst 0, 1) := by decide +kernel
theorem dX9_claimTold_44 : decode cX9_claimTold 44 = .ok (.putfield 327, 3) := by decide +kernel
theorem dX9_claimTold_47 : decode cX9_claimTold 47 = .ok (.aload_n 0, 1) := by decide +kernel
theorem dX9_claimTold_48 : decode cX9_claimTold 48 = .ok (.getfield 245, 3) := by decide +kernel
theorem dX9_claimTold_51 : decode cX9_claimTold 51 = .ok (.ifCond .ne 7, 3) := by decide +kernel
theorem dX9_claimTold_54 : decode cX9_claimTold 54 = .ok (.aload_n 0, 1) := by decide +kernel
theorem dX9_claimTold_55 : decode cX9_claimTold 55 = .ok (.invokevirtual 392, 3) := by decide +kernel
theorem dX9_claimTold_58 : decode cX9_claimTold 58 = .ok (.aload_n 0, 1) := by decide +kernel
theorem dX9_claimTold_59 : decode cX9_claimTold 59 = .ok (.getfield 146, 3) := by decide +kernel
theorem dX9_claimTold_62 : decode cX9_claimTold 62 = .ok (.aload_n 0, 1) := by decide +kernel
theorem dX9_claimTold_63 : decode cX9_claimTold 63 = .ok (.getfield 311, 3) := by decide +kernel
theorem dX9_claimTold_66 : decode cX9_claimTold 66 = .ok (.lload_n 1, 1) := by decide +kernel
theorem dX9_claimTold_67 : decode cX9_claimTold 67 = .ok (.lastore, 1) := by decide +kernel
theorem dX9_claimTold_68 : decode cX9_claimTold 68 = .ok (.aload_n 0, 1) := by decide +kernel
theorem dX9_claimTold_69 : decode cX9_claimTold 69 = .ok (.getfield 149, 3) := by decide +kernel
theorem dX9_claimTold_72 : decode cX9_claimTold 72 = .ok (.aload_n 0, 1) := by decide +kernel
theorem dX9_claimTold_73 : decode cX9_claimTold 73 = .ok (.getfield 311, 3) := by decide +kernel
theorem dX9_claimTold_76 : decode cX9_claimTold 76 = .ok (.aload_n 0, 1) := by decide +kernel
theorem dX9_claimTold_77 : decode cX9_claimTold 77 = .ok (.getfield 314, 3) := by decide +kernel
theorem dX9_claimTold_80 : decode cX9_claimTold 80 = .ok (.iastore, 1) := by decide +kernel
theorem dX9_claimTold_81 : decode cX9_claimTold 81 = .ok (.aload_n 0, 1) := by decide +kernel
theorem dX9_claimTold_82 : decode cX9_claimTold 82 = .ok (.dup, 1) := by decide +kernel
theorem dX9_claimTold_83 : decode cX9_claimTold 83 = .ok (.getfield 311, 3) := by decide +kernel
theorem dX9_claimTold_86 : decode cX9_claimTold 86 = .ok (.iconst 1, 1) := by decide +kernel
theorem dX9_claimTold_87 : decode cX9_claimTold 87 = .ok (.iadd, 1) := by decide +kernel
theorem dX9_claimTold_88 : decode cX9_claimTold 88 = .ok (.putfield 311, 3) := by decide +kernel
theorem dX9_claimTold_91 : decode cX9_claimTold 91 = .ok (.return_, 1) := by decide +kernel
theorem dX9_statement_0 : decode cX9_statement 0 = .ok (.aload_n 0, 1) := by decide +kernel
theorem dX9_statement_1 : decode cX9_statement 1 = .ok (.invokevirtual 257, 3) := by decide +kernel
theorem dX9_statement_4 : decode cX9_statement 4 = .ok (.pop, 1) := by decide +kernel
theorem dX9_statement_5 : decode cX9_statement 5 = .ok (.aload_n 0, 1) := by decide +kernel
theorem dX9_statement_6 : decode cX9_statement 6 = .ok (.aload_n 0, 1) := by decide +kernel
theorem dX9_statement_7 : decode cX9_statement 7 = .ok (.getfield 251, 3) := by decide +kernel
theorem dX9_statement_10 : decode cX9_statement 10 = .ok (.putfield 386, 3) := by decide +kernel
theorem dX9_statement_13 : decode cX9_statement 13 = .ok (.aload_n 0, 1) := by decide +kernel
theorem dX9_statement_14 : decode cX9_statement 14 = .ok (.aload_n 0, 1) := by decide +kernel
theorem dX9_statement_15 : decode cX9_statement 15 = .ok (.getfield 17, 3) := by decide +kernel
theorem dX9_statement_18 : decode cX9_statement 18 = .ok (.invokevirtual 272, 3) := by decide +kernel
theorem dX9_statement_21 : decode cX9_statement 21 = .ok (.ifCond .eq 56, 3) := by decide +kernel
theorem dX9_statement_24 : decode cX9_statement 24 = .ok (.aload_n 0, 1) := by decide +kernel
theorem dX9_statement_25 : decode cX9_statement 25 = .ok (.getfield 300, 3) := by decide +kernel
theorem dX9_statement_28 : decode cX9_statement 28 = .ok (.bipush 6, 2) := by decide +kernel
theorem dX9_statement_30 : decode cX9_statement 30 = .ok (.if_icmp .ne 12, 3) := by decide +kernel
theorem dX9_statement_33 : decode cX9_statement 33 = .ok (.aload_n 0, 1) := by decide +kernel
theorem dX9_statement_34 : decode cX9_statement 34 = .ok (.iconst 5, 1) := by decide +kernel
theorem dX9_statement_35 : decode cX9_statement 35 = .ok (.aload_n 0, 1) := by decide +kernel
theorem dX9_statement_36 : decode cX9_statement 36 = .ok (.getfield 386, 3) := by decide +kernel
theorem dX9_statement_39 : decode cX9_statement 39 = .ok (.invokevirtual 275, 3) := by decide +kernel
theorem dX9_statement_42 : decode cX9_statement 42 = .ok (.aload_n 0, 1) := by decide +kernel
theorem dX9_statement_43 : decode cX9_statement 43 = .ok (.invokevirtual 389, 3) := by decide +kernel
theorem dX9_statement_46 : decode cX9_statement 46 = .ok (.lstore_n 1, 1) := by decide +kernel
theorem dX9_statement_47 : decode cX9_statement 47 = .ok (.aload_n 0, 1) := by decide +kernel
theorem dX9_statement_48 : decode cX9_statement 48 = .ok (.getfield 245, 3) := by decide +kernel
theorem dX9_statement_51 : decode cX9_statement 51 = .ok (.ifCond .ne 13, 3) := by decide +kernel
theorem dX9_statement_54 : decode cX9_statement 54 = .ok (.aload_n 0, 1) := by decide +kernel
theorem dX9_statement_55 : decode cX9_statement 55 = .ok (.getfield 120, 3) := by decide +kernel
theorem dX9_statement_58 : decode cX9_statement 58 = .ok (.aload_n 0, 1) := by decide +kernel
theorem dX9_statement_59 : decode cX9_statement 59 = .ok (.getfield 300, 3) := by decide +kernel
theorem dX9_statement_62 : decode cX9_statement 62 = .ok (.lload_n 1, 1) := by decide +kernel
theorem dX9_statement_63 : decode cX9_statement 63 = .ok (.lastore, 1) := by decide +kernel
theorem dX9_statement_64 : decode cX9_statement 64 = .ok (.aload_n 0, 1) := by decide +kernel
theorem dX9_statement_65 : decode cX9_statement 65 = .ok (.dup, 1) := by decide +kernel
theorem dX9_statement_66 : decode cX9_statement 66 = .ok (.getfield 300, 3) := by decide +kernel
theorem dX9_statement_69 : decode cX9_statement 69 = .ok (.iconst 1, 1) := by decide +kernel
theorem dX9_statement_70 : decode cX9_statement 70 = .ok (.iadd, 1) := by decide +kernel
theorem dX9_statement_71 : decode cX9_statement 71 = .ok (.putfield 300, 3) := by decide +kernel
theorem dX9_statement_74 : decode cX9_statement 74 = .ok (.goto 214, 3) := by decide +kernel
theorem dX9_statement_77 : decode cX9_statement 77 = .ok (.aload_n 0, 1) := by decide +kernel
theorem dX9_statement_78 : decode cX9_statement 78 = .ok (.aload_n 0, 1) := by decide +kernel
theorem dX9_statement_79 : decode cX9_statement 79 = .ok (.getfield 21, 3) := by decide +kernel
theorem dX9_statement_82 : decode cX9_statement 82 = .ok (.invokevirtual 272, 3) := by decide +kernel
theorem dX9_statement_85 : decode cX9_statement 85 = .ok (.ifCond .eq 11, 3) := by decide +kernel
theorem dX9_statement_88 : decode cX9_statement 88 = .ok (.aload_n 0, 1) := by decide +kernel
theorem dX9_statement_89 : decode cX9_statement 89 = .ok (.iconst 1, 1) := by decide +kernel
theorem dX9_statement_90 : decode cX9_statement 90 = .ok (.invokevirtual 395, 3) := by decide +kernel
theorem dX9_statement_93 : decode cX9_statement 93 = .ok (.goto 195, 3) := by decide +kernel
theorem dX9_statement_96 : decode cX9_statement 96 = .ok (.aload_n 0, 1) := by decide +kernel
theorem dX9_statement_97 : decode cX9_statement 97 = .ok (.aload_n 0, 1) := by decide +kernel
theorem dX9_statement_98 : decode cX9_statement 98 = .ok (.getfield 27, 3) := by decide +kernel
theorem dX9_statement_101 : decode cX9_statement 101 = .ok (.invokevirtual 272, 3) := by decide +kernel
theorem dX9_statement_104 : decode cX9_statement 104 = .ok (.ifCond .eq 11, 3) := by decide +kernel
theorem dX9_statement_107 : decode cX9_statement 107 = .ok (.aload_n 0, 1) := by decide +kernel
theorem dX9_statement_108 : decode cX9_statement 108 = .ok (.iconst 0, 1) := by decide +kernel
theorem dX9_statement_109 : decode cX9_statement 109 = .ok (.invokevirtual 395, 3) := by decide +kernel
theorem dX9_statement_112 : decode cX9_statement 112 = .ok (.goto 176, 3) := by decide +kernel
theorem dX9_statement_115 : decode cX9_statement 115 = .ok (.aload_n 0, 1) := by decide +kernel
theorem dX9_statement_116 : decode cX9_statement 116 = .ok (.aload_n 0, 1) := by decide +kernel
theorem dX9_statement_117 : decode cX9_statement 117 = .ok (.getfield 30, 3) := by decide +kernel
theorem dX9_statement_120 : decode cX9_statement 120 = .ok (.invokevirtual 272, 3) := by decide +kernel
theorem dX9_statement_123 : decode cX9_statement 123 = .ok (.ifCond .eq 10, 3) := by decide +kernel
theorem dX9_statement_126 : decode cX9_statement 126 = .ok (.aload_n 0, 1) := by decide +kernel
theorem dX9_statement_127 : decode cX9_statement 127 = .ok (.invokevirtual 399, 3) := by decide +kernel
theorem dX9_statement_130 : decode cX9_statement 130 = .ok (.goto 158, 3) := by decide +kernel
theorem dX9_statement_133 : decode cX9_statement 133 = .ok (.aload_n 0, 1) := by decide +kernel
theorem dX9_statement_134 : decode cX9_statement 134 = .ok (.aload_n 0, 1) := by decide +kernel
theorem dX9_statement_135 : decode cX9_statement 135 = .ok (.getfield 39, 3) := by decide +kernel
theorem dX9_statement_138 : decode cX9_statement 138 = .ok (.invokevirtual 272, 3) := by decide +kernel
theorem dX9_statement_141 : decode cX9_statement 141 = .ok (.ifCond .eq 57, 3) := by decide +kernel
theorem dX9_statement_144 : decode cX9_statement 144 = .ok (.aload_n 0, 1) := by decide +kernel
theorem dX9_statement_145 : decode cX9_statement 145 = .ok (.aload_n 0, 1) := by decide +kernel
theorem dX9_statement_146 : decode cX9_statement 146 = .ok (.aload_n 0, 1) := by decide +kernel
theorem dX9_statement_147 : decode cX9_statement 147 = .ok (.getfield 42, 3) := by decide +kernel
theorem dX9_statement_150 : decode cX9_statement 150 = .ok (.invokevirtual 272, 3) := by decide +kernel
theorem dX9_statement_153 : decode cX9_statement 153 = .ok (.ifCond .eq 7, 3) := by decide +kernel
theorem dX9_statement_156 : decode cX9_statement 156 = .ok (.iconst 0, 1) := by decide +kernel
theorem dX9_statement_157 : decode cX9_statement 157 = .ok (.goto 19, 3) := by decide +kernel
theorem dX9_statement_160 : decode cX9_statement 160 = .ok (.aload_n 0, 1) := by decide +kernel
theorem dX9_statement_161 : decode cX9_statement 161 = .ok (.aload_n 0, 1) := by decide +kernel
theorem dX9_statement_162 : decode cX9_statement 162 = .ok (.getfield 48, 3) := by decide +kernel
theorem dX9_statement_165 : decode cX9_statement 165 = .ok (.invokevirtual 272, 3) := by decide +kernel
theorem dX9_statement_168 : decode cX9_statement 168 = .ok (.ifCond .eq 7, 3) := by decide +kernel
theorem dX9_statement_171 : decode cX9_statement 171 = .ok (.iconst 2, 1) := by decide +kernel
theorem dX9_statement_172 : decode cX9_statement 172 = .ok (.goto 4, 3) := by decide +kernel
theorem dX9_statement_175 : decode cX9_statement 175 = .ok (.iconst 1, 1) := by decide +kernel
theorem dX9_statement_176 : decode cX9_statement 176 = .ok (.putfield 402, 3) := by decide +kernel
theorem dX9_statement_179 : decode cX9_statement 179 = .ok (.aload_n 0, 1) := by decide +kernel
theorem dX9_statement_180 : decode cX9_statement 180 = .ok (.getfield 402, 3) := by decide +kernel
theorem dX9_statement_183 : decode cX9_statement 183 = .ok (.iconst 1, 1) := by decide +kernel
theorem dX9_statement_184 : decode cX9_statement 184 = .ok (.if_icmp .ne 104, 3) := by decide +kernel
theorem dX9_statement_187 : decode cX9_statement 187 = .ok (.aload_n 0, 1) := by decide +kernel
theorem dX9_statement_188 : decode cX9_statement 188 = .ok (.aload_n 0, 1) := by decide +kernel
theorem dX9_statement_189 : decode cX9_statement 189 = .ok (.getfield 45, 3) := by decide +kernel
theorem dX9_statement_192 : decode cX9_statement 192 = .ok (.invokevirtual 339, 3) := by decide +kernel
theorem dX9_statement_195 : decode cX9_statement 195 = .ok (.goto 93, 3) := by decide +kernel
theorem dX9_statement_198 : decode cX9_statement 198 = .ok (.aload_n 0, 1) := by decide +kernel
theorem dX9_statement_199 : decode cX9_statement 199 = .ok (.aload_n 0, 1) := by decide +kernel
theorem dX9_statement_200 : decode cX9_statement 200 = .ok (.getfield 51, 3) := by decide +kernel
theorem dX9_statement_203 : decode cX9_statement 203 = .ok (.invokevirtual 272, 3) := by decide +kernel
theorem dX9_statement_206 : decode cX9_statement 206 = .ok (.ifCond .eq 33, 3) := by decide +kernel
theorem dX9_statement_209 : decode cX9_statement 209 = .ok (.aload_n 0, 1) := by decide +kernel
theorem dX9_statement_210 : decode cX9_statement 210 = .ok (.aload_n 0, 1) := by decide +kernel
theorem dX9_statement_211 : decode cX9_statement 211 = .ok (.aload_n 0, 1) := by decide +kernel
theorem dX9_statement_212 : decode cX9_statement 212 = .ok (.getfield 54, 3) := by decide +kernel
theorem dX9_statement_215 : decode cX9_statement 215 = .ok (.invokevirtual 272, 3) := by decide +kernel
theorem dX9_statement_218 : decode cX9_statement 218 = .ok (.putfield 405, 3) := by decide +kernel
theorem dX9_statement_221 : decode cX9_statement 221 = .ok (.aload_n 0, 1) := by decide +kernel
theorem dX9_statement_222 : decode cX9_statement 222 = .ok (.getfield 405, 3) := by decide +kernel
theorem dX9_statement_225 : decode cX9_statement 225 = .ok (.ifCond .ne 63, 3) := by decide +kernel
theorem dX9_statement_228 : decode cX9_statement 228 = .ok (.aload_n 0, 1) := by decide +kernel
theorem dX9_statement_229 : decode cX9_statement 229 = .ok (.aload_n 0, 1) := by decide +kernel
theorem dX9_statement_230 : decode cX9_statement 230 = .ok (.getfield 57, 3) := by decide +kernel
theorem dX9_statement_233 : decode cX9_statement 233 = .ok (.invokevirtual 339, 3) := by decide +kernel
theorem dX9_statement_236 : decode cX9_statement 236 = .ok (.goto 52, 3) := by decide +kernel
theorem dX9_statement_239 : decode cX9_statement 239 = .ok (.aload_n 0, 1) := by decide +kernel
theorem dX9_statement_240 : decode cX9_statement 240 = .ok (.aload_n 0, 1) := by decide +kernel
theorem dX9_statement_241 : decode cX9_statement 241 = .ok (.getfield 60, 3) := by decide +kernel
theorem dX9_statement_244 : decode cX9_statement 244 = .ok (.invokevirtual 272, 3) := by decide +kernel
theorem dX9_statement_247 : decode cX9_statement 247 = .ok (.ifCond .eq 14, 3) := by decide +kernel
theorem dX9_statement_250 : decode cX9_statement 250 = .ok (.aload_n 0, 1) := by decide +kernel
theorem dX9_statement_251 : decode cX9_statement 251 = .ok (.aload_n 0, 1) := by decide +kernel
theorem dX9_statement_252 : decode cX9_statement 252 = .ok (.invokevirtual 353, 3) := by decide +kernel
theorem dX9_statement_255 : decode cX9_statement 255 = .ok (.putfield 409, 3) := by decide +kernel
theorem dX9_statement_258 : decode cX9_statement 258 = .ok (.goto 30, 3) := by decide +kernel
theorem dX9_statement_261 : decode cX9_statement 261 = .ok (.aload_n 0, 1) := by decide +kernel
theorem dX9_statement_262 : decode cX9_statement 262 = .ok (.aload_n 0, 1) := by decide +kernel
theorem dX9_statement_263 : decode cX9_statement 263 = .ok (.getfield 63, 3) := by decide +kernel
theorem dX9_statement_266 : decode cX9_statement 266 = .ok (.invokevirtual 272, 3) := by decide +kernel
theorem dX9_statement_269 : decode cX9_statement 269 = .ok (.ifCond .eq 10, 3) := by decide +kernel
theorem dX9_statement_272 : decode cX9_statement 272 = .ok (.aload_n 0, 1) := by decide +kernel
theorem dX9_statement_273 : decode cX9_statement 273 = .ok (.invokevirtual 412, 3) := by decide +kernel
theorem dX9_statement_276 : decode cX9_statement 276 = .ok (.goto 12, 3) := by decide +kernel
theorem dX9_statement_279 : decode cX9_statement 279 = .ok (.aload_n 0, 1) := by decide +kernel
theorem dX9_statement_280 : decode cX9_statement 280 = .ok (.iconst 1, 1) := by decide +kernel
theorem dX9_statement_281 : decode cX9_statement 281 = .ok (.aload_n 0, 1) := by decide +kernel
theorem dX9_statement_282 : decode cX9_statement 282 = .ok (.getfield 251, 3) := by decide +kernel
theorem dX9_statement_285 : decode cX9_statement 285 = .ok (.invokevirtual 275, 3) := by decide +kernel
theorem dX9_statement_288 : decode cX9_statement 288 = .ok (.aload_n 0, 1) := by decide +kernel
theorem dX9_statement_289 : decode cX9_statement 289 = .ok (.bipush 59, 2) := by decide +kernel
theorem dX9_statement_291 : decode cX9_statement 291 = .ok (.invokevirtual 343, 3) := by decide +kernel
theorem dX9_statement_294 : decode cX9_statement 294 = .ok (.aload_n 0, 1) := by decide +kernel
theorem dX9_statement_295 : decode cX9_statement 295 = .ok (.dup, 1) := by decide +kernel
theorem dX9_statement_296 : decode cX9_statement 296 = .ok (.getfield 415, 3) := by decide +kernel
theorem dX9_statement_299 : decode cX9_statement 299 = .ok (.iconst 1, 1) := by decide +kernel
theorem dX9_statement_300 : decode cX9_statement 300 = .ok (.iadd, 1) := by decide +kernel
theorem dX9_statement_301 : decode cX9_statement 301 = .ok (.putfield 415, 3) := by decide +kernel
theorem dX9_statement_304 : decode cX9_statement 304 = .ok (.return_, 1) := by decide +kernel
theorem dX9_plan_0 : decode cX9_plan 0 = .ok (.iload_n 1, 1) := by decide +kernel
theorem dX9_plan_1 : decode cX9_plan 1 = .ok (.ifCond .ge 11, 3) := by decide +kernel
theorem dX9_plan_4 : decode cX9_plan 4 = .ok (.aload_n 0, 1) := by decide +kernel
theorem dX9_plan_5 : decode cX9_plan 5 = .ok (.iconst 0, 1) := by decide +kernel
theorem dX9_plan_6 : decode cX9_plan 6 = .ok (.putfield 242, 3) := by decide +kernel
theorem dX9_plan_9 : decode cX9_plan 9 = .ok (.bipush (-2), 2) := by decide +kernel
theorem dX9_plan_11 : decode cX9_plan 11 = .ok (.ireturn, 1) := by decide +kernel
theorem dX9_plan_12 : decode cX9_plan 12 = .ok (.aload_n 0, 1) := by decide +kernel
theorem dX9_plan_13 : decode cX9_plan 13 = .ok (.aload_n 0, 1) := by decide +kernel
theorem dX9_plan_14 : decode cX9_plan 14 = .ok (.getfield 242, 3) := by decide +kernel
theorem dX9_plan_17 : decode cX9_plan 17 = .ok (.putfield 254, 3) := by decide +kernel
theorem dX9_plan_20 : decode cX9_plan 20 = .ok (.aload_n 0, 1) := by decide +kernel
theorem dX9_plan_21 : decode cX9_plan 21 = .ok (.iconst 0, 1) := by decide +kernel
theorem dX9_plan_22 : decode cX9_plan 22 = .ok (.putfield 242, 3) := by decide +kernel
theorem dX9_plan_25 : decode cX9_plan 25 = .ok (.aload_n 0, 1) := by decide +kernel
theorem dX9_plan_26 : decode cX9_plan 26 = .ok (.iconst 0, 1) := by decide +kernel
theorem dX9_plan_27 : decode cX9_plan 27 = .ok (.putfield 251, 3) := by decide +kernel
theorem dX9_plan_30 : decode cX9_plan 30 = .ok (.aload_n 0, 1) := by decide +kernel
theorem dX9_plan_31 : decode cX9_plan 31 = .ok (.iconst (-1), 1) := by decide +kernel
theorem dX9_plan_32 : decode cX9_plan 32 = .ok (.putfield 265, 3) := by decide +kernel
theorem dX9_plan_35 : decode cX9_plan 35 = .ok (.aload_n 0, 1) := by decide +kernel
theorem dX9_plan_36 : decode cX9_plan 36 = .ok (.iconst 0, 1) := by decide +kernel
theorem dX9_plan_37 : decode cX9_plan 37 = .ok (.putfield 245, 3) := by decide +kernel
theorem dX9_plan_40 : decode cX9_plan 40 = .ok (.aload_n 0, 1) := by decide +kernel
theorem dX9_plan_41 : decode cX9_plan 41 = .ok (.iconst (-1), 1) := by decide +kernel
theorem dX9_plan_42 : decode cX9_plan 42 = .ok (.putfield 248, 3) := by decide +kernel
theorem dX9_plan_45 : decode cX9_plan 45 = .ok (.aload_n 0, 1) := by decide +kernel
theorem dX9_plan_46 : decode cX9_plan 46 = .ok (.iconst 0, 1) := by decide +kernel
theorem dX9_plan_47 : decode cX9_plan 47 = .ok (.putfield 314, 3) := by decide +kernel
theorem dX9_plan_50 : decode cX9_plan 50 = .ok (.aload_n 0, 1) := by decide +kernel
theorem dX9_plan_51 : decode cX9_plan 51 = .ok (.iconst 0, 1) := by decide +kernel
theorem dX9_plan_52 : decode cX9_plan 52 = .ok (.putfield 415, 3) := by decide +kernel
theorem dX9_plan_55 : decode cX9_plan 55 = .ok (.aload_n 0, 1) := by decide +kernel
theorem dX9_plan_56 : decode cX9_plan 56 = .ok (.iconst 0, 1) := by decide +kernel
theorem dX9_plan_57 : decode cX9_plan 57 = .ok (.putfield 300, 3) := by decide +kernel
theorem dX9_plan_60 : decode cX9_plan 60 = .ok (.aload_n 0, 1) := by decide +kernel
theorem dX9_plan_61 : decode cX9_plan 61 = .ok (.iconst 0, 1) := by decide +kernel
theorem dX9_plan_62 : decode cX9_plan 62 = .ok (.putfield 346, 3) := by decide +kernel
theorem dX9_plan_65 : decode cX9_plan 65 = .ok (.aload_n 0, 1) := by decide +kernel
theorem dX9_plan_66 : decode cX9_plan 66 = .ok (.iconst 1, 1) := by decide +kernel
theorem dX9_plan_67 : decode cX9_plan 67 = .ok (.putfield 402, 3) := by decide +kernel
theorem dX9_plan_70 : decode cX9_plan 70 = .ok (.aload_n 0, 1) := by decide +kernel
theorem dX9_plan_71 : decode cX9_plan 71 = .ok (.iconst 0, 1) := by decide +kernel
theorem dX9_plan_72 : decode cX9_plan 72 = .ok (.putfield 405, 3) := by decide +kernel
theorem dX9_plan_75 : decode cX9_plan 75 = .ok (.aload_n 0, 1) := by decide +kernel
theorem dX9_plan_76 : decode cX9_plan 76 = .ok (.iconst (-1), 1) := by decide +kernel
theorem dX9_plan_77 : decode cX9_plan 77 = .ok (.putfield 409, 3) := by decide +kernel
theorem dX9_plan_80 : decode cX9_plan 80 = .ok (.aload_n 0, 1) := by decide +kernel
theorem dX9_plan_81 : decode cX9_plan 81 = .ok (.iconst 0, 1) := by decide +kernel
theorem dX9_plan_82 : decode cX9_plan 82 = .ok (.putfield 311, 3) := by decide +kernel
theorem dX9_plan_85 : decode cX9_plan 85 = .ok (.aload_n 0, 1) := by decide +kernel
theorem dX9_plan_86 : decode cX9_plan 86 = .ok (.getfield 245, 3) := by decide +kernel
theorem dX9_plan_89 : decode cX9_plan 89 = .ok (.ifCond .ne 18, 3) := by decide +kernel
theorem dX9_plan_92 : decode cX9_plan 92 = .ok (.aload_n 0, 1) := by decide +kernel
theorem dX9_plan_93 : decode cX9_plan 93 = .ok (.invokevirtual 257, 3) := by decide +kernel
theorem dX9_plan_96 : decode cX9_plan 96 = .ok (.iconst (-1), 1) := by decide +kernel
theorem dX9_plan_97 : decode cX9_plan 97 = .ok (.if_icmp .eq 10, 3) := by decide +kernel
theorem dX9_plan_100 : decode cX9_plan 100 = .ok (.aload_n 0, 1) := by decide +kernel
theorem dX9_plan_101 : decode cX9_plan 101 = .ok (.invokevirtual 418, 3) := by decide +kernel
theorem dX9_plan_104 : decode cX9_plan 104 = .ok (.goto (-19), 3) := by decide +kernel
theorem dX9_plan_107 : decode cX9_plan 107 = .ok (.aload_n 0, 1) := by decide +kernel
theorem dX9_plan_108 : decode cX9_plan 108 = .ok (.aload_n 0, 1) := by decide +kernel
theorem dX9_plan_109 : decode cX9_plan 109 = .ok (.getfield 245, 3) := by decide +kernel
theorem dX9_plan_112 : decode cX9_plan 112 = .ok (.putfield 421, 3) := by decide +kernel
theorem dX9_plan_115 : decode cX9_plan 115 = .ok (.aload_n 0, 1) := by decide +kernel
theorem dX9_plan_116 : decode cX9_plan 116 = .ok (.aload_n 0, 1) := by decide +kernel
theorem dX9_plan_117 : decode cX9_plan 117 = .ok (.getfield 248, 3) := by decide +kernel
theorem dX9_plan_120 : decode cX9_plan 120 = .ok (.putfield 13, 3) := by decide +kernel
theorem dX9_plan_123 : decode cX9_plan 123 = .ok (.aload_n 0, 1) := by decide +kernel
theorem dX9_plan_124 : decode cX9_plan 124 = .ok (.getfield 245, 3) := by decide +kernel
theorem dX9_plan_127 : decode cX9_plan 127 = .ok (.ifCond .eq 5, 3) := by decide +kernel
theorem dX9_plan_130 : decode cX9_plan 130 = .ok (.iconst (-1), 1) := by decide +kernel
theorem dX9_plan_131 : decode cX9_plan 131 = .ok (.ireturn, 1) := by decide +kernel
theorem dX9_plan_132 : decode cX9_plan 132 = .ok (.aload_n 0, 1) := by decide +kernel
theorem dX9_plan_133 : decode cX9_plan 133 = .ok (.iload_n 1, 1) := by decide +kernel
theorem dX9_plan_134 : decode cX9_plan 134 = .ok (.putfield 424, 3) := by decide +kernel
theorem dX9_plan_137 : decode cX9_plan 137 = .ok (.aload_n 0, 1) := by decide +kernel
theorem dX9_plan_138 : decode cX9_plan 138 = .ok (.invokevirtual 427, 3) := by decide +kernel
theorem dX9_plan_141 : decode cX9_plan 141 = .ok (.aload_n 0, 1) := by decide +kernel
theorem dX9_plan_142 : decode cX9_plan 142 = .ok (.getfield 415, 3) := by decide +kernel
theorem dX9_plan_145 : decode cX9_plan 145 = .ok (.ireturn, 1) := by decide +kernel
theorem dX9_stands_0 : decode cX9_stands 0 = .ok (.aload_n 0, 1) := by decide +kernel
theorem dX9_stands_1 : decode cX9_stands 1 = .ok (.iconst 1, 1) := by decide +kernel
theorem dX9_stands_2 : decode cX9_stands 2 = .ok (.putfield 430, 3) := by decide +kernel
theorem dX9_stands_5 : decode cX9_stands 5 = .ok (.aload_n 0, 1) := by decide +kernel
theorem dX9_stands_6 : decode cX9_stands 6 = .ok (.aload_n 0, 1) := by decide +kernel
theorem dX9_stands_7 : decode cX9_stands 7 = .ok (.getfield 300, 3) := by decide +kernel
theorem dX9_stands_10 : decode cX9_stands 10 = .ok (.putfield 433, 3) := by decide +kernel
theorem dX9_stands_13 : decode cX9_stands 13 = .ok (.aload_n 0, 1) := by decide +kernel
theorem dX9_stands_14 : decode cX9_stands 14 = .ok (.aload_n 0, 1) := by decide +kernel
theorem dX9_stands_15 : decode cX9_stands 15 = .ok (.getfield 346, 3) := by decide +kernel
theorem dX9_stands_18 : decode cX9_stands 18 = .ok (.putfield 436, 3) := by decide +kernel
theorem dX9_stands_21 : decode cX9_stands 21 = .ok (.aload_n 0, 1) := by decide +kernel
theorem dX9_stands_22 : decode cX9_stands 22 = .ok (.aload_n 0, 1) := by decide +kernel
theorem dX9_stands_23 : decode cX9_stands 23 = .ok (.getfield 402, 3) := by decide +kernel
theorem dX9_stands_26 : decode cX9_stands 26 = .ok (.putfield 173, 3) := by decide +kernel
theorem dX9_stands_29 : decode cX9_stands 29 = .ok (.aload_n 0, 1) := by decide +kernel
theorem dX9_stands_30 : decode cX9_stands 30 = .ok (.aload_n 0, 1) := by decide +kernel
theorem dX9_stands_31 : decode cX9_stands 31 = .ok (.getfield 405, 3) := by decide +kernel
theorem dX9_stands_34 : decode cX9_stands 34 = .ok (.putfield 439, 3) := by decide +kernel
theorem dX9_stands_37 : decode cX9_stands 37 = .ok (.aload_n 0, 1) := by decide +kernel
theorem dX9_stands_38 : decode cX9_stands 38 = .ok (.aload_n 0, 1) := by decide +kernel
theorem dX9_stands_39 : decode cX9_stands 39 = .ok (.getfield 409, 3) := by decide +kernel
theorem dX9_stands_42 : decode cX9_stands 42 = .ok (.putfield 176, 3) := by decide +kernel
theorem dX9_stands_45 : decode cX9_stands 45 = .ok (.aload_n 0, 1) := by decide +kernel
theorem dX9_stands_46 : decode cX9_stands 46 = .ok (.aload_n 0, 1) := by decide +kernel
theorem dX9_stands_47 : decode cX9_stands 47 = .ok (.getfield 311, 3) := by decide +kernel
theorem dX9_stands_50 : decode cX9_stands 50 = .ok (.putfield 442, 3) := by decide +kernel
theorem dX9_stands_53 : decode cX9_stands 53 = .ok (.iconst 0, 1) := by decide +kernel
theorem dX9_stands_54 : decode cX9_stands 54 = .ok (.istore_n 1, 1) := by decide +kernel
theorem dX9_stands_55 : decode cX9_stands 55 = .ok (.iload_n 1, 1) := by decide +kernel
theorem dX9_stands_56 : decode cX9_stands 56 = .ok (.aload_n 0, 1) := by decide +kernel
theorem dX9_stands_57 : decode cX9_stands 57 = .ok (.getfield 436, 3) := by decide +kernel
theorem dX9_stands_60 : decode cX9_stands 60 = .ok (.if_icmp .ge 57, 3) := by decide +kernel
theorem dX9_stands_63 : decode cX9_stands 63 = .ok (.aload_n 0, 1) := by decide +kernel
theorem dX9_stands_64 : decode cX9_stands 64 = .ok (.getfield 152, 3) := by decide +kernel
theorem dX9_stands_67 : decode cX9_stands 67 = .ok (.iload_n 1, 1) := by decide +kernel
theorem dX9_stands_68 : decode cX9_stands 68 = .ok (.aload_n 0, 1) := by decide +kernel
theorem dX9_stands_69 : decode cX9_stands 69 = .ok (.getfield 124, 3) := by decide +kernel
theorem dX9_stands_72 : decode cX9_stands 72 = .ok (.iload_n 1, 1) := by decide +kernel
theorem dX9_stands_73 : decode cX9_stands 73 = .ok (.baload, 1) := by decide +kernel
theorem dX9_stands_74 : decode cX9_stands 74 = .ok (.bastore, 1) := by decide +kernel
theorem dX9_stands_75 : decode cX9_stands 75 = .ok (.aload_n 0, 1) := by decide +kernel
theorem dX9_stands_76 : decode cX9_stands 76 = .ok (.getfield 155, 3) := by decide +kernel
theorem dX9_stands_79 : decode cX9_stands 79 = .ok (.iload_n 1, 1) := by decide +kernel
theorem dX9_stands_80 : decode cX9_stands 80 = .ok (.aload_n 0, 1) := by decide +kernel
theorem dX9_stands_81 : decode cX9_stands 81 = .ok (.getfield 128, 3) := by decide +kernel
theorem dX9_stands_84 : decode cX9_stands 84 = .ok (.iload_n 1, 1) := by decide +kernel
theorem dX9_stands_85 : decode cX9_stands 85 = .ok (.iaload, 1) := by decide +kernel
theorem dX9_stands_86 : decode cX9_stands 86 = .ok (.iastore, 1) := by decide +kernel
theorem dX9_stands_87 : decode cX9_stands 87 = .ok (.aload_n 0, 1) := by decide +kernel
theorem dX9_stands_88 : decode cX9_stands 88 = .ok (.getfield 158, 3) := by decide +kernel
theorem dX9_stands_91 : decode cX9_stands 91 = .ok (.iload_n 1, 1) := by decide +kernel
theorem dX9_stands_92 : decode cX9_stands 92 = .ok (.aload_n 0, 1) := by decide +kernel
theorem dX9_stands_93 : decode cX9_stands 93 = .ok (.getfield 131, 3) := by decide +kernel
theorem dX9_stands_96 : decode cX9_stands 96 = .ok (.iload_n 1, 1) := by decide +kernel
theorem dX9_stands_97 : decode cX9_stands 97 = .ok (.iaload, 1) := by decide +kernel
theorem dX9_stands_98 : decode cX9_stands 98 = .ok (.iastore, 1) := by decide +kernel
theorem dX9_stands_99 : decode cX9_stands 99 = .ok (.aload_n 0, 1) := by decide +kernel
theorem dX9_stands_100 : decode cX9_stands 100 = .ok (.getfield 161, 3) := by decide +kernel
theorem dX9_stands_103 : decode cX9_stands 103 = .ok (.iload_n 1, 1) := by decide +kernel
theorem dX9_stands_104 : decode cX9_stands 104 = .ok (.aload_n 0, 1) := by decide +kernel
theorem dX9_stands_105 : decode cX9_stands 105 = .ok (.getfield 134, 3) := by decide +kernel
theorem dX9_stands_108 : decode cX9_stands 108 = .ok (.iload_n 1, 1) := by decide +kernel
theorem dX9_stands_109 : decode cX9_stands 109 = .ok (.iaload, 1) := by decide +kernel
theorem dX9_stands_110 : decode cX9_stands 110 = .ok (.iastore, 1) := by decide +kernel
theorem dX9_stands_111 : decode cX9_stands 111 = .ok (.iinc 1 1, 3) := by decide +kernel
theorem dX9_stands_114 : decode cX9_stands 114 = .ok (.goto (-59), 3) := by decide +kernel
theorem dX9_stands_117 : decode cX9_stands 117 = .ok (.iconst 0, 1) := by decide +kernel
theorem dX9_stands_118 : decode cX9_stands 118 = .ok (.istore_n 1, 1) := by decide +kernel
theorem dX9_stands_119 : decode cX9_stands 119 = .ok (.iload_n 1, 1) := by decide +kernel
theorem dX9_stands_120 : decode cX9_stands 120 = .ok (.bipush 20, 2) := by decide +kernel
theorem dX9_stands_122 : decode cX9_stands 122 = .ok (.if_icmp .ge 45, 3) := by decide +kernel
theorem dX9_stands_125 : decode cX9_stands 125 = .ok (.aload_n 0, 1) := by decide +kernel
theorem dX9_stands_126 : decode cX9_stands 126 = .ok (.getfield 164, 3) := by decide +kernel
theorem dX9_stands_129 : decode cX9_stands 129 = .ok (.iload_n 1, 1) := by decide +kernel
theorem dX9_stands_130 : decode cX9_stands 130 = .ok (.aload_n 0, 1) := by decide +kernel
theorem dX9_stands_131 : decode cX9_stands 131 = .ok (.getfield 137, 3) := by decide +kernel
theorem dX9_stands_134 : decode cX9_stands 134 = .ok (.iload_n 1, 1) := by decide +kernel
theorem dX9_stands_135 : decode cX9_stands 135 = .ok (.iaload, 1) := by decide +kernel
theorem dX9_stands_136 : decode cX9_stands 136 = .ok (.iastore, 1) := by decide +kernel
theorem dX9_stands_137 : decode cX9_stands 137 = .ok (.aload_n 0, 1) := by decide +kernel
theorem dX9_stands_138 : decode cX9_stands 138 = .ok (.getfield 167, 3) := by decide +kernel
theorem dX9_stands_141 : decode cX9_stands 141 = .ok (.iload_n 1, 1) := by decide +kernel
theorem dX9_stands_142 : decode cX9_stands 142 = .ok (.aload_n 0, 1) := by decide +kernel
theorem dX9_stands_143 : decode cX9_stands 143 = .ok (.getfield 140, 3) := by decide +kernel
theorem dX9_stands_146 : decode cX9_stands 146 = .ok (.iload_n 1, 1) := by decide +kernel
theorem dX9_stands_147 : decode cX9_stands 147 = .ok (.iaload, 1) := by decide +kernel
theorem dX9_stands_148 : decode cX9_stands 148 = .ok (.iastore, 1) := by decide +kernel
theorem dX9_stands_149 : decode cX9_stands 149 = .ok (.aload_n 0, 1) := by decide +kernel
theorem dX9_stands_150 : decode cX9_stands 150 = .ok (.getfield 170, 3) := by decide +kernel
theorem dX9_stands_153 : decode cX9_stands 153 = .ok (.iload_n 1, 1) := by decide +kernel
theorem dX9_stands_154 : decode cX9_stands 154 = .ok (.aload_n 0, 1) := by decide +kernel
theorem dX9_stands_155 : decode cX9_stands 155 = .ok (.getfield 143, 3) := by decide +kernel
theorem dX9_stands_158 : decode cX9_stands 158 = .ok (.iload_n 1, 1) := by decide +kernel
theorem dX9_stands_159 : decode cX9_stands 159 = .ok (.iaload, 1) := by decide +kernel
theorem dX9_stands_160 : decode cX9_stands 160 = .ok (.iastore, 1) := by decide +kernel
theorem dX9_stands_161 : decode cX9_stands 161 = .ok (.iinc 1 1, 3) := by decide +kernel
theorem dX9_stands_164 : decode cX9_stands 164 = .ok (.goto (-45), 3) := by decide +kernel
theorem dX9_stands_167 : decode cX9_stands 167 = .ok (.iconst 0, 1) := by decide +kernel
theorem dX9_stands_168 : decode cX9_stands 168 = .ok (.istore_n 1, 1) := by decide +kernel
theorem dX9_stands_169 : decode cX9_stands 169 = .ok (.iload_n 1, 1) := by decide +kernel
theorem dX9_stands_170 : decode cX9_stands 170 = .ok (.aload_n 0, 1) := by decide +kernel
theorem dX9_stands_171 : decode cX9_stands 171 = .ok (.getfield 442, 3) := by decide +kernel
theorem dX9_stands_174 : decode cX9_stands 174 = .ok (.if_icmp .ge 21, 3) := by decide +kernel
theorem dX9_stands_177 : decode cX9_stands 177 = .ok (.aload_n 0, 1) := by decide +kernel
theorem dX9_stands_178 : decode cX9_stands 178 = .ok (.getfield 179, 3) := by decide +kernel
theorem dX9_stands_181 : decode cX9_stands 181 = .ok (.iload_n 1, 1) := by decide +kernel
theorem dX9_stands_182 : decode cX9_stands 182 = .ok (.aload_n 0, 1) := by decide +kernel
theorem dX9_stands_183 : decode cX9_stands 183 = .ok (.getfield 149, 3) := by decide +kernel
theorem dX9_stands_186 : decode cX9_stands 186 = .ok (.iload_n 1, 1) := by decide +kernel
theorem dX9_stands_187 : decode cX9_stands 187 = .ok (.iaload, 1) := by decide +kernel
theorem dX9_stands_188 : decode cX9_stands 188 = .ok (.iastore, 1) := by decide +kernel
theorem dX9_stands_189 : decode cX9_stands 189 = .ok (.iinc 1 1, 3) := by decide +kernel
theorem dX9_stands_192 : decode cX9_stands 192 = .ok (.goto (-23), 3) := by decide +kernel
theorem dX9_stands_195 : decode cX9_stands 195 = .ok (.iconst 0, 1) := by decide +kernel
theorem dX9_stands_196 : decode cX9_stands 196 = .ok (.istore_n 1, 1) := by decide +kernel
theorem dX9_stands_197 : decode cX9_stands 197 = .ok (.iload_n 1, 1) := by decide +kernel
theorem dX9_stands_198 : decode cX9_stands 198 = .ok (.aload_n 0, 1) := by decide +kernel
theorem dX9_stands_199 : decode cX9_stands 199 = .ok (.getfield 314, 3) := by decide +kernel
theorem dX9_stands_202 : decode cX9_stands 202 = .ok (.if_icmp .ge 27, 3) := by decide +kernel
theorem dX9_stands_205 : decode cX9_stands 205 = .ok (.aload_n 0, 1) := by decide +kernel
theorem dX9_stands_206 : decode cX9_stands 206 = .ok (.getfield 114, 3) := by decide +kernel
theorem dX9_stands_209 : decode cX9_stands 209 = .ok (.sipush 800, 3) := by decide +kernel
theorem dX9_stands_212 : decode cX9_stands 212 = .ok (.iload_n 1, 1) := by decide +kernel
theorem dX9_stands_213 : decode cX9_stands 213 = .ok (.iadd, 1) := by decide +kernel
theorem dX9_stands_214 : decode cX9_stands 214 = .ok (.aload_n 0, 1) := by decide +kernel
theorem dX9_stands_215 : decode cX9_stands 215 = .ok (.getfield 114, 3) := by decide +kernel
theorem dX9_stands_218 : decode cX9_stands 218 = .ok (.iconst 0, 1) := by decide +kernel
theorem dX9_stands_219 : decode cX9_stands 219 = .ok (.iload_n 1, 1) := by decide +kernel
theorem dX9_stands_220 : decode cX9_stands 220 = .ok (.iadd, 1) := by decide +kernel
theorem dX9_stands_221 : decode cX9_stands 221 = .ok (.iaload, 1) := by decide +kernel
theorem dX9_stands_222 : decode cX9_stands 222 = .ok (.iastore, 1) := by decide +kernel
theorem dX9_stands_223 : decode cX9_stands 223 = .ok (.iinc 1 1, 3) := by decide +kernel
theorem dX9_stands_226 : decode cX9_stands 226 = .ok (.goto (-29), 3) := by decide +kernel
theorem dX9_stands_229 : decode cX9_stands 229 = .ok (.aload_n 0, 1) := by decide +kernel
theorem dX9_stands_230 : decode cX9_stands 230 = .ok (.iconst 0, 1) := by decide +kernel
theorem dX9_stands_231 : decode cX9_stands 231 = .ok (.putfield 445, 3) := by decide +kernel
theorem dX9_stands_234 : decode cX9_stands 234 = .ok (.aload_n 0, 1) := by decide +kernel
theorem dX9_stands_235 : decode cX9_stands 235 = .ok (.iconst (-1), 1) := by decide +kernel
theorem dX9_stands_236 : decode cX9_stands 236 = .ok (.putfield 206, 3) := by decide +kernel
theorem dX9_stands_239 : decode cX9_stands 239 = .ok (.aload_n 0, 1) := by decide +kernel
theorem dX9_stands_240 : decode cX9_stands 240 = .ok (.iconst 0, 1) := by decide +kernel
theorem dX9_stands_241 : decode cX9_stands 241 = .ok (.putfield 448, 3) := by decide +kernel
theorem dX9_stands_244 : decode cX9_stands 244 = .ok (.iconst 0, 1) := by decide +kernel
theorem dX9_stands_245 : decode cX9_stands 245 = .ok (.istore_n 1, 1) := by decide +kernel
theorem dX9_stands_246 : decode cX9_stands 246 = .ok (.iload_n 1, 1) := by decide +kernel
theorem dX9_stands_247 : decode cX9_stands 247 = .ok (.aload_n 0, 1) := by decide +kernel
theorem dX9_stands_248 : decode cX9_stands 248 = .ok (.getfield 436, 3) := by decide +kernel
theorem dX9_stands_251 : decode cX9_stands 251 = .ok (.if_icmp .ge 14, 3) := by decide +kernel
theorem dX9_stands_254 : decode cX9_stands 254 = .ok (.aload_n 0, 1) := by decide +kernel
theorem dX9_stands_255 : decode cX9_stands 255 = .ok (.iload_n 1, 1) := by decide +kernel
theorem dX9_stands_256 : decode cX9_stands 256 = .ok (.invokevirtual 451, 3) := by decide +kernel
theorem dX9_stands_259 : decode cX9_stands 259 = .ok (.iinc 1 1, 3) := by decide +kernel
theorem dX9_stands_262 : decode cX9_stands 262 = .ok (.goto (-16), 3) := by decide +kernel
theorem dX9_stands_265 : decode cX9_stands 265 = .ok (.return_, 1) := by decide +kernel
theorem dX9_fault_0 : decode cX9_fault 0 = .ok (.iload_n 1, 1) := by decide +kernel
theorem dX9_fault_1 : decode cX9_fault 1 = .ok (.ifCond .ne 10, 3) := by decide +kernel
theorem dX9_fault_4 : decode cX9_fault 4 = .ok (.aload_n 0, 1) := by decide +kernel
theorem dX9_fault_5 : decode cX9_fault 5 = .ok (.getfield 421, 3) := by decide +kernel
theorem dX9_fault_8 : decode cX9_fault 8 = .ok (.goto 16, 3) := by decide +kernel
theorem dX9_fault_11 : decode cX9_fault 11 = .ok (.iload_n 1, 1) := by decide +kernel
theorem dX9_fault_12 : decode cX9_fault 12 = .ok (.iconst 1, 1) := by decide +kernel
theorem dX9_fault_13 : decode cX9_fault 13 = .ok (.if_icmp .ne 10, 3) := by decide +kernel
theorem dX9_fault_16 : decode cX9_fault 16 = .ok (.aload_n 0, 1) := by decide +kernel
theorem dX9_fault_17 : decode cX9_fault 17 = .ok (.getfield 13, 3) := by decide +kernel
theorem dX9_fault_20 : decode cX9_fault 20 = .ok (.goto 4, 3) := by decide +kernel
theorem dX9_fault_23 : decode cX9_fault 23 = .ok (.iconst (-1), 1) := by decide +kernel
theorem dX9_fault_24 : decode cX9_fault 24 = .ok (.ireturn, 1) := by decide +kernel
theorem dX9_places_0 : decode cX9_places 0 = .ok (.aload_n 0, 1) := by decide +kernel
theorem dX9_places_1 : decode cX9_places 1 = .ok (.getfield 152, 3) := by decide +kernel
theorem dX9_places_4 : decode cX9_places 4 = .ok (.iload_n 1, 1) := by decide +kernel
theorem dX9_places_5 : decode cX9_places 5 = .ok (.baload, 1) := by decide +kernel
theorem dX9_places_6 : decode cX9_places 6 = .ok (.ifCond .eq 7, 3) := by decide +kernel
theorem dX9_places_9 : decode cX9_places 9 = .ok (.iconst 3, 1) := by decide +kernel
theorem dX9_places_10 : decode cX9_places 10 = .ok (.goto 4, 3) := by decide +kernel
theorem dX9_places_13 : decode cX9_places 13 = .ok (.iconst 2, 1) := by decide +kernel
theorem dX9_places_14 : decode cX9_places 14 = .ok (.ireturn, 1) := by decide +kernel
theorem dX9_codesOf_0 : decode cX9_codesOf 0 = .ok (.iconst 0, 1) := by decide +kernel
theorem dX9_codesOf_1 : decode cX9_codesOf 1 = .ok (.istore_n 2, 1) := by decide +kernel
theorem dX9_codesOf_2 : decode cX9_codesOf 2 = .ok (.iload_n 2, 1) := by decide +kernel
theorem dX9_codesOf_3 : decode cX9_codesOf 3 = .ok (.sipush 1000, 3) := by decide +kernel
theorem dX9_codesOf_6 : decode cX9_codesOf 6 = .ok (.if_icmp .ge 16, 3) := by decide +kernel
theorem dX9_codesOf_9 : decode cX9_codesOf 9 = .ok (.aload_n 0, 1) := by decide +kernel
theorem dX9_codesOf_10 : decode cX9_codesOf 10 = .ok (.getfield 185, 3) := by decide +kernel
theorem dX9_codesOf_13 : decode cX9_codesOf 13 = .ok (.iload_n 2, 1) := by decide +kernel
theorem dX9_codesOf_14 : decode cX9_codesOf 14 = .ok (.iconst 0, 1) := by decide +kernel
theorem dX9_codesOf_15 : decode cX9_codesOf 15 = .ok (.bastore, 1) := by decide +kernel
theorem dX9_codesOf_16 : decode cX9_codesOf 16 = .ok (.iinc 2 1, 3) := by decide +kernel
theorem dX9_codesOf_19 : decode cX9_codesOf 19 = .ok (.goto (-17), 3) := by decide +kernel
theorem dX9_codesOf_22 : decode cX9_codesOf 22 = .ok (.aload_n 0, 1) := by decide +kernel
theorem dX9_codesOf_23 : decode cX9_codesOf 23 = .ok (.getfield 424, 3) := by decide +kernel
theorem dX9_codesOf_26 : decode cX9_codesOf 26 = .ok (.i2l, 1) := by decide +kernel
theorem dX9_codesOf_27 : decode cX9_codesOf 27 = .ok (.lstore_n 2, 1) := by decide +kernel
theorem dX9_codesOf_28 : decode cX9_codesOf 28 = .ok (.iconst 0, 1) := by decide +kernel
theorem dX9_codesOf_29 : decode cX9_codesOf 29 = .ok (.istore 4, 2) := by decide +kernel
theorem dX9_codesOf_31 : decode cX9_codesOf 31 = .ok (.iload 4, 2) := by decide +kernel
theorem dX9_codesOf_33 : decode cX9_codesOf 33 = .ok (.bipush 30, 2) := by decide +kernel
theorem dX9_codesOf_35 : decode cX9_codesOf 35 = .ok (.aload_n 0, 1) := by decide +kernel
theorem dX9_codesOf_36 : decode cX9_codesOf 36 = .ok (.iload_n 1, 1) := by decide +kernel
theorem dX9_codesOf_37 : decode cX9_codesOf 37 = .ok (.invokevirtual 454, 3) := by decide +kernel
theorem dX9_codesOf_40 : decode cX9_codesOf 40 = .ok (.imul, 1) := by decide +kernel
theorem dX9_codesOf_41 : decode cX9_codesOf 41 = .ok (.if_icmp .ge 92, 3) := by decide +kernel
theorem dX9_codesOf_44 : decode cX9_codesOf 44 = .ok (.ldc2_w 458, 3) := by decide +kernel
theorem dX9_codesOf_47 : decode cX9_codesOf 47 = .ok (.lload_n 2, 1) := by decide +kernel
theorem dX9_codesOf_48 : decode cX9_codesOf 48 = .ok (.lmul, 1) := by decide +kernel
theorem dX9_codesOf_49 : decode cX9_codesOf 49 = .ok (.ldc2_w 460, 3) := by decide +kernel
theorem dX9_codesOf_52 : decode cX9_codesOf 52 = .ok (.ladd, 1) := by decide +kernel
theorem dX9_codesOf_53 : decode cX9_codesOf 53 = .ok (.ldc2_w 462, 3) := by decide +kernel
theorem dX9_codesOf_56 : decode cX9_codesOf 56 = .ok (.lrem, 1) := by decide +kernel
theorem dX9_codesOf_57 : decode cX9_codesOf 57 = .ok (.lstore_n 2, 1) := by decide +kernel
theorem dX9_codesOf_58 : decode cX9_codesOf 58 = .ok (.bipush 100, 2) := by decide +kernel
theorem dX9_codesOf_60 : decode cX9_codesOf 60 = .ok (.lload_n 2, 1) := by decide +kernel
theorem dX9_codesOf_61 : decode cX9_codesOf 61 = .ok (.ldc2_w 464, 3) := by decide +kernel
theorem dX9_codesOf_64 : decode cX9_codesOf 64 = .ok (.ldiv, 1) := by decide +kernel
theorem dX9_codesOf_65 : decode cX9_codesOf 65 = .ok (.ldc2_w 466, 3) := by decide +kernel
theorem dX9_codesOf_68 : decode cX9_codesOf 68 = .ok (.lrem, 1) := by decide +kernel
theorem dX9_codesOf_69 : decode cX9_codesOf 69 = .ok (.l2i, 1) := by decide +kernel
theorem dX9_codesOf_70 : decode cX9_codesOf 70 = .ok (.iadd, 1) := by decide +kernel
theorem dX9_codesOf_71 : decode cX9_codesOf 71 = .ok (.istore 5, 2) := by decide +kernel
theorem dX9_codesOf_73 : decode cX9_codesOf 73 = .ok (.aload_n 0, 1) := by decide +kernel
theorem dX9_codesOf_74 : decode cX9_codesOf 74 = .ok (.getfield 185, 3) := by decide +kernel
theorem dX9_codesOf_77 : decode cX9_codesOf 77 = .ok (.iload 5, 2) := by decide +kernel
theorem dX9_codesOf_79 : decode cX9_codesOf 79 = .ok (.baload, 1) := by decide +kernel
theorem dX9_codesOf_80 : decode cX9_codesOf 80 = .ok (.ifCond .eq 25, 3) := by decide +kernel
theorem dX9_codesOf_83 : decode cX9_codesOf 83 = .ok (.iload 5, 2) := by decide +kernel
theorem dX9_codesOf_85 : decode cX9_codesOf 85 = .ok (.sipush 999, 3) := by decide +kernel
theorem dX9_codesOf_88 : decode cX9_codesOf 88 = .ok (.if_icmp .ne 8, 3) := by decide +kernel
theorem dX9_codesOf_91 : decode cX9_codesOf 91 = .ok (.bipush 100, 2) := by decide +kernel
theorem dX9_codesOf_93 : decode cX9_codesOf 93 = .ok (.goto 7, 3) := by decide +kernel
theorem dX9_codesOf_96 : decode cX9_codesOf 96 = .ok (.iload 5, 2) := by decide +kernel
theorem dX9_codesOf_98 : decode cX9_codesOf 98 = .ok (.iconst 1, 1) := by decide +kernel
theorem dX9_codesOf_99 : decode cX9_codesOf 99 = .ok (.iadd, 1) := by decide +kernel
theorem dX9_codesOf_100 : decode cX9_codesOf 100 = .ok (.istore 5, 2) := by decide +kernel
theorem dX9_codesOf_102 : decode cX9_codesOf 102 = .ok (.goto (-29), 3) := by decide +kernel
theorem dX9_codesOf_105 : decode cX9_codesOf 105 = .ok (.aload_n 0, 1) := by decide +kernel
theorem dX9_codesOf_106 : decode cX9_codesOf 106 = .ok (.getfield 185, 3) := by decide +kernel
theorem dX9_codesOf_109 : decode cX9_codesOf 109 = .ok (.iload 5, 2) := by decide +kernel
theorem dX9_codesOf_111 : decode cX9_codesOf 111 = .ok (.iconst 1, 1) := by decide +kernel
theorem dX9_codesOf_112 : decode cX9_codesOf 112 = .ok (.bastore, 1) := by decide +kernel
