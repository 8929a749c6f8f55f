theorem dL_law_792 : decode code 792 = .ok (.invokevirtual 89, 3) := by decide +kernel
theorem dL_law_795 : decode code 795 = .ok (.aload_n 2, 1) := by decide +kernel
theorem dL_law_796 : decode code 796 = .ok (.aload_n 0, 1) := by decide +kernel
theorem dL_law_797 : decode code 797 = .ok (.iload_n 3, 1) := by decide +kernel
theorem dL_law_798 : decode code 798 = .ok (.iconst 1, 1) := by decide +kernel
theorem dL_law_799 : decode code 799 = .ok (.iadd, 1) := by decide +kernel
theorem dL_law_800 : decode code 800 = .ok (.iaload, 1) := by decide +kernel
theorem dL_law_801 : decode code 801 = .ok (.aload_n 0, 1) := by decide +kernel
theorem dL_law_802 : decode code 802 = .ok (.iload_n 3, 1) := by decide +kernel
theorem dL_law_803 : decode code 803 = .ok (.iconst 2, 1) := by decide +kernel
theorem dL_law_804 : decode code 804 = .ok (.iadd, 1) := by decide +kernel
theorem dL_law_805 : decode code 805 = .ok (.iaload, 1) := by decide +kernel
theorem dL_law_806 : decode code 806 = .ok (.invokevirtual 92, 3) := by decide +kernel
theorem dL_law_809 : decode code 809 = .ok (.if_icmp .eq 600, 3) := by decide +kernel
theorem dL_law_812 : decode code 812 = .ok (.iconst 0, 1) := by decide +kernel
theorem dL_law_813 : decode code 813 = .ok (.ireturn, 1) := by decide +kernel
theorem dL_law_814 : decode code 814 = .ok (.aload_n 1, 1) := by decide +kernel
theorem dL_law_815 : decode code 815 = .ok (.aload_n 0, 1) := by decide +kernel
theorem dL_law_816 : decode code 816 = .ok (.iload_n 3, 1) := by decide +kernel
theorem dL_law_817 : decode code 817 = .ok (.iconst 1, 1) := by decide +kernel
theorem dL_law_818 : decode code 818 = .ok (.iadd, 1) := by decide +kernel
theorem dL_law_819 : decode code 819 = .ok (.iaload, 1) := by decide +kernel
theorem dL_law_820 : decode code 820 = .ok (.aload_n 0, 1) := by decide +kernel
theorem dL_law_821 : decode code 821 = .ok (.iload_n 3, 1) := by decide +kernel
theorem dL_law_822 : decode code 822 = .ok (.iconst 2, 1) := by decide +kernel
theorem dL_law_823 : decode code 823 = .ok (.iadd, 1) := by decide +kernel
theorem dL_law_824 : decode code 824 = .ok (.iaload, 1) := by decide +kernel
theorem dL_law_825 : decode code 825 = .ok (.invokevirtual 93, 3) := by decide +kernel
theorem dL_law_828 : decode code 828 = .ok (.aload_n 2, 1) := by decide +kernel
theorem dL_law_829 : decode code 829 = .ok (.aload_n 0, 1) := by decide +kernel
theorem dL_law_830 : decode code 830 = .ok (.iload_n 3, 1) := by decide +kernel
theorem dL_law_831 : decode code 831 = .ok (.iconst 1, 1) := by decide +kernel
theorem dL_law_832 : decode code 832 = .ok (.iadd, 1) := by decide +kernel
theorem dL_law_833 : decode code 833 = .ok (.iaload, 1) := by decide +kernel
theorem dL_law_834 : decode code 834 = .ok (.aload_n 0, 1) := by decide +kernel
theorem dL_law_835 : decode code 835 = .ok (.iload_n 3, 1) := by decide +kernel
theorem dL_law_836 : decode code 836 = .ok (.iconst 2, 1) := by decide +kernel
theorem dL_law_837 : decode code 837 = .ok (.iadd, 1) := by decide +kernel
theorem dL_law_838 : decode code 838 = .ok (.iaload, 1) := by decide +kernel
theorem dL_law_839 : decode code 839 = .ok (.invokevirtual 96, 3) := by decide +kernel
theorem dL_law_842 : decode code 842 = .ok (.if_icmp .eq 567, 3) := by decide +kernel
theorem dL_law_845 : decode code 845 = .ok (.iconst 0, 1) := by decide +kernel
theorem dL_law_846 : decode code 846 = .ok (.ireturn, 1) := by decide +kernel
theorem dL_law_847 : decode code 847 = .ok (.aload_n 1, 1) := by decide +kernel
theorem dL_law_848 : decode code 848 = .ok (.aload_n 0, 1) := by decide +kernel
theorem dL_law_849 : decode code 849 = .ok (.iload_n 3, 1) := by decide +kernel
theorem dL_law_850 : decode code 850 = .ok (.iconst 1, 1) := by decide +kernel
theorem dL_law_851 : decode code 851 = .ok (.iadd, 1) := by decide +kernel
theorem dL_law_852 : decode code 852 = .ok (.iaload, 1) := by decide +kernel
theorem dL_law_853 : decode code 853 = .ok (.aload_n 0, 1) := by decide +kernel
theorem dL_law_854 : decode code 854 = .ok (.iload_n 3, 1) := by decide +kernel
theorem dL_law_855 : decode code 855 = .ok (.iconst 2, 1) := by decide +kernel
theorem dL_law_856 : decode code 856 = .ok (.iadd, 1) := by decide +kernel
theorem dL_law_857 : decode code 857 = .ok (.iaload, 1) := by decide +kernel
theorem dL_law_858 : decode code 858 = .ok (.invokevirtual 97, 3) := by decide +kernel
theorem dL_law_861 : decode code 861 = .ok (.aload_n 2, 1) := by decide +kernel
theorem dL_law_862 : decode code 862 = .ok (.aload_n 0, 1) := by decide +kernel
theorem dL_law_863 : decode code 863 = .ok (.iload_n 3, 1) := by decide +kernel
theorem dL_law_864 : decode code 864 = .ok (.iconst 1, 1) := by decide +kernel
theorem dL_law_865 : decode code 865 = .ok (.iadd, 1) := by decide +kernel
theorem dL_law_866 : decode code 866 = .ok (.iaload, 1) := by decide +kernel
theorem dL_law_867 : decode code 867 = .ok (.aload_n 0, 1) := by decide +kernel
theorem dL_law_868 : decode code 868 = .ok (.iload_n 3, 1) := by decide +kernel
theorem dL_law_869 : decode code 869 = .ok (.iconst 2, 1) := by decide +kernel
theorem dL_law_870 : decode code 870 = .ok (.iadd, 1) := by decide +kernel
theorem dL_law_871 : decode code 871 = .ok (.iaload, 1) := by decide +kernel
theorem dL_law_872 : decode code 872 = .ok (.invokevirtual 100, 3) := by decide +kernel
theorem dL_law_875 : decode code 875 = .ok (.if_icmp .eq 534, 3) := by decide +kernel
theorem dL_law_878 : decode code 878 = .ok (.iconst 0, 1) := by decide +kernel
theorem dL_law_879 : decode code 879 = .ok (.ireturn, 1) := by decide +kernel
theorem dL_law_880 : decode code 880 = .ok (.aload_n 1, 1) := by decide +kernel
theorem dL_law_881 : decode code 881 = .ok (.aload_n 0, 1) := by decide +kernel
theorem dL_law_882 : decode code 882 = .ok (.iload_n 3, 1) := by decide +kernel
theorem dL_law_883 : decode code 883 = .ok (.iconst 1, 1) := by decide +kernel
theorem dL_law_884 : decode code 884 = .ok (.iadd, 1) := by decide +kernel
theorem dL_law_885 : decode code 885 = .ok (.iaload, 1) := by decide +kernel
theorem dL_law_886 : decode code 886 = .ok (.invokevirtual 101, 3) := by decide +kernel
theorem dL_law_889 : decode code 889 = .ok (.aload_n 2, 1) := by decide +kernel
theorem dL_law_890 : decode code 890 = .ok (.aload_n 0, 1) := by decide +kernel
theorem dL_law_891 : decode code 891 = .ok (.iload_n 3, 1) := by decide +kernel
theorem dL_law_892 : decode code 892 = .ok (.iconst 1, 1) := by decide +kernel
theorem dL_law_893 : decode code 893 = .ok (.iadd, 1) := by decide +kernel
theorem dL_law_894 : decode code 894 = .ok (.iaload, 1) := by decide +kernel
theorem dL_law_895 : decode code 895 = .ok (.invokevirtual 104, 3) := by decide +kernel
theorem dL_law_898 : decode code 898 = .ok (.if_icmp .eq 511, 3) := by decide +kernel
theorem dL_law_901 : decode code 901 = .ok (.iconst 0, 1) := by decide +kernel
theorem dL_law_902 : decode code 902 = .ok (.ireturn, 1) := by decide +kernel
theorem dL_law_903 : decode code 903 = .ok (.aload_n 1, 1) := by decide +kernel
theorem dL_law_904 : decode code 904 = .ok (.aload_n 0, 1) := by decide +kernel
theorem dL_law_905 : decode code 905 = .ok (.iload_n 3, 1) := by decide +kernel
theorem dL_law_906 : decode code 906 = .ok (.iconst 1, 1) := by decide +kernel
theorem dL_law_907 : decode code 907 = .ok (.iadd, 1) := by decide +kernel
theorem dL_law_908 : decode code 908 = .ok (.iaload, 1) := by decide +kernel
theorem dL_law_909 : decode code 909 = .ok (.aload_n 0, 1) := by decide +kernel
theorem dL_law_910 : decode code 910 = .ok (.iload_n 3, 1) := by decide +kernel
theorem dL_law_911 : decode code 911 = .ok (.iconst 2, 1) := by decide +kernel
theorem dL_law_912 : decode code 912 = .ok (.iadd, 1) := by decide +kernel
theorem dL_law_913 : decode code 913 = .ok (.iaload, 1) := by decide +kernel
theorem dL_law_914 : decode code 914 = .ok (.invokevirtual 105, 3) := by decide +kernel
theorem dL_law_917 : decode code 917 = .ok (.aload_n 2, 1) := by decide +kernel
theorem dL_law_918 : decode code 918 = .ok (.aload_n 0, 1) := by decide +kernel
theorem dL_law_919 : decode code 919 = .ok (.iload_n 3, 1) := by decide +kernel
theorem dL_law_920 : decode code 920 = .ok (.iconst 1, 1) := by decide +kernel
theorem dL_law_921 : decode code 921 = .ok (.iadd, 1) := by decide +kernel
theorem dL_law_922 : decode code 922 = .ok (.iaload, 1) := by decide +kernel
theorem dL_law_923 : decode code 923 = .ok (.aload_n 0, 1) := by decide +kernel
theorem dL_law_924 : decode code 924 = .ok (.iload_n 3, 1) := by decide +kernel
theorem dL_law_925 : decode code 925 = .ok (.iconst 2, 1) := by decide +kernel
theorem dL_law_926 : decode code 926 = .ok (.iadd, 1) := by decide +kernel
theorem dL_law_927 : decode code 927 = .ok (.iaload, 1) := by decide +kernel
theorem dL_law_928 : decode code 928 = .ok (.invokevirtual 108, 3) := by decide +kernel
theorem dL_law_931 : decode code 931 = .ok (.if_icmp .eq 478, 3) := by decide +kernel
theorem dL_law_934 : decode code 934 = .ok (.iconst 0, 1) := by decide +kernel
theorem dL_law_935 : decode code 935 = .ok (.ireturn, 1) := by decide +kernel
theorem dL_law_936 : decode code 936 = .ok (.aload_n 1, 1) := by decide +kernel
theorem dL_law_937 : decode code 937 = .ok (.aload_n 0, 1) := by decide +kernel
theorem dL_law_938 : decode code 938 = .ok (.iload_n 3, 1) := by decide +kernel
theorem dL_law_939 : decode code 939 = .ok (.iconst 1, 1) := by decide +kernel
theorem dL_law_940 : decode code 940 = .ok (.iadd, 1) := by decide +kernel
theorem dL_law_941 : decode code 941 = .ok (.iaload, 1) := by decide +kernel
theorem dL_law_942 : decode code 942 = .ok (.invokevirtual 109, 3) := by decide +kernel
theorem dL_law_945 : decode code 945 = .ok (.aload_n 2, 1) := by decide +kernel
theorem dL_law_946 : decode code 946 = .ok (.aload_n 0, 1) := by decide +kernel
theorem dL_law_947 : decode code 947 = .ok (.iload_n 3, 1) := by decide +kernel
theorem dL_law_948 : decode code 948 = .ok (.iconst 1, 1) := by decide +kernel
theorem dL_law_949 : decode code 949 = .ok (.iadd, 1) := by decide +kernel
theorem dL_law_950 : decode code 950 = .ok (.iaload, 1) := by decide +kernel
theorem dL_law_951 : decode code 951 = .ok (.invokevirtual 112, 3) := by decide +kernel
theorem dL_law_954 : decode code 954 = .ok (.if_icmp .eq 455, 3) := by decide +kernel
theorem dL_law_957 : decode code 957 = .ok (.iconst 0, 1) := by decide +kernel
theorem dL_law_958 : decode code 958 = .ok (.ireturn, 1) := by decide +kernel
theorem dL_law_959 : decode code 959 = .ok (.aload_n 1, 1) := by decide +kernel
theorem dL_law_960 : decode code 960 = .ok (.aload_n 0, 1) := by decide +kernel
theorem dL_law_961 : decode code 961 = .ok (.iload_n 3, 1) := by decide +kernel
theorem dL_law_962 : decode code 962 = .ok (.iconst 1, 1) := by decide +kernel
theorem dL_law_963 : decode code 963 = .ok (.iadd, 1) := by decide +kernel
theorem dL_law_964 : decode code 964 = .ok (.iaload, 1) := by decide +kernel
theorem dL_law_965 : decode code 965 = .ok (.aload_n 0, 1) := by decide +kernel
theorem dL_law_966 : decode code 966 = .ok (.iload_n 3, 1) := by decide +kernel
theorem dL_law_967 : decode code 967 = .ok (.iconst 2, 1) := by decide +kernel
theorem dL_law_968 : decode code 968 = .ok (.iadd, 1) := by decide +kernel
theorem dL_law_969 : decode code 969 = .ok (.iaload, 1) := by decide +kernel
theorem dL_law_970 : decode code 970 = .ok (.invokevirtual 113, 3) := by decide +kernel
theorem dL_law_973 : decode code 973 = .ok (.aload_n 2, 1) := by decide +kernel
theorem dL_law_974 : decode code 974 = .ok (.aload_n 0, 1) := by decide +kernel
theorem dL_law_975 : decode code 975 = .ok (.iload_n 3, 1) := by decide +kernel
theorem dL_law_976 : decode code 976 = .ok (.iconst 1, 1) := by decide +kernel
theorem dL_law_977 : decode code 977 = .ok (.iadd, 1) := by decide +kernel
theorem dL_law_978 : decode code 978 = .ok (.iaload, 1) := by decide +kernel
theorem dL_law_979 : decode code 979 = .ok (.aload_n 0, 1) := by decide +kernel
theorem dL_law_980 : decode code 980 = .ok (.iload_n 3, 1) := by decide +kernel
theorem dL_law_981 : decode code 981 = .ok (.iconst 2, 1) := by decide +kernel
theorem dL_law_982 : decode code 982 = .ok (.iadd, 1) := by decide +kernel
theorem dL_law_983 : decode code 983 = .ok (.iaload, 1) := by decide +kernel
theorem dL_law_984 : decode code 984 = .ok (.invokevirtual 116, 3) := by decide +kernel
theorem dL_law_987 : decode code 987 = .ok (.if_icmp .eq 422, 3) := by decide +kernel
theorem dL_law_990 : decode code 990 = .ok (.iconst 0, 1) := by decide +kernel
theorem dL_law_991 : decode code 991 = .ok (.ireturn, 1) := by decide +kernel
theorem dL_law_992 : decode code 992 = .ok (.aload_n 1, 1) := by decide +kernel
theorem dL_law_993 : decode code 993 = .ok (.aload_n 0, 1) := by decide +kernel
theorem dL_law_994 : decode code 994 = .ok (.iload_n 3, 1) := by decide +kernel
theorem dL_law_995 : decode code 995 = .ok (.iconst 1, 1) := by decide +kernel
theorem dL_law_996 : decode code 996 = .ok (.iadd, 1) := by decide +kernel
theorem dL_law_997 : decode code 997 = .ok (.iaload, 1) := by decide +kernel
theorem dL_law_998 : decode code 998 = .ok (.aload_n 0, 1) := by decide +kernel
theorem dL_law_999 : decode code 999 = .ok (.iload_n 3, 1) := by decide +kernel
theorem dL_law_1000 : decode code 1000 = .ok (.iconst 2, 1) := by decide +kernel
theorem dL_law_1001 : decode code 1001 = .ok (.iadd, 1) := by decide +kernel
theorem dL_law_1002 : decode code 1002 = .ok (.iaload, 1) := by decide +kernel
theorem dL_law_1003 : decode code 1003 = .ok (.invokevirtual 117, 3) := by decide +kernel
theorem dL_law_1006 : decode code 1006 = .ok (.aload_n 2, 1) := by decide +kernel
theorem dL_law_1007 : decode code 1007 = .ok (.aload_n 0, 1) := by decide +kernel
theorem dL_law_1008 : decode code 1008 = .ok (.iload_n 3, 1) := by decide +kernel
theorem dL_law_1009 : decode code 1009 = .ok (.iconst 1, 1) := by decide +kernel
theorem dL_law_1010 : decode code 1010 = .ok (.iadd, 1) := by decide +kernel
theorem dL_law_1011 : decode code 1011 = .ok (.iaload, 1) := by decide +kernel
theorem dL_law_1012 : decode code 1012 = .ok (.aload_n 0, 1) := by decide +kernel
theorem dL_law_1013 : decode code 1013 = .ok (.iload_n 3, 1) := by decide +kernel
theorem dL_law_1014 : decode code 1014 = .ok (.iconst 2, 1) := by decide +kernel
theorem dL_law_1015 : decode code 1015 = .ok (.iadd, 1) := by decide +kernel
theorem dL_law_1016 : decode code 1016 = .ok (.iaload, 1) := by decide +kernel
theorem dL_law_1017 : decode code 1017 = .ok (.invokevirtual 120, 3) := by decide +kernel
theorem dL_law_1020 : decode code 1020 = .ok (.if_icmp .eq 389, 3) := by decide +kernel
theorem dL_law_1023 : decode code 1023 = .ok (.iconst 0, 1) := by decide +kernel
theorem dL_law_1024 : decode code 1024 = .ok (.ireturn, 1) := by decide +kernel
theorem dL_law_1025 : decode code 1025 = .ok (.aload_n 1, 1) := by decide +kernel
theorem dL_law_1026 : decode code 1026 = .ok (.aload_n 0, 1) := by decide +kernel
theorem dL_law_1027 : decode code 1027 = .ok (.iload_n 3, 1) := by decide +kernel
theorem dL_law_1028 : decode code 1028 = .ok (.iconst 1, 1) := by decide +kernel
theorem dL_law_1029 : decode code 1029 = .ok (.iadd, 1) := by decide +kernel
theorem dL_law_1030 : decode code 1030 = .ok (.iaload, 1) := by decide +kernel
theorem dL_law_1031 : decode code 1031 = .ok (.invokevirtual 121, 3) := by decide +kernel
theorem dL_law_1034 : decode code 1034 = .ok (.aload_n 2, 1) := by decide +kernel
theorem dL_law_1035 : decode code 1035 = .ok (.aload_n 0, 1) := by decide +kernel
theorem dL_law_1036 : decode code 1036 = .ok (.iload_n 3, 1) := by decide +kernel
theorem dL_law_1037 : decode code 1037 = .ok (.iconst 1, 1) := by decide +kernel
theorem dL_law_1038 : decode code 1038 = .ok (.iadd, 1) := by decide +kernel
theorem dL_law_1039 : decode code 1039 = .ok (.iaload, 1) := by decide +kernel
theorem dL_law_1040 : decode code 1040 = .ok (.invokevirtual 124, 3) := by decide +kernel
theorem dL_law_1043 : decode code 1043 = .ok (.if_icmp .eq 366, 3) := by decide +kernel
theorem dL_law_1046 : decode code 1046 = .ok (.iconst 0, 1) := by decide +kernel
theorem dL_law_1047 : decode code 1047 = .ok (.ireturn, 1) := by decide +kernel
theorem dL_law_1048 : decode code 1048 = .ok (.aload_n 1, 1) := by decide +kernel
theorem dL_law_1049 : decode code 1049 = .ok (.aload_n 0, 1) := by decide +kernel
theorem dL_law_1050 : decode code 1050 = .ok (.iload_n 3, 1) := by decide +kernel
theorem dL_law_1051 : decode code 1051 = .ok (.iconst 1, 1) := by decide +kernel
theorem dL_law_1052 : decode code 1052 = .ok (.iadd, 1) := by decide +kernel
theorem dL_law_1053 : decode code 1053 = .ok (.iaload, 1) := by decide +kernel
theorem dL_law_1054 : decode code 1054 = .ok (.invokevirtual 125, 3) := by decide +kernel
theorem dL_law_1057 : decode code 1057 = .ok (.aload_n 2, 1) := by decide +kernel
theorem dL_law_1058 : decode code 1058 = .ok (.aload_n 0, 1) := by decide +kernel
theorem dL_law_1059 : decode code 1059 = .ok (.iload_n 3, 1) := by decide +kernel
theorem dL_law_1060 : decode code 1060 = .ok (.iconst 1, 1) := by decide +kernel
theorem dL_law_1061 : decode code 1061 = .ok (.iadd, 1) := by decide +kernel
theorem dL_law_1062 : decode code 1062 = .ok (.iaload, 1) := by decide +kernel
theorem dL_law_1063 : decode code 1063 = .ok (.invokevirtual 128, 3) := by decide +kernel
theorem dL_law_1066 : decode code 1066 = .ok (.if_icmp .eq 343, 3) := by decide +kernel
theorem dL_law_1069 : decode code 1069 = .ok (.iconst 0, 1) := by decide +kernel
theorem dL_law_1070 : decode code 1070 = .ok (.ireturn, 1) := by decide +kernel
theorem dL_law_1071 : decode code 1071 = .ok (.aload_n 1, 1) := by decide +kernel
theorem dL_law_1072 : decode code 1072 = .ok (.aload_n 0, 1) := by decide +kernel
theorem dL_law_1073 : decode code 1073 = .ok (.iload_n 3, 1) := by decide +kernel
theorem dL_law_1074 : decode code 1074 = .ok (.iconst 1, 1) := by decide +kernel
theorem dL_law_1075 : decode code 1075 = .ok (.iadd, 1) := by decide +kernel
theorem dL_law_1076 : decode code 1076 = .ok (.iaload, 1) := by decide +kernel
theorem dL_law_1077 : decode code 1077 = .ok (.aload_n 0, 1) := by decide +kernel
theorem dL_law_1078 : decode code 1078 = .ok (.iload_n 3, 1) := by decide +kernel
theorem dL_law_1079 : decode code 1079 = .ok (.iconst 2, 1) := by decide +kernel
theorem dL_law_1080 : decode code 1080 = .ok (.iadd, 1) := by decide +kernel
theorem dL_law_1081 : decode code 1081 = .ok (.iaload, 1) := by decide +kernel
theorem dL_law_1082 : decode code 1082 = .ok (.invokevirtual 129, 3) := by decide +kernel
theorem dL_law_1085 : decode code 1085 = .ok (.aload_n 2, 1) := by decide +kernel
theorem dL_law_1086 : decode code 1086 = .ok (.aload_n 0, 1) := by decide +kernel
theorem dL_law_1087 : decode code 1087 = .ok (.iload_n 3, 1) := by decide +kernel
theorem dL_law_1088 : decode code 1088 = .ok (.iconst 1, 1) := by decide +kernel
theorem dL_law_1089 : decode code 1089 = .ok (.iadd, 1) := by decide +kernel
theorem dL_law_1090 : decode code 1090 = .ok (.iaload, 1) := by decide +kernel
theorem dL_law_1091 : decode code 1091 = .ok (.aload_n 0, 1) := by decide +kernel
theorem dL_law_1092 : decode code 1092 = .ok (.iload_n 3, 1) := by decide +kernel
theorem dL_law_1093 : decode code 1093 = .ok (.iconst 2, 1) := by decide +kernel
theorem dL_law_1094 : decode code 1094 = .ok (.iadd, 1) := by decide +kernel
theorem dL_law_1095 : decode code 1095 = .ok (.iaload, 1) := by decide +kernel
theorem dL_law_1096 : decode code 1096 = .ok (.invokevirtual 132, 3) := by decide +kernel
theorem dL_law_1099 : decode code 1099 = .ok (.if_icmp .eq 310, 3) := by decide +kernel
theorem dL_law_1102 : decode code 1102 = .ok (.iconst 0, 1) := by decide +kernel
theorem dL_law_1103 : decode code 1103 = .ok (.ireturn, 1) := by decide +kernel
theorem dL_law_1104 : decode code 1104 = .ok (.aload_n 1, 1) := by decide +kernel
theorem dL_law_1105 : decode code 1105 = .ok (.aload_n 0, 1) := by decide +kernel
theorem dL_law_1106 : decode code 1106 = .ok (.iload_n 3, 1) := by decide +kernel
theorem dL_law_1107 : decode code 1107 = .ok (.iconst 1, 1) := by decide +kernel
