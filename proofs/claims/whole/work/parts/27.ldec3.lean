theorem d_La_law_751 : decode code 751 = .ok (.aload_n 0, 1) := by decide +kernel
theorem d_La_law_752 : decode code 752 = .ok (.iload 4, 2) := by decide +kernel
theorem d_La_law_754 : decode code 754 = .ok (.iconst 2, 1) := by decide +kernel
theorem d_La_law_755 : decode code 755 = .ok (.iadd, 1) := by decide +kernel
theorem d_La_law_756 : decode code 756 = .ok (.iaload, 1) := by decide +kernel
theorem d_La_law_757 : decode code 757 = .ok (.ifCond .eq 7, 3) := by decide +kernel
theorem d_La_law_760 : decode code 760 = .ok (.iconst 1, 1) := by decide +kernel
theorem d_La_law_761 : decode code 761 = .ok (.goto 4, 3) := by decide +kernel
theorem d_La_law_764 : decode code 764 = .ok (.iconst 0, 1) := by decide +kernel
theorem d_La_law_765 : decode code 765 = .ok (.aload_n 3, 1) := by decide +kernel
theorem d_La_law_766 : decode code 766 = .ok (.invokestatic 114, 3) := by decide +kernel
theorem d_La_law_769 : decode code 769 = .ok (.istore 5, 2) := by decide +kernel
theorem d_La_law_771 : decode code 771 = .ok (.aload_n 2, 1) := by decide +kernel
theorem d_La_law_772 : decode code 772 = .ok (.aload_n 0, 1) := by decide +kernel
theorem d_La_law_773 : decode code 773 = .ok (.iload 4, 2) := by decide +kernel
theorem d_La_law_775 : decode code 775 = .ok (.iconst 1, 1) := by decide +kernel
theorem d_La_law_776 : decode code 776 = .ok (.iadd, 1) := by decide +kernel
theorem d_La_law_777 : decode code 777 = .ok (.iaload, 1) := by decide +kernel
theorem d_La_law_778 : decode code 778 = .ok (.aload_n 0, 1) := by decide +kernel
theorem d_La_law_779 : decode code 779 = .ok (.iload 4, 2) := by decide +kernel
theorem d_La_law_781 : decode code 781 = .ok (.iconst 2, 1) := by decide +kernel
theorem d_La_law_782 : decode code 782 = .ok (.iadd, 1) := by decide +kernel
theorem d_La_law_783 : decode code 783 = .ok (.iaload, 1) := by decide +kernel
theorem d_La_law_784 : decode code 784 = .ok (.ifCond .eq 7, 3) := by decide +kernel
theorem d_La_law_787 : decode code 787 = .ok (.iconst 1, 1) := by decide +kernel
theorem d_La_law_788 : decode code 788 = .ok (.goto 4, 3) := by decide +kernel
theorem d_La_law_791 : decode code 791 = .ok (.iconst 0, 1) := by decide +kernel
theorem d_La_law_792 : decode code 792 = .ok (.invokevirtual 117, 3) := by decide +kernel
theorem d_La_law_795 : decode code 795 = .ok (.istore 6, 2) := by decide +kernel
theorem d_La_law_797 : decode code 797 = .ok (.aload_n 2, 1) := by decide +kernel
theorem d_La_law_798 : decode code 798 = .ok (.invokevirtual 83, 3) := by decide +kernel
theorem d_La_law_801 : decode code 801 = .ok (.iload 5, 2) := by decide +kernel
theorem d_La_law_803 : decode code 803 = .ok (.if_icmp .eq 5, 3) := by decide +kernel
theorem d_La_law_806 : decode code 806 = .ok (.iconst 0, 1) := by decide +kernel
theorem d_La_law_807 : decode code 807 = .ok (.ireturn, 1) := by decide +kernel
theorem d_La_law_808 : decode code 808 = .ok (.iload 5, 2) := by decide +kernel
theorem d_La_law_810 : decode code 810 = .ok (.ifCond .ne 22, 3) := by decide +kernel
theorem d_La_law_813 : decode code 813 = .ok (.aload_n 3, 1) := by decide +kernel
theorem d_La_law_814 : decode code 814 = .ok (.iconst 0, 1) := by decide +kernel
theorem d_La_law_815 : decode code 815 = .ok (.laload, 1) := by decide +kernel
theorem d_La_law_816 : decode code 816 = .ok (.iload 6, 2) := by decide +kernel
theorem d_La_law_818 : decode code 818 = .ok (.ifCond .eq 7, 3) := by decide +kernel
theorem d_La_law_821 : decode code 821 = .ok (.lconst 1, 1) := by decide +kernel
theorem d_La_law_822 : decode code 822 = .ok (.goto 4, 3) := by decide +kernel
theorem d_La_law_825 : decode code 825 = .ok (.lconst 0, 1) := by decide +kernel
theorem d_La_law_826 : decode code 826 = .ok (.lcmp, 1) := by decide +kernel
theorem d_La_law_827 : decode code 827 = .ok (.ifCond .eq 5, 3) := by decide +kernel
theorem d_La_law_830 : decode code 830 = .ok (.iconst 0, 1) := by decide +kernel
theorem d_La_law_831 : decode code 831 = .ok (.ireturn, 1) := by decide +kernel
theorem d_La_law_832 : decode code 832 = .ok (.goto 624, 3) := by decide +kernel
theorem d_La_law_835 : decode code 835 = .ok (.aload_n 1, 1) := by decide +kernel
theorem d_La_law_836 : decode code 836 = .ok (.aload_n 0, 1) := by decide +kernel
theorem d_La_law_837 : decode code 837 = .ok (.iload 4, 2) := by decide +kernel
theorem d_La_law_839 : decode code 839 = .ok (.iconst 1, 1) := by decide +kernel
theorem d_La_law_840 : decode code 840 = .ok (.iadd, 1) := by decide +kernel
theorem d_La_law_841 : decode code 841 = .ok (.iaload, 1) := by decide +kernel
theorem d_La_law_842 : decode code 842 = .ok (.aload_n 0, 1) := by decide +kernel
theorem d_La_law_843 : decode code 843 = .ok (.iload 4, 2) := by decide +kernel
theorem d_La_law_845 : decode code 845 = .ok (.iconst 2, 1) := by decide +kernel
theorem d_La_law_846 : decode code 846 = .ok (.iadd, 1) := by decide +kernel
theorem d_La_law_847 : decode code 847 = .ok (.iaload, 1) := by decide +kernel
theorem d_La_law_848 : decode code 848 = .ok (.ifCond .eq 7, 3) := by decide +kernel
theorem d_La_law_851 : decode code 851 = .ok (.iconst 1, 1) := by decide +kernel
theorem d_La_law_852 : decode code 852 = .ok (.goto 4, 3) := by decide +kernel
theorem d_La_law_855 : decode code 855 = .ok (.iconst 0, 1) := by decide +kernel
theorem d_La_law_856 : decode code 856 = .ok (.aload_n 3, 1) := by decide +kernel
theorem d_La_law_857 : decode code 857 = .ok (.invokestatic 118, 3) := by decide +kernel
theorem d_La_law_860 : decode code 860 = .ok (.istore 5, 2) := by decide +kernel
theorem d_La_law_862 : decode code 862 = .ok (.aload_n 2, 1) := by decide +kernel
theorem d_La_law_863 : decode code 863 = .ok (.aload_n 0, 1) := by decide +kernel
theorem d_La_law_864 : decode code 864 = .ok (.iload 4, 2) := by decide +kernel
theorem d_La_law_866 : decode code 866 = .ok (.iconst 1, 1) := by decide +kernel
theorem d_La_law_867 : decode code 867 = .ok (.iadd, 1) := by decide +kernel
theorem d_La_law_868 : decode code 868 = .ok (.iaload, 1) := by decide +kernel
theorem d_La_law_869 : decode code 869 = .ok (.aload_n 0, 1) := by decide +kernel
theorem d_La_law_870 : decode code 870 = .ok (.iload 4, 2) := by decide +kernel
theorem d_La_law_872 : decode code 872 = .ok (.iconst 2, 1) := by decide +kernel
theorem d_La_law_873 : decode code 873 = .ok (.iadd, 1) := by decide +kernel
theorem d_La_law_874 : decode code 874 = .ok (.iaload, 1) := by decide +kernel
theorem d_La_law_875 : decode code 875 = .ok (.ifCond .eq 7, 3) := by decide +kernel
theorem d_La_law_878 : decode code 878 = .ok (.iconst 1, 1) := by decide +kernel
theorem d_La_law_879 : decode code 879 = .ok (.goto 4, 3) := by decide +kernel
theorem d_La_law_882 : decode code 882 = .ok (.iconst 0, 1) := by decide +kernel
theorem d_La_law_883 : decode code 883 = .ok (.invokevirtual 120, 3) := by decide +kernel
theorem d_La_law_886 : decode code 886 = .ok (.istore 6, 2) := by decide +kernel
theorem d_La_law_888 : decode code 888 = .ok (.aload_n 2, 1) := by decide +kernel
theorem d_La_law_889 : decode code 889 = .ok (.invokevirtual 83, 3) := by decide +kernel
theorem d_La_law_892 : decode code 892 = .ok (.iload 5, 2) := by decide +kernel
theorem d_La_law_894 : decode code 894 = .ok (.if_icmp .eq 5, 3) := by decide +kernel
theorem d_La_law_897 : decode code 897 = .ok (.iconst 0, 1) := by decide +kernel
theorem d_La_law_898 : decode code 898 = .ok (.ireturn, 1) := by decide +kernel
theorem d_La_law_899 : decode code 899 = .ok (.iload 5, 2) := by decide +kernel
theorem d_La_law_901 : decode code 901 = .ok (.ifCond .ne 22, 3) := by decide +kernel
theorem d_La_law_904 : decode code 904 = .ok (.aload_n 3, 1) := by decide +kernel
theorem d_La_law_905 : decode code 905 = .ok (.iconst 0, 1) := by decide +kernel
theorem d_La_law_906 : decode code 906 = .ok (.laload, 1) := by decide +kernel
theorem d_La_law_907 : decode code 907 = .ok (.iload 6, 2) := by decide +kernel
theorem d_La_law_909 : decode code 909 = .ok (.ifCond .eq 7, 3) := by decide +kernel
theorem d_La_law_912 : decode code 912 = .ok (.lconst 1, 1) := by decide +kernel
theorem d_La_law_913 : decode code 913 = .ok (.goto 4, 3) := by decide +kernel
theorem d_La_law_916 : decode code 916 = .ok (.lconst 0, 1) := by decide +kernel
theorem d_La_law_917 : decode code 917 = .ok (.lcmp, 1) := by decide +kernel
theorem d_La_law_918 : decode code 918 = .ok (.ifCond .eq 5, 3) := by decide +kernel
theorem d_La_law_921 : decode code 921 = .ok (.iconst 0, 1) := by decide +kernel
theorem d_La_law_922 : decode code 922 = .ok (.ireturn, 1) := by decide +kernel
theorem d_La_law_923 : decode code 923 = .ok (.goto 533, 3) := by decide +kernel
theorem d_La_law_926 : decode code 926 = .ok (.aload_n 1, 1) := by decide +kernel
theorem d_La_law_927 : decode code 927 = .ok (.aload_n 0, 1) := by decide +kernel
theorem d_La_law_928 : decode code 928 = .ok (.iload 4, 2) := by decide +kernel
theorem d_La_law_930 : decode code 930 = .ok (.iconst 1, 1) := by decide +kernel
theorem d_La_law_931 : decode code 931 = .ok (.iadd, 1) := by decide +kernel
theorem d_La_law_932 : decode code 932 = .ok (.iaload, 1) := by decide +kernel
theorem d_La_law_933 : decode code 933 = .ok (.aload_n 0, 1) := by decide +kernel
theorem d_La_law_934 : decode code 934 = .ok (.iload 4, 2) := by decide +kernel
theorem d_La_law_936 : decode code 936 = .ok (.iconst 2, 1) := by decide +kernel
theorem d_La_law_937 : decode code 937 = .ok (.iadd, 1) := by decide +kernel
theorem d_La_law_938 : decode code 938 = .ok (.iaload, 1) := by decide +kernel
theorem d_La_law_939 : decode code 939 = .ok (.ifCond .eq 7, 3) := by decide +kernel
theorem d_La_law_942 : decode code 942 = .ok (.iconst 1, 1) := by decide +kernel
theorem d_La_law_943 : decode code 943 = .ok (.goto 4, 3) := by decide +kernel
theorem d_La_law_946 : decode code 946 = .ok (.iconst 0, 1) := by decide +kernel
theorem d_La_law_947 : decode code 947 = .ok (.invokestatic 121, 3) := by decide +kernel
theorem d_La_law_950 : decode code 950 = .ok (.istore 5, 2) := by decide +kernel
theorem d_La_law_952 : decode code 952 = .ok (.aload_n 2, 1) := by decide +kernel
theorem d_La_law_953 : decode code 953 = .ok (.aload_n 0, 1) := by decide +kernel
theorem d_La_law_954 : decode code 954 = .ok (.iload 4, 2) := by decide +kernel
theorem d_La_law_956 : decode code 956 = .ok (.iconst 1, 1) := by decide +kernel
theorem d_La_law_957 : decode code 957 = .ok (.iadd, 1) := by decide +kernel
theorem d_La_law_958 : decode code 958 = .ok (.iaload, 1) := by decide +kernel
theorem d_La_law_959 : decode code 959 = .ok (.aload_n 0, 1) := by decide +kernel
theorem d_La_law_960 : decode code 960 = .ok (.iload 4, 2) := by decide +kernel
theorem d_La_law_962 : decode code 962 = .ok (.iconst 2, 1) := by decide +kernel
theorem d_La_law_963 : decode code 963 = .ok (.iadd, 1) := by decide +kernel
theorem d_La_law_964 : decode code 964 = .ok (.iaload, 1) := by decide +kernel
theorem d_La_law_965 : decode code 965 = .ok (.ifCond .eq 7, 3) := by decide +kernel
theorem d_La_law_968 : decode code 968 = .ok (.iconst 1, 1) := by decide +kernel
theorem d_La_law_969 : decode code 969 = .ok (.goto 4, 3) := by decide +kernel
theorem d_La_law_972 : decode code 972 = .ok (.iconst 0, 1) := by decide +kernel
theorem d_La_law_973 : decode code 973 = .ok (.invokevirtual 124, 3) := by decide +kernel
theorem d_La_law_976 : decode code 976 = .ok (.aload_n 2, 1) := by decide +kernel
theorem d_La_law_977 : decode code 977 = .ok (.invokevirtual 83, 3) := by decide +kernel
theorem d_La_law_980 : decode code 980 = .ok (.iload 5, 2) := by decide +kernel
theorem d_La_law_982 : decode code 982 = .ok (.if_icmp .eq 5, 3) := by decide +kernel
theorem d_La_law_985 : decode code 985 = .ok (.iconst 0, 1) := by decide +kernel
theorem d_La_law_986 : decode code 986 = .ok (.ireturn, 1) := by decide +kernel
theorem d_La_law_987 : decode code 987 = .ok (.goto 469, 3) := by decide +kernel
theorem d_La_law_990 : decode code 990 = .ok (.aload_n 1, 1) := by decide +kernel
theorem d_La_law_991 : decode code 991 = .ok (.aload_n 0, 1) := by decide +kernel
theorem d_La_law_992 : decode code 992 = .ok (.iload 4, 2) := by decide +kernel
theorem d_La_law_994 : decode code 994 = .ok (.iconst 1, 1) := by decide +kernel
theorem d_La_law_995 : decode code 995 = .ok (.iadd, 1) := by decide +kernel
theorem d_La_law_996 : decode code 996 = .ok (.iaload, 1) := by decide +kernel
theorem d_La_law_997 : decode code 997 = .ok (.aload_n 3, 1) := by decide +kernel
theorem d_La_law_998 : decode code 998 = .ok (.invokestatic 125, 3) := by decide +kernel
theorem d_La_law_1001 : decode code 1001 = .ok (.istore 5, 2) := by decide +kernel
theorem d_La_law_1003 : decode code 1003 = .ok (.aload_n 2, 1) := by decide +kernel
theorem d_La_law_1004 : decode code 1004 = .ok (.aload_n 0, 1) := by decide +kernel
theorem d_La_law_1005 : decode code 1005 = .ok (.iload 4, 2) := by decide +kernel
theorem d_La_law_1007 : decode code 1007 = .ok (.iconst 1, 1) := by decide +kernel
theorem d_La_law_1008 : decode code 1008 = .ok (.iadd, 1) := by decide +kernel
theorem d_La_law_1009 : decode code 1009 = .ok (.iaload, 1) := by decide +kernel
theorem d_La_law_1010 : decode code 1010 = .ok (.invokevirtual 128, 3) := by decide +kernel
theorem d_La_law_1013 : decode code 1013 = .ok (.istore 6, 2) := by decide +kernel
theorem d_La_law_1015 : decode code 1015 = .ok (.aload_n 2, 1) := by decide +kernel
theorem d_La_law_1016 : decode code 1016 = .ok (.invokevirtual 83, 3) := by decide +kernel
theorem d_La_law_1019 : decode code 1019 = .ok (.iload 5, 2) := by decide +kernel
theorem d_La_law_1021 : decode code 1021 = .ok (.if_icmp .eq 5, 3) := by decide +kernel
theorem d_La_law_1024 : decode code 1024 = .ok (.iconst 0, 1) := by decide +kernel
theorem d_La_law_1025 : decode code 1025 = .ok (.ireturn, 1) := by decide +kernel
theorem d_La_law_1026 : decode code 1026 = .ok (.iload 5, 2) := by decide +kernel
theorem d_La_law_1028 : decode code 1028 = .ok (.ifCond .ne 15, 3) := by decide +kernel
theorem d_La_law_1031 : decode code 1031 = .ok (.aload_n 3, 1) := by decide +kernel
theorem d_La_law_1032 : decode code 1032 = .ok (.iconst 0, 1) := by decide +kernel
theorem d_La_law_1033 : decode code 1033 = .ok (.laload, 1) := by decide +kernel
theorem d_La_law_1034 : decode code 1034 = .ok (.iload 6, 2) := by decide +kernel
theorem d_La_law_1036 : decode code 1036 = .ok (.i2l, 1) := by decide +kernel
theorem d_La_law_1037 : decode code 1037 = .ok (.lcmp, 1) := by decide +kernel
theorem d_La_law_1038 : decode code 1038 = .ok (.ifCond .eq 5, 3) := by decide +kernel
theorem d_La_law_1041 : decode code 1041 = .ok (.iconst 0, 1) := by decide +kernel
theorem d_La_law_1042 : decode code 1042 = .ok (.ireturn, 1) := by decide +kernel
theorem d_La_law_1043 : decode code 1043 = .ok (.goto 413, 3) := by decide +kernel
theorem d_La_law_1046 : decode code 1046 = .ok (.aload_n 1, 1) := by decide +kernel
theorem d_La_law_1047 : decode code 1047 = .ok (.invokevirtual 129, 3) := by decide +kernel
theorem d_La_law_1050 : decode code 1050 = .ok (.aload_n 2, 1) := by decide +kernel
theorem d_La_law_1051 : decode code 1051 = .ok (.invokevirtual 132, 3) := by decide +kernel
theorem d_La_law_1054 : decode code 1054 = .ok (.if_icmp .eq 402, 3) := by decide +kernel
theorem d_La_law_1057 : decode code 1057 = .ok (.iconst 0, 1) := by decide +kernel
theorem d_La_law_1058 : decode code 1058 = .ok (.ireturn, 1) := by decide +kernel
theorem d_La_law_1059 : decode code 1059 = .ok (.aload_n 1, 1) := by decide +kernel
theorem d_La_law_1060 : decode code 1060 = .ok (.aload_n 0, 1) := by decide +kernel
theorem d_La_law_1061 : decode code 1061 = .ok (.iload 4, 2) := by decide +kernel
theorem d_La_law_1063 : decode code 1063 = .ok (.iconst 1, 1) := by decide +kernel
theorem d_La_law_1064 : decode code 1064 = .ok (.iadd, 1) := by decide +kernel
theorem d_La_law_1065 : decode code 1065 = .ok (.iaload, 1) := by decide +kernel
theorem d_La_law_1066 : decode code 1066 = .ok (.aload_n 0, 1) := by decide +kernel
theorem d_La_law_1067 : decode code 1067 = .ok (.iload 4, 2) := by decide +kernel
theorem d_La_law_1069 : decode code 1069 = .ok (.iconst 2, 1) := by decide +kernel
theorem d_La_law_1070 : decode code 1070 = .ok (.iadd, 1) := by decide +kernel
theorem d_La_law_1071 : decode code 1071 = .ok (.iaload, 1) := by decide +kernel
theorem d_La_law_1072 : decode code 1072 = .ok (.aload_n 3, 1) := by decide +kernel
theorem d_La_law_1073 : decode code 1073 = .ok (.invokestatic 133, 3) := by decide +kernel
theorem d_La_law_1076 : decode code 1076 = .ok (.istore 5, 2) := by decide +kernel
theorem d_La_law_1078 : decode code 1078 = .ok (.aload_n 2, 1) := by decide +kernel
theorem d_La_law_1079 : decode code 1079 = .ok (.aload_n 0, 1) := by decide +kernel
theorem d_La_law_1080 : decode code 1080 = .ok (.iload 4, 2) := by decide +kernel
theorem d_La_law_1082 : decode code 1082 = .ok (.iconst 1, 1) := by decide +kernel
theorem d_La_law_1083 : decode code 1083 = .ok (.iadd, 1) := by decide +kernel
theorem d_La_law_1084 : decode code 1084 = .ok (.iaload, 1) := by decide +kernel
theorem d_La_law_1085 : decode code 1085 = .ok (.aload_n 0, 1) := by decide +kernel
theorem d_La_law_1086 : decode code 1086 = .ok (.iload 4, 2) := by decide +kernel
theorem d_La_law_1088 : decode code 1088 = .ok (.iconst 2, 1) := by decide +kernel
theorem d_La_law_1089 : decode code 1089 = .ok (.iadd, 1) := by decide +kernel
theorem d_La_law_1090 : decode code 1090 = .ok (.iaload, 1) := by decide +kernel
theorem d_La_law_1091 : decode code 1091 = .ok (.invokevirtual 135, 3) := by decide +kernel
theorem d_La_law_1094 : decode code 1094 = .ok (.istore 6, 2) := by decide +kernel
theorem d_La_law_1096 : decode code 1096 = .ok (.aload_n 2, 1) := by decide +kernel
theorem d_La_law_1097 : decode code 1097 = .ok (.invokevirtual 83, 3) := by decide +kernel
theorem d_La_law_1100 : decode code 1100 = .ok (.iload 5, 2) := by decide +kernel
theorem d_La_law_1102 : decode code 1102 = .ok (.if_icmp .eq 5, 3) := by decide +kernel
theorem d_La_law_1105 : decode code 1105 = .ok (.iconst 0, 1) := by decide +kernel
theorem d_La_law_1106 : decode code 1106 = .ok (.ireturn, 1) := by decide +kernel
theorem d_La_law_1107 : decode code 1107 = .ok (.iload 5, 2) := by decide +kernel
theorem d_La_law_1109 : decode code 1109 = .ok (.ifCond .ne 15, 3) := by decide +kernel
