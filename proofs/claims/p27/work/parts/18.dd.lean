/-! ===== the law's own steps, 4 ===== -/
theorem dL_acts_719 : decode cL_acts 719 = .ok (.istore 18, 2) := by decide +kernel
theorem dL_acts_721 : decode cL_acts 721 = .ok (.aload_n 1, 1) := by decide +kernel
theorem dL_acts_722 : decode cL_acts 722 = .ok (.iload 7, 2) := by decide +kernel
theorem dL_acts_724 : decode cL_acts 724 = .ok (.iaload, 1) := by decide +kernel
theorem dL_acts_725 : decode cL_acts 725 = .ok (.ifCond .eq 8, 3) := by decide +kernel
theorem dL_acts_728 : decode cL_acts 728 = .ok (.iload 11, 2) := by decide +kernel
theorem dL_acts_730 : decode cL_acts 730 = .ok (.ifCond .eq 40, 3) := by decide +kernel
theorem dL_acts_733 : decode cL_acts 733 = .ok (.aload_n 0, 1) := by decide +kernel
theorem dL_acts_734 : decode cL_acts 734 = .ok (.iload 7, 2) := by decide +kernel
theorem dL_acts_736 : decode cL_acts 736 = .ok (.iload 9, 2) := by decide +kernel
theorem dL_acts_738 : decode cL_acts 738 = .ok (.iload 8, 2) := by decide +kernel
theorem dL_acts_740 : decode cL_acts 740 = .ok (.iconst 3, 1) := by decide +kernel
theorem dL_acts_741 : decode cL_acts 741 = .ok (.irem, 1) := by decide +kernel
theorem dL_acts_742 : decode cL_acts 742 = .ok (.iload 18, 2) := by decide +kernel
theorem dL_acts_744 : decode cL_acts 744 = .ok (.invokestatic 68, 3) := by decide +kernel
theorem dL_acts_747 : decode cL_acts 747 = .ok (.aload_n 1, 1) := by decide +kernel
theorem dL_acts_748 : decode cL_acts 748 = .ok (.iload 7, 2) := by decide +kernel
theorem dL_acts_750 : decode cL_acts 750 = .ok (.iaload, 1) := by decide +kernel
theorem dL_acts_751 : decode cL_acts 751 = .ok (.ifCond .ne 8, 3) := by decide +kernel
theorem dL_acts_754 : decode cL_acts 754 = .ok (.ldc 55, 2) := by decide +kernel
theorem dL_acts_756 : decode cL_acts 756 = .ok (.goto 5, 3) := by decide +kernel
theorem dL_acts_759 : decode cL_acts 759 = .ok (.ldc 47, 2) := by decide +kernel
theorem dL_acts_761 : decode cL_acts 761 = .ok (.if_icmp .ne 7, 3) := by decide +kernel
theorem dL_acts_764 : decode cL_acts 764 = .ok (.iconst 1, 1) := by decide +kernel
theorem dL_acts_765 : decode cL_acts 765 = .ok (.goto 4, 3) := by decide +kernel
theorem dL_acts_768 : decode cL_acts 768 = .ok (.iconst 0, 1) := by decide +kernel
theorem dL_acts_769 : decode cL_acts 769 = .ok (.ireturn, 1) := by decide +kernel
theorem dL_acts_770 : decode cL_acts 770 = .ok (.aload_n 1, 1) := by decide +kernel
theorem dL_acts_771 : decode cL_acts 771 = .ok (.aload_n 2, 1) := by decide +kernel
theorem dL_acts_772 : decode cL_acts 772 = .ok (.aload_n 3, 1) := by decide +kernel
theorem dL_acts_773 : decode cL_acts 773 = .ok (.aload 4, 2) := by decide +kernel
theorem dL_acts_775 : decode cL_acts 775 = .ok (.aload 5, 2) := by decide +kernel
theorem dL_acts_777 : decode cL_acts 777 = .ok (.iload 7, 2) := by decide +kernel
theorem dL_acts_779 : decode cL_acts 779 = .ok (.iload 9, 2) := by decide +kernel
theorem dL_acts_781 : decode cL_acts 781 = .ok (.invokestatic 19, 3) := by decide +kernel
theorem dL_acts_784 : decode cL_acts 784 = .ok (.istore 19, 2) := by decide +kernel
theorem dL_acts_786 : decode cL_acts 786 = .ok (.aload 4, 2) := by decide +kernel
theorem dL_acts_788 : decode cL_acts 788 = .ok (.iload 10, 2) := by decide +kernel
theorem dL_acts_790 : decode cL_acts 790 = .ok (.aload 4, 2) := by decide +kernel
theorem dL_acts_792 : decode cL_acts 792 = .ok (.iload 10, 2) := by decide +kernel
theorem dL_acts_794 : decode cL_acts 794 = .ok (.iaload, 1) := by decide +kernel
theorem dL_acts_795 : decode cL_acts 795 = .ok (.bipush 100, 2) := by decide +kernel
theorem dL_acts_797 : decode cL_acts 797 = .ok (.idiv, 1) := by decide +kernel
theorem dL_acts_798 : decode cL_acts 798 = .ok (.bipush 100, 2) := by decide +kernel
theorem dL_acts_800 : decode cL_acts 800 = .ok (.imul, 1) := by decide +kernel
theorem dL_acts_801 : decode cL_acts 801 = .ok (.bipush 10, 2) := by decide +kernel
theorem dL_acts_803 : decode cL_acts 803 = .ok (.iload 8, 2) := by decide +kernel
theorem dL_acts_805 : decode cL_acts 805 = .ok (.iconst 3, 1) := by decide +kernel
theorem dL_acts_806 : decode cL_acts 806 = .ok (.irem, 1) := by decide +kernel
theorem dL_acts_807 : decode cL_acts 807 = .ok (.imul, 1) := by decide +kernel
theorem dL_acts_808 : decode cL_acts 808 = .ok (.iadd, 1) := by decide +kernel
theorem dL_acts_809 : decode cL_acts 809 = .ok (.iastore, 1) := by decide +kernel
theorem dL_acts_810 : decode cL_acts 810 = .ok (.aload 5, 2) := by decide +kernel
theorem dL_acts_812 : decode cL_acts 812 = .ok (.iload 10, 2) := by decide +kernel
theorem dL_acts_814 : decode cL_acts 814 = .ok (.iload 18, 2) := by decide +kernel
theorem dL_acts_816 : decode cL_acts 816 = .ok (.iastore, 1) := by decide +kernel
theorem dL_acts_817 : decode cL_acts 817 = .ok (.aload_n 0, 1) := by decide +kernel
theorem dL_acts_818 : decode cL_acts 818 = .ok (.iload 7, 2) := by decide +kernel
theorem dL_acts_820 : decode cL_acts 820 = .ok (.iload 9, 2) := by decide +kernel
theorem dL_acts_822 : decode cL_acts 822 = .ok (.iload 8, 2) := by decide +kernel
theorem dL_acts_824 : decode cL_acts 824 = .ok (.iconst 3, 1) := by decide +kernel
theorem dL_acts_825 : decode cL_acts 825 = .ok (.irem, 1) := by decide +kernel
theorem dL_acts_826 : decode cL_acts 826 = .ok (.iload 18, 2) := by decide +kernel
theorem dL_acts_828 : decode cL_acts 828 = .ok (.invokestatic 68, 3) := by decide +kernel
theorem dL_acts_831 : decode cL_acts 831 = .ok (.iload 19, 2) := by decide +kernel
theorem dL_acts_833 : decode cL_acts 833 = .ok (.if_icmp .ne 7, 3) := by decide +kernel
theorem dL_acts_836 : decode cL_acts 836 = .ok (.iconst 1, 1) := by decide +kernel
theorem dL_acts_837 : decode cL_acts 837 = .ok (.goto 4, 3) := by decide +kernel
theorem dL_acts_840 : decode cL_acts 840 = .ok (.iconst 0, 1) := by decide +kernel
theorem dL_acts_841 : decode cL_acts 841 = .ok (.ireturn, 1) := by decide +kernel
theorem dL_acts_842 : decode cL_acts 842 = .ok (.aload_n 1, 1) := by decide +kernel
theorem dL_acts_843 : decode cL_acts 843 = .ok (.iload 7, 2) := by decide +kernel
theorem dL_acts_845 : decode cL_acts 845 = .ok (.iaload, 1) := by decide +kernel
theorem dL_acts_846 : decode cL_acts 846 = .ok (.ifCond .ne 22, 3) := by decide +kernel
theorem dL_acts_849 : decode cL_acts 849 = .ok (.aload_n 0, 1) := by decide +kernel
theorem dL_acts_850 : decode cL_acts 850 = .ok (.iload 7, 2) := by decide +kernel
theorem dL_acts_852 : decode cL_acts 852 = .ok (.iconst 0, 1) := by decide +kernel
theorem dL_acts_853 : decode cL_acts 853 = .ok (.iconst 1, 1) := by decide +kernel
theorem dL_acts_854 : decode cL_acts 854 = .ok (.invokestatic 71, 3) := by decide +kernel
theorem dL_acts_857 : decode cL_acts 857 = .ok (.ldc 55, 2) := by decide +kernel
theorem dL_acts_859 : decode cL_acts 859 = .ok (.if_icmp .ne 7, 3) := by decide +kernel
theorem dL_acts_862 : decode cL_acts 862 = .ok (.iconst 1, 1) := by decide +kernel
theorem dL_acts_863 : decode cL_acts 863 = .ok (.goto 4, 3) := by decide +kernel
theorem dL_acts_866 : decode cL_acts 866 = .ok (.iconst 0, 1) := by decide +kernel
theorem dL_acts_867 : decode cL_acts 867 = .ok (.ireturn, 1) := by decide +kernel
theorem dL_acts_868 : decode cL_acts 868 = .ok (.aload 4, 2) := by decide +kernel
theorem dL_acts_870 : decode cL_acts 870 = .ok (.iload 10, 2) := by decide +kernel
theorem dL_acts_872 : decode cL_acts 872 = .ok (.iaload, 1) := by decide +kernel
theorem dL_acts_873 : decode cL_acts 873 = .ok (.bipush 10, 2) := by decide +kernel
theorem dL_acts_875 : decode cL_acts 875 = .ok (.irem, 1) := by decide +kernel
theorem dL_acts_876 : decode cL_acts 876 = .ok (.istore 20, 2) := by decide +kernel
theorem dL_acts_878 : decode cL_acts 878 = .ok (.aload 4, 2) := by decide +kernel
theorem dL_acts_880 : decode cL_acts 880 = .ok (.iload 10, 2) := by decide +kernel
theorem dL_acts_882 : decode cL_acts 882 = .ok (.dup2, 1) := by decide +kernel
theorem dL_acts_883 : decode cL_acts 883 = .ok (.iaload, 1) := by decide +kernel
theorem dL_acts_884 : decode cL_acts 884 = .ok (.iload 8, 2) := by decide +kernel
theorem dL_acts_886 : decode cL_acts 886 = .ok (.iconst 4, 1) := by decide +kernel
theorem dL_acts_887 : decode cL_acts 887 = .ok (.irem, 1) := by decide +kernel
theorem dL_acts_888 : decode cL_acts 888 = .ok (.ifCond .ne 7, 3) := by decide +kernel
theorem dL_acts_891 : decode cL_acts 891 = .ok (.iconst 1, 1) := by decide +kernel
theorem dL_acts_892 : decode cL_acts 892 = .ok (.goto 4, 3) := by decide +kernel
theorem dL_acts_895 : decode cL_acts 895 = .ok (.iconst 0, 1) := by decide +kernel
theorem dL_acts_896 : decode cL_acts 896 = .ok (.iload 20, 2) := by decide +kernel
theorem dL_acts_898 : decode cL_acts 898 = .ok (.isub, 1) := by decide +kernel
theorem dL_acts_899 : decode cL_acts 899 = .ok (.iadd, 1) := by decide +kernel
theorem dL_acts_900 : decode cL_acts 900 = .ok (.iastore, 1) := by decide +kernel
theorem dL_acts_901 : decode cL_acts 901 = .ok (.aload_n 0, 1) := by decide +kernel
theorem dL_acts_902 : decode cL_acts 902 = .ok (.iload 7, 2) := by decide +kernel
theorem dL_acts_904 : decode cL_acts 904 = .ok (.iload 9, 2) := by decide +kernel
theorem dL_acts_906 : decode cL_acts 906 = .ok (.iload 8, 2) := by decide +kernel
theorem dL_acts_908 : decode cL_acts 908 = .ok (.iconst 4, 1) := by decide +kernel
theorem dL_acts_909 : decode cL_acts 909 = .ok (.irem, 1) := by decide +kernel
theorem dL_acts_910 : decode cL_acts 910 = .ok (.ifCond .ne 7, 3) := by decide +kernel
theorem dL_acts_913 : decode cL_acts 913 = .ok (.iconst 1, 1) := by decide +kernel
theorem dL_acts_914 : decode cL_acts 914 = .ok (.goto 4, 3) := by decide +kernel
theorem dL_acts_917 : decode cL_acts 917 = .ok (.iconst 0, 1) := by decide +kernel
theorem dL_acts_918 : decode cL_acts 918 = .ok (.invokestatic 71, 3) := by decide +kernel
theorem dL_acts_921 : decode cL_acts 921 = .ok (.iload 20, 2) := by decide +kernel
theorem dL_acts_923 : decode cL_acts 923 = .ok (.if_icmp .ne 7, 3) := by decide +kernel
theorem dL_acts_926 : decode cL_acts 926 = .ok (.iconst 1, 1) := by decide +kernel
theorem dL_acts_927 : decode cL_acts 927 = .ok (.goto 4, 3) := by decide +kernel
theorem dL_acts_930 : decode cL_acts 930 = .ok (.iconst 0, 1) := by decide +kernel
theorem dL_acts_931 : decode cL_acts 931 = .ok (.ireturn, 1) := by decide +kernel
theorem dL_acts_932 : decode cL_acts 932 = .ok (.iload 8, 2) := by decide +kernel
theorem dL_acts_934 : decode cL_acts 934 = .ok (.sipush 700, 3) := by decide +kernel
theorem dL_acts_937 : decode cL_acts 937 = .ok (.irem, 1) := by decide +kernel
theorem dL_acts_938 : decode cL_acts 938 = .ok (.istore 21, 2) := by decide +kernel
theorem dL_acts_940 : decode cL_acts 940 = .ok (.iload 21, 2) := by decide +kernel
theorem dL_acts_942 : decode cL_acts 942 = .ok (.iconst 1, 1) := by decide +kernel
theorem dL_acts_943 : decode cL_acts 943 = .ok (.iadd, 1) := by decide +kernel
theorem dL_acts_944 : decode cL_acts 944 = .ok (.iload 8, 2) := by decide +kernel
theorem dL_acts_946 : decode cL_acts 946 = .ok (.bipush 7, 2) := by decide +kernel
theorem dL_acts_948 : decode cL_acts 948 = .ok (.idiv, 1) := by decide +kernel
theorem dL_acts_949 : decode cL_acts 949 = .ok (.iload 8, 2) := by decide +kernel
theorem dL_acts_951 : decode cL_acts 951 = .ok (.iconst 3, 1) := by decide +kernel
theorem dL_acts_952 : decode cL_acts 952 = .ok (.irem, 1) := by decide +kernel
theorem dL_acts_953 : decode cL_acts 953 = .ok (.ifCond .ne 9, 3) := by decide +kernel
theorem dL_acts_956 : decode cL_acts 956 = .ok (.sipush 299, 3) := by decide +kernel
theorem dL_acts_959 : decode cL_acts 959 = .ok (.goto 5, 3) := by decide +kernel
theorem dL_acts_962 : decode cL_acts 962 = .ok (.bipush 40, 2) := by decide +kernel
theorem dL_acts_964 : decode cL_acts 964 = .ok (.irem, 1) := by decide +kernel
theorem dL_acts_965 : decode cL_acts 965 = .ok (.iadd, 1) := by decide +kernel
theorem dL_acts_966 : decode cL_acts 966 = .ok (.istore 22, 2) := by decide +kernel
theorem dL_acts_968 : decode cL_acts 968 = .ok (.bipush 10, 2) := by decide +kernel
theorem dL_acts_970 : decode cL_acts 970 = .ok (.iload 8, 2) := by decide +kernel
theorem dL_acts_972 : decode cL_acts 972 = .ok (.bipush 11, 2) := by decide +kernel
theorem dL_acts_974 : decode cL_acts 974 = .ok (.idiv, 1) := by decide +kernel
theorem dL_acts_975 : decode cL_acts 975 = .ok (.iload 8, 2) := by decide +kernel
theorem dL_acts_977 : decode cL_acts 977 = .ok (.iconst 2, 1) := by decide +kernel
theorem dL_acts_978 : decode cL_acts 978 = .ok (.irem, 1) := by decide +kernel
theorem dL_acts_979 : decode cL_acts 979 = .ok (.ifCond .ne 9, 3) := by decide +kernel
theorem dL_acts_982 : decode cL_acts 982 = .ok (.sipush 491, 3) := by decide +kernel
theorem dL_acts_985 : decode cL_acts 985 = .ok (.goto 5, 3) := by decide +kernel
theorem dL_acts_988 : decode cL_acts 988 = .ok (.bipush 110, 2) := by decide +kernel
theorem dL_acts_990 : decode cL_acts 990 = .ok (.irem, 1) := by decide +kernel
theorem dL_acts_991 : decode cL_acts 991 = .ok (.iadd, 1) := by decide +kernel
theorem dL_acts_992 : decode cL_acts 992 = .ok (.istore 23, 2) := by decide +kernel
theorem dL_acts_994 : decode cL_acts 994 = .ok (.aload_n 1, 1) := by decide +kernel
theorem dL_acts_995 : decode cL_acts 995 = .ok (.aload_n 2, 1) := by decide +kernel
theorem dL_acts_996 : decode cL_acts 996 = .ok (.aload 4, 2) := by decide +kernel
theorem dL_acts_998 : decode cL_acts 998 = .ok (.iload 7, 2) := by decide +kernel
theorem dL_acts_1000 : decode cL_acts 1000 = .ok (.iload 21, 2) := by decide +kernel
theorem dL_acts_1002 : decode cL_acts 1002 = .ok (.iload 22, 2) := by decide +kernel
theorem dL_acts_1004 : decode cL_acts 1004 = .ok (.iload 23, 2) := by decide +kernel
theorem dL_acts_1006 : decode cL_acts 1006 = .ok (.invokestatic 75, 3) := by decide +kernel
theorem dL_acts_1009 : decode cL_acts 1009 = .ok (.ifCond .ne 26, 3) := by decide +kernel
theorem dL_acts_1012 : decode cL_acts 1012 = .ok (.aload_n 0, 1) := by decide +kernel
theorem dL_acts_1013 : decode cL_acts 1013 = .ok (.iload 7, 2) := by decide +kernel
theorem dL_acts_1015 : decode cL_acts 1015 = .ok (.iload 21, 2) := by decide +kernel
theorem dL_acts_1017 : decode cL_acts 1017 = .ok (.iload 22, 2) := by decide +kernel
theorem dL_acts_1019 : decode cL_acts 1019 = .ok (.iload 23, 2) := by decide +kernel
theorem dL_acts_1021 : decode cL_acts 1021 = .ok (.invokestatic 79, 3) := by decide +kernel
theorem dL_acts_1024 : decode cL_acts 1024 = .ok (.ldc 47, 2) := by decide +kernel
theorem dL_acts_1026 : decode cL_acts 1026 = .ok (.if_icmp .ne 7, 3) := by decide +kernel
theorem dL_acts_1029 : decode cL_acts 1029 = .ok (.iconst 1, 1) := by decide +kernel
theorem dL_acts_1030 : decode cL_acts 1030 = .ok (.goto 4, 3) := by decide +kernel
theorem dL_acts_1033 : decode cL_acts 1033 = .ok (.iconst 0, 1) := by decide +kernel
theorem dL_acts_1034 : decode cL_acts 1034 = .ok (.ireturn, 1) := by decide +kernel
theorem dL_acts_1035 : decode cL_acts 1035 = .ok (.iconst 0, 1) := by decide +kernel
theorem dL_acts_1036 : decode cL_acts 1036 = .ok (.istore 24, 2) := by decide +kernel
theorem dL_acts_1038 : decode cL_acts 1038 = .ok (.bipush 8, 2) := by decide +kernel
theorem dL_acts_1040 : decode cL_acts 1040 = .ok (.iload 7, 2) := by decide +kernel
theorem dL_acts_1042 : decode cL_acts 1042 = .ok (.imul, 1) := by decide +kernel
theorem dL_acts_1043 : decode cL_acts 1043 = .ok (.istore 25, 2) := by decide +kernel
theorem dL_acts_1045 : decode cL_acts 1045 = .ok (.iload 25, 2) := by decide +kernel
theorem dL_acts_1047 : decode cL_acts 1047 = .ok (.bipush 8, 2) := by decide +kernel
theorem dL_acts_1049 : decode cL_acts 1049 = .ok (.iload 7, 2) := by decide +kernel
theorem dL_acts_1051 : decode cL_acts 1051 = .ok (.imul, 1) := by decide +kernel
theorem dL_acts_1052 : decode cL_acts 1052 = .ok (.aload_n 1, 1) := by decide +kernel
theorem dL_acts_1053 : decode cL_acts 1053 = .ok (.iload 7, 2) := by decide +kernel
theorem dL_acts_1055 : decode cL_acts 1055 = .ok (.iaload, 1) := by decide +kernel
theorem dL_acts_1056 : decode cL_acts 1056 = .ok (.iadd, 1) := by decide +kernel
theorem dL_acts_1057 : decode cL_acts 1057 = .ok (.if_icmp .ge 49, 3) := by decide +kernel
theorem dL_acts_1060 : decode cL_acts 1060 = .ok (.aload_n 2, 1) := by decide +kernel
theorem dL_acts_1061 : decode cL_acts 1061 = .ok (.iload 25, 2) := by decide +kernel
theorem dL_acts_1063 : decode cL_acts 1063 = .ok (.iaload, 1) := by decide +kernel
theorem dL_acts_1064 : decode cL_acts 1064 = .ok (.iload 21, 2) := by decide +kernel
theorem dL_acts_1066 : decode cL_acts 1066 = .ok (.iload 22, 2) := by decide +kernel
theorem dL_acts_1068 : decode cL_acts 1068 = .ok (.iload 23, 2) := by decide +kernel
theorem dL_acts_1070 : decode cL_acts 1070 = .ok (.invokestatic 29, 3) := by decide +kernel
theorem dL_acts_1073 : decode cL_acts 1073 = .ok (.istore 26, 2) := by decide +kernel
theorem dL_acts_1075 : decode cL_acts 1075 = .ok (.iload 24, 2) := by decide +kernel
theorem dL_acts_1077 : decode cL_acts 1077 = .ok (.iload 26, 2) := by decide +kernel
theorem dL_acts_1079 : decode cL_acts 1079 = .ok (.aload_n 2, 1) := by decide +kernel
theorem dL_acts_1080 : decode cL_acts 1080 = .ok (.iload 25, 2) := by decide +kernel
theorem dL_acts_1082 : decode cL_acts 1082 = .ok (.iaload, 1) := by decide +kernel
theorem dL_acts_1083 : decode cL_acts 1083 = .ok (.if_icmp .ne 7, 3) := by decide +kernel
theorem dL_acts_1086 : decode cL_acts 1086 = .ok (.iconst 0, 1) := by decide +kernel
theorem dL_acts_1087 : decode cL_acts 1087 = .ok (.goto 4, 3) := by decide +kernel
theorem dL_acts_1090 : decode cL_acts 1090 = .ok (.iconst 1, 1) := by decide +kernel
theorem dL_acts_1091 : decode cL_acts 1091 = .ok (.iadd, 1) := by decide +kernel
theorem dL_acts_1092 : decode cL_acts 1092 = .ok (.istore 24, 2) := by decide +kernel
theorem dL_acts_1094 : decode cL_acts 1094 = .ok (.aload_n 2, 1) := by decide +kernel
theorem dL_acts_1095 : decode cL_acts 1095 = .ok (.iload 25, 2) := by decide +kernel
theorem dL_acts_1097 : decode cL_acts 1097 = .ok (.iload 26, 2) := by decide +kernel
theorem dL_acts_1099 : decode cL_acts 1099 = .ok (.iastore, 1) := by decide +kernel
theorem dL_acts_1100 : decode cL_acts 1100 = .ok (.iinc 25 1, 3) := by decide +kernel
theorem dL_acts_1103 : decode cL_acts 1103 = .ok (.goto (-58), 3) := by decide +kernel
theorem dL_acts_1106 : decode cL_acts 1106 = .ok (.aload_n 0, 1) := by decide +kernel
theorem dL_acts_1107 : decode cL_acts 1107 = .ok (.iload 7, 2) := by decide +kernel
theorem dL_acts_1109 : decode cL_acts 1109 = .ok (.iload 21, 2) := by decide +kernel
theorem dL_acts_1111 : decode cL_acts 1111 = .ok (.iload 22, 2) := by decide +kernel
theorem dL_acts_1113 : decode cL_acts 1113 = .ok (.iload 23, 2) := by decide +kernel
theorem dL_acts_1115 : decode cL_acts 1115 = .ok (.invokestatic 79, 3) := by decide +kernel
theorem dL_acts_1118 : decode cL_acts 1118 = .ok (.iload 24, 2) := by decide +kernel
theorem dL_acts_1120 : decode cL_acts 1120 = .ok (.if_icmp .ne 7, 3) := by decide +kernel
theorem dL_acts_1123 : decode cL_acts 1123 = .ok (.iconst 1, 1) := by decide +kernel
theorem dL_acts_1124 : decode cL_acts 1124 = .ok (.goto 4, 3) := by decide +kernel
theorem dL_acts_1127 : decode cL_acts 1127 = .ok (.iconst 0, 1) := by decide +kernel
theorem dL_acts_1128 : decode cL_acts 1128 = .ok (.ireturn, 1) := by decide +kernel
theorem dL_acts_1129 : decode cL_acts 1129 = .ok (.iload 8, 2) := by decide +kernel
theorem dL_acts_1131 : decode cL_acts 1131 = .ok (.iconst 2, 1) := by decide +kernel
theorem dL_acts_1132 : decode cL_acts 1132 = .ok (.irem, 1) := by decide +kernel
theorem dL_acts_1133 : decode cL_acts 1133 = .ok (.ifCond .ne 14, 3) := by decide +kernel
theorem dL_acts_1136 : decode cL_acts 1136 = .ok (.iload 8, 2) := by decide +kernel
theorem dL_acts_1138 : decode cL_acts 1138 = .ok (.bipush 41, 2) := by decide +kernel
theorem dL_acts_1140 : decode cL_acts 1140 = .ok (.irem, 1) := by decide +kernel
theorem dL_acts_1141 : decode cL_acts 1141 = .ok (.bipush 20, 2) := by decide +kernel
theorem dL_acts_1143 : decode cL_acts 1143 = .ok (.isub, 1) := by decide +kernel
theorem dL_acts_1144 : decode cL_acts 1144 = .ok (.goto 4, 3) := by decide +kernel
theorem dL_acts_1147 : decode cL_acts 1147 = .ok (.iconst 0, 1) := by decide +kernel
theorem dL_acts_1148 : decode cL_acts 1148 = .ok (.istore 25, 2) := by decide +kernel
theorem dL_acts_1150 : decode cL_acts 1150 = .ok (.iload 8, 2) := by decide +kernel
theorem dL_acts_1152 : decode cL_acts 1152 = .ok (.iconst 2, 1) := by decide +kernel
theorem dL_acts_1153 : decode cL_acts 1153 = .ok (.idiv, 1) := by decide +kernel
theorem dL_acts_1154 : decode cL_acts 1154 = .ok (.iconst 2, 1) := by decide +kernel
theorem dL_acts_1155 : decode cL_acts 1155 = .ok (.irem, 1) := by decide +kernel
theorem dL_acts_1156 : decode cL_acts 1156 = .ok (.istore 26, 2) := by decide +kernel
theorem dL_acts_1158 : decode cL_acts 1158 = .ok (.aload_n 1, 1) := by decide +kernel
theorem dL_acts_1159 : decode cL_acts 1159 = .ok (.aload 4, 2) := by decide +kernel
theorem dL_acts_1161 : decode cL_acts 1161 = .ok (.iload 7, 2) := by decide +kernel
theorem dL_acts_1163 : decode cL_acts 1163 = .ok (.invokestatic 82, 3) := by decide +kernel
theorem dL_acts_1166 : decode cL_acts 1166 = .ok (.ifCond .ne 7, 3) := by decide +kernel
theorem dL_acts_1169 : decode cL_acts 1169 = .ok (.iconst 1, 1) := by decide +kernel
theorem dL_acts_1170 : decode cL_acts 1170 = .ok (.goto 4, 3) := by decide +kernel
theorem dL_acts_1173 : decode cL_acts 1173 = .ok (.iconst 0, 1) := by decide +kernel
theorem dL_acts_1174 : decode cL_acts 1174 = .ok (.istore 27, 2) := by decide +kernel
theorem dL_acts_1176 : decode cL_acts 1176 = .ok (.bipush 8, 2) := by decide +kernel
theorem dL_acts_1178 : decode cL_acts 1178 = .ok (.iload 26, 2) := by decide +kernel
theorem dL_acts_1180 : decode cL_acts 1180 = .ok (.imul, 1) := by decide +kernel
theorem dL_acts_1181 : decode cL_acts 1181 = .ok (.istore 28, 2) := by decide +kernel
theorem dL_acts_1183 : decode cL_acts 1183 = .ok (.iload 28, 2) := by decide +kernel
theorem dL_acts_1185 : decode cL_acts 1185 = .ok (.bipush 8, 2) := by decide +kernel
theorem dL_acts_1187 : decode cL_acts 1187 = .ok (.iload 26, 2) := by decide +kernel
theorem dL_acts_1189 : decode cL_acts 1189 = .ok (.imul, 1) := by decide +kernel
theorem dL_acts_1190 : decode cL_acts 1190 = .ok (.aload_n 1, 1) := by decide +kernel
theorem dL_acts_1191 : decode cL_acts 1191 = .ok (.iload 26, 2) := by decide +kernel
theorem dL_acts_1193 : decode cL_acts 1193 = .ok (.iaload, 1) := by decide +kernel
theorem dL_acts_1194 : decode cL_acts 1194 = .ok (.iadd, 1) := by decide +kernel
theorem dL_acts_1195 : decode cL_acts 1195 = .ok (.if_icmp .ge 47, 3) := by decide +kernel
theorem dL_acts_1198 : decode cL_acts 1198 = .ok (.iload 27, 2) := by decide +kernel
theorem dL_acts_1200 : decode cL_acts 1200 = .ok (.ifCond .eq 33, 3) := by decide +kernel
theorem dL_acts_1203 : decode cL_acts 1203 = .ok (.aload_n 3, 1) := by decide +kernel
theorem dL_acts_1204 : decode cL_acts 1204 = .ok (.iload 28, 2) := by decide +kernel
theorem dL_acts_1206 : decode cL_acts 1206 = .ok (.iaload, 1) := by decide +kernel
theorem dL_acts_1207 : decode cL_acts 1207 = .ok (.iload 25, 2) := by decide +kernel
theorem dL_acts_1209 : decode cL_acts 1209 = .ok (.iadd, 1) := by decide +kernel
theorem dL_acts_1210 : decode cL_acts 1210 = .ok (.sipush 10000, 3) := by decide +kernel
theorem dL_acts_1213 : decode cL_acts 1213 = .ok (.if_icmp .ge 20, 3) := by decide +kernel
theorem dL_acts_1216 : decode cL_acts 1216 = .ok (.aload_n 3, 1) := by decide +kernel
theorem dL_acts_1217 : decode cL_acts 1217 = .ok (.iload 28, 2) := by decide +kernel
theorem dL_acts_1219 : decode cL_acts 1219 = .ok (.iaload, 1) := by decide +kernel
theorem dL_acts_1220 : decode cL_acts 1220 = .ok (.iload 25, 2) := by decide +kernel
theorem dL_acts_1222 : decode cL_acts 1222 = .ok (.iadd, 1) := by decide +kernel
theorem dL_acts_1223 : decode cL_acts 1223 = .ok (.sipush (-10000), 3) := by decide +kernel
theorem dL_acts_1226 : decode cL_acts 1226 = .ok (.if_icmp .le 7, 3) := by decide +kernel
theorem dL_acts_1229 : decode cL_acts 1229 = .ok (.iconst 1, 1) := by decide +kernel
theorem dL_acts_1230 : decode cL_acts 1230 = .ok (.goto 4, 3) := by decide +kernel
theorem dL_acts_1233 : decode cL_acts 1233 = .ok (.iconst 0, 1) := by decide +kernel
theorem dL_acts_1234 : decode cL_acts 1234 = .ok (.istore 27, 2) := by decide +kernel
theorem dL_acts_1236 : decode cL_acts 1236 = .ok (.iinc 28 1, 3) := by decide +kernel
theorem dL_acts_1239 : decode cL_acts 1239 = .ok (.goto (-56), 3) := by decide +kernel
theorem dL_acts_1242 : decode cL_acts 1242 = .ok (.iload 27, 2) := by decide +kernel
theorem dL_acts_1244 : decode cL_acts 1244 = .ok (.ifCond .eq 10, 3) := by decide +kernel
theorem dL_acts_1247 : decode cL_acts 1247 = .ok (.iload 8, 2) := by decide +kernel
theorem dL_acts_1249 : decode cL_acts 1249 = .ok (.iconst 3, 1) := by decide +kernel
theorem dL_acts_1250 : decode cL_acts 1250 = .ok (.irem, 1) := by decide +kernel
theorem dL_acts_1251 : decode cL_acts 1251 = .ok (.ifCond .le 51, 3) := by decide +kernel
theorem dL_acts_1254 : decode cL_acts 1254 = .ok (.iload 27, 2) := by decide +kernel
theorem dL_acts_1256 : decode cL_acts 1256 = .ok (.ifCond .eq 25, 3) := by decide +kernel
theorem dL_acts_1259 : decode cL_acts 1259 = .ok (.aload_n 0, 1) := by decide +kernel
theorem dL_acts_1260 : decode cL_acts 1260 = .ok (.iload 7, 2) := by decide +kernel
theorem dL_acts_1262 : decode cL_acts 1262 = .ok (.iconst 4, 1) := by decide +kernel
theorem dL_acts_1263 : decode cL_acts 1263 = .ok (.iload 25, 2) := by decide +kernel
theorem dL_acts_1265 : decode cL_acts 1265 = .ok (.invokestatic 86, 3) := by decide +kernel
theorem dL_acts_1268 : decode cL_acts 1268 = .ok (.ldc 55, 2) := by decide +kernel
theorem dL_acts_1270 : decode cL_acts 1270 = .ok (.if_icmp .ne 7, 3) := by decide +kernel
theorem dL_acts_1273 : decode cL_acts 1273 = .ok (.iconst 1, 1) := by decide +kernel
theorem dL_acts_1274 : decode cL_acts 1274 = .ok (.goto 27, 3) := by decide +kernel
theorem dL_acts_1277 : decode cL_acts 1277 = .ok (.iconst 0, 1) := by decide +kernel
theorem dL_acts_1278 : decode cL_acts 1278 = .ok (.goto 23, 3) := by decide +kernel
theorem dL_acts_1281 : decode cL_acts 1281 = .ok (.aload_n 0, 1) := by decide +kernel
theorem dL_acts_1282 : decode cL_acts 1282 = .ok (.iload 7, 2) := by decide +kernel
theorem dL_acts_1284 : decode cL_acts 1284 = .ok (.iload 26, 2) := by decide +kernel
theorem dL_acts_1286 : decode cL_acts 1286 = .ok (.iload 25, 2) := by decide +kernel
theorem dL_acts_1288 : decode cL_acts 1288 = .ok (.invokestatic 86, 3) := by decide +kernel
theorem dL_acts_1291 : decode cL_acts 1291 = .ok (.ldc 47, 2) := by decide +kernel
theorem dL_acts_1293 : decode cL_acts 1293 = .ok (.if_icmp .ne 7, 3) := by decide +kernel
theorem dL_acts_1296 : decode cL_acts 1296 = .ok (.iconst 1, 1) := by decide +kernel
theorem dL_acts_1297 : decode cL_acts 1297 = .ok (.goto 4, 3) := by decide +kernel
theorem dL_acts_1300 : decode cL_acts 1300 = .ok (.iconst 0, 1) := by decide +kernel
theorem dL_acts_1301 : decode cL_acts 1301 = .ok (.ireturn, 1) := by decide +kernel
theorem dL_acts_1302 : decode cL_acts 1302 = .ok (.aload_n 1, 1) := by decide +kernel
theorem dL_acts_1303 : decode cL_acts 1303 = .ok (.iload 7, 2) := by decide +kernel
theorem dL_acts_1305 : decode cL_acts 1305 = .ok (.aload_n 1, 1) := by decide +kernel
theorem dL_acts_1306 : decode cL_acts 1306 = .ok (.iload 26, 2) := by decide +kernel
theorem dL_acts_1308 : decode cL_acts 1308 = .ok (.iaload, 1) := by decide +kernel
theorem dL_acts_1309 : decode cL_acts 1309 = .ok (.iastore, 1) := by decide +kernel
theorem dL_acts_1310 : decode cL_acts 1310 = .ok (.iconst 0, 1) := by decide +kernel
theorem dL_acts_1311 : decode cL_acts 1311 = .ok (.istore 28, 2) := by decide +kernel
theorem dL_acts_1313 : decode cL_acts 1313 = .ok (.iload 28, 2) := by decide +kernel
theorem dL_acts_1315 : decode cL_acts 1315 = .ok (.aload_n 1, 1) := by decide +kernel
theorem dL_acts_1316 : decode cL_acts 1316 = .ok (.iload 7, 2) := by decide +kernel
theorem dL_acts_1318 : decode cL_acts 1318 = .ok (.iaload, 1) := by decide +kernel
theorem dL_acts_1319 : decode cL_acts 1319 = .ok (.if_icmp .ge 96, 3) := by decide +kernel
theorem dL_acts_1322 : decode cL_acts 1322 = .ok (.aload_n 2, 1) := by decide +kernel
theorem dL_acts_1323 : decode cL_acts 1323 = .ok (.bipush 8, 2) := by decide +kernel
theorem dL_acts_1325 : decode cL_acts 1325 = .ok (.iload 7, 2) := by decide +kernel
theorem dL_acts_1327 : decode cL_acts 1327 = .ok (.imul, 1) := by decide +kernel
theorem dL_acts_1328 : decode cL_acts 1328 = .ok (.iload 28, 2) := by decide +kernel
theorem dL_acts_1330 : decode cL_acts 1330 = .ok (.iadd, 1) := by decide +kernel
theorem dL_acts_1331 : decode cL_acts 1331 = .ok (.aload_n 2, 1) := by decide +kernel
theorem dL_acts_1332 : decode cL_acts 1332 = .ok (.bipush 8, 2) := by decide +kernel
theorem dL_acts_1334 : decode cL_acts 1334 = .ok (.iload 26, 2) := by decide +kernel
theorem dL_acts_1336 : decode cL_acts 1336 = .ok (.imul, 1) := by decide +kernel
theorem dL_acts_1337 : decode cL_acts 1337 = .ok (.iload 28, 2) := by decide +kernel
theorem dL_acts_1339 : decode cL_acts 1339 = .ok (.iadd, 1) := by decide +kernel
theorem dL_acts_1340 : decode cL_acts 1340 = .ok (.iaload, 1) := by decide +kernel
theorem dL_acts_1341 : decode cL_acts 1341 = .ok (.iastore, 1) := by decide +kernel
theorem dL_acts_1342 : decode cL_acts 1342 = .ok (.aload_n 3, 1) := by decide +kernel
theorem dL_acts_1343 : decode cL_acts 1343 = .ok (.bipush 8, 2) := by decide +kernel
theorem dL_acts_1345 : decode cL_acts 1345 = .ok (.iload 7, 2) := by decide +kernel
theorem dL_acts_1347 : decode cL_acts 1347 = .ok (.imul, 1) := by decide +kernel
theorem dL_acts_1348 : decode cL_acts 1348 = .ok (.iload 28, 2) := by decide +kernel
theorem dL_acts_1350 : decode cL_acts 1350 = .ok (.iadd, 1) := by decide +kernel
theorem dL_acts_1351 : decode cL_acts 1351 = .ok (.aload_n 3, 1) := by decide +kernel
theorem dL_acts_1352 : decode cL_acts 1352 = .ok (.bipush 8, 2) := by decide +kernel
theorem dL_acts_1354 : decode cL_acts 1354 = .ok (.iload 26, 2) := by decide +kernel
theorem dL_acts_1356 : decode cL_acts 1356 = .ok (.imul, 1) := by decide +kernel
theorem dL_acts_1357 : decode cL_acts 1357 = .ok (.iload 28, 2) := by decide +kernel
theorem dL_acts_1359 : decode cL_acts 1359 = .ok (.iadd, 1) := by decide +kernel
theorem dL_acts_1360 : decode cL_acts 1360 = .ok (.iaload, 1) := by decide +kernel
theorem dL_acts_1361 : decode cL_acts 1361 = .ok (.iload 25, 2) := by decide +kernel
theorem dL_acts_1363 : decode cL_acts 1363 = .ok (.iadd, 1) := by decide +kernel
theorem dL_acts_1364 : decode cL_acts 1364 = .ok (.iastore, 1) := by decide +kernel
theorem dL_acts_1365 : decode cL_acts 1365 = .ok (.aload 4, 2) := by decide +kernel
theorem dL_acts_1367 : decode cL_acts 1367 = .ok (.bipush 8, 2) := by decide +kernel
theorem dL_acts_1369 : decode cL_acts 1369 = .ok (.iload 7, 2) := by decide +kernel
theorem dL_acts_1371 : decode cL_acts 1371 = .ok (.imul, 1) := by decide +kernel
theorem dL_acts_1372 : decode cL_acts 1372 = .ok (.iload 28, 2) := by decide +kernel
theorem dL_acts_1374 : decode cL_acts 1374 = .ok (.iadd, 1) := by decide +kernel
theorem dL_acts_1375 : decode cL_acts 1375 = .ok (.aload 4, 2) := by decide +kernel
theorem dL_acts_1377 : decode cL_acts 1377 = .ok (.bipush 8, 2) := by decide +kernel
theorem dL_acts_1379 : decode cL_acts 1379 = .ok (.iload 26, 2) := by decide +kernel
theorem dL_acts_1381 : decode cL_acts 1381 = .ok (.imul, 1) := by decide +kernel
theorem dL_acts_1382 : decode cL_acts 1382 = .ok (.iload 28, 2) := by decide +kernel
theorem dL_acts_1384 : decode cL_acts 1384 = .ok (.iadd, 1) := by decide +kernel
theorem dL_acts_1385 : decode cL_acts 1385 = .ok (.iaload, 1) := by decide +kernel
theorem dL_acts_1386 : decode cL_acts 1386 = .ok (.iastore, 1) := by decide +kernel
theorem dL_acts_1387 : decode cL_acts 1387 = .ok (.aload 5, 2) := by decide +kernel
theorem dL_acts_1389 : decode cL_acts 1389 = .ok (.bipush 8, 2) := by decide +kernel
theorem dL_acts_1391 : decode cL_acts 1391 = .ok (.iload 7, 2) := by decide +kernel
theorem dL_acts_1393 : decode cL_acts 1393 = .ok (.imul, 1) := by decide +kernel
theorem dL_acts_1394 : decode cL_acts 1394 = .ok (.iload 28, 2) := by decide +kernel
theorem dL_acts_1396 : decode cL_acts 1396 = .ok (.iadd, 1) := by decide +kernel
theorem dL_acts_1397 : decode cL_acts 1397 = .ok (.aload 5, 2) := by decide +kernel
theorem dL_acts_1399 : decode cL_acts 1399 = .ok (.bipush 8, 2) := by decide +kernel
theorem dL_acts_1401 : decode cL_acts 1401 = .ok (.iload 26, 2) := by decide +kernel
theorem dL_acts_1403 : decode cL_acts 1403 = .ok (.imul, 1) := by decide +kernel
theorem dL_acts_1404 : decode cL_acts 1404 = .ok (.iload 28, 2) := by decide +kernel
theorem dL_acts_1406 : decode cL_acts 1406 = .ok (.iadd, 1) := by decide +kernel
theorem dL_acts_1407 : decode cL_acts 1407 = .ok (.iaload, 1) := by decide +kernel
theorem dL_acts_1408 : decode cL_acts 1408 = .ok (.iastore, 1) := by decide +kernel
theorem dL_acts_1409 : decode cL_acts 1409 = .ok (.iinc 28 1, 3) := by decide +kernel
theorem dL_acts_1412 : decode cL_acts 1412 = .ok (.goto (-99), 3) := by decide +kernel
theorem dL_acts_1415 : decode cL_acts 1415 = .ok (.aload_n 0, 1) := by decide +kernel
theorem dL_acts_1416 : decode cL_acts 1416 = .ok (.iload 7, 2) := by decide +kernel
theorem dL_acts_1418 : decode cL_acts 1418 = .ok (.iload 26, 2) := by decide +kernel
theorem dL_acts_1420 : decode cL_acts 1420 = .ok (.iload 25, 2) := by decide +kernel
theorem dL_acts_1422 : decode cL_acts 1422 = .ok (.invokestatic 86, 3) := by decide +kernel
theorem dL_acts_1425 : decode cL_acts 1425 = .ok (.aload_n 1, 1) := by decide +kernel
theorem dL_acts_1426 : decode cL_acts 1426 = .ok (.iload 7, 2) := by decide +kernel
theorem dL_acts_1428 : decode cL_acts 1428 = .ok (.iaload, 1) := by decide +kernel
theorem dL_acts_1429 : decode cL_acts 1429 = .ok (.if_icmp .ne 7, 3) := by decide +kernel
theorem dL_acts_1432 : decode cL_acts 1432 = .ok (.iconst 1, 1) := by decide +kernel
theorem dL_acts_1433 : decode cL_acts 1433 = .ok (.goto 4, 3) := by decide +kernel
theorem dL_acts_1436 : decode cL_acts 1436 = .ok (.iconst 0, 1) := by decide +kernel
theorem dL_acts_1437 : decode cL_acts 1437 = .ok (.ireturn, 1) := by decide +kernel
