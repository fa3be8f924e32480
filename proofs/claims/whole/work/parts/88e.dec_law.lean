theorem d_law_849 : decode code 849 = .ok (.aload_n 0, 1) := by decide +kernel
theorem d_law_850 : decode code 850 = .ok (.iload 4, 2) := by decide +kernel
theorem d_law_852 : decode code 852 = .ok (.iconst 2, 1) := by decide +kernel
theorem d_law_853 : decode code 853 = .ok (.iadd, 1) := by decide +kernel
theorem d_law_854 : decode code 854 = .ok (.iaload, 1) := by decide +kernel
theorem d_law_855 : decode code 855 = .ok (.aload_n 0, 1) := by decide +kernel
theorem d_law_856 : decode code 856 = .ok (.iload 4, 2) := by decide +kernel
theorem d_law_858 : decode code 858 = .ok (.iconst 3, 1) := by decide +kernel
theorem d_law_859 : decode code 859 = .ok (.iadd, 1) := by decide +kernel
theorem d_law_860 : decode code 860 = .ok (.iaload, 1) := by decide +kernel
theorem d_law_861 : decode code 861 = .ok (.invokevirtual 124, 3) := by decide +kernel
theorem d_law_864 : decode code 864 = .ok (.istore 6, 2) := by decide +kernel
theorem d_law_866 : decode code 866 = .ok (.aload_n 2, 1) := by decide +kernel
theorem d_law_867 : decode code 867 = .ok (.invokevirtual 77, 3) := by decide +kernel
theorem d_law_870 : decode code 870 = .ok (.iload 5, 2) := by decide +kernel
theorem d_law_872 : decode code 872 = .ok (.if_icmp .eq 5, 3) := by decide +kernel
theorem d_law_875 : decode code 875 = .ok (.iconst 0, 1) := by decide +kernel
theorem d_law_876 : decode code 876 = .ok (.ireturn, 1) := by decide +kernel
theorem d_law_877 : decode code 877 = .ok (.iload 5, 2) := by decide +kernel
theorem d_law_879 : decode code 879 = .ok (.ifCond .ne 15, 3) := by decide +kernel
theorem d_law_882 : decode code 882 = .ok (.aload_n 3, 1) := by decide +kernel
theorem d_law_883 : decode code 883 = .ok (.iconst 0, 1) := by decide +kernel
theorem d_law_884 : decode code 884 = .ok (.laload, 1) := by decide +kernel
theorem d_law_885 : decode code 885 = .ok (.iload 6, 2) := by decide +kernel
theorem d_law_887 : decode code 887 = .ok (.i2l, 1) := by decide +kernel
theorem d_law_888 : decode code 888 = .ok (.lcmp, 1) := by decide +kernel
theorem d_law_889 : decode code 889 = .ok (.ifCond .eq 5, 3) := by decide +kernel
theorem d_law_892 : decode code 892 = .ok (.iconst 0, 1) := by decide +kernel
theorem d_law_893 : decode code 893 = .ok (.ireturn, 1) := by decide +kernel
theorem d_law_894 : decode code 894 = .ok (.goto 283, 3) := by decide +kernel
theorem d_law_897 : decode code 897 = .ok (.aload_n 1, 1) := by decide +kernel
theorem d_law_898 : decode code 898 = .ok (.aload_n 0, 1) := by decide +kernel
theorem d_law_899 : decode code 899 = .ok (.iload 4, 2) := by decide +kernel
theorem d_law_901 : decode code 901 = .ok (.iconst 1, 1) := by decide +kernel
theorem d_law_902 : decode code 902 = .ok (.iadd, 1) := by decide +kernel
theorem d_law_903 : decode code 903 = .ok (.iaload, 1) := by decide +kernel
theorem d_law_904 : decode code 904 = .ok (.aload_n 3, 1) := by decide +kernel
theorem d_law_905 : decode code 905 = .ok (.invokestatic 125, 3) := by decide +kernel
theorem d_law_908 : decode code 908 = .ok (.istore 5, 2) := by decide +kernel
theorem d_law_910 : decode code 910 = .ok (.aload_n 2, 1) := by decide +kernel
theorem d_law_911 : decode code 911 = .ok (.aload_n 0, 1) := by decide +kernel
theorem d_law_912 : decode code 912 = .ok (.iload 4, 2) := by decide +kernel
theorem d_law_914 : decode code 914 = .ok (.iconst 1, 1) := by decide +kernel
theorem d_law_915 : decode code 915 = .ok (.iadd, 1) := by decide +kernel
theorem d_law_916 : decode code 916 = .ok (.iaload, 1) := by decide +kernel
theorem d_law_917 : decode code 917 = .ok (.invokevirtual 127, 3) := by decide +kernel
theorem d_law_920 : decode code 920 = .ok (.istore 6, 2) := by decide +kernel
theorem d_law_922 : decode code 922 = .ok (.aload_n 2, 1) := by decide +kernel
theorem d_law_923 : decode code 923 = .ok (.invokevirtual 77, 3) := by decide +kernel
theorem d_law_926 : decode code 926 = .ok (.iload 5, 2) := by decide +kernel
theorem d_law_928 : decode code 928 = .ok (.if_icmp .eq 5, 3) := by decide +kernel
theorem d_law_931 : decode code 931 = .ok (.iconst 0, 1) := by decide +kernel
theorem d_law_932 : decode code 932 = .ok (.ireturn, 1) := by decide +kernel
theorem d_law_933 : decode code 933 = .ok (.iload 5, 2) := by decide +kernel
theorem d_law_935 : decode code 935 = .ok (.ifCond .ne 22, 3) := by decide +kernel
theorem d_law_938 : decode code 938 = .ok (.aload_n 3, 1) := by decide +kernel
theorem d_law_939 : decode code 939 = .ok (.iconst 0, 1) := by decide +kernel
theorem d_law_940 : decode code 940 = .ok (.laload, 1) := by decide +kernel
theorem d_law_941 : decode code 941 = .ok (.iload 6, 2) := by decide +kernel
theorem d_law_943 : decode code 943 = .ok (.ifCond .eq 7, 3) := by decide +kernel
theorem d_law_946 : decode code 946 = .ok (.lconst 1, 1) := by decide +kernel
theorem d_law_947 : decode code 947 = .ok (.goto 4, 3) := by decide +kernel
theorem d_law_950 : decode code 950 = .ok (.lconst 0, 1) := by decide +kernel
theorem d_law_951 : decode code 951 = .ok (.lcmp, 1) := by decide +kernel
theorem d_law_952 : decode code 952 = .ok (.ifCond .eq 5, 3) := by decide +kernel
theorem d_law_955 : decode code 955 = .ok (.iconst 0, 1) := by decide +kernel
theorem d_law_956 : decode code 956 = .ok (.ireturn, 1) := by decide +kernel
theorem d_law_957 : decode code 957 = .ok (.goto 220, 3) := by decide +kernel
theorem d_law_960 : decode code 960 = .ok (.aload_n 1, 1) := by decide +kernel
theorem d_law_961 : decode code 961 = .ok (.aload_n 0, 1) := by decide +kernel
theorem d_law_962 : decode code 962 = .ok (.iload 4, 2) := by decide +kernel
theorem d_law_964 : decode code 964 = .ok (.iconst 1, 1) := by decide +kernel
theorem d_law_965 : decode code 965 = .ok (.iadd, 1) := by decide +kernel
theorem d_law_966 : decode code 966 = .ok (.iaload, 1) := by decide +kernel
theorem d_law_967 : decode code 967 = .ok (.aload_n 3, 1) := by decide +kernel
theorem d_law_968 : decode code 968 = .ok (.invokestatic 128, 3) := by decide +kernel
theorem d_law_971 : decode code 971 = .ok (.istore 5, 2) := by decide +kernel
theorem d_law_973 : decode code 973 = .ok (.aload_n 2, 1) := by decide +kernel
theorem d_law_974 : decode code 974 = .ok (.aload_n 0, 1) := by decide +kernel
theorem d_law_975 : decode code 975 = .ok (.iload 4, 2) := by decide +kernel
theorem d_law_977 : decode code 977 = .ok (.iconst 1, 1) := by decide +kernel
theorem d_law_978 : decode code 978 = .ok (.iadd, 1) := by decide +kernel
theorem d_law_979 : decode code 979 = .ok (.iaload, 1) := by decide +kernel
theorem d_law_980 : decode code 980 = .ok (.invokevirtual 130, 3) := by decide +kernel
theorem d_law_983 : decode code 983 = .ok (.istore 6, 2) := by decide +kernel
theorem d_law_985 : decode code 985 = .ok (.aload_n 2, 1) := by decide +kernel
theorem d_law_986 : decode code 986 = .ok (.invokevirtual 77, 3) := by decide +kernel
theorem d_law_989 : decode code 989 = .ok (.iload 5, 2) := by decide +kernel
theorem d_law_991 : decode code 991 = .ok (.if_icmp .eq 5, 3) := by decide +kernel
theorem d_law_994 : decode code 994 = .ok (.iconst 0, 1) := by decide +kernel
theorem d_law_995 : decode code 995 = .ok (.ireturn, 1) := by decide +kernel
theorem d_law_996 : decode code 996 = .ok (.iload 5, 2) := by decide +kernel
theorem d_law_998 : decode code 998 = .ok (.ifCond .ne 15, 3) := by decide +kernel
theorem d_law_1001 : decode code 1001 = .ok (.aload_n 3, 1) := by decide +kernel
theorem d_law_1002 : decode code 1002 = .ok (.iconst 0, 1) := by decide +kernel
theorem d_law_1003 : decode code 1003 = .ok (.laload, 1) := by decide +kernel
theorem d_law_1004 : decode code 1004 = .ok (.iload 6, 2) := by decide +kernel
theorem d_law_1006 : decode code 1006 = .ok (.i2l, 1) := by decide +kernel
theorem d_law_1007 : decode code 1007 = .ok (.lcmp, 1) := by decide +kernel
theorem d_law_1008 : decode code 1008 = .ok (.ifCond .eq 5, 3) := by decide +kernel
theorem d_law_1011 : decode code 1011 = .ok (.iconst 0, 1) := by decide +kernel
theorem d_law_1012 : decode code 1012 = .ok (.ireturn, 1) := by decide +kernel
theorem d_law_1013 : decode code 1013 = .ok (.goto 164, 3) := by decide +kernel
theorem d_law_1016 : decode code 1016 = .ok (.aload_n 1, 1) := by decide +kernel
theorem d_law_1017 : decode code 1017 = .ok (.aload_n 0, 1) := by decide +kernel
theorem d_law_1018 : decode code 1018 = .ok (.iload 4, 2) := by decide +kernel
theorem d_law_1020 : decode code 1020 = .ok (.iconst 1, 1) := by decide +kernel
theorem d_law_1021 : decode code 1021 = .ok (.iadd, 1) := by decide +kernel
theorem d_law_1022 : decode code 1022 = .ok (.iaload, 1) := by decide +kernel
theorem d_law_1023 : decode code 1023 = .ok (.aload_n 0, 1) := by decide +kernel
theorem d_law_1024 : decode code 1024 = .ok (.iload 4, 2) := by decide +kernel
theorem d_law_1026 : decode code 1026 = .ok (.iconst 2, 1) := by decide +kernel
theorem d_law_1027 : decode code 1027 = .ok (.iadd, 1) := by decide +kernel
theorem d_law_1028 : decode code 1028 = .ok (.iaload, 1) := by decide +kernel
theorem d_law_1029 : decode code 1029 = .ok (.aload_n 3, 1) := by decide +kernel
theorem d_law_1030 : decode code 1030 = .ok (.invokestatic 131, 3) := by decide +kernel
theorem d_law_1033 : decode code 1033 = .ok (.istore 5, 2) := by decide +kernel
theorem d_law_1035 : decode code 1035 = .ok (.aload_n 2, 1) := by decide +kernel
theorem d_law_1036 : decode code 1036 = .ok (.aload_n 0, 1) := by decide +kernel
theorem d_law_1037 : decode code 1037 = .ok (.iload 4, 2) := by decide +kernel
