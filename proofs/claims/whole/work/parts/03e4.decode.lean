theorem d_law_828 : decode code 828 = .ok (.aload_n 2, 1) := by decide +kernel
theorem d_law_829 : decode code 829 = .ok (.invokevirtual 129, 3) := by decide +kernel
theorem d_law_832 : decode code 832 = .ok (.if_icmp .eq 342, 3) := by decide +kernel
theorem d_law_835 : decode code 835 = .ok (.iconst 0, 1) := by decide +kernel
theorem d_law_836 : decode code 836 = .ok (.ireturn, 1) := by decide +kernel
theorem d_law_837 : decode code 837 = .ok (.aload_n 1, 1) := by decide +kernel
theorem d_law_838 : decode code 838 = .ok (.aload_n 0, 1) := by decide +kernel
theorem d_law_839 : decode code 839 = .ok (.iload 5, 2) := by decide +kernel
theorem d_law_841 : decode code 841 = .ok (.iconst 1, 1) := by decide +kernel
theorem d_law_842 : decode code 842 = .ok (.iadd, 1) := by decide +kernel
theorem d_law_843 : decode code 843 = .ok (.iaload, 1) := by decide +kernel
theorem d_law_844 : decode code 844 = .ok (.aload_n 0, 1) := by decide +kernel
theorem d_law_845 : decode code 845 = .ok (.iload 5, 2) := by decide +kernel
theorem d_law_847 : decode code 847 = .ok (.iconst 2, 1) := by decide +kernel
theorem d_law_848 : decode code 848 = .ok (.iadd, 1) := by decide +kernel
theorem d_law_849 : decode code 849 = .ok (.iaload, 1) := by decide +kernel
theorem d_law_850 : decode code 850 = .ok (.aload_n 3, 1) := by decide +kernel
theorem d_law_851 : decode code 851 = .ok (.invokestatic 130, 3) := by decide +kernel
theorem d_law_854 : decode code 854 = .ok (.istore 6, 2) := by decide +kernel
theorem d_law_856 : decode code 856 = .ok (.aload_n 2, 1) := by decide +kernel
theorem d_law_857 : decode code 857 = .ok (.aload_n 0, 1) := by decide +kernel
theorem d_law_858 : decode code 858 = .ok (.iload 5, 2) := by decide +kernel
theorem d_law_860 : decode code 860 = .ok (.iconst 1, 1) := by decide +kernel
theorem d_law_861 : decode code 861 = .ok (.iadd, 1) := by decide +kernel
theorem d_law_862 : decode code 862 = .ok (.iaload, 1) := by decide +kernel
theorem d_law_863 : decode code 863 = .ok (.aload_n 0, 1) := by decide +kernel
theorem d_law_864 : decode code 864 = .ok (.iload 5, 2) := by decide +kernel
theorem d_law_866 : decode code 866 = .ok (.iconst 2, 1) := by decide +kernel
theorem d_law_867 : decode code 867 = .ok (.iadd, 1) := by decide +kernel
theorem d_law_868 : decode code 868 = .ok (.iaload, 1) := by decide +kernel
theorem d_law_869 : decode code 869 = .ok (.invokevirtual 132, 3) := by decide +kernel
theorem d_law_872 : decode code 872 = .ok (.istore 7, 2) := by decide +kernel
theorem d_law_874 : decode code 874 = .ok (.aload_n 2, 1) := by decide +kernel
theorem d_law_875 : decode code 875 = .ok (.invokevirtual 81, 3) := by decide +kernel
theorem d_law_878 : decode code 878 = .ok (.iload 6, 2) := by decide +kernel
theorem d_law_880 : decode code 880 = .ok (.if_icmp .eq 5, 3) := by decide +kernel
theorem d_law_883 : decode code 883 = .ok (.iconst 0, 1) := by decide +kernel
theorem d_law_884 : decode code 884 = .ok (.ireturn, 1) := by decide +kernel
theorem d_law_885 : decode code 885 = .ok (.iload 6, 2) := by decide +kernel
theorem d_law_887 : decode code 887 = .ok (.ifCond .ne 15, 3) := by decide +kernel
theorem d_law_890 : decode code 890 = .ok (.aload_n 3, 1) := by decide +kernel
theorem d_law_891 : decode code 891 = .ok (.iconst 0, 1) := by decide +kernel
theorem d_law_892 : decode code 892 = .ok (.laload, 1) := by decide +kernel
theorem d_law_893 : decode code 893 = .ok (.iload 7, 2) := by decide +kernel
theorem d_law_895 : decode code 895 = .ok (.i2l, 1) := by decide +kernel
theorem d_law_896 : decode code 896 = .ok (.lcmp, 1) := by decide +kernel
theorem d_law_897 : decode code 897 = .ok (.ifCond .eq 5, 3) := by decide +kernel
theorem d_law_900 : decode code 900 = .ok (.iconst 0, 1) := by decide +kernel
theorem d_law_901 : decode code 901 = .ok (.ireturn, 1) := by decide +kernel
theorem d_law_902 : decode code 902 = .ok (.goto 272, 3) := by decide +kernel
theorem d_law_905 : decode code 905 = .ok (.aload_n 1, 1) := by decide +kernel
theorem d_law_906 : decode code 906 = .ok (.aload_n 0, 1) := by decide +kernel
theorem d_law_907 : decode code 907 = .ok (.iload 5, 2) := by decide +kernel
theorem d_law_909 : decode code 909 = .ok (.iconst 1, 1) := by decide +kernel
theorem d_law_910 : decode code 910 = .ok (.iadd, 1) := by decide +kernel
theorem d_law_911 : decode code 911 = .ok (.iaload, 1) := by decide +kernel
theorem d_law_912 : decode code 912 = .ok (.aload_n 3, 1) := by decide +kernel
theorem d_law_913 : decode code 913 = .ok (.invokestatic 133, 3) := by decide +kernel
theorem d_law_916 : decode code 916 = .ok (.istore 6, 2) := by decide +kernel
theorem d_law_918 : decode code 918 = .ok (.aload_n 2, 1) := by decide +kernel
theorem d_law_919 : decode code 919 = .ok (.aload_n 0, 1) := by decide +kernel
theorem d_law_920 : decode code 920 = .ok (.iload 5, 2) := by decide +kernel
theorem d_law_922 : decode code 922 = .ok (.iconst 1, 1) := by decide +kernel
theorem d_law_923 : decode code 923 = .ok (.iadd, 1) := by decide +kernel
theorem d_law_924 : decode code 924 = .ok (.iaload, 1) := by decide +kernel
theorem d_law_925 : decode code 925 = .ok (.invokevirtual 135, 3) := by decide +kernel
theorem d_law_928 : decode code 928 = .ok (.istore 7, 2) := by decide +kernel
theorem d_law_930 : decode code 930 = .ok (.aload_n 2, 1) := by decide +kernel
theorem d_law_931 : decode code 931 = .ok (.invokevirtual 81, 3) := by decide +kernel
theorem d_law_934 : decode code 934 = .ok (.iload 6, 2) := by decide +kernel
theorem d_law_936 : decode code 936 = .ok (.if_icmp .eq 5, 3) := by decide +kernel
theorem d_law_939 : decode code 939 = .ok (.iconst 0, 1) := by decide +kernel
theorem d_law_940 : decode code 940 = .ok (.ireturn, 1) := by decide +kernel
theorem d_law_941 : decode code 941 = .ok (.iload 6, 2) := by decide +kernel
theorem d_law_943 : decode code 943 = .ok (.ifCond .ne 15, 3) := by decide +kernel
theorem d_law_946 : decode code 946 = .ok (.aload_n 3, 1) := by decide +kernel
theorem d_law_947 : decode code 947 = .ok (.iconst 0, 1) := by decide +kernel
theorem d_law_948 : decode code 948 = .ok (.laload, 1) := by decide +kernel
theorem d_law_949 : decode code 949 = .ok (.iload 7, 2) := by decide +kernel
theorem d_law_951 : decode code 951 = .ok (.i2l, 1) := by decide +kernel
theorem d_law_952 : decode code 952 = .ok (.lcmp, 1) := by decide +kernel
theorem d_law_953 : decode code 953 = .ok (.ifCond .eq 5, 3) := by decide +kernel
theorem d_law_956 : decode code 956 = .ok (.iconst 0, 1) := by decide +kernel
theorem d_law_957 : decode code 957 = .ok (.ireturn, 1) := by decide +kernel
theorem d_law_958 : decode code 958 = .ok (.goto 216, 3) := by decide +kernel
theorem d_law_961 : decode code 961 = .ok (.aload_n 1, 1) := by decide +kernel
theorem d_law_962 : decode code 962 = .ok (.aload_n 0, 1) := by decide +kernel
theorem d_law_963 : decode code 963 = .ok (.iload 5, 2) := by decide +kernel
theorem d_law_965 : decode code 965 = .ok (.iconst 1, 1) := by decide +kernel
theorem d_law_966 : decode code 966 = .ok (.iadd, 1) := by decide +kernel
theorem d_law_967 : decode code 967 = .ok (.iaload, 1) := by decide +kernel
theorem d_law_968 : decode code 968 = .ok (.aload 4, 2) := by decide +kernel
theorem d_law_970 : decode code 970 = .ok (.invokestatic 136, 3) := by decide +kernel
theorem d_law_973 : decode code 973 = .ok (.istore 6, 2) := by decide +kernel
theorem d_law_975 : decode code 975 = .ok (.aload_n 2, 1) := by decide +kernel
theorem d_law_976 : decode code 976 = .ok (.aload_n 0, 1) := by decide +kernel
theorem d_law_977 : decode code 977 = .ok (.iload 5, 2) := by decide +kernel
theorem d_law_979 : decode code 979 = .ok (.iconst 1, 1) := by decide +kernel
theorem d_law_980 : decode code 980 = .ok (.iadd, 1) := by decide +kernel
theorem d_law_981 : decode code 981 = .ok (.iaload, 1) := by decide +kernel
theorem d_law_982 : decode code 982 = .ok (.invokevirtual 139, 3) := by decide +kernel
theorem d_law_985 : decode code 985 = .ok (.dstore 7, 2) := by decide +kernel
theorem d_law_987 : decode code 987 = .ok (.aload_n 2, 1) := by decide +kernel
theorem d_law_988 : decode code 988 = .ok (.invokevirtual 81, 3) := by decide +kernel
theorem d_law_991 : decode code 991 = .ok (.iload 6, 2) := by decide +kernel
theorem d_law_993 : decode code 993 = .ok (.if_icmp .eq 5, 3) := by decide +kernel
theorem d_law_996 : decode code 996 = .ok (.iconst 0, 1) := by decide +kernel
theorem d_law_997 : decode code 997 = .ok (.ireturn, 1) := by decide +kernel
theorem d_law_998 : decode code 998 = .ok (.iload 6, 2) := by decide +kernel
theorem d_law_1000 : decode code 1000 = .ok (.ifCond .ne 35, 3) := by decide +kernel
theorem d_law_1003 : decode code 1003 = .ok (.aload 4, 2) := by decide +kernel
theorem d_law_1005 : decode code 1005 = .ok (.iconst 0, 1) := by decide +kernel
theorem d_law_1006 : decode code 1006 = .ok (.daload, 1) := by decide +kernel
theorem d_law_1007 : decode code 1007 = .ok (.dload 7, 2) := by decide +kernel
theorem d_law_1009 : decode code 1009 = .ok (.dcmp .l, 1) := by decide +kernel
theorem d_law_1010 : decode code 1010 = .ok (.ifCond .eq 25, 3) := by decide +kernel
theorem d_law_1013 : decode code 1013 = .ok (.aload 4, 2) := by decide +kernel
theorem d_law_1015 : decode code 1015 = .ok (.iconst 0, 1) := by decide +kernel
theorem d_law_1016 : decode code 1016 = .ok (.daload, 1) := by decide +kernel
theorem d_law_1017 : decode code 1017 = .ok (.aload 4, 2) := by decide +kernel
