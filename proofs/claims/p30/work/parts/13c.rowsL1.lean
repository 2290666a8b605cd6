theorem dLb_36 : (decode cL_law 886 = .ok (.iconst 1, 1)) ∧ (decode cL_law 887 = .ok (.iadd, 1)) ∧ (decode cL_law 888 = .ok (.iaload, 1)) ∧ (decode cL_law 889 = .ok (.aload_n 0, 1)) ∧ (decode cL_law 890 = .ok (.iload_n 3, 1)) ∧ (decode cL_law 891 = .ok (.iconst 2, 1)) ∧ (decode cL_law 892 = .ok (.iadd, 1)) ∧ (decode cL_law 893 = .ok (.iaload, 1)) ∧ (decode cL_law 894 = .ok (.ifCond .eq 7, 3)) ∧ (decode cL_law 897 = .ok (.iconst 1, 1)) ∧ (decode cL_law 898 = .ok (.goto 4, 3)) ∧ (decode cL_law 901 = .ok (.iconst 0, 1)) ∧ (decode cL_law 902 = .ok (.invokevirtual 99, 3)) ∧ (decode cL_law 905 = .ok (.pop2, 1)) ∧ (decode cL_law 906 = .ok (.aload_n 2, 1)) ∧ (decode cL_law 907 = .ok (.aload_n 0, 1)) := by decide +kernel
theorem dL_law_886 : decode cL_law 886 = .ok (.iconst 1, 1) := dLb_36.1
theorem dL_law_887 : decode cL_law 887 = .ok (.iadd, 1) := dLb_36.2.1
theorem dL_law_888 : decode cL_law 888 = .ok (.iaload, 1) := dLb_36.2.2.1
theorem dL_law_889 : decode cL_law 889 = .ok (.aload_n 0, 1) := dLb_36.2.2.2.1
theorem dL_law_890 : decode cL_law 890 = .ok (.iload_n 3, 1) := dLb_36.2.2.2.2.1
theorem dL_law_891 : decode cL_law 891 = .ok (.iconst 2, 1) := dLb_36.2.2.2.2.2.1
theorem dL_law_892 : decode cL_law 892 = .ok (.iadd, 1) := dLb_36.2.2.2.2.2.2.1
theorem dL_law_893 : decode cL_law 893 = .ok (.iaload, 1) := dLb_36.2.2.2.2.2.2.2.1
theorem dL_law_894 : decode cL_law 894 = .ok (.ifCond .eq 7, 3) := dLb_36.2.2.2.2.2.2.2.2.1
theorem dL_law_897 : decode cL_law 897 = .ok (.iconst 1, 1) := dLb_36.2.2.2.2.2.2.2.2.2.1
theorem dL_law_898 : decode cL_law 898 = .ok (.goto 4, 3) := dLb_36.2.2.2.2.2.2.2.2.2.2.1
theorem dL_law_901 : decode cL_law 901 = .ok (.iconst 0, 1) := dLb_36.2.2.2.2.2.2.2.2.2.2.2.1
theorem dL_law_902 : decode cL_law 902 = .ok (.invokevirtual 99, 3) := dLb_36.2.2.2.2.2.2.2.2.2.2.2.2.1
theorem dL_law_905 : decode cL_law 905 = .ok (.pop2, 1) := dLb_36.2.2.2.2.2.2.2.2.2.2.2.2.2.1
theorem dL_law_906 : decode cL_law 906 = .ok (.aload_n 2, 1) := dLb_36.2.2.2.2.2.2.2.2.2.2.2.2.2.2.1
theorem dL_law_907 : decode cL_law 907 = .ok (.aload_n 0, 1) := dLb_36.2.2.2.2.2.2.2.2.2.2.2.2.2.2.2
theorem dLb_37 : (decode cL_law 908 = .ok (.iload_n 3, 1)) ∧ (decode cL_law 909 = .ok (.iconst 1, 1)) ∧ (decode cL_law 910 = .ok (.iadd, 1)) ∧ (decode cL_law 911 = .ok (.iaload, 1)) ∧ (decode cL_law 912 = .ok (.aload_n 0, 1)) ∧ (decode cL_law 913 = .ok (.iload_n 3, 1)) ∧ (decode cL_law 914 = .ok (.iconst 2, 1)) ∧ (decode cL_law 915 = .ok (.iadd, 1)) ∧ (decode cL_law 916 = .ok (.iaload, 1)) ∧ (decode cL_law 917 = .ok (.ifCond .eq 7, 3)) ∧ (decode cL_law 920 = .ok (.iconst 1, 1)) ∧ (decode cL_law 921 = .ok (.goto 4, 3)) ∧ (decode cL_law 924 = .ok (.iconst 0, 1)) ∧ (decode cL_law 925 = .ok (.invokevirtual 102, 3)) ∧ (decode cL_law 928 = .ok (.pop2, 1)) ∧ (decode cL_law 929 = .ok (.goto 416, 3)) := by decide +kernel
theorem dL_law_908 : decode cL_law 908 = .ok (.iload_n 3, 1) := dLb_37.1
theorem dL_law_909 : decode cL_law 909 = .ok (.iconst 1, 1) := dLb_37.2.1
theorem dL_law_910 : decode cL_law 910 = .ok (.iadd, 1) := dLb_37.2.2.1
theorem dL_law_911 : decode cL_law 911 = .ok (.iaload, 1) := dLb_37.2.2.2.1
theorem dL_law_912 : decode cL_law 912 = .ok (.aload_n 0, 1) := dLb_37.2.2.2.2.1
theorem dL_law_913 : decode cL_law 913 = .ok (.iload_n 3, 1) := dLb_37.2.2.2.2.2.1
theorem dL_law_914 : decode cL_law 914 = .ok (.iconst 2, 1) := dLb_37.2.2.2.2.2.2.1
theorem dL_law_915 : decode cL_law 915 = .ok (.iadd, 1) := dLb_37.2.2.2.2.2.2.2.1
theorem dL_law_916 : decode cL_law 916 = .ok (.iaload, 1) := dLb_37.2.2.2.2.2.2.2.2.1
theorem dL_law_917 : decode cL_law 917 = .ok (.ifCond .eq 7, 3) := dLb_37.2.2.2.2.2.2.2.2.2.1
theorem dL_law_920 : decode cL_law 920 = .ok (.iconst 1, 1) := dLb_37.2.2.2.2.2.2.2.2.2.2.1
theorem dL_law_921 : decode cL_law 921 = .ok (.goto 4, 3) := dLb_37.2.2.2.2.2.2.2.2.2.2.2.1
theorem dL_law_924 : decode cL_law 924 = .ok (.iconst 0, 1) := dLb_37.2.2.2.2.2.2.2.2.2.2.2.2.1
theorem dL_law_925 : decode cL_law 925 = .ok (.invokevirtual 102, 3) := dLb_37.2.2.2.2.2.2.2.2.2.2.2.2.2.1
theorem dL_law_928 : decode cL_law 928 = .ok (.pop2, 1) := dLb_37.2.2.2.2.2.2.2.2.2.2.2.2.2.2.1
theorem dL_law_929 : decode cL_law 929 = .ok (.goto 416, 3) := dLb_37.2.2.2.2.2.2.2.2.2.2.2.2.2.2.2
theorem dLb_38 : (decode cL_law 932 = .ok (.aload_n 1, 1)) ∧ (decode cL_law 933 = .ok (.aload_n 0, 1)) ∧ (decode cL_law 934 = .ok (.iload_n 3, 1)) ∧ (decode cL_law 935 = .ok (.iconst 1, 1)) ∧ (decode cL_law 936 = .ok (.iadd, 1)) ∧ (decode cL_law 937 = .ok (.iaload, 1)) ∧ (decode cL_law 938 = .ok (.aload_n 0, 1)) ∧ (decode cL_law 939 = .ok (.iload_n 3, 1)) ∧ (decode cL_law 940 = .ok (.iconst 2, 1)) ∧ (decode cL_law 941 = .ok (.iadd, 1)) ∧ (decode cL_law 942 = .ok (.iaload, 1)) ∧ (decode cL_law 943 = .ok (.aload_n 0, 1)) ∧ (decode cL_law 944 = .ok (.iload_n 3, 1)) ∧ (decode cL_law 945 = .ok (.iconst 3, 1)) ∧ (decode cL_law 946 = .ok (.iadd, 1)) ∧ (decode cL_law 947 = .ok (.iaload, 1)) := by decide +kernel
theorem dL_law_932 : decode cL_law 932 = .ok (.aload_n 1, 1) := dLb_38.1
theorem dL_law_933 : decode cL_law 933 = .ok (.aload_n 0, 1) := dLb_38.2.1
theorem dL_law_934 : decode cL_law 934 = .ok (.iload_n 3, 1) := dLb_38.2.2.1
theorem dL_law_935 : decode cL_law 935 = .ok (.iconst 1, 1) := dLb_38.2.2.2.1
theorem dL_law_936 : decode cL_law 936 = .ok (.iadd, 1) := dLb_38.2.2.2.2.1
theorem dL_law_937 : decode cL_law 937 = .ok (.iaload, 1) := dLb_38.2.2.2.2.2.1
theorem dL_law_938 : decode cL_law 938 = .ok (.aload_n 0, 1) := dLb_38.2.2.2.2.2.2.1
theorem dL_law_939 : decode cL_law 939 = .ok (.iload_n 3, 1) := dLb_38.2.2.2.2.2.2.2.1
theorem dL_law_940 : decode cL_law 940 = .ok (.iconst 2, 1) := dLb_38.2.2.2.2.2.2.2.2.1
theorem dL_law_941 : decode cL_law 941 = .ok (.iadd, 1) := dLb_38.2.2.2.2.2.2.2.2.2.1
theorem dL_law_942 : decode cL_law 942 = .ok (.iaload, 1) := dLb_38.2.2.2.2.2.2.2.2.2.2.1
theorem dL_law_943 : decode cL_law 943 = .ok (.aload_n 0, 1) := dLb_38.2.2.2.2.2.2.2.2.2.2.2.1
theorem dL_law_944 : decode cL_law 944 = .ok (.iload_n 3, 1) := dLb_38.2.2.2.2.2.2.2.2.2.2.2.2.1
theorem dL_law_945 : decode cL_law 945 = .ok (.iconst 3, 1) := dLb_38.2.2.2.2.2.2.2.2.2.2.2.2.2.1
theorem dL_law_946 : decode cL_law 946 = .ok (.iadd, 1) := dLb_38.2.2.2.2.2.2.2.2.2.2.2.2.2.2.1
theorem dL_law_947 : decode cL_law 947 = .ok (.iaload, 1) := dLb_38.2.2.2.2.2.2.2.2.2.2.2.2.2.2.2
theorem dLb_39 : (decode cL_law 948 = .ok (.aload_n 0, 1)) ∧ (decode cL_law 949 = .ok (.iload_n 3, 1)) ∧ (decode cL_law 950 = .ok (.iconst 4, 1)) ∧ (decode cL_law 951 = .ok (.iadd, 1)) ∧ (decode cL_law 952 = .ok (.iaload, 1)) ∧ (decode cL_law 953 = .ok (.ifCond .eq 7, 3)) ∧ (decode cL_law 956 = .ok (.iconst 1, 1)) ∧ (decode cL_law 957 = .ok (.goto 4, 3)) ∧ (decode cL_law 960 = .ok (.iconst 0, 1)) ∧ (decode cL_law 961 = .ok (.invokevirtual 103, 3)) ∧ (decode cL_law 964 = .ok (.pop2, 1)) ∧ (decode cL_law 965 = .ok (.aload_n 2, 1)) ∧ (decode cL_law 966 = .ok (.aload_n 0, 1)) ∧ (decode cL_law 967 = .ok (.iload_n 3, 1)) ∧ (decode cL_law 968 = .ok (.iconst 1, 1)) ∧ (decode cL_law 969 = .ok (.iadd, 1)) := by decide +kernel
theorem dL_law_948 : decode cL_law 948 = .ok (.aload_n 0, 1) := dLb_39.1
theorem dL_law_949 : decode cL_law 949 = .ok (.iload_n 3, 1) := dLb_39.2.1
theorem dL_law_950 : decode cL_law 950 = .ok (.iconst 4, 1) := dLb_39.2.2.1
theorem dL_law_951 : decode cL_law 951 = .ok (.iadd, 1) := dLb_39.2.2.2.1
theorem dL_law_952 : decode cL_law 952 = .ok (.iaload, 1) := dLb_39.2.2.2.2.1
theorem dL_law_953 : decode cL_law 953 = .ok (.ifCond .eq 7, 3) := dLb_39.2.2.2.2.2.1
theorem dL_law_956 : decode cL_law 956 = .ok (.iconst 1, 1) := dLb_39.2.2.2.2.2.2.1
theorem dL_law_957 : decode cL_law 957 = .ok (.goto 4, 3) := dLb_39.2.2.2.2.2.2.2.1
theorem dL_law_960 : decode cL_law 960 = .ok (.iconst 0, 1) := dLb_39.2.2.2.2.2.2.2.2.1
theorem dL_law_961 : decode cL_law 961 = .ok (.invokevirtual 103, 3) := dLb_39.2.2.2.2.2.2.2.2.2.1
theorem dL_law_964 : decode cL_law 964 = .ok (.pop2, 1) := dLb_39.2.2.2.2.2.2.2.2.2.2.1
theorem dL_law_965 : decode cL_law 965 = .ok (.aload_n 2, 1) := dLb_39.2.2.2.2.2.2.2.2.2.2.2.1
theorem dL_law_966 : decode cL_law 966 = .ok (.aload_n 0, 1) := dLb_39.2.2.2.2.2.2.2.2.2.2.2.2.1
theorem dL_law_967 : decode cL_law 967 = .ok (.iload_n 3, 1) := dLb_39.2.2.2.2.2.2.2.2.2.2.2.2.2.1
theorem dL_law_968 : decode cL_law 968 = .ok (.iconst 1, 1) := dLb_39.2.2.2.2.2.2.2.2.2.2.2.2.2.2.1
theorem dL_law_969 : decode cL_law 969 = .ok (.iadd, 1) := dLb_39.2.2.2.2.2.2.2.2.2.2.2.2.2.2.2
theorem dLb_40 : (decode cL_law 970 = .ok (.iaload, 1)) ∧ (decode cL_law 971 = .ok (.aload_n 0, 1)) ∧ (decode cL_law 972 = .ok (.iload_n 3, 1)) ∧ (decode cL_law 973 = .ok (.iconst 2, 1)) ∧ (decode cL_law 974 = .ok (.iadd, 1)) ∧ (decode cL_law 975 = .ok (.iaload, 1)) ∧ (decode cL_law 976 = .ok (.aload_n 0, 1)) ∧ (decode cL_law 977 = .ok (.iload_n 3, 1)) ∧ (decode cL_law 978 = .ok (.iconst 3, 1)) ∧ (decode cL_law 979 = .ok (.iadd, 1)) ∧ (decode cL_law 980 = .ok (.iaload, 1)) ∧ (decode cL_law 981 = .ok (.aload_n 0, 1)) ∧ (decode cL_law 982 = .ok (.iload_n 3, 1)) ∧ (decode cL_law 983 = .ok (.iconst 4, 1)) ∧ (decode cL_law 984 = .ok (.iadd, 1)) ∧ (decode cL_law 985 = .ok (.iaload, 1)) := by decide +kernel
theorem dL_law_970 : decode cL_law 970 = .ok (.iaload, 1) := dLb_40.1
theorem dL_law_971 : decode cL_law 971 = .ok (.aload_n 0, 1) := dLb_40.2.1
theorem dL_law_972 : decode cL_law 972 = .ok (.iload_n 3, 1) := dLb_40.2.2.1
theorem dL_law_973 : decode cL_law 973 = .ok (.iconst 2, 1) := dLb_40.2.2.2.1
theorem dL_law_974 : decode cL_law 974 = .ok (.iadd, 1) := dLb_40.2.2.2.2.1
theorem dL_law_975 : decode cL_law 975 = .ok (.iaload, 1) := dLb_40.2.2.2.2.2.1
theorem dL_law_976 : decode cL_law 976 = .ok (.aload_n 0, 1) := dLb_40.2.2.2.2.2.2.1
theorem dL_law_977 : decode cL_law 977 = .ok (.iload_n 3, 1) := dLb_40.2.2.2.2.2.2.2.1
theorem dL_law_978 : decode cL_law 978 = .ok (.iconst 3, 1) := dLb_40.2.2.2.2.2.2.2.2.1
theorem dL_law_979 : decode cL_law 979 = .ok (.iadd, 1) := dLb_40.2.2.2.2.2.2.2.2.2.1
theorem dL_law_980 : decode cL_law 980 = .ok (.iaload, 1) := dLb_40.2.2.2.2.2.2.2.2.2.2.1
theorem dL_law_981 : decode cL_law 981 = .ok (.aload_n 0, 1) := dLb_40.2.2.2.2.2.2.2.2.2.2.2.1
theorem dL_law_982 : decode cL_law 982 = .ok (.iload_n 3, 1) := dLb_40.2.2.2.2.2.2.2.2.2.2.2.2.1
theorem dL_law_983 : decode cL_law 983 = .ok (.iconst 4, 1) := dLb_40.2.2.2.2.2.2.2.2.2.2.2.2.2.1
theorem dL_law_984 : decode cL_law 984 = .ok (.iadd, 1) := dLb_40.2.2.2.2.2.2.2.2.2.2.2.2.2.2.1
theorem dL_law_985 : decode cL_law 985 = .ok (.iaload, 1) := dLb_40.2.2.2.2.2.2.2.2.2.2.2.2.2.2.2
theorem dLb_41 : (decode cL_law 986 = .ok (.ifCond .eq 7, 3)) ∧ (decode cL_law 989 = .ok (.iconst 1, 1)) ∧ (decode cL_law 990 = .ok (.goto 4, 3)) ∧ (decode cL_law 993 = .ok (.iconst 0, 1)) ∧ (decode cL_law 994 = .ok (.invokevirtual 106, 3)) ∧ (decode cL_law 997 = .ok (.pop2, 1)) ∧ (decode cL_law 998 = .ok (.goto 347, 3)) ∧ (decode cL_law 1001 = .ok (.aload_n 1, 1)) ∧ (decode cL_law 1002 = .ok (.aload_n 0, 1)) ∧ (decode cL_law 1003 = .ok (.iload_n 3, 1)) ∧ (decode cL_law 1004 = .ok (.iconst 1, 1)) ∧ (decode cL_law 1005 = .ok (.iadd, 1)) ∧ (decode cL_law 1006 = .ok (.iaload, 1)) ∧ (decode cL_law 1007 = .ok (.aload_n 0, 1)) ∧ (decode cL_law 1008 = .ok (.iload_n 3, 1)) ∧ (decode cL_law 1009 = .ok (.iconst 2, 1)) := by decide +kernel
theorem dL_law_986 : decode cL_law 986 = .ok (.ifCond .eq 7, 3) := dLb_41.1
theorem dL_law_989 : decode cL_law 989 = .ok (.iconst 1, 1) := dLb_41.2.1
theorem dL_law_990 : decode cL_law 990 = .ok (.goto 4, 3) := dLb_41.2.2.1
theorem dL_law_993 : decode cL_law 993 = .ok (.iconst 0, 1) := dLb_41.2.2.2.1
theorem dL_law_994 : decode cL_law 994 = .ok (.invokevirtual 106, 3) := dLb_41.2.2.2.2.1
theorem dL_law_997 : decode cL_law 997 = .ok (.pop2, 1) := dLb_41.2.2.2.2.2.1
theorem dL_law_998 : decode cL_law 998 = .ok (.goto 347, 3) := dLb_41.2.2.2.2.2.2.1
theorem dL_law_1001 : decode cL_law 1001 = .ok (.aload_n 1, 1) := dLb_41.2.2.2.2.2.2.2.1
theorem dL_law_1002 : decode cL_law 1002 = .ok (.aload_n 0, 1) := dLb_41.2.2.2.2.2.2.2.2.1
theorem dL_law_1003 : decode cL_law 1003 = .ok (.iload_n 3, 1) := dLb_41.2.2.2.2.2.2.2.2.2.1
theorem dL_law_1004 : decode cL_law 1004 = .ok (.iconst 1, 1) := dLb_41.2.2.2.2.2.2.2.2.2.2.1
theorem dL_law_1005 : decode cL_law 1005 = .ok (.iadd, 1) := dLb_41.2.2.2.2.2.2.2.2.2.2.2.1
theorem dL_law_1006 : decode cL_law 1006 = .ok (.iaload, 1) := dLb_41.2.2.2.2.2.2.2.2.2.2.2.2.1
theorem dL_law_1007 : decode cL_law 1007 = .ok (.aload_n 0, 1) := dLb_41.2.2.2.2.2.2.2.2.2.2.2.2.2.1
theorem dL_law_1008 : decode cL_law 1008 = .ok (.iload_n 3, 1) := dLb_41.2.2.2.2.2.2.2.2.2.2.2.2.2.2.1
theorem dL_law_1009 : decode cL_law 1009 = .ok (.iconst 2, 1) := dLb_41.2.2.2.2.2.2.2.2.2.2.2.2.2.2.2
theorem dLb_42 : (decode cL_law 1010 = .ok (.iadd, 1)) ∧ (decode cL_law 1011 = .ok (.iaload, 1)) ∧ (decode cL_law 1012 = .ok (.ifCond .eq 7, 3)) ∧ (decode cL_law 1015 = .ok (.iconst 1, 1)) ∧ (decode cL_law 1016 = .ok (.goto 4, 3)) ∧ (decode cL_law 1019 = .ok (.iconst 0, 1)) ∧ (decode cL_law 1020 = .ok (.invokevirtual 107, 3)) ∧ (decode cL_law 1023 = .ok (.pop2, 1)) ∧ (decode cL_law 1024 = .ok (.aload_n 2, 1)) ∧ (decode cL_law 1025 = .ok (.aload_n 0, 1)) ∧ (decode cL_law 1026 = .ok (.iload_n 3, 1)) ∧ (decode cL_law 1027 = .ok (.iconst 1, 1)) ∧ (decode cL_law 1028 = .ok (.iadd, 1)) ∧ (decode cL_law 1029 = .ok (.iaload, 1)) ∧ (decode cL_law 1030 = .ok (.aload_n 0, 1)) ∧ (decode cL_law 1031 = .ok (.iload_n 3, 1)) := by decide +kernel
theorem dL_law_1010 : decode cL_law 1010 = .ok (.iadd, 1) := dLb_42.1
theorem dL_law_1011 : decode cL_law 1011 = .ok (.iaload, 1) := dLb_42.2.1
theorem dL_law_1012 : decode cL_law 1012 = .ok (.ifCond .eq 7, 3) := dLb_42.2.2.1
theorem dL_law_1015 : decode cL_law 1015 = .ok (.iconst 1, 1) := dLb_42.2.2.2.1
theorem dL_law_1016 : decode cL_law 1016 = .ok (.goto 4, 3) := dLb_42.2.2.2.2.1
theorem dL_law_1019 : decode cL_law 1019 = .ok (.iconst 0, 1) := dLb_42.2.2.2.2.2.1
theorem dL_law_1020 : decode cL_law 1020 = .ok (.invokevirtual 107, 3) := dLb_42.2.2.2.2.2.2.1
theorem dL_law_1023 : decode cL_law 1023 = .ok (.pop2, 1) := dLb_42.2.2.2.2.2.2.2.1
theorem dL_law_1024 : decode cL_law 1024 = .ok (.aload_n 2, 1) := dLb_42.2.2.2.2.2.2.2.2.1
theorem dL_law_1025 : decode cL_law 1025 = .ok (.aload_n 0, 1) := dLb_42.2.2.2.2.2.2.2.2.2.1
theorem dL_law_1026 : decode cL_law 1026 = .ok (.iload_n 3, 1) := dLb_42.2.2.2.2.2.2.2.2.2.2.1
theorem dL_law_1027 : decode cL_law 1027 = .ok (.iconst 1, 1) := dLb_42.2.2.2.2.2.2.2.2.2.2.2.1
theorem dL_law_1028 : decode cL_law 1028 = .ok (.iadd, 1) := dLb_42.2.2.2.2.2.2.2.2.2.2.2.2.1
theorem dL_law_1029 : decode cL_law 1029 = .ok (.iaload, 1) := dLb_42.2.2.2.2.2.2.2.2.2.2.2.2.2.1
theorem dL_law_1030 : decode cL_law 1030 = .ok (.aload_n 0, 1) := dLb_42.2.2.2.2.2.2.2.2.2.2.2.2.2.2.1
theorem dL_law_1031 : decode cL_law 1031 = .ok (.iload_n 3, 1) := dLb_42.2.2.2.2.2.2.2.2.2.2.2.2.2.2.2
theorem dLb_43 : (decode cL_law 1032 = .ok (.iconst 2, 1)) ∧ (decode cL_law 1033 = .ok (.iadd, 1)) ∧ (decode cL_law 1034 = .ok (.iaload, 1)) ∧ (decode cL_law 1035 = .ok (.ifCond .eq 7, 3)) ∧ (decode cL_law 1038 = .ok (.iconst 1, 1)) ∧ (decode cL_law 1039 = .ok (.goto 4, 3)) ∧ (decode cL_law 1042 = .ok (.iconst 0, 1)) ∧ (decode cL_law 1043 = .ok (.invokevirtual 110, 3)) ∧ (decode cL_law 1046 = .ok (.pop2, 1)) ∧ (decode cL_law 1047 = .ok (.goto 298, 3)) ∧ (decode cL_law 1050 = .ok (.aload_n 1, 1)) ∧ (decode cL_law 1051 = .ok (.aload_n 0, 1)) ∧ (decode cL_law 1052 = .ok (.iload_n 3, 1)) ∧ (decode cL_law 1053 = .ok (.iconst 1, 1)) ∧ (decode cL_law 1054 = .ok (.iadd, 1)) ∧ (decode cL_law 1055 = .ok (.iaload, 1)) := by decide +kernel
theorem dL_law_1032 : decode cL_law 1032 = .ok (.iconst 2, 1) := dLb_43.1
theorem dL_law_1033 : decode cL_law 1033 = .ok (.iadd, 1) := dLb_43.2.1
theorem dL_law_1034 : decode cL_law 1034 = .ok (.iaload, 1) := dLb_43.2.2.1
theorem dL_law_1035 : decode cL_law 1035 = .ok (.ifCond .eq 7, 3) := dLb_43.2.2.2.1
theorem dL_law_1038 : decode cL_law 1038 = .ok (.iconst 1, 1) := dLb_43.2.2.2.2.1
theorem dL_law_1039 : decode cL_law 1039 = .ok (.goto 4, 3) := dLb_43.2.2.2.2.2.1
theorem dL_law_1042 : decode cL_law 1042 = .ok (.iconst 0, 1) := dLb_43.2.2.2.2.2.2.1
theorem dL_law_1043 : decode cL_law 1043 = .ok (.invokevirtual 110, 3) := dLb_43.2.2.2.2.2.2.2.1
theorem dL_law_1046 : decode cL_law 1046 = .ok (.pop2, 1) := dLb_43.2.2.2.2.2.2.2.2.1
theorem dL_law_1047 : decode cL_law 1047 = .ok (.goto 298, 3) := dLb_43.2.2.2.2.2.2.2.2.2.1
theorem dL_law_1050 : decode cL_law 1050 = .ok (.aload_n 1, 1) := dLb_43.2.2.2.2.2.2.2.2.2.2.1
theorem dL_law_1051 : decode cL_law 1051 = .ok (.aload_n 0, 1) := dLb_43.2.2.2.2.2.2.2.2.2.2.2.1
theorem dL_law_1052 : decode cL_law 1052 = .ok (.iload_n 3, 1) := dLb_43.2.2.2.2.2.2.2.2.2.2.2.2.1
theorem dL_law_1053 : decode cL_law 1053 = .ok (.iconst 1, 1) := dLb_43.2.2.2.2.2.2.2.2.2.2.2.2.2.1
theorem dL_law_1054 : decode cL_law 1054 = .ok (.iadd, 1) := dLb_43.2.2.2.2.2.2.2.2.2.2.2.2.2.2.1
theorem dL_law_1055 : decode cL_law 1055 = .ok (.iaload, 1) := dLb_43.2.2.2.2.2.2.2.2.2.2.2.2.2.2.2
theorem dLb_44 : (decode cL_law 1056 = .ok (.aload_n 0, 1)) ∧ (decode cL_law 1057 = .ok (.iload_n 3, 1)) ∧ (decode cL_law 1058 = .ok (.iconst 2, 1)) ∧ (decode cL_law 1059 = .ok (.iadd, 1)) ∧ (decode cL_law 1060 = .ok (.iaload, 1)) ∧ (decode cL_law 1061 = .ok (.aload_n 0, 1)) ∧ (decode cL_law 1062 = .ok (.iload_n 3, 1)) ∧ (decode cL_law 1063 = .ok (.iconst 3, 1)) ∧ (decode cL_law 1064 = .ok (.iadd, 1)) ∧ (decode cL_law 1065 = .ok (.iaload, 1)) ∧ (decode cL_law 1066 = .ok (.invokevirtual 111, 3)) ∧ (decode cL_law 1069 = .ok (.pop2, 1)) ∧ (decode cL_law 1070 = .ok (.aload_n 2, 1)) ∧ (decode cL_law 1071 = .ok (.aload_n 0, 1)) ∧ (decode cL_law 1072 = .ok (.iload_n 3, 1)) ∧ (decode cL_law 1073 = .ok (.iconst 1, 1)) := by decide +kernel
theorem dL_law_1056 : decode cL_law 1056 = .ok (.aload_n 0, 1) := dLb_44.1
theorem dL_law_1057 : decode cL_law 1057 = .ok (.iload_n 3, 1) := dLb_44.2.1
theorem dL_law_1058 : decode cL_law 1058 = .ok (.iconst 2, 1) := dLb_44.2.2.1
theorem dL_law_1059 : decode cL_law 1059 = .ok (.iadd, 1) := dLb_44.2.2.2.1
theorem dL_law_1060 : decode cL_law 1060 = .ok (.iaload, 1) := dLb_44.2.2.2.2.1
theorem dL_law_1061 : decode cL_law 1061 = .ok (.aload_n 0, 1) := dLb_44.2.2.2.2.2.1
theorem dL_law_1062 : decode cL_law 1062 = .ok (.iload_n 3, 1) := dLb_44.2.2.2.2.2.2.1
theorem dL_law_1063 : decode cL_law 1063 = .ok (.iconst 3, 1) := dLb_44.2.2.2.2.2.2.2.1
theorem dL_law_1064 : decode cL_law 1064 = .ok (.iadd, 1) := dLb_44.2.2.2.2.2.2.2.2.1
theorem dL_law_1065 : decode cL_law 1065 = .ok (.iaload, 1) := dLb_44.2.2.2.2.2.2.2.2.2.1
theorem dL_law_1066 : decode cL_law 1066 = .ok (.invokevirtual 111, 3) := dLb_44.2.2.2.2.2.2.2.2.2.2.1
theorem dL_law_1069 : decode cL_law 1069 = .ok (.pop2, 1) := dLb_44.2.2.2.2.2.2.2.2.2.2.2.1
theorem dL_law_1070 : decode cL_law 1070 = .ok (.aload_n 2, 1) := dLb_44.2.2.2.2.2.2.2.2.2.2.2.2.1
theorem dL_law_1071 : decode cL_law 1071 = .ok (.aload_n 0, 1) := dLb_44.2.2.2.2.2.2.2.2.2.2.2.2.2.1
theorem dL_law_1072 : decode cL_law 1072 = .ok (.iload_n 3, 1) := dLb_44.2.2.2.2.2.2.2.2.2.2.2.2.2.2.1
theorem dL_law_1073 : decode cL_law 1073 = .ok (.iconst 1, 1) := dLb_44.2.2.2.2.2.2.2.2.2.2.2.2.2.2.2
theorem dLb_45 : (decode cL_law 1074 = .ok (.iadd, 1)) ∧ (decode cL_law 1075 = .ok (.iaload, 1)) ∧ (decode cL_law 1076 = .ok (.aload_n 0, 1)) ∧ (decode cL_law 1077 = .ok (.iload_n 3, 1)) ∧ (decode cL_law 1078 = .ok (.iconst 2, 1)) ∧ (decode cL_law 1079 = .ok (.iadd, 1)) ∧ (decode cL_law 1080 = .ok (.iaload, 1)) ∧ (decode cL_law 1081 = .ok (.aload_n 0, 1)) ∧ (decode cL_law 1082 = .ok (.iload_n 3, 1)) ∧ (decode cL_law 1083 = .ok (.iconst 3, 1)) ∧ (decode cL_law 1084 = .ok (.iadd, 1)) ∧ (decode cL_law 1085 = .ok (.iaload, 1)) ∧ (decode cL_law 1086 = .ok (.invokevirtual 114, 3)) ∧ (decode cL_law 1089 = .ok (.pop2, 1)) ∧ (decode cL_law 1090 = .ok (.goto 255, 3)) ∧ (decode cL_law 1093 = .ok (.aload_n 1, 1)) := by decide +kernel
theorem dL_law_1074 : decode cL_law 1074 = .ok (.iadd, 1) := dLb_45.1
theorem dL_law_1075 : decode cL_law 1075 = .ok (.iaload, 1) := dLb_45.2.1
theorem dL_law_1076 : decode cL_law 1076 = .ok (.aload_n 0, 1) := dLb_45.2.2.1
theorem dL_law_1077 : decode cL_law 1077 = .ok (.iload_n 3, 1) := dLb_45.2.2.2.1
theorem dL_law_1078 : decode cL_law 1078 = .ok (.iconst 2, 1) := dLb_45.2.2.2.2.1
theorem dL_law_1079 : decode cL_law 1079 = .ok (.iadd, 1) := dLb_45.2.2.2.2.2.1
theorem dL_law_1080 : decode cL_law 1080 = .ok (.iaload, 1) := dLb_45.2.2.2.2.2.2.1
theorem dL_law_1081 : decode cL_law 1081 = .ok (.aload_n 0, 1) := dLb_45.2.2.2.2.2.2.2.1
theorem dL_law_1082 : decode cL_law 1082 = .ok (.iload_n 3, 1) := dLb_45.2.2.2.2.2.2.2.2.1
theorem dL_law_1083 : decode cL_law 1083 = .ok (.iconst 3, 1) := dLb_45.2.2.2.2.2.2.2.2.2.1
theorem dL_law_1084 : decode cL_law 1084 = .ok (.iadd, 1) := dLb_45.2.2.2.2.2.2.2.2.2.2.1
theorem dL_law_1085 : decode cL_law 1085 = .ok (.iaload, 1) := dLb_45.2.2.2.2.2.2.2.2.2.2.2.1
theorem dL_law_1086 : decode cL_law 1086 = .ok (.invokevirtual 114, 3) := dLb_45.2.2.2.2.2.2.2.2.2.2.2.2.1
theorem dL_law_1089 : decode cL_law 1089 = .ok (.pop2, 1) := dLb_45.2.2.2.2.2.2.2.2.2.2.2.2.2.1
theorem dL_law_1090 : decode cL_law 1090 = .ok (.goto 255, 3) := dLb_45.2.2.2.2.2.2.2.2.2.2.2.2.2.2.1
theorem dL_law_1093 : decode cL_law 1093 = .ok (.aload_n 1, 1) := dLb_45.2.2.2.2.2.2.2.2.2.2.2.2.2.2.2
theorem dLb_46 : (decode cL_law 1094 = .ok (.aload_n 0, 1)) ∧ (decode cL_law 1095 = .ok (.iload_n 3, 1)) ∧ (decode cL_law 1096 = .ok (.iconst 1, 1)) ∧ (decode cL_law 1097 = .ok (.iadd, 1)) ∧ (decode cL_law 1098 = .ok (.iaload, 1)) ∧ (decode cL_law 1099 = .ok (.aload_n 0, 1)) ∧ (decode cL_law 1100 = .ok (.iload_n 3, 1)) ∧ (decode cL_law 1101 = .ok (.iconst 2, 1)) ∧ (decode cL_law 1102 = .ok (.iadd, 1)) ∧ (decode cL_law 1103 = .ok (.iaload, 1)) ∧ (decode cL_law 1104 = .ok (.aload_n 0, 1)) ∧ (decode cL_law 1105 = .ok (.iload_n 3, 1)) ∧ (decode cL_law 1106 = .ok (.iconst 3, 1)) ∧ (decode cL_law 1107 = .ok (.iadd, 1)) ∧ (decode cL_law 1108 = .ok (.iaload, 1)) ∧ (decode cL_law 1109 = .ok (.invokevirtual 115, 3)) := by decide +kernel
theorem dL_law_1094 : decode cL_law 1094 = .ok (.aload_n 0, 1) := dLb_46.1
theorem dL_law_1095 : decode cL_law 1095 = .ok (.iload_n 3, 1) := dLb_46.2.1
theorem dL_law_1096 : decode cL_law 1096 = .ok (.iconst 1, 1) := dLb_46.2.2.1
theorem dL_law_1097 : decode cL_law 1097 = .ok (.iadd, 1) := dLb_46.2.2.2.1
theorem dL_law_1098 : decode cL_law 1098 = .ok (.iaload, 1) := dLb_46.2.2.2.2.1
theorem dL_law_1099 : decode cL_law 1099 = .ok (.aload_n 0, 1) := dLb_46.2.2.2.2.2.1
theorem dL_law_1100 : decode cL_law 1100 = .ok (.iload_n 3, 1) := dLb_46.2.2.2.2.2.2.1
theorem dL_law_1101 : decode cL_law 1101 = .ok (.iconst 2, 1) := dLb_46.2.2.2.2.2.2.2.1
theorem dL_law_1102 : decode cL_law 1102 = .ok (.iadd, 1) := dLb_46.2.2.2.2.2.2.2.2.1
theorem dL_law_1103 : decode cL_law 1103 = .ok (.iaload, 1) := dLb_46.2.2.2.2.2.2.2.2.2.1
theorem dL_law_1104 : decode cL_law 1104 = .ok (.aload_n 0, 1) := dLb_46.2.2.2.2.2.2.2.2.2.2.1
theorem dL_law_1105 : decode cL_law 1105 = .ok (.iload_n 3, 1) := dLb_46.2.2.2.2.2.2.2.2.2.2.2.1
theorem dL_law_1106 : decode cL_law 1106 = .ok (.iconst 3, 1) := dLb_46.2.2.2.2.2.2.2.2.2.2.2.2.1
theorem dL_law_1107 : decode cL_law 1107 = .ok (.iadd, 1) := dLb_46.2.2.2.2.2.2.2.2.2.2.2.2.2.1
theorem dL_law_1108 : decode cL_law 1108 = .ok (.iaload, 1) := dLb_46.2.2.2.2.2.2.2.2.2.2.2.2.2.2.1
theorem dL_law_1109 : decode cL_law 1109 = .ok (.invokevirtual 115, 3) := dLb_46.2.2.2.2.2.2.2.2.2.2.2.2.2.2.2
theorem dLb_47 : (decode cL_law 1112 = .ok (.pop2, 1)) ∧ (decode cL_law 1113 = .ok (.aload_n 2, 1)) ∧ (decode cL_law 1114 = .ok (.aload_n 0, 1)) ∧ (decode cL_law 1115 = .ok (.iload_n 3, 1)) ∧ (decode cL_law 1116 = .ok (.iconst 1, 1)) ∧ (decode cL_law 1117 = .ok (.iadd, 1)) ∧ (decode cL_law 1118 = .ok (.iaload, 1)) ∧ (decode cL_law 1119 = .ok (.aload_n 0, 1)) ∧ (decode cL_law 1120 = .ok (.iload_n 3, 1)) ∧ (decode cL_law 1121 = .ok (.iconst 2, 1)) ∧ (decode cL_law 1122 = .ok (.iadd, 1)) ∧ (decode cL_law 1123 = .ok (.iaload, 1)) ∧ (decode cL_law 1124 = .ok (.aload_n 0, 1)) ∧ (decode cL_law 1125 = .ok (.iload_n 3, 1)) ∧ (decode cL_law 1126 = .ok (.iconst 3, 1)) ∧ (decode cL_law 1127 = .ok (.iadd, 1)) := by decide +kernel
theorem dL_law_1112 : decode cL_law 1112 = .ok (.pop2, 1) := dLb_47.1
theorem dL_law_1113 : decode cL_law 1113 = .ok (.aload_n 2, 1) := dLb_47.2.1
theorem dL_law_1114 : decode cL_law 1114 = .ok (.aload_n 0, 1) := dLb_47.2.2.1
theorem dL_law_1115 : decode cL_law 1115 = .ok (.iload_n 3, 1) := dLb_47.2.2.2.1
theorem dL_law_1116 : decode cL_law 1116 = .ok (.iconst 1, 1) := dLb_47.2.2.2.2.1
theorem dL_law_1117 : decode cL_law 1117 = .ok (.iadd, 1) := dLb_47.2.2.2.2.2.1
theorem dL_law_1118 : decode cL_law 1118 = .ok (.iaload, 1) := dLb_47.2.2.2.2.2.2.1
theorem dL_law_1119 : decode cL_law 1119 = .ok (.aload_n 0, 1) := dLb_47.2.2.2.2.2.2.2.1
theorem dL_law_1120 : decode cL_law 1120 = .ok (.iload_n 3, 1) := dLb_47.2.2.2.2.2.2.2.2.1
theorem dL_law_1121 : decode cL_law 1121 = .ok (.iconst 2, 1) := dLb_47.2.2.2.2.2.2.2.2.2.1
theorem dL_law_1122 : decode cL_law 1122 = .ok (.iadd, 1) := dLb_47.2.2.2.2.2.2.2.2.2.2.1
theorem dL_law_1123 : decode cL_law 1123 = .ok (.iaload, 1) := dLb_47.2.2.2.2.2.2.2.2.2.2.2.1
theorem dL_law_1124 : decode cL_law 1124 = .ok (.aload_n 0, 1) := dLb_47.2.2.2.2.2.2.2.2.2.2.2.2.1
theorem dL_law_1125 : decode cL_law 1125 = .ok (.iload_n 3, 1) := dLb_47.2.2.2.2.2.2.2.2.2.2.2.2.2.1
theorem dL_law_1126 : decode cL_law 1126 = .ok (.iconst 3, 1) := dLb_47.2.2.2.2.2.2.2.2.2.2.2.2.2.2.1
theorem dL_law_1127 : decode cL_law 1127 = .ok (.iadd, 1) := dLb_47.2.2.2.2.2.2.2.2.2.2.2.2.2.2.2
theorem dLb_48 : (decode cL_law 1128 = .ok (.iaload, 1)) ∧ (decode cL_law 1129 = .ok (.invokevirtual 118, 3)) ∧ (decode cL_law 1132 = .ok (.pop2, 1)) ∧ (decode cL_law 1133 = .ok (.goto 212, 3)) ∧ (decode cL_law 1136 = .ok (.aload_n 1, 1)) ∧ (decode cL_law 1137 = .ok (.aload_n 0, 1)) ∧ (decode cL_law 1138 = .ok (.iload_n 3, 1)) ∧ (decode cL_law 1139 = .ok (.iconst 1, 1)) ∧ (decode cL_law 1140 = .ok (.iadd, 1)) ∧ (decode cL_law 1141 = .ok (.iaload, 1)) ∧ (decode cL_law 1142 = .ok (.aload_n 0, 1)) ∧ (decode cL_law 1143 = .ok (.iload_n 3, 1)) ∧ (decode cL_law 1144 = .ok (.iconst 2, 1)) ∧ (decode cL_law 1145 = .ok (.iadd, 1)) ∧ (decode cL_law 1146 = .ok (.iaload, 1)) ∧ (decode cL_law 1147 = .ok (.aload_n 0, 1)) := by decide +kernel
theorem dL_law_1128 : decode cL_law 1128 = .ok (.iaload, 1) := dLb_48.1
theorem dL_law_1129 : decode cL_law 1129 = .ok (.invokevirtual 118, 3) := dLb_48.2.1
theorem dL_law_1132 : decode cL_law 1132 = .ok (.pop2, 1) := dLb_48.2.2.1
theorem dL_law_1133 : decode cL_law 1133 = .ok (.goto 212, 3) := dLb_48.2.2.2.1
theorem dL_law_1136 : decode cL_law 1136 = .ok (.aload_n 1, 1) := dLb_48.2.2.2.2.1
theorem dL_law_1137 : decode cL_law 1137 = .ok (.aload_n 0, 1) := dLb_48.2.2.2.2.2.1
theorem dL_law_1138 : decode cL_law 1138 = .ok (.iload_n 3, 1) := dLb_48.2.2.2.2.2.2.1
theorem dL_law_1139 : decode cL_law 1139 = .ok (.iconst 1, 1) := dLb_48.2.2.2.2.2.2.2.1
theorem dL_law_1140 : decode cL_law 1140 = .ok (.iadd, 1) := dLb_48.2.2.2.2.2.2.2.2.1
theorem dL_law_1141 : decode cL_law 1141 = .ok (.iaload, 1) := dLb_48.2.2.2.2.2.2.2.2.2.1
theorem dL_law_1142 : decode cL_law 1142 = .ok (.aload_n 0, 1) := dLb_48.2.2.2.2.2.2.2.2.2.2.1
theorem dL_law_1143 : decode cL_law 1143 = .ok (.iload_n 3, 1) := dLb_48.2.2.2.2.2.2.2.2.2.2.2.1
theorem dL_law_1144 : decode cL_law 1144 = .ok (.iconst 2, 1) := dLb_48.2.2.2.2.2.2.2.2.2.2.2.2.1
theorem dL_law_1145 : decode cL_law 1145 = .ok (.iadd, 1) := dLb_48.2.2.2.2.2.2.2.2.2.2.2.2.2.1
theorem dL_law_1146 : decode cL_law 1146 = .ok (.iaload, 1) := dLb_48.2.2.2.2.2.2.2.2.2.2.2.2.2.2.1
theorem dL_law_1147 : decode cL_law 1147 = .ok (.aload_n 0, 1) := dLb_48.2.2.2.2.2.2.2.2.2.2.2.2.2.2.2
theorem dLb_49 : (decode cL_law 1148 = .ok (.iload_n 3, 1)) ∧ (decode cL_law 1149 = .ok (.iconst 3, 1)) ∧ (decode cL_law 1150 = .ok (.iadd, 1)) ∧ (decode cL_law 1151 = .ok (.iaload, 1)) ∧ (decode cL_law 1152 = .ok (.invokevirtual 119, 3)) ∧ (decode cL_law 1155 = .ok (.pop2, 1)) ∧ (decode cL_law 1156 = .ok (.aload_n 2, 1)) ∧ (decode cL_law 1157 = .ok (.aload_n 0, 1)) ∧ (decode cL_law 1158 = .ok (.iload_n 3, 1)) ∧ (decode cL_law 1159 = .ok (.iconst 1, 1)) ∧ (decode cL_law 1160 = .ok (.iadd, 1)) ∧ (decode cL_law 1161 = .ok (.iaload, 1)) ∧ (decode cL_law 1162 = .ok (.aload_n 0, 1)) ∧ (decode cL_law 1163 = .ok (.iload_n 3, 1)) ∧ (decode cL_law 1164 = .ok (.iconst 2, 1)) ∧ (decode cL_law 1165 = .ok (.iadd, 1)) := by decide +kernel
theorem dL_law_1148 : decode cL_law 1148 = .ok (.iload_n 3, 1) := dLb_49.1
theorem dL_law_1149 : decode cL_law 1149 = .ok (.iconst 3, 1) := dLb_49.2.1
theorem dL_law_1150 : decode cL_law 1150 = .ok (.iadd, 1) := dLb_49.2.2.1
theorem dL_law_1151 : decode cL_law 1151 = .ok (.iaload, 1) := dLb_49.2.2.2.1
theorem dL_law_1152 : decode cL_law 1152 = .ok (.invokevirtual 119, 3) := dLb_49.2.2.2.2.1
theorem dL_law_1155 : decode cL_law 1155 = .ok (.pop2, 1) := dLb_49.2.2.2.2.2.1
theorem dL_law_1156 : decode cL_law 1156 = .ok (.aload_n 2, 1) := dLb_49.2.2.2.2.2.2.1
theorem dL_law_1157 : decode cL_law 1157 = .ok (.aload_n 0, 1) := dLb_49.2.2.2.2.2.2.2.1
theorem dL_law_1158 : decode cL_law 1158 = .ok (.iload_n 3, 1) := dLb_49.2.2.2.2.2.2.2.2.1
theorem dL_law_1159 : decode cL_law 1159 = .ok (.iconst 1, 1) := dLb_49.2.2.2.2.2.2.2.2.2.1
theorem dL_law_1160 : decode cL_law 1160 = .ok (.iadd, 1) := dLb_49.2.2.2.2.2.2.2.2.2.2.1
theorem dL_law_1161 : decode cL_law 1161 = .ok (.iaload, 1) := dLb_49.2.2.2.2.2.2.2.2.2.2.2.1
theorem dL_law_1162 : decode cL_law 1162 = .ok (.aload_n 0, 1) := dLb_49.2.2.2.2.2.2.2.2.2.2.2.2.1
theorem dL_law_1163 : decode cL_law 1163 = .ok (.iload_n 3, 1) := dLb_49.2.2.2.2.2.2.2.2.2.2.2.2.2.1
theorem dL_law_1164 : decode cL_law 1164 = .ok (.iconst 2, 1) := dLb_49.2.2.2.2.2.2.2.2.2.2.2.2.2.2.1
theorem dL_law_1165 : decode cL_law 1165 = .ok (.iadd, 1) := dLb_49.2.2.2.2.2.2.2.2.2.2.2.2.2.2.2
theorem dLb_50 : (decode cL_law 1166 = .ok (.iaload, 1)) ∧ (decode cL_law 1167 = .ok (.aload_n 0, 1)) ∧ (decode cL_law 1168 = .ok (.iload_n 3, 1)) ∧ (decode cL_law 1169 = .ok (.iconst 3, 1)) ∧ (decode cL_law 1170 = .ok (.iadd, 1)) ∧ (decode cL_law 1171 = .ok (.iaload, 1)) ∧ (decode cL_law 1172 = .ok (.invokevirtual 122, 3)) ∧ (decode cL_law 1175 = .ok (.pop2, 1)) ∧ (decode cL_law 1176 = .ok (.goto 169, 3)) ∧ (decode cL_law 1179 = .ok (.aload_n 1, 1)) ∧ (decode cL_law 1180 = .ok (.aload_n 0, 1)) ∧ (decode cL_law 1181 = .ok (.iload_n 3, 1)) ∧ (decode cL_law 1182 = .ok (.iconst 1, 1)) ∧ (decode cL_law 1183 = .ok (.iadd, 1)) ∧ (decode cL_law 1184 = .ok (.iaload, 1)) ∧ (decode cL_law 1185 = .ok (.aload_n 0, 1)) := by decide +kernel
theorem dL_law_1166 : decode cL_law 1166 = .ok (.iaload, 1) := dLb_50.1
theorem dL_law_1167 : decode cL_law 1167 = .ok (.aload_n 0, 1) := dLb_50.2.1
theorem dL_law_1168 : decode cL_law 1168 = .ok (.iload_n 3, 1) := dLb_50.2.2.1
theorem dL_law_1169 : decode cL_law 1169 = .ok (.iconst 3, 1) := dLb_50.2.2.2.1
theorem dL_law_1170 : decode cL_law 1170 = .ok (.iadd, 1) := dLb_50.2.2.2.2.1
theorem dL_law_1171 : decode cL_law 1171 = .ok (.iaload, 1) := dLb_50.2.2.2.2.2.1
theorem dL_law_1172 : decode cL_law 1172 = .ok (.invokevirtual 122, 3) := dLb_50.2.2.2.2.2.2.1
theorem dL_law_1175 : decode cL_law 1175 = .ok (.pop2, 1) := dLb_50.2.2.2.2.2.2.2.1
theorem dL_law_1176 : decode cL_law 1176 = .ok (.goto 169, 3) := dLb_50.2.2.2.2.2.2.2.2.1
theorem dL_law_1179 : decode cL_law 1179 = .ok (.aload_n 1, 1) := dLb_50.2.2.2.2.2.2.2.2.2.1
theorem dL_law_1180 : decode cL_law 1180 = .ok (.aload_n 0, 1) := dLb_50.2.2.2.2.2.2.2.2.2.2.1
theorem dL_law_1181 : decode cL_law 1181 = .ok (.iload_n 3, 1) := dLb_50.2.2.2.2.2.2.2.2.2.2.2.1
theorem dL_law_1182 : decode cL_law 1182 = .ok (.iconst 1, 1) := dLb_50.2.2.2.2.2.2.2.2.2.2.2.2.1
theorem dL_law_1183 : decode cL_law 1183 = .ok (.iadd, 1) := dLb_50.2.2.2.2.2.2.2.2.2.2.2.2.2.1
theorem dL_law_1184 : decode cL_law 1184 = .ok (.iaload, 1) := dLb_50.2.2.2.2.2.2.2.2.2.2.2.2.2.2.1
theorem dL_law_1185 : decode cL_law 1185 = .ok (.aload_n 0, 1) := dLb_50.2.2.2.2.2.2.2.2.2.2.2.2.2.2.2
theorem dLb_51 : (decode cL_law 1186 = .ok (.iload_n 3, 1)) ∧ (decode cL_law 1187 = .ok (.iconst 2, 1)) ∧ (decode cL_law 1188 = .ok (.iadd, 1)) ∧ (decode cL_law 1189 = .ok (.iaload, 1)) ∧ (decode cL_law 1190 = .ok (.aload_n 0, 1)) ∧ (decode cL_law 1191 = .ok (.iload_n 3, 1)) ∧ (decode cL_law 1192 = .ok (.iconst 3, 1)) ∧ (decode cL_law 1193 = .ok (.iadd, 1)) ∧ (decode cL_law 1194 = .ok (.iaload, 1)) ∧ (decode cL_law 1195 = .ok (.invokevirtual 123, 3)) ∧ (decode cL_law 1198 = .ok (.pop2, 1)) ∧ (decode cL_law 1199 = .ok (.aload_n 2, 1)) ∧ (decode cL_law 1200 = .ok (.aload_n 0, 1)) ∧ (decode cL_law 1201 = .ok (.iload_n 3, 1)) ∧ (decode cL_law 1202 = .ok (.iconst 1, 1)) ∧ (decode cL_law 1203 = .ok (.iadd, 1)) := by decide +kernel
theorem dL_law_1186 : decode cL_law 1186 = .ok (.iload_n 3, 1) := dLb_51.1
theorem dL_law_1187 : decode cL_law 1187 = .ok (.iconst 2, 1) := dLb_51.2.1
theorem dL_law_1188 : decode cL_law 1188 = .ok (.iadd, 1) := dLb_51.2.2.1
theorem dL_law_1189 : decode cL_law 1189 = .ok (.iaload, 1) := dLb_51.2.2.2.1
theorem dL_law_1190 : decode cL_law 1190 = .ok (.aload_n 0, 1) := dLb_51.2.2.2.2.1
theorem dL_law_1191 : decode cL_law 1191 = .ok (.iload_n 3, 1) := dLb_51.2.2.2.2.2.1
theorem dL_law_1192 : decode cL_law 1192 = .ok (.iconst 3, 1) := dLb_51.2.2.2.2.2.2.1
theorem dL_law_1193 : decode cL_law 1193 = .ok (.iadd, 1) := dLb_51.2.2.2.2.2.2.2.1
theorem dL_law_1194 : decode cL_law 1194 = .ok (.iaload, 1) := dLb_51.2.2.2.2.2.2.2.2.1
theorem dL_law_1195 : decode cL_law 1195 = .ok (.invokevirtual 123, 3) := dLb_51.2.2.2.2.2.2.2.2.2.1
theorem dL_law_1198 : decode cL_law 1198 = .ok (.pop2, 1) := dLb_51.2.2.2.2.2.2.2.2.2.2.1
theorem dL_law_1199 : decode cL_law 1199 = .ok (.aload_n 2, 1) := dLb_51.2.2.2.2.2.2.2.2.2.2.2.1
theorem dL_law_1200 : decode cL_law 1200 = .ok (.aload_n 0, 1) := dLb_51.2.2.2.2.2.2.2.2.2.2.2.2.1
theorem dL_law_1201 : decode cL_law 1201 = .ok (.iload_n 3, 1) := dLb_51.2.2.2.2.2.2.2.2.2.2.2.2.2.1
theorem dL_law_1202 : decode cL_law 1202 = .ok (.iconst 1, 1) := dLb_51.2.2.2.2.2.2.2.2.2.2.2.2.2.2.1
theorem dL_law_1203 : decode cL_law 1203 = .ok (.iadd, 1) := dLb_51.2.2.2.2.2.2.2.2.2.2.2.2.2.2.2
theorem dLb_52 : (decode cL_law 1204 = .ok (.iaload, 1)) ∧ (decode cL_law 1205 = .ok (.aload_n 0, 1)) ∧ (decode cL_law 1206 = .ok (.iload_n 3, 1)) ∧ (decode cL_law 1207 = .ok (.iconst 2, 1)) ∧ (decode cL_law 1208 = .ok (.iadd, 1)) ∧ (decode cL_law 1209 = .ok (.iaload, 1)) ∧ (decode cL_law 1210 = .ok (.aload_n 0, 1)) ∧ (decode cL_law 1211 = .ok (.iload_n 3, 1)) ∧ (decode cL_law 1212 = .ok (.iconst 3, 1)) ∧ (decode cL_law 1213 = .ok (.iadd, 1)) ∧ (decode cL_law 1214 = .ok (.iaload, 1)) ∧ (decode cL_law 1215 = .ok (.invokevirtual 126, 3)) ∧ (decode cL_law 1218 = .ok (.pop2, 1)) ∧ (decode cL_law 1219 = .ok (.goto 126, 3)) ∧ (decode cL_law 1222 = .ok (.aload_n 1, 1)) ∧ (decode cL_law 1223 = .ok (.aload_n 0, 1)) := by decide +kernel
theorem dL_law_1204 : decode cL_law 1204 = .ok (.iaload, 1) := dLb_52.1
theorem dL_law_1205 : decode cL_law 1205 = .ok (.aload_n 0, 1) := dLb_52.2.1
theorem dL_law_1206 : decode cL_law 1206 = .ok (.iload_n 3, 1) := dLb_52.2.2.1
theorem dL_law_1207 : decode cL_law 1207 = .ok (.iconst 2, 1) := dLb_52.2.2.2.1
theorem dL_law_1208 : decode cL_law 1208 = .ok (.iadd, 1) := dLb_52.2.2.2.2.1
theorem dL_law_1209 : decode cL_law 1209 = .ok (.iaload, 1) := dLb_52.2.2.2.2.2.1
theorem dL_law_1210 : decode cL_law 1210 = .ok (.aload_n 0, 1) := dLb_52.2.2.2.2.2.2.1
theorem dL_law_1211 : decode cL_law 1211 = .ok (.iload_n 3, 1) := dLb_52.2.2.2.2.2.2.2.1
theorem dL_law_1212 : decode cL_law 1212 = .ok (.iconst 3, 1) := dLb_52.2.2.2.2.2.2.2.2.1
theorem dL_law_1213 : decode cL_law 1213 = .ok (.iadd, 1) := dLb_52.2.2.2.2.2.2.2.2.2.1
theorem dL_law_1214 : decode cL_law 1214 = .ok (.iaload, 1) := dLb_52.2.2.2.2.2.2.2.2.2.2.1
theorem dL_law_1215 : decode cL_law 1215 = .ok (.invokevirtual 126, 3) := dLb_52.2.2.2.2.2.2.2.2.2.2.2.1
theorem dL_law_1218 : decode cL_law 1218 = .ok (.pop2, 1) := dLb_52.2.2.2.2.2.2.2.2.2.2.2.2.1
theorem dL_law_1219 : decode cL_law 1219 = .ok (.goto 126, 3) := dLb_52.2.2.2.2.2.2.2.2.2.2.2.2.2.1
theorem dL_law_1222 : decode cL_law 1222 = .ok (.aload_n 1, 1) := dLb_52.2.2.2.2.2.2.2.2.2.2.2.2.2.2.1
theorem dL_law_1223 : decode cL_law 1223 = .ok (.aload_n 0, 1) := dLb_52.2.2.2.2.2.2.2.2.2.2.2.2.2.2.2
theorem dLb_53 : (decode cL_law 1224 = .ok (.iload_n 3, 1)) ∧ (decode cL_law 1225 = .ok (.iconst 1, 1)) ∧ (decode cL_law 1226 = .ok (.iadd, 1)) ∧ (decode cL_law 1227 = .ok (.iaload, 1)) ∧ (decode cL_law 1228 = .ok (.aload_n 0, 1)) ∧ (decode cL_law 1229 = .ok (.iload_n 3, 1)) ∧ (decode cL_law 1230 = .ok (.iconst 2, 1)) ∧ (decode cL_law 1231 = .ok (.iadd, 1)) ∧ (decode cL_law 1232 = .ok (.iaload, 1)) ∧ (decode cL_law 1233 = .ok (.aload_n 0, 1)) ∧ (decode cL_law 1234 = .ok (.iload_n 3, 1)) ∧ (decode cL_law 1235 = .ok (.iconst 3, 1)) ∧ (decode cL_law 1236 = .ok (.iadd, 1)) ∧ (decode cL_law 1237 = .ok (.iaload, 1)) ∧ (decode cL_law 1238 = .ok (.aload_n 0, 1)) ∧ (decode cL_law 1239 = .ok (.iload_n 3, 1)) := by decide +kernel
theorem dL_law_1224 : decode cL_law 1224 = .ok (.iload_n 3, 1) := dLb_53.1
theorem dL_law_1225 : decode cL_law 1225 = .ok (.iconst 1, 1) := dLb_53.2.1
theorem dL_law_1226 : decode cL_law 1226 = .ok (.iadd, 1) := dLb_53.2.2.1
theorem dL_law_1227 : decode cL_law 1227 = .ok (.iaload, 1) := dLb_53.2.2.2.1
theorem dL_law_1228 : decode cL_law 1228 = .ok (.aload_n 0, 1) := dLb_53.2.2.2.2.1
theorem dL_law_1229 : decode cL_law 1229 = .ok (.iload_n 3, 1) := dLb_53.2.2.2.2.2.1
theorem dL_law_1230 : decode cL_law 1230 = .ok (.iconst 2, 1) := dLb_53.2.2.2.2.2.2.1
theorem dL_law_1231 : decode cL_law 1231 = .ok (.iadd, 1) := dLb_53.2.2.2.2.2.2.2.1
theorem dL_law_1232 : decode cL_law 1232 = .ok (.iaload, 1) := dLb_53.2.2.2.2.2.2.2.2.1
theorem dL_law_1233 : decode cL_law 1233 = .ok (.aload_n 0, 1) := dLb_53.2.2.2.2.2.2.2.2.2.1
theorem dL_law_1234 : decode cL_law 1234 = .ok (.iload_n 3, 1) := dLb_53.2.2.2.2.2.2.2.2.2.2.1
theorem dL_law_1235 : decode cL_law 1235 = .ok (.iconst 3, 1) := dLb_53.2.2.2.2.2.2.2.2.2.2.2.1
theorem dL_law_1236 : decode cL_law 1236 = .ok (.iadd, 1) := dLb_53.2.2.2.2.2.2.2.2.2.2.2.2.1
theorem dL_law_1237 : decode cL_law 1237 = .ok (.iaload, 1) := dLb_53.2.2.2.2.2.2.2.2.2.2.2.2.2.1
theorem dL_law_1238 : decode cL_law 1238 = .ok (.aload_n 0, 1) := dLb_53.2.2.2.2.2.2.2.2.2.2.2.2.2.2.1
theorem dL_law_1239 : decode cL_law 1239 = .ok (.iload_n 3, 1) := dLb_53.2.2.2.2.2.2.2.2.2.2.2.2.2.2.2
theorem dLb_54 : (decode cL_law 1240 = .ok (.iconst 4, 1)) ∧ (decode cL_law 1241 = .ok (.iadd, 1)) ∧ (decode cL_law 1242 = .ok (.iaload, 1)) ∧ (decode cL_law 1243 = .ok (.aload_n 0, 1)) ∧ (decode cL_law 1244 = .ok (.iload_n 3, 1)) ∧ (decode cL_law 1245 = .ok (.iconst 5, 1)) ∧ (decode cL_law 1246 = .ok (.iadd, 1)) ∧ (decode cL_law 1247 = .ok (.iaload, 1)) ∧ (decode cL_law 1248 = .ok (.invokevirtual 127, 3)) ∧ (decode cL_law 1251 = .ok (.pop2, 1)) ∧ (decode cL_law 1252 = .ok (.aload_n 2, 1)) ∧ (decode cL_law 1253 = .ok (.aload_n 0, 1)) ∧ (decode cL_law 1254 = .ok (.iload_n 3, 1)) ∧ (decode cL_law 1255 = .ok (.iconst 1, 1)) ∧ (decode cL_law 1256 = .ok (.iadd, 1)) ∧ (decode cL_law 1257 = .ok (.iaload, 1)) := by decide +kernel
theorem dL_law_1240 : decode cL_law 1240 = .ok (.iconst 4, 1) := dLb_54.1
theorem dL_law_1241 : decode cL_law 1241 = .ok (.iadd, 1) := dLb_54.2.1
theorem dL_law_1242 : decode cL_law 1242 = .ok (.iaload, 1) := dLb_54.2.2.1
theorem dL_law_1243 : decode cL_law 1243 = .ok (.aload_n 0, 1) := dLb_54.2.2.2.1
theorem dL_law_1244 : decode cL_law 1244 = .ok (.iload_n 3, 1) := dLb_54.2.2.2.2.1
theorem dL_law_1245 : decode cL_law 1245 = .ok (.iconst 5, 1) := dLb_54.2.2.2.2.2.1
theorem dL_law_1246 : decode cL_law 1246 = .ok (.iadd, 1) := dLb_54.2.2.2.2.2.2.1
theorem dL_law_1247 : decode cL_law 1247 = .ok (.iaload, 1) := dLb_54.2.2.2.2.2.2.2.1
theorem dL_law_1248 : decode cL_law 1248 = .ok (.invokevirtual 127, 3) := dLb_54.2.2.2.2.2.2.2.2.1
theorem dL_law_1251 : decode cL_law 1251 = .ok (.pop2, 1) := dLb_54.2.2.2.2.2.2.2.2.2.1
theorem dL_law_1252 : decode cL_law 1252 = .ok (.aload_n 2, 1) := dLb_54.2.2.2.2.2.2.2.2.2.2.1
theorem dL_law_1253 : decode cL_law 1253 = .ok (.aload_n 0, 1) := dLb_54.2.2.2.2.2.2.2.2.2.2.2.1
theorem dL_law_1254 : decode cL_law 1254 = .ok (.iload_n 3, 1) := dLb_54.2.2.2.2.2.2.2.2.2.2.2.2.1
theorem dL_law_1255 : decode cL_law 1255 = .ok (.iconst 1, 1) := dLb_54.2.2.2.2.2.2.2.2.2.2.2.2.2.1
theorem dL_law_1256 : decode cL_law 1256 = .ok (.iadd, 1) := dLb_54.2.2.2.2.2.2.2.2.2.2.2.2.2.2.1
theorem dL_law_1257 : decode cL_law 1257 = .ok (.iaload, 1) := dLb_54.2.2.2.2.2.2.2.2.2.2.2.2.2.2.2
theorem dLb_55 : (decode cL_law 1258 = .ok (.aload_n 0, 1)) ∧ (decode cL_law 1259 = .ok (.iload_n 3, 1)) ∧ (decode cL_law 1260 = .ok (.iconst 2, 1)) ∧ (decode cL_law 1261 = .ok (.iadd, 1)) ∧ (decode cL_law 1262 = .ok (.iaload, 1)) ∧ (decode cL_law 1263 = .ok (.aload_n 0, 1)) ∧ (decode cL_law 1264 = .ok (.iload_n 3, 1)) ∧ (decode cL_law 1265 = .ok (.iconst 3, 1)) ∧ (decode cL_law 1266 = .ok (.iadd, 1)) ∧ (decode cL_law 1267 = .ok (.iaload, 1)) ∧ (decode cL_law 1268 = .ok (.aload_n 0, 1)) ∧ (decode cL_law 1269 = .ok (.iload_n 3, 1)) ∧ (decode cL_law 1270 = .ok (.iconst 4, 1)) ∧ (decode cL_law 1271 = .ok (.iadd, 1)) ∧ (decode cL_law 1272 = .ok (.iaload, 1)) ∧ (decode cL_law 1273 = .ok (.aload_n 0, 1)) := by decide +kernel
theorem dL_law_1258 : decode cL_law 1258 = .ok (.aload_n 0, 1) := dLb_55.1
theorem dL_law_1259 : decode cL_law 1259 = .ok (.iload_n 3, 1) := dLb_55.2.1
theorem dL_law_1260 : decode cL_law 1260 = .ok (.iconst 2, 1) := dLb_55.2.2.1
theorem dL_law_1261 : decode cL_law 1261 = .ok (.iadd, 1) := dLb_55.2.2.2.1
theorem dL_law_1262 : decode cL_law 1262 = .ok (.iaload, 1) := dLb_55.2.2.2.2.1
theorem dL_law_1263 : decode cL_law 1263 = .ok (.aload_n 0, 1) := dLb_55.2.2.2.2.2.1
theorem dL_law_1264 : decode cL_law 1264 = .ok (.iload_n 3, 1) := dLb_55.2.2.2.2.2.2.1
theorem dL_law_1265 : decode cL_law 1265 = .ok (.iconst 3, 1) := dLb_55.2.2.2.2.2.2.2.1
theorem dL_law_1266 : decode cL_law 1266 = .ok (.iadd, 1) := dLb_55.2.2.2.2.2.2.2.2.1
theorem dL_law_1267 : decode cL_law 1267 = .ok (.iaload, 1) := dLb_55.2.2.2.2.2.2.2.2.2.1
theorem dL_law_1268 : decode cL_law 1268 = .ok (.aload_n 0, 1) := dLb_55.2.2.2.2.2.2.2.2.2.2.1
theorem dL_law_1269 : decode cL_law 1269 = .ok (.iload_n 3, 1) := dLb_55.2.2.2.2.2.2.2.2.2.2.2.1
theorem dL_law_1270 : decode cL_law 1270 = .ok (.iconst 4, 1) := dLb_55.2.2.2.2.2.2.2.2.2.2.2.2.1
theorem dL_law_1271 : decode cL_law 1271 = .ok (.iadd, 1) := dLb_55.2.2.2.2.2.2.2.2.2.2.2.2.2.1
theorem dL_law_1272 : decode cL_law 1272 = .ok (.iaload, 1) := dLb_55.2.2.2.2.2.2.2.2.2.2.2.2.2.2.1
theorem dL_law_1273 : decode cL_law 1273 = .ok (.aload_n 0, 1) := dLb_55.2.2.2.2.2.2.2.2.2.2.2.2.2.2.2
theorem dLb_56 : (decode cL_law 1274 = .ok (.iload_n 3, 1)) ∧ (decode cL_law 1275 = .ok (.iconst 5, 1)) ∧ (decode cL_law 1276 = .ok (.iadd, 1)) ∧ (decode cL_law 1277 = .ok (.iaload, 1)) ∧ (decode cL_law 1278 = .ok (.invokevirtual 130, 3)) ∧ (decode cL_law 1281 = .ok (.pop2, 1)) ∧ (decode cL_law 1282 = .ok (.goto 63, 3)) ∧ (decode cL_law 1285 = .ok (.aload_n 1, 1)) ∧ (decode cL_law 1286 = .ok (.aload_n 0, 1)) ∧ (decode cL_law 1287 = .ok (.iload_n 3, 1)) ∧ (decode cL_law 1288 = .ok (.iconst 1, 1)) ∧ (decode cL_law 1289 = .ok (.iadd, 1)) ∧ (decode cL_law 1290 = .ok (.iaload, 1)) ∧ (decode cL_law 1291 = .ok (.invokevirtual 131, 3)) ∧ (decode cL_law 1294 = .ok (.pop2, 1)) ∧ (decode cL_law 1295 = .ok (.aload_n 2, 1)) := by decide +kernel
theorem dL_law_1274 : decode cL_law 1274 = .ok (.iload_n 3, 1) := dLb_56.1
theorem dL_law_1275 : decode cL_law 1275 = .ok (.iconst 5, 1) := dLb_56.2.1
theorem dL_law_1276 : decode cL_law 1276 = .ok (.iadd, 1) := dLb_56.2.2.1
theorem dL_law_1277 : decode cL_law 1277 = .ok (.iaload, 1) := dLb_56.2.2.2.1
theorem dL_law_1278 : decode cL_law 1278 = .ok (.invokevirtual 130, 3) := dLb_56.2.2.2.2.1
theorem dL_law_1281 : decode cL_law 1281 = .ok (.pop2, 1) := dLb_56.2.2.2.2.2.1
theorem dL_law_1282 : decode cL_law 1282 = .ok (.goto 63, 3) := dLb_56.2.2.2.2.2.2.1
theorem dL_law_1285 : decode cL_law 1285 = .ok (.aload_n 1, 1) := dLb_56.2.2.2.2.2.2.2.1
theorem dL_law_1286 : decode cL_law 1286 = .ok (.aload_n 0, 1) := dLb_56.2.2.2.2.2.2.2.2.1
theorem dL_law_1287 : decode cL_law 1287 = .ok (.iload_n 3, 1) := dLb_56.2.2.2.2.2.2.2.2.2.1
theorem dL_law_1288 : decode cL_law 1288 = .ok (.iconst 1, 1) := dLb_56.2.2.2.2.2.2.2.2.2.2.1
theorem dL_law_1289 : decode cL_law 1289 = .ok (.iadd, 1) := dLb_56.2.2.2.2.2.2.2.2.2.2.2.1
theorem dL_law_1290 : decode cL_law 1290 = .ok (.iaload, 1) := dLb_56.2.2.2.2.2.2.2.2.2.2.2.2.1
theorem dL_law_1291 : decode cL_law 1291 = .ok (.invokevirtual 131, 3) := dLb_56.2.2.2.2.2.2.2.2.2.2.2.2.2.1
theorem dL_law_1294 : decode cL_law 1294 = .ok (.pop2, 1) := dLb_56.2.2.2.2.2.2.2.2.2.2.2.2.2.2.1
theorem dL_law_1295 : decode cL_law 1295 = .ok (.aload_n 2, 1) := dLb_56.2.2.2.2.2.2.2.2.2.2.2.2.2.2.2
theorem dLb_57 : (decode cL_law 1296 = .ok (.aload_n 0, 1)) ∧ (decode cL_law 1297 = .ok (.iload_n 3, 1)) ∧ (decode cL_law 1298 = .ok (.iconst 1, 1)) ∧ (decode cL_law 1299 = .ok (.iadd, 1)) ∧ (decode cL_law 1300 = .ok (.iaload, 1)) ∧ (decode cL_law 1301 = .ok (.invokevirtual 134, 3)) ∧ (decode cL_law 1304 = .ok (.pop2, 1)) ∧ (decode cL_law 1305 = .ok (.goto 40, 3)) ∧ (decode cL_law 1308 = .ok (.aload_n 1, 1)) ∧ (decode cL_law 1309 = .ok (.invokevirtual 135, 3)) ∧ (decode cL_law 1312 = .ok (.aload_n 2, 1)) ∧ (decode cL_law 1313 = .ok (.invokevirtual 138, 3)) ∧ (decode cL_law 1316 = .ok (.lcmp, 1)) ∧ (decode cL_law 1317 = .ok (.ifCond .eq 28, 3)) ∧ (decode cL_law 1320 = .ok (.iconst 0, 1)) ∧ (decode cL_law 1321 = .ok (.ireturn, 1)) := by decide +kernel
theorem dL_law_1296 : decode cL_law 1296 = .ok (.aload_n 0, 1) := dLb_57.1
theorem dL_law_1297 : decode cL_law 1297 = .ok (.iload_n 3, 1) := dLb_57.2.1
theorem dL_law_1298 : decode cL_law 1298 = .ok (.iconst 1, 1) := dLb_57.2.2.1
theorem dL_law_1299 : decode cL_law 1299 = .ok (.iadd, 1) := dLb_57.2.2.2.1
theorem dL_law_1300 : decode cL_law 1300 = .ok (.iaload, 1) := dLb_57.2.2.2.2.1
theorem dL_law_1301 : decode cL_law 1301 = .ok (.invokevirtual 134, 3) := dLb_57.2.2.2.2.2.1
theorem dL_law_1304 : decode cL_law 1304 = .ok (.pop2, 1) := dLb_57.2.2.2.2.2.2.1
theorem dL_law_1305 : decode cL_law 1305 = .ok (.goto 40, 3) := dLb_57.2.2.2.2.2.2.2.1
theorem dL_law_1308 : decode cL_law 1308 = .ok (.aload_n 1, 1) := dLb_57.2.2.2.2.2.2.2.2.1
theorem dL_law_1309 : decode cL_law 1309 = .ok (.invokevirtual 135, 3) := dLb_57.2.2.2.2.2.2.2.2.2.1
theorem dL_law_1312 : decode cL_law 1312 = .ok (.aload_n 2, 1) := dLb_57.2.2.2.2.2.2.2.2.2.2.1
theorem dL_law_1313 : decode cL_law 1313 = .ok (.invokevirtual 138, 3) := dLb_57.2.2.2.2.2.2.2.2.2.2.2.1
theorem dL_law_1316 : decode cL_law 1316 = .ok (.lcmp, 1) := dLb_57.2.2.2.2.2.2.2.2.2.2.2.2.1
theorem dL_law_1317 : decode cL_law 1317 = .ok (.ifCond .eq 28, 3) := dLb_57.2.2.2.2.2.2.2.2.2.2.2.2.2.1
theorem dL_law_1320 : decode cL_law 1320 = .ok (.iconst 0, 1) := dLb_57.2.2.2.2.2.2.2.2.2.2.2.2.2.2.1
theorem dL_law_1321 : decode cL_law 1321 = .ok (.ireturn, 1) := dLb_57.2.2.2.2.2.2.2.2.2.2.2.2.2.2.2
theorem dLb_58 : (decode cL_law 1322 = .ok (.aload_n 1, 1)) ∧ (decode cL_law 1323 = .ok (.aload_n 0, 1)) ∧ (decode cL_law 1324 = .ok (.iload_n 3, 1)) ∧ (decode cL_law 1325 = .ok (.iconst 1, 1)) ∧ (decode cL_law 1326 = .ok (.iadd, 1)) ∧ (decode cL_law 1327 = .ok (.iaload, 1)) ∧ (decode cL_law 1328 = .ok (.invokevirtual 139, 3)) ∧ (decode cL_law 1331 = .ok (.pop2, 1)) ∧ (decode cL_law 1332 = .ok (.aload_n 2, 1)) ∧ (decode cL_law 1333 = .ok (.aload_n 0, 1)) ∧ (decode cL_law 1334 = .ok (.iload_n 3, 1)) ∧ (decode cL_law 1335 = .ok (.iconst 1, 1)) ∧ (decode cL_law 1336 = .ok (.iadd, 1)) ∧ (decode cL_law 1337 = .ok (.iaload, 1)) ∧ (decode cL_law 1338 = .ok (.invokevirtual 142, 3)) ∧ (decode cL_law 1341 = .ok (.pop2, 1)) := by decide +kernel
theorem dL_law_1322 : decode cL_law 1322 = .ok (.aload_n 1, 1) := dLb_58.1
theorem dL_law_1323 : decode cL_law 1323 = .ok (.aload_n 0, 1) := dLb_58.2.1
theorem dL_law_1324 : decode cL_law 1324 = .ok (.iload_n 3, 1) := dLb_58.2.2.1
theorem dL_law_1325 : decode cL_law 1325 = .ok (.iconst 1, 1) := dLb_58.2.2.2.1
theorem dL_law_1326 : decode cL_law 1326 = .ok (.iadd, 1) := dLb_58.2.2.2.2.1
theorem dL_law_1327 : decode cL_law 1327 = .ok (.iaload, 1) := dLb_58.2.2.2.2.2.1
theorem dL_law_1328 : decode cL_law 1328 = .ok (.invokevirtual 139, 3) := dLb_58.2.2.2.2.2.2.1
theorem dL_law_1331 : decode cL_law 1331 = .ok (.pop2, 1) := dLb_58.2.2.2.2.2.2.2.1
theorem dL_law_1332 : decode cL_law 1332 = .ok (.aload_n 2, 1) := dLb_58.2.2.2.2.2.2.2.2.1
theorem dL_law_1333 : decode cL_law 1333 = .ok (.aload_n 0, 1) := dLb_58.2.2.2.2.2.2.2.2.2.1
theorem dL_law_1334 : decode cL_law 1334 = .ok (.iload_n 3, 1) := dLb_58.2.2.2.2.2.2.2.2.2.2.1
theorem dL_law_1335 : decode cL_law 1335 = .ok (.iconst 1, 1) := dLb_58.2.2.2.2.2.2.2.2.2.2.2.1
theorem dL_law_1336 : decode cL_law 1336 = .ok (.iadd, 1) := dLb_58.2.2.2.2.2.2.2.2.2.2.2.2.1
theorem dL_law_1337 : decode cL_law 1337 = .ok (.iaload, 1) := dLb_58.2.2.2.2.2.2.2.2.2.2.2.2.2.1
theorem dL_law_1338 : decode cL_law 1338 = .ok (.invokevirtual 142, 3) := dLb_58.2.2.2.2.2.2.2.2.2.2.2.2.2.2.1
theorem dL_law_1341 : decode cL_law 1341 = .ok (.pop2, 1) := dLb_58.2.2.2.2.2.2.2.2.2.2.2.2.2.2.2
theorem dLb_59 : (decode cL_law 1342 = .ok (.goto 3, 3)) ∧ (decode cL_law 1345 = .ok (.iinc 3 7, 3)) ∧ (decode cL_law 1348 = .ok (.goto (-1330), 3)) ∧ (decode cL_law 1351 = .ok (.iconst 1, 1)) ∧ (decode cL_law 1352 = .ok (.ireturn, 1)) := by decide +kernel
theorem dL_law_1342 : decode cL_law 1342 = .ok (.goto 3, 3) := dLb_59.1
theorem dL_law_1345 : decode cL_law 1345 = .ok (.iinc 3 7, 3) := dLb_59.2.1
theorem dL_law_1348 : decode cL_law 1348 = .ok (.goto (-1330), 3) := dLb_59.2.2.1
theorem dL_law_1351 : decode cL_law 1351 = .ok (.iconst 1, 1) := dLb_59.2.2.2.1
theorem dL_law_1352 : decode cL_law 1352 = .ok (.ireturn, 1) := dLb_59.2.2.2.2
