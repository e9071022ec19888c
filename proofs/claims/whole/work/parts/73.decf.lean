theorem dL_864 : decode code 864 = .ok (.iconst 2, 1) := by decide +kernel
theorem dL_865 : decode code 865 = .ok (.iadd, 1) := by decide +kernel
theorem dL_866 : decode code 866 = .ok (.iaload, 1) := by decide +kernel
theorem dL_867 : decode code 867 = .ok (.invokevirtual 96, 3) := by decide +kernel
theorem dL_870 : decode code 870 = .ok (.aload_n 2, 1) := by decide +kernel
theorem dL_871 : decode code 871 = .ok (.aload_n 0, 1) := by decide +kernel
theorem dL_872 : decode code 872 = .ok (.iload_n 3, 1) := by decide +kernel
theorem dL_873 : decode code 873 = .ok (.iconst 1, 1) := by decide +kernel
theorem dL_874 : decode code 874 = .ok (.iadd, 1) := by decide +kernel
theorem dL_875 : decode code 875 = .ok (.iaload, 1) := by decide +kernel
theorem dL_876 : decode code 876 = .ok (.aload_n 0, 1) := by decide +kernel
theorem dL_877 : decode code 877 = .ok (.iload_n 3, 1) := by decide +kernel
theorem dL_878 : decode code 878 = .ok (.iconst 2, 1) := by decide +kernel
theorem dL_879 : decode code 879 = .ok (.iadd, 1) := by decide +kernel
theorem dL_880 : decode code 880 = .ok (.iaload, 1) := by decide +kernel
theorem dL_881 : decode code 881 = .ok (.invokevirtual 99, 3) := by decide +kernel
theorem dL_884 : decode code 884 = .ok (.if_icmp .eq 608, 3) := by decide +kernel
theorem dL_887 : decode code 887 = .ok (.iconst 0, 1) := by decide +kernel
theorem dL_888 : decode code 888 = .ok (.ireturn, 1) := by decide +kernel
theorem dL_889 : decode code 889 = .ok (.aload_n 1, 1) := by decide +kernel
theorem dL_890 : decode code 890 = .ok (.invokevirtual 100, 3) := by decide +kernel
theorem dL_893 : decode code 893 = .ok (.aload_n 2, 1) := by decide +kernel
theorem dL_894 : decode code 894 = .ok (.invokevirtual 104, 3) := by decide +kernel
theorem dL_897 : decode code 897 = .ok (.if_icmp .eq 595, 3) := by decide +kernel
theorem dL_900 : decode code 900 = .ok (.iconst 0, 1) := by decide +kernel
theorem dL_901 : decode code 901 = .ok (.ireturn, 1) := by decide +kernel
theorem dL_902 : decode code 902 = .ok (.aload_n 1, 1) := by decide +kernel
theorem dL_903 : decode code 903 = .ok (.aload_n 0, 1) := by decide +kernel
theorem dL_904 : decode code 904 = .ok (.iload_n 3, 1) := by decide +kernel
theorem dL_905 : decode code 905 = .ok (.iconst 1, 1) := by decide +kernel
theorem dL_906 : decode code 906 = .ok (.iadd, 1) := by decide +kernel
theorem dL_907 : decode code 907 = .ok (.iaload, 1) := by decide +kernel
theorem dL_908 : decode code 908 = .ok (.invokevirtual 105, 3) := by decide +kernel
theorem dL_911 : decode code 911 = .ok (.aload_n 2, 1) := by decide +kernel
theorem dL_912 : decode code 912 = .ok (.aload_n 0, 1) := by decide +kernel
theorem dL_913 : decode code 913 = .ok (.iload_n 3, 1) := by decide +kernel
theorem dL_914 : decode code 914 = .ok (.iconst 1, 1) := by decide +kernel
theorem dL_915 : decode code 915 = .ok (.iadd, 1) := by decide +kernel
theorem dL_916 : decode code 916 = .ok (.iaload, 1) := by decide +kernel
theorem dL_917 : decode code 917 = .ok (.invokevirtual 108, 3) := by decide +kernel
theorem dL_920 : decode code 920 = .ok (.if_icmp .eq 572, 3) := by decide +kernel
theorem dL_923 : decode code 923 = .ok (.iconst 0, 1) := by decide +kernel
theorem dL_924 : decode code 924 = .ok (.ireturn, 1) := by decide +kernel
theorem dL_925 : decode code 925 = .ok (.aload_n 1, 1) := by decide +kernel
theorem dL_926 : decode code 926 = .ok (.aload_n 0, 1) := by decide +kernel
theorem dL_927 : decode code 927 = .ok (.iload_n 3, 1) := by decide +kernel
theorem dL_928 : decode code 928 = .ok (.iconst 1, 1) := by decide +kernel
theorem dL_929 : decode code 929 = .ok (.iadd, 1) := by decide +kernel
theorem dL_930 : decode code 930 = .ok (.iaload, 1) := by decide +kernel
theorem dL_931 : decode code 931 = .ok (.aload_n 0, 1) := by decide +kernel
theorem dL_932 : decode code 932 = .ok (.iload_n 3, 1) := by decide +kernel
theorem dL_933 : decode code 933 = .ok (.iconst 2, 1) := by decide +kernel
theorem dL_934 : decode code 934 = .ok (.iadd, 1) := by decide +kernel
theorem dL_935 : decode code 935 = .ok (.iaload, 1) := by decide +kernel
theorem dL_936 : decode code 936 = .ok (.aload_n 0, 1) := by decide +kernel
theorem dL_937 : decode code 937 = .ok (.iload_n 3, 1) := by decide +kernel
theorem dL_938 : decode code 938 = .ok (.iconst 3, 1) := by decide +kernel
theorem dL_939 : decode code 939 = .ok (.iadd, 1) := by decide +kernel
theorem dL_940 : decode code 940 = .ok (.iaload, 1) := by decide +kernel
theorem dL_941 : decode code 941 = .ok (.invokevirtual 109, 3) := by decide +kernel
theorem dL_944 : decode code 944 = .ok (.aload_n 2, 1) := by decide +kernel
theorem dL_945 : decode code 945 = .ok (.aload_n 0, 1) := by decide +kernel
theorem dL_946 : decode code 946 = .ok (.iload_n 3, 1) := by decide +kernel
theorem dL_947 : decode code 947 = .ok (.iconst 1, 1) := by decide +kernel
theorem dL_948 : decode code 948 = .ok (.iadd, 1) := by decide +kernel
theorem dL_949 : decode code 949 = .ok (.iaload, 1) := by decide +kernel
theorem dL_950 : decode code 950 = .ok (.aload_n 0, 1) := by decide +kernel
theorem dL_951 : decode code 951 = .ok (.iload_n 3, 1) := by decide +kernel
theorem dL_952 : decode code 952 = .ok (.iconst 2, 1) := by decide +kernel
theorem dL_953 : decode code 953 = .ok (.iadd, 1) := by decide +kernel
theorem dL_954 : decode code 954 = .ok (.iaload, 1) := by decide +kernel
theorem dL_955 : decode code 955 = .ok (.aload_n 0, 1) := by decide +kernel
theorem dL_956 : decode code 956 = .ok (.iload_n 3, 1) := by decide +kernel
theorem dL_957 : decode code 957 = .ok (.iconst 3, 1) := by decide +kernel
theorem dL_958 : decode code 958 = .ok (.iadd, 1) := by decide +kernel
theorem dL_959 : decode code 959 = .ok (.iaload, 1) := by decide +kernel
theorem dL_960 : decode code 960 = .ok (.invokevirtual 112, 3) := by decide +kernel
theorem dL_963 : decode code 963 = .ok (.if_icmp .eq 529, 3) := by decide +kernel
theorem dL_966 : decode code 966 = .ok (.iconst 0, 1) := by decide +kernel
theorem dL_967 : decode code 967 = .ok (.ireturn, 1) := by decide +kernel
theorem dL_968 : decode code 968 = .ok (.aload_n 1, 1) := by decide +kernel
theorem dL_969 : decode code 969 = .ok (.aload_n 0, 1) := by decide +kernel
theorem dL_970 : decode code 970 = .ok (.iload_n 3, 1) := by decide +kernel
theorem dL_971 : decode code 971 = .ok (.iconst 1, 1) := by decide +kernel
theorem dL_972 : decode code 972 = .ok (.iadd, 1) := by decide +kernel
theorem dL_973 : decode code 973 = .ok (.iaload, 1) := by decide +kernel
theorem dL_974 : decode code 974 = .ok (.invokevirtual 113, 3) := by decide +kernel
theorem dL_977 : decode code 977 = .ok (.aload_n 2, 1) := by decide +kernel
theorem dL_978 : decode code 978 = .ok (.aload_n 0, 1) := by decide +kernel
theorem dL_979 : decode code 979 = .ok (.iload_n 3, 1) := by decide +kernel
theorem dL_980 : decode code 980 = .ok (.iconst 1, 1) := by decide +kernel
theorem dL_981 : decode code 981 = .ok (.iadd, 1) := by decide +kernel
theorem dL_982 : decode code 982 = .ok (.iaload, 1) := by decide +kernel
theorem dL_983 : decode code 983 = .ok (.invokevirtual 116, 3) := by decide +kernel
theorem dL_986 : decode code 986 = .ok (.if_icmp .eq 506, 3) := by decide +kernel
theorem dL_989 : decode code 989 = .ok (.iconst 0, 1) := by decide +kernel
theorem dL_990 : decode code 990 = .ok (.ireturn, 1) := by decide +kernel
theorem dL_991 : decode code 991 = .ok (.aload_n 1, 1) := by decide +kernel
theorem dL_992 : decode code 992 = .ok (.invokevirtual 117, 3) := by decide +kernel
theorem dL_995 : decode code 995 = .ok (.aload_n 2, 1) := by decide +kernel
theorem dL_996 : decode code 996 = .ok (.invokevirtual 120, 3) := by decide +kernel
theorem dL_999 : decode code 999 = .ok (.if_icmp .eq 493, 3) := by decide +kernel
theorem dL_1002 : decode code 1002 = .ok (.iconst 0, 1) := by decide +kernel
theorem dL_1003 : decode code 1003 = .ok (.ireturn, 1) := by decide +kernel
theorem dL_1004 : decode code 1004 = .ok (.aload_n 1, 1) := by decide +kernel
theorem dL_1005 : decode code 1005 = .ok (.aload_n 0, 1) := by decide +kernel
theorem dL_1006 : decode code 1006 = .ok (.iload_n 3, 1) := by decide +kernel
theorem dL_1007 : decode code 1007 = .ok (.iconst 1, 1) := by decide +kernel
theorem dL_1008 : decode code 1008 = .ok (.iadd, 1) := by decide +kernel
theorem dL_1009 : decode code 1009 = .ok (.iaload, 1) := by decide +kernel
