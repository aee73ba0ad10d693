theorem dL_law_844 : decode cL_law 844 = .ok (.aload_n 1, 1) := by decide +kernel
theorem dL_law_845 : decode cL_law 845 = .ok (.aload_n 0, 1) := by decide +kernel
theorem dL_law_846 : decode cL_law 846 = .ok (.iload_n 3, 1) := by decide +kernel
theorem dL_law_847 : decode cL_law 847 = .ok (.iconst 1, 1) := by decide +kernel
theorem dL_law_848 : decode cL_law 848 = .ok (.iadd, 1) := by decide +kernel
theorem dL_law_849 : decode cL_law 849 = .ok (.iaload, 1) := by decide +kernel
theorem dL_law_850 : decode cL_law 850 = .ok (.aload_n 0, 1) := by decide +kernel
theorem dL_law_851 : decode cL_law 851 = .ok (.iload_n 3, 1) := by decide +kernel
theorem dL_law_852 : decode cL_law 852 = .ok (.iconst 2, 1) := by decide +kernel
theorem dL_law_853 : decode cL_law 853 = .ok (.iadd, 1) := by decide +kernel
theorem dL_law_854 : decode cL_law 854 = .ok (.iaload, 1) := by decide +kernel
theorem tw_541 : Cond.methodLink RL 80 yX11_titleOf ∈ wsL_law := List.mem_of_getElem? (i := 541) (by decide +kernel)
theorem tw_542 : Cond.instanceMethod yX11_titleOf ∈ wsL_law := List.mem_of_getElem? (i := 542) (by decide +kernel)
theorem tw_543 : Cond.selects RX11 yX11_titleOf yX11_titleOf ∈ wsL_law := List.mem_of_getElem? (i := 543) (by decide +kernel)
theorem tw_544 : Cond.code yX11_titleOf cX11_titleOf 3 (some .int) ∈ wsL_law := List.mem_of_getElem? (i := 544) (by decide +kernel)
theorem dL_law_855 : decode cL_law 855 = .ok (.invokevirtual 80, 3) := by decide +kernel
theorem dL_law_858 : decode cL_law 858 = .ok (.aload_n 2, 1) := by decide +kernel
theorem dL_law_859 : decode cL_law 859 = .ok (.aload_n 0, 1) := by decide +kernel
theorem dL_law_860 : decode cL_law 860 = .ok (.iload_n 3, 1) := by decide +kernel
theorem dL_law_861 : decode cL_law 861 = .ok (.iconst 1, 1) := by decide +kernel
theorem dL_law_862 : decode cL_law 862 = .ok (.iadd, 1) := by decide +kernel
theorem dL_law_863 : decode cL_law 863 = .ok (.iaload, 1) := by decide +kernel
theorem dL_law_864 : decode cL_law 864 = .ok (.aload_n 0, 1) := by decide +kernel
theorem dL_law_865 : decode cL_law 865 = .ok (.iload_n 3, 1) := by decide +kernel
theorem dL_law_866 : decode cL_law 866 = .ok (.iconst 2, 1) := by decide +kernel
theorem dL_law_867 : decode cL_law 867 = .ok (.iadd, 1) := by decide +kernel
theorem dL_law_868 : decode cL_law 868 = .ok (.iaload, 1) := by decide +kernel
theorem tw_589 : Cond.methodLink RL 83 yX12_titleOf ∈ wsL_law := List.mem_of_getElem? (i := 589) (by decide +kernel)
theorem tw_590 : Cond.instanceMethod yX12_titleOf ∈ wsL_law := List.mem_of_getElem? (i := 590) (by decide +kernel)
theorem tw_591 : Cond.selects RX12 yX12_titleOf yX12_titleOf ∈ wsL_law := List.mem_of_getElem? (i := 591) (by decide +kernel)
theorem tw_592 : Cond.code yX12_titleOf cX12_titleOf 3 (some .int) ∈ wsL_law := List.mem_of_getElem? (i := 592) (by decide +kernel)
theorem dL_law_869 : decode cL_law 869 = .ok (.invokevirtual 83, 3) := by decide +kernel
theorem dL_law_872 : decode cL_law 872 = .ok (.if_icmp .eq 853, 3) := by decide +kernel
theorem dL_law_877 : decode cL_law 877 = .ok (.aload_n 1, 1) := by decide +kernel
theorem dL_law_878 : decode cL_law 878 = .ok (.aload_n 0, 1) := by decide +kernel
theorem dL_law_879 : decode cL_law 879 = .ok (.iload_n 3, 1) := by decide +kernel
theorem dL_law_880 : decode cL_law 880 = .ok (.iconst 1, 1) := by decide +kernel
theorem dL_law_881 : decode cL_law 881 = .ok (.iadd, 1) := by decide +kernel
theorem dL_law_882 : decode cL_law 882 = .ok (.iaload, 1) := by decide +kernel
theorem dL_law_883 : decode cL_law 883 = .ok (.aload_n 0, 1) := by decide +kernel
theorem dL_law_884 : decode cL_law 884 = .ok (.iload_n 3, 1) := by decide +kernel
theorem dL_law_885 : decode cL_law 885 = .ok (.iconst 2, 1) := by decide +kernel
theorem dL_law_886 : decode cL_law 886 = .ok (.iadd, 1) := by decide +kernel
theorem dL_law_887 : decode cL_law 887 = .ok (.iaload, 1) := by decide +kernel
theorem dL_law_888 : decode cL_law 888 = .ok (.aload_n 0, 1) := by decide +kernel
theorem dL_law_889 : decode cL_law 889 = .ok (.iload_n 3, 1) := by decide +kernel
theorem dL_law_890 : decode cL_law 890 = .ok (.iconst 3, 1) := by decide +kernel
theorem dL_law_891 : decode cL_law 891 = .ok (.iadd, 1) := by decide +kernel
theorem dL_law_892 : decode cL_law 892 = .ok (.iaload, 1) := by decide +kernel
theorem dL_law_893 : decode cL_law 893 = .ok (.aload_n 0, 1) := by decide +kernel
theorem dL_law_894 : decode cL_law 894 = .ok (.iload_n 3, 1) := by decide +kernel
theorem dL_law_895 : decode cL_law 895 = .ok (.iconst 4, 1) := by decide +kernel
theorem dL_law_896 : decode cL_law 896 = .ok (.iadd, 1) := by decide +kernel
theorem dL_law_897 : decode cL_law 897 = .ok (.iaload, 1) := by decide +kernel
theorem dL_law_898 : decode cL_law 898 = .ok (.aload_n 0, 1) := by decide +kernel
theorem dL_law_899 : decode cL_law 899 = .ok (.iload_n 3, 1) := by decide +kernel
theorem dL_law_900 : decode cL_law 900 = .ok (.iconst 5, 1) := by decide +kernel
theorem dL_law_901 : decode cL_law 901 = .ok (.iadd, 1) := by decide +kernel
theorem dL_law_902 : decode cL_law 902 = .ok (.iaload, 1) := by decide +kernel
theorem tw_616 : Cond.methodLink RL 84 yX11_feed ∈ wsL_law := List.mem_of_getElem? (i := 616) (by decide +kernel)
theorem tw_617 : Cond.instanceMethod yX11_feed ∈ wsL_law := List.mem_of_getElem? (i := 617) (by decide +kernel)
theorem tw_618 : Cond.selects RX11 yX11_feed yX11_feed ∈ wsL_law := List.mem_of_getElem? (i := 618) (by decide +kernel)
theorem tw_619 : Cond.code yX11_feed cX11_feed 7 (some .int) ∈ wsL_law := List.mem_of_getElem? (i := 619) (by decide +kernel)
theorem dL_law_903 : decode cL_law 903 = .ok (.invokevirtual 84, 3) := by decide +kernel
theorem dL_law_906 : decode cL_law 906 = .ok (.aload_n 2, 1) := by decide +kernel
theorem dL_law_907 : decode cL_law 907 = .ok (.aload_n 0, 1) := by decide +kernel
theorem dL_law_908 : decode cL_law 908 = .ok (.iload_n 3, 1) := by decide +kernel
theorem dL_law_909 : decode cL_law 909 = .ok (.iconst 1, 1) := by decide +kernel
theorem dL_law_910 : decode cL_law 910 = .ok (.iadd, 1) := by decide +kernel
theorem dL_law_911 : decode cL_law 911 = .ok (.iaload, 1) := by decide +kernel
theorem dL_law_912 : decode cL_law 912 = .ok (.aload_n 0, 1) := by decide +kernel
theorem dL_law_913 : decode cL_law 913 = .ok (.iload_n 3, 1) := by decide +kernel
theorem dL_law_914 : decode cL_law 914 = .ok (.iconst 2, 1) := by decide +kernel
theorem dL_law_915 : decode cL_law 915 = .ok (.iadd, 1) := by decide +kernel
theorem dL_law_916 : decode cL_law 916 = .ok (.iaload, 1) := by decide +kernel
theorem dL_law_917 : decode cL_law 917 = .ok (.aload_n 0, 1) := by decide +kernel
theorem dL_law_918 : decode cL_law 918 = .ok (.iload_n 3, 1) := by decide +kernel
theorem dL_law_919 : decode cL_law 919 = .ok (.iconst 3, 1) := by decide +kernel
theorem dL_law_920 : decode cL_law 920 = .ok (.iadd, 1) := by decide +kernel
theorem dL_law_921 : decode cL_law 921 = .ok (.iaload, 1) := by decide +kernel
theorem dL_law_922 : decode cL_law 922 = .ok (.aload_n 0, 1) := by decide +kernel
theorem dL_law_923 : decode cL_law 923 = .ok (.iload_n 3, 1) := by decide +kernel
theorem dL_law_924 : decode cL_law 924 = .ok (.iconst 4, 1) := by decide +kernel
theorem dL_law_925 : decode cL_law 925 = .ok (.iadd, 1) := by decide +kernel
theorem dL_law_926 : decode cL_law 926 = .ok (.iaload, 1) := by decide +kernel
theorem dL_law_927 : decode cL_law 927 = .ok (.aload_n 0, 1) := by decide +kernel
theorem dL_law_928 : decode cL_law 928 = .ok (.iload_n 3, 1) := by decide +kernel
theorem dL_law_929 : decode cL_law 929 = .ok (.iconst 5, 1) := by decide +kernel
theorem dL_law_930 : decode cL_law 930 = .ok (.iadd, 1) := by decide +kernel
theorem dL_law_931 : decode cL_law 931 = .ok (.iaload, 1) := by decide +kernel
theorem tw_627 : Cond.methodLink RL 87 yX12_feed ∈ wsL_law := List.mem_of_getElem? (i := 627) (by decide +kernel)
theorem tw_628 : Cond.instanceMethod yX12_feed ∈ wsL_law := List.mem_of_getElem? (i := 628) (by decide +kernel)
theorem tw_629 : Cond.selects RX12 yX12_feed yX12_feed ∈ wsL_law := List.mem_of_getElem? (i := 629) (by decide +kernel)
theorem tw_630 : Cond.code yX12_feed cX12_feed 6 (some .int) ∈ wsL_law := List.mem_of_getElem? (i := 630) (by decide +kernel)
theorem dL_law_932 : decode cL_law 932 = .ok (.invokevirtual 87, 3) := by decide +kernel
theorem dL_law_935 : decode cL_law 935 = .ok (.if_icmp .eq 790, 3) := by decide +kernel
theorem dL_law_940 : decode cL_law 940 = .ok (.aload_n 1, 1) := by decide +kernel
theorem dL_law_941 : decode cL_law 941 = .ok (.aload_n 0, 1) := by decide +kernel
theorem dL_law_942 : decode cL_law 942 = .ok (.iload_n 3, 1) := by decide +kernel
theorem dL_law_943 : decode cL_law 943 = .ok (.iconst 1, 1) := by decide +kernel
theorem dL_law_944 : decode cL_law 944 = .ok (.iadd, 1) := by decide +kernel
theorem dL_law_945 : decode cL_law 945 = .ok (.iaload, 1) := by decide +kernel
theorem tw_636 : Cond.methodLink RL 88 yX11_end ∈ wsL_law := List.mem_of_getElem? (i := 636) (by decide +kernel)
theorem tw_637 : Cond.instanceMethod yX11_end ∈ wsL_law := List.mem_of_getElem? (i := 637) (by decide +kernel)
theorem tw_638 : Cond.selects RX11 yX11_end yX11_end ∈ wsL_law := List.mem_of_getElem? (i := 638) (by decide +kernel)
theorem tw_639 : Cond.code yX11_end cX11_end 2 (some .int) ∈ wsL_law := List.mem_of_getElem? (i := 639) (by decide +kernel)
theorem dL_law_946 : decode cL_law 946 = .ok (.invokevirtual 88, 3) := by decide +kernel
theorem dL_law_949 : decode cL_law 949 = .ok (.aload_n 2, 1) := by decide +kernel
theorem dL_law_950 : decode cL_law 950 = .ok (.aload_n 0, 1) := by decide +kernel
theorem dL_law_951 : decode cL_law 951 = .ok (.iload_n 3, 1) := by decide +kernel
theorem dL_law_952 : decode cL_law 952 = .ok (.iconst 1, 1) := by decide +kernel
theorem dL_law_953 : decode cL_law 953 = .ok (.iadd, 1) := by decide +kernel
theorem dL_law_954 : decode cL_law 954 = .ok (.iaload, 1) := by decide +kernel
theorem tw_640 : Cond.methodLink RL 91 yX12_end ∈ wsL_law := List.mem_of_getElem? (i := 640) (by decide +kernel)
theorem tw_641 : Cond.instanceMethod yX12_end ∈ wsL_law := List.mem_of_getElem? (i := 641) (by decide +kernel)
theorem tw_642 : Cond.selects RX12 yX12_end yX12_end ∈ wsL_law := List.mem_of_getElem? (i := 642) (by decide +kernel)
theorem tw_643 : Cond.code yX12_end cX12_end 2 (some .int) ∈ wsL_law := List.mem_of_getElem? (i := 643) (by decide +kernel)
theorem dL_law_955 : decode cL_law 955 = .ok (.invokevirtual 91, 3) := by decide +kernel
theorem dL_law_958 : decode cL_law 958 = .ok (.if_icmp .eq 767, 3) := by decide +kernel
theorem dL_law_963 : decode cL_law 963 = .ok (.aload_n 1, 1) := by decide +kernel
theorem tw_644 : Cond.methodLink RL 92 yX11_text ∈ wsL_law := List.mem_of_getElem? (i := 644) (by decide +kernel)
theorem tw_645 : Cond.instanceMethod yX11_text ∈ wsL_law := List.mem_of_getElem? (i := 645) (by decide +kernel)
theorem tw_646 : Cond.selects RX11 yX11_text yX11_text ∈ wsL_law := List.mem_of_getElem? (i := 646) (by decide +kernel)
theorem tw_647 : Cond.code yX11_text cX11_text 3 (some .int) ∈ wsL_law := List.mem_of_getElem? (i := 647) (by decide +kernel)
theorem dL_law_964 : decode cL_law 964 = .ok (.invokevirtual 92, 3) := by decide +kernel
theorem dL_law_967 : decode cL_law 967 = .ok (.aload_n 2, 1) := by decide +kernel
theorem tw_816 : Cond.methodLink RL 95 yX12_text ∈ wsL_law := List.mem_of_getElem? (i := 816) (by decide +kernel)
theorem tw_817 : Cond.instanceMethod yX12_text ∈ wsL_law := List.mem_of_getElem? (i := 817) (by decide +kernel)
theorem tw_818 : Cond.selects RX12 yX12_text yX12_text ∈ wsL_law := List.mem_of_getElem? (i := 818) (by decide +kernel)
theorem tw_819 : Cond.code yX12_text cX12_text 1 (some .int) ∈ wsL_law := List.mem_of_getElem? (i := 819) (by decide +kernel)
theorem dL_law_968 : decode cL_law 968 = .ok (.invokevirtual 95, 3) := by decide +kernel
theorem dL_law_971 : decode cL_law 971 = .ok (.if_icmp .eq 754, 3) := by decide +kernel
theorem dL_law_976 : decode cL_law 976 = .ok (.aload_n 1, 1) := by decide +kernel
theorem dL_law_977 : decode cL_law 977 = .ok (.aload_n 0, 1) := by decide +kernel
theorem dL_law_978 : decode cL_law 978 = .ok (.iload_n 3, 1) := by decide +kernel
theorem dL_law_979 : decode cL_law 979 = .ok (.iconst 1, 1) := by decide +kernel
theorem dL_law_980 : decode cL_law 980 = .ok (.iadd, 1) := by decide +kernel
theorem dL_law_981 : decode cL_law 981 = .ok (.iaload, 1) := by decide +kernel
theorem tw_937 : Cond.methodLink RL 96 yX11_fault ∈ wsL_law := List.mem_of_getElem? (i := 937) (by decide +kernel)
theorem tw_938 : Cond.instanceMethod yX11_fault ∈ wsL_law := List.mem_of_getElem? (i := 938) (by decide +kernel)
theorem tw_939 : Cond.selects RX11 yX11_fault yX11_fault ∈ wsL_law := List.mem_of_getElem? (i := 939) (by decide +kernel)
theorem tw_940 : Cond.code yX11_fault cX11_fault 2 (some .int) ∈ wsL_law := List.mem_of_getElem? (i := 940) (by decide +kernel)
theorem dL_law_982 : decode cL_law 982 = .ok (.invokevirtual 96, 3) := by decide +kernel
theorem dL_law_985 : decode cL_law 985 = .ok (.aload_n 2, 1) := by decide +kernel
theorem dL_law_986 : decode cL_law 986 = .ok (.aload_n 0, 1) := by decide +kernel
theorem dL_law_987 : decode cL_law 987 = .ok (.iload_n 3, 1) := by decide +kernel
theorem dL_law_988 : decode cL_law 988 = .ok (.iconst 1, 1) := by decide +kernel
theorem dL_law_989 : decode cL_law 989 = .ok (.iadd, 1) := by decide +kernel
theorem dL_law_990 : decode cL_law 990 = .ok (.iaload, 1) := by decide +kernel
theorem tw_942 : Cond.methodLink RL 99 yX12_fault ∈ wsL_law := List.mem_of_getElem? (i := 942) (by decide +kernel)
theorem tw_943 : Cond.instanceMethod yX12_fault ∈ wsL_law := List.mem_of_getElem? (i := 943) (by decide +kernel)
theorem tw_944 : Cond.selects RX12 yX12_fault yX12_fault ∈ wsL_law := List.mem_of_getElem? (i := 944) (by decide +kernel)
theorem tw_945 : Cond.code yX12_fault cX12_fault 2 (some .int) ∈ wsL_law := List.mem_of_getElem? (i := 945) (by decide +kernel)
theorem dL_law_991 : decode cL_law 991 = .ok (.invokevirtual 99, 3) := by decide +kernel
theorem dL_law_994 : decode cL_law 994 = .ok (.if_icmp .eq 731, 3) := by decide +kernel
theorem dL_law_999 : decode cL_law 999 = .ok (.aload_n 1, 1) := by decide +kernel
theorem dL_law_1000 : decode cL_law 1000 = .ok (.aload_n 0, 1) := by decide +kernel
theorem dL_law_1001 : decode cL_law 1001 = .ok (.iload_n 3, 1) := by decide +kernel
theorem dL_law_1002 : decode cL_law 1002 = .ok (.iconst 1, 1) := by decide +kernel
theorem dL_law_1003 : decode cL_law 1003 = .ok (.iadd, 1) := by decide +kernel
theorem dL_law_1004 : decode cL_law 1004 = .ok (.iaload, 1) := by decide +kernel
theorem dL_law_1005 : decode cL_law 1005 = .ok (.aload_n 0, 1) := by decide +kernel
theorem dL_law_1006 : decode cL_law 1006 = .ok (.iload_n 3, 1) := by decide +kernel
theorem dL_law_1007 : decode cL_law 1007 = .ok (.iconst 2, 1) := by decide +kernel
theorem dL_law_1008 : decode cL_law 1008 = .ok (.iadd, 1) := by decide +kernel
theorem dL_law_1009 : decode cL_law 1009 = .ok (.iaload, 1) := by decide +kernel
theorem dL_law_1010 : decode cL_law 1010 = .ok (.aload_n 0, 1) := by decide +kernel
theorem dL_law_1011 : decode cL_law 1011 = .ok (.iload_n 3, 1) := by decide +kernel
theorem dL_law_1012 : decode cL_law 1012 = .ok (.iconst 3, 1) := by decide +kernel
theorem dL_law_1013 : decode cL_law 1013 = .ok (.iadd, 1) := by decide +kernel
theorem dL_law_1014 : decode cL_law 1014 = .ok (.iaload, 1) := by decide +kernel
theorem tw_946 : Cond.methodLink RL 100 yX11_force ∈ wsL_law := List.mem_of_getElem? (i := 946) (by decide +kernel)
theorem tw_947 : Cond.instanceMethod yX11_force ∈ wsL_law := List.mem_of_getElem? (i := 947) (by decide +kernel)
theorem tw_948 : Cond.selects RX11 yX11_force yX11_force ∈ wsL_law := List.mem_of_getElem? (i := 948) (by decide +kernel)
theorem tw_949 : Cond.code yX11_force cX11_force 6 (some .int) ∈ wsL_law := List.mem_of_getElem? (i := 949) (by decide +kernel)
theorem dL_law_1015 : decode cL_law 1015 = .ok (.invokevirtual 100, 3) := by decide +kernel
theorem dL_law_1018 : decode cL_law 1018 = .ok (.aload_n 2, 1) := by decide +kernel
theorem dL_law_1019 : decode cL_law 1019 = .ok (.aload_n 0, 1) := by decide +kernel
theorem dL_law_1020 : decode cL_law 1020 = .ok (.iload_n 3, 1) := by decide +kernel
theorem dL_law_1021 : decode cL_law 1021 = .ok (.iconst 1, 1) := by decide +kernel
theorem dL_law_1022 : decode cL_law 1022 = .ok (.iadd, 1) := by decide +kernel
theorem dL_law_1023 : decode cL_law 1023 = .ok (.iaload, 1) := by decide +kernel
theorem dL_law_1024 : decode cL_law 1024 = .ok (.aload_n 0, 1) := by decide +kernel
theorem dL_law_1025 : decode cL_law 1025 = .ok (.iload_n 3, 1) := by decide +kernel
theorem dL_law_1026 : decode cL_law 1026 = .ok (.iconst 2, 1) := by decide +kernel
theorem dL_law_1027 : decode cL_law 1027 = .ok (.iadd, 1) := by decide +kernel
theorem dL_law_1028 : decode cL_law 1028 = .ok (.iaload, 1) := by decide +kernel
theorem dL_law_1029 : decode cL_law 1029 = .ok (.aload_n 0, 1) := by decide +kernel
theorem dL_law_1030 : decode cL_law 1030 = .ok (.iload_n 3, 1) := by decide +kernel
theorem dL_law_1031 : decode cL_law 1031 = .ok (.iconst 3, 1) := by decide +kernel
theorem dL_law_1032 : decode cL_law 1032 = .ok (.iadd, 1) := by decide +kernel
theorem dL_law_1033 : decode cL_law 1033 = .ok (.iaload, 1) := by decide +kernel
theorem tw_955 : Cond.methodLink RL 103 yX12_force ∈ wsL_law := List.mem_of_getElem? (i := 955) (by decide +kernel)
theorem tw_956 : Cond.instanceMethod yX12_force ∈ wsL_law := List.mem_of_getElem? (i := 956) (by decide +kernel)
theorem tw_957 : Cond.selects RX12 yX12_force yX12_force ∈ wsL_law := List.mem_of_getElem? (i := 957) (by decide +kernel)
theorem tw_958 : Cond.code yX12_force cX12_force 5 (some .int) ∈ wsL_law := List.mem_of_getElem? (i := 958) (by decide +kernel)
theorem dL_law_1034 : decode cL_law 1034 = .ok (.invokevirtual 103, 3) := by decide +kernel
theorem dL_law_1037 : decode cL_law 1037 = .ok (.if_icmp .eq 688, 3) := by decide +kernel
theorem dL_law_1042 : decode cL_law 1042 = .ok (.aload_n 1, 1) := by decide +kernel
theorem dL_law_1043 : decode cL_law 1043 = .ok (.aload_n 0, 1) := by decide +kernel
theorem dL_law_1044 : decode cL_law 1044 = .ok (.iload_n 3, 1) := by decide +kernel
theorem dL_law_1045 : decode cL_law 1045 = .ok (.iconst 1, 1) := by decide +kernel
theorem dL_law_1046 : decode cL_law 1046 = .ok (.iadd, 1) := by decide +kernel
theorem dL_law_1047 : decode cL_law 1047 = .ok (.iaload, 1) := by decide +kernel
theorem dL_law_1048 : decode cL_law 1048 = .ok (.aload_n 0, 1) := by decide +kernel
theorem dL_law_1049 : decode cL_law 1049 = .ok (.iload_n 3, 1) := by decide +kernel
theorem dL_law_1050 : decode cL_law 1050 = .ok (.iconst 2, 1) := by decide +kernel
theorem dL_law_1051 : decode cL_law 1051 = .ok (.iadd, 1) := by decide +kernel
theorem dL_law_1052 : decode cL_law 1052 = .ok (.iaload, 1) := by decide +kernel
theorem dL_law_1053 : decode cL_law 1053 = .ok (.aload_n 0, 1) := by decide +kernel
theorem dL_law_1054 : decode cL_law 1054 = .ok (.iload_n 3, 1) := by decide +kernel
theorem dL_law_1055 : decode cL_law 1055 = .ok (.iconst 3, 1) := by decide +kernel
theorem dL_law_1056 : decode cL_law 1056 = .ok (.iadd, 1) := by decide +kernel
theorem dL_law_1057 : decode cL_law 1057 = .ok (.iaload, 1) := by decide +kernel
theorem tw_959 : Cond.methodLink RL 104 yX11_is ∈ wsL_law := List.mem_of_getElem? (i := 959) (by decide +kernel)
theorem tw_960 : Cond.instanceMethod yX11_is ∈ wsL_law := List.mem_of_getElem? (i := 960) (by decide +kernel)
theorem tw_961 : Cond.selects RX11 yX11_is yX11_is ∈ wsL_law := List.mem_of_getElem? (i := 961) (by decide +kernel)
theorem tw_962 : Cond.code yX11_is cX11_is 4 (some .int) ∈ wsL_law := List.mem_of_getElem? (i := 962) (by decide +kernel)
theorem dL_law_1058 : decode cL_law 1058 = .ok (.invokevirtual 104, 3) := by decide +kernel
theorem dL_law_1061 : decode cL_law 1061 = .ok (.aload_n 2, 1) := by decide +kernel
theorem dL_law_1062 : decode cL_law 1062 = .ok (.aload_n 0, 1) := by decide +kernel
theorem dL_law_1063 : decode cL_law 1063 = .ok (.iload_n 3, 1) := by decide +kernel
theorem dL_law_1064 : decode cL_law 1064 = .ok (.iconst 1, 1) := by decide +kernel
theorem dL_law_1065 : decode cL_law 1065 = .ok (.iadd, 1) := by decide +kernel
theorem dL_law_1066 : decode cL_law 1066 = .ok (.iaload, 1) := by decide +kernel
theorem dL_law_1067 : decode cL_law 1067 = .ok (.aload_n 0, 1) := by decide +kernel
theorem dL_law_1068 : decode cL_law 1068 = .ok (.iload_n 3, 1) := by decide +kernel
theorem dL_law_1069 : decode cL_law 1069 = .ok (.iconst 2, 1) := by decide +kernel
theorem dL_law_1070 : decode cL_law 1070 = .ok (.iadd, 1) := by decide +kernel
theorem dL_law_1071 : decode cL_law 1071 = .ok (.iaload, 1) := by decide +kernel
theorem dL_law_1072 : decode cL_law 1072 = .ok (.aload_n 0, 1) := by decide +kernel
theorem dL_law_1073 : decode cL_law 1073 = .ok (.iload_n 3, 1) := by decide +kernel
theorem dL_law_1074 : decode cL_law 1074 = .ok (.iconst 3, 1) := by decide +kernel
theorem dL_law_1075 : decode cL_law 1075 = .ok (.iadd, 1) := by decide +kernel
theorem dL_law_1076 : decode cL_law 1076 = .ok (.iaload, 1) := by decide +kernel
theorem tw_967 : Cond.methodLink RL 107 yX12_is ∈ wsL_law := List.mem_of_getElem? (i := 967) (by decide +kernel)
theorem tw_968 : Cond.instanceMethod yX12_is ∈ wsL_law := List.mem_of_getElem? (i := 968) (by decide +kernel)
theorem tw_969 : Cond.selects RX12 yX12_is yX12_is ∈ wsL_law := List.mem_of_getElem? (i := 969) (by decide +kernel)
theorem tw_970 : Cond.code yX12_is cX12_is 4 (some .int) ∈ wsL_law := List.mem_of_getElem? (i := 970) (by decide +kernel)
theorem dL_law_1077 : decode cL_law 1077 = .ok (.invokevirtual 107, 3) := by decide +kernel
theorem dL_law_1080 : decode cL_law 1080 = .ok (.if_icmp .eq 645, 3) := by decide +kernel
theorem dL_law_1085 : decode cL_law 1085 = .ok (.aload_n 1, 1) := by decide +kernel
theorem dL_law_1086 : decode cL_law 1086 = .ok (.aload_n 0, 1) := by decide +kernel
theorem dL_law_1087 : decode cL_law 1087 = .ok (.iload_n 3, 1) := by decide +kernel
theorem dL_law_1088 : decode cL_law 1088 = .ok (.iconst 1, 1) := by decide +kernel
theorem dL_law_1089 : decode cL_law 1089 = .ok (.iadd, 1) := by decide +kernel
theorem dL_law_1090 : decode cL_law 1090 = .ok (.iaload, 1) := by decide +kernel
theorem dL_law_1091 : decode cL_law 1091 = .ok (.aload_n 0, 1) := by decide +kernel
theorem dL_law_1092 : decode cL_law 1092 = .ok (.iload_n 3, 1) := by decide +kernel
theorem dL_law_1093 : decode cL_law 1093 = .ok (.iconst 2, 1) := by decide +kernel
theorem dL_law_1094 : decode cL_law 1094 = .ok (.iadd, 1) := by decide +kernel
theorem dL_law_1095 : decode cL_law 1095 = .ok (.iaload, 1) := by decide +kernel
theorem dL_law_1096 : decode cL_law 1096 = .ok (.aload_n 0, 1) := by decide +kernel
theorem dL_law_1097 : decode cL_law 1097 = .ok (.iload_n 3, 1) := by decide +kernel
theorem dL_law_1098 : decode cL_law 1098 = .ok (.iconst 3, 1) := by decide +kernel
theorem dL_law_1099 : decode cL_law 1099 = .ok (.iadd, 1) := by decide +kernel
theorem dL_law_1100 : decode cL_law 1100 = .ok (.iaload, 1) := by decide +kernel
theorem tw_975 : Cond.methodLink RL 108 yX11_why ∈ wsL_law := List.mem_of_getElem? (i := 975) (by decide +kernel)
theorem tw_976 : Cond.instanceMethod yX11_why ∈ wsL_law := List.mem_of_getElem? (i := 976) (by decide +kernel)
theorem tw_977 : Cond.selects RX11 yX11_why yX11_why ∈ wsL_law := List.mem_of_getElem? (i := 977) (by decide +kernel)
theorem tw_978 : Cond.code yX11_why cX11_why 4 (some .int) ∈ wsL_law := List.mem_of_getElem? (i := 978) (by decide +kernel)
theorem dL_law_1101 : decode cL_law 1101 = .ok (.invokevirtual 108, 3) := by decide +kernel
theorem dL_law_1104 : decode cL_law 1104 = .ok (.aload_n 2, 1) := by decide +kernel
theorem dL_law_1105 : decode cL_law 1105 = .ok (.aload_n 0, 1) := by decide +kernel
theorem dL_law_1106 : decode cL_law 1106 = .ok (.iload_n 3, 1) := by decide +kernel
theorem dL_law_1107 : decode cL_law 1107 = .ok (.iconst 1, 1) := by decide +kernel
theorem dL_law_1108 : decode cL_law 1108 = .ok (.iadd, 1) := by decide +kernel
theorem dL_law_1109 : decode cL_law 1109 = .ok (.iaload, 1) := by decide +kernel
theorem dL_law_1110 : decode cL_law 1110 = .ok (.aload_n 0, 1) := by decide +kernel
theorem dL_law_1111 : decode cL_law 1111 = .ok (.iload_n 3, 1) := by decide +kernel
theorem dL_law_1112 : decode cL_law 1112 = .ok (.iconst 2, 1) := by decide +kernel
theorem dL_law_1113 : decode cL_law 1113 = .ok (.iadd, 1) := by decide +kernel
theorem dL_law_1114 : decode cL_law 1114 = .ok (.iaload, 1) := by decide +kernel
theorem dL_law_1115 : decode cL_law 1115 = .ok (.aload_n 0, 1) := by decide +kernel
theorem dL_law_1116 : decode cL_law 1116 = .ok (.iload_n 3, 1) := by decide +kernel
theorem dL_law_1117 : decode cL_law 1117 = .ok (.iconst 3, 1) := by decide +kernel
theorem dL_law_1118 : decode cL_law 1118 = .ok (.iadd, 1) := by decide +kernel
theorem dL_law_1119 : decode cL_law 1119 = .ok (.iaload, 1) := by decide +kernel
theorem tw_983 : Cond.methodLink RL 111 yX12_why ∈ wsL_law := List.mem_of_getElem? (i := 983) (by decide +kernel)
theorem tw_984 : Cond.instanceMethod yX12_why ∈ wsL_law := List.mem_of_getElem? (i := 984) (by decide +kernel)
theorem tw_985 : Cond.selects RX12 yX12_why yX12_why ∈ wsL_law := List.mem_of_getElem? (i := 985) (by decide +kernel)
theorem tw_986 : Cond.code yX12_why cX12_why 4 (some .int) ∈ wsL_law := List.mem_of_getElem? (i := 986) (by decide +kernel)
theorem dL_law_1120 : decode cL_law 1120 = .ok (.invokevirtual 111, 3) := by decide +kernel
theorem dL_law_1123 : decode cL_law 1123 = .ok (.if_icmp .eq 602, 3) := by decide +kernel
theorem dL_law_1128 : decode cL_law 1128 = .ok (.aload_n 1, 1) := by decide +kernel
theorem dL_law_1129 : decode cL_law 1129 = .ok (.aload_n 0, 1) := by decide +kernel
theorem dL_law_1130 : decode cL_law 1130 = .ok (.iload_n 3, 1) := by decide +kernel
theorem dL_law_1131 : decode cL_law 1131 = .ok (.iconst 1, 1) := by decide +kernel
theorem dL_law_1132 : decode cL_law 1132 = .ok (.iadd, 1) := by decide +kernel
theorem dL_law_1133 : decode cL_law 1133 = .ok (.iaload, 1) := by decide +kernel
theorem dL_law_1134 : decode cL_law 1134 = .ok (.aload_n 0, 1) := by decide +kernel
theorem dL_law_1135 : decode cL_law 1135 = .ok (.iload_n 3, 1) := by decide +kernel
theorem dL_law_1136 : decode cL_law 1136 = .ok (.iconst 2, 1) := by decide +kernel
theorem dL_law_1137 : decode cL_law 1137 = .ok (.iadd, 1) := by decide +kernel
theorem dL_law_1138 : decode cL_law 1138 = .ok (.iaload, 1) := by decide +kernel
theorem tw_987 : Cond.methodLink RL 112 yX11_says ∈ wsL_law := List.mem_of_getElem? (i := 987) (by decide +kernel)
theorem tw_988 : Cond.instanceMethod yX11_says ∈ wsL_law := List.mem_of_getElem? (i := 988) (by decide +kernel)
theorem tw_989 : Cond.selects RX11 yX11_says yX11_says ∈ wsL_law := List.mem_of_getElem? (i := 989) (by decide +kernel)
theorem tw_990 : Cond.code yX11_says cX11_says 3 (some .int) ∈ wsL_law := List.mem_of_getElem? (i := 990) (by decide +kernel)
theorem dL_law_1139 : decode cL_law 1139 = .ok (.invokevirtual 112, 3) := by decide +kernel
theorem dL_law_1142 : decode cL_law 1142 = .ok (.aload_n 2, 1) := by decide +kernel
theorem dL_law_1143 : decode cL_law 1143 = .ok (.aload_n 0, 1) := by decide +kernel
theorem dL_law_1144 : decode cL_law 1144 = .ok (.iload_n 3, 1) := by decide +kernel
theorem dL_law_1145 : decode cL_law 1145 = .ok (.iconst 1, 1) := by decide +kernel
theorem dL_law_1146 : decode cL_law 1146 = .ok (.iadd, 1) := by decide +kernel
theorem dL_law_1147 : decode cL_law 1147 = .ok (.iaload, 1) := by decide +kernel
theorem dL_law_1148 : decode cL_law 1148 = .ok (.aload_n 0, 1) := by decide +kernel
theorem dL_law_1149 : decode cL_law 1149 = .ok (.iload_n 3, 1) := by decide +kernel
theorem dL_law_1150 : decode cL_law 1150 = .ok (.iconst 2, 1) := by decide +kernel
theorem dL_law_1151 : decode cL_law 1151 = .ok (.iadd, 1) := by decide +kernel
theorem dL_law_1152 : decode cL_law 1152 = .ok (.iaload, 1) := by decide +kernel
theorem tw_1012 : Cond.methodLink RL 115 yX12_says ∈ wsL_law := List.mem_of_getElem? (i := 1012) (by decide +kernel)
theorem tw_1013 : Cond.instanceMethod yX12_says ∈ wsL_law := List.mem_of_getElem? (i := 1013) (by decide +kernel)
theorem tw_1014 : Cond.selects RX12 yX12_says yX12_says ∈ wsL_law := List.mem_of_getElem? (i := 1014) (by decide +kernel)
theorem tw_1015 : Cond.code yX12_says cX12_says 3 (some .int) ∈ wsL_law := List.mem_of_getElem? (i := 1015) (by decide +kernel)
theorem dL_law_1153 : decode cL_law 1153 = .ok (.invokevirtual 115, 3) := by decide +kernel
theorem dL_law_1156 : decode cL_law 1156 = .ok (.if_icmp .eq 569, 3) := by decide +kernel
theorem dL_law_1161 : decode cL_law 1161 = .ok (.aload_n 1, 1) := by decide +kernel
theorem dL_law_1162 : decode cL_law 1162 = .ok (.aload_n 0, 1) := by decide +kernel
theorem dL_law_1163 : decode cL_law 1163 = .ok (.iload_n 3, 1) := by decide +kernel
theorem dL_law_1164 : decode cL_law 1164 = .ok (.iconst 1, 1) := by decide +kernel
theorem dL_law_1165 : decode cL_law 1165 = .ok (.iadd, 1) := by decide +kernel
theorem dL_law_1166 : decode cL_law 1166 = .ok (.iaload, 1) := by decide +kernel
theorem dL_law_1167 : decode cL_law 1167 = .ok (.aload_n 0, 1) := by decide +kernel
theorem dL_law_1168 : decode cL_law 1168 = .ok (.iload_n 3, 1) := by decide +kernel
theorem dL_law_1169 : decode cL_law 1169 = .ok (.iconst 2, 1) := by decide +kernel
theorem dL_law_1170 : decode cL_law 1170 = .ok (.iadd, 1) := by decide +kernel
theorem dL_law_1171 : decode cL_law 1171 = .ok (.iaload, 1) := by decide +kernel
theorem tw_1020 : Cond.methodLink RL 116 yX11_sail ∈ wsL_law := List.mem_of_getElem? (i := 1020) (by decide +kernel)
theorem tw_1021 : Cond.instanceMethod yX11_sail ∈ wsL_law := List.mem_of_getElem? (i := 1021) (by decide +kernel)
theorem tw_1022 : Cond.selects RX11 yX11_sail yX11_sail ∈ wsL_law := List.mem_of_getElem? (i := 1022) (by decide +kernel)
theorem tw_1023 : Cond.code yX11_sail cX11_sail 3 (some .boolean) ∈ wsL_law := List.mem_of_getElem? (i := 1023) (by decide +kernel)
theorem dL_law_1172 : decode cL_law 1172 = .ok (.invokevirtual 116, 3) := by decide +kernel
theorem dL_law_1175 : decode cL_law 1175 = .ok (.aload_n 2, 1) := by decide +kernel
theorem dL_law_1176 : decode cL_law 1176 = .ok (.aload_n 0, 1) := by decide +kernel
theorem dL_law_1177 : decode cL_law 1177 = .ok (.iload_n 3, 1) := by decide +kernel
theorem dL_law_1178 : decode cL_law 1178 = .ok (.iconst 1, 1) := by decide +kernel
theorem dL_law_1179 : decode cL_law 1179 = .ok (.iadd, 1) := by decide +kernel
theorem dL_law_1180 : decode cL_law 1180 = .ok (.iaload, 1) := by decide +kernel
theorem dL_law_1181 : decode cL_law 1181 = .ok (.aload_n 0, 1) := by decide +kernel
theorem dL_law_1182 : decode cL_law 1182 = .ok (.iload_n 3, 1) := by decide +kernel
theorem dL_law_1183 : decode cL_law 1183 = .ok (.iconst 2, 1) := by decide +kernel
theorem dL_law_1184 : decode cL_law 1184 = .ok (.iadd, 1) := by decide +kernel
theorem dL_law_1185 : decode cL_law 1185 = .ok (.iaload, 1) := by decide +kernel
theorem tw_1027 : Cond.methodLink RL 119 yX12_sail ∈ wsL_law := List.mem_of_getElem? (i := 1027) (by decide +kernel)
theorem tw_1028 : Cond.instanceMethod yX12_sail ∈ wsL_law := List.mem_of_getElem? (i := 1028) (by decide +kernel)
theorem tw_1029 : Cond.selects RX12 yX12_sail yX12_sail ∈ wsL_law := List.mem_of_getElem? (i := 1029) (by decide +kernel)
theorem tw_1030 : Cond.code yX12_sail cX12_sail 3 (some .boolean) ∈ wsL_law := List.mem_of_getElem? (i := 1030) (by decide +kernel)
theorem dL_law_1186 : decode cL_law 1186 = .ok (.invokevirtual 119, 3) := by decide +kernel
theorem dL_law_1189 : decode cL_law 1189 = .ok (.if_icmp .eq 536, 3) := by decide +kernel
theorem dL_law_1194 : decode cL_law 1194 = .ok (.aload_n 1, 1) := by decide +kernel
theorem dL_law_1195 : decode cL_law 1195 = .ok (.aload_n 0, 1) := by decide +kernel
theorem dL_law_1196 : decode cL_law 1196 = .ok (.iload_n 3, 1) := by decide +kernel
theorem dL_law_1197 : decode cL_law 1197 = .ok (.iconst 1, 1) := by decide +kernel
theorem dL_law_1198 : decode cL_law 1198 = .ok (.iadd, 1) := by decide +kernel
theorem dL_law_1199 : decode cL_law 1199 = .ok (.iaload, 1) := by decide +kernel
theorem dL_law_1200 : decode cL_law 1200 = .ok (.aload_n 0, 1) := by decide +kernel
theorem dL_law_1201 : decode cL_law 1201 = .ok (.iload_n 3, 1) := by decide +kernel
theorem dL_law_1202 : decode cL_law 1202 = .ok (.iconst 2, 1) := by decide +kernel
theorem dL_law_1203 : decode cL_law 1203 = .ok (.iadd, 1) := by decide +kernel
theorem dL_law_1204 : decode cL_law 1204 = .ok (.iaload, 1) := by decide +kernel
theorem tw_1031 : Cond.methodLink RL 120 yX11_months ∈ wsL_law := List.mem_of_getElem? (i := 1031) (by decide +kernel)
theorem tw_1032 : Cond.instanceMethod yX11_months ∈ wsL_law := List.mem_of_getElem? (i := 1032) (by decide +kernel)
theorem tw_1033 : Cond.selects RX11 yX11_months yX11_months ∈ wsL_law := List.mem_of_getElem? (i := 1033) (by decide +kernel)
theorem tw_1034 : Cond.code yX11_months cX11_months 4 (some .int) ∈ wsL_law := List.mem_of_getElem? (i := 1034) (by decide +kernel)
theorem dL_law_1205 : decode cL_law 1205 = .ok (.invokevirtual 120, 3) := by decide +kernel
theorem dL_law_1208 : decode cL_law 1208 = .ok (.aload_n 2, 1) := by decide +kernel
theorem dL_law_1209 : decode cL_law 1209 = .ok (.aload_n 0, 1) := by decide +kernel
theorem dL_law_1210 : decode cL_law 1210 = .ok (.iload_n 3, 1) := by decide +kernel
theorem dL_law_1211 : decode cL_law 1211 = .ok (.iconst 1, 1) := by decide +kernel
theorem dL_law_1212 : decode cL_law 1212 = .ok (.iadd, 1) := by decide +kernel
theorem dL_law_1213 : decode cL_law 1213 = .ok (.iaload, 1) := by decide +kernel
theorem dL_law_1214 : decode cL_law 1214 = .ok (.aload_n 0, 1) := by decide +kernel
theorem dL_law_1215 : decode cL_law 1215 = .ok (.iload_n 3, 1) := by decide +kernel
theorem dL_law_1216 : decode cL_law 1216 = .ok (.iconst 2, 1) := by decide +kernel
theorem dL_law_1217 : decode cL_law 1217 = .ok (.iadd, 1) := by decide +kernel
theorem dL_law_1218 : decode cL_law 1218 = .ok (.iaload, 1) := by decide +kernel
theorem tw_1185 : Cond.methodLink RL 123 yX12_months ∈ wsL_law := List.mem_of_getElem? (i := 1185) (by decide +kernel)
theorem tw_1186 : Cond.instanceMethod yX12_months ∈ wsL_law := List.mem_of_getElem? (i := 1186) (by decide +kernel)
theorem tw_1187 : Cond.selects RX12 yX12_months yX12_months ∈ wsL_law := List.mem_of_getElem? (i := 1187) (by decide +kernel)
theorem tw_1188 : Cond.code yX12_months cX12_months 4 (some .int) ∈ wsL_law := List.mem_of_getElem? (i := 1188) (by decide +kernel)
theorem dL_law_1219 : decode cL_law 1219 = .ok (.invokevirtual 123, 3) := by decide +kernel
theorem dL_law_1222 : decode cL_law 1222 = .ok (.if_icmp .eq 503, 3) := by decide +kernel
theorem dL_law_1227 : decode cL_law 1227 = .ok (.aload_n 1, 1) := by decide +kernel
theorem dL_law_1228 : decode cL_law 1228 = .ok (.aload_n 0, 1) := by decide +kernel
theorem dL_law_1229 : decode cL_law 1229 = .ok (.iload_n 3, 1) := by decide +kernel
theorem dL_law_1230 : decode cL_law 1230 = .ok (.iconst 1, 1) := by decide +kernel
theorem dL_law_1231 : decode cL_law 1231 = .ok (.iadd, 1) := by decide +kernel
theorem dL_law_1232 : decode cL_law 1232 = .ok (.iaload, 1) := by decide +kernel
theorem dL_law_1233 : decode cL_law 1233 = .ok (.aload_n 0, 1) := by decide +kernel
theorem dL_law_1234 : decode cL_law 1234 = .ok (.iload_n 3, 1) := by decide +kernel
theorem dL_law_1235 : decode cL_law 1235 = .ok (.iconst 2, 1) := by decide +kernel
theorem dL_law_1236 : decode cL_law 1236 = .ok (.iadd, 1) := by decide +kernel
theorem dL_law_1237 : decode cL_law 1237 = .ok (.iaload, 1) := by decide +kernel
theorem tw_1267 : Cond.methodLink RL 124 yX11_cellOf ∈ wsL_law := List.mem_of_getElem? (i := 1267) (by decide +kernel)
theorem tw_1268 : Cond.instanceMethod yX11_cellOf ∈ wsL_law := List.mem_of_getElem? (i := 1268) (by decide +kernel)
theorem tw_1269 : Cond.selects RX11 yX11_cellOf yX11_cellOf ∈ wsL_law := List.mem_of_getElem? (i := 1269) (by decide +kernel)
theorem tw_1270 : Cond.code yX11_cellOf cX11_cellOf 4 (some .int) ∈ wsL_law := List.mem_of_getElem? (i := 1270) (by decide +kernel)
theorem dL_law_1238 : decode cL_law 1238 = .ok (.invokevirtual 124, 3) := by decide +kernel
theorem dL_law_1241 : decode cL_law 1241 = .ok (.aload_n 2, 1) := by decide +kernel
theorem dL_law_1242 : decode cL_law 1242 = .ok (.aload_n 0, 1) := by decide +kernel
theorem dL_law_1243 : decode cL_law 1243 = .ok (.iload_n 3, 1) := by decide +kernel
theorem dL_law_1244 : decode cL_law 1244 = .ok (.iconst 1, 1) := by decide +kernel
theorem dL_law_1245 : decode cL_law 1245 = .ok (.iadd, 1) := by decide +kernel
theorem dL_law_1246 : decode cL_law 1246 = .ok (.iaload, 1) := by decide +kernel
theorem dL_law_1247 : decode cL_law 1247 = .ok (.aload_n 0, 1) := by decide +kernel
theorem dL_law_1248 : decode cL_law 1248 = .ok (.iload_n 3, 1) := by decide +kernel
theorem dL_law_1249 : decode cL_law 1249 = .ok (.iconst 2, 1) := by decide +kernel
theorem dL_law_1250 : decode cL_law 1250 = .ok (.iadd, 1) := by decide +kernel
theorem dL_law_1251 : decode cL_law 1251 = .ok (.iaload, 1) := by decide +kernel
theorem tw_1284 : Cond.methodLink RL 127 yX12_cellOf ∈ wsL_law := List.mem_of_getElem? (i := 1284) (by decide +kernel)
theorem tw_1285 : Cond.instanceMethod yX12_cellOf ∈ wsL_law := List.mem_of_getElem? (i := 1285) (by decide +kernel)
theorem tw_1286 : Cond.selects RX12 yX12_cellOf yX12_cellOf ∈ wsL_law := List.mem_of_getElem? (i := 1286) (by decide +kernel)
theorem tw_1287 : Cond.code yX12_cellOf cX12_cellOf 3 (some .int) ∈ wsL_law := List.mem_of_getElem? (i := 1287) (by decide +kernel)
theorem dL_law_1252 : decode cL_law 1252 = .ok (.invokevirtual 127, 3) := by decide +kernel
theorem dL_law_1255 : decode cL_law 1255 = .ok (.if_icmp .eq 470, 3) := by decide +kernel
theorem dL_law_1260 : decode cL_law 1260 = .ok (.aload_n 1, 1) := by decide +kernel
theorem dL_law_1261 : decode cL_law 1261 = .ok (.aload_n 0, 1) := by decide +kernel
theorem dL_law_1262 : decode cL_law 1262 = .ok (.iload_n 3, 1) := by decide +kernel
theorem dL_law_1263 : decode cL_law 1263 = .ok (.iconst 1, 1) := by decide +kernel
theorem dL_law_1264 : decode cL_law 1264 = .ok (.iadd, 1) := by decide +kernel
theorem dL_law_1265 : decode cL_law 1265 = .ok (.iaload, 1) := by decide +kernel
theorem dL_law_1266 : decode cL_law 1266 = .ok (.aload_n 0, 1) := by decide +kernel
theorem dL_law_1267 : decode cL_law 1267 = .ok (.iload_n 3, 1) := by decide +kernel
theorem dL_law_1268 : decode cL_law 1268 = .ok (.iconst 2, 1) := by decide +kernel
theorem dL_law_1269 : decode cL_law 1269 = .ok (.iadd, 1) := by decide +kernel
theorem dL_law_1270 : decode cL_law 1270 = .ok (.iaload, 1) := by decide +kernel
theorem tw_1288 : Cond.methodLink RL 128 yX11_personOf ∈ wsL_law := List.mem_of_getElem? (i := 1288) (by decide +kernel)
theorem tw_1289 : Cond.instanceMethod yX11_personOf ∈ wsL_law := List.mem_of_getElem? (i := 1289) (by decide +kernel)
theorem tw_1290 : Cond.selects RX11 yX11_personOf yX11_personOf ∈ wsL_law := List.mem_of_getElem? (i := 1290) (by decide +kernel)
theorem tw_1291 : Cond.code yX11_personOf cX11_personOf 4 (some .int) ∈ wsL_law := List.mem_of_getElem? (i := 1291) (by decide +kernel)
theorem dL_law_1271 : decode cL_law 1271 = .ok (.invokevirtual 128, 3) := by decide +kernel
theorem dL_law_1274 : decode cL_law 1274 = .ok (.aload_n 2, 1) := by decide +kernel
theorem dL_law_1275 : decode cL_law 1275 = .ok (.aload_n 0, 1) := by decide +kernel
theorem dL_law_1276 : decode cL_law 1276 = .ok (.iload_n 3, 1) := by decide +kernel
theorem dL_law_1277 : decode cL_law 1277 = .ok (.iconst 1, 1) := by decide +kernel
theorem dL_law_1278 : decode cL_law 1278 = .ok (.iadd, 1) := by decide +kernel
theorem dL_law_1279 : decode cL_law 1279 = .ok (.iaload, 1) := by decide +kernel
theorem dL_law_1280 : decode cL_law 1280 = .ok (.aload_n 0, 1) := by decide +kernel
theorem dL_law_1281 : decode cL_law 1281 = .ok (.iload_n 3, 1) := by decide +kernel
theorem dL_law_1282 : decode cL_law 1282 = .ok (.iconst 2, 1) := by decide +kernel
theorem dL_law_1283 : decode cL_law 1283 = .ok (.iadd, 1) := by decide +kernel
theorem dL_law_1284 : decode cL_law 1284 = .ok (.iaload, 1) := by decide +kernel
theorem tw_1299 : Cond.methodLink RL 131 yX12_personOf ∈ wsL_law := List.mem_of_getElem? (i := 1299) (by decide +kernel)
theorem tw_1300 : Cond.instanceMethod yX12_personOf ∈ wsL_law := List.mem_of_getElem? (i := 1300) (by decide +kernel)
theorem tw_1301 : Cond.selects RX12 yX12_personOf yX12_personOf ∈ wsL_law := List.mem_of_getElem? (i := 1301) (by decide +kernel)
theorem tw_1302 : Cond.code yX12_personOf cX12_personOf 3 (some .int) ∈ wsL_law := List.mem_of_getElem? (i := 1302) (by decide +kernel)
theorem dL_law_1285 : decode cL_law 1285 = .ok (.invokevirtual 131, 3) := by decide +kernel
theorem dL_law_1288 : decode cL_law 1288 = .ok (.if_icmp .eq 437, 3) := by decide +kernel
theorem dL_law_1293 : decode cL_law 1293 = .ok (.aload_n 1, 1) := by decide +kernel
theorem dL_law_1294 : decode cL_law 1294 = .ok (.aload_n 0, 1) := by decide +kernel
theorem dL_law_1295 : decode cL_law 1295 = .ok (.iload_n 3, 1) := by decide +kernel
theorem dL_law_1296 : decode cL_law 1296 = .ok (.iconst 1, 1) := by decide +kernel
theorem dL_law_1297 : decode cL_law 1297 = .ok (.iadd, 1) := by decide +kernel
theorem dL_law_1298 : decode cL_law 1298 = .ok (.iaload, 1) := by decide +kernel
theorem tw_1303 : Cond.methodLink RL 132 yX11_at ∈ wsL_law := List.mem_of_getElem? (i := 1303) (by decide +kernel)
theorem tw_1304 : Cond.instanceMethod yX11_at ∈ wsL_law := List.mem_of_getElem? (i := 1304) (by decide +kernel)
theorem tw_1305 : Cond.selects RX11 yX11_at yX11_at ∈ wsL_law := List.mem_of_getElem? (i := 1305) (by decide +kernel)
theorem tw_1306 : Cond.code yX11_at cX11_at 3 (some .int) ∈ wsL_law := List.mem_of_getElem? (i := 1306) (by decide +kernel)
theorem dL_law_1299 : decode cL_law 1299 = .ok (.invokevirtual 132, 3) := by decide +kernel
theorem dL_law_1302 : decode cL_law 1302 = .ok (.aload_n 2, 1) := by decide +kernel
theorem dL_law_1303 : decode cL_law 1303 = .ok (.aload_n 0, 1) := by decide +kernel
theorem dL_law_1304 : decode cL_law 1304 = .ok (.iload_n 3, 1) := by decide +kernel
theorem dL_law_1305 : decode cL_law 1305 = .ok (.iconst 1, 1) := by decide +kernel
theorem dL_law_1306 : decode cL_law 1306 = .ok (.iadd, 1) := by decide +kernel
theorem dL_law_1307 : decode cL_law 1307 = .ok (.iaload, 1) := by decide +kernel
theorem tw_1308 : Cond.methodLink RL 135 yX12_at ∈ wsL_law := List.mem_of_getElem? (i := 1308) (by decide +kernel)
theorem tw_1309 : Cond.instanceMethod yX12_at ∈ wsL_law := List.mem_of_getElem? (i := 1309) (by decide +kernel)
theorem tw_1310 : Cond.selects RX12 yX12_at yX12_at ∈ wsL_law := List.mem_of_getElem? (i := 1310) (by decide +kernel)
theorem tw_1311 : Cond.code yX12_at cX12_at 2 (some .int) ∈ wsL_law := List.mem_of_getElem? (i := 1311) (by decide +kernel)
theorem dL_law_1308 : decode cL_law 1308 = .ok (.invokevirtual 135, 3) := by decide +kernel
theorem dL_law_1311 : decode cL_law 1311 = .ok (.if_icmp .eq 414, 3) := by decide +kernel
set_option maxHeartbeats 8000000 in
set_option maxRecDepth 100000 in
theorem lw_op_14 {p : Program} {e : Env} {s : State} {m : MethodId} {below : List Frame} {meth : Method} {c : Code} {b : Nat} (l : Launch) (hx : p.tables.exec = Jvm.exec) (hb : c.code = cL_law) (hr : meth.sig.returnType = ret) (hml : c.maxLocals = 4) (hown : s.vm.findClass RL = some m.cls) (hlocks : meth.locks = false) (hts : ∀ w ∈ (Cond.initialized RX11 :: wsL_law), w.before #[Value.ref b] s = true) (xs : Nat → Int32) (hX : va_X b 7 xs s s.heap) (hbl : b < s.heap.size) {D : va_G} {t : pq_T} (hK : va_K D vwCl (pq_ty t) s) (hN : pq_N s) {σ τ : pq_S} {I : Nat → Nat → Int32} {J : Nat → Nat → Int64} {ri : Nat → Nat → Int32} {rj : Nat → Nat → Int64} {rq : Nat → Nat → Option Nat} {I2 : Nat → Nat → Int32} {J2 : Nat → Nat → Int64} {si : Nat → Nat → Int32} {sj : Nat → Nat → Int64} {sq : Nat → Nat → Option Nat} {this that : Nat} (hokx : okRingsUnder σ I this) (hL_this : this ∈ σ.1) (hK_this : σ.2.1 this = 11) (hZ : pq_Z I) (hq0 : rq = fun _ _ => none) (hokm : okModel τ I2 si that) (hL_that : that ∈ τ.1) (hK_that : τ.2.1 that = 12) (hdis : ∀ a, a ∈ τ.1 → a ∉ σ.1) {H : Heap} {locs : List Loc} (hP : va_P D vwCl (pq_P t σ (I, J, ri, rj, rq)) H) (hD : va_D (fun q => s.heap.size ≤ q) (pq_P t σ (I, J, ri, rj, rq))) (hP2 : va_P D vwCl (pq_P t τ (I2, J2, si, sj, sq)) H) (hD2 : va_D (fun q => s.heap.size ≤ q) (pq_P t τ (I2, J2, si, sj, sq))) (hS : va_S (fun q => s.heap.size ≤ q) s.heap H locs) {ls : Array Slot} (hl : lv_has ls 4 [(3, .int 0), (2, .ref that), (1, .ref this), (0, .ref b)]) : W p l e room_1 s m #[Value.ref b] below meth c H locs 207 49062 (lw_Z below #[Value.ref b] s) (F0 m 844 ls []) := by
  have hA : ∀ q : Nat, s.heap.size ≤ q → s.heap.size ≤ q := fun _ h => h
  obtain ⟨y_this_352, y_this_353, y_this_354, y_this_355, y_this_356, hd_this_352_353, hd_this_352_354, hd_this_353_354⟩ := id hokx
  obtain ⟨-, this_now, hR_this_now, hL_this_now, hK_this_now, ho_this_now⟩ := y_this_352
  obtain ⟨y_this_now_325, y_this_now_326, y_this_now_327, y_this_now_328, y_this_now_329, y_this_now_330, y_this_now_331, y_this_now_332, hi_this_now_320, hi_this_now_323, hi_this_now_324⟩ := id ho_this_now
  obtain ⟨-, this_now_land, hR_this_now_land, hL_this_now_land, hK_this_now_land, ho_this_now_land⟩ := y_this_now_327
  obtain ⟨y_this_now_land_68, y_this_now_land_69, y_this_now_land_70, y_this_now_land_71, y_this_now_land_72, y_this_now_land_73, y_this_now_land_74, y_this_now_land_75, y_this_now_land_76, y_this_now_land_77, y_this_now_land_78, y_this_now_land_79, y_this_now_land_80, y_this_now_land_81, y_this_now_land_82, y_this_now_land_83, hd_this_now_land_82_83⟩ := id ho_this_now_land
  obtain ⟨y_that_384, y_that_385, y_that_386, y_that_387, y_that_400, y_that_404, y_that_405, y_that_408, y_that_409, y_that_411, y_that_412, y_that_413, y_that_414, hi_that_388, hi_that_389, hi_that_390, hi_that_391, hd_that_384_385, hd_that_384_386, hd_that_384_414, hd_that_386_414, hF_384, hF_385⟩ := id hokm
  obtain ⟨-, that_a, hR_that_a, hL_that_a, hK_that_a, hN_that_a⟩ := y_that_384
  refine lv_aload_n hx hb dL_law_844 rfl (lv_at hl 2 rfl) ?_
  refine lv_aload_n hx hb dL_law_845 rfl (lv_at hl 3 rfl) ?_
  refine lv_iload_n hx hb dL_law_846 rfl (lv_at hl 0 rfl) ?_
  refine lv_iconst (v := 1) hx hb dL_law_847 (by decide) ?_
  refine lv_iadd hx hb dL_law_848 ?_
  refine lv_tov 1 (by decide) ?_
  refine va_sld hx hb hX hbl (Nat.not_le.mpr hbl) hS (vp_in_iff.mpr (by decide)) dL_law_849 ?_
  refine lv_tov (xs 1) rfl ?_
  refine lv_aload_n hx hb dL_law_850 rfl (lv_at hl 3 rfl) ?_
  refine lv_iload_n hx hb dL_law_851 rfl (lv_at hl 0 rfl) ?_
  refine lv_iconst (v := 2) hx hb dL_law_852 (by decide) ?_
  refine lv_iadd hx hb dL_law_853 ?_
  refine lv_tov 2 (by decide) ?_
  refine va_sld hx hb hX hbl (Nat.not_le.mpr hbl) hS (vp_in_iff.mpr (by decide)) dL_law_854 ?_
  refine lv_tov (xs 2) rfl ?_
  refine lk_i (va_runV (As := [.int (xs 1), .int (xs 2)]) (rest := []) ⟨hx, hb, hml, hown, hts⟩ (c_X11_titleOf l D t σ I J ri rj rq H.size this (xs 1) (xs 2) hL_this hK_this this_now hR_this_now hL_this_now hK_this_now this_now_land hR_this_now_land hL_this_now_land hK_this_now_land hZ) (cwV 2 hts (tw_V tw_541 tw_542 tw_543 tw_2 tw_544) rfl rfl rfl (by decide +kernel) ⟨Nat.le_of_ble_eq_true rfl, Nat.le_of_ble_eq_true rfl⟩) ⟨pq_blind, pq_recv hK hP hL_this hK_this (by decide) rfl, pq_pre hK hN hP hD⟩ rfl rfl hl.1 rfl (lv_room (Nat.le_of_ble_eq_true rfl)) dL_law_855 ⟨Nat.le_of_ble_eq_true rfl, Nat.le_of_ble_eq_true rfl⟩) hD hS hA hP2 hdis (fun r1 u1 H locs hw1 hP2 hS => ?_)
  obtain ⟨-, hr1⟩ := hw1
  refine lv_aload_n hx hb dL_law_858 rfl (lv_at hl 1 rfl) ?_
  refine lv_aload_n hx hb dL_law_859 rfl (lv_at hl 3 rfl) ?_
  refine lv_iload_n hx hb dL_law_860 rfl (lv_at hl 0 rfl) ?_
  refine lv_iconst (v := 1) hx hb dL_law_861 (by decide) ?_
  refine lv_iadd hx hb dL_law_862 ?_
  refine lv_tov 1 (by decide) ?_
  refine va_sld hx hb hX hbl (Nat.not_le.mpr hbl) hS (vp_in_iff.mpr (by decide)) dL_law_863 ?_
  refine lv_tov (xs 1) rfl ?_
  refine lv_aload_n hx hb dL_law_864 rfl (lv_at hl 3 rfl) ?_
  refine lv_iload_n hx hb dL_law_865 rfl (lv_at hl 0 rfl) ?_
  refine lv_iconst (v := 2) hx hb dL_law_866 (by decide) ?_
  refine lv_iadd hx hb dL_law_867 ?_
  refine lv_tov 2 (by decide) ?_
  refine va_sld hx hb hX hbl (Nat.not_le.mpr hbl) hS (vp_in_iff.mpr (by decide)) dL_law_868 ?_
  refine lv_tov (xs 2) rfl ?_
  refine pk_i (va_runV (As := [.int (xs 1), .int (xs 2)]) (rest := [.int r1]) ⟨hx, hb, hml, hown, hts⟩ (c_X12_titleOf l D t τ I2 J2 si sj sq H.size that (xs 1) (xs 2) hL_that hK_that that_a hR_that_a hL_that_a hK_that_a hN_that_a (okF_at hF_384 hR_that_a)) (cwV 2 hts (tw_V tw_589 tw_590 tw_591 tw_5 tw_592) rfl rfl rfl (by decide +kernel) ⟨Nat.le_of_ble_eq_true rfl, Nat.le_of_ble_eq_true rfl⟩) ⟨pq_blind, pq_recv hK hP2 hL_that hK_that (by decide) rfl, pq_pre hK hN hP2 hD2⟩ rfl rfl hl.1 rfl (lv_room (Nat.le_of_ble_eq_true rfl)) dL_law_869 ⟨Nat.le_of_ble_eq_true rfl, Nat.le_of_ble_eq_true rfl⟩) hD2 hS hA (fun r2 σ3 μ3 H locs hw2 hP3 hD3 hS => ?_)
  obtain ⟨-, hr2⟩ := hw2
  have he : r1 = r2 := by exact hr1.trans hr2.symm
  refine lv_icmp_eq (tgt := 1725) hx hb dL_law_872 (by decide) (fun _ => ?_) (fun q => absurd he q)
  exact lw_tail l hx hb hr hlocks hX hbl (by decide) (by decide) hS (lv_sub hl [3, 0] rfl)
set_option maxHeartbeats 8000000 in
set_option maxRecDepth 100000 in
theorem lw_op_15 {p : Program} {e : Env} {s : State} {m : MethodId} {below : List Frame} {meth : Method} {c : Code} {b : Nat} (l : Launch) (hx : p.tables.exec = Jvm.exec) (hb : c.code = cL_law) (hr : meth.sig.returnType = ret) (hml : c.maxLocals = 4) (hown : s.vm.findClass RL = some m.cls) (hlocks : meth.locks = false) (hts : ∀ w ∈ (Cond.initialized RX11 :: wsL_law), w.before #[Value.ref b] s = true) (xs : Nat → Int32) (hX : va_X b 7 xs s s.heap) (hbl : b < s.heap.size) {D : va_G} {t : pq_T} (hK : va_K D vwCl (pq_ty t) s) (hN : pq_N s) {σ τ : pq_S} {I : Nat → Nat → Int32} {J : Nat → Nat → Int64} {ri : Nat → Nat → Int32} {rj : Nat → Nat → Int64} {rq : Nat → Nat → Option Nat} {I2 : Nat → Nat → Int32} {J2 : Nat → Nat → Int64} {si : Nat → Nat → Int32} {sj : Nat → Nat → Int64} {sq : Nat → Nat → Option Nat} {this that : Nat} (hokx : okRingsUnder σ I this) (hL_this : this ∈ σ.1) (hK_this : σ.2.1 this = 11) (hZ : pq_Z I) (hq0 : rq = fun _ _ => none) (hokm : okModel τ I2 si that) (hL_that : that ∈ τ.1) (hK_that : τ.2.1 that = 12) (hdis : ∀ a, a ∈ τ.1 → a ∉ σ.1) {H : Heap} {locs : List Loc} (hP : va_P D vwCl (pq_P t σ (I, J, ri, rj, rq)) H) (hD : va_D (fun q => s.heap.size ≤ q) (pq_P t σ (I, J, ri, rj, rq))) (hP2 : va_P D vwCl (pq_P t τ (I2, J2, si, sj, sq)) H) (hD2 : va_D (fun q => s.heap.size ≤ q) (pq_P t τ (I2, J2, si, sj, sq))) (hS : va_S (fun q => s.heap.size ≤ q) s.heap H locs) {ls : Array Slot} (hl : lv_has ls 4 [(3, .int 0), (2, .ref that), (1, .ref this), (0, .ref b)]) : W p l e room_1 s m #[Value.ref b] below meth c H locs 207 49062 (lw_Z below #[Value.ref b] s) (F0 m 877 ls []) := by
  have hA : ∀ q : Nat, s.heap.size ≤ q → s.heap.size ≤ q := fun _ h => h
  obtain ⟨y_this_352, y_this_353, y_this_354, y_this_355, y_this_356, hd_this_352_353, hd_this_352_354, hd_this_353_354⟩ := id hokx
  have hrd := y_this_356
  obtain ⟨-, this_reader, hR_this_reader, hL_this_reader, hK_this_reader, ho_this_reader⟩ := y_this_356
  obtain ⟨y_this_reader_128, y_this_reader_131, y_this_reader_133, hi_this_reader_129, hi_this_reader_130⟩ := id ho_this_reader
  obtain ⟨-, this_reader_scanner, hR_this_reader_scanner, hL_this_reader_scanner, hK_this_reader_scanner, ho_this_reader_scanner⟩ := y_this_reader_128
  have y_this_reader_scanner_192 := ho_this_reader_scanner
  obtain ⟨-, this_reader_scanner_tape, hR_this_reader_scanner_tape, hL_this_reader_scanner_tape, hK_this_reader_scanner_tape, hN_this_reader_scanner_tape⟩ := y_this_reader_scanner_192
  obtain ⟨y_that_384, y_that_385, y_that_386, y_that_387, y_that_400, y_that_404, y_that_405, y_that_408, y_that_409, y_that_411, y_that_412, y_that_413, y_that_414, hi_that_388, hi_that_389, hi_that_390, hi_that_391, hd_that_384_385, hd_that_384_386, hd_that_384_414, hd_that_386_414, hF_384, hF_385⟩ := id hokm
  obtain ⟨-, that_tape, hR_that_tape, hL_that_tape, hK_that_tape, hN_that_tape⟩ := y_that_387
  refine lv_aload_n hx hb dL_law_877 rfl (lv_at hl 2 rfl) ?_
  refine lv_aload_n hx hb dL_law_878 rfl (lv_at hl 3 rfl) ?_
  refine lv_iload_n hx hb dL_law_879 rfl (lv_at hl 0 rfl) ?_
  refine lv_iconst (v := 1) hx hb dL_law_880 (by decide) ?_
  refine lv_iadd hx hb dL_law_881 ?_
  refine lv_tov 1 (by decide) ?_
  refine va_sld hx hb hX hbl (Nat.not_le.mpr hbl) hS (vp_in_iff.mpr (by decide)) dL_law_882 ?_
  refine lv_tov (xs 1) rfl ?_
  refine lv_aload_n hx hb dL_law_883 rfl (lv_at hl 3 rfl) ?_
  refine lv_iload_n hx hb dL_law_884 rfl (lv_at hl 0 rfl) ?_
  refine lv_iconst (v := 2) hx hb dL_law_885 (by decide) ?_
  refine lv_iadd hx hb dL_law_886 ?_
  refine lv_tov 2 (by decide) ?_
  refine va_sld hx hb hX hbl (Nat.not_le.mpr hbl) hS (vp_in_iff.mpr (by decide)) dL_law_887 ?_
  refine lv_tov (xs 2) rfl ?_
  refine lv_aload_n hx hb dL_law_888 rfl (lv_at hl 3 rfl) ?_
  refine lv_iload_n hx hb dL_law_889 rfl (lv_at hl 0 rfl) ?_
  refine lv_iconst (v := 3) hx hb dL_law_890 (by decide) ?_
  refine lv_iadd hx hb dL_law_891 ?_
  refine lv_tov 3 (by decide) ?_
  refine va_sld hx hb hX hbl (Nat.not_le.mpr hbl) hS (vp_in_iff.mpr (by decide)) dL_law_892 ?_
  refine lv_tov (xs 3) rfl ?_
  refine lv_aload_n hx hb dL_law_893 rfl (lv_at hl 3 rfl) ?_
  refine lv_iload_n hx hb dL_law_894 rfl (lv_at hl 0 rfl) ?_
  refine lv_iconst (v := 4) hx hb dL_law_895 (by decide) ?_
  refine lv_iadd hx hb dL_law_896 ?_
  refine lv_tov 4 (by decide) ?_
  refine va_sld hx hb hX hbl (Nat.not_le.mpr hbl) hS (vp_in_iff.mpr (by decide)) dL_law_897 ?_
  refine lv_tov (xs 4) rfl ?_
  refine lv_aload_n hx hb dL_law_898 rfl (lv_at hl 3 rfl) ?_
  refine lv_iload_n hx hb dL_law_899 rfl (lv_at hl 0 rfl) ?_
  refine lv_iconst (v := 5) hx hb dL_law_900 (by decide) ?_
  refine lv_iadd hx hb dL_law_901 ?_
  refine lv_tov 5 (by decide) ?_
  refine va_sld hx hb hX hbl (Nat.not_le.mpr hbl) hS (vp_in_iff.mpr (by decide)) dL_law_902 ?_
  refine lv_tov (xs 5) rfl ?_
  refine lk_i (va_runV (As := [.int (xs 1), .int (xs 2), .int (xs 3), .int (xs 4), .int (xs 5)]) (rest := []) ⟨hx, hb, hml, hown, hts⟩ (c_X11_feed l D t σ I J ri rj rq H.size this (xs 1) (xs 2) (xs 3) (xs 4) (xs 5) hL_this hK_this this_reader hR_this_reader hL_this_reader hK_this_reader this_reader_scanner hR_this_reader_scanner hL_this_reader_scanner hK_this_reader_scanner this_reader_scanner_tape hR_this_reader_scanner_tape hL_this_reader_scanner_tape hK_this_reader_scanner_tape hN_this_reader_scanner_tape hZ) (cwV 5 hts (tw_V tw_616 tw_617 tw_618 tw_2 tw_619) rfl rfl rfl (by decide +kernel) ⟨Nat.le_of_ble_eq_true rfl, Nat.le_of_ble_eq_true rfl⟩) ⟨pq_blind, pq_recv hK hP hL_this hK_this (by decide) rfl, pq_pre hK hN hP hD⟩ rfl rfl hl.1 rfl (lv_room (Nat.le_of_ble_eq_true rfl)) dL_law_903 ⟨Nat.le_of_ble_eq_true rfl, Nat.le_of_ble_eq_true rfl⟩) hD hS hA hP2 hdis (fun r1 u1 H locs hw1 hP2 hS => ?_)
  obtain ⟨_, _, -, -, hr1⟩ := hw1
  refine lv_aload_n hx hb dL_law_906 rfl (lv_at hl 1 rfl) ?_
  refine lv_aload_n hx hb dL_law_907 rfl (lv_at hl 3 rfl) ?_
  refine lv_iload_n hx hb dL_law_908 rfl (lv_at hl 0 rfl) ?_
  refine lv_iconst (v := 1) hx hb dL_law_909 (by decide) ?_
  refine lv_iadd hx hb dL_law_910 ?_
  refine lv_tov 1 (by decide) ?_
  refine va_sld hx hb hX hbl (Nat.not_le.mpr hbl) hS (vp_in_iff.mpr (by decide)) dL_law_911 ?_
  refine lv_tov (xs 1) rfl ?_
  refine lv_aload_n hx hb dL_law_912 rfl (lv_at hl 3 rfl) ?_
  refine lv_iload_n hx hb dL_law_913 rfl (lv_at hl 0 rfl) ?_
  refine lv_iconst (v := 2) hx hb dL_law_914 (by decide) ?_
  refine lv_iadd hx hb dL_law_915 ?_
  refine lv_tov 2 (by decide) ?_
  refine va_sld hx hb hX hbl (Nat.not_le.mpr hbl) hS (vp_in_iff.mpr (by decide)) dL_law_916 ?_
  refine lv_tov (xs 2) rfl ?_
  refine lv_aload_n hx hb dL_law_917 rfl (lv_at hl 3 rfl) ?_
  refine lv_iload_n hx hb dL_law_918 rfl (lv_at hl 0 rfl) ?_
  refine lv_iconst (v := 3) hx hb dL_law_919 (by decide) ?_
  refine lv_iadd hx hb dL_law_920 ?_
  refine lv_tov 3 (by decide) ?_
  refine va_sld hx hb hX hbl (Nat.not_le.mpr hbl) hS (vp_in_iff.mpr (by decide)) dL_law_921 ?_
  refine lv_tov (xs 3) rfl ?_
  refine lv_aload_n hx hb dL_law_922 rfl (lv_at hl 3 rfl) ?_
  refine lv_iload_n hx hb dL_law_923 rfl (lv_at hl 0 rfl) ?_
  refine lv_iconst (v := 4) hx hb dL_law_924 (by decide) ?_
  refine lv_iadd hx hb dL_law_925 ?_
  refine lv_tov 4 (by decide) ?_
  refine va_sld hx hb hX hbl (Nat.not_le.mpr hbl) hS (vp_in_iff.mpr (by decide)) dL_law_926 ?_
  refine lv_tov (xs 4) rfl ?_
  refine lv_aload_n hx hb dL_law_927 rfl (lv_at hl 3 rfl) ?_
  refine lv_iload_n hx hb dL_law_928 rfl (lv_at hl 0 rfl) ?_
  refine lv_iconst (v := 5) hx hb dL_law_929 (by decide) ?_
  refine lv_iadd hx hb dL_law_930 ?_
  refine lv_tov 5 (by decide) ?_
  refine va_sld hx hb hX hbl (Nat.not_le.mpr hbl) hS (vp_in_iff.mpr (by decide)) dL_law_931 ?_
  refine lv_tov (xs 5) rfl ?_
  refine pk_i (va_runV (As := [.int (xs 1), .int (xs 2), .int (xs 3), .int (xs 4), .int (xs 5)]) (rest := [.int r1]) ⟨hx, hb, hml, hown, hts⟩ (c_X12_feed l D t τ I2 J2 si sj sq H.size that (xs 1) (xs 2) (xs 3) (xs 4) (xs 5) hL_that hK_that that_tape hR_that_tape hL_that_tape hK_that_tape hN_that_tape hi_that_388) (cwV 5 hts (tw_V tw_627 tw_628 tw_629 tw_5 tw_630) rfl rfl rfl (by decide +kernel) ⟨Nat.le_of_ble_eq_true rfl, Nat.le_of_ble_eq_true rfl⟩) ⟨pq_blind, pq_recv hK hP2 hL_that hK_that (by decide) rfl, pq_pre hK hN hP2 hD2⟩ rfl rfl hl.1 rfl (lv_room (Nat.le_of_ble_eq_true rfl)) dL_law_932 ⟨Nat.le_of_ble_eq_true rfl, Nat.le_of_ble_eq_true rfl⟩) hD2 hS hA (fun r2 σ3 μ3 H locs hw2 hP3 hD3 hS => ?_)
  obtain ⟨_, _, -, -, hr2⟩ := hw2
  have he : r1 = r2 := by exact hr1.trans hr2.symm
  refine lv_icmp_eq (tgt := 1725) hx hb dL_law_935 (by decide) (fun _ => ?_) (fun q => absurd he q)
  exact lw_tail l hx hb hr hlocks hX hbl (by decide) (by decide) hS (lv_sub hl [3, 0] rfl)
set_option maxHeartbeats 8000000 in
set_option maxRecDepth 100000 in
theorem lw_op_16 {p : Program} {e : Env} {s : State} {m : MethodId} {below : List Frame} {meth : Method} {c : Code} {b : Nat} (l : Launch) (hx : p.tables.exec = Jvm.exec) (hb : c.code = cL_law) (hr : meth.sig.returnType = ret) (hml : c.maxLocals = 4) (hown : s.vm.findClass RL = some m.cls) (hlocks : meth.locks = false) (hts : ∀ w ∈ (Cond.initialized RX11 :: wsL_law), w.before #[Value.ref b] s = true) (xs : Nat → Int32) (hX : va_X b 7 xs s s.heap) (hbl : b < s.heap.size) {D : va_G} {t : pq_T} (hK : va_K D vwCl (pq_ty t) s) (hN : pq_N s) {σ τ : pq_S} {I : Nat → Nat → Int32} {J : Nat → Nat → Int64} {ri : Nat → Nat → Int32} {rj : Nat → Nat → Int64} {rq : Nat → Nat → Option Nat} {I2 : Nat → Nat → Int32} {J2 : Nat → Nat → Int64} {si : Nat → Nat → Int32} {sj : Nat → Nat → Int64} {sq : Nat → Nat → Option Nat} {this that : Nat} (hokx : okRingsUnder σ I this) (hL_this : this ∈ σ.1) (hK_this : σ.2.1 this = 11) (hZ : pq_Z I) (hq0 : rq = fun _ _ => none) (hokm : okModel τ I2 si that) (hL_that : that ∈ τ.1) (hK_that : τ.2.1 that = 12) (hdis : ∀ a, a ∈ τ.1 → a ∉ σ.1) {H : Heap} {locs : List Loc} (hP : va_P D vwCl (pq_P t σ (I, J, ri, rj, rq)) H) (hD : va_D (fun q => s.heap.size ≤ q) (pq_P t σ (I, J, ri, rj, rq))) (hP2 : va_P D vwCl (pq_P t τ (I2, J2, si, sj, sq)) H) (hD2 : va_D (fun q => s.heap.size ≤ q) (pq_P t τ (I2, J2, si, sj, sq))) (hS : va_S (fun q => s.heap.size ≤ q) s.heap H locs) {ls : Array Slot} (hl : lv_has ls 4 [(3, .int 0), (2, .ref that), (1, .ref this), (0, .ref b)]) : W p l e room_1 s m #[Value.ref b] below meth c H locs 207 49062 (lw_Z below #[Value.ref b] s) (F0 m 940 ls []) := by
  have hA : ∀ q : Nat, s.heap.size ≤ q → s.heap.size ≤ q := fun _ h => h
  obtain ⟨y_this_352, y_this_353, y_this_354, y_this_355, y_this_356, hd_this_352_353, hd_this_352_354, hd_this_353_354⟩ := id hokx
  have hrd := y_this_356
  obtain ⟨-, this_reader, hR_this_reader, hL_this_reader, hK_this_reader, ho_this_reader⟩ := y_this_356
  obtain ⟨y_this_reader_128, y_this_reader_131, y_this_reader_133, hi_this_reader_129, hi_this_reader_130⟩ := id ho_this_reader
  obtain ⟨-, this_reader_scanner, hR_this_reader_scanner, hL_this_reader_scanner, hK_this_reader_scanner, ho_this_reader_scanner⟩ := y_this_reader_128
  obtain ⟨y_that_384, y_that_385, y_that_386, y_that_387, y_that_400, y_that_404, y_that_405, y_that_408, y_that_409, y_that_411, y_that_412, y_that_413, y_that_414, hi_that_388, hi_that_389, hi_that_390, hi_that_391, hd_that_384_385, hd_that_384_386, hd_that_384_414, hd_that_386_414, hF_384, hF_385⟩ := id hokm
  refine lv_aload_n hx hb dL_law_940 rfl (lv_at hl 2 rfl) ?_
  refine lv_aload_n hx hb dL_law_941 rfl (lv_at hl 3 rfl) ?_
  refine lv_iload_n hx hb dL_law_942 rfl (lv_at hl 0 rfl) ?_
  refine lv_iconst (v := 1) hx hb dL_law_943 (by decide) ?_
  refine lv_iadd hx hb dL_law_944 ?_
  refine lv_tov 1 (by decide) ?_
  refine va_sld hx hb hX hbl (Nat.not_le.mpr hbl) hS (vp_in_iff.mpr (by decide)) dL_law_945 ?_
  refine lv_tov (xs 1) rfl ?_
  refine lk_i (va_runV (As := [.int (xs 1)]) (rest := []) ⟨hx, hb, hml, hown, hts⟩ (c_X11_end l D t σ I J ri rj rq H.size this (xs 1) hL_this hK_this this_reader hR_this_reader hL_this_reader hK_this_reader this_reader_scanner hR_this_reader_scanner hL_this_reader_scanner hK_this_reader_scanner hZ) (cwV 1 hts (tw_V tw_636 tw_637 tw_638 tw_2 tw_639) rfl rfl rfl (by decide +kernel) ⟨Nat.le_of_ble_eq_true rfl, Nat.le_of_ble_eq_true rfl⟩) ⟨pq_blind, pq_recv hK hP hL_this hK_this (by decide) rfl, pq_pre hK hN hP hD⟩ rfl rfl hl.1 rfl (lv_room (Nat.le_of_ble_eq_true rfl)) dL_law_946 ⟨Nat.le_of_ble_eq_true rfl, Nat.le_of_ble_eq_true rfl⟩) hD hS hA hP2 hdis (fun r1 u1 H locs hw1 hP2 hS => ?_)
  obtain ⟨_, -, -, hr1⟩ := hw1
  refine lv_aload_n hx hb dL_law_949 rfl (lv_at hl 1 rfl) ?_
  refine lv_aload_n hx hb dL_law_950 rfl (lv_at hl 3 rfl) ?_
  refine lv_iload_n hx hb dL_law_951 rfl (lv_at hl 0 rfl) ?_
  refine lv_iconst (v := 1) hx hb dL_law_952 (by decide) ?_
  refine lv_iadd hx hb dL_law_953 ?_
  refine lv_tov 1 (by decide) ?_
  refine va_sld hx hb hX hbl (Nat.not_le.mpr hbl) hS (vp_in_iff.mpr (by decide)) dL_law_954 ?_
  refine lv_tov (xs 1) rfl ?_
  refine pk_i (va_runV (As := [.int (xs 1)]) (rest := [.int r1]) ⟨hx, hb, hml, hown, hts⟩ (c_X12_end l D t τ I2 J2 si sj sq H.size that (xs 1) hL_that hK_that hi_that_388) (cwV 1 hts (tw_V tw_640 tw_641 tw_642 tw_5 tw_643) rfl rfl rfl (by decide +kernel) ⟨Nat.le_of_ble_eq_true rfl, Nat.le_of_ble_eq_true rfl⟩) ⟨pq_blind, pq_recv hK hP2 hL_that hK_that (by decide) rfl, pq_pre hK hN hP2 hD2⟩ rfl rfl hl.1 rfl (lv_room (Nat.le_of_ble_eq_true rfl)) dL_law_955 ⟨Nat.le_of_ble_eq_true rfl, Nat.le_of_ble_eq_true rfl⟩) hD2 hS hA (fun r2 σ3 μ3 H locs hw2 hP3 hD3 hS => ?_)
  obtain ⟨_, -, -, hr2⟩ := hw2
  have he : r1 = r2 := by exact hr1.trans hr2.symm
  refine lv_icmp_eq (tgt := 1725) hx hb dL_law_958 (by decide) (fun _ => ?_) (fun q => absurd he q)
  exact lw_tail l hx hb hr hlocks hX hbl (by decide) (by decide) hS (lv_sub hl [3, 0] rfl)
set_option maxHeartbeats 8000000 in
set_option maxRecDepth 100000 in
theorem lw_op_17 {p : Program} {e : Env} {s : State} {m : MethodId} {below : List Frame} {meth : Method} {c : Code} {b : Nat} (l : Launch) (hx : p.tables.exec = Jvm.exec) (hb : c.code = cL_law) (hr : meth.sig.returnType = ret) (hml : c.maxLocals = 4) (hown : s.vm.findClass RL = some m.cls) (hlocks : meth.locks = false) (hts : ∀ w ∈ (Cond.initialized RX11 :: wsL_law), w.before #[Value.ref b] s = true) (xs : Nat → Int32) (hX : va_X b 7 xs s s.heap) (hbl : b < s.heap.size) {D : va_G} {t : pq_T} (hK : va_K D vwCl (pq_ty t) s) (hN : pq_N s) {σ τ : pq_S} {I : Nat → Nat → Int32} {J : Nat → Nat → Int64} {ri : Nat → Nat → Int32} {rj : Nat → Nat → Int64} {rq : Nat → Nat → Option Nat} {I2 : Nat → Nat → Int32} {J2 : Nat → Nat → Int64} {si : Nat → Nat → Int32} {sj : Nat → Nat → Int64} {sq : Nat → Nat → Option Nat} {this that : Nat} (hokx : okRingsUnder σ I this) (hL_this : this ∈ σ.1) (hK_this : σ.2.1 this = 11) (hZ : pq_Z I) (hq0 : rq = fun _ _ => none) (hokm : okModel τ I2 si that) (hL_that : that ∈ τ.1) (hK_that : τ.2.1 that = 12) (hdis : ∀ a, a ∈ τ.1 → a ∉ σ.1) {H : Heap} {locs : List Loc} (hP : va_P D vwCl (pq_P t σ (I, J, ri, rj, rq)) H) (hD : va_D (fun q => s.heap.size ≤ q) (pq_P t σ (I, J, ri, rj, rq))) (hP2 : va_P D vwCl (pq_P t τ (I2, J2, si, sj, sq)) H) (hD2 : va_D (fun q => s.heap.size ≤ q) (pq_P t τ (I2, J2, si, sj, sq))) (hS : va_S (fun q => s.heap.size ≤ q) s.heap H locs) {ls : Array Slot} (hl : lv_has ls 4 [(3, .int 0), (2, .ref that), (1, .ref this), (0, .ref b)]) : W p l e room_1 s m #[Value.ref b] below meth c H locs 207 49062 (lw_Z below #[Value.ref b] s) (F0 m 963 ls []) := by
  have hA : ∀ q : Nat, s.heap.size ≤ q → s.heap.size ≤ q := fun _ h => h
  obtain ⟨y_this_352, y_this_353, y_this_354, y_this_355, y_this_356, hd_this_352_353, hd_this_352_354, hd_this_353_354⟩ := id hokx
  obtain ⟨-, this_now, hR_this_now, hL_this_now, hK_this_now, ho_this_now⟩ := y_this_352
  obtain ⟨y_this_now_325, y_this_now_326, y_this_now_327, y_this_now_328, y_this_now_329, y_this_now_330, y_this_now_331, y_this_now_332, hi_this_now_320, hi_this_now_323, hi_this_now_324⟩ := id ho_this_now
  obtain ⟨-, this_now_law, hR_this_now_law, hL_this_now_law, hK_this_now_law, ho_this_now_law⟩ := y_this_now_329
  obtain ⟨y_this_now_law_97, y_this_now_law_99, y_this_now_law_100, y_this_now_law_101, y_this_now_law_102, y_this_now_law_103⟩ := id ho_this_now_law
  obtain ⟨-, this_now_law_texts, hR_this_now_law_texts, hL_this_now_law_texts, hK_this_now_law_texts, hN_this_now_law_texts⟩ := y_this_now_law_97
  have hrd := y_this_356
  obtain ⟨-, this_reader, hR_this_reader, hL_this_reader, hK_this_reader, ho_this_reader⟩ := y_this_356
  obtain ⟨y_this_reader_128, y_this_reader_131, y_this_reader_133, hi_this_reader_129, hi_this_reader_130⟩ := id ho_this_reader
  obtain ⟨y_that_384, y_that_385, y_that_386, y_that_387, y_that_400, y_that_404, y_that_405, y_that_408, y_that_409, y_that_411, y_that_412, y_that_413, y_that_414, hi_that_388, hi_that_389, hi_that_390, hi_that_391, hd_that_384_385, hd_that_384_386, hd_that_384_414, hd_that_386_414, hF_384, hF_385⟩ := id hokm
  obtain ⟨-, that_a, hR_that_a, hL_that_a, hK_that_a, hN_that_a⟩ := y_that_384
  have hok128 := (by obtain ⟨z, -⟩ := ho_this_reader; exact z : okO σ 128 this_reader 6 (okScanner σ I))
  refine lv_aload_n hx hb dL_law_963 rfl (lv_at hl 2 rfl) ?_
  refine lk_i (va_runV (As := []) (rest := []) ⟨hx, hb, hml, hown, hts⟩ (c_X11_text l D t σ I J ri rj rq H.size this hL_this hK_this this_now hR_this_now hL_this_now hK_this_now this_now_law hR_this_now_law hL_this_now_law hK_this_now_law this_now_law_texts hR_this_now_law_texts hL_this_now_law_texts hK_this_now_law_texts hN_this_now_law_texts this_reader hR_this_reader hL_this_reader hK_this_reader hZ hq0 hok128) (cwV 0 hts (tw_V tw_644 tw_645 tw_646 tw_2 tw_647) rfl rfl rfl (by decide +kernel) ⟨Nat.le_of_ble_eq_true rfl, Nat.le_of_ble_eq_true rfl⟩) ⟨pq_blind, pq_recv hK hP hL_this hK_this (by decide) rfl, pq_pre hK hN hP hD⟩ rfl rfl hl.1 rfl (lv_room (Nat.le_of_ble_eq_true rfl)) dL_law_964 ⟨Nat.le_of_ble_eq_true rfl, Nat.le_of_ble_eq_true rfl⟩) hD hS hA hP2 hdis (fun r1 u1 H locs hw1 hP2 hS => ?_)
  have hr1 := hw1
  refine lv_aload_n hx hb dL_law_967 rfl (lv_at hl 1 rfl) ?_
  refine pk_i (va_runV (As := []) (rest := [.int r1]) ⟨hx, hb, hml, hown, hts⟩ (c_X12_text l D t τ I2 J2 si sj sq H.size that hL_that hK_that that_a hR_that_a hL_that_a hK_that_a hN_that_a (okF_at hF_384 hR_that_a) hi_that_388) (cwV 0 hts (tw_V tw_816 tw_817 tw_818 tw_5 tw_819) rfl rfl rfl (by decide +kernel) ⟨Nat.le_of_ble_eq_true rfl, Nat.le_of_ble_eq_true rfl⟩) ⟨pq_blind, pq_recv hK hP2 hL_that hK_that (by decide) rfl, pq_pre hK hN hP2 hD2⟩ rfl rfl hl.1 rfl (lv_room (Nat.le_of_ble_eq_true rfl)) dL_law_968 ⟨Nat.le_of_ble_eq_true rfl, Nat.le_of_ble_eq_true rfl⟩) hD2 hS hA (fun r2 σ3 μ3 H locs hw2 hP3 hD3 hS => ?_)
  obtain ⟨_, _, -, hr2⟩ := hw2
  have he : r1 = r2 := by exact hr1.trans hr2.symm
  refine lv_icmp_eq (tgt := 1725) hx hb dL_law_971 (by decide) (fun _ => ?_) (fun q => absurd he q)
  exact lw_tail l hx hb hr hlocks hX hbl (by decide) (by decide) hS (lv_sub hl [3, 0] rfl)
set_option maxHeartbeats 8000000 in
set_option maxRecDepth 100000 in
theorem lw_op_18 {p : Program} {e : Env} {s : State} {m : MethodId} {below : List Frame} {meth : Method} {c : Code} {b : Nat} (l : Launch) (hx : p.tables.exec = Jvm.exec) (hb : c.code = cL_law) (hr : meth.sig.returnType = ret) (hml : c.maxLocals = 4) (hown : s.vm.findClass RL = some m.cls) (hlocks : meth.locks = false) (hts : ∀ w ∈ (Cond.initialized RX11 :: wsL_law), w.before #[Value.ref b] s = true) (xs : Nat → Int32) (hX : va_X b 7 xs s s.heap) (hbl : b < s.heap.size) {D : va_G} {t : pq_T} (hK : va_K D vwCl (pq_ty t) s) (hN : pq_N s) {σ τ : pq_S} {I : Nat → Nat → Int32} {J : Nat → Nat → Int64} {ri : Nat → Nat → Int32} {rj : Nat → Nat → Int64} {rq : Nat → Nat → Option Nat} {I2 : Nat → Nat → Int32} {J2 : Nat → Nat → Int64} {si : Nat → Nat → Int32} {sj : Nat → Nat → Int64} {sq : Nat → Nat → Option Nat} {this that : Nat} (hokx : okRingsUnder σ I this) (hL_this : this ∈ σ.1) (hK_this : σ.2.1 this = 11) (hZ : pq_Z I) (hq0 : rq = fun _ _ => none) (hokm : okModel τ I2 si that) (hL_that : that ∈ τ.1) (hK_that : τ.2.1 that = 12) (hdis : ∀ a, a ∈ τ.1 → a ∉ σ.1) {H : Heap} {locs : List Loc} (hP : va_P D vwCl (pq_P t σ (I, J, ri, rj, rq)) H) (hD : va_D (fun q => s.heap.size ≤ q) (pq_P t σ (I, J, ri, rj, rq))) (hP2 : va_P D vwCl (pq_P t τ (I2, J2, si, sj, sq)) H) (hD2 : va_D (fun q => s.heap.size ≤ q) (pq_P t τ (I2, J2, si, sj, sq))) (hS : va_S (fun q => s.heap.size ≤ q) s.heap H locs) {ls : Array Slot} (hl : lv_has ls 4 [(3, .int 0), (2, .ref that), (1, .ref this), (0, .ref b)]) : W p l e room_1 s m #[Value.ref b] below meth c H locs 207 49062 (lw_Z below #[Value.ref b] s) (F0 m 976 ls []) := by
  have hA : ∀ q : Nat, s.heap.size ≤ q → s.heap.size ≤ q := fun _ h => h
  obtain ⟨y_this_352, y_this_353, y_this_354, y_this_355, y_this_356, hd_this_352_353, hd_this_352_354, hd_this_353_354⟩ := id hokx
  have hrd := y_this_356
  obtain ⟨-, this_reader, hR_this_reader, hL_this_reader, hK_this_reader, ho_this_reader⟩ := y_this_356
  obtain ⟨y_this_reader_128, y_this_reader_131, y_this_reader_133, hi_this_reader_129, hi_this_reader_130⟩ := id ho_this_reader
  obtain ⟨y_that_384, y_that_385, y_that_386, y_that_387, y_that_400, y_that_404, y_that_405, y_that_408, y_that_409, y_that_411, y_that_412, y_that_413, y_that_414, hi_that_388, hi_that_389, hi_that_390, hi_that_391, hd_that_384_385, hd_that_384_386, hd_that_384_414, hd_that_386_414, hF_384, hF_385⟩ := id hokm
  refine lv_aload_n hx hb dL_law_976 rfl (lv_at hl 2 rfl) ?_
  refine lv_aload_n hx hb dL_law_977 rfl (lv_at hl 3 rfl) ?_
  refine lv_iload_n hx hb dL_law_978 rfl (lv_at hl 0 rfl) ?_
  refine lv_iconst (v := 1) hx hb dL_law_979 (by decide) ?_
  refine lv_iadd hx hb dL_law_980 ?_
  refine lv_tov 1 (by decide) ?_
  refine va_sld hx hb hX hbl (Nat.not_le.mpr hbl) hS (vp_in_iff.mpr (by decide)) dL_law_981 ?_
  refine lv_tov (xs 1) rfl ?_
  refine lk_i (va_runV (As := [.int (xs 1)]) (rest := []) ⟨hx, hb, hml, hown, hts⟩ (c_X11_fault l D t σ I J ri rj rq H.size this (xs 1) hL_this hK_this this_reader hR_this_reader hL_this_reader hK_this_reader hi_this_reader_129 hi_this_reader_130) (cwV 1 hts (tw_V tw_937 tw_938 tw_939 tw_2 tw_940) rfl rfl rfl (by decide +kernel) ⟨Nat.le_of_ble_eq_true rfl, Nat.le_of_ble_eq_true rfl⟩) ⟨pq_blind, pq_recv hK hP hL_this hK_this (by decide) rfl, pq_pre hK hN hP hD⟩ rfl rfl hl.1 rfl (lv_room (Nat.le_of_ble_eq_true rfl)) dL_law_982 ⟨Nat.le_of_ble_eq_true rfl, Nat.le_of_ble_eq_true rfl⟩) hD hS hA hP2 hdis (fun r1 u1 H locs hw1 hP2 hS => ?_)
  obtain ⟨-, hr1⟩ := hw1
  refine lv_aload_n hx hb dL_law_985 rfl (lv_at hl 1 rfl) ?_
  refine lv_aload_n hx hb dL_law_986 rfl (lv_at hl 3 rfl) ?_
  refine lv_iload_n hx hb dL_law_987 rfl (lv_at hl 0 rfl) ?_
  refine lv_iconst (v := 1) hx hb dL_law_988 (by decide) ?_
  refine lv_iadd hx hb dL_law_989 ?_
  refine lv_tov 1 (by decide) ?_
  refine va_sld hx hb hX hbl (Nat.not_le.mpr hbl) hS (vp_in_iff.mpr (by decide)) dL_law_990 ?_
  refine lv_tov (xs 1) rfl ?_
  refine pk_i (va_runV (As := [.int (xs 1)]) (rest := [.int r1]) ⟨hx, hb, hml, hown, hts⟩ (c_X12_fault l D t τ I2 J2 si sj sq H.size that (xs 1) hL_that hK_that hi_that_389 hi_that_390) (cwV 1 hts (tw_V tw_942 tw_943 tw_944 tw_5 tw_945) rfl rfl rfl (by decide +kernel) ⟨Nat.le_of_ble_eq_true rfl, Nat.le_of_ble_eq_true rfl⟩) ⟨pq_blind, pq_recv hK hP2 hL_that hK_that (by decide) rfl, pq_pre hK hN hP2 hD2⟩ rfl rfl hl.1 rfl (lv_room (Nat.le_of_ble_eq_true rfl)) dL_law_991 ⟨Nat.le_of_ble_eq_true rfl, Nat.le_of_ble_eq_true rfl⟩) hD2 hS hA (fun r2 σ3 μ3 H locs hw2 hP3 hD3 hS => ?_)
  obtain ⟨-, hr2⟩ := hw2
  have he : r1 = r2 := by exact hr1.trans hr2.symm
  refine lv_icmp_eq (tgt := 1725) hx hb dL_law_994 (by decide) (fun _ => ?_) (fun q => absurd he q)
  exact lw_tail l hx hb hr hlocks hX hbl (by decide) (by decide) hS (lv_sub hl [3, 0] rfl)
set_option maxHeartbeats 8000000 in
set_option maxRecDepth 100000 in
theorem lw_op_19 {p : Program} {e : Env} {s : State} {m : MethodId} {below : List Frame} {meth : Method} {c : Code} {b : Nat} (l : Launch) (hx : p.tables.exec = Jvm.exec) (hb : c.code = cL_law) (hr : meth.sig.returnType = ret) (hml : c.maxLocals = 4) (hown : s.vm.findClass RL = some m.cls) (hlocks : meth.locks = false) (hts : ∀ w ∈ (Cond.initialized RX11 :: wsL_law), w.before #[Value.ref b] s = true) (xs : Nat → Int32) (hX : va_X b 7 xs s s.heap) (hbl : b < s.heap.size) {D : va_G} {t : pq_T} (hK : va_K D vwCl (pq_ty t) s) (hN : pq_N s) {σ τ : pq_S} {I : Nat → Nat → Int32} {J : Nat → Nat → Int64} {ri : Nat → Nat → Int32} {rj : Nat → Nat → Int64} {rq : Nat → Nat → Option Nat} {I2 : Nat → Nat → Int32} {J2 : Nat → Nat → Int64} {si : Nat → Nat → Int32} {sj : Nat → Nat → Int64} {sq : Nat → Nat → Option Nat} {this that : Nat} (hokx : okRingsUnder σ I this) (hL_this : this ∈ σ.1) (hK_this : σ.2.1 this = 11) (hZ : pq_Z I) (hq0 : rq = fun _ _ => none) (hokm : okModel τ I2 si that) (hL_that : that ∈ τ.1) (hK_that : τ.2.1 that = 12) (hdis : ∀ a, a ∈ τ.1 → a ∉ σ.1) {H : Heap} {locs : List Loc} (hP : va_P D vwCl (pq_P t σ (I, J, ri, rj, rq)) H) (hD : va_D (fun q => s.heap.size ≤ q) (pq_P t σ (I, J, ri, rj, rq))) (hP2 : va_P D vwCl (pq_P t τ (I2, J2, si, sj, sq)) H) (hD2 : va_D (fun q => s.heap.size ≤ q) (pq_P t τ (I2, J2, si, sj, sq))) (hS : va_S (fun q => s.heap.size ≤ q) s.heap H locs) {ls : Array Slot} (hl : lv_has ls 4 [(3, .int 0), (2, .ref that), (1, .ref this), (0, .ref b)]) : W p l e room_1 s m #[Value.ref b] below meth c H locs 207 49062 (lw_Z below #[Value.ref b] s) (F0 m 999 ls []) := by
  have hA : ∀ q : Nat, s.heap.size ≤ q → s.heap.size ≤ q := fun _ h => h
  obtain ⟨y_this_352, y_this_353, y_this_354, y_this_355, y_this_356, hd_this_352_353, hd_this_352_354, hd_this_353_354⟩ := id hokx
  obtain ⟨-, this_now, hR_this_now, hL_this_now, hK_this_now, ho_this_now⟩ := y_this_352
  obtain ⟨y_this_now_325, y_this_now_326, y_this_now_327, y_this_now_328, y_this_now_329, y_this_now_330, y_this_now_331, y_this_now_332, hi_this_now_320, hi_this_now_323, hi_this_now_324⟩ := id ho_this_now
  obtain ⟨-, this_now_law, hR_this_now_law, hL_this_now_law, hK_this_now_law, ho_this_now_law⟩ := y_this_now_329
  obtain ⟨y_that_384, y_that_385, y_that_386, y_that_387, y_that_400, y_that_404, y_that_405, y_that_408, y_that_409, y_that_411, y_that_412, y_that_413, y_that_414, hi_that_388, hi_that_389, hi_that_390, hi_that_391, hd_that_384_385, hd_that_384_386, hd_that_384_414, hd_that_386_414, hF_384, hF_385⟩ := id hokm
  obtain ⟨-, that_a, hR_that_a, hL_that_a, hK_that_a, hN_that_a⟩ := y_that_384
  refine lv_aload_n hx hb dL_law_999 rfl (lv_at hl 2 rfl) ?_
  refine lv_aload_n hx hb dL_law_1000 rfl (lv_at hl 3 rfl) ?_
  refine lv_iload_n hx hb dL_law_1001 rfl (lv_at hl 0 rfl) ?_
  refine lv_iconst (v := 1) hx hb dL_law_1002 (by decide) ?_
  refine lv_iadd hx hb dL_law_1003 ?_
  refine lv_tov 1 (by decide) ?_
  refine va_sld hx hb hX hbl (Nat.not_le.mpr hbl) hS (vp_in_iff.mpr (by decide)) dL_law_1004 ?_
  refine lv_tov (xs 1) rfl ?_
  refine lv_aload_n hx hb dL_law_1005 rfl (lv_at hl 3 rfl) ?_
  refine lv_iload_n hx hb dL_law_1006 rfl (lv_at hl 0 rfl) ?_
  refine lv_iconst (v := 2) hx hb dL_law_1007 (by decide) ?_
  refine lv_iadd hx hb dL_law_1008 ?_
  refine lv_tov 2 (by decide) ?_
  refine va_sld hx hb hX hbl (Nat.not_le.mpr hbl) hS (vp_in_iff.mpr (by decide)) dL_law_1009 ?_
  refine lv_tov (xs 2) rfl ?_
  refine lv_aload_n hx hb dL_law_1010 rfl (lv_at hl 3 rfl) ?_
  refine lv_iload_n hx hb dL_law_1011 rfl (lv_at hl 0 rfl) ?_
  refine lv_iconst (v := 3) hx hb dL_law_1012 (by decide) ?_
  refine lv_iadd hx hb dL_law_1013 ?_
  refine lv_tov 3 (by decide) ?_
  refine va_sld hx hb hX hbl (Nat.not_le.mpr hbl) hS (vp_in_iff.mpr (by decide)) dL_law_1014 ?_
  refine lv_tov (xs 3) rfl ?_
  refine lk_i (va_runV (As := [.int (xs 1), .int (xs 2), .int (xs 3)]) (rest := []) ⟨hx, hb, hml, hown, hts⟩ (c_X11_force l D t σ I J ri rj rq H.size this (xs 1) (xs 2) (xs 3) hL_this hK_this this_now hR_this_now hL_this_now hK_this_now this_now_law hR_this_now_law hL_this_now_law hK_this_now_law hZ) (cwV 3 hts (tw_V tw_946 tw_947 tw_948 tw_2 tw_949) rfl rfl rfl (by decide +kernel) ⟨Nat.le_of_ble_eq_true rfl, Nat.le_of_ble_eq_true rfl⟩) ⟨pq_blind, pq_recv hK hP hL_this hK_this (by decide) rfl, pq_pre hK hN hP hD⟩ rfl rfl hl.1 rfl (lv_room (Nat.le_of_ble_eq_true rfl)) dL_law_1015 ⟨Nat.le_of_ble_eq_true rfl, Nat.le_of_ble_eq_true rfl⟩) hD hS hA hP2 hdis (fun r1 u1 H locs hw1 hP2 hS => ?_)
  obtain ⟨-, hr1⟩ := hw1
  refine lv_aload_n hx hb dL_law_1018 rfl (lv_at hl 1 rfl) ?_
  refine lv_aload_n hx hb dL_law_1019 rfl (lv_at hl 3 rfl) ?_
  refine lv_iload_n hx hb dL_law_1020 rfl (lv_at hl 0 rfl) ?_
  refine lv_iconst (v := 1) hx hb dL_law_1021 (by decide) ?_
  refine lv_iadd hx hb dL_law_1022 ?_
  refine lv_tov 1 (by decide) ?_
  refine va_sld hx hb hX hbl (Nat.not_le.mpr hbl) hS (vp_in_iff.mpr (by decide)) dL_law_1023 ?_
  refine lv_tov (xs 1) rfl ?_
  refine lv_aload_n hx hb dL_law_1024 rfl (lv_at hl 3 rfl) ?_
  refine lv_iload_n hx hb dL_law_1025 rfl (lv_at hl 0 rfl) ?_
  refine lv_iconst (v := 2) hx hb dL_law_1026 (by decide) ?_
  refine lv_iadd hx hb dL_law_1027 ?_
  refine lv_tov 2 (by decide) ?_
  refine va_sld hx hb hX hbl (Nat.not_le.mpr hbl) hS (vp_in_iff.mpr (by decide)) dL_law_1028 ?_
  refine lv_tov (xs 2) rfl ?_
  refine lv_aload_n hx hb dL_law_1029 rfl (lv_at hl 3 rfl) ?_
  refine lv_iload_n hx hb dL_law_1030 rfl (lv_at hl 0 rfl) ?_
  refine lv_iconst (v := 3) hx hb dL_law_1031 (by decide) ?_
  refine lv_iadd hx hb dL_law_1032 ?_
  refine lv_tov 3 (by decide) ?_
  refine va_sld hx hb hX hbl (Nat.not_le.mpr hbl) hS (vp_in_iff.mpr (by decide)) dL_law_1033 ?_
  refine lv_tov (xs 3) rfl ?_
  refine pk_i (va_runV (As := [.int (xs 1), .int (xs 2), .int (xs 3)]) (rest := [.int r1]) ⟨hx, hb, hml, hown, hts⟩ (c_X12_force l D t τ I2 J2 si sj sq H.size that (xs 1) (xs 2) (xs 3) hL_that hK_that that_a hR_that_a hL_that_a hK_that_a hN_that_a (okF_at hF_384 hR_that_a)) (cwV 3 hts (tw_V tw_955 tw_956 tw_957 tw_5 tw_958) rfl rfl rfl (by decide +kernel) ⟨Nat.le_of_ble_eq_true rfl, Nat.le_of_ble_eq_true rfl⟩) ⟨pq_blind, pq_recv hK hP2 hL_that hK_that (by decide) rfl, pq_pre hK hN hP2 hD2⟩ rfl rfl hl.1 rfl (lv_room (Nat.le_of_ble_eq_true rfl)) dL_law_1034 ⟨Nat.le_of_ble_eq_true rfl, Nat.le_of_ble_eq_true rfl⟩) hD2 hS hA (fun r2 σ3 μ3 H locs hw2 hP3 hD3 hS => ?_)
  obtain ⟨-, hr2⟩ := hw2
  have he : r1 = r2 := by exact hr1.trans hr2.symm
  refine lv_icmp_eq (tgt := 1725) hx hb dL_law_1037 (by decide) (fun _ => ?_) (fun q => absurd he q)
  exact lw_tail l hx hb hr hlocks hX hbl (by decide) (by decide) hS (lv_sub hl [3, 0] rfl)
set_option maxHeartbeats 8000000 in
set_option maxRecDepth 100000 in
theorem lw_op_20 {p : Program} {e : Env} {s : State} {m : MethodId} {below : List Frame} {meth : Method} {c : Code} {b : Nat} (l : Launch) (hx : p.tables.exec = Jvm.exec) (hb : c.code = cL_law) (hr : meth.sig.returnType = ret) (hml : c.maxLocals = 4) (hown : s.vm.findClass RL = some m.cls) (hlocks : meth.locks = false) (hts : ∀ w ∈ (Cond.initialized RX11 :: wsL_law), w.before #[Value.ref b] s = true) (xs : Nat → Int32) (hX : va_X b 7 xs s s.heap) (hbl : b < s.heap.size) {D : va_G} {t : pq_T} (hK : va_K D vwCl (pq_ty t) s) (hN : pq_N s) {σ τ : pq_S} {I : Nat → Nat → Int32} {J : Nat → Nat → Int64} {ri : Nat → Nat → Int32} {rj : Nat → Nat → Int64} {rq : Nat → Nat → Option Nat} {I2 : Nat → Nat → Int32} {J2 : Nat → Nat → Int64} {si : Nat → Nat → Int32} {sj : Nat → Nat → Int64} {sq : Nat → Nat → Option Nat} {this that : Nat} (hokx : okRingsUnder σ I this) (hL_this : this ∈ σ.1) (hK_this : σ.2.1 this = 11) (hZ : pq_Z I) (hq0 : rq = fun _ _ => none) (hokm : okModel τ I2 si that) (hL_that : that ∈ τ.1) (hK_that : τ.2.1 that = 12) (hdis : ∀ a, a ∈ τ.1 → a ∉ σ.1) {H : Heap} {locs : List Loc} (hP : va_P D vwCl (pq_P t σ (I, J, ri, rj, rq)) H) (hD : va_D (fun q => s.heap.size ≤ q) (pq_P t σ (I, J, ri, rj, rq))) (hP2 : va_P D vwCl (pq_P t τ (I2, J2, si, sj, sq)) H) (hD2 : va_D (fun q => s.heap.size ≤ q) (pq_P t τ (I2, J2, si, sj, sq))) (hS : va_S (fun q => s.heap.size ≤ q) s.heap H locs) {ls : Array Slot} (hl : lv_has ls 4 [(3, .int 0), (2, .ref that), (1, .ref this), (0, .ref b)]) : W p l e room_1 s m #[Value.ref b] below meth c H locs 207 49062 (lw_Z below #[Value.ref b] s) (F0 m 1042 ls []) := by
  have hA : ∀ q : Nat, s.heap.size ≤ q → s.heap.size ≤ q := fun _ h => h
  obtain ⟨y_this_352, y_this_353, y_this_354, y_this_355, y_this_356, hd_this_352_353, hd_this_352_354, hd_this_353_354⟩ := id hokx
  obtain ⟨-, this_now, hR_this_now, hL_this_now, hK_this_now, ho_this_now⟩ := y_this_352
  obtain ⟨y_this_now_325, y_this_now_326, y_this_now_327, y_this_now_328, y_this_now_329, y_this_now_330, y_this_now_331, y_this_now_332, hi_this_now_320, hi_this_now_323, hi_this_now_324⟩ := id ho_this_now
  obtain ⟨-, this_now_folk, hR_this_now_folk, hL_this_now_folk, hK_this_now_folk, ho_this_now_folk⟩ := y_this_now_328
  obtain ⟨y_that_384, y_that_385, y_that_386, y_that_387, y_that_400, y_that_404, y_that_405, y_that_408, y_that_409, y_that_411, y_that_412, y_that_413, y_that_414, hi_that_388, hi_that_389, hi_that_390, hi_that_391, hd_that_384_385, hd_that_384_386, hd_that_384_414, hd_that_386_414, hF_384, hF_385⟩ := id hokm
  obtain ⟨-, that_a, hR_that_a, hL_that_a, hK_that_a, hN_that_a⟩ := y_that_384
  refine lv_aload_n hx hb dL_law_1042 rfl (lv_at hl 2 rfl) ?_
  refine lv_aload_n hx hb dL_law_1043 rfl (lv_at hl 3 rfl) ?_
  refine lv_iload_n hx hb dL_law_1044 rfl (lv_at hl 0 rfl) ?_
  refine lv_iconst (v := 1) hx hb dL_law_1045 (by decide) ?_
  refine lv_iadd hx hb dL_law_1046 ?_
  refine lv_tov 1 (by decide) ?_
  refine va_sld hx hb hX hbl (Nat.not_le.mpr hbl) hS (vp_in_iff.mpr (by decide)) dL_law_1047 ?_
  refine lv_tov (xs 1) rfl ?_
  refine lv_aload_n hx hb dL_law_1048 rfl (lv_at hl 3 rfl) ?_
  refine lv_iload_n hx hb dL_law_1049 rfl (lv_at hl 0 rfl) ?_
  refine lv_iconst (v := 2) hx hb dL_law_1050 (by decide) ?_
  refine lv_iadd hx hb dL_law_1051 ?_
  refine lv_tov 2 (by decide) ?_
  refine va_sld hx hb hX hbl (Nat.not_le.mpr hbl) hS (vp_in_iff.mpr (by decide)) dL_law_1052 ?_
  refine lv_tov (xs 2) rfl ?_
  refine lv_aload_n hx hb dL_law_1053 rfl (lv_at hl 3 rfl) ?_
  refine lv_iload_n hx hb dL_law_1054 rfl (lv_at hl 0 rfl) ?_
  refine lv_iconst (v := 3) hx hb dL_law_1055 (by decide) ?_
  refine lv_iadd hx hb dL_law_1056 ?_
  refine lv_tov 3 (by decide) ?_
  refine va_sld hx hb hX hbl (Nat.not_le.mpr hbl) hS (vp_in_iff.mpr (by decide)) dL_law_1057 ?_
  refine lv_tov (xs 3) rfl ?_
  refine lk_i (va_runV (As := [.int (xs 1), .int (xs 2), .int (xs 3)]) (rest := []) ⟨hx, hb, hml, hown, hts⟩ (c_X11_is l D t σ I J ri rj rq H.size this (xs 1) (xs 2) (xs 3) hL_this hK_this this_now hR_this_now hL_this_now hK_this_now this_now_folk hR_this_now_folk hL_this_now_folk hK_this_now_folk hZ) (cwV 3 hts (tw_V tw_959 tw_960 tw_961 tw_2 tw_962) rfl rfl rfl (by decide +kernel) ⟨Nat.le_of_ble_eq_true rfl, Nat.le_of_ble_eq_true rfl⟩) ⟨pq_blind, pq_recv hK hP hL_this hK_this (by decide) rfl, pq_pre hK hN hP hD⟩ rfl rfl hl.1 rfl (lv_room (Nat.le_of_ble_eq_true rfl)) dL_law_1058 ⟨Nat.le_of_ble_eq_true rfl, Nat.le_of_ble_eq_true rfl⟩) hD hS hA hP2 hdis (fun r1 u1 H locs hw1 hP2 hS => ?_)
  obtain ⟨-, hr1⟩ := hw1
  refine lv_aload_n hx hb dL_law_1061 rfl (lv_at hl 1 rfl) ?_
  refine lv_aload_n hx hb dL_law_1062 rfl (lv_at hl 3 rfl) ?_
  refine lv_iload_n hx hb dL_law_1063 rfl (lv_at hl 0 rfl) ?_
  refine lv_iconst (v := 1) hx hb dL_law_1064 (by decide) ?_
  refine lv_iadd hx hb dL_law_1065 ?_
  refine lv_tov 1 (by decide) ?_
  refine va_sld hx hb hX hbl (Nat.not_le.mpr hbl) hS (vp_in_iff.mpr (by decide)) dL_law_1066 ?_
  refine lv_tov (xs 1) rfl ?_
  refine lv_aload_n hx hb dL_law_1067 rfl (lv_at hl 3 rfl) ?_
  refine lv_iload_n hx hb dL_law_1068 rfl (lv_at hl 0 rfl) ?_
  refine lv_iconst (v := 2) hx hb dL_law_1069 (by decide) ?_
  refine lv_iadd hx hb dL_law_1070 ?_
  refine lv_tov 2 (by decide) ?_
  refine va_sld hx hb hX hbl (Nat.not_le.mpr hbl) hS (vp_in_iff.mpr (by decide)) dL_law_1071 ?_
  refine lv_tov (xs 2) rfl ?_
  refine lv_aload_n hx hb dL_law_1072 rfl (lv_at hl 3 rfl) ?_
  refine lv_iload_n hx hb dL_law_1073 rfl (lv_at hl 0 rfl) ?_
  refine lv_iconst (v := 3) hx hb dL_law_1074 (by decide) ?_
  refine lv_iadd hx hb dL_law_1075 ?_
  refine lv_tov 3 (by decide) ?_
  refine va_sld hx hb hX hbl (Nat.not_le.mpr hbl) hS (vp_in_iff.mpr (by decide)) dL_law_1076 ?_
  refine lv_tov (xs 3) rfl ?_
  refine pk_i (va_runV (As := [.int (xs 1), .int (xs 2), .int (xs 3)]) (rest := [.int r1]) ⟨hx, hb, hml, hown, hts⟩ (c_X12_is l D t τ I2 J2 si sj sq H.size that (xs 1) (xs 2) (xs 3) hL_that hK_that that_a hR_that_a hL_that_a hK_that_a hN_that_a (okF_at hF_384 hR_that_a)) (cwV 3 hts (tw_V tw_967 tw_968 tw_969 tw_5 tw_970) rfl rfl rfl (by decide +kernel) ⟨Nat.le_of_ble_eq_true rfl, Nat.le_of_ble_eq_true rfl⟩) ⟨pq_blind, pq_recv hK hP2 hL_that hK_that (by decide) rfl, pq_pre hK hN hP2 hD2⟩ rfl rfl hl.1 rfl (lv_room (Nat.le_of_ble_eq_true rfl)) dL_law_1077 ⟨Nat.le_of_ble_eq_true rfl, Nat.le_of_ble_eq_true rfl⟩) hD2 hS hA (fun r2 σ3 μ3 H locs hw2 hP3 hD3 hS => ?_)
  obtain ⟨-, hr2⟩ := hw2
  have he : r1 = r2 := by exact hr1.trans hr2.symm
  refine lv_icmp_eq (tgt := 1725) hx hb dL_law_1080 (by decide) (fun _ => ?_) (fun q => absurd he q)
  exact lw_tail l hx hb hr hlocks hX hbl (by decide) (by decide) hS (lv_sub hl [3, 0] rfl)
set_option maxHeartbeats 8000000 in
set_option maxRecDepth 100000 in
theorem lw_op_21 {p : Program} {e : Env} {s : State} {m : MethodId} {below : List Frame} {meth : Method} {c : Code} {b : Nat} (l : Launch) (hx : p.tables.exec = Jvm.exec) (hb : c.code = cL_law) (hr : meth.sig.returnType = ret) (hml : c.maxLocals = 4) (hown : s.vm.findClass RL = some m.cls) (hlocks : meth.locks = false) (hts : ∀ w ∈ (Cond.initialized RX11 :: wsL_law), w.before #[Value.ref b] s = true) (xs : Nat → Int32) (hX : va_X b 7 xs s s.heap) (hbl : b < s.heap.size) {D : va_G} {t : pq_T} (hK : va_K D vwCl (pq_ty t) s) (hN : pq_N s) {σ τ : pq_S} {I : Nat → Nat → Int32} {J : Nat → Nat → Int64} {ri : Nat → Nat → Int32} {rj : Nat → Nat → Int64} {rq : Nat → Nat → Option Nat} {I2 : Nat → Nat → Int32} {J2 : Nat → Nat → Int64} {si : Nat → Nat → Int32} {sj : Nat → Nat → Int64} {sq : Nat → Nat → Option Nat} {this that : Nat} (hokx : okRingsUnder σ I this) (hL_this : this ∈ σ.1) (hK_this : σ.2.1 this = 11) (hZ : pq_Z I) (hq0 : rq = fun _ _ => none) (hokm : okModel τ I2 si that) (hL_that : that ∈ τ.1) (hK_that : τ.2.1 that = 12) (hdis : ∀ a, a ∈ τ.1 → a ∉ σ.1) {H : Heap} {locs : List Loc} (hP : va_P D vwCl (pq_P t σ (I, J, ri, rj, rq)) H) (hD : va_D (fun q => s.heap.size ≤ q) (pq_P t σ (I, J, ri, rj, rq))) (hP2 : va_P D vwCl (pq_P t τ (I2, J2, si, sj, sq)) H) (hD2 : va_D (fun q => s.heap.size ≤ q) (pq_P t τ (I2, J2, si, sj, sq))) (hS : va_S (fun q => s.heap.size ≤ q) s.heap H locs) {ls : Array Slot} (hl : lv_has ls 4 [(3, .int 0), (2, .ref that), (1, .ref this), (0, .ref b)]) : W p l e room_1 s m #[Value.ref b] below meth c H locs 207 49062 (lw_Z below #[Value.ref b] s) (F0 m 1085 ls []) := by
  have hA : ∀ q : Nat, s.heap.size ≤ q → s.heap.size ≤ q := fun _ h => h
  obtain ⟨y_this_352, y_this_353, y_this_354, y_this_355, y_this_356, hd_this_352_353, hd_this_352_354, hd_this_353_354⟩ := id hokx
  obtain ⟨-, this_now, hR_this_now, hL_this_now, hK_this_now, ho_this_now⟩ := y_this_352
  obtain ⟨y_this_now_325, y_this_now_326, y_this_now_327, y_this_now_328, y_this_now_329, y_this_now_330, y_this_now_331, y_this_now_332, hi_this_now_320, hi_this_now_323, hi_this_now_324⟩ := id ho_this_now
  obtain ⟨-, this_now_folk, hR_this_now_folk, hL_this_now_folk, hK_this_now_folk, ho_this_now_folk⟩ := y_this_now_328
  obtain ⟨y_that_384, y_that_385, y_that_386, y_that_387, y_that_400, y_that_404, y_that_405, y_that_408, y_that_409, y_that_411, y_that_412, y_that_413, y_that_414, hi_that_388, hi_that_389, hi_that_390, hi_that_391, hd_that_384_385, hd_that_384_386, hd_that_384_414, hd_that_386_414, hF_384, hF_385⟩ := id hokm
  obtain ⟨-, that_a, hR_that_a, hL_that_a, hK_that_a, hN_that_a⟩ := y_that_384
  refine lv_aload_n hx hb dL_law_1085 rfl (lv_at hl 2 rfl) ?_
  refine lv_aload_n hx hb dL_law_1086 rfl (lv_at hl 3 rfl) ?_
  refine lv_iload_n hx hb dL_law_1087 rfl (lv_at hl 0 rfl) ?_
  refine lv_iconst (v := 1) hx hb dL_law_1088 (by decide) ?_
  refine lv_iadd hx hb dL_law_1089 ?_
  refine lv_tov 1 (by decide) ?_
  refine va_sld hx hb hX hbl (Nat.not_le.mpr hbl) hS (vp_in_iff.mpr (by decide)) dL_law_1090 ?_
  refine lv_tov (xs 1) rfl ?_
  refine lv_aload_n hx hb dL_law_1091 rfl (lv_at hl 3 rfl) ?_
  refine lv_iload_n hx hb dL_law_1092 rfl (lv_at hl 0 rfl) ?_
  refine lv_iconst (v := 2) hx hb dL_law_1093 (by decide) ?_
  refine lv_iadd hx hb dL_law_1094 ?_
  refine lv_tov 2 (by decide) ?_
  refine va_sld hx hb hX hbl (Nat.not_le.mpr hbl) hS (vp_in_iff.mpr (by decide)) dL_law_1095 ?_
  refine lv_tov (xs 2) rfl ?_
  refine lv_aload_n hx hb dL_law_1096 rfl (lv_at hl 3 rfl) ?_
  refine lv_iload_n hx hb dL_law_1097 rfl (lv_at hl 0 rfl) ?_
  refine lv_iconst (v := 3) hx hb dL_law_1098 (by decide) ?_
  refine lv_iadd hx hb dL_law_1099 ?_
  refine lv_tov 3 (by decide) ?_
  refine va_sld hx hb hX hbl (Nat.not_le.mpr hbl) hS (vp_in_iff.mpr (by decide)) dL_law_1100 ?_
  refine lv_tov (xs 3) rfl ?_
  refine lk_i (va_runV (As := [.int (xs 1), .int (xs 2), .int (xs 3)]) (rest := []) ⟨hx, hb, hml, hown, hts⟩ (c_X11_why l D t σ I J ri rj rq H.size this (xs 1) (xs 2) (xs 3) hL_this hK_this this_now hR_this_now hL_this_now hK_this_now this_now_folk hR_this_now_folk hL_this_now_folk hK_this_now_folk hZ) (cwV 3 hts (tw_V tw_975 tw_976 tw_977 tw_2 tw_978) rfl rfl rfl (by decide +kernel) ⟨Nat.le_of_ble_eq_true rfl, Nat.le_of_ble_eq_true rfl⟩) ⟨pq_blind, pq_recv hK hP hL_this hK_this (by decide) rfl, pq_pre hK hN hP hD⟩ rfl rfl hl.1 rfl (lv_room (Nat.le_of_ble_eq_true rfl)) dL_law_1101 ⟨Nat.le_of_ble_eq_true rfl, Nat.le_of_ble_eq_true rfl⟩) hD hS hA hP2 hdis (fun r1 u1 H locs hw1 hP2 hS => ?_)
  obtain ⟨-, hr1⟩ := hw1
  refine lv_aload_n hx hb dL_law_1104 rfl (lv_at hl 1 rfl) ?_
  refine lv_aload_n hx hb dL_law_1105 rfl (lv_at hl 3 rfl) ?_
  refine lv_iload_n hx hb dL_law_1106 rfl (lv_at hl 0 rfl) ?_
  refine lv_iconst (v := 1) hx hb dL_law_1107 (by decide) ?_
  refine lv_iadd hx hb dL_law_1108 ?_
  refine lv_tov 1 (by decide) ?_
  refine va_sld hx hb hX hbl (Nat.not_le.mpr hbl) hS (vp_in_iff.mpr (by decide)) dL_law_1109 ?_
  refine lv_tov (xs 1) rfl ?_
  refine lv_aload_n hx hb dL_law_1110 rfl (lv_at hl 3 rfl) ?_
  refine lv_iload_n hx hb dL_law_1111 rfl (lv_at hl 0 rfl) ?_
  refine lv_iconst (v := 2) hx hb dL_law_1112 (by decide) ?_
  refine lv_iadd hx hb dL_law_1113 ?_
  refine lv_tov 2 (by decide) ?_
  refine va_sld hx hb hX hbl (Nat.not_le.mpr hbl) hS (vp_in_iff.mpr (by decide)) dL_law_1114 ?_
  refine lv_tov (xs 2) rfl ?_
  refine lv_aload_n hx hb dL_law_1115 rfl (lv_at hl 3 rfl) ?_
  refine lv_iload_n hx hb dL_law_1116 rfl (lv_at hl 0 rfl) ?_
  refine lv_iconst (v := 3) hx hb dL_law_1117 (by decide) ?_
  refine lv_iadd hx hb dL_law_1118 ?_
  refine lv_tov 3 (by decide) ?_
  refine va_sld hx hb hX hbl (Nat.not_le.mpr hbl) hS (vp_in_iff.mpr (by decide)) dL_law_1119 ?_
  refine lv_tov (xs 3) rfl ?_
  refine pk_i (va_runV (As := [.int (xs 1), .int (xs 2), .int (xs 3)]) (rest := [.int r1]) ⟨hx, hb, hml, hown, hts⟩ (c_X12_why l D t τ I2 J2 si sj sq H.size that (xs 1) (xs 2) (xs 3) hL_that hK_that that_a hR_that_a hL_that_a hK_that_a hN_that_a (okF_at hF_384 hR_that_a)) (cwV 3 hts (tw_V tw_983 tw_984 tw_985 tw_5 tw_986) rfl rfl rfl (by decide +kernel) ⟨Nat.le_of_ble_eq_true rfl, Nat.le_of_ble_eq_true rfl⟩) ⟨pq_blind, pq_recv hK hP2 hL_that hK_that (by decide) rfl, pq_pre hK hN hP2 hD2⟩ rfl rfl hl.1 rfl (lv_room (Nat.le_of_ble_eq_true rfl)) dL_law_1120 ⟨Nat.le_of_ble_eq_true rfl, Nat.le_of_ble_eq_true rfl⟩) hD2 hS hA (fun r2 σ3 μ3 H locs hw2 hP3 hD3 hS => ?_)
  obtain ⟨-, hr2⟩ := hw2
  have he : r1 = r2 := by exact hr1.trans hr2.symm
  refine lv_icmp_eq (tgt := 1725) hx hb dL_law_1123 (by decide) (fun _ => ?_) (fun q => absurd he q)
  exact lw_tail l hx hb hr hlocks hX hbl (by decide) (by decide) hS (lv_sub hl [3, 0] rfl)
set_option maxHeartbeats 8000000 in
set_option maxRecDepth 100000 in
theorem lw_op_22 {p : Program} {e : Env} {s : State} {m : MethodId} {below : List Frame} {meth : Method} {c : Code} {b : Nat} (l : Launch) (hx : p.tables.exec = Jvm.exec) (hb : c.code = cL_law) (hr : meth.sig.returnType = ret) (hml : c.maxLocals = 4) (hown : s.vm.findClass RL = some m.cls) (hlocks : meth.locks = false) (hts : ∀ w ∈ (Cond.initialized RX11 :: wsL_law), w.before #[Value.ref b] s = true) (xs : Nat → Int32) (hX : va_X b 7 xs s s.heap) (hbl : b < s.heap.size) {D : va_G} {t : pq_T} (hK : va_K D vwCl (pq_ty t) s) (hN : pq_N s) {σ τ : pq_S} {I : Nat → Nat → Int32} {J : Nat → Nat → Int64} {ri : Nat → Nat → Int32} {rj : Nat → Nat → Int64} {rq : Nat → Nat → Option Nat} {I2 : Nat → Nat → Int32} {J2 : Nat → Nat → Int64} {si : Nat → Nat → Int32} {sj : Nat → Nat → Int64} {sq : Nat → Nat → Option Nat} {this that : Nat} (hokx : okRingsUnder σ I this) (hL_this : this ∈ σ.1) (hK_this : σ.2.1 this = 11) (hZ : pq_Z I) (hq0 : rq = fun _ _ => none) (hokm : okModel τ I2 si that) (hL_that : that ∈ τ.1) (hK_that : τ.2.1 that = 12) (hdis : ∀ a, a ∈ τ.1 → a ∉ σ.1) {H : Heap} {locs : List Loc} (hP : va_P D vwCl (pq_P t σ (I, J, ri, rj, rq)) H) (hD : va_D (fun q => s.heap.size ≤ q) (pq_P t σ (I, J, ri, rj, rq))) (hP2 : va_P D vwCl (pq_P t τ (I2, J2, si, sj, sq)) H) (hD2 : va_D (fun q => s.heap.size ≤ q) (pq_P t τ (I2, J2, si, sj, sq))) (hS : va_S (fun q => s.heap.size ≤ q) s.heap H locs) {ls : Array Slot} (hl : lv_has ls 4 [(3, .int 0), (2, .ref that), (1, .ref this), (0, .ref b)]) : W p l e room_1 s m #[Value.ref b] below meth c H locs 207 49062 (lw_Z below #[Value.ref b] s) (F0 m 1128 ls []) := by
  have hA : ∀ q : Nat, s.heap.size ≤ q → s.heap.size ≤ q := fun _ h => h
  obtain ⟨y_this_352, y_this_353, y_this_354, y_this_355, y_this_356, hd_this_352_353, hd_this_352_354, hd_this_353_354⟩ := id hokx
  obtain ⟨-, this_now, hR_this_now, hL_this_now, hK_this_now, ho_this_now⟩ := y_this_352
  obtain ⟨y_this_now_325, y_this_now_326, y_this_now_327, y_this_now_328, y_this_now_329, y_this_now_330, y_this_now_331, y_this_now_332, hi_this_now_320, hi_this_now_323, hi_this_now_324⟩ := id ho_this_now
  obtain ⟨-, this_now_law, hR_this_now_law, hL_this_now_law, hK_this_now_law, ho_this_now_law⟩ := y_this_now_329
  obtain ⟨y_that_384, y_that_385, y_that_386, y_that_387, y_that_400, y_that_404, y_that_405, y_that_408, y_that_409, y_that_411, y_that_412, y_that_413, y_that_414, hi_that_388, hi_that_389, hi_that_390, hi_that_391, hd_that_384_385, hd_that_384_386, hd_that_384_414, hd_that_386_414, hF_384, hF_385⟩ := id hokm
  obtain ⟨-, that_a, hR_that_a, hL_that_a, hK_that_a, hN_that_a⟩ := y_that_384
  refine lv_aload_n hx hb dL_law_1128 rfl (lv_at hl 2 rfl) ?_
  refine lv_aload_n hx hb dL_law_1129 rfl (lv_at hl 3 rfl) ?_
  refine lv_iload_n hx hb dL_law_1130 rfl (lv_at hl 0 rfl) ?_
  refine lv_iconst (v := 1) hx hb dL_law_1131 (by decide) ?_
  refine lv_iadd hx hb dL_law_1132 ?_
  refine lv_tov 1 (by decide) ?_
  refine va_sld hx hb hX hbl (Nat.not_le.mpr hbl) hS (vp_in_iff.mpr (by decide)) dL_law_1133 ?_
  refine lv_tov (xs 1) rfl ?_
  refine lv_aload_n hx hb dL_law_1134 rfl (lv_at hl 3 rfl) ?_
  refine lv_iload_n hx hb dL_law_1135 rfl (lv_at hl 0 rfl) ?_
  refine lv_iconst (v := 2) hx hb dL_law_1136 (by decide) ?_
  refine lv_iadd hx hb dL_law_1137 ?_
  refine lv_tov 2 (by decide) ?_
  refine va_sld hx hb hX hbl (Nat.not_le.mpr hbl) hS (vp_in_iff.mpr (by decide)) dL_law_1138 ?_
  refine lv_tov (xs 2) rfl ?_
  refine lk_i (va_runV (As := [.int (xs 1), .int (xs 2)]) (rest := []) ⟨hx, hb, hml, hown, hts⟩ (c_X11_says l D t σ I J ri rj rq H.size this (xs 1) (xs 2) hL_this hK_this this_now hR_this_now hL_this_now hK_this_now this_now_law hR_this_now_law hL_this_now_law hK_this_now_law hZ) (cwV 2 hts (tw_V tw_987 tw_988 tw_989 tw_2 tw_990) rfl rfl rfl (by decide +kernel) ⟨Nat.le_of_ble_eq_true rfl, Nat.le_of_ble_eq_true rfl⟩) ⟨pq_blind, pq_recv hK hP hL_this hK_this (by decide) rfl, pq_pre hK hN hP hD⟩ rfl rfl hl.1 rfl (lv_room (Nat.le_of_ble_eq_true rfl)) dL_law_1139 ⟨Nat.le_of_ble_eq_true rfl, Nat.le_of_ble_eq_true rfl⟩) hD hS hA hP2 hdis (fun r1 u1 H locs hw1 hP2 hS => ?_)
  obtain ⟨-, hr1⟩ := hw1
  refine lv_aload_n hx hb dL_law_1142 rfl (lv_at hl 1 rfl) ?_
  refine lv_aload_n hx hb dL_law_1143 rfl (lv_at hl 3 rfl) ?_
  refine lv_iload_n hx hb dL_law_1144 rfl (lv_at hl 0 rfl) ?_
  refine lv_iconst (v := 1) hx hb dL_law_1145 (by decide) ?_
  refine lv_iadd hx hb dL_law_1146 ?_
  refine lv_tov 1 (by decide) ?_
  refine va_sld hx hb hX hbl (Nat.not_le.mpr hbl) hS (vp_in_iff.mpr (by decide)) dL_law_1147 ?_
  refine lv_tov (xs 1) rfl ?_
  refine lv_aload_n hx hb dL_law_1148 rfl (lv_at hl 3 rfl) ?_
  refine lv_iload_n hx hb dL_law_1149 rfl (lv_at hl 0 rfl) ?_
  refine lv_iconst (v := 2) hx hb dL_law_1150 (by decide) ?_
  refine lv_iadd hx hb dL_law_1151 ?_
  refine lv_tov 2 (by decide) ?_
  refine va_sld hx hb hX hbl (Nat.not_le.mpr hbl) hS (vp_in_iff.mpr (by decide)) dL_law_1152 ?_
  refine lv_tov (xs 2) rfl ?_
  refine pk_i (va_runV (As := [.int (xs 1), .int (xs 2)]) (rest := [.int r1]) ⟨hx, hb, hml, hown, hts⟩ (c_X12_says l D t τ I2 J2 si sj sq H.size that (xs 1) (xs 2) hL_that hK_that that_a hR_that_a hL_that_a hK_that_a hN_that_a (okF_at hF_384 hR_that_a)) (cwV 2 hts (tw_V tw_1012 tw_1013 tw_1014 tw_5 tw_1015) rfl rfl rfl (by decide +kernel) ⟨Nat.le_of_ble_eq_true rfl, Nat.le_of_ble_eq_true rfl⟩) ⟨pq_blind, pq_recv hK hP2 hL_that hK_that (by decide) rfl, pq_pre hK hN hP2 hD2⟩ rfl rfl hl.1 rfl (lv_room (Nat.le_of_ble_eq_true rfl)) dL_law_1153 ⟨Nat.le_of_ble_eq_true rfl, Nat.le_of_ble_eq_true rfl⟩) hD2 hS hA (fun r2 σ3 μ3 H locs hw2 hP3 hD3 hS => ?_)
  obtain ⟨-, hr2⟩ := hw2
  have he : r1 = r2 := by exact hr1.trans hr2.symm
  refine lv_icmp_eq (tgt := 1725) hx hb dL_law_1156 (by decide) (fun _ => ?_) (fun q => absurd he q)
  exact lw_tail l hx hb hr hlocks hX hbl (by decide) (by decide) hS (lv_sub hl [3, 0] rfl)
set_option maxHeartbeats 8000000 in
set_option maxRecDepth 100000 in
theorem lw_op_23 {p : Program} {e : Env} {s : State} {m : MethodId} {below : List Frame} {meth : Method} {c : Code} {b : Nat} (l : Launch) (hx : p.tables.exec = Jvm.exec) (hb : c.code = cL_law) (hr : meth.sig.returnType = ret) (hml : c.maxLocals = 4) (hown : s.vm.findClass RL = some m.cls) (hlocks : meth.locks = false) (hts : ∀ w ∈ (Cond.initialized RX11 :: wsL_law), w.before #[Value.ref b] s = true) (xs : Nat → Int32) (hX : va_X b 7 xs s s.heap) (hbl : b < s.heap.size) {D : va_G} {t : pq_T} (hK : va_K D vwCl (pq_ty t) s) (hN : pq_N s) {σ τ : pq_S} {I : Nat → Nat → Int32} {J : Nat → Nat → Int64} {ri : Nat → Nat → Int32} {rj : Nat → Nat → Int64} {rq : Nat → Nat → Option Nat} {I2 : Nat → Nat → Int32} {J2 : Nat → Nat → Int64} {si : Nat → Nat → Int32} {sj : Nat → Nat → Int64} {sq : Nat → Nat → Option Nat} {this that : Nat} (hokx : okRingsUnder σ I this) (hL_this : this ∈ σ.1) (hK_this : σ.2.1 this = 11) (hZ : pq_Z I) (hq0 : rq = fun _ _ => none) (hokm : okModel τ I2 si that) (hL_that : that ∈ τ.1) (hK_that : τ.2.1 that = 12) (hdis : ∀ a, a ∈ τ.1 → a ∉ σ.1) {H : Heap} {locs : List Loc} (hP : va_P D vwCl (pq_P t σ (I, J, ri, rj, rq)) H) (hD : va_D (fun q => s.heap.size ≤ q) (pq_P t σ (I, J, ri, rj, rq))) (hP2 : va_P D vwCl (pq_P t τ (I2, J2, si, sj, sq)) H) (hD2 : va_D (fun q => s.heap.size ≤ q) (pq_P t τ (I2, J2, si, sj, sq))) (hS : va_S (fun q => s.heap.size ≤ q) s.heap H locs) {ls : Array Slot} (hl : lv_has ls 4 [(3, .int 0), (2, .ref that), (1, .ref this), (0, .ref b)]) : W p l e room_1 s m #[Value.ref b] below meth c H locs 207 49062 (lw_Z below #[Value.ref b] s) (F0 m 1161 ls []) := by
  have hA : ∀ q : Nat, s.heap.size ≤ q → s.heap.size ≤ q := fun _ h => h
  obtain ⟨y_this_352, y_this_353, y_this_354, y_this_355, y_this_356, hd_this_352_353, hd_this_352_354, hd_this_353_354⟩ := id hokx
  obtain ⟨-, this_now, hR_this_now, hL_this_now, hK_this_now, ho_this_now⟩ := y_this_352
  obtain ⟨y_this_now_325, y_this_now_326, y_this_now_327, y_this_now_328, y_this_now_329, y_this_now_330, y_this_now_331, y_this_now_332, hi_this_now_320, hi_this_now_323, hi_this_now_324⟩ := id ho_this_now
  obtain ⟨y_that_384, y_that_385, y_that_386, y_that_387, y_that_400, y_that_404, y_that_405, y_that_408, y_that_409, y_that_411, y_that_412, y_that_413, y_that_414, hi_that_388, hi_that_389, hi_that_390, hi_that_391, hd_that_384_385, hd_that_384_386, hd_that_384_414, hd_that_386_414, hF_384, hF_385⟩ := id hokm
  obtain ⟨-, that_a, hR_that_a, hL_that_a, hK_that_a, hN_that_a⟩ := y_that_384
  refine lv_aload_n hx hb dL_law_1161 rfl (lv_at hl 2 rfl) ?_
  refine lv_aload_n hx hb dL_law_1162 rfl (lv_at hl 3 rfl) ?_
  refine lv_iload_n hx hb dL_law_1163 rfl (lv_at hl 0 rfl) ?_
  refine lv_iconst (v := 1) hx hb dL_law_1164 (by decide) ?_
  refine lv_iadd hx hb dL_law_1165 ?_
  refine lv_tov 1 (by decide) ?_
  refine va_sld hx hb hX hbl (Nat.not_le.mpr hbl) hS (vp_in_iff.mpr (by decide)) dL_law_1166 ?_
  refine lv_tov (xs 1) rfl ?_
  refine lv_aload_n hx hb dL_law_1167 rfl (lv_at hl 3 rfl) ?_
  refine lv_iload_n hx hb dL_law_1168 rfl (lv_at hl 0 rfl) ?_
  refine lv_iconst (v := 2) hx hb dL_law_1169 (by decide) ?_
  refine lv_iadd hx hb dL_law_1170 ?_
  refine lv_tov 2 (by decide) ?_
  refine va_sld hx hb hX hbl (Nat.not_le.mpr hbl) hS (vp_in_iff.mpr (by decide)) dL_law_1171 ?_
  refine lv_tov (xs 2) rfl ?_
  refine lk_i (va_runV (As := [.int (xs 1), .int (xs 2)]) (rest := []) ⟨hx, hb, hml, hown, hts⟩ (c_X11_sail l D t σ I J ri rj rq H.size this (xs 1) (xs 2) hL_this hK_this this_now hR_this_now hL_this_now hK_this_now hZ) (cwV 2 hts (tw_V tw_1020 tw_1021 tw_1022 tw_2 tw_1023) rfl rfl rfl (by decide +kernel) ⟨Nat.le_of_ble_eq_true rfl, Nat.le_of_ble_eq_true rfl⟩) ⟨pq_blind, pq_recv hK hP hL_this hK_this (by decide) rfl, pq_pre hK hN hP hD⟩ rfl rfl hl.1 rfl (lv_room (Nat.le_of_ble_eq_true rfl)) dL_law_1172 ⟨Nat.le_of_ble_eq_true rfl, Nat.le_of_ble_eq_true rfl⟩) hD hS hA hP2 hdis (fun r1 u1 H locs hw1 hP2 hS => ?_)
  obtain ⟨_, -, -, hr1⟩ := hw1
  refine lv_aload_n hx hb dL_law_1175 rfl (lv_at hl 1 rfl) ?_
  refine lv_aload_n hx hb dL_law_1176 rfl (lv_at hl 3 rfl) ?_
  refine lv_iload_n hx hb dL_law_1177 rfl (lv_at hl 0 rfl) ?_
  refine lv_iconst (v := 1) hx hb dL_law_1178 (by decide) ?_
  refine lv_iadd hx hb dL_law_1179 ?_
  refine lv_tov 1 (by decide) ?_
  refine va_sld hx hb hX hbl (Nat.not_le.mpr hbl) hS (vp_in_iff.mpr (by decide)) dL_law_1180 ?_
  refine lv_tov (xs 1) rfl ?_
  refine lv_aload_n hx hb dL_law_1181 rfl (lv_at hl 3 rfl) ?_
  refine lv_iload_n hx hb dL_law_1182 rfl (lv_at hl 0 rfl) ?_
  refine lv_iconst (v := 2) hx hb dL_law_1183 (by decide) ?_
  refine lv_iadd hx hb dL_law_1184 ?_
  refine lv_tov 2 (by decide) ?_
  refine va_sld hx hb hX hbl (Nat.not_le.mpr hbl) hS (vp_in_iff.mpr (by decide)) dL_law_1185 ?_
  refine lv_tov (xs 2) rfl ?_
  refine pk_i (va_runV (As := [.int (xs 1), .int (xs 2)]) (rest := [.int r1]) ⟨hx, hb, hml, hown, hts⟩ (c_X12_sail l D t τ I2 J2 si sj sq H.size that (xs 1) (xs 2) hL_that hK_that that_a hR_that_a hL_that_a hK_that_a hN_that_a (okF_at hF_384 hR_that_a)) (cwV 2 hts (tw_V tw_1027 tw_1028 tw_1029 tw_5 tw_1030) rfl rfl rfl (by decide +kernel) ⟨Nat.le_of_ble_eq_true rfl, Nat.le_of_ble_eq_true rfl⟩) ⟨pq_blind, pq_recv hK hP2 hL_that hK_that (by decide) rfl, pq_pre hK hN hP2 hD2⟩ rfl rfl hl.1 rfl (lv_room (Nat.le_of_ble_eq_true rfl)) dL_law_1186 ⟨Nat.le_of_ble_eq_true rfl, Nat.le_of_ble_eq_true rfl⟩) hD2 hS hA (fun r2 σ3 μ3 H locs hw2 hP3 hD3 hS => ?_)
  obtain ⟨_, -, hr2⟩ := hw2
  have he : r1 = r2 := by exact hr1.trans hr2.symm
  refine lv_icmp_eq (tgt := 1725) hx hb dL_law_1189 (by decide) (fun _ => ?_) (fun q => absurd he q)
  exact lw_tail l hx hb hr hlocks hX hbl (by decide) (by decide) hS (lv_sub hl [3, 0] rfl)
set_option maxHeartbeats 8000000 in
set_option maxRecDepth 100000 in
theorem lw_op_24 {p : Program} {e : Env} {s : State} {m : MethodId} {below : List Frame} {meth : Method} {c : Code} {b : Nat} (l : Launch) (hx : p.tables.exec = Jvm.exec) (hb : c.code = cL_law) (hr : meth.sig.returnType = ret) (hml : c.maxLocals = 4) (hown : s.vm.findClass RL = some m.cls) (hlocks : meth.locks = false) (hts : ∀ w ∈ (Cond.initialized RX11 :: wsL_law), w.before #[Value.ref b] s = true) (xs : Nat → Int32) (hX : va_X b 7 xs s s.heap) (hbl : b < s.heap.size) {D : va_G} {t : pq_T} (hK : va_K D vwCl (pq_ty t) s) (hN : pq_N s) {σ τ : pq_S} {I : Nat → Nat → Int32} {J : Nat → Nat → Int64} {ri : Nat → Nat → Int32} {rj : Nat → Nat → Int64} {rq : Nat → Nat → Option Nat} {I2 : Nat → Nat → Int32} {J2 : Nat → Nat → Int64} {si : Nat → Nat → Int32} {sj : Nat → Nat → Int64} {sq : Nat → Nat → Option Nat} {this that : Nat} (hokx : okRingsUnder σ I this) (hL_this : this ∈ σ.1) (hK_this : σ.2.1 this = 11) (hZ : pq_Z I) (hq0 : rq = fun _ _ => none) (hokm : okModel τ I2 si that) (hL_that : that ∈ τ.1) (hK_that : τ.2.1 that = 12) (hdis : ∀ a, a ∈ τ.1 → a ∉ σ.1) {H : Heap} {locs : List Loc} (hP : va_P D vwCl (pq_P t σ (I, J, ri, rj, rq)) H) (hD : va_D (fun q => s.heap.size ≤ q) (pq_P t σ (I, J, ri, rj, rq))) (hP2 : va_P D vwCl (pq_P t τ (I2, J2, si, sj, sq)) H) (hD2 : va_D (fun q => s.heap.size ≤ q) (pq_P t τ (I2, J2, si, sj, sq))) (hS : va_S (fun q => s.heap.size ≤ q) s.heap H locs) {ls : Array Slot} (hl : lv_has ls 4 [(3, .int 0), (2, .ref that), (1, .ref this), (0, .ref b)]) : W p l e room_1 s m #[Value.ref b] below meth c H locs 207 49062 (lw_Z below #[Value.ref b] s) (F0 m 1194 ls []) := by
  have hA : ∀ q : Nat, s.heap.size ≤ q → s.heap.size ≤ q := fun _ h => h
  obtain ⟨y_this_352, y_this_353, y_this_354, y_this_355, y_this_356, hd_this_352_353, hd_this_352_354, hd_this_353_354⟩ := id hokx
  obtain ⟨-, this_now, hR_this_now, hL_this_now, hK_this_now, ho_this_now⟩ := y_this_352
  obtain ⟨y_this_now_325, y_this_now_326, y_this_now_327, y_this_now_328, y_this_now_329, y_this_now_330, y_this_now_331, y_this_now_332, hi_this_now_320, hi_this_now_323, hi_this_now_324⟩ := id ho_this_now
  obtain ⟨-, this_now_seas, hR_this_now_seas, hL_this_now_seas, hK_this_now_seas, ho_this_now_seas⟩ := y_this_now_326
  obtain ⟨y_this_now_seas_225, y_this_now_seas_226, y_this_now_seas_227, y_this_now_seas_228, y_this_now_seas_229, y_this_now_seas_230, y_this_now_seas_231, y_this_now_seas_232, y_this_now_seas_233, hi_this_now_seas_237⟩ := id ho_this_now_seas
  obtain ⟨-, this_now_seas_low, hR_this_now_seas_low, hL_this_now_seas_low, hK_this_now_seas_low, hN_this_now_seas_low⟩ := y_this_now_seas_229
  obtain ⟨-, this_now_seas_high, hR_this_now_seas_high, hL_this_now_seas_high, hK_this_now_seas_high, hN_this_now_seas_high⟩ := y_this_now_seas_230
  obtain ⟨-, this_now_seas_warm, hR_this_now_seas_warm, hL_this_now_seas_warm, hK_this_now_seas_warm, hN_this_now_seas_warm⟩ := y_this_now_seas_231
  obtain ⟨-, this_now_seas_drift, hR_this_now_seas_drift, hL_this_now_seas_drift, hK_this_now_seas_drift, hN_this_now_seas_drift⟩ := y_this_now_seas_232
  obtain ⟨-, this_now_seas_rain, hR_this_now_seas_rain, hL_this_now_seas_rain, hK_this_now_seas_rain, hN_this_now_seas_rain⟩ := y_this_now_seas_233
  obtain ⟨-, this_now_land, hR_this_now_land, hL_this_now_land, hK_this_now_land, ho_this_now_land⟩ := y_this_now_327
  obtain ⟨y_this_now_land_68, y_this_now_land_69, y_this_now_land_70, y_this_now_land_71, y_this_now_land_72, y_this_now_land_73, y_this_now_land_74, y_this_now_land_75, y_this_now_land_76, y_this_now_land_77, y_this_now_land_78, y_this_now_land_79, y_this_now_land_80, y_this_now_land_81, y_this_now_land_82, y_this_now_land_83, hd_this_now_land_82_83⟩ := id ho_this_now_land
  obtain ⟨-, this_now_land_rocks, hR_this_now_land_rocks, hL_this_now_land_rocks, hK_this_now_land_rocks, hN_this_now_land_rocks⟩ := y_this_now_land_68
  obtain ⟨-, this_now_land_wells, hR_this_now_land_wells, hL_this_now_land_wells, hK_this_now_land_wells, ho_this_now_land_wells⟩ := y_this_now_land_78
  obtain ⟨-, this_now_land_first, hR_this_now_land_first, hL_this_now_land_first, hK_this_now_land_first, hN_this_now_land_first⟩ := y_this_now_land_80
  obtain ⟨-, this_now_land_rows, hR_this_now_land_rows, hL_this_now_land_rows, hK_this_now_land_rows, hN_this_now_land_rows⟩ := y_this_now_land_82
  obtain ⟨-, this_now_land_widths, hR_this_now_land_widths, hL_this_now_land_widths, hK_this_now_land_widths, hN_this_now_land_widths⟩ := y_this_now_land_83
  obtain ⟨-, this_now_folk, hR_this_now_folk, hL_this_now_folk, hK_this_now_folk, ho_this_now_folk⟩ := y_this_now_328
  obtain ⟨y_this_now_folk_1, y_this_now_folk_2, y_this_now_folk_3, y_this_now_folk_4, y_this_now_folk_5, y_this_now_folk_6, y_this_now_folk_7, y_this_now_folk_8, y_this_now_folk_9, y_this_now_folk_11, y_this_now_folk_12, y_this_now_folk_13, y_this_now_folk_14, y_this_now_folk_15⟩ := id ho_this_now_folk
  obtain ⟨-, this_now_folk_ofRing, hR_this_now_folk_ofRing, hL_this_now_folk_ofRing, hK_this_now_folk_ofRing, hN_this_now_folk_ofRing⟩ := y_this_now_folk_12
  obtain ⟨-, this_now_law, hR_this_now_law, hL_this_now_law, hK_this_now_law, ho_this_now_law⟩ := y_this_now_329
  obtain ⟨-, this_now_ringBeds, hR_this_now_ringBeds, hL_this_now_ringBeds, hK_this_now_ringBeds, hN_this_now_ringBeds⟩ := y_this_now_332
  obtain ⟨y_that_384, y_that_385, y_that_386, y_that_387, y_that_400, y_that_404, y_that_405, y_that_408, y_that_409, y_that_411, y_that_412, y_that_413, y_that_414, hi_that_388, hi_that_389, hi_that_390, hi_that_391, hd_that_384_385, hd_that_384_386, hd_that_384_414, hd_that_386_414, hF_384, hF_385⟩ := id hokm
  obtain ⟨-, that_a, hR_that_a, hL_that_a, hK_that_a, hN_that_a⟩ := y_that_384
  refine lv_aload_n hx hb dL_law_1194 rfl (lv_at hl 2 rfl) ?_
  refine lv_aload_n hx hb dL_law_1195 rfl (lv_at hl 3 rfl) ?_
  refine lv_iload_n hx hb dL_law_1196 rfl (lv_at hl 0 rfl) ?_
  refine lv_iconst (v := 1) hx hb dL_law_1197 (by decide) ?_
  refine lv_iadd hx hb dL_law_1198 ?_
  refine lv_tov 1 (by decide) ?_
  refine va_sld hx hb hX hbl (Nat.not_le.mpr hbl) hS (vp_in_iff.mpr (by decide)) dL_law_1199 ?_
  refine lv_tov (xs 1) rfl ?_
  refine lv_aload_n hx hb dL_law_1200 rfl (lv_at hl 3 rfl) ?_
  refine lv_iload_n hx hb dL_law_1201 rfl (lv_at hl 0 rfl) ?_
  refine lv_iconst (v := 2) hx hb dL_law_1202 (by decide) ?_
  refine lv_iadd hx hb dL_law_1203 ?_
  refine lv_tov 2 (by decide) ?_
  refine va_sld hx hb hX hbl (Nat.not_le.mpr hbl) hS (vp_in_iff.mpr (by decide)) dL_law_1204 ?_
  refine lv_tov (xs 2) rfl ?_
  refine lk_i (va_runV (As := [.int (xs 1), .int (xs 2)]) (rest := []) ⟨hx, hb, hml, hown, hts⟩ (c_X11_months l D t σ I J ri rj rq H.size this (xs 1) (xs 2) hL_this hK_this this_now hR_this_now hL_this_now hK_this_now this_now_seas hR_this_now_seas hL_this_now_seas hK_this_now_seas this_now_land hR_this_now_land hL_this_now_land hK_this_now_land this_now_seas_warm hR_this_now_seas_warm hL_this_now_seas_warm hK_this_now_seas_warm hN_this_now_seas_warm this_now_seas_drift hR_this_now_seas_drift hL_this_now_seas_drift hK_this_now_seas_drift hN_this_now_seas_drift this_now_seas_high hR_this_now_seas_high hL_this_now_seas_high hK_this_now_seas_high hN_this_now_seas_high this_now_seas_low hR_this_now_seas_low hL_this_now_seas_low hK_this_now_seas_low hN_this_now_seas_low this_now_land_rocks hR_this_now_land_rocks hL_this_now_land_rocks hK_this_now_land_rocks hN_this_now_land_rocks this_now_land_wells hR_this_now_land_wells hL_this_now_land_wells hK_this_now_land_wells this_now_seas_rain hR_this_now_seas_rain hL_this_now_seas_rain hK_this_now_seas_rain hN_this_now_seas_rain this_now_ringBeds hR_this_now_ringBeds hL_this_now_ringBeds hK_this_now_ringBeds hN_this_now_ringBeds this_now_folk hR_this_now_folk hL_this_now_folk hK_this_now_folk this_now_land_first hR_this_now_land_first hL_this_now_land_first hK_this_now_land_first hN_this_now_land_first this_now_folk_ofRing hR_this_now_folk_ofRing hL_this_now_folk_ofRing hK_this_now_folk_ofRing hN_this_now_folk_ofRing this_now_law hR_this_now_law hL_this_now_law hK_this_now_law this_now_land_rows hR_this_now_land_rows hL_this_now_land_rows hK_this_now_land_rows hN_this_now_land_rows this_now_land_widths hR_this_now_land_widths hL_this_now_land_widths hK_this_now_land_widths hN_this_now_land_widths hZ hi_this_now_320 hi_this_now_seas_237 (okD_at hd_this_now_land_82_83 hR_this_now_land_rows hR_this_now_land_widths)) (cwV 2 hts (tw_V tw_1031 tw_1032 tw_1033 tw_2 tw_1034) rfl rfl rfl (by decide +kernel) ⟨Nat.le_of_ble_eq_true rfl, Nat.le_of_ble_eq_true rfl⟩) ⟨pq_blind, pq_recv hK hP hL_this hK_this (by decide) rfl, pq_pre hK hN hP hD⟩ rfl rfl hl.1 rfl (lv_room (Nat.le_of_ble_eq_true rfl)) dL_law_1205 ⟨Nat.le_of_ble_eq_true rfl, Nat.le_of_ble_eq_true rfl⟩) hD hS hA hP2 hdis (fun r1 u1 H locs hw1 hP2 hS => ?_)
  obtain ⟨_, _, _, _, -, -, hr1⟩ := hw1
  refine lv_aload_n hx hb dL_law_1208 rfl (lv_at hl 1 rfl) ?_
  refine lv_aload_n hx hb dL_law_1209 rfl (lv_at hl 3 rfl) ?_
  refine lv_iload_n hx hb dL_law_1210 rfl (lv_at hl 0 rfl) ?_
  refine lv_iconst (v := 1) hx hb dL_law_1211 (by decide) ?_
  refine lv_iadd hx hb dL_law_1212 ?_
  refine lv_tov 1 (by decide) ?_
  refine va_sld hx hb hX hbl (Nat.not_le.mpr hbl) hS (vp_in_iff.mpr (by decide)) dL_law_1213 ?_
  refine lv_tov (xs 1) rfl ?_
  refine lv_aload_n hx hb dL_law_1214 rfl (lv_at hl 3 rfl) ?_
  refine lv_iload_n hx hb dL_law_1215 rfl (lv_at hl 0 rfl) ?_
  refine lv_iconst (v := 2) hx hb dL_law_1216 (by decide) ?_
  refine lv_iadd hx hb dL_law_1217 ?_
  refine lv_tov 2 (by decide) ?_
  refine va_sld hx hb hX hbl (Nat.not_le.mpr hbl) hS (vp_in_iff.mpr (by decide)) dL_law_1218 ?_
  refine lv_tov (xs 2) rfl ?_
  refine pk_i (va_runV (As := [.int (xs 1), .int (xs 2)]) (rest := [.int r1]) ⟨hx, hb, hml, hown, hts⟩ (c_X12_months l D t τ I2 J2 si sj sq H.size that (xs 1) (xs 2) hL_that hK_that that_a hR_that_a hL_that_a hK_that_a hN_that_a (okF_at hF_384 hR_that_a)) (cwV 2 hts (tw_V tw_1185 tw_1186 tw_1187 tw_5 tw_1188) rfl rfl rfl (by decide +kernel) ⟨Nat.le_of_ble_eq_true rfl, Nat.le_of_ble_eq_true rfl⟩) ⟨pq_blind, pq_recv hK hP2 hL_that hK_that (by decide) rfl, pq_pre hK hN hP2 hD2⟩ rfl rfl hl.1 rfl (lv_room (Nat.le_of_ble_eq_true rfl)) dL_law_1219 ⟨Nat.le_of_ble_eq_true rfl, Nat.le_of_ble_eq_true rfl⟩) hD2 hS hA (fun r2 σ3 μ3 H locs hw2 hP3 hD3 hS => ?_)
  obtain ⟨_, _, -, hr2⟩ := hw2
  have he : r1 = r2 := by exact hr1.trans hr2.symm
  refine lv_icmp_eq (tgt := 1725) hx hb dL_law_1222 (by decide) (fun _ => ?_) (fun q => absurd he q)
  exact lw_tail l hx hb hr hlocks hX hbl (by decide) (by decide) hS (lv_sub hl [3, 0] rfl)
set_option maxHeartbeats 8000000 in
set_option maxRecDepth 100000 in
theorem lw_op_25 {p : Program} {e : Env} {s : State} {m : MethodId} {below : List Frame} {meth : Method} {c : Code} {b : Nat} (l : Launch) (hx : p.tables.exec = Jvm.exec) (hb : c.code = cL_law) (hr : meth.sig.returnType = ret) (hml : c.maxLocals = 4) (hown : s.vm.findClass RL = some m.cls) (hlocks : meth.locks = false) (hts : ∀ w ∈ (Cond.initialized RX11 :: wsL_law), w.before #[Value.ref b] s = true) (xs : Nat → Int32) (hX : va_X b 7 xs s s.heap) (hbl : b < s.heap.size) {D : va_G} {t : pq_T} (hK : va_K D vwCl (pq_ty t) s) (hN : pq_N s) {σ τ : pq_S} {I : Nat → Nat → Int32} {J : Nat → Nat → Int64} {ri : Nat → Nat → Int32} {rj : Nat → Nat → Int64} {rq : Nat → Nat → Option Nat} {I2 : Nat → Nat → Int32} {J2 : Nat → Nat → Int64} {si : Nat → Nat → Int32} {sj : Nat → Nat → Int64} {sq : Nat → Nat → Option Nat} {this that : Nat} (hokx : okRingsUnder σ I this) (hL_this : this ∈ σ.1) (hK_this : σ.2.1 this = 11) (hZ : pq_Z I) (hq0 : rq = fun _ _ => none) (hokm : okModel τ I2 si that) (hL_that : that ∈ τ.1) (hK_that : τ.2.1 that = 12) (hdis : ∀ a, a ∈ τ.1 → a ∉ σ.1) {H : Heap} {locs : List Loc} (hP : va_P D vwCl (pq_P t σ (I, J, ri, rj, rq)) H) (hD : va_D (fun q => s.heap.size ≤ q) (pq_P t σ (I, J, ri, rj, rq))) (hP2 : va_P D vwCl (pq_P t τ (I2, J2, si, sj, sq)) H) (hD2 : va_D (fun q => s.heap.size ≤ q) (pq_P t τ (I2, J2, si, sj, sq))) (hS : va_S (fun q => s.heap.size ≤ q) s.heap H locs) {ls : Array Slot} (hl : lv_has ls 4 [(3, .int 0), (2, .ref that), (1, .ref this), (0, .ref b)]) : W p l e room_1 s m #[Value.ref b] below meth c H locs 207 49062 (lw_Z below #[Value.ref b] s) (F0 m 1227 ls []) := by
  have hA : ∀ q : Nat, s.heap.size ≤ q → s.heap.size ≤ q := fun _ h => h
  obtain ⟨y_this_352, y_this_353, y_this_354, y_this_355, y_this_356, hd_this_352_353, hd_this_352_354, hd_this_353_354⟩ := id hokx
  obtain ⟨-, this_now, hR_this_now, hL_this_now, hK_this_now, ho_this_now⟩ := y_this_352
  obtain ⟨y_this_now_325, y_this_now_326, y_this_now_327, y_this_now_328, y_this_now_329, y_this_now_330, y_this_now_331, y_this_now_332, hi_this_now_320, hi_this_now_323, hi_this_now_324⟩ := id ho_this_now
  obtain ⟨-, this_now_land, hR_this_now_land, hL_this_now_land, hK_this_now_land, ho_this_now_land⟩ := y_this_now_327
  obtain ⟨y_this_now_land_68, y_this_now_land_69, y_this_now_land_70, y_this_now_land_71, y_this_now_land_72, y_this_now_land_73, y_this_now_land_74, y_this_now_land_75, y_this_now_land_76, y_this_now_land_77, y_this_now_land_78, y_this_now_land_79, y_this_now_land_80, y_this_now_land_81, y_this_now_land_82, y_this_now_land_83, hd_this_now_land_82_83⟩ := id ho_this_now_land
  obtain ⟨y_that_384, y_that_385, y_that_386, y_that_387, y_that_400, y_that_404, y_that_405, y_that_408, y_that_409, y_that_411, y_that_412, y_that_413, y_that_414, hi_that_388, hi_that_389, hi_that_390, hi_that_391, hd_that_384_385, hd_that_384_386, hd_that_384_414, hd_that_386_414, hF_384, hF_385⟩ := id hokm
  obtain ⟨-, that_a, hR_that_a, hL_that_a, hK_that_a, hN_that_a⟩ := y_that_384
  refine lv_aload_n hx hb dL_law_1227 rfl (lv_at hl 2 rfl) ?_
  refine lv_aload_n hx hb dL_law_1228 rfl (lv_at hl 3 rfl) ?_
  refine lv_iload_n hx hb dL_law_1229 rfl (lv_at hl 0 rfl) ?_
  refine lv_iconst (v := 1) hx hb dL_law_1230 (by decide) ?_
  refine lv_iadd hx hb dL_law_1231 ?_
  refine lv_tov 1 (by decide) ?_
  refine va_sld hx hb hX hbl (Nat.not_le.mpr hbl) hS (vp_in_iff.mpr (by decide)) dL_law_1232 ?_
  refine lv_tov (xs 1) rfl ?_
  refine lv_aload_n hx hb dL_law_1233 rfl (lv_at hl 3 rfl) ?_
  refine lv_iload_n hx hb dL_law_1234 rfl (lv_at hl 0 rfl) ?_
  refine lv_iconst (v := 2) hx hb dL_law_1235 (by decide) ?_
  refine lv_iadd hx hb dL_law_1236 ?_
  refine lv_tov 2 (by decide) ?_
  refine va_sld hx hb hX hbl (Nat.not_le.mpr hbl) hS (vp_in_iff.mpr (by decide)) dL_law_1237 ?_
  refine lv_tov (xs 2) rfl ?_
  refine lk_i (va_runV (As := [.int (xs 1), .int (xs 2)]) (rest := []) ⟨hx, hb, hml, hown, hts⟩ (c_X11_cellOf l D t σ I J ri rj rq H.size this (xs 1) (xs 2) hL_this hK_this this_now hR_this_now hL_this_now hK_this_now this_now_land hR_this_now_land hL_this_now_land hK_this_now_land hZ) (cwV 2 hts (tw_V tw_1267 tw_1268 tw_1269 tw_2 tw_1270) rfl rfl rfl (by decide +kernel) ⟨Nat.le_of_ble_eq_true rfl, Nat.le_of_ble_eq_true rfl⟩) ⟨pq_blind, pq_recv hK hP hL_this hK_this (by decide) rfl, pq_pre hK hN hP hD⟩ rfl rfl hl.1 rfl (lv_room (Nat.le_of_ble_eq_true rfl)) dL_law_1238 ⟨Nat.le_of_ble_eq_true rfl, Nat.le_of_ble_eq_true rfl⟩) hD hS hA hP2 hdis (fun r1 u1 H locs hw1 hP2 hS => ?_)
  obtain ⟨-, hr1⟩ := hw1
  refine lv_aload_n hx hb dL_law_1241 rfl (lv_at hl 1 rfl) ?_
  refine lv_aload_n hx hb dL_law_1242 rfl (lv_at hl 3 rfl) ?_
  refine lv_iload_n hx hb dL_law_1243 rfl (lv_at hl 0 rfl) ?_
  refine lv_iconst (v := 1) hx hb dL_law_1244 (by decide) ?_
  refine lv_iadd hx hb dL_law_1245 ?_
  refine lv_tov 1 (by decide) ?_
  refine va_sld hx hb hX hbl (Nat.not_le.mpr hbl) hS (vp_in_iff.mpr (by decide)) dL_law_1246 ?_
  refine lv_tov (xs 1) rfl ?_
  refine lv_aload_n hx hb dL_law_1247 rfl (lv_at hl 3 rfl) ?_
  refine lv_iload_n hx hb dL_law_1248 rfl (lv_at hl 0 rfl) ?_
  refine lv_iconst (v := 2) hx hb dL_law_1249 (by decide) ?_
  refine lv_iadd hx hb dL_law_1250 ?_
  refine lv_tov 2 (by decide) ?_
  refine va_sld hx hb hX hbl (Nat.not_le.mpr hbl) hS (vp_in_iff.mpr (by decide)) dL_law_1251 ?_
  refine lv_tov (xs 2) rfl ?_
  refine pk_i (va_runV (As := [.int (xs 1), .int (xs 2)]) (rest := [.int r1]) ⟨hx, hb, hml, hown, hts⟩ (c_X12_cellOf l D t τ I2 J2 si sj sq H.size that (xs 1) (xs 2) hL_that hK_that that_a hR_that_a hL_that_a hK_that_a hN_that_a (okF_at hF_384 hR_that_a)) (cwV 2 hts (tw_V tw_1284 tw_1285 tw_1286 tw_5 tw_1287) rfl rfl rfl (by decide +kernel) ⟨Nat.le_of_ble_eq_true rfl, Nat.le_of_ble_eq_true rfl⟩) ⟨pq_blind, pq_recv hK hP2 hL_that hK_that (by decide) rfl, pq_pre hK hN hP2 hD2⟩ rfl rfl hl.1 rfl (lv_room (Nat.le_of_ble_eq_true rfl)) dL_law_1252 ⟨Nat.le_of_ble_eq_true rfl, Nat.le_of_ble_eq_true rfl⟩) hD2 hS hA (fun r2 σ3 μ3 H locs hw2 hP3 hD3 hS => ?_)
  obtain ⟨-, hr2⟩ := hw2
  have he : r1 = r2 := by exact hr1.trans hr2.symm
  refine lv_icmp_eq (tgt := 1725) hx hb dL_law_1255 (by decide) (fun _ => ?_) (fun q => absurd he q)
  exact lw_tail l hx hb hr hlocks hX hbl (by decide) (by decide) hS (lv_sub hl [3, 0] rfl)
set_option maxHeartbeats 8000000 in
set_option maxRecDepth 100000 in
theorem lw_op_26 {p : Program} {e : Env} {s : State} {m : MethodId} {below : List Frame} {meth : Method} {c : Code} {b : Nat} (l : Launch) (hx : p.tables.exec = Jvm.exec) (hb : c.code = cL_law) (hr : meth.sig.returnType = ret) (hml : c.maxLocals = 4) (hown : s.vm.findClass RL = some m.cls) (hlocks : meth.locks = false) (hts : ∀ w ∈ (Cond.initialized RX11 :: wsL_law), w.before #[Value.ref b] s = true) (xs : Nat → Int32) (hX : va_X b 7 xs s s.heap) (hbl : b < s.heap.size) {D : va_G} {t : pq_T} (hK : va_K D vwCl (pq_ty t) s) (hN : pq_N s) {σ τ : pq_S} {I : Nat → Nat → Int32} {J : Nat → Nat → Int64} {ri : Nat → Nat → Int32} {rj : Nat → Nat → Int64} {rq : Nat → Nat → Option Nat} {I2 : Nat → Nat → Int32} {J2 : Nat → Nat → Int64} {si : Nat → Nat → Int32} {sj : Nat → Nat → Int64} {sq : Nat → Nat → Option Nat} {this that : Nat} (hokx : okRingsUnder σ I this) (hL_this : this ∈ σ.1) (hK_this : σ.2.1 this = 11) (hZ : pq_Z I) (hq0 : rq = fun _ _ => none) (hokm : okModel τ I2 si that) (hL_that : that ∈ τ.1) (hK_that : τ.2.1 that = 12) (hdis : ∀ a, a ∈ τ.1 → a ∉ σ.1) {H : Heap} {locs : List Loc} (hP : va_P D vwCl (pq_P t σ (I, J, ri, rj, rq)) H) (hD : va_D (fun q => s.heap.size ≤ q) (pq_P t σ (I, J, ri, rj, rq))) (hP2 : va_P D vwCl (pq_P t τ (I2, J2, si, sj, sq)) H) (hD2 : va_D (fun q => s.heap.size ≤ q) (pq_P t τ (I2, J2, si, sj, sq))) (hS : va_S (fun q => s.heap.size ≤ q) s.heap H locs) {ls : Array Slot} (hl : lv_has ls 4 [(3, .int 0), (2, .ref that), (1, .ref this), (0, .ref b)]) : W p l e room_1 s m #[Value.ref b] below meth c H locs 207 49062 (lw_Z below #[Value.ref b] s) (F0 m 1260 ls []) := by
  have hA : ∀ q : Nat, s.heap.size ≤ q → s.heap.size ≤ q := fun _ h => h
  obtain ⟨y_this_352, y_this_353, y_this_354, y_this_355, y_this_356, hd_this_352_353, hd_this_352_354, hd_this_353_354⟩ := id hokx
  obtain ⟨-, this_now, hR_this_now, hL_this_now, hK_this_now, ho_this_now⟩ := y_this_352
  obtain ⟨y_this_now_325, y_this_now_326, y_this_now_327, y_this_now_328, y_this_now_329, y_this_now_330, y_this_now_331, y_this_now_332, hi_this_now_320, hi_this_now_323, hi_this_now_324⟩ := id ho_this_now
  obtain ⟨-, this_now_folk, hR_this_now_folk, hL_this_now_folk, hK_this_now_folk, ho_this_now_folk⟩ := y_this_now_328
  obtain ⟨y_that_384, y_that_385, y_that_386, y_that_387, y_that_400, y_that_404, y_that_405, y_that_408, y_that_409, y_that_411, y_that_412, y_that_413, y_that_414, hi_that_388, hi_that_389, hi_that_390, hi_that_391, hd_that_384_385, hd_that_384_386, hd_that_384_414, hd_that_386_414, hF_384, hF_385⟩ := id hokm
  obtain ⟨-, that_a, hR_that_a, hL_that_a, hK_that_a, hN_that_a⟩ := y_that_384
  refine lv_aload_n hx hb dL_law_1260 rfl (lv_at hl 2 rfl) ?_
  refine lv_aload_n hx hb dL_law_1261 rfl (lv_at hl 3 rfl) ?_
  refine lv_iload_n hx hb dL_law_1262 rfl (lv_at hl 0 rfl) ?_
  refine lv_iconst (v := 1) hx hb dL_law_1263 (by decide) ?_
  refine lv_iadd hx hb dL_law_1264 ?_
  refine lv_tov 1 (by decide) ?_
  refine va_sld hx hb hX hbl (Nat.not_le.mpr hbl) hS (vp_in_iff.mpr (by decide)) dL_law_1265 ?_
  refine lv_tov (xs 1) rfl ?_
  refine lv_aload_n hx hb dL_law_1266 rfl (lv_at hl 3 rfl) ?_
  refine lv_iload_n hx hb dL_law_1267 rfl (lv_at hl 0 rfl) ?_
  refine lv_iconst (v := 2) hx hb dL_law_1268 (by decide) ?_
  refine lv_iadd hx hb dL_law_1269 ?_
  refine lv_tov 2 (by decide) ?_
  refine va_sld hx hb hX hbl (Nat.not_le.mpr hbl) hS (vp_in_iff.mpr (by decide)) dL_law_1270 ?_
  refine lv_tov (xs 2) rfl ?_
  refine lk_i (va_runV (As := [.int (xs 1), .int (xs 2)]) (rest := []) ⟨hx, hb, hml, hown, hts⟩ (c_X11_personOf l D t σ I J ri rj rq H.size this (xs 1) (xs 2) hL_this hK_this this_now hR_this_now hL_this_now hK_this_now this_now_folk hR_this_now_folk hL_this_now_folk hK_this_now_folk hZ) (cwV 2 hts (tw_V tw_1288 tw_1289 tw_1290 tw_2 tw_1291) rfl rfl rfl (by decide +kernel) ⟨Nat.le_of_ble_eq_true rfl, Nat.le_of_ble_eq_true rfl⟩) ⟨pq_blind, pq_recv hK hP hL_this hK_this (by decide) rfl, pq_pre hK hN hP hD⟩ rfl rfl hl.1 rfl (lv_room (Nat.le_of_ble_eq_true rfl)) dL_law_1271 ⟨Nat.le_of_ble_eq_true rfl, Nat.le_of_ble_eq_true rfl⟩) hD hS hA hP2 hdis (fun r1 u1 H locs hw1 hP2 hS => ?_)
  obtain ⟨-, hr1⟩ := hw1
  refine lv_aload_n hx hb dL_law_1274 rfl (lv_at hl 1 rfl) ?_
  refine lv_aload_n hx hb dL_law_1275 rfl (lv_at hl 3 rfl) ?_
  refine lv_iload_n hx hb dL_law_1276 rfl (lv_at hl 0 rfl) ?_
  refine lv_iconst (v := 1) hx hb dL_law_1277 (by decide) ?_
  refine lv_iadd hx hb dL_law_1278 ?_
  refine lv_tov 1 (by decide) ?_
  refine va_sld hx hb hX hbl (Nat.not_le.mpr hbl) hS (vp_in_iff.mpr (by decide)) dL_law_1279 ?_
  refine lv_tov (xs 1) rfl ?_
  refine lv_aload_n hx hb dL_law_1280 rfl (lv_at hl 3 rfl) ?_
  refine lv_iload_n hx hb dL_law_1281 rfl (lv_at hl 0 rfl) ?_
  refine lv_iconst (v := 2) hx hb dL_law_1282 (by decide) ?_
  refine lv_iadd hx hb dL_law_1283 ?_
  refine lv_tov 2 (by decide) ?_
  refine va_sld hx hb hX hbl (Nat.not_le.mpr hbl) hS (vp_in_iff.mpr (by decide)) dL_law_1284 ?_
  refine lv_tov (xs 2) rfl ?_
  refine pk_i (va_runV (As := [.int (xs 1), .int (xs 2)]) (rest := [.int r1]) ⟨hx, hb, hml, hown, hts⟩ (c_X12_personOf l D t τ I2 J2 si sj sq H.size that (xs 1) (xs 2) hL_that hK_that that_a hR_that_a hL_that_a hK_that_a hN_that_a (okF_at hF_384 hR_that_a)) (cwV 2 hts (tw_V tw_1299 tw_1300 tw_1301 tw_5 tw_1302) rfl rfl rfl (by decide +kernel) ⟨Nat.le_of_ble_eq_true rfl, Nat.le_of_ble_eq_true rfl⟩) ⟨pq_blind, pq_recv hK hP2 hL_that hK_that (by decide) rfl, pq_pre hK hN hP2 hD2⟩ rfl rfl hl.1 rfl (lv_room (Nat.le_of_ble_eq_true rfl)) dL_law_1285 ⟨Nat.le_of_ble_eq_true rfl, Nat.le_of_ble_eq_true rfl⟩) hD2 hS hA (fun r2 σ3 μ3 H locs hw2 hP3 hD3 hS => ?_)
  obtain ⟨-, hr2⟩ := hw2
  have he : r1 = r2 := by exact hr1.trans hr2.symm
  refine lv_icmp_eq (tgt := 1725) hx hb dL_law_1288 (by decide) (fun _ => ?_) (fun q => absurd he q)
  exact lw_tail l hx hb hr hlocks hX hbl (by decide) (by decide) hS (lv_sub hl [3, 0] rfl)
set_option maxHeartbeats 8000000 in
set_option maxRecDepth 100000 in
theorem lw_op_27 {p : Program} {e : Env} {s : State} {m : MethodId} {below : List Frame} {meth : Method} {c : Code} {b : Nat} (l : Launch) (hx : p.tables.exec = Jvm.exec) (hb : c.code = cL_law) (hr : meth.sig.returnType = ret) (hml : c.maxLocals = 4) (hown : s.vm.findClass RL = some m.cls) (hlocks : meth.locks = false) (hts : ∀ w ∈ (Cond.initialized RX11 :: wsL_law), w.before #[Value.ref b] s = true) (xs : Nat → Int32) (hX : va_X b 7 xs s s.heap) (hbl : b < s.heap.size) {D : va_G} {t : pq_T} (hK : va_K D vwCl (pq_ty t) s) (hN : pq_N s) {σ τ : pq_S} {I : Nat → Nat → Int32} {J : Nat → Nat → Int64} {ri : Nat → Nat → Int32} {rj : Nat → Nat → Int64} {rq : Nat → Nat → Option Nat} {I2 : Nat → Nat → Int32} {J2 : Nat → Nat → Int64} {si : Nat → Nat → Int32} {sj : Nat → Nat → Int64} {sq : Nat → Nat → Option Nat} {this that : Nat} (hokx : okRingsUnder σ I this) (hL_this : this ∈ σ.1) (hK_this : σ.2.1 this = 11) (hZ : pq_Z I) (hq0 : rq = fun _ _ => none) (hokm : okModel τ I2 si that) (hL_that : that ∈ τ.1) (hK_that : τ.2.1 that = 12) (hdis : ∀ a, a ∈ τ.1 → a ∉ σ.1) {H : Heap} {locs : List Loc} (hP : va_P D vwCl (pq_P t σ (I, J, ri, rj, rq)) H) (hD : va_D (fun q => s.heap.size ≤ q) (pq_P t σ (I, J, ri, rj, rq))) (hP2 : va_P D vwCl (pq_P t τ (I2, J2, si, sj, sq)) H) (hD2 : va_D (fun q => s.heap.size ≤ q) (pq_P t τ (I2, J2, si, sj, sq))) (hS : va_S (fun q => s.heap.size ≤ q) s.heap H locs) {ls : Array Slot} (hl : lv_has ls 4 [(3, .int 0), (2, .ref that), (1, .ref this), (0, .ref b)]) : W p l e room_1 s m #[Value.ref b] below meth c H locs 207 49062 (lw_Z below #[Value.ref b] s) (F0 m 1293 ls []) := by
  have hA : ∀ q : Nat, s.heap.size ≤ q → s.heap.size ≤ q := fun _ h => h
  obtain ⟨y_this_352, y_this_353, y_this_354, y_this_355, y_this_356, hd_this_352_353, hd_this_352_354, hd_this_353_354⟩ := id hokx
  obtain ⟨-, this_now, hR_this_now, hL_this_now, hK_this_now, ho_this_now⟩ := y_this_352
  obtain ⟨y_this_now_325, y_this_now_326, y_this_now_327, y_this_now_328, y_this_now_329, y_this_now_330, y_this_now_331, y_this_now_332, hi_this_now_320, hi_this_now_323, hi_this_now_324⟩ := id ho_this_now
  obtain ⟨-, this_now_land, hR_this_now_land, hL_this_now_land, hK_this_now_land, ho_this_now_land⟩ := y_this_now_327
  obtain ⟨y_this_now_land_68, y_this_now_land_69, y_this_now_land_70, y_this_now_land_71, y_this_now_land_72, y_this_now_land_73, y_this_now_land_74, y_this_now_land_75, y_this_now_land_76, y_this_now_land_77, y_this_now_land_78, y_this_now_land_79, y_this_now_land_80, y_this_now_land_81, y_this_now_land_82, y_this_now_land_83, hd_this_now_land_82_83⟩ := id ho_this_now_land
  obtain ⟨-, this_now_folk, hR_this_now_folk, hL_this_now_folk, hK_this_now_folk, ho_this_now_folk⟩ := y_this_now_328
  obtain ⟨y_that_384, y_that_385, y_that_386, y_that_387, y_that_400, y_that_404, y_that_405, y_that_408, y_that_409, y_that_411, y_that_412, y_that_413, y_that_414, hi_that_388, hi_that_389, hi_that_390, hi_that_391, hd_that_384_385, hd_that_384_386, hd_that_384_414, hd_that_386_414, hF_384, hF_385⟩ := id hokm
  obtain ⟨-, that_a, hR_that_a, hL_that_a, hK_that_a, hN_that_a⟩ := y_that_384
  refine lv_aload_n hx hb dL_law_1293 rfl (lv_at hl 2 rfl) ?_
  refine lv_aload_n hx hb dL_law_1294 rfl (lv_at hl 3 rfl) ?_
  refine lv_iload_n hx hb dL_law_1295 rfl (lv_at hl 0 rfl) ?_
  refine lv_iconst (v := 1) hx hb dL_law_1296 (by decide) ?_
  refine lv_iadd hx hb dL_law_1297 ?_
  refine lv_tov 1 (by decide) ?_
  refine va_sld hx hb hX hbl (Nat.not_le.mpr hbl) hS (vp_in_iff.mpr (by decide)) dL_law_1298 ?_
  refine lv_tov (xs 1) rfl ?_
  refine lk_i (va_runV (As := [.int (xs 1)]) (rest := []) ⟨hx, hb, hml, hown, hts⟩ (c_X11_at l D t σ I J ri rj rq H.size this (xs 1) hL_this hK_this this_now hR_this_now hL_this_now hK_this_now this_now_land hR_this_now_land hL_this_now_land hK_this_now_land this_now_folk hR_this_now_folk hL_this_now_folk hK_this_now_folk hZ) (cwV 1 hts (tw_V tw_1303 tw_1304 tw_1305 tw_2 tw_1306) rfl rfl rfl (by decide +kernel) ⟨Nat.le_of_ble_eq_true rfl, Nat.le_of_ble_eq_true rfl⟩) ⟨pq_blind, pq_recv hK hP hL_this hK_this (by decide) rfl, pq_pre hK hN hP hD⟩ rfl rfl hl.1 rfl (lv_room (Nat.le_of_ble_eq_true rfl)) dL_law_1299 ⟨Nat.le_of_ble_eq_true rfl, Nat.le_of_ble_eq_true rfl⟩) hD hS hA hP2 hdis (fun r1 u1 H locs hw1 hP2 hS => ?_)
  obtain ⟨-, hr1⟩ := hw1
  refine lv_aload_n hx hb dL_law_1302 rfl (lv_at hl 1 rfl) ?_
  refine lv_aload_n hx hb dL_law_1303 rfl (lv_at hl 3 rfl) ?_
  refine lv_iload_n hx hb dL_law_1304 rfl (lv_at hl 0 rfl) ?_
  refine lv_iconst (v := 1) hx hb dL_law_1305 (by decide) ?_
  refine lv_iadd hx hb dL_law_1306 ?_
  refine lv_tov 1 (by decide) ?_
  refine va_sld hx hb hX hbl (Nat.not_le.mpr hbl) hS (vp_in_iff.mpr (by decide)) dL_law_1307 ?_
  refine lv_tov (xs 1) rfl ?_
  refine pk_i (va_runV (As := [.int (xs 1)]) (rest := [.int r1]) ⟨hx, hb, hml, hown, hts⟩ (c_X12_at l D t τ I2 J2 si sj sq H.size that (xs 1) hL_that hK_that that_a hR_that_a hL_that_a hK_that_a hN_that_a (okF_at hF_384 hR_that_a)) (cwV 1 hts (tw_V tw_1308 tw_1309 tw_1310 tw_5 tw_1311) rfl rfl rfl (by decide +kernel) ⟨Nat.le_of_ble_eq_true rfl, Nat.le_of_ble_eq_true rfl⟩) ⟨pq_blind, pq_recv hK hP2 hL_that hK_that (by decide) rfl, pq_pre hK hN hP2 hD2⟩ rfl rfl hl.1 rfl (lv_room (Nat.le_of_ble_eq_true rfl)) dL_law_1308 ⟨Nat.le_of_ble_eq_true rfl, Nat.le_of_ble_eq_true rfl⟩) hD2 hS hA (fun r2 σ3 μ3 H locs hw2 hP3 hD3 hS => ?_)
  obtain ⟨-, hr2⟩ := hw2
  have he : r1 = r2 := by exact hr1.trans hr2.symm
  refine lv_icmp_eq (tgt := 1725) hx hb dL_law_1311 (by decide) (fun _ => ?_) (fun q => absurd he q)
  exact lw_tail l hx hb hr hlocks hX hbl (by decide) (by decide) hS (lv_sub hl [3, 0] rfl)

