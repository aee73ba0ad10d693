theorem dL_law_755 : decode cL_law 755 = .ok (.aload_n 1, 1) := oc_43 (by decide +kernel)
theorem dL_law_756 : decode cL_law 756 = .ok (.aload_n 0, 1) := oc_42 (by decide +kernel)
theorem dL_law_757 : decode cL_law 757 = .ok (.iload_n 3, 1) := oc_29 (by decide +kernel)
theorem dL_law_758 : decode cL_law 758 = .ok (.iconst 1, 1) := oc_4 (by decide +kernel)
theorem dL_law_759 : decode cL_law 759 = .ok (.iadd, 1) := oc_96 (by decide +kernel)
theorem dL_law_760 : decode cL_law 760 = .ok (.iaload, 1) := oc_46 (by decide +kernel)
theorem dL_law_761 : decode cL_law 761 = .ok (.aload_n 0, 1) := oc_42 (by decide +kernel)
theorem dL_law_762 : decode cL_law 762 = .ok (.iload_n 3, 1) := oc_29 (by decide +kernel)
theorem dL_law_763 : decode cL_law 763 = .ok (.iconst 2, 1) := oc_5 (by decide +kernel)
theorem dL_law_764 : decode cL_law 764 = .ok (.iadd, 1) := oc_96 (by decide +kernel)
theorem dL_law_765 : decode cL_law 765 = .ok (.iaload, 1) := oc_46 (by decide +kernel)
theorem tw_400 : Cond.methodLink RL 68 yX11_go ∈ wsL_law := sg_17 _ (List.mem_of_getElem? (i := 16) rfl)
theorem tw_401 : Cond.instanceMethod yX11_go ∈ wsL_law := sg_17 _ (List.mem_of_getElem? (i := 17) rfl)
theorem tw_402 : Cond.selects RX11 yX11_go yX11_go ∈ wsL_law := sg_17 _ (List.mem_of_getElem? (i := 18) rfl)
theorem tw_403 : Cond.code yX11_go cX11_go 5 (some .boolean) ∈ wsL_law := sg_17 _ (List.mem_of_getElem? (i := 19) rfl)
theorem dL_law_766 : decode cL_law 766 = .ok (.invokevirtual 68, 3) := oc_182 (a := 0) (b := 68) (by decide +kernel)
theorem dL_law_769 : decode cL_law 769 = .ok (.pop, 1) := oc_87 (by decide +kernel)
theorem dL_law_770 : decode cL_law 770 = .ok (.aload_n 2, 1) := oc_44 (by decide +kernel)
theorem dL_law_771 : decode cL_law 771 = .ok (.aload_n 0, 1) := oc_42 (by decide +kernel)
theorem dL_law_772 : decode cL_law 772 = .ok (.iload_n 3, 1) := oc_29 (by decide +kernel)
theorem dL_law_773 : decode cL_law 773 = .ok (.iconst 1, 1) := oc_4 (by decide +kernel)
theorem dL_law_774 : decode cL_law 774 = .ok (.iadd, 1) := oc_96 (by decide +kernel)
theorem dL_law_775 : decode cL_law 775 = .ok (.iaload, 1) := oc_46 (by decide +kernel)
theorem dL_law_776 : decode cL_law 776 = .ok (.aload_n 0, 1) := oc_42 (by decide +kernel)
theorem dL_law_777 : decode cL_law 777 = .ok (.iload_n 3, 1) := oc_29 (by decide +kernel)
theorem dL_law_778 : decode cL_law 778 = .ok (.iconst 2, 1) := oc_5 (by decide +kernel)
theorem dL_law_779 : decode cL_law 779 = .ok (.iadd, 1) := oc_96 (by decide +kernel)
theorem dL_law_780 : decode cL_law 780 = .ok (.iaload, 1) := oc_46 (by decide +kernel)
theorem tw_421 : Cond.methodLink RL 71 yX12_go ∈ wsL_law := sg_18 _ (List.mem_of_getElem? (i := 13) rfl)
theorem tw_422 : Cond.instanceMethod yX12_go ∈ wsL_law := sg_18 _ (List.mem_of_getElem? (i := 14) rfl)
theorem tw_423 : Cond.selects RX12 yX12_go yX12_go ∈ wsL_law := sg_18 _ (List.mem_of_getElem? (i := 15) rfl)
theorem tw_424 : Cond.code yX12_go cX12_go 3 (some .boolean) ∈ wsL_law := sg_18 _ (List.mem_of_getElem? (i := 16) rfl)
theorem dL_law_781 : decode cL_law 781 = .ok (.invokevirtual 71, 3) := oc_182 (a := 0) (b := 71) (by decide +kernel)
theorem dL_law_784 : decode cL_law 784 = .ok (.pop, 1) := oc_87 (by decide +kernel)
theorem dL_law_785 : decode cL_law 785 = .ok (.goto 940, 3) := oc_167 (a := 3) (b := 172) (by decide +kernel)
theorem dL_law_788 : decode cL_law 788 = .ok (.aload_n 1, 1) := oc_43 (by decide +kernel)
theorem dL_law_789 : decode cL_law 789 = .ok (.aload_n 0, 1) := oc_42 (by decide +kernel)
theorem dL_law_790 : decode cL_law 790 = .ok (.iload_n 3, 1) := oc_29 (by decide +kernel)
theorem dL_law_791 : decode cL_law 791 = .ok (.iconst 1, 1) := oc_4 (by decide +kernel)
theorem dL_law_792 : decode cL_law 792 = .ok (.iadd, 1) := oc_96 (by decide +kernel)
theorem dL_law_793 : decode cL_law 793 = .ok (.iaload, 1) := oc_46 (by decide +kernel)
theorem tw_449 : Cond.methodLink RL 72 yX11_death ∈ wsL_law := sg_19 _ (List.mem_of_getElem? (i := 17) rfl)
theorem tw_450 : Cond.instanceMethod yX11_death ∈ wsL_law := sg_19 _ (List.mem_of_getElem? (i := 18) rfl)
theorem tw_451 : Cond.selects RX11 yX11_death yX11_death ∈ wsL_law := sg_19 _ (List.mem_of_getElem? (i := 19) rfl)
theorem tw_452 : Cond.code yX11_death cX11_death 2 (some .int) ∈ wsL_law := sg_19 _ (List.mem_of_getElem? (i := 20) rfl)
theorem dL_law_794 : decode cL_law 794 = .ok (.invokevirtual 72, 3) := oc_182 (a := 0) (b := 72) (by decide +kernel)
theorem dL_law_797 : decode cL_law 797 = .ok (.pop, 1) := oc_87 (by decide +kernel)
theorem dL_law_798 : decode cL_law 798 = .ok (.aload_n 2, 1) := oc_44 (by decide +kernel)
theorem dL_law_799 : decode cL_law 799 = .ok (.aload_n 0, 1) := oc_42 (by decide +kernel)
theorem dL_law_800 : decode cL_law 800 = .ok (.iload_n 3, 1) := oc_29 (by decide +kernel)
theorem dL_law_801 : decode cL_law 801 = .ok (.iconst 1, 1) := oc_4 (by decide +kernel)
theorem dL_law_802 : decode cL_law 802 = .ok (.iadd, 1) := oc_96 (by decide +kernel)
theorem dL_law_803 : decode cL_law 803 = .ok (.iaload, 1) := oc_46 (by decide +kernel)
theorem tw_499 : Cond.methodLink RL 75 yX12_death ∈ wsL_law := sg_21 _ (List.mem_of_getElem? (i := 19) rfl)
theorem tw_500 : Cond.instanceMethod yX12_death ∈ wsL_law := sg_21 _ (List.mem_of_getElem? (i := 20) rfl)
theorem tw_501 : Cond.selects RX12 yX12_death yX12_death ∈ wsL_law := sg_21 _ (List.mem_of_getElem? (i := 21) rfl)
theorem tw_502 : Cond.code yX12_death cX12_death 6 (some .int) ∈ wsL_law := sg_21 _ (List.mem_of_getElem? (i := 22) rfl)
theorem dL_law_804 : decode cL_law 804 = .ok (.invokevirtual 75, 3) := oc_182 (a := 0) (b := 75) (by decide +kernel)
theorem dL_law_807 : decode cL_law 807 = .ok (.pop, 1) := oc_87 (by decide +kernel)
theorem dL_law_808 : decode cL_law 808 = .ok (.goto 917, 3) := oc_167 (a := 3) (b := 149) (by decide +kernel)
theorem dL_law_811 : decode cL_law 811 = .ok (.aload_n 1, 1) := oc_43 (by decide +kernel)
theorem dL_law_812 : decode cL_law 812 = .ok (.aload_n 0, 1) := oc_42 (by decide +kernel)
theorem dL_law_813 : decode cL_law 813 = .ok (.iload_n 3, 1) := oc_29 (by decide +kernel)
theorem dL_law_814 : decode cL_law 814 = .ok (.iconst 1, 1) := oc_4 (by decide +kernel)
theorem dL_law_815 : decode cL_law 815 = .ok (.iadd, 1) := oc_96 (by decide +kernel)
theorem dL_law_816 : decode cL_law 816 = .ok (.iaload, 1) := oc_46 (by decide +kernel)
theorem dL_law_817 : decode cL_law 817 = .ok (.aload_n 0, 1) := oc_42 (by decide +kernel)
theorem dL_law_818 : decode cL_law 818 = .ok (.iload_n 3, 1) := oc_29 (by decide +kernel)
theorem dL_law_819 : decode cL_law 819 = .ok (.iconst 2, 1) := oc_5 (by decide +kernel)
theorem dL_law_820 : decode cL_law 820 = .ok (.iadd, 1) := oc_96 (by decide +kernel)
theorem dL_law_821 : decode cL_law 821 = .ok (.iaload, 1) := oc_46 (by decide +kernel)
theorem tw_532 : Cond.methodLink RL 76 yX11_title ∈ wsL_law := sg_23 _ (List.mem_of_getElem? (i := 4) rfl)
theorem tw_533 : Cond.instanceMethod yX11_title ∈ wsL_law := sg_23 _ (List.mem_of_getElem? (i := 5) rfl)
theorem tw_534 : Cond.selects RX11 yX11_title yX11_title ∈ wsL_law := sg_23 _ (List.mem_of_getElem? (i := 6) rfl)
theorem tw_535 : Cond.code yX11_title cX11_title 4 (some .boolean) ∈ wsL_law := sg_23 _ (List.mem_of_getElem? (i := 7) rfl)
theorem dL_law_822 : decode cL_law 822 = .ok (.invokevirtual 76, 3) := oc_182 (a := 0) (b := 76) (by decide +kernel)
theorem dL_law_825 : decode cL_law 825 = .ok (.pop, 1) := oc_87 (by decide +kernel)
theorem dL_law_826 : decode cL_law 826 = .ok (.aload_n 2, 1) := oc_44 (by decide +kernel)
theorem dL_law_827 : decode cL_law 827 = .ok (.aload_n 0, 1) := oc_42 (by decide +kernel)
theorem dL_law_828 : decode cL_law 828 = .ok (.iload_n 3, 1) := oc_29 (by decide +kernel)
theorem dL_law_829 : decode cL_law 829 = .ok (.iconst 1, 1) := oc_4 (by decide +kernel)
theorem dL_law_830 : decode cL_law 830 = .ok (.iadd, 1) := oc_96 (by decide +kernel)
theorem dL_law_831 : decode cL_law 831 = .ok (.iaload, 1) := oc_46 (by decide +kernel)
theorem dL_law_832 : decode cL_law 832 = .ok (.aload_n 0, 1) := oc_42 (by decide +kernel)
theorem dL_law_833 : decode cL_law 833 = .ok (.iload_n 3, 1) := oc_29 (by decide +kernel)
theorem dL_law_834 : decode cL_law 834 = .ok (.iconst 2, 1) := oc_5 (by decide +kernel)
theorem dL_law_835 : decode cL_law 835 = .ok (.iadd, 1) := oc_96 (by decide +kernel)
theorem dL_law_836 : decode cL_law 836 = .ok (.iaload, 1) := oc_46 (by decide +kernel)
theorem tw_537 : Cond.methodLink RL 79 yX12_title ∈ wsL_law := sg_23 _ (List.mem_of_getElem? (i := 9) rfl)
theorem tw_538 : Cond.instanceMethod yX12_title ∈ wsL_law := sg_23 _ (List.mem_of_getElem? (i := 10) rfl)
theorem tw_539 : Cond.selects RX12 yX12_title yX12_title ∈ wsL_law := sg_23 _ (List.mem_of_getElem? (i := 11) rfl)
theorem tw_540 : Cond.code yX12_title cX12_title 3 (some .boolean) ∈ wsL_law := sg_23 _ (List.mem_of_getElem? (i := 12) rfl)
theorem dL_law_837 : decode cL_law 837 = .ok (.invokevirtual 79, 3) := oc_182 (a := 0) (b := 79) (by decide +kernel)
theorem dL_law_840 : decode cL_law 840 = .ok (.pop, 1) := oc_87 (by decide +kernel)
theorem dL_law_841 : decode cL_law 841 = .ok (.goto 884, 3) := oc_167 (a := 3) (b := 116) (by decide +kernel)
theorem dL_law_844 : decode cL_law 844 = .ok (.aload_n 1, 1) := oc_43 (by decide +kernel)
theorem dL_law_845 : decode cL_law 845 = .ok (.aload_n 0, 1) := oc_42 (by decide +kernel)
theorem dL_law_846 : decode cL_law 846 = .ok (.iload_n 3, 1) := oc_29 (by decide +kernel)
theorem dL_law_847 : decode cL_law 847 = .ok (.iconst 1, 1) := oc_4 (by decide +kernel)
theorem dL_law_848 : decode cL_law 848 = .ok (.iadd, 1) := oc_96 (by decide +kernel)
theorem dL_law_849 : decode cL_law 849 = .ok (.iaload, 1) := oc_46 (by decide +kernel)
theorem dL_law_850 : decode cL_law 850 = .ok (.aload_n 0, 1) := oc_42 (by decide +kernel)
theorem dL_law_851 : decode cL_law 851 = .ok (.iload_n 3, 1) := oc_29 (by decide +kernel)
theorem dL_law_852 : decode cL_law 852 = .ok (.iconst 2, 1) := oc_5 (by decide +kernel)
theorem dL_law_853 : decode cL_law 853 = .ok (.iadd, 1) := oc_96 (by decide +kernel)
theorem dL_law_854 : decode cL_law 854 = .ok (.iaload, 1) := oc_46 (by decide +kernel)
theorem tw_541 : Cond.methodLink RL 80 yX11_titleOf ∈ wsL_law := sg_23 _ (List.mem_of_getElem? (i := 13) rfl)
theorem tw_542 : Cond.instanceMethod yX11_titleOf ∈ wsL_law := sg_23 _ (List.mem_of_getElem? (i := 14) rfl)
theorem tw_543 : Cond.selects RX11 yX11_titleOf yX11_titleOf ∈ wsL_law := sg_23 _ (List.mem_of_getElem? (i := 15) rfl)
theorem tw_544 : Cond.code yX11_titleOf cX11_titleOf 3 (some .int) ∈ wsL_law := sg_23 _ (List.mem_of_getElem? (i := 16) rfl)
theorem dL_law_855 : decode cL_law 855 = .ok (.invokevirtual 80, 3) := oc_182 (a := 0) (b := 80) (by decide +kernel)
theorem dL_law_858 : decode cL_law 858 = .ok (.pop, 1) := oc_87 (by decide +kernel)
theorem dL_law_859 : decode cL_law 859 = .ok (.aload_n 2, 1) := oc_44 (by decide +kernel)
theorem dL_law_860 : decode cL_law 860 = .ok (.aload_n 0, 1) := oc_42 (by decide +kernel)
theorem dL_law_861 : decode cL_law 861 = .ok (.iload_n 3, 1) := oc_29 (by decide +kernel)
theorem dL_law_862 : decode cL_law 862 = .ok (.iconst 1, 1) := oc_4 (by decide +kernel)
theorem dL_law_863 : decode cL_law 863 = .ok (.iadd, 1) := oc_96 (by decide +kernel)
theorem dL_law_864 : decode cL_law 864 = .ok (.iaload, 1) := oc_46 (by decide +kernel)
theorem dL_law_865 : decode cL_law 865 = .ok (.aload_n 0, 1) := oc_42 (by decide +kernel)
theorem dL_law_866 : decode cL_law 866 = .ok (.iload_n 3, 1) := oc_29 (by decide +kernel)
theorem dL_law_867 : decode cL_law 867 = .ok (.iconst 2, 1) := oc_5 (by decide +kernel)
theorem dL_law_868 : decode cL_law 868 = .ok (.iadd, 1) := oc_96 (by decide +kernel)
theorem dL_law_869 : decode cL_law 869 = .ok (.iaload, 1) := oc_46 (by decide +kernel)
theorem tw_589 : Cond.methodLink RL 83 yX12_titleOf ∈ wsL_law := sg_25 _ (List.mem_of_getElem? (i := 13) rfl)
theorem tw_590 : Cond.instanceMethod yX12_titleOf ∈ wsL_law := sg_25 _ (List.mem_of_getElem? (i := 14) rfl)
theorem tw_591 : Cond.selects RX12 yX12_titleOf yX12_titleOf ∈ wsL_law := sg_25 _ (List.mem_of_getElem? (i := 15) rfl)
theorem tw_592 : Cond.code yX12_titleOf cX12_titleOf 3 (some .int) ∈ wsL_law := sg_25 _ (List.mem_of_getElem? (i := 16) rfl)
theorem dL_law_870 : decode cL_law 870 = .ok (.invokevirtual 83, 3) := oc_182 (a := 0) (b := 83) (by decide +kernel)
theorem dL_law_873 : decode cL_law 873 = .ok (.pop, 1) := oc_87 (by decide +kernel)
theorem dL_law_874 : decode cL_law 874 = .ok (.goto 851, 3) := oc_167 (a := 3) (b := 83) (by decide +kernel)
theorem dL_law_877 : decode cL_law 877 = .ok (.aload_n 1, 1) := oc_43 (by decide +kernel)
theorem dL_law_878 : decode cL_law 878 = .ok (.aload_n 0, 1) := oc_42 (by decide +kernel)
theorem dL_law_879 : decode cL_law 879 = .ok (.iload_n 3, 1) := oc_29 (by decide +kernel)
theorem dL_law_880 : decode cL_law 880 = .ok (.iconst 1, 1) := oc_4 (by decide +kernel)
theorem dL_law_881 : decode cL_law 881 = .ok (.iadd, 1) := oc_96 (by decide +kernel)
theorem dL_law_882 : decode cL_law 882 = .ok (.iaload, 1) := oc_46 (by decide +kernel)
theorem dL_law_883 : decode cL_law 883 = .ok (.aload_n 0, 1) := oc_42 (by decide +kernel)
theorem dL_law_884 : decode cL_law 884 = .ok (.iload_n 3, 1) := oc_29 (by decide +kernel)
theorem dL_law_885 : decode cL_law 885 = .ok (.iconst 2, 1) := oc_5 (by decide +kernel)
theorem dL_law_886 : decode cL_law 886 = .ok (.iadd, 1) := oc_96 (by decide +kernel)
theorem dL_law_887 : decode cL_law 887 = .ok (.iaload, 1) := oc_46 (by decide +kernel)
theorem dL_law_888 : decode cL_law 888 = .ok (.aload_n 0, 1) := oc_42 (by decide +kernel)
theorem dL_law_889 : decode cL_law 889 = .ok (.iload_n 3, 1) := oc_29 (by decide +kernel)
theorem dL_law_890 : decode cL_law 890 = .ok (.iconst 3, 1) := oc_6 (by decide +kernel)
theorem dL_law_891 : decode cL_law 891 = .ok (.iadd, 1) := oc_96 (by decide +kernel)
theorem dL_law_892 : decode cL_law 892 = .ok (.iaload, 1) := oc_46 (by decide +kernel)
theorem dL_law_893 : decode cL_law 893 = .ok (.aload_n 0, 1) := oc_42 (by decide +kernel)
theorem dL_law_894 : decode cL_law 894 = .ok (.iload_n 3, 1) := oc_29 (by decide +kernel)
theorem dL_law_895 : decode cL_law 895 = .ok (.iconst 4, 1) := oc_7 (by decide +kernel)
theorem dL_law_896 : decode cL_law 896 = .ok (.iadd, 1) := oc_96 (by decide +kernel)
theorem dL_law_897 : decode cL_law 897 = .ok (.iaload, 1) := oc_46 (by decide +kernel)
theorem dL_law_898 : decode cL_law 898 = .ok (.aload_n 0, 1) := oc_42 (by decide +kernel)
theorem dL_law_899 : decode cL_law 899 = .ok (.iload_n 3, 1) := oc_29 (by decide +kernel)
theorem dL_law_900 : decode cL_law 900 = .ok (.iconst 5, 1) := oc_8 (by decide +kernel)
theorem dL_law_901 : decode cL_law 901 = .ok (.iadd, 1) := oc_96 (by decide +kernel)
theorem dL_law_902 : decode cL_law 902 = .ok (.iaload, 1) := oc_46 (by decide +kernel)
theorem tw_616 : Cond.methodLink RL 84 yX11_feed ∈ wsL_law := sg_26 _ (List.mem_of_getElem? (i := 16) rfl)
theorem tw_617 : Cond.instanceMethod yX11_feed ∈ wsL_law := sg_26 _ (List.mem_of_getElem? (i := 17) rfl)
theorem tw_618 : Cond.selects RX11 yX11_feed yX11_feed ∈ wsL_law := sg_26 _ (List.mem_of_getElem? (i := 18) rfl)
theorem tw_619 : Cond.code yX11_feed cX11_feed 7 (some .int) ∈ wsL_law := sg_26 _ (List.mem_of_getElem? (i := 19) rfl)
theorem dL_law_903 : decode cL_law 903 = .ok (.invokevirtual 84, 3) := oc_182 (a := 0) (b := 84) (by decide +kernel)
theorem dL_law_906 : decode cL_law 906 = .ok (.pop, 1) := oc_87 (by decide +kernel)
theorem dL_law_907 : decode cL_law 907 = .ok (.aload_n 2, 1) := oc_44 (by decide +kernel)
theorem dL_law_908 : decode cL_law 908 = .ok (.aload_n 0, 1) := oc_42 (by decide +kernel)
theorem dL_law_909 : decode cL_law 909 = .ok (.iload_n 3, 1) := oc_29 (by decide +kernel)
theorem dL_law_910 : decode cL_law 910 = .ok (.iconst 1, 1) := oc_4 (by decide +kernel)
theorem dL_law_911 : decode cL_law 911 = .ok (.iadd, 1) := oc_96 (by decide +kernel)
theorem dL_law_912 : decode cL_law 912 = .ok (.iaload, 1) := oc_46 (by decide +kernel)
theorem dL_law_913 : decode cL_law 913 = .ok (.aload_n 0, 1) := oc_42 (by decide +kernel)
theorem dL_law_914 : decode cL_law 914 = .ok (.iload_n 3, 1) := oc_29 (by decide +kernel)
theorem dL_law_915 : decode cL_law 915 = .ok (.iconst 2, 1) := oc_5 (by decide +kernel)
theorem dL_law_916 : decode cL_law 916 = .ok (.iadd, 1) := oc_96 (by decide +kernel)
theorem dL_law_917 : decode cL_law 917 = .ok (.iaload, 1) := oc_46 (by decide +kernel)
theorem dL_law_918 : decode cL_law 918 = .ok (.aload_n 0, 1) := oc_42 (by decide +kernel)
theorem dL_law_919 : decode cL_law 919 = .ok (.iload_n 3, 1) := oc_29 (by decide +kernel)
theorem dL_law_920 : decode cL_law 920 = .ok (.iconst 3, 1) := oc_6 (by decide +kernel)
theorem dL_law_921 : decode cL_law 921 = .ok (.iadd, 1) := oc_96 (by decide +kernel)
theorem dL_law_922 : decode cL_law 922 = .ok (.iaload, 1) := oc_46 (by decide +kernel)
theorem dL_law_923 : decode cL_law 923 = .ok (.aload_n 0, 1) := oc_42 (by decide +kernel)
theorem dL_law_924 : decode cL_law 924 = .ok (.iload_n 3, 1) := oc_29 (by decide +kernel)
theorem dL_law_925 : decode cL_law 925 = .ok (.iconst 4, 1) := oc_7 (by decide +kernel)
theorem dL_law_926 : decode cL_law 926 = .ok (.iadd, 1) := oc_96 (by decide +kernel)
theorem dL_law_927 : decode cL_law 927 = .ok (.iaload, 1) := oc_46 (by decide +kernel)
theorem dL_law_928 : decode cL_law 928 = .ok (.aload_n 0, 1) := oc_42 (by decide +kernel)
theorem dL_law_929 : decode cL_law 929 = .ok (.iload_n 3, 1) := oc_29 (by decide +kernel)
theorem dL_law_930 : decode cL_law 930 = .ok (.iconst 5, 1) := oc_8 (by decide +kernel)
theorem dL_law_931 : decode cL_law 931 = .ok (.iadd, 1) := oc_96 (by decide +kernel)
theorem dL_law_932 : decode cL_law 932 = .ok (.iaload, 1) := oc_46 (by decide +kernel)
theorem tw_627 : Cond.methodLink RL 87 yX12_feed ∈ wsL_law := sg_27 _ (List.mem_of_getElem? (i := 3) rfl)
theorem tw_628 : Cond.instanceMethod yX12_feed ∈ wsL_law := sg_27 _ (List.mem_of_getElem? (i := 4) rfl)
theorem tw_629 : Cond.selects RX12 yX12_feed yX12_feed ∈ wsL_law := sg_27 _ (List.mem_of_getElem? (i := 5) rfl)
theorem tw_630 : Cond.code yX12_feed cX12_feed 6 (some .int) ∈ wsL_law := sg_27 _ (List.mem_of_getElem? (i := 6) rfl)
theorem dL_law_933 : decode cL_law 933 = .ok (.invokevirtual 87, 3) := oc_182 (a := 0) (b := 87) (by decide +kernel)
theorem dL_law_936 : decode cL_law 936 = .ok (.pop, 1) := oc_87 (by decide +kernel)
theorem dL_law_937 : decode cL_law 937 = .ok (.goto 788, 3) := oc_167 (a := 3) (b := 20) (by decide +kernel)
theorem dL_law_940 : decode cL_law 940 = .ok (.aload_n 1, 1) := oc_43 (by decide +kernel)
theorem dL_law_941 : decode cL_law 941 = .ok (.aload_n 0, 1) := oc_42 (by decide +kernel)
theorem dL_law_942 : decode cL_law 942 = .ok (.iload_n 3, 1) := oc_29 (by decide +kernel)
theorem dL_law_943 : decode cL_law 943 = .ok (.iconst 1, 1) := oc_4 (by decide +kernel)
theorem dL_law_944 : decode cL_law 944 = .ok (.iadd, 1) := oc_96 (by decide +kernel)
theorem dL_law_945 : decode cL_law 945 = .ok (.iaload, 1) := oc_46 (by decide +kernel)
theorem tw_636 : Cond.methodLink RL 88 yX11_end ∈ wsL_law := sg_27 _ (List.mem_of_getElem? (i := 12) rfl)
theorem tw_637 : Cond.instanceMethod yX11_end ∈ wsL_law := sg_27 _ (List.mem_of_getElem? (i := 13) rfl)
theorem tw_638 : Cond.selects RX11 yX11_end yX11_end ∈ wsL_law := sg_27 _ (List.mem_of_getElem? (i := 14) rfl)
theorem tw_639 : Cond.code yX11_end cX11_end 2 (some .int) ∈ wsL_law := sg_27 _ (List.mem_of_getElem? (i := 15) rfl)
theorem dL_law_946 : decode cL_law 946 = .ok (.invokevirtual 88, 3) := oc_182 (a := 0) (b := 88) (by decide +kernel)
theorem dL_law_949 : decode cL_law 949 = .ok (.pop, 1) := oc_87 (by decide +kernel)
theorem dL_law_950 : decode cL_law 950 = .ok (.aload_n 2, 1) := oc_44 (by decide +kernel)
theorem dL_law_951 : decode cL_law 951 = .ok (.aload_n 0, 1) := oc_42 (by decide +kernel)
theorem dL_law_952 : decode cL_law 952 = .ok (.iload_n 3, 1) := oc_29 (by decide +kernel)
theorem dL_law_953 : decode cL_law 953 = .ok (.iconst 1, 1) := oc_4 (by decide +kernel)
theorem dL_law_954 : decode cL_law 954 = .ok (.iadd, 1) := oc_96 (by decide +kernel)
theorem dL_law_955 : decode cL_law 955 = .ok (.iaload, 1) := oc_46 (by decide +kernel)
theorem tw_640 : Cond.methodLink RL 91 yX12_end ∈ wsL_law := sg_27 _ (List.mem_of_getElem? (i := 16) rfl)
theorem tw_641 : Cond.instanceMethod yX12_end ∈ wsL_law := sg_27 _ (List.mem_of_getElem? (i := 17) rfl)
theorem tw_642 : Cond.selects RX12 yX12_end yX12_end ∈ wsL_law := sg_27 _ (List.mem_of_getElem? (i := 18) rfl)
theorem tw_643 : Cond.code yX12_end cX12_end 2 (some .int) ∈ wsL_law := sg_27 _ (List.mem_of_getElem? (i := 19) rfl)
theorem dL_law_956 : decode cL_law 956 = .ok (.invokevirtual 91, 3) := oc_182 (a := 0) (b := 91) (by decide +kernel)
theorem dL_law_959 : decode cL_law 959 = .ok (.pop, 1) := oc_87 (by decide +kernel)
theorem dL_law_960 : decode cL_law 960 = .ok (.goto 765, 3) := oc_167 (a := 2) (b := 253) (by decide +kernel)
theorem dL_law_963 : decode cL_law 963 = .ok (.aload_n 1, 1) := oc_43 (by decide +kernel)
theorem tw_644 : Cond.methodLink RL 92 yX11_text ∈ wsL_law := sg_27 _ (List.mem_of_getElem? (i := 20) rfl)
theorem tw_645 : Cond.instanceMethod yX11_text ∈ wsL_law := sg_27 _ (List.mem_of_getElem? (i := 21) rfl)
theorem tw_646 : Cond.selects RX11 yX11_text yX11_text ∈ wsL_law := sg_27 _ (List.mem_of_getElem? (i := 22) rfl)
theorem tw_647 : Cond.code yX11_text cX11_text 3 (some .int) ∈ wsL_law := sg_27 _ (List.mem_of_getElem? (i := 23) rfl)
theorem dL_law_964 : decode cL_law 964 = .ok (.invokevirtual 92, 3) := oc_182 (a := 0) (b := 92) (by decide +kernel)
theorem dL_law_967 : decode cL_law 967 = .ok (.pop, 1) := oc_87 (by decide +kernel)
theorem dL_law_968 : decode cL_law 968 = .ok (.aload_n 2, 1) := oc_44 (by decide +kernel)
theorem tw_816 : Cond.methodLink RL 95 yX12_text ∈ wsL_law := sg_35 _ (List.mem_of_getElem? (i := 0) rfl)
theorem tw_817 : Cond.instanceMethod yX12_text ∈ wsL_law := sg_35 _ (List.mem_of_getElem? (i := 1) rfl)
theorem tw_818 : Cond.selects RX12 yX12_text yX12_text ∈ wsL_law := sg_35 _ (List.mem_of_getElem? (i := 2) rfl)
theorem tw_819 : Cond.code yX12_text cX12_text 1 (some .int) ∈ wsL_law := sg_35 _ (List.mem_of_getElem? (i := 3) rfl)
theorem dL_law_969 : decode cL_law 969 = .ok (.invokevirtual 95, 3) := oc_182 (a := 0) (b := 95) (by decide +kernel)
theorem dL_law_972 : decode cL_law 972 = .ok (.pop, 1) := oc_87 (by decide +kernel)
theorem dL_law_973 : decode cL_law 973 = .ok (.goto 752, 3) := oc_167 (a := 2) (b := 240) (by decide +kernel)
theorem dL_law_976 : decode cL_law 976 = .ok (.aload_n 1, 1) := oc_43 (by decide +kernel)
theorem dL_law_977 : decode cL_law 977 = .ok (.aload_n 0, 1) := oc_42 (by decide +kernel)
theorem dL_law_978 : decode cL_law 978 = .ok (.iload_n 3, 1) := oc_29 (by decide +kernel)
theorem dL_law_979 : decode cL_law 979 = .ok (.iconst 1, 1) := oc_4 (by decide +kernel)
theorem dL_law_980 : decode cL_law 980 = .ok (.iadd, 1) := oc_96 (by decide +kernel)
theorem dL_law_981 : decode cL_law 981 = .ok (.iaload, 1) := oc_46 (by decide +kernel)
theorem tw_937 : Cond.methodLink RL 96 yX11_fault ∈ wsL_law := sg_40 _ (List.mem_of_getElem? (i := 1) rfl)
theorem tw_938 : Cond.instanceMethod yX11_fault ∈ wsL_law := sg_40 _ (List.mem_of_getElem? (i := 2) rfl)
theorem tw_939 : Cond.selects RX11 yX11_fault yX11_fault ∈ wsL_law := sg_40 _ (List.mem_of_getElem? (i := 3) rfl)
theorem tw_940 : Cond.code yX11_fault cX11_fault 2 (some .int) ∈ wsL_law := sg_40 _ (List.mem_of_getElem? (i := 4) rfl)
theorem dL_law_982 : decode cL_law 982 = .ok (.invokevirtual 96, 3) := oc_182 (a := 0) (b := 96) (by decide +kernel)
theorem dL_law_985 : decode cL_law 985 = .ok (.pop, 1) := oc_87 (by decide +kernel)
theorem dL_law_986 : decode cL_law 986 = .ok (.aload_n 2, 1) := oc_44 (by decide +kernel)
theorem dL_law_987 : decode cL_law 987 = .ok (.aload_n 0, 1) := oc_42 (by decide +kernel)
theorem dL_law_988 : decode cL_law 988 = .ok (.iload_n 3, 1) := oc_29 (by decide +kernel)
theorem dL_law_989 : decode cL_law 989 = .ok (.iconst 1, 1) := oc_4 (by decide +kernel)
theorem dL_law_990 : decode cL_law 990 = .ok (.iadd, 1) := oc_96 (by decide +kernel)
theorem dL_law_991 : decode cL_law 991 = .ok (.iaload, 1) := oc_46 (by decide +kernel)
theorem tw_942 : Cond.methodLink RL 99 yX12_fault ∈ wsL_law := sg_40 _ (List.mem_of_getElem? (i := 6) rfl)
theorem tw_943 : Cond.instanceMethod yX12_fault ∈ wsL_law := sg_40 _ (List.mem_of_getElem? (i := 7) rfl)
theorem tw_944 : Cond.selects RX12 yX12_fault yX12_fault ∈ wsL_law := sg_40 _ (List.mem_of_getElem? (i := 8) rfl)
theorem tw_945 : Cond.code yX12_fault cX12_fault 2 (some .int) ∈ wsL_law := sg_40 _ (List.mem_of_getElem? (i := 9) rfl)
theorem dL_law_992 : decode cL_law 992 = .ok (.invokevirtual 99, 3) := oc_182 (a := 0) (b := 99) (by decide +kernel)
theorem dL_law_995 : decode cL_law 995 = .ok (.pop, 1) := oc_87 (by decide +kernel)
theorem dL_law_996 : decode cL_law 996 = .ok (.goto 729, 3) := oc_167 (a := 2) (b := 217) (by decide +kernel)
theorem dL_law_999 : decode cL_law 999 = .ok (.aload_n 1, 1) := oc_43 (by decide +kernel)
theorem dL_law_1000 : decode cL_law 1000 = .ok (.aload_n 0, 1) := oc_42 (by decide +kernel)
theorem dL_law_1001 : decode cL_law 1001 = .ok (.iload_n 3, 1) := oc_29 (by decide +kernel)
theorem dL_law_1002 : decode cL_law 1002 = .ok (.iconst 1, 1) := oc_4 (by decide +kernel)
theorem dL_law_1003 : decode cL_law 1003 = .ok (.iadd, 1) := oc_96 (by decide +kernel)
theorem dL_law_1004 : decode cL_law 1004 = .ok (.iaload, 1) := oc_46 (by decide +kernel)
theorem dL_law_1005 : decode cL_law 1005 = .ok (.aload_n 0, 1) := oc_42 (by decide +kernel)
theorem dL_law_1006 : decode cL_law 1006 = .ok (.iload_n 3, 1) := oc_29 (by decide +kernel)
theorem dL_law_1007 : decode cL_law 1007 = .ok (.iconst 2, 1) := oc_5 (by decide +kernel)
theorem dL_law_1008 : decode cL_law 1008 = .ok (.iadd, 1) := oc_96 (by decide +kernel)
theorem dL_law_1009 : decode cL_law 1009 = .ok (.iaload, 1) := oc_46 (by decide +kernel)
theorem dL_law_1010 : decode cL_law 1010 = .ok (.aload_n 0, 1) := oc_42 (by decide +kernel)
theorem dL_law_1011 : decode cL_law 1011 = .ok (.iload_n 3, 1) := oc_29 (by decide +kernel)
theorem dL_law_1012 : decode cL_law 1012 = .ok (.iconst 3, 1) := oc_6 (by decide +kernel)
theorem dL_law_1013 : decode cL_law 1013 = .ok (.iadd, 1) := oc_96 (by decide +kernel)
theorem dL_law_1014 : decode cL_law 1014 = .ok (.iaload, 1) := oc_46 (by decide +kernel)
theorem tw_946 : Cond.methodLink RL 100 yX11_force ∈ wsL_law := sg_40 _ (List.mem_of_getElem? (i := 10) rfl)
theorem tw_947 : Cond.instanceMethod yX11_force ∈ wsL_law := sg_40 _ (List.mem_of_getElem? (i := 11) rfl)
theorem tw_948 : Cond.selects RX11 yX11_force yX11_force ∈ wsL_law := sg_40 _ (List.mem_of_getElem? (i := 12) rfl)
theorem tw_949 : Cond.code yX11_force cX11_force 6 (some .int) ∈ wsL_law := sg_40 _ (List.mem_of_getElem? (i := 13) rfl)
theorem dL_law_1015 : decode cL_law 1015 = .ok (.invokevirtual 100, 3) := oc_182 (a := 0) (b := 100) (by decide +kernel)
theorem dL_law_1018 : decode cL_law 1018 = .ok (.pop, 1) := oc_87 (by decide +kernel)
theorem dL_law_1019 : decode cL_law 1019 = .ok (.aload_n 2, 1) := oc_44 (by decide +kernel)
theorem dL_law_1020 : decode cL_law 1020 = .ok (.aload_n 0, 1) := oc_42 (by decide +kernel)
theorem dL_law_1021 : decode cL_law 1021 = .ok (.iload_n 3, 1) := oc_29 (by decide +kernel)
theorem dL_law_1022 : decode cL_law 1022 = .ok (.iconst 1, 1) := oc_4 (by decide +kernel)
theorem dL_law_1023 : decode cL_law 1023 = .ok (.iadd, 1) := oc_96 (by decide +kernel)
theorem dL_law_1024 : decode cL_law 1024 = .ok (.iaload, 1) := oc_46 (by decide +kernel)
theorem dL_law_1025 : decode cL_law 1025 = .ok (.aload_n 0, 1) := oc_42 (by decide +kernel)
theorem dL_law_1026 : decode cL_law 1026 = .ok (.iload_n 3, 1) := oc_29 (by decide +kernel)
theorem dL_law_1027 : decode cL_law 1027 = .ok (.iconst 2, 1) := oc_5 (by decide +kernel)
theorem dL_law_1028 : decode cL_law 1028 = .ok (.iadd, 1) := oc_96 (by decide +kernel)
theorem dL_law_1029 : decode cL_law 1029 = .ok (.iaload, 1) := oc_46 (by decide +kernel)
theorem dL_law_1030 : decode cL_law 1030 = .ok (.aload_n 0, 1) := oc_42 (by decide +kernel)
theorem dL_law_1031 : decode cL_law 1031 = .ok (.iload_n 3, 1) := oc_29 (by decide +kernel)
theorem dL_law_1032 : decode cL_law 1032 = .ok (.iconst 3, 1) := oc_6 (by decide +kernel)
theorem dL_law_1033 : decode cL_law 1033 = .ok (.iadd, 1) := oc_96 (by decide +kernel)
theorem dL_law_1034 : decode cL_law 1034 = .ok (.iaload, 1) := oc_46 (by decide +kernel)
theorem tw_955 : Cond.methodLink RL 103 yX12_force ∈ wsL_law := sg_40 _ (List.mem_of_getElem? (i := 19) rfl)
theorem tw_956 : Cond.instanceMethod yX12_force ∈ wsL_law := sg_40 _ (List.mem_of_getElem? (i := 20) rfl)
theorem tw_957 : Cond.selects RX12 yX12_force yX12_force ∈ wsL_law := sg_40 _ (List.mem_of_getElem? (i := 21) rfl)
theorem tw_958 : Cond.code yX12_force cX12_force 5 (some .int) ∈ wsL_law := sg_40 _ (List.mem_of_getElem? (i := 22) rfl)
theorem dL_law_1035 : decode cL_law 1035 = .ok (.invokevirtual 103, 3) := oc_182 (a := 0) (b := 103) (by decide +kernel)
theorem dL_law_1038 : decode cL_law 1038 = .ok (.pop, 1) := oc_87 (by decide +kernel)
theorem dL_law_1039 : decode cL_law 1039 = .ok (.goto 686, 3) := oc_167 (a := 2) (b := 174) (by decide +kernel)
theorem dL_law_1042 : decode cL_law 1042 = .ok (.aload_n 1, 1) := oc_43 (by decide +kernel)
theorem dL_law_1043 : decode cL_law 1043 = .ok (.aload_n 0, 1) := oc_42 (by decide +kernel)
theorem dL_law_1044 : decode cL_law 1044 = .ok (.iload_n 3, 1) := oc_29 (by decide +kernel)
theorem dL_law_1045 : decode cL_law 1045 = .ok (.iconst 1, 1) := oc_4 (by decide +kernel)
theorem dL_law_1046 : decode cL_law 1046 = .ok (.iadd, 1) := oc_96 (by decide +kernel)
theorem dL_law_1047 : decode cL_law 1047 = .ok (.iaload, 1) := oc_46 (by decide +kernel)
theorem dL_law_1048 : decode cL_law 1048 = .ok (.aload_n 0, 1) := oc_42 (by decide +kernel)
theorem dL_law_1049 : decode cL_law 1049 = .ok (.iload_n 3, 1) := oc_29 (by decide +kernel)
theorem dL_law_1050 : decode cL_law 1050 = .ok (.iconst 2, 1) := oc_5 (by decide +kernel)
theorem dL_law_1051 : decode cL_law 1051 = .ok (.iadd, 1) := oc_96 (by decide +kernel)
theorem dL_law_1052 : decode cL_law 1052 = .ok (.iaload, 1) := oc_46 (by decide +kernel)
theorem dL_law_1053 : decode cL_law 1053 = .ok (.aload_n 0, 1) := oc_42 (by decide +kernel)
theorem dL_law_1054 : decode cL_law 1054 = .ok (.iload_n 3, 1) := oc_29 (by decide +kernel)
theorem dL_law_1055 : decode cL_law 1055 = .ok (.iconst 3, 1) := oc_6 (by decide +kernel)
theorem dL_law_1056 : decode cL_law 1056 = .ok (.iadd, 1) := oc_96 (by decide +kernel)
theorem dL_law_1057 : decode cL_law 1057 = .ok (.iaload, 1) := oc_46 (by decide +kernel)
theorem tw_959 : Cond.methodLink RL 104 yX11_is ∈ wsL_law := sg_40 _ (List.mem_of_getElem? (i := 23) rfl)
theorem tw_960 : Cond.instanceMethod yX11_is ∈ wsL_law := sg_41 _ (List.mem_of_getElem? (i := 0) rfl)
theorem tw_961 : Cond.selects RX11 yX11_is yX11_is ∈ wsL_law := sg_41 _ (List.mem_of_getElem? (i := 1) rfl)
theorem tw_962 : Cond.code yX11_is cX11_is 4 (some .int) ∈ wsL_law := sg_41 _ (List.mem_of_getElem? (i := 2) rfl)
theorem dL_law_1058 : decode cL_law 1058 = .ok (.invokevirtual 104, 3) := oc_182 (a := 0) (b := 104) (by decide +kernel)
theorem dL_law_1061 : decode cL_law 1061 = .ok (.pop, 1) := oc_87 (by decide +kernel)
theorem dL_law_1062 : decode cL_law 1062 = .ok (.aload_n 2, 1) := oc_44 (by decide +kernel)
theorem dL_law_1063 : decode cL_law 1063 = .ok (.aload_n 0, 1) := oc_42 (by decide +kernel)
theorem dL_law_1064 : decode cL_law 1064 = .ok (.iload_n 3, 1) := oc_29 (by decide +kernel)
theorem dL_law_1065 : decode cL_law 1065 = .ok (.iconst 1, 1) := oc_4 (by decide +kernel)
theorem dL_law_1066 : decode cL_law 1066 = .ok (.iadd, 1) := oc_96 (by decide +kernel)
theorem dL_law_1067 : decode cL_law 1067 = .ok (.iaload, 1) := oc_46 (by decide +kernel)
theorem dL_law_1068 : decode cL_law 1068 = .ok (.aload_n 0, 1) := oc_42 (by decide +kernel)
theorem dL_law_1069 : decode cL_law 1069 = .ok (.iload_n 3, 1) := oc_29 (by decide +kernel)
theorem dL_law_1070 : decode cL_law 1070 = .ok (.iconst 2, 1) := oc_5 (by decide +kernel)
theorem dL_law_1071 : decode cL_law 1071 = .ok (.iadd, 1) := oc_96 (by decide +kernel)
theorem dL_law_1072 : decode cL_law 1072 = .ok (.iaload, 1) := oc_46 (by decide +kernel)
theorem dL_law_1073 : decode cL_law 1073 = .ok (.aload_n 0, 1) := oc_42 (by decide +kernel)
theorem dL_law_1074 : decode cL_law 1074 = .ok (.iload_n 3, 1) := oc_29 (by decide +kernel)
theorem dL_law_1075 : decode cL_law 1075 = .ok (.iconst 3, 1) := oc_6 (by decide +kernel)
theorem dL_law_1076 : decode cL_law 1076 = .ok (.iadd, 1) := oc_96 (by decide +kernel)
theorem dL_law_1077 : decode cL_law 1077 = .ok (.iaload, 1) := oc_46 (by decide +kernel)
theorem tw_967 : Cond.methodLink RL 107 yX12_is ∈ wsL_law := sg_41 _ (List.mem_of_getElem? (i := 7) rfl)
theorem tw_968 : Cond.instanceMethod yX12_is ∈ wsL_law := sg_41 _ (List.mem_of_getElem? (i := 8) rfl)
theorem tw_969 : Cond.selects RX12 yX12_is yX12_is ∈ wsL_law := sg_41 _ (List.mem_of_getElem? (i := 9) rfl)
theorem tw_970 : Cond.code yX12_is cX12_is 4 (some .int) ∈ wsL_law := sg_41 _ (List.mem_of_getElem? (i := 10) rfl)
theorem dL_law_1078 : decode cL_law 1078 = .ok (.invokevirtual 107, 3) := oc_182 (a := 0) (b := 107) (by decide +kernel)
theorem dL_law_1081 : decode cL_law 1081 = .ok (.pop, 1) := oc_87 (by decide +kernel)
theorem dL_law_1082 : decode cL_law 1082 = .ok (.goto 643, 3) := oc_167 (a := 2) (b := 131) (by decide +kernel)
set_option maxHeartbeats 8000000 in
set_option maxRecDepth 100000 in
theorem lw_op_11 {p : Program} {e : Env} {s : State} {m : MethodId} {below : List Frame} {meth : Method} {c : Code} {b : Nat} (l : Launch) (hx : p.tables.exec = Jvm.exec) (hb : c.code = cL_law) (hr : meth.sig.returnType = ret) (hml : c.maxLocals = 4) (hown : s.vm.findClass RL = some m.cls) (hlocks : meth.locks = false) (hts : ∀ w ∈ (Cond.initialized RX11 :: wsL_law), w.before #[Value.ref b] s = true) {L : Nat} (xs : Nat → Int32) (hX : va_X b L xs s s.heap) (hbl : b < s.heap.size) (hM : L ≤ 3584) {D : va_G} {t : pq_T} (hK : va_K D vwCl (pq_ty t) s) (hN : pq_N s) {aK aV : Nat} {vF : Value} (hW0 : pq_W aK aV vF (fun q => s.heap.size ≤ q) s s.heap) {this that : Nat} {n : Nat} {x3 : Int32} (h3 : x3.toInt = 7 * (n : Int)) (hL : 7 * n + 7 ≤ L) {H : Heap} {locs : List Loc} {cells slots : Nat} (hc2 : cells + 4 ≤ room_1.cells) (hs2 : slots + 345 ≤ room_1.slots) (hI : LI s D t this that H locs) {ls : Array Slot} (hl : lv_has ls 4 [(3, .int x3), (2, .ref that), (1, .ref this), (0, .ref b)]) {Q : State → Prop} (kk : ∀ (cells2 slots2 : Nat) (H : Heap) (locs : List Loc) (ls : Array Slot), cells2 ≤ cells + 4 → slots2 ≤ slots + 345 → LI s D t this that H locs → lv_has ls 4 [(3, .int x3), (2, .ref that), (1, .ref this), (0, .ref b)] → W p l e room_1 s m #[Value.ref b] below meth c H locs cells2 slots2 Q (F0 m 1725 ls [])) : W p l e room_1 s m #[Value.ref b] below meth c H locs cells slots Q (F0 m 755 ls []) := by
  have hA : ∀ q : Nat, s.heap.size ≤ q → s.heap.size ≤ q := fun _ h => h
  obtain ⟨σ, I, J, ri, rj, rq, tg, τ, I2, J2, si, sj, sq, tg2, nw, kp, tr, rd, ⟨hP, hD, hSH, hG, hFI, hL_this, hK_this⟩, ⟨hP2, hD2, hSH2, hG2, hL_that, hK_that⟩, hdis, hTR, hAP, hRN, hRK, hGN, hGK, hDN, hDK, hRDo, hRD, hTN, hTK, hS⟩ := hI
  have hG00 := hG
  have hG20 := hG2
  have hR_rd := hRDo.1
  have hL_rd := hRDo.2.1
  have hK_rd := hRDo.2.2
  obtain ⟨⟨hR_nw, hL_nw, hK_nw⟩, ⟨hR_kp, hL_kp, hK_kp⟩, ⟨hR_tr, hL_tr, hK_tr⟩, -⟩ := id hTR
  refine lv_aload_n hx hb dL_law_755 rfl (lv_at hl 2 rfl) ?_
  refine lv_aload_n hx hb dL_law_756 rfl (lv_at hl 3 rfl) ?_
  refine lv_iload_n hx hb dL_law_757 rfl (lv_at hl 0 rfl) ?_
  refine lv_iconst (v := 1) hx hb dL_law_758 (by decide +kernel) ?_
  refine lv_iadd hx hb dL_law_759 ?_
  refine va_sld hx hb hX hbl (Nat.not_le.mpr hbl) hS (lw_ix h3 hL hM (rg_w (rg_k (1 : Int32) 1 rfl) (by decide +kernel))) dL_law_760 ?_
  refine lv_aload_n hx hb dL_law_761 rfl (lv_at hl 3 rfl) ?_
  refine lv_iload_n hx hb dL_law_762 rfl (lv_at hl 0 rfl) ?_
  refine lv_iconst (v := 2) hx hb dL_law_763 (by decide +kernel) ?_
  refine lv_iadd hx hb dL_law_764 ?_
  refine va_sld hx hb hX hbl (Nat.not_le.mpr hbl) hS (lw_ix h3 hL hM (rg_w (rg_k (2 : Int32) 2 rfl) (by decide +kernel))) dL_law_765 ?_
  refine lx_i (va_runV (As := [.int (xs (x3 + 1).toNatClampNeg), .int (xs (x3 + 2).toNatClampNeg)]) (rest := []) ⟨hx, hb, hml, hown, hts⟩ (s_X11_go l D t σ I J ri rj rq H.size tg hSH hG this (xs (x3 + 1).toNatClampNeg : Int32) (xs (x3 + 2).toNatClampNeg : Int32) hL_this hK_this nw hR_nw hL_nw hK_nw) (cwV 2 hts (tw_V tw_400 tw_401 tw_402 tw_2 tw_403) rfl rfl rfl cv_yX11_go_2 ⟨Nat.le_of_ble_eq_true rfl, Nat.le_of_ble_eq_true rfl⟩) ⟨pq_blind, pq_recv hK hP hL_this hK_this (by decide +kernel) rfl, pq_pre hK hN hP hD⟩ rfl rfl hl.1 rfl (lv_room (Nat.le_of_ble_eq_true rfl)) dL_law_766 ⟨Nat.le_trans (Nat.le_add_right _ 4) hc2, Nat.le_trans (Nat.le_add_right _ 345) hs2⟩) hD hS hA hP2 hdis (fun r_1 σ1 μ1 H locs hw hP hD hP2 hdis hS => ?_)
  obtain ⟨ri_2, hu, hgx, hfx, hFx, hr1⟩ := hw
  obtain ⟨hua, hub⟩ := Prod.mk.inj hu
  rw [hua, hub] at hP hD
  rw [hua] at hdis
  have hG := hgx.1
  refine lv_pop hx hb dL_law_769 rfl ?_
  refine lv_aload_n hx hb dL_law_770 rfl (lv_at hl 1 rfl) ?_
  refine lv_aload_n hx hb dL_law_771 rfl (lv_at hl 3 rfl) ?_
  refine lv_iload_n hx hb dL_law_772 rfl (lv_at hl 0 rfl) ?_
  refine lv_iconst (v := 1) hx hb dL_law_773 (by decide +kernel) ?_
  refine lv_iadd hx hb dL_law_774 ?_
  refine va_sld hx hb hX hbl (Nat.not_le.mpr hbl) hS (lw_ix h3 hL hM (rg_w (rg_k (1 : Int32) 1 rfl) (by decide +kernel))) dL_law_775 ?_
  refine lv_aload_n hx hb dL_law_776 rfl (lv_at hl 3 rfl) ?_
  refine lv_iload_n hx hb dL_law_777 rfl (lv_at hl 0 rfl) ?_
  refine lv_iconst (v := 2) hx hb dL_law_778 (by decide +kernel) ?_
  refine lv_iadd hx hb dL_law_779 ?_
  refine va_sld hx hb hX hbl (Nat.not_le.mpr hbl) hS (lw_ix h3 hL hM (rg_w (rg_k (2 : Int32) 2 rfl) (by decide +kernel))) dL_law_780 ?_
  refine lx_i (va_runV (As := [.int (xs (x3 + 1).toNatClampNeg), .int (xs (x3 + 2).toNatClampNeg)]) (rest := []) ⟨hx, hb, hml, hown, hts⟩ (s_X12_go l D t τ I2 J2 si sj sq H.size tg2 hSH2 hG2 that (xs (x3 + 1).toNatClampNeg : Int32) (xs (x3 + 2).toNatClampNeg : Int32) hL_that hK_that) (cwV 2 hts (tw_V tw_421 tw_422 tw_423 tw_5 tw_424) rfl rfl rfl cv_yX12_go_2 ⟨Nat.le_of_ble_eq_true rfl, Nat.le_of_ble_eq_true rfl⟩) ⟨pq_blind, pq_recv hK hP2 hL_that hK_that (by decide +kernel) rfl, pq_pre hK hN hP2 hD2⟩ rfl rfl hl.1 rfl (lv_room (Nat.le_of_ble_eq_true rfl)) dL_law_781 ⟨Nat.le_trans (Nat.le_add_right _ 4) hc2, Nat.le_trans (Nat.le_add_right _ 345) hs2⟩) hD2 hS hA hP (fun a h1 h2 => hdis a h2 h1) (fun r_3 τ1 ν1 H locs hw hP2 hD2 hP hdis hS => ?_)
  obtain ⟨si_4, hu, hgr, hfr, hFr, hr2⟩ := hw
  obtain ⟨hua, hub⟩ := Prod.mk.inj hu
  rw [hua, hub] at hP2 hD2
  rw [hua] at hdis
  have hG2 := hgr.1
  have hV2 := vt_12 hSH2 hL_that hK_that
  have hVn := vt_10 hSH hL_nw hK_nw
  have hVk := vt_10 hSH hL_kp hK_kp
  have hDN := dv_st (go_D hRN hDN (d10_of hG00) (d4_of hG20 hV2) (d15_of hG00 hVn)) hfx hfr
  have hDK := (df_im (df_fr hDK hFx hAP.1) hgr hV2 (by decide +kernel))
  have hVr := vt_4 hSH hRDo.2.1 hRDo.2.2
  have hRD := (rd_rf (rd_fr hRD hFx hAP.1.1 hVr) hgr hV2 (by decide +kernel))
  have hTN := (tc_rf (tc_cl hTN hgx (by decide +kernel)) hgr hV2 (by decide +kernel))
  have hTK := (tc_im (tc_cl hTK hgx (by decide +kernel)) hgr hV2 (by decide +kernel))
  have hRN := (rl_rf (rl_cl hRN hgx hVn (by decide +kernel) (by decide +kernel)) hgr hV2 (by decide +kernel))
  have hRK := (rl_im (rl_cl hRK hgx hVk (by decide +kernel) (by decide +kernel)) hgr hV2 (by decide +kernel))
  have hGN := (gr_rf (gr_cl hGN hgx hVn (by decide +kernel) (by decide +kernel) (by decide +kernel)) hgr hV2 (by decide +kernel))
  have hGK := (gr_im (gr_cl hGK hgx hVk (by decide +kernel) (by decide +kernel) (by decide +kernel)) hgr hV2 (by decide +kernel))
  have hdis : ∀ a, a ∈ τ.1 → a ∉ σ.1 := fun a h1 h2 => hdis a h2 h1
  refine lv_pop hx hb dL_law_784 rfl ?_
  refine lv_goto (tgt := 1725) hx hb dL_law_785 (by decide +kernel) ?_
  exact kk _ _ H locs ls (by omega) (by omega) ⟨σ, I, J, ri_2, rj, rq, tg, τ, I2, J2, si_4, sj, sq, tg2, nw, kp, tr, rd, ⟨hP, hD, hSH, hG, hFI, hL_this, hK_this⟩, ⟨hP2, hD2, hSH2, hG2, hL_that, hK_that⟩, hdis, hTR, hAP, hRN, hRK, hGN, hGK, hDN, hDK, hRDo, hRD, hTN, hTK, hS⟩ hl
set_option maxHeartbeats 8000000 in
set_option maxRecDepth 100000 in
theorem lw_op_12 {p : Program} {e : Env} {s : State} {m : MethodId} {below : List Frame} {meth : Method} {c : Code} {b : Nat} (l : Launch) (hx : p.tables.exec = Jvm.exec) (hb : c.code = cL_law) (hr : meth.sig.returnType = ret) (hml : c.maxLocals = 4) (hown : s.vm.findClass RL = some m.cls) (hlocks : meth.locks = false) (hts : ∀ w ∈ (Cond.initialized RX11 :: wsL_law), w.before #[Value.ref b] s = true) {L : Nat} (xs : Nat → Int32) (hX : va_X b L xs s s.heap) (hbl : b < s.heap.size) (hM : L ≤ 3584) {D : va_G} {t : pq_T} (hK : va_K D vwCl (pq_ty t) s) (hN : pq_N s) {aK aV : Nat} {vF : Value} (hW0 : pq_W aK aV vF (fun q => s.heap.size ≤ q) s s.heap) {this that : Nat} {n : Nat} {x3 : Int32} (h3 : x3.toInt = 7 * (n : Int)) (hL : 7 * n + 7 ≤ L) {H : Heap} {locs : List Loc} {cells slots : Nat} (hc2 : cells + 4 ≤ room_1.cells) (hs2 : slots + 345 ≤ room_1.slots) (hI : LI s D t this that H locs) {ls : Array Slot} (hl : lv_has ls 4 [(3, .int x3), (2, .ref that), (1, .ref this), (0, .ref b)]) {Q : State → Prop} (kk : ∀ (cells2 slots2 : Nat) (H : Heap) (locs : List Loc) (ls : Array Slot), cells2 ≤ cells + 4 → slots2 ≤ slots + 345 → LI s D t this that H locs → lv_has ls 4 [(3, .int x3), (2, .ref that), (1, .ref this), (0, .ref b)] → W p l e room_1 s m #[Value.ref b] below meth c H locs cells2 slots2 Q (F0 m 1725 ls [])) : W p l e room_1 s m #[Value.ref b] below meth c H locs cells slots Q (F0 m 788 ls []) := by
  have hA : ∀ q : Nat, s.heap.size ≤ q → s.heap.size ≤ q := fun _ h => h
  obtain ⟨σ, I, J, ri, rj, rq, tg, τ, I2, J2, si, sj, sq, tg2, nw, kp, tr, rd, ⟨hP, hD, hSH, hG, hFI, hL_this, hK_this⟩, ⟨hP2, hD2, hSH2, hG2, hL_that, hK_that⟩, hdis, hTR, hAP, hRN, hRK, hGN, hGK, hDN, hDK, hRDo, hRD, hTN, hTK, hS⟩ := hI
  have hG00 := hG
  have hG20 := hG2
  have hR_rd := hRDo.1
  have hL_rd := hRDo.2.1
  have hK_rd := hRDo.2.2
  obtain ⟨⟨hR_nw, hL_nw, hK_nw⟩, ⟨hR_kp, hL_kp, hK_kp⟩, ⟨hR_tr, hL_tr, hK_tr⟩, -⟩ := id hTR
  refine lv_aload_n hx hb dL_law_788 rfl (lv_at hl 2 rfl) ?_
  refine lv_aload_n hx hb dL_law_789 rfl (lv_at hl 3 rfl) ?_
  refine lv_iload_n hx hb dL_law_790 rfl (lv_at hl 0 rfl) ?_
  refine lv_iconst (v := 1) hx hb dL_law_791 (by decide +kernel) ?_
  refine lv_iadd hx hb dL_law_792 ?_
  refine va_sld hx hb hX hbl (Nat.not_le.mpr hbl) hS (lw_ix h3 hL hM (rg_w (rg_k (1 : Int32) 1 rfl) (by decide +kernel))) dL_law_793 ?_
  refine lx_i (va_runV (As := [.int (xs (x3 + 1).toNatClampNeg)]) (rest := []) ⟨hx, hb, hml, hown, hts⟩ (s_X11_death l D t σ I J ri rj rq H.size tg hSH hG this (xs (x3 + 1).toNatClampNeg : Int32) hL_this hK_this nw hR_nw hL_nw hK_nw) (cwV 1 hts (tw_V tw_449 tw_450 tw_451 tw_2 tw_452) rfl rfl rfl cv_yX11_death_1 ⟨Nat.le_of_ble_eq_true rfl, Nat.le_of_ble_eq_true rfl⟩) ⟨pq_blind, pq_recv hK hP hL_this hK_this (by decide +kernel) rfl, pq_pre hK hN hP hD⟩ rfl rfl hl.1 rfl (lv_room (Nat.le_of_ble_eq_true rfl)) dL_law_794 ⟨Nat.le_trans (Nat.le_add_right _ 4) hc2, Nat.le_trans (Nat.le_add_right _ 345) hs2⟩) hD hS hA hP2 hdis (fun r_1 σ1 μ1 H locs hw hP hD hP2 hdis hS => ?_)
  obtain ⟨ri_2, hu, hgx, hfx, hFx⟩ := hw
  obtain ⟨hua, hub⟩ := Prod.mk.inj hu
  rw [hua, hub] at hP hD
  rw [hua] at hdis
  have hG := hgx.1
  refine lv_pop hx hb dL_law_797 rfl ?_
  refine lv_aload_n hx hb dL_law_798 rfl (lv_at hl 1 rfl) ?_
  refine lv_aload_n hx hb dL_law_799 rfl (lv_at hl 3 rfl) ?_
  refine lv_iload_n hx hb dL_law_800 rfl (lv_at hl 0 rfl) ?_
  refine lv_iconst (v := 1) hx hb dL_law_801 (by decide +kernel) ?_
  refine lv_iadd hx hb dL_law_802 ?_
  refine va_sld hx hb hX hbl (Nat.not_le.mpr hbl) hS (lw_ix h3 hL hM (rg_w (rg_k (1 : Int32) 1 rfl) (by decide +kernel))) dL_law_803 ?_
  refine lx_i (va_runV (As := [.int (xs (x3 + 1).toNatClampNeg)]) (rest := []) ⟨hx, hb, hml, hown, hts⟩ (s_X12_death l D t τ I2 J2 si sj sq H.size tg2 hSH2 hG2 that (xs (x3 + 1).toNatClampNeg : Int32) hL_that hK_that) (cwV 1 hts (tw_V tw_499 tw_500 tw_501 tw_5 tw_502) rfl rfl rfl cv_yX12_death_1 ⟨Nat.le_of_ble_eq_true rfl, Nat.le_of_ble_eq_true rfl⟩) ⟨pq_blind, pq_recv hK hP2 hL_that hK_that (by decide +kernel) rfl, pq_pre hK hN hP2 hD2⟩ rfl rfl hl.1 rfl (lv_room (Nat.le_of_ble_eq_true rfl)) dL_law_804 ⟨Nat.le_trans (Nat.le_add_right _ 4) hc2, Nat.le_trans (Nat.le_add_right _ 345) hs2⟩) hD2 hS hA hP (fun a h1 h2 => hdis a h2 h1) (fun r_3 τ1 ν1 H locs hw hP2 hD2 hP hdis hS => ?_)
  obtain ⟨I2_4, si_5, hu, hgr, hfr, hFr⟩ := hw
  obtain ⟨hua, hub⟩ := Prod.mk.inj hu
  rw [hua, hub] at hP2 hD2
  rw [hua] at hdis
  have hG2 := hgr.1
  have hV2 := vt_12 hSH2 hL_that hK_that
  have hVn := vt_10 hSH hL_nw hK_nw
  have hVk := vt_10 hSH hL_kp hK_kp
  have hDN := dv_st (death_D hRN hDN) hfx hfr
  have hDK := (df_im (df_fr hDK hFx hAP.1) hgr hV2 (by decide +kernel))
  have hVr := vt_4 hSH hRDo.2.1 hRDo.2.2
  have hRD := (rd_rf (rd_fr hRD hFx hAP.1.1 hVr) hgr hV2 (by decide +kernel))
  have hTN := (tc_rf (tc_cl hTN hgx (by decide +kernel)) hgr hV2 (by decide +kernel))
  have hTK := (tc_im (tc_cl hTK hgx (by decide +kernel)) hgr hV2 (by decide +kernel))
  have hRN := (rl_rf (rl_cl hRN hgx hVn (by decide +kernel) (by decide +kernel)) hgr hV2 (by decide +kernel))
  have hRK := (rl_im (rl_cl hRK hgx hVk (by decide +kernel) (by decide +kernel)) hgr hV2 (by decide +kernel))
  have hGN := (gr_rf (gr_cl hGN hgx hVn (by decide +kernel) (by decide +kernel) (by decide +kernel)) hgr hV2 (by decide +kernel))
  have hGK := (gr_im (gr_cl hGK hgx hVk (by decide +kernel) (by decide +kernel) (by decide +kernel)) hgr hV2 (by decide +kernel))
  have hdis : ∀ a, a ∈ τ.1 → a ∉ σ.1 := fun a h1 h2 => hdis a h2 h1
  refine lv_pop hx hb dL_law_807 rfl ?_
  refine lv_goto (tgt := 1725) hx hb dL_law_808 (by decide +kernel) ?_
  exact kk _ _ H locs ls (by omega) (by omega) ⟨σ, I, J, ri_2, rj, rq, tg, τ, I2_4, J2, si_5, sj, sq, tg2, nw, kp, tr, rd, ⟨hP, hD, hSH, hG, hFI, hL_this, hK_this⟩, ⟨hP2, hD2, hSH2, hG2, hL_that, hK_that⟩, hdis, hTR, hAP, hRN, hRK, hGN, hGK, hDN, hDK, hRDo, hRD, hTN, hTK, hS⟩ hl
set_option maxHeartbeats 8000000 in
set_option maxRecDepth 100000 in
theorem lw_op_13 {p : Program} {e : Env} {s : State} {m : MethodId} {below : List Frame} {meth : Method} {c : Code} {b : Nat} (l : Launch) (hx : p.tables.exec = Jvm.exec) (hb : c.code = cL_law) (hr : meth.sig.returnType = ret) (hml : c.maxLocals = 4) (hown : s.vm.findClass RL = some m.cls) (hlocks : meth.locks = false) (hts : ∀ w ∈ (Cond.initialized RX11 :: wsL_law), w.before #[Value.ref b] s = true) {L : Nat} (xs : Nat → Int32) (hX : va_X b L xs s s.heap) (hbl : b < s.heap.size) (hM : L ≤ 3584) {D : va_G} {t : pq_T} (hK : va_K D vwCl (pq_ty t) s) (hN : pq_N s) {aK aV : Nat} {vF : Value} (hW0 : pq_W aK aV vF (fun q => s.heap.size ≤ q) s s.heap) {this that : Nat} {n : Nat} {x3 : Int32} (h3 : x3.toInt = 7 * (n : Int)) (hL : 7 * n + 7 ≤ L) {H : Heap} {locs : List Loc} {cells slots : Nat} (hc2 : cells + 4 ≤ room_1.cells) (hs2 : slots + 345 ≤ room_1.slots) (hI : LI s D t this that H locs) {ls : Array Slot} (hl : lv_has ls 4 [(3, .int x3), (2, .ref that), (1, .ref this), (0, .ref b)]) {Q : State → Prop} (kk : ∀ (cells2 slots2 : Nat) (H : Heap) (locs : List Loc) (ls : Array Slot), cells2 ≤ cells + 4 → slots2 ≤ slots + 345 → LI s D t this that H locs → lv_has ls 4 [(3, .int x3), (2, .ref that), (1, .ref this), (0, .ref b)] → W p l e room_1 s m #[Value.ref b] below meth c H locs cells2 slots2 Q (F0 m 1725 ls [])) : W p l e room_1 s m #[Value.ref b] below meth c H locs cells slots Q (F0 m 811 ls []) := by
  have hA : ∀ q : Nat, s.heap.size ≤ q → s.heap.size ≤ q := fun _ h => h
  obtain ⟨σ, I, J, ri, rj, rq, tg, τ, I2, J2, si, sj, sq, tg2, nw, kp, tr, rd, ⟨hP, hD, hSH, hG, hFI, hL_this, hK_this⟩, ⟨hP2, hD2, hSH2, hG2, hL_that, hK_that⟩, hdis, hTR, hAP, hRN, hRK, hGN, hGK, hDN, hDK, hRDo, hRD, hTN, hTK, hS⟩ := hI
  have hG00 := hG
  have hG20 := hG2
  have hR_rd := hRDo.1
  have hL_rd := hRDo.2.1
  have hK_rd := hRDo.2.2
  obtain ⟨⟨hR_nw, hL_nw, hK_nw⟩, ⟨hR_kp, hL_kp, hK_kp⟩, ⟨hR_tr, hL_tr, hK_tr⟩, -⟩ := id hTR
  refine lv_aload_n hx hb dL_law_811 rfl (lv_at hl 2 rfl) ?_
  refine lv_aload_n hx hb dL_law_812 rfl (lv_at hl 3 rfl) ?_
  refine lv_iload_n hx hb dL_law_813 rfl (lv_at hl 0 rfl) ?_
  refine lv_iconst (v := 1) hx hb dL_law_814 (by decide +kernel) ?_
  refine lv_iadd hx hb dL_law_815 ?_
  refine va_sld hx hb hX hbl (Nat.not_le.mpr hbl) hS (lw_ix h3 hL hM (rg_w (rg_k (1 : Int32) 1 rfl) (by decide +kernel))) dL_law_816 ?_
  refine lv_aload_n hx hb dL_law_817 rfl (lv_at hl 3 rfl) ?_
  refine lv_iload_n hx hb dL_law_818 rfl (lv_at hl 0 rfl) ?_
  refine lv_iconst (v := 2) hx hb dL_law_819 (by decide +kernel) ?_
  refine lv_iadd hx hb dL_law_820 ?_
  refine va_sld hx hb hX hbl (Nat.not_le.mpr hbl) hS (lw_ix h3 hL hM (rg_w (rg_k (2 : Int32) 2 rfl) (by decide +kernel))) dL_law_821 ?_
  refine lx_i (va_runV (As := [.int (xs (x3 + 1).toNatClampNeg), .int (xs (x3 + 2).toNatClampNeg)]) (rest := []) ⟨hx, hb, hml, hown, hts⟩ (s_X11_title l D t σ I J ri rj rq H.size tg hSH hG this (xs (x3 + 1).toNatClampNeg : Int32) (xs (x3 + 2).toNatClampNeg : Int32) hL_this hK_this nw hR_nw hL_nw hK_nw) (cwV 2 hts (tw_V tw_532 tw_533 tw_534 tw_2 tw_535) rfl rfl rfl cv_yX11_title_2 ⟨Nat.le_of_ble_eq_true rfl, Nat.le_of_ble_eq_true rfl⟩) ⟨pq_blind, pq_recv hK hP hL_this hK_this (by decide +kernel) rfl, pq_pre hK hN hP hD⟩ rfl rfl hl.1 rfl (lv_room (Nat.le_of_ble_eq_true rfl)) dL_law_822 ⟨Nat.le_trans (Nat.le_add_right _ 4) hc2, Nat.le_trans (Nat.le_add_right _ 345) hs2⟩) hD hS hA hP2 hdis (fun r_1 σ1 μ1 H locs hw hP hD hP2 hdis hS => ?_)
  obtain ⟨ri_2, hu, hgx, hfx, hFx, hr1⟩ := hw
  obtain ⟨hua, hub⟩ := Prod.mk.inj hu
  rw [hua, hub] at hP hD
  rw [hua] at hdis
  have hG := hgx.1
  refine lv_pop hx hb dL_law_825 rfl ?_
  refine lv_aload_n hx hb dL_law_826 rfl (lv_at hl 1 rfl) ?_
  refine lv_aload_n hx hb dL_law_827 rfl (lv_at hl 3 rfl) ?_
  refine lv_iload_n hx hb dL_law_828 rfl (lv_at hl 0 rfl) ?_
  refine lv_iconst (v := 1) hx hb dL_law_829 (by decide +kernel) ?_
  refine lv_iadd hx hb dL_law_830 ?_
  refine va_sld hx hb hX hbl (Nat.not_le.mpr hbl) hS (lw_ix h3 hL hM (rg_w (rg_k (1 : Int32) 1 rfl) (by decide +kernel))) dL_law_831 ?_
  refine lv_aload_n hx hb dL_law_832 rfl (lv_at hl 3 rfl) ?_
  refine lv_iload_n hx hb dL_law_833 rfl (lv_at hl 0 rfl) ?_
  refine lv_iconst (v := 2) hx hb dL_law_834 (by decide +kernel) ?_
  refine lv_iadd hx hb dL_law_835 ?_
  refine va_sld hx hb hX hbl (Nat.not_le.mpr hbl) hS (lw_ix h3 hL hM (rg_w (rg_k (2 : Int32) 2 rfl) (by decide +kernel))) dL_law_836 ?_
  refine lx_i (va_runV (As := [.int (xs (x3 + 1).toNatClampNeg), .int (xs (x3 + 2).toNatClampNeg)]) (rest := []) ⟨hx, hb, hml, hown, hts⟩ (s_X12_title l D t τ I2 J2 si sj sq H.size tg2 hSH2 hG2 that (xs (x3 + 1).toNatClampNeg : Int32) (xs (x3 + 2).toNatClampNeg : Int32) hL_that hK_that) (cwV 2 hts (tw_V tw_537 tw_538 tw_539 tw_5 tw_540) rfl rfl rfl cv_yX12_title_2 ⟨Nat.le_of_ble_eq_true rfl, Nat.le_of_ble_eq_true rfl⟩) ⟨pq_blind, pq_recv hK hP2 hL_that hK_that (by decide +kernel) rfl, pq_pre hK hN hP2 hD2⟩ rfl rfl hl.1 rfl (lv_room (Nat.le_of_ble_eq_true rfl)) dL_law_837 ⟨Nat.le_trans (Nat.le_add_right _ 4) hc2, Nat.le_trans (Nat.le_add_right _ 345) hs2⟩) hD2 hS hA hP (fun a h1 h2 => hdis a h2 h1) (fun r_3 τ1 ν1 H locs hw hP2 hD2 hP hdis hS => ?_)
  obtain ⟨si_4, hu, hgr, hfr, hFr, hr2⟩ := hw
  obtain ⟨hua, hub⟩ := Prod.mk.inj hu
  rw [hua, hub] at hP2 hD2
  rw [hua] at hdis
  have hG2 := hgr.1
  have hV2 := vt_12 hSH2 hL_that hK_that
  have hVn := vt_10 hSH hL_nw hK_nw
  have hVk := vt_10 hSH hL_kp hK_kp
  have he0 := fst_st (title_v hRN hDN) hfx hfr
  have hDN := (df_rf (df_cl hDN hgx hVn (by decide +kernel) (by decide +kernel)) hgr hV2 (by decide +kernel))
  have hDK := (df_im (df_cl hDK hgx hVk (by decide +kernel) (by decide +kernel)) hgr hV2 (by decide +kernel))
  have hVr := vt_4 hSH hRDo.2.1 hRDo.2.2
  have hRD := (rd_rf (rd_fr hRD hFx hAP.1.1 hVr) hgr hV2 (by decide +kernel))
  have hTN := (tc_rf (tc_cl hTN hgx (by decide +kernel)) hgr hV2 (by decide +kernel))
  have hTK := (tc_im (tc_cl hTK hgx (by decide +kernel)) hgr hV2 (by decide +kernel))
  have hRN := (rl_rf (rl_cl hRN hgx hVn (by decide +kernel) (by decide +kernel)) hgr hV2 (by decide +kernel))
  have hRK := (rl_im (rl_cl hRK hgx hVk (by decide +kernel) (by decide +kernel)) hgr hV2 (by decide +kernel))
  have hGN := (gr_rf (gr_cl hGN hgx hVn (by decide +kernel) (by decide +kernel) (by decide +kernel)) hgr hV2 (by decide +kernel))
  have hGK := (gr_im (gr_cl hGK hgx hVk (by decide +kernel) (by decide +kernel) (by decide +kernel)) hgr hV2 (by decide +kernel))
  have hdis : ∀ a, a ∈ τ.1 → a ∉ σ.1 := fun a h1 h2 => hdis a h2 h1
  refine lv_pop hx hb dL_law_840 rfl ?_
  refine lv_goto (tgt := 1725) hx hb dL_law_841 (by decide +kernel) ?_
  exact kk _ _ H locs ls (by omega) (by omega) ⟨σ, I, J, ri_2, rj, rq, tg, τ, I2, J2, si_4, sj, sq, tg2, nw, kp, tr, rd, ⟨hP, hD, hSH, hG, hFI, hL_this, hK_this⟩, ⟨hP2, hD2, hSH2, hG2, hL_that, hK_that⟩, hdis, hTR, hAP, hRN, hRK, hGN, hGK, hDN, hDK, hRDo, hRD, hTN, hTK, hS⟩ hl
set_option maxHeartbeats 8000000 in
set_option maxRecDepth 100000 in
theorem lw_op_14 {p : Program} {e : Env} {s : State} {m : MethodId} {below : List Frame} {meth : Method} {c : Code} {b : Nat} (l : Launch) (hx : p.tables.exec = Jvm.exec) (hb : c.code = cL_law) (hr : meth.sig.returnType = ret) (hml : c.maxLocals = 4) (hown : s.vm.findClass RL = some m.cls) (hlocks : meth.locks = false) (hts : ∀ w ∈ (Cond.initialized RX11 :: wsL_law), w.before #[Value.ref b] s = true) {L : Nat} (xs : Nat → Int32) (hX : va_X b L xs s s.heap) (hbl : b < s.heap.size) (hM : L ≤ 3584) {D : va_G} {t : pq_T} (hK : va_K D vwCl (pq_ty t) s) (hN : pq_N s) {aK aV : Nat} {vF : Value} (hW0 : pq_W aK aV vF (fun q => s.heap.size ≤ q) s s.heap) {this that : Nat} {n : Nat} {x3 : Int32} (h3 : x3.toInt = 7 * (n : Int)) (hL : 7 * n + 7 ≤ L) {H : Heap} {locs : List Loc} {cells slots : Nat} (hc2 : cells + 4 ≤ room_1.cells) (hs2 : slots + 345 ≤ room_1.slots) (hI : LI s D t this that H locs) {ls : Array Slot} (hl : lv_has ls 4 [(3, .int x3), (2, .ref that), (1, .ref this), (0, .ref b)]) {Q : State → Prop} (kk : ∀ (cells2 slots2 : Nat) (H : Heap) (locs : List Loc) (ls : Array Slot), cells2 ≤ cells + 4 → slots2 ≤ slots + 345 → LI s D t this that H locs → lv_has ls 4 [(3, .int x3), (2, .ref that), (1, .ref this), (0, .ref b)] → W p l e room_1 s m #[Value.ref b] below meth c H locs cells2 slots2 Q (F0 m 1725 ls [])) : W p l e room_1 s m #[Value.ref b] below meth c H locs cells slots Q (F0 m 844 ls []) := by
  have hA : ∀ q : Nat, s.heap.size ≤ q → s.heap.size ≤ q := fun _ h => h
  obtain ⟨σ, I, J, ri, rj, rq, tg, τ, I2, J2, si, sj, sq, tg2, nw, kp, tr, rd, ⟨hP, hD, hSH, hG, hFI, hL_this, hK_this⟩, ⟨hP2, hD2, hSH2, hG2, hL_that, hK_that⟩, hdis, hTR, hAP, hRN, hRK, hGN, hGK, hDN, hDK, hRDo, hRD, hTN, hTK, hS⟩ := hI
  have hG00 := hG
  have hG20 := hG2
  have hR_rd := hRDo.1
  have hL_rd := hRDo.2.1
  have hK_rd := hRDo.2.2
  obtain ⟨⟨hR_nw, hL_nw, hK_nw⟩, ⟨hR_kp, hL_kp, hK_kp⟩, ⟨hR_tr, hL_tr, hK_tr⟩, -⟩ := id hTR
  refine lv_aload_n hx hb dL_law_844 rfl (lv_at hl 2 rfl) ?_
  refine lv_aload_n hx hb dL_law_845 rfl (lv_at hl 3 rfl) ?_
  refine lv_iload_n hx hb dL_law_846 rfl (lv_at hl 0 rfl) ?_
  refine lv_iconst (v := 1) hx hb dL_law_847 (by decide +kernel) ?_
  refine lv_iadd hx hb dL_law_848 ?_
  refine va_sld hx hb hX hbl (Nat.not_le.mpr hbl) hS (lw_ix h3 hL hM (rg_w (rg_k (1 : Int32) 1 rfl) (by decide +kernel))) dL_law_849 ?_
  refine lv_aload_n hx hb dL_law_850 rfl (lv_at hl 3 rfl) ?_
  refine lv_iload_n hx hb dL_law_851 rfl (lv_at hl 0 rfl) ?_
  refine lv_iconst (v := 2) hx hb dL_law_852 (by decide +kernel) ?_
  refine lv_iadd hx hb dL_law_853 ?_
  refine va_sld hx hb hX hbl (Nat.not_le.mpr hbl) hS (lw_ix h3 hL hM (rg_w (rg_k (2 : Int32) 2 rfl) (by decide +kernel))) dL_law_854 ?_
  refine lx_i (va_runV (As := [.int (xs (x3 + 1).toNatClampNeg), .int (xs (x3 + 2).toNatClampNeg)]) (rest := []) ⟨hx, hb, hml, hown, hts⟩ (s_X11_titleOf l D t σ I J ri rj rq H.size tg hSH hG this (xs (x3 + 1).toNatClampNeg : Int32) (xs (x3 + 2).toNatClampNeg : Int32) hL_this hK_this nw hR_nw hL_nw hK_nw) (cwV 2 hts (tw_V tw_541 tw_542 tw_543 tw_2 tw_544) rfl rfl rfl cv_yX11_titleOf_2 ⟨Nat.le_of_ble_eq_true rfl, Nat.le_of_ble_eq_true rfl⟩) ⟨pq_blind, pq_recv hK hP hL_this hK_this (by decide +kernel) rfl, pq_pre hK hN hP hD⟩ rfl rfl hl.1 rfl (lv_room (Nat.le_of_ble_eq_true rfl)) dL_law_855 ⟨Nat.le_trans (Nat.le_add_right _ 4) hc2, Nat.le_trans (Nat.le_add_right _ 345) hs2⟩) hD hS hA hP2 hdis (fun r_1 σ1 μ1 H locs hw hP hD hP2 hdis hS => ?_)
  obtain ⟨ri_2, hu, hgx, hfx, hFx, hr1⟩ := hw
  obtain ⟨hua, hub⟩ := Prod.mk.inj hu
  rw [hua, hub] at hP hD
  rw [hua] at hdis
  have hG := hgx.1
  refine lv_pop hx hb dL_law_858 rfl ?_
  refine lv_aload_n hx hb dL_law_859 rfl (lv_at hl 1 rfl) ?_
  refine lv_aload_n hx hb dL_law_860 rfl (lv_at hl 3 rfl) ?_
  refine lv_iload_n hx hb dL_law_861 rfl (lv_at hl 0 rfl) ?_
  refine lv_iconst (v := 1) hx hb dL_law_862 (by decide +kernel) ?_
  refine lv_iadd hx hb dL_law_863 ?_
  refine va_sld hx hb hX hbl (Nat.not_le.mpr hbl) hS (lw_ix h3 hL hM (rg_w (rg_k (1 : Int32) 1 rfl) (by decide +kernel))) dL_law_864 ?_
  refine lv_aload_n hx hb dL_law_865 rfl (lv_at hl 3 rfl) ?_
  refine lv_iload_n hx hb dL_law_866 rfl (lv_at hl 0 rfl) ?_
  refine lv_iconst (v := 2) hx hb dL_law_867 (by decide +kernel) ?_
  refine lv_iadd hx hb dL_law_868 ?_
  refine va_sld hx hb hX hbl (Nat.not_le.mpr hbl) hS (lw_ix h3 hL hM (rg_w (rg_k (2 : Int32) 2 rfl) (by decide +kernel))) dL_law_869 ?_
  refine lx_i (va_runV (As := [.int (xs (x3 + 1).toNatClampNeg), .int (xs (x3 + 2).toNatClampNeg)]) (rest := []) ⟨hx, hb, hml, hown, hts⟩ (s_X12_titleOf l D t τ I2 J2 si sj sq H.size tg2 hSH2 hG2 that (xs (x3 + 1).toNatClampNeg : Int32) (xs (x3 + 2).toNatClampNeg : Int32) hL_that hK_that) (cwV 2 hts (tw_V tw_589 tw_590 tw_591 tw_5 tw_592) rfl rfl rfl cv_yX12_titleOf_2 ⟨Nat.le_of_ble_eq_true rfl, Nat.le_of_ble_eq_true rfl⟩) ⟨pq_blind, pq_recv hK hP2 hL_that hK_that (by decide +kernel) rfl, pq_pre hK hN hP2 hD2⟩ rfl rfl hl.1 rfl (lv_room (Nat.le_of_ble_eq_true rfl)) dL_law_870 ⟨Nat.le_trans (Nat.le_add_right _ 4) hc2, Nat.le_trans (Nat.le_add_right _ 345) hs2⟩) hD2 hS hA hP (fun a h1 h2 => hdis a h2 h1) (fun r_3 τ1 ν1 H locs hw hP2 hD2 hP hdis hS => ?_)
  obtain ⟨si_4, sj_5, hu, hgr, hfr, hFr, hr2⟩ := hw
  obtain ⟨hua, hub⟩ := Prod.mk.inj hu
  rw [hua, hub] at hP2 hD2
  rw [hua] at hdis
  have hG2 := hgr.1
  have hV2 := vt_12 hSH2 hL_that hK_that
  have hVn := vt_10 hSH hL_nw hK_nw
  have hVk := vt_10 hSH hL_kp hK_kp
  have hDN := (df_rf (df_cl hDN hgx hVn (by decide +kernel) (by decide +kernel)) hgr hV2 (by decide +kernel))
  have hDK := (df_im (df_cl hDK hgx hVk (by decide +kernel) (by decide +kernel)) hgr hV2 (by decide +kernel))
  have hVr := vt_4 hSH hRDo.2.1 hRDo.2.2
  have hRD := (rd_rf (rd_fr hRD hFx hAP.1.1 hVr) hgr hV2 (by decide +kernel))
  have hTN := (tc_rf (tc_cl hTN hgx (by decide +kernel)) hgr hV2 (by decide +kernel))
  have hTK := (tc_im (tc_cl hTK hgx (by decide +kernel)) hgr hV2 (by decide +kernel))
  have hRN := (rl_rf (rl_cl hRN hgx hVn (by decide +kernel) (by decide +kernel)) hgr hV2 (by decide +kernel))
  have hRK := (rl_im (rl_cl hRK hgx hVk (by decide +kernel) (by decide +kernel)) hgr hV2 (by decide +kernel))
  have hGN := (gr_rf (gr_cl hGN hgx hVn (by decide +kernel) (by decide +kernel) (by decide +kernel)) hgr hV2 (by decide +kernel))
  have hGK := (gr_im (gr_cl hGK hgx hVk (by decide +kernel) (by decide +kernel) (by decide +kernel)) hgr hV2 (by decide +kernel))
  have hdis : ∀ a, a ∈ τ.1 → a ∉ σ.1 := fun a h1 h2 => hdis a h2 h1
  refine lv_pop hx hb dL_law_873 rfl ?_
  refine lv_goto (tgt := 1725) hx hb dL_law_874 (by decide +kernel) ?_
  exact kk _ _ H locs ls (by omega) (by omega) ⟨σ, I, J, ri_2, rj, rq, tg, τ, I2, J2, si_4, sj_5, sq, tg2, nw, kp, tr, rd, ⟨hP, hD, hSH, hG, hFI, hL_this, hK_this⟩, ⟨hP2, hD2, hSH2, hG2, hL_that, hK_that⟩, hdis, hTR, hAP, hRN, hRK, hGN, hGK, hDN, hDK, hRDo, hRD, hTN, hTK, hS⟩ hl
set_option maxHeartbeats 8000000 in
set_option maxRecDepth 100000 in
theorem lw_op_15 {p : Program} {e : Env} {s : State} {m : MethodId} {below : List Frame} {meth : Method} {c : Code} {b : Nat} (l : Launch) (hx : p.tables.exec = Jvm.exec) (hb : c.code = cL_law) (hr : meth.sig.returnType = ret) (hml : c.maxLocals = 4) (hown : s.vm.findClass RL = some m.cls) (hlocks : meth.locks = false) (hts : ∀ w ∈ (Cond.initialized RX11 :: wsL_law), w.before #[Value.ref b] s = true) {L : Nat} (xs : Nat → Int32) (hX : va_X b L xs s s.heap) (hbl : b < s.heap.size) (hM : L ≤ 3584) {D : va_G} {t : pq_T} (hK : va_K D vwCl (pq_ty t) s) (hN : pq_N s) {aK aV : Nat} {vF : Value} (hW0 : pq_W aK aV vF (fun q => s.heap.size ≤ q) s s.heap) {this that : Nat} {n : Nat} {x3 : Int32} (h3 : x3.toInt = 7 * (n : Int)) (hL : 7 * n + 7 ≤ L) {H : Heap} {locs : List Loc} {cells slots : Nat} (hc2 : cells + 4 ≤ room_1.cells) (hs2 : slots + 345 ≤ room_1.slots) (hI : LI s D t this that H locs) {ls : Array Slot} (hl : lv_has ls 4 [(3, .int x3), (2, .ref that), (1, .ref this), (0, .ref b)]) {Q : State → Prop} (kk : ∀ (cells2 slots2 : Nat) (H : Heap) (locs : List Loc) (ls : Array Slot), cells2 ≤ cells + 4 → slots2 ≤ slots + 345 → LI s D t this that H locs → lv_has ls 4 [(3, .int x3), (2, .ref that), (1, .ref this), (0, .ref b)] → W p l e room_1 s m #[Value.ref b] below meth c H locs cells2 slots2 Q (F0 m 1725 ls [])) : W p l e room_1 s m #[Value.ref b] below meth c H locs cells slots Q (F0 m 877 ls []) := by
  have hA : ∀ q : Nat, s.heap.size ≤ q → s.heap.size ≤ q := fun _ h => h
  obtain ⟨σ, I, J, ri, rj, rq, tg, τ, I2, J2, si, sj, sq, tg2, nw, kp, tr, rd, ⟨hP, hD, hSH, hG, hFI, hL_this, hK_this⟩, ⟨hP2, hD2, hSH2, hG2, hL_that, hK_that⟩, hdis, hTR, hAP, hRN, hRK, hGN, hGK, hDN, hDK, hRDo, hRD, hTN, hTK, hS⟩ := hI
  have hG00 := hG
  have hG20 := hG2
  have hR_rd := hRDo.1
  have hL_rd := hRDo.2.1
  have hK_rd := hRDo.2.2
  obtain ⟨⟨hR_nw, hL_nw, hK_nw⟩, ⟨hR_kp, hL_kp, hK_kp⟩, ⟨hR_tr, hL_tr, hK_tr⟩, -⟩ := id hTR
  refine lv_aload_n hx hb dL_law_877 rfl (lv_at hl 2 rfl) ?_
  refine lv_aload_n hx hb dL_law_878 rfl (lv_at hl 3 rfl) ?_
  refine lv_iload_n hx hb dL_law_879 rfl (lv_at hl 0 rfl) ?_
  refine lv_iconst (v := 1) hx hb dL_law_880 (by decide +kernel) ?_
  refine lv_iadd hx hb dL_law_881 ?_
  refine va_sld hx hb hX hbl (Nat.not_le.mpr hbl) hS (lw_ix h3 hL hM (rg_w (rg_k (1 : Int32) 1 rfl) (by decide +kernel))) dL_law_882 ?_
  refine lv_aload_n hx hb dL_law_883 rfl (lv_at hl 3 rfl) ?_
  refine lv_iload_n hx hb dL_law_884 rfl (lv_at hl 0 rfl) ?_
  refine lv_iconst (v := 2) hx hb dL_law_885 (by decide +kernel) ?_
  refine lv_iadd hx hb dL_law_886 ?_
  refine va_sld hx hb hX hbl (Nat.not_le.mpr hbl) hS (lw_ix h3 hL hM (rg_w (rg_k (2 : Int32) 2 rfl) (by decide +kernel))) dL_law_887 ?_
  refine lv_aload_n hx hb dL_law_888 rfl (lv_at hl 3 rfl) ?_
  refine lv_iload_n hx hb dL_law_889 rfl (lv_at hl 0 rfl) ?_
  refine lv_iconst (v := 3) hx hb dL_law_890 (by decide +kernel) ?_
  refine lv_iadd hx hb dL_law_891 ?_
  refine va_sld hx hb hX hbl (Nat.not_le.mpr hbl) hS (lw_ix h3 hL hM (rg_w (rg_k (3 : Int32) 3 rfl) (by decide +kernel))) dL_law_892 ?_
  refine lv_aload_n hx hb dL_law_893 rfl (lv_at hl 3 rfl) ?_
  refine lv_iload_n hx hb dL_law_894 rfl (lv_at hl 0 rfl) ?_
  refine lv_iconst (v := 4) hx hb dL_law_895 (by decide +kernel) ?_
  refine lv_iadd hx hb dL_law_896 ?_
  refine va_sld hx hb hX hbl (Nat.not_le.mpr hbl) hS (lw_ix h3 hL hM (rg_w (rg_k (4 : Int32) 4 rfl) (by decide +kernel))) dL_law_897 ?_
  refine lv_aload_n hx hb dL_law_898 rfl (lv_at hl 3 rfl) ?_
  refine lv_iload_n hx hb dL_law_899 rfl (lv_at hl 0 rfl) ?_
  refine lv_iconst (v := 5) hx hb dL_law_900 (by decide +kernel) ?_
  refine lv_iadd hx hb dL_law_901 ?_
  refine va_sld hx hb hX hbl (Nat.not_le.mpr hbl) hS (lw_ix h3 hL hM (rg_w (rg_k (5 : Int32) 5 rfl) (by decide +kernel))) dL_law_902 ?_
  refine lx_i (va_runV (As := [.int (xs (x3 + 1).toNatClampNeg), .int (xs (x3 + 2).toNatClampNeg), .int (xs (x3 + 3).toNatClampNeg), .int (xs (x3 + 4).toNatClampNeg), .int (xs (x3 + 5).toNatClampNeg)]) (rest := []) ⟨hx, hb, hml, hown, hts⟩ (s_X11_feed l D t σ I J ri rj rq H.size tg hSH hG this (xs (x3 + 1).toNatClampNeg : Int32) (xs (x3 + 2).toNatClampNeg : Int32) (xs (x3 + 3).toNatClampNeg : Int32) (xs (x3 + 4).toNatClampNeg : Int32) (xs (x3 + 5).toNatClampNeg : Int32) hL_this hK_this rd hR_rd hL_rd hK_rd) (cwV 5 hts (tw_V tw_616 tw_617 tw_618 tw_2 tw_619) rfl rfl rfl cv_yX11_feed_5 ⟨Nat.le_of_ble_eq_true rfl, Nat.le_of_ble_eq_true rfl⟩) ⟨pq_blind, pq_recv hK hP hL_this hK_this (by decide +kernel) rfl, pq_pre hK hN hP hD⟩ rfl rfl hl.1 rfl (lv_room (Nat.le_of_ble_eq_true rfl)) dL_law_903 ⟨Nat.le_trans (Nat.le_add_right _ 4) hc2, Nat.le_trans (Nat.le_add_right _ 345) hs2⟩) hD hS hA hP2 hdis (fun r_1 σ1 μ1 H locs hw hP hD hP2 hdis hS => ?_)
  obtain ⟨I_2, ri_3, hu, hgx, hfx, hFx, hr1⟩ := hw
  obtain ⟨hua, hub⟩ := Prod.mk.inj hu
  rw [hua, hub] at hP hD
  rw [hua] at hdis
  have hG := hgx.1
  refine lv_pop hx hb dL_law_906 rfl ?_
  refine lv_aload_n hx hb dL_law_907 rfl (lv_at hl 1 rfl) ?_
  refine lv_aload_n hx hb dL_law_908 rfl (lv_at hl 3 rfl) ?_
  refine lv_iload_n hx hb dL_law_909 rfl (lv_at hl 0 rfl) ?_
  refine lv_iconst (v := 1) hx hb dL_law_910 (by decide +kernel) ?_
  refine lv_iadd hx hb dL_law_911 ?_
  refine va_sld hx hb hX hbl (Nat.not_le.mpr hbl) hS (lw_ix h3 hL hM (rg_w (rg_k (1 : Int32) 1 rfl) (by decide +kernel))) dL_law_912 ?_
  refine lv_aload_n hx hb dL_law_913 rfl (lv_at hl 3 rfl) ?_
  refine lv_iload_n hx hb dL_law_914 rfl (lv_at hl 0 rfl) ?_
  refine lv_iconst (v := 2) hx hb dL_law_915 (by decide +kernel) ?_
  refine lv_iadd hx hb dL_law_916 ?_
  refine va_sld hx hb hX hbl (Nat.not_le.mpr hbl) hS (lw_ix h3 hL hM (rg_w (rg_k (2 : Int32) 2 rfl) (by decide +kernel))) dL_law_917 ?_
  refine lv_aload_n hx hb dL_law_918 rfl (lv_at hl 3 rfl) ?_
  refine lv_iload_n hx hb dL_law_919 rfl (lv_at hl 0 rfl) ?_
  refine lv_iconst (v := 3) hx hb dL_law_920 (by decide +kernel) ?_
  refine lv_iadd hx hb dL_law_921 ?_
  refine va_sld hx hb hX hbl (Nat.not_le.mpr hbl) hS (lw_ix h3 hL hM (rg_w (rg_k (3 : Int32) 3 rfl) (by decide +kernel))) dL_law_922 ?_
  refine lv_aload_n hx hb dL_law_923 rfl (lv_at hl 3 rfl) ?_
  refine lv_iload_n hx hb dL_law_924 rfl (lv_at hl 0 rfl) ?_
  refine lv_iconst (v := 4) hx hb dL_law_925 (by decide +kernel) ?_
  refine lv_iadd hx hb dL_law_926 ?_
  refine va_sld hx hb hX hbl (Nat.not_le.mpr hbl) hS (lw_ix h3 hL hM (rg_w (rg_k (4 : Int32) 4 rfl) (by decide +kernel))) dL_law_927 ?_
  refine lv_aload_n hx hb dL_law_928 rfl (lv_at hl 3 rfl) ?_
  refine lv_iload_n hx hb dL_law_929 rfl (lv_at hl 0 rfl) ?_
  refine lv_iconst (v := 5) hx hb dL_law_930 (by decide +kernel) ?_
  refine lv_iadd hx hb dL_law_931 ?_
  refine va_sld hx hb hX hbl (Nat.not_le.mpr hbl) hS (lw_ix h3 hL hM (rg_w (rg_k (5 : Int32) 5 rfl) (by decide +kernel))) dL_law_932 ?_
  refine lx_i (va_runV (As := [.int (xs (x3 + 1).toNatClampNeg), .int (xs (x3 + 2).toNatClampNeg), .int (xs (x3 + 3).toNatClampNeg), .int (xs (x3 + 4).toNatClampNeg), .int (xs (x3 + 5).toNatClampNeg)]) (rest := []) ⟨hx, hb, hml, hown, hts⟩ (s_X12_feed l D t τ I2 J2 si sj sq H.size tg2 hSH2 hG2 that (xs (x3 + 1).toNatClampNeg : Int32) (xs (x3 + 2).toNatClampNeg : Int32) (xs (x3 + 3).toNatClampNeg : Int32) (xs (x3 + 4).toNatClampNeg : Int32) (xs (x3 + 5).toNatClampNeg : Int32) hL_that hK_that) (cwV 5 hts (tw_V tw_627 tw_628 tw_629 tw_5 tw_630) rfl rfl rfl cv_yX12_feed_5 ⟨Nat.le_of_ble_eq_true rfl, Nat.le_of_ble_eq_true rfl⟩) ⟨pq_blind, pq_recv hK hP2 hL_that hK_that (by decide +kernel) rfl, pq_pre hK hN hP2 hD2⟩ rfl rfl hl.1 rfl (lv_room (Nat.le_of_ble_eq_true rfl)) dL_law_933 ⟨Nat.le_trans (Nat.le_add_right _ 4) hc2, Nat.le_trans (Nat.le_add_right _ 345) hs2⟩) hD2 hS hA hP (fun a h1 h2 => hdis a h2 h1) (fun r_4 τ1 ν1 H locs hw hP2 hD2 hP hdis hS => ?_)
  obtain ⟨I2_5, si_6, hu, hgr, hfr, hFr, hr2⟩ := hw
  obtain ⟨hua, hub⟩ := Prod.mk.inj hu
  rw [hua, hub] at hP2 hD2
  rw [hua] at hdis
  have hG2 := hgr.1
  have hV2 := vt_12 hSH2 hL_that hK_that
  have hVn := vt_10 hSH hL_nw hK_nw
  have hVk := vt_10 hSH hL_kp hK_kp
  have hDN := (df_rf (df_cl hDN hgx hVn (by decide +kernel) (by decide +kernel)) hgr hV2 (by decide +kernel))
  have hDK := (df_im (df_cl hDK hgx hVk (by decide +kernel) (by decide +kernel)) hgr hV2 (by decide +kernel))
  have hVr := vt_4 hSH hRDo.2.1 hRDo.2.2
  have hfv := fv_st (feed_FV hRD) hfx hfr
  have hRD := hfv.2
  have hTN := (tc_rf (tc_cl hTN hgx (by decide +kernel)) hgr hV2 (by decide +kernel))
  have hTK := (tc_im (tc_cl hTK hgx (by decide +kernel)) hgr hV2 (by decide +kernel))
  have hRN := (rl_rf (rl_cl hRN hgx hVn (by decide +kernel) (by decide +kernel)) hgr hV2 (by decide +kernel))
  have hRK := (rl_im (rl_cl hRK hgx hVk (by decide +kernel) (by decide +kernel)) hgr hV2 (by decide +kernel))
  have hGN := (gr_rf (gr_cl hGN hgx hVn (by decide +kernel) (by decide +kernel) (by decide +kernel)) hgr hV2 (by decide +kernel))
  have hGK := (gr_im (gr_cl hGK hgx hVk (by decide +kernel) (by decide +kernel) (by decide +kernel)) hgr hV2 (by decide +kernel))
  have hdis : ∀ a, a ∈ τ.1 → a ∉ σ.1 := fun a h1 h2 => hdis a h2 h1
  refine lv_pop hx hb dL_law_936 rfl ?_
  refine lv_goto (tgt := 1725) hx hb dL_law_937 (by decide +kernel) ?_
  exact kk _ _ H locs ls (by omega) (by omega) ⟨σ, I_2, J, ri_3, rj, rq, tg, τ, I2_5, J2, si_6, sj, sq, tg2, nw, kp, tr, rd, ⟨hP, hD, hSH, hG, hFI, hL_this, hK_this⟩, ⟨hP2, hD2, hSH2, hG2, hL_that, hK_that⟩, hdis, hTR, hAP, hRN, hRK, hGN, hGK, hDN, hDK, hRDo, hRD, hTN, hTK, hS⟩ hl
set_option maxHeartbeats 8000000 in
set_option maxRecDepth 100000 in
theorem lw_op_16 {p : Program} {e : Env} {s : State} {m : MethodId} {below : List Frame} {meth : Method} {c : Code} {b : Nat} (l : Launch) (hx : p.tables.exec = Jvm.exec) (hb : c.code = cL_law) (hr : meth.sig.returnType = ret) (hml : c.maxLocals = 4) (hown : s.vm.findClass RL = some m.cls) (hlocks : meth.locks = false) (hts : ∀ w ∈ (Cond.initialized RX11 :: wsL_law), w.before #[Value.ref b] s = true) {L : Nat} (xs : Nat → Int32) (hX : va_X b L xs s s.heap) (hbl : b < s.heap.size) (hM : L ≤ 3584) {D : va_G} {t : pq_T} (hK : va_K D vwCl (pq_ty t) s) (hN : pq_N s) {aK aV : Nat} {vF : Value} (hW0 : pq_W aK aV vF (fun q => s.heap.size ≤ q) s s.heap) {this that : Nat} {n : Nat} {x3 : Int32} (h3 : x3.toInt = 7 * (n : Int)) (hL : 7 * n + 7 ≤ L) {H : Heap} {locs : List Loc} {cells slots : Nat} (hc2 : cells + 4 ≤ room_1.cells) (hs2 : slots + 345 ≤ room_1.slots) (hI : LI s D t this that H locs) {ls : Array Slot} (hl : lv_has ls 4 [(3, .int x3), (2, .ref that), (1, .ref this), (0, .ref b)]) {Q : State → Prop} (kk : ∀ (cells2 slots2 : Nat) (H : Heap) (locs : List Loc) (ls : Array Slot), cells2 ≤ cells + 4 → slots2 ≤ slots + 345 → LI s D t this that H locs → lv_has ls 4 [(3, .int x3), (2, .ref that), (1, .ref this), (0, .ref b)] → W p l e room_1 s m #[Value.ref b] below meth c H locs cells2 slots2 Q (F0 m 1725 ls [])) : W p l e room_1 s m #[Value.ref b] below meth c H locs cells slots Q (F0 m 940 ls []) := by
  have hA : ∀ q : Nat, s.heap.size ≤ q → s.heap.size ≤ q := fun _ h => h
  obtain ⟨σ, I, J, ri, rj, rq, tg, τ, I2, J2, si, sj, sq, tg2, nw, kp, tr, rd, ⟨hP, hD, hSH, hG, hFI, hL_this, hK_this⟩, ⟨hP2, hD2, hSH2, hG2, hL_that, hK_that⟩, hdis, hTR, hAP, hRN, hRK, hGN, hGK, hDN, hDK, hRDo, hRD, hTN, hTK, hS⟩ := hI
  have hG00 := hG
  have hG20 := hG2
  have hR_rd := hRDo.1
  have hL_rd := hRDo.2.1
  have hK_rd := hRDo.2.2
  obtain ⟨⟨hR_nw, hL_nw, hK_nw⟩, ⟨hR_kp, hL_kp, hK_kp⟩, ⟨hR_tr, hL_tr, hK_tr⟩, -⟩ := id hTR
  refine lv_aload_n hx hb dL_law_940 rfl (lv_at hl 2 rfl) ?_
  refine lv_aload_n hx hb dL_law_941 rfl (lv_at hl 3 rfl) ?_
  refine lv_iload_n hx hb dL_law_942 rfl (lv_at hl 0 rfl) ?_
  refine lv_iconst (v := 1) hx hb dL_law_943 (by decide +kernel) ?_
  refine lv_iadd hx hb dL_law_944 ?_
  refine va_sld hx hb hX hbl (Nat.not_le.mpr hbl) hS (lw_ix h3 hL hM (rg_w (rg_k (1 : Int32) 1 rfl) (by decide +kernel))) dL_law_945 ?_
  refine lx_i (va_runV (As := [.int (xs (x3 + 1).toNatClampNeg)]) (rest := []) ⟨hx, hb, hml, hown, hts⟩ (s_X11_end l D t σ I J ri rj rq H.size tg hSH hG this (xs (x3 + 1).toNatClampNeg : Int32) hL_this hK_this rd hR_rd hL_rd hK_rd) (cwV 1 hts (tw_V tw_636 tw_637 tw_638 tw_2 tw_639) rfl rfl rfl cv_yX11_end_1 ⟨Nat.le_of_ble_eq_true rfl, Nat.le_of_ble_eq_true rfl⟩) ⟨pq_blind, pq_recv hK hP hL_this hK_this (by decide +kernel) rfl, pq_pre hK hN hP hD⟩ rfl rfl hl.1 rfl (lv_room (Nat.le_of_ble_eq_true rfl)) dL_law_946 ⟨Nat.le_trans (Nat.le_add_right _ 4) hc2, Nat.le_trans (Nat.le_add_right _ 345) hs2⟩) hD hS hA hP2 hdis (fun r_1 σ1 μ1 H locs hw hP hD hP2 hdis hS => ?_)
  obtain ⟨I_2, hu, hgx, hfx, hFx, hr1⟩ := hw
  obtain ⟨hua, hub⟩ := Prod.mk.inj hu
  rw [hua, hub] at hP hD
  rw [hua] at hdis
  have hG := hgx.1
  refine lv_pop hx hb dL_law_949 rfl ?_
  refine lv_aload_n hx hb dL_law_950 rfl (lv_at hl 1 rfl) ?_
  refine lv_aload_n hx hb dL_law_951 rfl (lv_at hl 3 rfl) ?_
  refine lv_iload_n hx hb dL_law_952 rfl (lv_at hl 0 rfl) ?_
  refine lv_iconst (v := 1) hx hb dL_law_953 (by decide +kernel) ?_
  refine lv_iadd hx hb dL_law_954 ?_
  refine va_sld hx hb hX hbl (Nat.not_le.mpr hbl) hS (lw_ix h3 hL hM (rg_w (rg_k (1 : Int32) 1 rfl) (by decide +kernel))) dL_law_955 ?_
  refine lx_i (va_runV (As := [.int (xs (x3 + 1).toNatClampNeg)]) (rest := []) ⟨hx, hb, hml, hown, hts⟩ (s_X12_end l D t τ I2 J2 si sj sq H.size tg2 hSH2 hG2 that (xs (x3 + 1).toNatClampNeg : Int32) hL_that hK_that) (cwV 1 hts (tw_V tw_640 tw_641 tw_642 tw_5 tw_643) rfl rfl rfl cv_yX12_end_1 ⟨Nat.le_of_ble_eq_true rfl, Nat.le_of_ble_eq_true rfl⟩) ⟨pq_blind, pq_recv hK hP2 hL_that hK_that (by decide +kernel) rfl, pq_pre hK hN hP2 hD2⟩ rfl rfl hl.1 rfl (lv_room (Nat.le_of_ble_eq_true rfl)) dL_law_956 ⟨Nat.le_trans (Nat.le_add_right _ 4) hc2, Nat.le_trans (Nat.le_add_right _ 345) hs2⟩) hD2 hS hA hP (fun a h1 h2 => hdis a h2 h1) (fun r_3 τ1 ν1 H locs hw hP2 hD2 hP hdis hS => ?_)
  obtain ⟨I2_4, hu, hgr, hfr, hFr, hr2⟩ := hw
  obtain ⟨hua, hub⟩ := Prod.mk.inj hu
  rw [hua, hub] at hP2 hD2
  rw [hua] at hdis
  have hG2 := hgr.1
  have hV2 := vt_12 hSH2 hL_that hK_that
  have hVn := vt_10 hSH hL_nw hK_nw
  have hVk := vt_10 hSH hL_kp hK_kp
  have hDN := (df_cl hDN hgx hVn (by decide +kernel) (by decide +kernel))
  have hDK := (df_cl hDK hgx hVk (by decide +kernel) (by decide +kernel))
  have hVr := vt_4 hSH hRDo.2.1 hRDo.2.2
  have hfv := fv_st (end_FV hRD) hfx hfr
  have hRD := hfv.2
  have hTN := (tc_cl hTN hgx (by decide +kernel))
  have hTK := (tc_cl hTK hgx (by decide +kernel))
  have hRN := (rl_cl hRN hgx hVn (by decide +kernel) (by decide +kernel))
  have hRK := (rl_cl hRK hgx hVk (by decide +kernel) (by decide +kernel))
  have hGN := (gr_cl hGN hgx hVn (by decide +kernel) (by decide +kernel) (by decide +kernel))
  have hGK := (gr_cl hGK hgx hVk (by decide +kernel) (by decide +kernel) (by decide +kernel))
  have hdis : ∀ a, a ∈ τ.1 → a ∉ σ.1 := fun a h1 h2 => hdis a h2 h1
  refine lv_pop hx hb dL_law_959 rfl ?_
  refine lv_goto (tgt := 1725) hx hb dL_law_960 (by decide +kernel) ?_
  exact kk _ _ H locs ls (by omega) (by omega) ⟨σ, I_2, J, ri, rj, rq, tg, τ, I2_4, J2, si, sj, sq, tg2, nw, kp, tr, rd, ⟨hP, hD, hSH, hG, hFI, hL_this, hK_this⟩, ⟨hP2, hD2, hSH2, hG2, hL_that, hK_that⟩, hdis, hTR, hAP, hRN, hRK, hGN, hGK, hDN, hDK, hRDo, hRD, hTN, hTK, hS⟩ hl
set_option maxHeartbeats 8000000 in
set_option maxRecDepth 100000 in
theorem lw_op_17 {p : Program} {e : Env} {s : State} {m : MethodId} {below : List Frame} {meth : Method} {c : Code} {b : Nat} (l : Launch) (hx : p.tables.exec = Jvm.exec) (hb : c.code = cL_law) (hr : meth.sig.returnType = ret) (hml : c.maxLocals = 4) (hown : s.vm.findClass RL = some m.cls) (hlocks : meth.locks = false) (hts : ∀ w ∈ (Cond.initialized RX11 :: wsL_law), w.before #[Value.ref b] s = true) {L : Nat} (xs : Nat → Int32) (hX : va_X b L xs s s.heap) (hbl : b < s.heap.size) (hM : L ≤ 3584) {D : va_G} {t : pq_T} (hK : va_K D vwCl (pq_ty t) s) (hN : pq_N s) {aK aV : Nat} {vF : Value} (hW0 : pq_W aK aV vF (fun q => s.heap.size ≤ q) s s.heap) {this that : Nat} {n : Nat} {x3 : Int32} (h3 : x3.toInt = 7 * (n : Int)) (hL : 7 * n + 7 ≤ L) {H : Heap} {locs : List Loc} {cells slots : Nat} (hc2 : cells + 4 ≤ room_1.cells) (hs2 : slots + 345 ≤ room_1.slots) (hI : LI s D t this that H locs) {ls : Array Slot} (hl : lv_has ls 4 [(3, .int x3), (2, .ref that), (1, .ref this), (0, .ref b)]) {Q : State → Prop} (kk : ∀ (cells2 slots2 : Nat) (H : Heap) (locs : List Loc) (ls : Array Slot), cells2 ≤ cells + 4 → slots2 ≤ slots + 345 → LI s D t this that H locs → lv_has ls 4 [(3, .int x3), (2, .ref that), (1, .ref this), (0, .ref b)] → W p l e room_1 s m #[Value.ref b] below meth c H locs cells2 slots2 Q (F0 m 1725 ls [])) : W p l e room_1 s m #[Value.ref b] below meth c H locs cells slots Q (F0 m 963 ls []) := by
  have hA : ∀ q : Nat, s.heap.size ≤ q → s.heap.size ≤ q := fun _ h => h
  obtain ⟨σ, I, J, ri, rj, rq, tg, τ, I2, J2, si, sj, sq, tg2, nw, kp, tr, rd, ⟨hP, hD, hSH, hG, hFI, hL_this, hK_this⟩, ⟨hP2, hD2, hSH2, hG2, hL_that, hK_that⟩, hdis, hTR, hAP, hRN, hRK, hGN, hGK, hDN, hDK, hRDo, hRD, hTN, hTK, hS⟩ := hI
  have hG00 := hG
  have hG20 := hG2
  have hR_rd := hRDo.1
  have hL_rd := hRDo.2.1
  have hK_rd := hRDo.2.2
  obtain ⟨⟨hR_nw, hL_nw, hK_nw⟩, ⟨hR_kp, hL_kp, hK_kp⟩, ⟨hR_tr, hL_tr, hK_tr⟩, -⟩ := id hTR
  refine lv_aload_n hx hb dL_law_963 rfl (lv_at hl 2 rfl) ?_
  refine lx_i (va_runV (As := []) (rest := []) ⟨hx, hb, hml, hown, hts⟩ (s_X11_text l D t σ I J ri rj rq H.size aK aV vF tg hSH hG hFI this hL_this hK_this) (cwV 0 hts (tw_V tw_644 tw_645 tw_646 tw_2 tw_647) rfl rfl rfl cv_yX11_text_0 ⟨Nat.le_of_ble_eq_true rfl, Nat.le_of_ble_eq_true rfl⟩) ⟨pq_blindS, pq_recv hK hP hL_this hK_this (by decide +kernel) rfl, pq_preS hK hN hP hD hS hA hW0⟩ rfl rfl hl.1 rfl (lv_room (Nat.le_of_ble_eq_true rfl)) dL_law_964 ⟨hc2, hs2⟩) hD hS hA hP2 hdis (fun r_1 σ1 μ1 H locs hw hP hD hP2 hdis hS => ?_)
  obtain ⟨σ_2, tg_3, I_4, J_5, ri_6, rq_7, hu, hSH1, hG, hFI, hex, hkc, hkr, hTX⟩ := hw
  obtain ⟨hua, hub⟩ := Prod.mk.inj hu
  rw [hua, hub] at hP hD
  rw [hua] at hdis
  have hRN := vr_ex hex hSH hL_nw hK_nw hRN hkc (by decide +kernel) hkr (by decide +kernel)
  have hRK := vr_ex hex hSH hL_kp hK_kp hRK hkc (by decide +kernel) hkr (by decide +kernel)
  have hGN := gr_ex hex hSH hL_nw hK_nw hGN hkc (by decide +kernel) hkr (by decide +kernel)
  have hGK := gr_ex hex hSH hL_kp hK_kp hGK hkc (by decide +kernel) hkr (by decide +kernel)
  have hDN := df_ex hex hSH hL_nw hK_nw hDN hkc (by decide +kernel) hkr (by decide +kernel)
  have hDK := df_ex hex hSH hL_kp hK_kp hDK hkc (by decide +kernel) hkr (by decide +kernel)
  have hSHo := hSH
  have hLo := hL_this
  have hTRo := hTR
  have hAPo := hAP
  have hRDp := hRDo
  have hRDo : σ_2.2.2.1 356 this = some rd ∧ rd ∈ σ_2.1 ∧ σ_2.2.1 rd = 4 := ⟨((hex this hL_this).2.2.2.2 356 (by decide +kernel)).trans hRDo.1, (hex rd hRDo.2.1).1, (hex rd hRDo.2.1).2.1.trans hRDo.2.2⟩
  have hAP := aps_ex hex hSH hSH1 hTR hAP
  have hTR := tr6_ex hex hL_this hTR
  have hSH := hSH1
  have hK_this := (hex this hL_this).2.1.trans hK_this
  have hL_this := (hex this hL_this).1
  refine lv_pop hx hb dL_law_967 rfl ?_
  refine lv_aload_n hx hb dL_law_968 rfl (lv_at hl 1 rfl) ?_
  obtain ⟨o_8, hR_o_8, hL_o_8, hK_o_8, hN_o_8, hT_o_8⟩ := sh_a hSH2 384 (ci := 12) (kd := 13) (len := 12720) rfl (by decide +kernel) hL_that hK_that
  refine lx_i (va_runV (As := []) (rest := []) ⟨hx, hb, hml, hown, hts⟩ (s_X12_text l D t τ I2 J2 si sj sq H.size tg2 hSH2 hG2 that hL_that hK_that o_8 hR_o_8 hL_o_8 hK_o_8 hN_o_8 hT_o_8) (cwV 0 hts (tw_V tw_816 tw_817 tw_818 tw_5 tw_819) rfl rfl rfl cv_yX12_text_0 ⟨Nat.le_of_ble_eq_true rfl, Nat.le_of_ble_eq_true rfl⟩) ⟨pq_blind, pq_recv hK hP2 hL_that hK_that (by decide +kernel) rfl, pq_pre hK hN hP2 hD2⟩ rfl rfl hl.1 rfl (lv_room (Nat.le_of_ble_eq_true rfl)) dL_law_969 ⟨hc2, hs2⟩) hD2 hS hA hP (fun a h1 h2 => hdis a h2 h1) (fun r_9 τ1 ν1 H locs hw hP2 hD2 hP hdis hS => ?_)
  obtain ⟨I2_10, J2_11, si_12, hu, hgr, hp_13, hfr, hFr, hr2⟩ := hw
  obtain ⟨hua, hub⟩ := Prod.mk.inj hu
  rw [hua, hub] at hP2 hD2
  rw [hua] at hdis
  have hG2 := hgr.1
  have hV2 := vt_12 hSH2 hL_that hK_that
  have hDN := (df_rf hDN hgr hV2 (by decide +kernel))
  have hDK := (df_im hDK hgr hV2 (by decide +kernel))
  have hVr := vt_4 hSH hRDo.2.1 hRDo.2.2
  have hts3 := text_st hSHo hSH1 hex hTRo.1 hTRo.2.1.2 hRDp hAPo.1 hTX hkc (by decide +kernel) hRD hTN hTK (c67_of hG20 hV2).1 (p401_of hG20) hfr (fun q => by rw [vr_row (Or.inl rfl) hR_o_8, vr_row (Or.inl rfl) hR_o_8]; exact hp_13 q) (by rw [vr_row (Or.inl rfl) hR_o_8, vr_row (Or.inl rfl) hR_o_8]; exact hgr.2.2.1 _ hT_o_8 7 (by decide +kernel) (by decide +kernel))
  have hRD := hts3.2.1
  have hTN := hts3.2.2.1
  have hTK := (tc_im hts3.2.2.2 hgr hV2 (by decide +kernel))
  have hRN := (rl_rf hRN hgr hV2 (by decide +kernel))
  have hRK := (rl_im hRK hgr hV2 (by decide +kernel))
  have hGN := (gr_rf hGN hgr hV2 (by decide +kernel))
  have hGK := (gr_im hGK hgr hV2 (by decide +kernel))
  have hdis : ∀ a, a ∈ τ.1 → a ∉ σ_2.1 := fun a h1 h2 => hdis a h2 h1
  refine lv_pop hx hb dL_law_972 rfl ?_
  refine lv_goto (tgt := 1725) hx hb dL_law_973 (by decide +kernel) ?_
  exact kk _ _ H locs ls (by omega) (by omega) ⟨σ_2, I_4, J_5, ri_6, rj, rq_7, tg_3, τ, I2_10, J2_11, si_12, sj, sq, tg2, nw, kp, tr, rd, ⟨hP, hD, hSH, hG, hFI, hL_this, hK_this⟩, ⟨hP2, hD2, hSH2, hG2, hL_that, hK_that⟩, hdis, hTR, hAP, hRN, hRK, hGN, hGK, hDN, hDK, hRDo, hRD, hTN, hTK, hS⟩ hl
set_option maxHeartbeats 8000000 in
set_option maxRecDepth 100000 in
theorem lw_op_18 {p : Program} {e : Env} {s : State} {m : MethodId} {below : List Frame} {meth : Method} {c : Code} {b : Nat} (l : Launch) (hx : p.tables.exec = Jvm.exec) (hb : c.code = cL_law) (hr : meth.sig.returnType = ret) (hml : c.maxLocals = 4) (hown : s.vm.findClass RL = some m.cls) (hlocks : meth.locks = false) (hts : ∀ w ∈ (Cond.initialized RX11 :: wsL_law), w.before #[Value.ref b] s = true) {L : Nat} (xs : Nat → Int32) (hX : va_X b L xs s s.heap) (hbl : b < s.heap.size) (hM : L ≤ 3584) {D : va_G} {t : pq_T} (hK : va_K D vwCl (pq_ty t) s) (hN : pq_N s) {aK aV : Nat} {vF : Value} (hW0 : pq_W aK aV vF (fun q => s.heap.size ≤ q) s s.heap) {this that : Nat} {n : Nat} {x3 : Int32} (h3 : x3.toInt = 7 * (n : Int)) (hL : 7 * n + 7 ≤ L) {H : Heap} {locs : List Loc} {cells slots : Nat} (hc2 : cells + 4 ≤ room_1.cells) (hs2 : slots + 345 ≤ room_1.slots) (hI : LI s D t this that H locs) {ls : Array Slot} (hl : lv_has ls 4 [(3, .int x3), (2, .ref that), (1, .ref this), (0, .ref b)]) {Q : State → Prop} (kk : ∀ (cells2 slots2 : Nat) (H : Heap) (locs : List Loc) (ls : Array Slot), cells2 ≤ cells + 4 → slots2 ≤ slots + 345 → LI s D t this that H locs → lv_has ls 4 [(3, .int x3), (2, .ref that), (1, .ref this), (0, .ref b)] → W p l e room_1 s m #[Value.ref b] below meth c H locs cells2 slots2 Q (F0 m 1725 ls [])) : W p l e room_1 s m #[Value.ref b] below meth c H locs cells slots Q (F0 m 976 ls []) := by
  have hA : ∀ q : Nat, s.heap.size ≤ q → s.heap.size ≤ q := fun _ h => h
  obtain ⟨σ, I, J, ri, rj, rq, tg, τ, I2, J2, si, sj, sq, tg2, nw, kp, tr, rd, ⟨hP, hD, hSH, hG, hFI, hL_this, hK_this⟩, ⟨hP2, hD2, hSH2, hG2, hL_that, hK_that⟩, hdis, hTR, hAP, hRN, hRK, hGN, hGK, hDN, hDK, hRDo, hRD, hTN, hTK, hS⟩ := hI
  have hG00 := hG
  have hG20 := hG2
  have hR_rd := hRDo.1
  have hL_rd := hRDo.2.1
  have hK_rd := hRDo.2.2
  obtain ⟨⟨hR_nw, hL_nw, hK_nw⟩, ⟨hR_kp, hL_kp, hK_kp⟩, ⟨hR_tr, hL_tr, hK_tr⟩, -⟩ := id hTR
  refine lv_aload_n hx hb dL_law_976 rfl (lv_at hl 2 rfl) ?_
  refine lv_aload_n hx hb dL_law_977 rfl (lv_at hl 3 rfl) ?_
  refine lv_iload_n hx hb dL_law_978 rfl (lv_at hl 0 rfl) ?_
  refine lv_iconst (v := 1) hx hb dL_law_979 (by decide +kernel) ?_
  refine lv_iadd hx hb dL_law_980 ?_
  refine va_sld hx hb hX hbl (Nat.not_le.mpr hbl) hS (lw_ix h3 hL hM (rg_w (rg_k (1 : Int32) 1 rfl) (by decide +kernel))) dL_law_981 ?_
  refine lx_i (va_runV (As := [.int (xs (x3 + 1).toNatClampNeg)]) (rest := []) ⟨hx, hb, hml, hown, hts⟩ (s_X11_fault l D t σ I J ri rj rq H.size tg hSH hG this (xs (x3 + 1).toNatClampNeg : Int32) hL_this hK_this rd hR_rd hL_rd hK_rd) (cwV 1 hts (tw_V tw_937 tw_938 tw_939 tw_2 tw_940) rfl rfl rfl cv_yX11_fault_1 ⟨Nat.le_of_ble_eq_true rfl, Nat.le_of_ble_eq_true rfl⟩) ⟨pq_blind, pq_recv hK hP hL_this hK_this (by decide +kernel) rfl, pq_pre hK hN hP hD⟩ rfl rfl hl.1 rfl (lv_room (Nat.le_of_ble_eq_true rfl)) dL_law_982 ⟨Nat.le_trans (Nat.le_add_right _ 4) hc2, Nat.le_trans (Nat.le_add_right _ 345) hs2⟩) hD hS hA hP2 hdis (fun r_1 σ1 μ1 H locs hw hP hD hP2 hdis hS => ?_)
  obtain ⟨hu, hfx⟩ := hw
  obtain ⟨hua, hub⟩ := Prod.mk.inj hu
  rw [hua, hub] at hP hD
  rw [hua] at hdis
  refine lv_pop hx hb dL_law_985 rfl ?_
  refine lv_aload_n hx hb dL_law_986 rfl (lv_at hl 1 rfl) ?_
  refine lv_aload_n hx hb dL_law_987 rfl (lv_at hl 3 rfl) ?_
  refine lv_iload_n hx hb dL_law_988 rfl (lv_at hl 0 rfl) ?_
  refine lv_iconst (v := 1) hx hb dL_law_989 (by decide +kernel) ?_
  refine lv_iadd hx hb dL_law_990 ?_
  refine va_sld hx hb hX hbl (Nat.not_le.mpr hbl) hS (lw_ix h3 hL hM (rg_w (rg_k (1 : Int32) 1 rfl) (by decide +kernel))) dL_law_991 ?_
  refine lx_i (va_runV (As := [.int (xs (x3 + 1).toNatClampNeg)]) (rest := []) ⟨hx, hb, hml, hown, hts⟩ (s_X12_fault l D t τ I2 J2 si sj sq H.size tg2 hSH2 hG2 that (xs (x3 + 1).toNatClampNeg : Int32) hL_that hK_that) (cwV 1 hts (tw_V tw_942 tw_943 tw_944 tw_5 tw_945) rfl rfl rfl cv_yX12_fault_1 ⟨Nat.le_of_ble_eq_true rfl, Nat.le_of_ble_eq_true rfl⟩) ⟨pq_blind, pq_recv hK hP2 hL_that hK_that (by decide +kernel) rfl, pq_pre hK hN hP2 hD2⟩ rfl rfl hl.1 rfl (lv_room (Nat.le_of_ble_eq_true rfl)) dL_law_992 ⟨Nat.le_trans (Nat.le_add_right _ 4) hc2, Nat.le_trans (Nat.le_add_right _ 345) hs2⟩) hD2 hS hA hP (fun a h1 h2 => hdis a h2 h1) (fun r_2 τ1 ν1 H locs hw hP2 hD2 hP hdis hS => ?_)
  obtain ⟨hu, hfr⟩ := hw
  obtain ⟨hua, hub⟩ := Prod.mk.inj hu
  rw [hua, hub] at hP2 hD2
  rw [hua] at hdis
  have hV2 := vt_12 hSH2 hL_that hK_that
  have hDN := hDN
  have hDK := hDK
  have hVr := vt_4 hSH hRDo.2.1 hRDo.2.2
  have he0 := fst_st (fault_v hRD) hfx hfr
  have hRD := hRD
  have hTN := hTN
  have hTK := hTK
  have hRN := hRN
  have hRK := hRK
  have hGN := hGN
  have hGK := hGK
  have hdis : ∀ a, a ∈ τ.1 → a ∉ σ.1 := fun a h1 h2 => hdis a h2 h1
  refine lv_pop hx hb dL_law_995 rfl ?_
  refine lv_goto (tgt := 1725) hx hb dL_law_996 (by decide +kernel) ?_
  exact kk _ _ H locs ls (by omega) (by omega) ⟨σ, I, J, ri, rj, rq, tg, τ, I2, J2, si, sj, sq, tg2, nw, kp, tr, rd, ⟨hP, hD, hSH, hG, hFI, hL_this, hK_this⟩, ⟨hP2, hD2, hSH2, hG2, hL_that, hK_that⟩, hdis, hTR, hAP, hRN, hRK, hGN, hGK, hDN, hDK, hRDo, hRD, hTN, hTK, hS⟩ hl
set_option maxHeartbeats 8000000 in
set_option maxRecDepth 100000 in
theorem lw_op_19 {p : Program} {e : Env} {s : State} {m : MethodId} {below : List Frame} {meth : Method} {c : Code} {b : Nat} (l : Launch) (hx : p.tables.exec = Jvm.exec) (hb : c.code = cL_law) (hr : meth.sig.returnType = ret) (hml : c.maxLocals = 4) (hown : s.vm.findClass RL = some m.cls) (hlocks : meth.locks = false) (hts : ∀ w ∈ (Cond.initialized RX11 :: wsL_law), w.before #[Value.ref b] s = true) {L : Nat} (xs : Nat → Int32) (hX : va_X b L xs s s.heap) (hbl : b < s.heap.size) (hM : L ≤ 3584) {D : va_G} {t : pq_T} (hK : va_K D vwCl (pq_ty t) s) (hN : pq_N s) {aK aV : Nat} {vF : Value} (hW0 : pq_W aK aV vF (fun q => s.heap.size ≤ q) s s.heap) {this that : Nat} {n : Nat} {x3 : Int32} (h3 : x3.toInt = 7 * (n : Int)) (hL : 7 * n + 7 ≤ L) {H : Heap} {locs : List Loc} {cells slots : Nat} (hc2 : cells + 4 ≤ room_1.cells) (hs2 : slots + 345 ≤ room_1.slots) (hI : LI s D t this that H locs) {ls : Array Slot} (hl : lv_has ls 4 [(3, .int x3), (2, .ref that), (1, .ref this), (0, .ref b)]) {Q : State → Prop} (kk : ∀ (cells2 slots2 : Nat) (H : Heap) (locs : List Loc) (ls : Array Slot), cells2 ≤ cells + 4 → slots2 ≤ slots + 345 → LI s D t this that H locs → lv_has ls 4 [(3, .int x3), (2, .ref that), (1, .ref this), (0, .ref b)] → W p l e room_1 s m #[Value.ref b] below meth c H locs cells2 slots2 Q (F0 m 1725 ls [])) : W p l e room_1 s m #[Value.ref b] below meth c H locs cells slots Q (F0 m 999 ls []) := by
  have hA : ∀ q : Nat, s.heap.size ≤ q → s.heap.size ≤ q := fun _ h => h
  obtain ⟨σ, I, J, ri, rj, rq, tg, τ, I2, J2, si, sj, sq, tg2, nw, kp, tr, rd, ⟨hP, hD, hSH, hG, hFI, hL_this, hK_this⟩, ⟨hP2, hD2, hSH2, hG2, hL_that, hK_that⟩, hdis, hTR, hAP, hRN, hRK, hGN, hGK, hDN, hDK, hRDo, hRD, hTN, hTK, hS⟩ := hI
  have hG00 := hG
  have hG20 := hG2
  have hR_rd := hRDo.1
  have hL_rd := hRDo.2.1
  have hK_rd := hRDo.2.2
  obtain ⟨⟨hR_nw, hL_nw, hK_nw⟩, ⟨hR_kp, hL_kp, hK_kp⟩, ⟨hR_tr, hL_tr, hK_tr⟩, -⟩ := id hTR
  refine lv_aload_n hx hb dL_law_999 rfl (lv_at hl 2 rfl) ?_
  refine lv_aload_n hx hb dL_law_1000 rfl (lv_at hl 3 rfl) ?_
  refine lv_iload_n hx hb dL_law_1001 rfl (lv_at hl 0 rfl) ?_
  refine lv_iconst (v := 1) hx hb dL_law_1002 (by decide +kernel) ?_
  refine lv_iadd hx hb dL_law_1003 ?_
  refine va_sld hx hb hX hbl (Nat.not_le.mpr hbl) hS (lw_ix h3 hL hM (rg_w (rg_k (1 : Int32) 1 rfl) (by decide +kernel))) dL_law_1004 ?_
  refine lv_aload_n hx hb dL_law_1005 rfl (lv_at hl 3 rfl) ?_
  refine lv_iload_n hx hb dL_law_1006 rfl (lv_at hl 0 rfl) ?_
  refine lv_iconst (v := 2) hx hb dL_law_1007 (by decide +kernel) ?_
  refine lv_iadd hx hb dL_law_1008 ?_
  refine va_sld hx hb hX hbl (Nat.not_le.mpr hbl) hS (lw_ix h3 hL hM (rg_w (rg_k (2 : Int32) 2 rfl) (by decide +kernel))) dL_law_1009 ?_
  refine lv_aload_n hx hb dL_law_1010 rfl (lv_at hl 3 rfl) ?_
  refine lv_iload_n hx hb dL_law_1011 rfl (lv_at hl 0 rfl) ?_
  refine lv_iconst (v := 3) hx hb dL_law_1012 (by decide +kernel) ?_
  refine lv_iadd hx hb dL_law_1013 ?_
  refine va_sld hx hb hX hbl (Nat.not_le.mpr hbl) hS (lw_ix h3 hL hM (rg_w (rg_k (3 : Int32) 3 rfl) (by decide +kernel))) dL_law_1014 ?_
  refine lx_i (va_runV (As := [.int (xs (x3 + 1).toNatClampNeg), .int (xs (x3 + 2).toNatClampNeg), .int (xs (x3 + 3).toNatClampNeg)]) (rest := []) ⟨hx, hb, hml, hown, hts⟩ (s_X11_force l D t σ I J ri rj rq H.size tg hSH hG this (xs (x3 + 1).toNatClampNeg : Int32) (xs (x3 + 2).toNatClampNeg : Int32) (xs (x3 + 3).toNatClampNeg : Int32) hL_this hK_this nw hR_nw hL_nw hK_nw) (cwV 3 hts (tw_V tw_946 tw_947 tw_948 tw_2 tw_949) rfl rfl rfl cv_yX11_force_3 ⟨Nat.le_of_ble_eq_true rfl, Nat.le_of_ble_eq_true rfl⟩) ⟨pq_blind, pq_recv hK hP hL_this hK_this (by decide +kernel) rfl, pq_pre hK hN hP hD⟩ rfl rfl hl.1 rfl (lv_room (Nat.le_of_ble_eq_true rfl)) dL_law_1015 ⟨Nat.le_trans (Nat.le_add_right _ 4) hc2, Nat.le_trans (Nat.le_add_right _ 345) hs2⟩) hD hS hA hP2 hdis (fun r_1 σ1 μ1 H locs hw hP hD hP2 hdis hS => ?_)
  obtain ⟨I_2, ri_3, hu, hgx, hfx, hFx, hr1⟩ := hw
  obtain ⟨hua, hub⟩ := Prod.mk.inj hu
  rw [hua, hub] at hP hD
  rw [hua] at hdis
  have hG := hgx.1
  refine lv_pop hx hb dL_law_1018 rfl ?_
  refine lv_aload_n hx hb dL_law_1019 rfl (lv_at hl 1 rfl) ?_
  refine lv_aload_n hx hb dL_law_1020 rfl (lv_at hl 3 rfl) ?_
  refine lv_iload_n hx hb dL_law_1021 rfl (lv_at hl 0 rfl) ?_
  refine lv_iconst (v := 1) hx hb dL_law_1022 (by decide +kernel) ?_
  refine lv_iadd hx hb dL_law_1023 ?_
  refine va_sld hx hb hX hbl (Nat.not_le.mpr hbl) hS (lw_ix h3 hL hM (rg_w (rg_k (1 : Int32) 1 rfl) (by decide +kernel))) dL_law_1024 ?_
  refine lv_aload_n hx hb dL_law_1025 rfl (lv_at hl 3 rfl) ?_
  refine lv_iload_n hx hb dL_law_1026 rfl (lv_at hl 0 rfl) ?_
  refine lv_iconst (v := 2) hx hb dL_law_1027 (by decide +kernel) ?_
  refine lv_iadd hx hb dL_law_1028 ?_
  refine va_sld hx hb hX hbl (Nat.not_le.mpr hbl) hS (lw_ix h3 hL hM (rg_w (rg_k (2 : Int32) 2 rfl) (by decide +kernel))) dL_law_1029 ?_
  refine lv_aload_n hx hb dL_law_1030 rfl (lv_at hl 3 rfl) ?_
  refine lv_iload_n hx hb dL_law_1031 rfl (lv_at hl 0 rfl) ?_
  refine lv_iconst (v := 3) hx hb dL_law_1032 (by decide +kernel) ?_
  refine lv_iadd hx hb dL_law_1033 ?_
  refine va_sld hx hb hX hbl (Nat.not_le.mpr hbl) hS (lw_ix h3 hL hM (rg_w (rg_k (3 : Int32) 3 rfl) (by decide +kernel))) dL_law_1034 ?_
  refine lx_i (va_runV (As := [.int (xs (x3 + 1).toNatClampNeg), .int (xs (x3 + 2).toNatClampNeg), .int (xs (x3 + 3).toNatClampNeg)]) (rest := []) ⟨hx, hb, hml, hown, hts⟩ (s_X12_force l D t τ I2 J2 si sj sq H.size tg2 hSH2 hG2 that (xs (x3 + 1).toNatClampNeg : Int32) (xs (x3 + 2).toNatClampNeg : Int32) (xs (x3 + 3).toNatClampNeg : Int32) hL_that hK_that) (cwV 3 hts (tw_V tw_955 tw_956 tw_957 tw_5 tw_958) rfl rfl rfl cv_yX12_force_3 ⟨Nat.le_of_ble_eq_true rfl, Nat.le_of_ble_eq_true rfl⟩) ⟨pq_blind, pq_recv hK hP2 hL_that hK_that (by decide +kernel) rfl, pq_pre hK hN hP2 hD2⟩ rfl rfl hl.1 rfl (lv_room (Nat.le_of_ble_eq_true rfl)) dL_law_1035 ⟨Nat.le_trans (Nat.le_add_right _ 4) hc2, Nat.le_trans (Nat.le_add_right _ 345) hs2⟩) hD2 hS hA hP (fun a h1 h2 => hdis a h2 h1) (fun r_4 τ1 ν1 H locs hw hP2 hD2 hP hdis hS => ?_)
  obtain ⟨si_5, hu, hgr, hfr, hFr, hr2⟩ := hw
  obtain ⟨hua, hub⟩ := Prod.mk.inj hu
  rw [hua, hub] at hP2 hD2
  rw [hua] at hdis
  have hG2 := hgr.1
  have hV2 := vt_12 hSH2 hL_that hK_that
  have hVn := vt_10 hSH hL_nw hK_nw
  have hVk := vt_10 hSH hL_kp hK_kp
  have hDN := (df_rf (df_cl hDN hgx hVn (by decide +kernel) (by decide +kernel)) hgr hV2 (by decide +kernel))
  have hDK := (df_im (df_cl hDK hgx hVk (by decide +kernel) (by decide +kernel)) hgr hV2 (by decide +kernel))
  have hVr := vt_4 hSH hRDo.2.1 hRDo.2.2
  have hRD := (rd_rf (rd_fr hRD hFx hAP.1.1 hVr) hgr hV2 (by decide +kernel))
  have htv := tv_st (force_TV hTN hRN.2.2.1.1 hRN.1.1.1 (c67_of hG20 hV2).2) hfx hfr
  have hTN := htv.2
  have hTK := (tc_im (tc_fr hTK hFx hAP.1) hgr hV2 (by decide +kernel))
  have hRN := (rl_rf (rl_cl hRN hgx hVn (by decide +kernel) (by decide +kernel)) hgr hV2 (by decide +kernel))
  have hRK := (rl_im (rl_cl hRK hgx hVk (by decide +kernel) (by decide +kernel)) hgr hV2 (by decide +kernel))
  have hGN := (gr_rf (gr_cl hGN hgx hVn (by decide +kernel) (by decide +kernel) (by decide +kernel)) hgr hV2 (by decide +kernel))
  have hGK := (gr_im (gr_cl hGK hgx hVk (by decide +kernel) (by decide +kernel) (by decide +kernel)) hgr hV2 (by decide +kernel))
  have hdis : ∀ a, a ∈ τ.1 → a ∉ σ.1 := fun a h1 h2 => hdis a h2 h1
  refine lv_pop hx hb dL_law_1038 rfl ?_
  refine lv_goto (tgt := 1725) hx hb dL_law_1039 (by decide +kernel) ?_
  exact kk _ _ H locs ls (by omega) (by omega) ⟨σ, I_2, J, ri_3, rj, rq, tg, τ, I2, J2, si_5, sj, sq, tg2, nw, kp, tr, rd, ⟨hP, hD, hSH, hG, hFI, hL_this, hK_this⟩, ⟨hP2, hD2, hSH2, hG2, hL_that, hK_that⟩, hdis, hTR, hAP, hRN, hRK, hGN, hGK, hDN, hDK, hRDo, hRD, hTN, hTK, hS⟩ hl
set_option maxHeartbeats 8000000 in
set_option maxRecDepth 100000 in
theorem lw_op_20 {p : Program} {e : Env} {s : State} {m : MethodId} {below : List Frame} {meth : Method} {c : Code} {b : Nat} (l : Launch) (hx : p.tables.exec = Jvm.exec) (hb : c.code = cL_law) (hr : meth.sig.returnType = ret) (hml : c.maxLocals = 4) (hown : s.vm.findClass RL = some m.cls) (hlocks : meth.locks = false) (hts : ∀ w ∈ (Cond.initialized RX11 :: wsL_law), w.before #[Value.ref b] s = true) {L : Nat} (xs : Nat → Int32) (hX : va_X b L xs s s.heap) (hbl : b < s.heap.size) (hM : L ≤ 3584) {D : va_G} {t : pq_T} (hK : va_K D vwCl (pq_ty t) s) (hN : pq_N s) {aK aV : Nat} {vF : Value} (hW0 : pq_W aK aV vF (fun q => s.heap.size ≤ q) s s.heap) {this that : Nat} {n : Nat} {x3 : Int32} (h3 : x3.toInt = 7 * (n : Int)) (hL : 7 * n + 7 ≤ L) {H : Heap} {locs : List Loc} {cells slots : Nat} (hc2 : cells + 4 ≤ room_1.cells) (hs2 : slots + 345 ≤ room_1.slots) (hI : LI s D t this that H locs) {ls : Array Slot} (hl : lv_has ls 4 [(3, .int x3), (2, .ref that), (1, .ref this), (0, .ref b)]) {Q : State → Prop} (kk : ∀ (cells2 slots2 : Nat) (H : Heap) (locs : List Loc) (ls : Array Slot), cells2 ≤ cells + 4 → slots2 ≤ slots + 345 → LI s D t this that H locs → lv_has ls 4 [(3, .int x3), (2, .ref that), (1, .ref this), (0, .ref b)] → W p l e room_1 s m #[Value.ref b] below meth c H locs cells2 slots2 Q (F0 m 1725 ls [])) : W p l e room_1 s m #[Value.ref b] below meth c H locs cells slots Q (F0 m 1042 ls []) := by
  have hA : ∀ q : Nat, s.heap.size ≤ q → s.heap.size ≤ q := fun _ h => h
  obtain ⟨σ, I, J, ri, rj, rq, tg, τ, I2, J2, si, sj, sq, tg2, nw, kp, tr, rd, ⟨hP, hD, hSH, hG, hFI, hL_this, hK_this⟩, ⟨hP2, hD2, hSH2, hG2, hL_that, hK_that⟩, hdis, hTR, hAP, hRN, hRK, hGN, hGK, hDN, hDK, hRDo, hRD, hTN, hTK, hS⟩ := hI
  have hG00 := hG
  have hG20 := hG2
  have hR_rd := hRDo.1
  have hL_rd := hRDo.2.1
  have hK_rd := hRDo.2.2
  obtain ⟨⟨hR_nw, hL_nw, hK_nw⟩, ⟨hR_kp, hL_kp, hK_kp⟩, ⟨hR_tr, hL_tr, hK_tr⟩, -⟩ := id hTR
  refine lv_aload_n hx hb dL_law_1042 rfl (lv_at hl 2 rfl) ?_
  refine lv_aload_n hx hb dL_law_1043 rfl (lv_at hl 3 rfl) ?_
  refine lv_iload_n hx hb dL_law_1044 rfl (lv_at hl 0 rfl) ?_
  refine lv_iconst (v := 1) hx hb dL_law_1045 (by decide +kernel) ?_
  refine lv_iadd hx hb dL_law_1046 ?_
  refine va_sld hx hb hX hbl (Nat.not_le.mpr hbl) hS (lw_ix h3 hL hM (rg_w (rg_k (1 : Int32) 1 rfl) (by decide +kernel))) dL_law_1047 ?_
  refine lv_aload_n hx hb dL_law_1048 rfl (lv_at hl 3 rfl) ?_
  refine lv_iload_n hx hb dL_law_1049 rfl (lv_at hl 0 rfl) ?_
  refine lv_iconst (v := 2) hx hb dL_law_1050 (by decide +kernel) ?_
  refine lv_iadd hx hb dL_law_1051 ?_
  refine va_sld hx hb hX hbl (Nat.not_le.mpr hbl) hS (lw_ix h3 hL hM (rg_w (rg_k (2 : Int32) 2 rfl) (by decide +kernel))) dL_law_1052 ?_
  refine lv_aload_n hx hb dL_law_1053 rfl (lv_at hl 3 rfl) ?_
  refine lv_iload_n hx hb dL_law_1054 rfl (lv_at hl 0 rfl) ?_
  refine lv_iconst (v := 3) hx hb dL_law_1055 (by decide +kernel) ?_
  refine lv_iadd hx hb dL_law_1056 ?_
  refine va_sld hx hb hX hbl (Nat.not_le.mpr hbl) hS (lw_ix h3 hL hM (rg_w (rg_k (3 : Int32) 3 rfl) (by decide +kernel))) dL_law_1057 ?_
  refine lx_i (va_runV (As := [.int (xs (x3 + 1).toNatClampNeg), .int (xs (x3 + 2).toNatClampNeg), .int (xs (x3 + 3).toNatClampNeg)]) (rest := []) ⟨hx, hb, hml, hown, hts⟩ (s_X11_is l D t σ I J ri rj rq H.size tg hSH hG this (xs (x3 + 1).toNatClampNeg : Int32) (xs (x3 + 2).toNatClampNeg : Int32) (xs (x3 + 3).toNatClampNeg : Int32) hL_this hK_this nw hR_nw hL_nw hK_nw) (cwV 3 hts (tw_V tw_959 tw_960 tw_961 tw_2 tw_962) rfl rfl rfl cv_yX11_is_3 ⟨Nat.le_of_ble_eq_true rfl, Nat.le_of_ble_eq_true rfl⟩) ⟨pq_blind, pq_recv hK hP hL_this hK_this (by decide +kernel) rfl, pq_pre hK hN hP hD⟩ rfl rfl hl.1 rfl (lv_room (Nat.le_of_ble_eq_true rfl)) dL_law_1058 ⟨Nat.le_trans (Nat.le_add_right _ 4) hc2, Nat.le_trans (Nat.le_add_right _ 345) hs2⟩) hD hS hA hP2 hdis (fun r_1 σ1 μ1 H locs hw hP hD hP2 hdis hS => ?_)
  obtain ⟨ri_2, hu, hgx, hfx, hFx, hr1⟩ := hw
  obtain ⟨hua, hub⟩ := Prod.mk.inj hu
  rw [hua, hub] at hP hD
  rw [hua] at hdis
  have hG := hgx.1
  refine lv_pop hx hb dL_law_1061 rfl ?_
  refine lv_aload_n hx hb dL_law_1062 rfl (lv_at hl 1 rfl) ?_
  refine lv_aload_n hx hb dL_law_1063 rfl (lv_at hl 3 rfl) ?_
  refine lv_iload_n hx hb dL_law_1064 rfl (lv_at hl 0 rfl) ?_
  refine lv_iconst (v := 1) hx hb dL_law_1065 (by decide +kernel) ?_
  refine lv_iadd hx hb dL_law_1066 ?_
  refine va_sld hx hb hX hbl (Nat.not_le.mpr hbl) hS (lw_ix h3 hL hM (rg_w (rg_k (1 : Int32) 1 rfl) (by decide +kernel))) dL_law_1067 ?_
  refine lv_aload_n hx hb dL_law_1068 rfl (lv_at hl 3 rfl) ?_
  refine lv_iload_n hx hb dL_law_1069 rfl (lv_at hl 0 rfl) ?_
  refine lv_iconst (v := 2) hx hb dL_law_1070 (by decide +kernel) ?_
  refine lv_iadd hx hb dL_law_1071 ?_
  refine va_sld hx hb hX hbl (Nat.not_le.mpr hbl) hS (lw_ix h3 hL hM (rg_w (rg_k (2 : Int32) 2 rfl) (by decide +kernel))) dL_law_1072 ?_
  refine lv_aload_n hx hb dL_law_1073 rfl (lv_at hl 3 rfl) ?_
  refine lv_iload_n hx hb dL_law_1074 rfl (lv_at hl 0 rfl) ?_
  refine lv_iconst (v := 3) hx hb dL_law_1075 (by decide +kernel) ?_
  refine lv_iadd hx hb dL_law_1076 ?_
  refine va_sld hx hb hX hbl (Nat.not_le.mpr hbl) hS (lw_ix h3 hL hM (rg_w (rg_k (3 : Int32) 3 rfl) (by decide +kernel))) dL_law_1077 ?_
  refine lx_i (va_runV (As := [.int (xs (x3 + 1).toNatClampNeg), .int (xs (x3 + 2).toNatClampNeg), .int (xs (x3 + 3).toNatClampNeg)]) (rest := []) ⟨hx, hb, hml, hown, hts⟩ (s_X12_is l D t τ I2 J2 si sj sq H.size tg2 hSH2 hG2 that (xs (x3 + 1).toNatClampNeg : Int32) (xs (x3 + 2).toNatClampNeg : Int32) (xs (x3 + 3).toNatClampNeg : Int32) hL_that hK_that) (cwV 3 hts (tw_V tw_967 tw_968 tw_969 tw_5 tw_970) rfl rfl rfl cv_yX12_is_3 ⟨Nat.le_of_ble_eq_true rfl, Nat.le_of_ble_eq_true rfl⟩) ⟨pq_blind, pq_recv hK hP2 hL_that hK_that (by decide +kernel) rfl, pq_pre hK hN hP2 hD2⟩ rfl rfl hl.1 rfl (lv_room (Nat.le_of_ble_eq_true rfl)) dL_law_1078 ⟨Nat.le_trans (Nat.le_add_right _ 4) hc2, Nat.le_trans (Nat.le_add_right _ 345) hs2⟩) hD2 hS hA hP (fun a h1 h2 => hdis a h2 h1) (fun r_3 τ1 ν1 H locs hw hP2 hD2 hP hdis hS => ?_)
  obtain ⟨si_4, sj_5, hu, hgr, hfr, hFr, hr2⟩ := hw
  obtain ⟨hua, hub⟩ := Prod.mk.inj hu
  rw [hua, hub] at hP2 hD2
  rw [hua] at hdis
  have hG2 := hgr.1
  have hV2 := vt_12 hSH2 hL_that hK_that
  have hVn := vt_10 hSH hL_nw hK_nw
  have hVk := vt_10 hSH hL_kp hK_kp
  have hDN := (df_rf (df_cl hDN hgx hVn (by decide +kernel) (by decide +kernel)) hgr hV2 (by decide +kernel))
  have hDK := (df_im (df_cl hDK hgx hVk (by decide +kernel) (by decide +kernel)) hgr hV2 (by decide +kernel))
  have hVr := vt_4 hSH hRDo.2.1 hRDo.2.2
  have hRD := (rd_rf (rd_fr hRD hFx hAP.1.1 hVr) hgr hV2 (by decide +kernel))
  have hTN := (tc_rf (tc_cl hTN hgx (by decide +kernel)) hgr hV2 (by decide +kernel))
  have hTK := (tc_im (tc_cl hTK hgx (by decide +kernel)) hgr hV2 (by decide +kernel))
  have hRN := (rl_rf (rl_cl hRN hgx hVn (by decide +kernel) (by decide +kernel)) hgr hV2 (by decide +kernel))
  have hRK := (rl_im (rl_cl hRK hgx hVk (by decide +kernel) (by decide +kernel)) hgr hV2 (by decide +kernel))
  have hGN := (gr_rf (gr_cl hGN hgx hVn (by decide +kernel) (by decide +kernel) (by decide +kernel)) hgr hV2 (by decide +kernel))
  have hGK := (gr_im (gr_cl hGK hgx hVk (by decide +kernel) (by decide +kernel) (by decide +kernel)) hgr hV2 (by decide +kernel))
  have hdis : ∀ a, a ∈ τ.1 → a ∉ σ.1 := fun a h1 h2 => hdis a h2 h1
  refine lv_pop hx hb dL_law_1081 rfl ?_
  refine lv_goto (tgt := 1725) hx hb dL_law_1082 (by decide +kernel) ?_
  exact kk _ _ H locs ls (by omega) (by omega) ⟨σ, I, J, ri_2, rj, rq, tg, τ, I2, J2, si_4, sj_5, sq, tg2, nw, kp, tr, rd, ⟨hP, hD, hSH, hG, hFI, hL_this, hK_this⟩, ⟨hP2, hD2, hSH2, hG2, hL_that, hK_that⟩, hdis, hTR, hAP, hRN, hRK, hGN, hGK, hDN, hDK, hRDo, hRD, hTN, hTK, hS⟩ hl
