theorem dX12_stands_0 : decode cX12_stands 0 = .ok (.aload_n 0, 1) := by decide +kernel
theorem dX12_stands_1 : decode cX12_stands 1 = .ok (.iload_n 1, 1) := by decide +kernel
theorem dX12_stands_2 : decode cX12_stands 2 = .ok (.bipush 14, 2) := by decide +kernel
theorem dX12_stands_4 : decode cX12_stands 4 = .ok (.invokevirtual 91, 3) := by decide +kernel
theorem dX12_stands_7 : decode cX12_stands 7 = .ok (.istore_n 2, 1) := by decide +kernel
theorem dX12_stands_8 : decode cX12_stands 8 = .ok (.iload_n 2, 1) := by decide +kernel
theorem dX12_stands_9 : decode cX12_stands 9 = .ok (.ifCond .ge 5, 3) := by decide +kernel
theorem dX12_stands_14 : decode cX12_stands 14 = .ok (.aload_n 0, 1) := by decide +kernel
theorem dX12_stands_15 : decode cX12_stands 15 = .ok (.getfield 7, 3) := by decide +kernel
theorem dX12_stands_18 : decode cX12_stands 18 = .ok (.iconst 0, 1) := by decide +kernel
theorem dX12_stands_19 : decode cX12_stands 19 = .ok (.iaload, 1) := by decide +kernel
theorem dX12_stands_56 : decode cX12_stands 56 = .ok (.iconst 1, 1) := by decide +kernel
theorem dX12_stands_57 : decode cX12_stands 57 = .ok (.goto 4, 3) := by decide +kernel
theorem dX12_stands_61 : decode cX12_stands 61 = .ok (.ireturn, 1) := by decide +kernel
theorem dX12_stands_20 : decode cX12_stands 20 = .ok (.ifCond .eq 36, 3) := by decide +kernel
theorem dX12_stands_23 : decode cX12_stands 23 = .ok (.aload_n 0, 1) := by decide +kernel
theorem dX12_stands_24 : decode cX12_stands 24 = .ok (.iload_n 1, 1) := by decide +kernel
theorem dX12_stands_25 : decode cX12_stands 25 = .ok (.bipush 12, 2) := by decide +kernel
theorem dX12_stands_27 : decode cX12_stands 27 = .ok (.invokevirtual 91, 3) := by decide +kernel
theorem dX12_stands_30 : decode cX12_stands 30 = .ok (.iconst 1, 1) := by decide +kernel
theorem dX12_stands_31 : decode cX12_stands 31 = .ok (.if_icmp .eq 25, 3) := by decide +kernel
theorem dX12_stands_34 : decode cX12_stands 34 = .ok (.aload_n 0, 1) := by decide +kernel
theorem dX12_stands_35 : decode cX12_stands 35 = .ok (.iconst 1, 1) := by decide +kernel
theorem dX12_stands_36 : decode cX12_stands 36 = .ok (.iload_n 2, 1) := by decide +kernel
theorem dX12_stands_37 : decode cX12_stands 37 = .ok (.aload_n 0, 1) := by decide +kernel
theorem dX12_stands_38 : decode cX12_stands 38 = .ok (.getfield 7, 3) := by decide +kernel
theorem dX12_stands_41 : decode cX12_stands 41 = .ok (.iconst 0, 1) := by decide +kernel
theorem dX12_stands_42 : decode cX12_stands 42 = .ok (.iaload, 1) := by decide +kernel
theorem dX12_stands_43 : decode cX12_stands 43 = .ok (.aload_n 0, 1) := by decide +kernel
theorem dX12_stands_44 : decode cX12_stands 44 = .ok (.iload_n 1, 1) := by decide +kernel
theorem dX12_stands_45 : decode cX12_stands 45 = .ok (.bipush 11, 2) := by decide +kernel
theorem dX12_stands_47 : decode cX12_stands 47 = .ok (.invokevirtual 91, 3) := by decide +kernel
theorem tw_597 : Cond.methodLink RX12 120 yX12_firstSo ∈ wsL_law := List.mem_of_getElem? (i := 597) (by decide +kernel)
theorem tw_598 : Cond.instanceMethod yX12_firstSo ∈ wsL_law := List.mem_of_getElem? (i := 598) (by decide +kernel)
theorem tw_599 : Cond.selects RX12 yX12_firstSo yX12_firstSo ∈ wsL_law := List.mem_of_getElem? (i := 599) (by decide +kernel)
theorem tw_600 : Cond.code yX12_firstSo cX12_firstSo 7 (some .int) ∈ wsL_law := List.mem_of_getElem? (i := 600) (by decide +kernel)
theorem dX12_stands_50 : decode cX12_stands 50 = .ok (.invokevirtual 120, 3) := by decide +kernel
theorem dX12_stands_53 : decode cX12_stands 53 = .ok (.ifCond .lt 7, 3) := by decide +kernel
theorem dX12_stands_60 : decode cX12_stands 60 = .ok (.iconst 0, 1) := by decide +kernel
theorem dX12_stands_12 : decode cX12_stands 12 = .ok (.iconst 0, 1) := by decide +kernel
theorem dX12_stands_13 : decode cX12_stands 13 = .ok (.ireturn, 1) := by decide +kernel
theorem dX12_titleOf_0 : decode cX12_titleOf 0 = .ok (.aload_n 0, 1) := by decide +kernel
theorem dX12_titleOf_1 : decode cX12_titleOf 1 = .ok (.iload_n 1, 1) := by decide +kernel
theorem dX12_titleOf_2 : decode cX12_titleOf 2 = .ok (.invokevirtual 88, 3) := by decide +kernel
theorem dX12_titleOf_17 : decode cX12_titleOf 17 = .ok (.iconst (-1), 1) := by decide +kernel
theorem dX12_titleOf_18 : decode cX12_titleOf 18 = .ok (.ireturn, 1) := by decide +kernel
theorem dX12_titleOf_5 : decode cX12_titleOf 5 = .ok (.ifCond .eq 12, 3) := by decide +kernel
theorem dX12_titleOf_8 : decode cX12_titleOf 8 = .ok (.iload_n 2, 1) := by decide +kernel
theorem dX12_titleOf_9 : decode cX12_titleOf 9 = .ok (.iconst 0, 1) := by decide +kernel
theorem dX12_titleOf_10 : decode cX12_titleOf 10 = .ok (.iconst 1, 1) := by decide +kernel
theorem dX12_titleOf_11 : decode cX12_titleOf 11 = .ok (.invokestatic 62, 3) := by decide +kernel
theorem dX12_titleOf_14 : decode cX12_titleOf 14 = .ok (.ifCond .ne 5, 3) := by decide +kernel
theorem dX12_titleOf_19 : decode cX12_titleOf 19 = .ok (.iload_n 2, 1) := by decide +kernel
theorem dX12_titleOf_20 : decode cX12_titleOf 20 = .ok (.ifCond .ne 13, 3) := by decide +kernel
theorem dX12_titleOf_33 : decode cX12_titleOf 33 = .ok (.aload_n 0, 1) := by decide +kernel
theorem dX12_titleOf_34 : decode cX12_titleOf 34 = .ok (.iload_n 1, 1) := by decide +kernel
theorem tw_593 : Cond.methodLink RX12 124 yX12_stands ∈ wsL_law := List.mem_of_getElem? (i := 593) (by decide +kernel)
theorem tw_594 : Cond.instanceMethod yX12_stands ∈ wsL_law := List.mem_of_getElem? (i := 594) (by decide +kernel)
theorem tw_595 : Cond.selects RX12 yX12_stands yX12_stands ∈ wsL_law := List.mem_of_getElem? (i := 595) (by decide +kernel)
theorem tw_596 : Cond.code yX12_stands cX12_stands 3 (some .boolean) ∈ wsL_law := List.mem_of_getElem? (i := 596) (by decide +kernel)
theorem dX12_titleOf_35 : decode cX12_titleOf 35 = .ok (.invokevirtual 124, 3) := by decide +kernel
theorem dX12_titleOf_38 : decode cX12_titleOf 38 = .ok (.ifCond .eq 7, 3) := by decide +kernel
theorem dX12_titleOf_45 : decode cX12_titleOf 45 = .ok (.iconst 0, 1) := by decide +kernel
theorem dX12_titleOf_46 : decode cX12_titleOf 46 = .ok (.ireturn, 1) := by decide +kernel
theorem dX12_titleOf_41 : decode cX12_titleOf 41 = .ok (.iconst 1, 1) := by decide +kernel
theorem dX12_titleOf_42 : decode cX12_titleOf 42 = .ok (.goto 4, 3) := by decide +kernel
theorem dX12_titleOf_23 : decode cX12_titleOf 23 = .ok (.aload_n 0, 1) := by decide +kernel
theorem dX12_titleOf_24 : decode cX12_titleOf 24 = .ok (.iload_n 1, 1) := by decide +kernel
theorem dX12_titleOf_25 : decode cX12_titleOf 25 = .ok (.bipush 14, 2) := by decide +kernel
theorem dX12_titleOf_27 : decode cX12_titleOf 27 = .ok (.invokevirtual 91, 3) := by decide +kernel
theorem dX12_titleOf_30 : decode cX12_titleOf 30 = .ok (.goto 16, 3) := by decide +kernel
theorem dX12_four_0 : decode cX12_four 0 = .ok (.bipush 24, 2) := by decide +kernel
theorem dX12_four_2 : decode cX12_four 2 = .ok (.istore_n 2, 1) := by decide +kernel
theorem dX12_four_3 : decode cX12_four 3 = .ok (.iload_n 2, 1) := by decide +kernel
theorem dX12_four_4 : decode cX12_four 4 = .ok (.ifCond .lt 35, 3) := by decide +kernel
theorem dX12_four_39 : decode cX12_four 39 = .ok (.return_, 1) := by decide +kernel
theorem dX12_four_7 : decode cX12_four 7 = .ok (.aload_n 0, 1) := by decide +kernel
theorem tw_179 : Cond.fieldLink RX12 19 "RingsUnderModel" "tape" "[I" ∈ wsL_law := List.mem_of_getElem? (i := 179) (by decide +kernel)
theorem dX12_four_8 : decode cX12_four 8 = .ok (.getfield 19, 3) := by decide +kernel
theorem dX12_four_11 : decode cX12_four 11 = .ok (.aload_n 0, 1) := by decide +kernel
theorem tw_631 : Cond.fieldLink RX12 127 "RingsUnderModel" "taped" "I" ∈ wsL_law := List.mem_of_getElem? (i := 631) (by decide +kernel)
theorem dX12_four_12 : decode cX12_four 12 = .ok (.getfield 127, 3) := by decide +kernel
theorem dX12_four_15 : decode cX12_four 15 = .ok (.iload_n 1, 1) := by decide +kernel
theorem dX12_four_16 : decode cX12_four 16 = .ok (.iload_n 2, 1) := by decide +kernel
theorem dX12_four_17 : decode cX12_four 17 = .ok (.ishr, 1) := by decide +kernel
theorem dX12_four_18 : decode cX12_four 18 = .ok (.sipush 255, 3) := by decide +kernel
theorem dX12_four_21 : decode cX12_four 21 = .ok (.iand, 1) := by decide +kernel
theorem dX12_four_22 : decode cX12_four 22 = .ok (.iastore, 1) := by decide +kernel
theorem dX12_four_23 : decode cX12_four 23 = .ok (.aload_n 0, 1) := by decide +kernel
theorem dX12_four_24 : decode cX12_four 24 = .ok (.dup, 1) := by decide +kernel
theorem dX12_four_25 : decode cX12_four 25 = .ok (.getfield 127, 3) := by decide +kernel
theorem dX12_four_28 : decode cX12_four 28 = .ok (.iconst 1, 1) := by decide +kernel
theorem dX12_four_29 : decode cX12_four 29 = .ok (.iadd, 1) := by decide +kernel
theorem dX12_four_30 : decode cX12_four 30 = .ok (.putfield 127, 3) := by decide +kernel
theorem dX12_four_33 : decode cX12_four 33 = .ok (.iinc 2 (-8), 3) := by decide +kernel
theorem dX12_four_36 : decode cX12_four 36 = .ok (.goto (-33), 3) := by decide +kernel
theorem dX12_feed_0 : decode cX12_feed 0 = .ok (.aload_n 0, 1) := by decide +kernel
theorem dX12_feed_1 : decode cX12_feed 1 = .ok (.getfield 127, 3) := by decide +kernel
theorem dX12_feed_4 : decode cX12_feed 4 = .ok (.bipush 20, 2) := by decide +kernel
theorem dX12_feed_6 : decode cX12_feed 6 = .ok (.iadd, 1) := by decide +kernel
theorem dX12_feed_7 : decode cX12_feed 7 = .ok (.sipush 300, 3) := by decide +kernel
theorem dX12_feed_10 : decode cX12_feed 10 = .ok (.if_icmp .le 5, 3) := by decide +kernel
theorem dX12_feed_15 : decode cX12_feed 15 = .ok (.aload_n 0, 1) := by decide +kernel
theorem dX12_feed_16 : decode cX12_feed 16 = .ok (.iload_n 1, 1) := by decide +kernel
theorem tw_632 : Cond.methodLink RX12 130 yX12_four ∈ wsL_law := List.mem_of_getElem? (i := 632) (by decide +kernel)
theorem tw_633 : Cond.instanceMethod yX12_four ∈ wsL_law := List.mem_of_getElem? (i := 633) (by decide +kernel)
theorem tw_634 : Cond.selects RX12 yX12_four yX12_four ∈ wsL_law := List.mem_of_getElem? (i := 634) (by decide +kernel)
theorem tw_635 : Cond.code yX12_four cX12_four 3 none ∈ wsL_law := List.mem_of_getElem? (i := 635) (by decide +kernel)
theorem dX12_feed_17 : decode cX12_feed 17 = .ok (.invokevirtual 130, 3) := by decide +kernel
theorem dX12_feed_20 : decode cX12_feed 20 = .ok (.aload_n 0, 1) := by decide +kernel
theorem dX12_feed_21 : decode cX12_feed 21 = .ok (.iload_n 2, 1) := by decide +kernel
theorem dX12_feed_22 : decode cX12_feed 22 = .ok (.invokevirtual 130, 3) := by decide +kernel
theorem dX12_feed_25 : decode cX12_feed 25 = .ok (.aload_n 0, 1) := by decide +kernel
theorem dX12_feed_26 : decode cX12_feed 26 = .ok (.iload_n 3, 1) := by decide +kernel
theorem dX12_feed_27 : decode cX12_feed 27 = .ok (.invokevirtual 130, 3) := by decide +kernel
theorem dX12_feed_30 : decode cX12_feed 30 = .ok (.aload_n 0, 1) := by decide +kernel
theorem dX12_feed_31 : decode cX12_feed 31 = .ok (.iload 4, 2) := by decide +kernel
theorem dX12_feed_33 : decode cX12_feed 33 = .ok (.invokevirtual 130, 3) := by decide +kernel
theorem dX12_feed_36 : decode cX12_feed 36 = .ok (.aload_n 0, 1) := by decide +kernel
theorem dX12_feed_37 : decode cX12_feed 37 = .ok (.iload 5, 2) := by decide +kernel
theorem dX12_feed_39 : decode cX12_feed 39 = .ok (.invokevirtual 130, 3) := by decide +kernel
theorem dX12_feed_42 : decode cX12_feed 42 = .ok (.aload_n 0, 1) := by decide +kernel
theorem dX12_feed_43 : decode cX12_feed 43 = .ok (.getfield 127, 3) := by decide +kernel
theorem dX12_feed_46 : decode cX12_feed 46 = .ok (.ireturn, 1) := by decide +kernel
theorem dX12_feed_13 : decode cX12_feed 13 = .ok (.iconst (-1), 1) := by decide +kernel
theorem dX12_feed_14 : decode cX12_feed 14 = .ok (.ireturn, 1) := by decide +kernel
theorem dX12_end_0 : decode cX12_end 0 = .ok (.iload_n 1, 1) := by decide +kernel
theorem dX12_end_1 : decode cX12_end 1 = .ok (.iconst 0, 1) := by decide +kernel
theorem dX12_end_2 : decode cX12_end 2 = .ok (.aload_n 0, 1) := by decide +kernel
theorem dX12_end_3 : decode cX12_end 3 = .ok (.getfield 127, 3) := by decide +kernel
theorem dX12_end_6 : decode cX12_end 6 = .ok (.invokestatic 62, 3) := by decide +kernel
theorem dX12_end_9 : decode cX12_end 9 = .ok (.ifCond .ne 5, 3) := by decide +kernel
theorem dX12_end_14 : decode cX12_end 14 = .ok (.aload_n 0, 1) := by decide +kernel
theorem dX12_end_15 : decode cX12_end 15 = .ok (.iload_n 1, 1) := by decide +kernel
theorem dX12_end_16 : decode cX12_end 16 = .ok (.putfield 127, 3) := by decide +kernel
theorem dX12_end_19 : decode cX12_end 19 = .ok (.iload_n 1, 1) := by decide +kernel
theorem dX12_end_20 : decode cX12_end 20 = .ok (.ireturn, 1) := by decide +kernel
theorem dX12_end_12 : decode cX12_end 12 = .ok (.iconst (-1), 1) := by decide +kernel
theorem dX12_end_13 : decode cX12_end 13 = .ok (.ireturn, 1) := by decide +kernel
theorem dX12_see_0 : decode cX12_see 0 = .ok (.iload_n 1, 1) := by decide +kernel
theorem dX12_see_1 : decode cX12_see 1 = .ok (.aload_n 0, 1) := by decide +kernel
theorem dX12_see_2 : decode cX12_see 2 = .ok (.getfield 127, 3) := by decide +kernel
theorem dX12_see_5 : decode cX12_see 5 = .ok (.if_icmp .ge 12, 3) := by decide +kernel
theorem dX12_see_17 : decode cX12_see 17 = .ok (.iconst (-1), 1) := by decide +kernel
theorem dX12_see_18 : decode cX12_see 18 = .ok (.ireturn, 1) := by decide +kernel
theorem dX12_see_8 : decode cX12_see 8 = .ok (.aload_n 0, 1) := by decide +kernel
theorem dX12_see_9 : decode cX12_see 9 = .ok (.getfield 19, 3) := by decide +kernel
theorem dX12_see_12 : decode cX12_see 12 = .ok (.iload_n 1, 1) := by decide +kernel
theorem dX12_see_13 : decode cX12_see 13 = .ok (.iaload, 1) := by decide +kernel
theorem dX12_see_14 : decode cX12_see 14 = .ok (.goto 4, 3) := by decide +kernel
theorem dX12_isLetter_0 : decode cX12_isLetter 0 = .ok (.iload_n 0, 1) := by decide +kernel
theorem dX12_isLetter_1 : decode cX12_isLetter 1 = .ok (.bipush 97, 2) := by decide +kernel
theorem dX12_isLetter_3 : decode cX12_isLetter 3 = .ok (.bipush 122, 2) := by decide +kernel
theorem dX12_isLetter_5 : decode cX12_isLetter 5 = .ok (.invokestatic 62, 3) := by decide +kernel
theorem dX12_isLetter_22 : decode cX12_isLetter 22 = .ok (.iconst 1, 1) := by decide +kernel
theorem dX12_isLetter_23 : decode cX12_isLetter 23 = .ok (.goto 4, 3) := by decide +kernel
theorem dX12_isLetter_27 : decode cX12_isLetter 27 = .ok (.ireturn, 1) := by decide +kernel
theorem dX12_isLetter_8 : decode cX12_isLetter 8 = .ok (.ifCond .ne 14, 3) := by decide +kernel
theorem dX12_isLetter_11 : decode cX12_isLetter 11 = .ok (.iload_n 0, 1) := by decide +kernel
theorem dX12_isLetter_12 : decode cX12_isLetter 12 = .ok (.bipush 65, 2) := by decide +kernel
theorem dX12_isLetter_14 : decode cX12_isLetter 14 = .ok (.bipush 90, 2) := by decide +kernel
theorem dX12_isLetter_16 : decode cX12_isLetter 16 = .ok (.invokestatic 62, 3) := by decide +kernel
theorem dX12_isLetter_19 : decode cX12_isLetter 19 = .ok (.ifCond .eq 7, 3) := by decide +kernel
theorem dX12_isLetter_26 : decode cX12_isLetter 26 = .ok (.iconst 0, 1) := by decide +kernel
theorem dX12_isDigit_0 : decode cX12_isDigit 0 = .ok (.iload_n 0, 1) := by decide +kernel
theorem dX12_isDigit_1 : decode cX12_isDigit 1 = .ok (.bipush 48, 2) := by decide +kernel
theorem dX12_isDigit_3 : decode cX12_isDigit 3 = .ok (.bipush 57, 2) := by decide +kernel
theorem dX12_isDigit_5 : decode cX12_isDigit 5 = .ok (.invokestatic 62, 3) := by decide +kernel
theorem dX12_isDigit_8 : decode cX12_isDigit 8 = .ok (.ireturn, 1) := by decide +kernel
theorem dX12_nextToken_0 : decode cX12_nextToken 0 = .ok (.aload_n 0, 1) := by decide +kernel
theorem dX12_nextToken_1 : decode cX12_nextToken 1 = .ok (.aload_n 0, 1) := by decide +kernel
theorem tw_830 : Cond.fieldLink RX12 134 "RingsUnderModel" "at" "I" ∈ wsL_law := List.mem_of_getElem? (i := 830) (by decide +kernel)
theorem dX12_nextToken_2 : decode cX12_nextToken 2 = .ok (.getfield 134, 3) := by decide +kernel
theorem tw_839 : Cond.methodLink RX12 137 yX12_see ∈ wsL_law := List.mem_of_getElem? (i := 839) (by decide +kernel)
theorem tw_840 : Cond.instanceMethod yX12_see ∈ wsL_law := List.mem_of_getElem? (i := 840) (by decide +kernel)
theorem tw_841 : Cond.selects RX12 yX12_see yX12_see ∈ wsL_law := List.mem_of_getElem? (i := 841) (by decide +kernel)
theorem tw_842 : Cond.code yX12_see cX12_see 2 (some .int) ∈ wsL_law := List.mem_of_getElem? (i := 842) (by decide +kernel)
theorem dX12_nextToken_5 : decode cX12_nextToken 5 = .ok (.invokevirtual 137, 3) := by decide +kernel
theorem dX12_nextToken_8 : decode cX12_nextToken 8 = .ok (.bipush 32, 2) := by decide +kernel
theorem dX12_nextToken_26 : decode cX12_nextToken 26 = .ok (.aload_n 0, 1) := by decide +kernel
theorem dX12_nextToken_27 : decode cX12_nextToken 27 = .ok (.dup, 1) := by decide +kernel
theorem dX12_nextToken_28 : decode cX12_nextToken 28 = .ok (.getfield 134, 3) := by decide +kernel
theorem dX12_nextToken_31 : decode cX12_nextToken 31 = .ok (.iconst 1, 1) := by decide +kernel
theorem dX12_nextToken_32 : decode cX12_nextToken 32 = .ok (.iadd, 1) := by decide +kernel
theorem dX12_nextToken_33 : decode cX12_nextToken 33 = .ok (.putfield 134, 3) := by decide +kernel
theorem dX12_nextToken_36 : decode cX12_nextToken 36 = .ok (.goto (-36), 3) := by decide +kernel
theorem dX12_nextToken_10 : decode cX12_nextToken 10 = .ok (.if_icmp .eq 16, 3) := by decide +kernel
theorem dX12_nextToken_13 : decode cX12_nextToken 13 = .ok (.aload_n 0, 1) := by decide +kernel
theorem dX12_nextToken_14 : decode cX12_nextToken 14 = .ok (.aload_n 0, 1) := by decide +kernel
theorem dX12_nextToken_15 : decode cX12_nextToken 15 = .ok (.getfield 134, 3) := by decide +kernel
theorem dX12_nextToken_18 : decode cX12_nextToken 18 = .ok (.invokevirtual 137, 3) := by decide +kernel
theorem dX12_nextToken_21 : decode cX12_nextToken 21 = .ok (.bipush 10, 2) := by decide +kernel
theorem dX12_nextToken_23 : decode cX12_nextToken 23 = .ok (.if_icmp .ne 16, 3) := by decide +kernel
theorem dX12_nextToken_39 : decode cX12_nextToken 39 = .ok (.aload_n 0, 1) := by decide +kernel
theorem dX12_nextToken_40 : decode cX12_nextToken 40 = .ok (.aload_n 0, 1) := by decide +kernel
theorem dX12_nextToken_41 : decode cX12_nextToken 41 = .ok (.getfield 134, 3) := by decide +kernel
theorem tw_820 : Cond.fieldLink RX12 140 "RingsUnderModel" "place" "I" ∈ wsL_law := List.mem_of_getElem? (i := 820) (by decide +kernel)
theorem dX12_nextToken_44 : decode cX12_nextToken 44 = .ok (.putfield 140, 3) := by decide +kernel
theorem dX12_nextToken_47 : decode cX12_nextToken 47 = .ok (.aload_n 0, 1) := by decide +kernel
theorem dX12_nextToken_48 : decode cX12_nextToken 48 = .ok (.aload_n 0, 1) := by decide +kernel
theorem dX12_nextToken_49 : decode cX12_nextToken 49 = .ok (.getfield 134, 3) := by decide +kernel
theorem dX12_nextToken_52 : decode cX12_nextToken 52 = .ok (.invokevirtual 137, 3) := by decide +kernel
theorem dX12_nextToken_55 : decode cX12_nextToken 55 = .ok (.istore_n 1, 1) := by decide +kernel
theorem dX12_nextToken_56 : decode cX12_nextToken 56 = .ok (.iload_n 1, 1) := by decide +kernel
theorem dX12_nextToken_57 : decode cX12_nextToken 57 = .ok (.ifCond .ge 11, 3) := by decide +kernel
theorem dX12_nextToken_68 : decode cX12_nextToken 68 = .ok (.iload_n 1, 1) := by decide +kernel
theorem tw_843 : Cond.methodLink RX12 146 yX12_isDigit ∈ wsL_law := List.mem_of_getElem? (i := 843) (by decide +kernel)
theorem tw_844 : Cond.static yX12_isDigit ∈ wsL_law := List.mem_of_getElem? (i := 844) (by decide +kernel)
theorem tw_845 : Cond.code yX12_isDigit cX12_isDigit 1 (some .boolean) ∈ wsL_law := List.mem_of_getElem? (i := 845) (by decide +kernel)
theorem dX12_nextToken_69 : decode cX12_nextToken 69 = .ok (.invokestatic 146, 3) := by decide +kernel
theorem dX12_nextToken_72 : decode cX12_nextToken 72 = .ok (.ifCond .eq 72, 3) := by decide +kernel
theorem dX12_nextToken_144 : decode cX12_nextToken 144 = .ok (.iload_n 1, 1) := by decide +kernel
theorem tw_846 : Cond.methodLink RX12 153 yX12_isLetter ∈ wsL_law := List.mem_of_getElem? (i := 846) (by decide +kernel)
theorem tw_847 : Cond.static yX12_isLetter ∈ wsL_law := List.mem_of_getElem? (i := 847) (by decide +kernel)
theorem tw_848 : Cond.code yX12_isLetter cX12_isLetter 1 (some .boolean) ∈ wsL_law := List.mem_of_getElem? (i := 848) (by decide +kernel)
theorem dX12_nextToken_145 : decode cX12_nextToken 145 = .ok (.invokestatic 153, 3) := by decide +kernel
theorem dX12_nextToken_148 : decode cX12_nextToken 148 = .ok (.ifCond .eq 97, 3) := by decide +kernel
theorem dX12_nextToken_245 : decode cX12_nextToken 245 = .ok (.aload_n 0, 1) := by decide +kernel
theorem dX12_nextToken_246 : decode cX12_nextToken 246 = .ok (.dup, 1) := by decide +kernel
theorem dX12_nextToken_247 : decode cX12_nextToken 247 = .ok (.getfield 134, 3) := by decide +kernel
theorem dX12_nextToken_250 : decode cX12_nextToken 250 = .ok (.iconst 1, 1) := by decide +kernel
theorem dX12_nextToken_251 : decode cX12_nextToken 251 = .ok (.iadd, 1) := by decide +kernel
theorem dX12_nextToken_252 : decode cX12_nextToken 252 = .ok (.putfield 134, 3) := by decide +kernel
theorem dX12_nextToken_255 : decode cX12_nextToken 255 = .ok (.iload_n 1, 1) := by decide +kernel
theorem dX12_nextToken_256 : decode cX12_nextToken 256 = .ok (.bipush 60, 2) := by decide +kernel
theorem dX12_nextToken_332 : decode cX12_nextToken 332 = .ok (.istore_n 2, 1) := by decide +kernel
theorem dX12_nextToken_333 : decode cX12_nextToken 333 = .ok (.aload_n 0, 1) := by decide +kernel
theorem dX12_nextToken_334 : decode cX12_nextToken 334 = .ok (.iload_n 2, 1) := by decide +kernel
theorem tw_831 : Cond.fieldLink RX12 143 "RingsUnderModel" "token" "I" ∈ wsL_law := List.mem_of_getElem? (i := 831) (by decide +kernel)
theorem dX12_nextToken_343 : decode cX12_nextToken 343 = .ok (.putfield 143, 3) := by decide +kernel
theorem dX12_nextToken_346 : decode cX12_nextToken 346 = .ok (.iload_n 1, 1) := by decide +kernel
theorem dX12_nextToken_347 : decode cX12_nextToken 347 = .ok (.bipush 60, 2) := by decide +kernel
theorem dX12_nextToken_358 : decode cX12_nextToken 358 = .ok (.aload_n 0, 1) := by decide +kernel
theorem dX12_nextToken_359 : decode cX12_nextToken 359 = .ok (.aload_n 0, 1) := by decide +kernel
theorem dX12_nextToken_360 : decode cX12_nextToken 360 = .ok (.getfield 134, 3) := by decide +kernel
theorem dX12_nextToken_363 : decode cX12_nextToken 363 = .ok (.invokevirtual 137, 3) := by decide +kernel
theorem dX12_nextToken_366 : decode cX12_nextToken 366 = .ok (.bipush 61, 2) := by decide +kernel
theorem dX12_nextToken_368 : decode cX12_nextToken 368 = .ok (.if_icmp .ne 28, 3) := by decide +kernel
theorem dX12_nextToken_396 : decode cX12_nextToken 396 = .ok (.return_, 1) := by decide +kernel
theorem dX12_nextToken_371 : decode cX12_nextToken 371 = .ok (.aload_n 0, 1) := by decide +kernel
theorem dX12_nextToken_372 : decode cX12_nextToken 372 = .ok (.dup, 1) := by decide +kernel
theorem dX12_nextToken_373 : decode cX12_nextToken 373 = .ok (.getfield 134, 3) := by decide +kernel
theorem dX12_nextToken_376 : decode cX12_nextToken 376 = .ok (.iconst 1, 1) := by decide +kernel
theorem dX12_nextToken_377 : decode cX12_nextToken 377 = .ok (.iadd, 1) := by decide +kernel
theorem dX12_nextToken_378 : decode cX12_nextToken 378 = .ok (.putfield 134, 3) := by decide +kernel
theorem dX12_nextToken_381 : decode cX12_nextToken 381 = .ok (.aload_n 0, 1) := by decide +kernel
theorem dX12_nextToken_382 : decode cX12_nextToken 382 = .ok (.iload_n 1, 1) := by decide +kernel
theorem dX12_nextToken_383 : decode cX12_nextToken 383 = .ok (.bipush 60, 2) := by decide +kernel
theorem dX12_nextToken_393 : decode cX12_nextToken 393 = .ok (.putfield 143, 3) := by decide +kernel
theorem dX12_nextToken_385 : decode cX12_nextToken 385 = .ok (.if_icmp .ne 7, 3) := by decide +kernel
theorem dX12_nextToken_392 : decode cX12_nextToken 392 = .ok (.iconst 5, 1) := by decide +kernel
theorem dX12_nextToken_388 : decode cX12_nextToken 388 = .ok (.iconst 4, 1) := by decide +kernel
theorem dX12_nextToken_389 : decode cX12_nextToken 389 = .ok (.goto 4, 3) := by decide +kernel
theorem dX12_nextToken_349 : decode cX12_nextToken 349 = .ok (.if_icmp .eq 9, 3) := by decide +kernel
theorem dX12_nextToken_352 : decode cX12_nextToken 352 = .ok (.iload_n 1, 1) := by decide +kernel
theorem dX12_nextToken_353 : decode cX12_nextToken 353 = .ok (.bipush 62, 2) := by decide +kernel
theorem dX12_nextToken_355 : decode cX12_nextToken 355 = .ok (.if_icmp .ne 41, 3) := by decide +kernel
theorem dX12_nextToken_335 : decode cX12_nextToken 335 = .ok (.ifCond .eq 7, 3) := by decide +kernel
theorem dX12_nextToken_342 : decode cX12_nextToken 342 = .ok (.iconst 3, 1) := by decide +kernel
theorem dX12_nextToken_338 : decode cX12_nextToken 338 = .ok (.iload_n 1, 1) := by decide +kernel
theorem dX12_nextToken_339 : decode cX12_nextToken 339 = .ok (.goto 4, 3) := by decide +kernel
theorem dX12_nextToken_327 : decode cX12_nextToken 327 = .ok (.iconst 1, 1) := by decide +kernel
theorem dX12_nextToken_328 : decode cX12_nextToken 328 = .ok (.goto 4, 3) := by decide +kernel
theorem dX12_nextToken_258 : decode cX12_nextToken 258 = .ok (.if_icmp .eq 69, 3) := by decide +kernel
theorem dX12_nextToken_261 : decode cX12_nextToken 261 = .ok (.iload_n 1, 1) := by decide +kernel
theorem dX12_nextToken_262 : decode cX12_nextToken 262 = .ok (.bipush 62, 2) := by decide +kernel
theorem dX12_nextToken_264 : decode cX12_nextToken 264 = .ok (.if_icmp .eq 63, 3) := by decide +kernel
theorem dX12_nextToken_267 : decode cX12_nextToken 267 = .ok (.iload_n 1, 1) := by decide +kernel
theorem dX12_nextToken_268 : decode cX12_nextToken 268 = .ok (.bipush 61, 2) := by decide +kernel
theorem dX12_nextToken_270 : decode cX12_nextToken 270 = .ok (.if_icmp .eq 57, 3) := by decide +kernel
theorem dX12_nextToken_273 : decode cX12_nextToken 273 = .ok (.iload_n 1, 1) := by decide +kernel
theorem dX12_nextToken_274 : decode cX12_nextToken 274 = .ok (.bipush 35, 2) := by decide +kernel
theorem dX12_nextToken_276 : decode cX12_nextToken 276 = .ok (.if_icmp .eq 51, 3) := by decide +kernel
theorem dX12_nextToken_279 : decode cX12_nextToken 279 = .ok (.iload_n 1, 1) := by decide +kernel
theorem dX12_nextToken_280 : decode cX12_nextToken 280 = .ok (.bipush 43, 2) := by decide +kernel
theorem dX12_nextToken_282 : decode cX12_nextToken 282 = .ok (.if_icmp .eq 45, 3) := by decide +kernel
theorem dX12_nextToken_285 : decode cX12_nextToken 285 = .ok (.iload_n 1, 1) := by decide +kernel
theorem dX12_nextToken_286 : decode cX12_nextToken 286 = .ok (.bipush 45, 2) := by decide +kernel
theorem dX12_nextToken_288 : decode cX12_nextToken 288 = .ok (.if_icmp .eq 39, 3) := by decide +kernel
theorem dX12_nextToken_291 : decode cX12_nextToken 291 = .ok (.iload_n 1, 1) := by decide +kernel
theorem dX12_nextToken_292 : decode cX12_nextToken 292 = .ok (.bipush 42, 2) := by decide +kernel
theorem dX12_nextToken_294 : decode cX12_nextToken 294 = .ok (.if_icmp .eq 33, 3) := by decide +kernel
theorem dX12_nextToken_297 : decode cX12_nextToken 297 = .ok (.iload_n 1, 1) := by decide +kernel
theorem dX12_nextToken_298 : decode cX12_nextToken 298 = .ok (.bipush 47, 2) := by decide +kernel
theorem dX12_nextToken_300 : decode cX12_nextToken 300 = .ok (.if_icmp .eq 27, 3) := by decide +kernel
theorem dX12_nextToken_303 : decode cX12_nextToken 303 = .ok (.iload_n 1, 1) := by decide +kernel
theorem dX12_nextToken_304 : decode cX12_nextToken 304 = .ok (.bipush 40, 2) := by decide +kernel
theorem dX12_nextToken_306 : decode cX12_nextToken 306 = .ok (.if_icmp .eq 21, 3) := by decide +kernel
theorem dX12_nextToken_309 : decode cX12_nextToken 309 = .ok (.iload_n 1, 1) := by decide +kernel
theorem dX12_nextToken_310 : decode cX12_nextToken 310 = .ok (.bipush 41, 2) := by decide +kernel
theorem dX12_nextToken_312 : decode cX12_nextToken 312 = .ok (.if_icmp .eq 15, 3) := by decide +kernel
theorem dX12_nextToken_315 : decode cX12_nextToken 315 = .ok (.iload_n 1, 1) := by decide +kernel
theorem dX12_nextToken_316 : decode cX12_nextToken 316 = .ok (.bipush 44, 2) := by decide +kernel
theorem dX12_nextToken_318 : decode cX12_nextToken 318 = .ok (.if_icmp .eq 9, 3) := by decide +kernel
theorem dX12_nextToken_321 : decode cX12_nextToken 321 = .ok (.iload_n 1, 1) := by decide +kernel
theorem dX12_nextToken_322 : decode cX12_nextToken 322 = .ok (.bipush 59, 2) := by decide +kernel
theorem dX12_nextToken_324 : decode cX12_nextToken 324 = .ok (.if_icmp .ne 7, 3) := by decide +kernel
theorem dX12_nextToken_331 : decode cX12_nextToken 331 = .ok (.iconst 0, 1) := by decide +kernel
theorem dX12_nextToken_151 : decode cX12_nextToken 151 = .ok (.aload_n 0, 1) := by decide +kernel
theorem dX12_nextToken_152 : decode cX12_nextToken 152 = .ok (.iconst 2, 1) := by decide +kernel
theorem dX12_nextToken_153 : decode cX12_nextToken 153 = .ok (.putfield 143, 3) := by decide +kernel
theorem dX12_nextToken_156 : decode cX12_nextToken 156 = .ok (.aload_n 0, 1) := by decide +kernel
theorem dX12_nextToken_157 : decode cX12_nextToken 157 = .ok (.lconst 0, 1) := by decide +kernel
theorem tw_838 : Cond.fieldLink RX12 156 "RingsUnderModel" "word" "J" ∈ wsL_law := List.mem_of_getElem? (i := 838) (by decide +kernel)
theorem dX12_nextToken_158 : decode cX12_nextToken 158 = .ok (.putfield 156, 3) := by decide +kernel
theorem dX12_nextToken_161 : decode cX12_nextToken 161 = .ok (.aload_n 0, 1) := by decide +kernel
theorem dX12_nextToken_162 : decode cX12_nextToken 162 = .ok (.aload_n 0, 1) := by decide +kernel
theorem dX12_nextToken_163 : decode cX12_nextToken 163 = .ok (.getfield 134, 3) := by decide +kernel
theorem dX12_nextToken_166 : decode cX12_nextToken 166 = .ok (.invokevirtual 137, 3) := by decide +kernel
theorem dX12_nextToken_169 : decode cX12_nextToken 169 = .ok (.invokestatic 153, 3) := by decide +kernel
theorem dX12_nextToken_172 : decode cX12_nextToken 172 = .ok (.ifCond .eq 51, 3) := by decide +kernel
theorem dX12_nextToken_223 : decode cX12_nextToken 223 = .ok (.aload_n 0, 1) := by decide +kernel
theorem dX12_nextToken_224 : decode cX12_nextToken 224 = .ok (.getfield 134, 3) := by decide +kernel
theorem dX12_nextToken_227 : decode cX12_nextToken 227 = .ok (.aload_n 0, 1) := by decide +kernel
theorem dX12_nextToken_228 : decode cX12_nextToken 228 = .ok (.getfield 140, 3) := by decide +kernel
theorem dX12_nextToken_231 : decode cX12_nextToken 231 = .ok (.isub, 1) := by decide +kernel
theorem dX12_nextToken_232 : decode cX12_nextToken 232 = .ok (.bipush 7, 2) := by decide +kernel
theorem dX12_nextToken_234 : decode cX12_nextToken 234 = .ok (.if_icmp .le 162, 3) := by decide +kernel
theorem dX12_nextToken_237 : decode cX12_nextToken 237 = .ok (.aload_n 0, 1) := by decide +kernel
theorem dX12_nextToken_238 : decode cX12_nextToken 238 = .ok (.lconst 0, 1) := by decide +kernel
theorem dX12_nextToken_239 : decode cX12_nextToken 239 = .ok (.putfield 156, 3) := by decide +kernel
theorem dX12_nextToken_242 : decode cX12_nextToken 242 = .ok (.goto 154, 3) := by decide +kernel
theorem dX12_nextToken_175 : decode cX12_nextToken 175 = .ok (.aload_n 0, 1) := by decide +kernel
theorem dX12_nextToken_176 : decode cX12_nextToken 176 = .ok (.getfield 134, 3) := by decide +kernel
theorem dX12_nextToken_179 : decode cX12_nextToken 179 = .ok (.aload_n 0, 1) := by decide +kernel
theorem dX12_nextToken_180 : decode cX12_nextToken 180 = .ok (.getfield 140, 3) := by decide +kernel
theorem dX12_nextToken_183 : decode cX12_nextToken 183 = .ok (.isub, 1) := by decide +kernel
theorem dX12_nextToken_184 : decode cX12_nextToken 184 = .ok (.bipush 7, 2) := by decide +kernel
theorem dX12_nextToken_210 : decode cX12_nextToken 210 = .ok (.aload_n 0, 1) := by decide +kernel
theorem dX12_nextToken_211 : decode cX12_nextToken 211 = .ok (.dup, 1) := by decide +kernel
theorem dX12_nextToken_212 : decode cX12_nextToken 212 = .ok (.getfield 134, 3) := by decide +kernel
theorem dX12_nextToken_215 : decode cX12_nextToken 215 = .ok (.iconst 1, 1) := by decide +kernel
theorem dX12_nextToken_216 : decode cX12_nextToken 216 = .ok (.iadd, 1) := by decide +kernel
theorem dX12_nextToken_217 : decode cX12_nextToken 217 = .ok (.putfield 134, 3) := by decide +kernel
theorem dX12_nextToken_220 : decode cX12_nextToken 220 = .ok (.goto (-59), 3) := by decide +kernel
theorem dX12_nextToken_186 : decode cX12_nextToken 186 = .ok (.if_icmp .ge 24, 3) := by decide +kernel
theorem dX12_nextToken_189 : decode cX12_nextToken 189 = .ok (.aload_n 0, 1) := by decide +kernel
theorem dX12_nextToken_190 : decode cX12_nextToken 190 = .ok (.aload_n 0, 1) := by decide +kernel
theorem dX12_nextToken_191 : decode cX12_nextToken 191 = .ok (.getfield 156, 3) := by decide +kernel
theorem dX12_nextToken_194 : decode cX12_nextToken 194 = .ok (.bipush 8, 2) := by decide +kernel
theorem dX12_nextToken_196 : decode cX12_nextToken 196 = .ok (.lshl, 1) := by decide +kernel
theorem dX12_nextToken_197 : decode cX12_nextToken 197 = .ok (.aload_n 0, 1) := by decide +kernel
theorem dX12_nextToken_198 : decode cX12_nextToken 198 = .ok (.aload_n 0, 1) := by decide +kernel
theorem dX12_nextToken_199 : decode cX12_nextToken 199 = .ok (.getfield 134, 3) := by decide +kernel
theorem dX12_nextToken_202 : decode cX12_nextToken 202 = .ok (.invokevirtual 137, 3) := by decide +kernel
theorem dX12_nextToken_205 : decode cX12_nextToken 205 = .ok (.i2l, 1) := by decide +kernel
theorem dX12_nextToken_206 : decode cX12_nextToken 206 = .ok (.lor, 1) := by decide +kernel
theorem dX12_nextToken_207 : decode cX12_nextToken 207 = .ok (.putfield 156, 3) := by decide +kernel
theorem dX12_nextToken_75 : decode cX12_nextToken 75 = .ok (.aload_n 0, 1) := by decide +kernel
theorem dX12_nextToken_76 : decode cX12_nextToken 76 = .ok (.iconst 1, 1) := by decide +kernel
theorem dX12_nextToken_77 : decode cX12_nextToken 77 = .ok (.putfield 143, 3) := by decide +kernel
theorem dX12_nextToken_80 : decode cX12_nextToken 80 = .ok (.aload_n 0, 1) := by decide +kernel
theorem dX12_nextToken_81 : decode cX12_nextToken 81 = .ok (.iconst 0, 1) := by decide +kernel
theorem tw_836 : Cond.fieldLink RX12 149 "RingsUnderModel" "number" "I" ∈ wsL_law := List.mem_of_getElem? (i := 836) (by decide +kernel)
theorem dX12_nextToken_82 : decode cX12_nextToken 82 = .ok (.putfield 149, 3) := by decide +kernel
theorem dX12_nextToken_85 : decode cX12_nextToken 85 = .ok (.aload_n 0, 1) := by decide +kernel
theorem dX12_nextToken_86 : decode cX12_nextToken 86 = .ok (.aload_n 0, 1) := by decide +kernel
theorem dX12_nextToken_87 : decode cX12_nextToken 87 = .ok (.getfield 134, 3) := by decide +kernel
theorem dX12_nextToken_90 : decode cX12_nextToken 90 = .ok (.invokevirtual 137, 3) := by decide +kernel
theorem dX12_nextToken_93 : decode cX12_nextToken 93 = .ok (.invokestatic 146, 3) := by decide +kernel
theorem dX12_nextToken_96 : decode cX12_nextToken 96 = .ok (.ifCond .eq 300, 3) := by decide +kernel
theorem dX12_nextToken_99 : decode cX12_nextToken 99 = .ok (.aload_n 0, 1) := by decide +kernel
theorem dX12_nextToken_100 : decode cX12_nextToken 100 = .ok (.getfield 149, 3) := by decide +kernel
theorem tw_837 : Cond.constant RX12 152 (100000) ∈ wsL_law := List.mem_of_getElem? (i := 837) (by decide +kernel)
theorem dX12_nextToken_103 : decode cX12_nextToken 103 = .ok (.ldc 152, 2) := by decide +kernel
theorem dX12_nextToken_105 : decode cX12_nextToken 105 = .ok (.if_icmp .ge 26, 3) := by decide +kernel
theorem dX12_nextToken_131 : decode cX12_nextToken 131 = .ok (.aload_n 0, 1) := by decide +kernel
theorem dX12_nextToken_132 : decode cX12_nextToken 132 = .ok (.dup, 1) := by decide +kernel
theorem dX12_nextToken_133 : decode cX12_nextToken 133 = .ok (.getfield 134, 3) := by decide +kernel
theorem dX12_nextToken_136 : decode cX12_nextToken 136 = .ok (.iconst 1, 1) := by decide +kernel
theorem dX12_nextToken_137 : decode cX12_nextToken 137 = .ok (.iadd, 1) := by decide +kernel
theorem dX12_nextToken_138 : decode cX12_nextToken 138 = .ok (.putfield 134, 3) := by decide +kernel
theorem dX12_nextToken_141 : decode cX12_nextToken 141 = .ok (.goto (-56), 3) := by decide +kernel
theorem dX12_nextToken_108 : decode cX12_nextToken 108 = .ok (.aload_n 0, 1) := by decide +kernel
theorem dX12_nextToken_109 : decode cX12_nextToken 109 = .ok (.bipush 10, 2) := by decide +kernel
theorem dX12_nextToken_111 : decode cX12_nextToken 111 = .ok (.aload_n 0, 1) := by decide +kernel
theorem dX12_nextToken_112 : decode cX12_nextToken 112 = .ok (.getfield 149, 3) := by decide +kernel
theorem dX12_nextToken_115 : decode cX12_nextToken 115 = .ok (.imul, 1) := by decide +kernel
theorem dX12_nextToken_116 : decode cX12_nextToken 116 = .ok (.aload_n 0, 1) := by decide +kernel
theorem dX12_nextToken_117 : decode cX12_nextToken 117 = .ok (.aload_n 0, 1) := by decide +kernel
theorem dX12_nextToken_118 : decode cX12_nextToken 118 = .ok (.getfield 134, 3) := by decide +kernel
theorem dX12_nextToken_121 : decode cX12_nextToken 121 = .ok (.invokevirtual 137, 3) := by decide +kernel
theorem dX12_nextToken_124 : decode cX12_nextToken 124 = .ok (.iadd, 1) := by decide +kernel
theorem dX12_nextToken_125 : decode cX12_nextToken 125 = .ok (.bipush 48, 2) := by decide +kernel
theorem dX12_nextToken_127 : decode cX12_nextToken 127 = .ok (.isub, 1) := by decide +kernel
theorem dX12_nextToken_128 : decode cX12_nextToken 128 = .ok (.putfield 149, 3) := by decide +kernel
theorem dX12_nextToken_60 : decode cX12_nextToken 60 = .ok (.aload_n 0, 1) := by decide +kernel
theorem dX12_nextToken_61 : decode cX12_nextToken 61 = .ok (.iconst 0, 1) := by decide +kernel
theorem dX12_nextToken_62 : decode cX12_nextToken 62 = .ok (.putfield 143, 3) := by decide +kernel
theorem dX12_nextToken_65 : decode cX12_nextToken 65 = .ok (.goto 331, 3) := by decide +kernel
set_option maxHeartbeats 4000000 in
set_option maxRecDepth 100000 in
theorem s_X12_stands (l : Launch) (D : va_G) (t : pq_T) (σ : pq_S) (I : Nat → Nat → Int32) (J : Nat → Nat → Int64) (ri : Nat → Nat → Int32) (rj : Nat → Nat → Int64) (rq : Nat → Nat → Option Nat) (sz : Nat) (tg : Nat → Nat) (hSH : SH σ tg) (hG0 : GT tg I ri) (this : Nat) (a0 : Int32) (hL_this : this ∈ σ.1) (hK_this : σ.2.1 this = 12) (h_a0 : rg a0 0 39) : MetI l yX12_stands (wa yX12_stands cX12_stands 3 (some .boolean)) ({ frames := 4, cells := 0, slots := 0, locals := 102 }) [.ref this, .int a0] D t σ (I, J, ri, rj, rq) sz 0 0 (fun (r : Int32) (u : pq_S × pq_M) => ∃ ri' : Nat → Nat → Int32, ∃ rj' : Nat → Nat → Int64, u = (σ, I, J, ri', rj', rq) ∧ GM [] tg σ I ri I ri' rq ∧ ((r = 1 ∧ True) ∨ (r = 0 ∧ True))) := by
  refine Met.ofW (cc := cX12_stands) (maxL := 3) (ret := (some .boolean)) (by decide) rfl ?_
  intro p e s m args below meth c s₁ B hml hv
  obtain ⟨rfl, hsz, hP, hK, hD0, hN⟩ := hv
  have hx := B.exec
  have hb := B.bytes
  have hr := B.returns
  have hts := atoms_spec (ws := (wa yX12_stands cX12_stands 3 (some .boolean))) B.pre
  have hown : s.vm.findClass RX12 = some m.cls := findClass_of_methodNamed B.named
  have hlocks := B.notSynchronized
  subst hsz
  have hD : va_D (pq_B t σ (I, J, ri, rj, rq) s.heap.size) (pq_P t σ (I, J, ri, rj, rq)) := hD0.self
  generalize hAe : pq_B t σ (I, J, ri, rj, rq) s.heap.size = A at hD ⊢
  have hA : ∀ q : Nat, s.heap.size ≤ q → A q := fun q h => by rw [← hAe]; exact Or.inr h
  have hS : va_S A s.heap s.heap [] := va_S.rf
  have hG : GM [] tg σ I ri I ri rq := ⟨hG0, fun _ _ _ => rfl, fun _ _ _ _ _ => rfl, fun _ _ _ _ _ _ => rfl⟩
  have hl := lv_entry ([.ref this, .int a0]) (n := 3) (Nat.le_of_ble_eq_true rfl)
  rw [lg_entry_eq]
  generalize (lg_sl ([.ref this, .int a0]) ++ List.replicate (3 - (lg_sl ([.ref this, .int a0])).length) Slot.unset).toArray = ls at hl ⊢
  have hl : lv_has ls 3 [(0, .ref this), (1, .int a0)] := hl
  refine q_gen (fun Q hQ => ?_)
  have go : ∀ (H : Heap) (locs : List Loc) (ls : Array Slot), va_P D vwCl (pq_P t σ (I, J, ri, rj, rq)) H → va_D A (pq_P t σ (I, J, ri, rj, rq)) → va_S A s.heap H locs → lv_has ls 3 [(0, .ref this), (1, .int a0)] → W p l e ({ frames := 4, cells := 0, slots := 0, locals := 102 } : Room) s m (List.toArray ([.ref this, .int a0] : List Value)) below meth c H locs 0 0 Q (F0 m 0 ls []) := by
    intro H locs ls hP hD hS hl
    refine lv_aload_n hx hb dX12_stands_0 rfl (lv_at hl 0 rfl) ?_
    refine lv_iload_n hx hb dX12_stands_1 rfl (lv_at hl 1 rfl) ?_
    refine lv_bipush (v := 14) hx hb dX12_stands_2 (by decide) ?_
    refine pk_i (va_runV (As := [.int a0, .int 14]) (rest := []) ⟨hx, hb, hml, hown, hts⟩ (s_X12_cellAt_c14 l D t σ I J ri rj rq H.size tg hSH hG.1 this a0 hL_this hK_this (rg_w h_a0 (by decide))) (cwV 2 hts (tw_V tw_361 tw_362 tw_363 tw_5 tw_364) rfl rfl rfl (by decide +kernel) ⟨Nat.le_of_ble_eq_true rfl, Nat.le_of_ble_eq_true rfl⟩) ⟨pq_blind, pq_recv hK hP hL_this hK_this (by decide) rfl, pq_pre hK hN hP hD⟩ rfl rfl hl.1 rfl (lv_room (Nat.le_of_ble_eq_true rfl)) dX12_stands_4 ⟨Nat.le_of_ble_eq_true rfl, Nat.le_of_ble_eq_true rfl⟩) hD hS hA (fun x_1 σ1 μ1 H locs hw_2 hP hD hS => ?_)
    obtain ⟨hu_3, hr_5⟩ := hw_2
    obtain ⟨hu_3a, hu_3b⟩ := Prod.mk.inj hu_3
    rw [hu_3a, hu_3b] at hP hD
    refine lv_istore_n (lv' := [(2, .int x_1), (0, .ref this), (1, .int a0)]) hx hb dX12_stands_7 rfl hl (by decide) rfl (fun ls hl => ?_)
    refine lv_iload_n hx hb dX12_stands_8 rfl (lv_at hl 0 rfl) ?_
    refine lv_if_ge (tgt := 14) hx hb dX12_stands_9 (by decide) (fun c_6 => ?_) (fun c_6 => ?_)
    · have tc_7 : 0 ≤ (x_1).toInt := Int32.le_iff_toInt_le.mp c_6
      have h_8 : rg x_1 0 39 := rg_le2 c_6 (rg_k (0 : Int32) 0 rfl) hr_5 (by decide)
      have uh_8 := h_8.1
      have vh_8 := h_8.2
      refine lv_aload_n hx hb dX12_stands_14 rfl (lv_at hl 1 rfl) ?_
      obtain ⟨w_9, hR_w_9, hL_w_9, hK_w_9, hN_w_9, hT_w_9⟩ := sh_a hSH 384 (ci := 12) (kd := 13) (len := 12720) rfl (by decide) hL_this hK_this
      refine pg_f (v := .ref w_9) (C := RX12) (T := TX12) (N := 31) hx hb hts (tw_i inlX12) hown hK hP hL_this hK_this (by decide) rfl 0 (by decide) (hts _ (tw_c tw_176)) (pq_hv rfl hR_w_9) dX12_stands_15 ?_
      refine lv_iconst (v := 0) hx hb dX12_stands_18 (by decide) ?_
      refine pl_i hx hb hK hP hL_w_9 hK_w_9 hN_w_9 (vp_in_iff.mpr (by decide)) dX12_stands_19 ?_
      refine lv_tov (ri w_9 0) rfl ?_
      have h_10 : rg (ri w_9 0) 0 600 := GM.z0 hG0 (by rw [hT_w_9]; decide) (i := 0) (k := 0) (by decide) rfl
      have uh_10 := h_10.1
      have vh_10 := h_10.2
      have K_45 : ∀  (ri_43 : Nat → Nat → Int32) (rj_44 : Nat → Nat → Int64) (H : Heap) (locs : List Loc) (ls : Array Slot), GM [] tg σ I ri I ri_43 rq → va_P D vwCl (pq_P t σ (I, J, ri_43, rj_44, rq)) H → va_D A (pq_P t σ (I, J, ri_43, rj_44, rq)) → va_S A s.heap H locs → lv_has ls 3 [] → W p l e ({ frames := 4, cells := 0, slots := 0, locals := 102 } : Room) s m (List.toArray ([.ref this, .int a0] : List Value)) below meth c H locs 0 0 Q (F0 m 56 ls []) := by
        intro ri_43 rj_44 H locs ls hG hP hD hS hl
        refine lv_iconst (v := 1) hx hb dX12_stands_56 (by decide) ?_
        refine lv_goto (tgt := 61) hx hb dX12_stands_57 (by decide) ?_
        subst hQ
        exact W.zret (v := 1) hx hb hr (by decide) (fun t1 ht hW => ⟨⟨1, (σ, I, J, ri_43, rj_44, rq), rfl, ⟨ri_43, rj_44, rfl, hG, (Or.inl ⟨rfl, trivial⟩)⟩, by rw [ht]; exact hP, va_K.moved hW.alike hK, hD⟩, hS.F ht⟩) hS.2.2 dX12_stands_61
      refine lv_if_eq (tgt := 56) hx hb dX12_stands_20 (by decide) (fun c_46 => ?_) (fun c_46 => ?_)
      · have tc_47 : (ri w_9 0).toInt = 0 := congrArg Int32.toInt c_46
        have h_48 : rg (ri w_9 0) 0 0 := rg_and h_10 (rg_of_eq c_46 (rg_k (0 : Int32) 0 rfl)) (by decide)
        have uh_48 := h_48.1
        have vh_48 := h_48.2
        exact K_45 ri rj _ _ _ hG hP hD hS (lv_sub hl [] rfl)
      · have tc_49 : (ri w_9 0).toInt ≠ 0 := fun q => c_46 (Int32.toInt_inj.mp q)
        have h_50 : rg (ri w_9 0) 1 600 := rg_ne c_46 h_10 0 rfl (by decide)
        have uh_50 := h_50.1
        have vh_50 := h_50.2
        refine lv_aload_n hx hb dX12_stands_23 rfl (lv_at hl 1 rfl) ?_
        refine lv_iload_n hx hb dX12_stands_24 rfl (lv_at hl 2 rfl) ?_
        refine lv_bipush (v := 12) hx hb dX12_stands_25 (by decide) ?_
        refine pk_i (va_runV (As := [.int a0, .int 12]) (rest := []) ⟨hx, hb, hml, hown, hts⟩ (s_X12_cellAt_c12 l D t σ I J ri rj rq H.size tg hSH hG.1 this a0 hL_this hK_this (rg_w h_a0 (by decide))) (cwV 2 hts (tw_V tw_361 tw_362 tw_363 tw_5 tw_364) rfl rfl rfl (by decide +kernel) ⟨Nat.le_of_ble_eq_true rfl, Nat.le_of_ble_eq_true rfl⟩) ⟨pq_blind, pq_recv hK hP hL_this hK_this (by decide) rfl, pq_pre hK hN hP hD⟩ rfl rfl hl.1 rfl (lv_room (Nat.le_of_ble_eq_true rfl)) dX12_stands_27 ⟨Nat.le_of_ble_eq_true rfl, Nat.le_of_ble_eq_true rfl⟩) hD hS hA (fun x_51 σ1 μ1 H locs hw_52 hP hD hS => ?_)
        have hu_53 := hw_52
        obtain ⟨hu_53a, hu_53b⟩ := Prod.mk.inj hu_53
        rw [hu_53a, hu_53b] at hP hD
        refine lv_iconst (v := 1) hx hb dX12_stands_30 (by decide) ?_
        refine lv_icmp_eq (tgt := 56) hx hb dX12_stands_31 (by decide) (fun c_56 => ?_) (fun c_56 => ?_)
        · have tc_57 : (x_51).toInt = 1 := congrArg Int32.toInt c_56
          have h_58 : rg x_51 1 1 := rg_and (rg_full _) (rg_of_eq c_56 (rg_k (1 : Int32) 1 rfl)) (by decide)
          have uh_58 := h_58.1
          have vh_58 := h_58.2
          exact K_45 ri rj _ _ _ hG hP hD hS (lv_sub hl [] rfl)
        · have tc_59 : (x_51).toInt ≠ 1 := fun q => c_56 (Int32.toInt_inj.mp q)
          refine lv_aload_n hx hb dX12_stands_34 rfl (lv_at hl 1 rfl) ?_
          refine lv_iconst (v := 1) hx hb dX12_stands_35 (by decide) ?_
          refine lv_iload_n hx hb dX12_stands_36 rfl (lv_at hl 0 rfl) ?_
          refine lv_aload_n hx hb dX12_stands_37 rfl (lv_at hl 1 rfl) ?_
          refine pg_f (v := .ref w_9) (C := RX12) (T := TX12) (N := 31) hx hb hts (tw_i inlX12) hown hK hP hL_this hK_this (by decide) rfl 0 (by decide) (hts _ (tw_c tw_176)) (pq_hv rfl hR_w_9) dX12_stands_38 ?_
          refine lv_iconst (v := 0) hx hb dX12_stands_41 (by decide) ?_
          refine pl_i hx hb hK hP hL_w_9 hK_w_9 hN_w_9 (vp_in_iff.mpr (by decide)) dX12_stands_42 ?_
          refine lv_tov (ri w_9 0) rfl ?_
          refine lv_aload_n hx hb dX12_stands_43 rfl (lv_at hl 1 rfl) ?_
          refine lv_iload_n hx hb dX12_stands_44 rfl (lv_at hl 2 rfl) ?_
          refine lv_bipush (v := 11) hx hb dX12_stands_45 (by decide) ?_
          refine pk_i (va_runV (As := [.int a0, .int 11]) (rest := [.int (ri w_9 0), .int x_1, .int 1, .ref this]) ⟨hx, hb, hml, hown, hts⟩ (s_X12_cellAt_c11 l D t σ I J ri rj rq H.size tg hSH hG.1 this a0 hL_this hK_this (rg_w h_a0 (by decide))) (cwV 2 hts (tw_V tw_361 tw_362 tw_363 tw_5 tw_364) rfl rfl rfl (by decide +kernel) ⟨Nat.le_of_ble_eq_true rfl, Nat.le_of_ble_eq_true rfl⟩) ⟨pq_blind, pq_recv hK hP hL_this hK_this (by decide) rfl, pq_pre hK hN hP hD⟩ rfl rfl hl.1 rfl (lv_room (Nat.le_of_ble_eq_true rfl)) dX12_stands_47 ⟨Nat.le_of_ble_eq_true rfl, Nat.le_of_ble_eq_true rfl⟩) hD hS hA (fun x_60 σ1 μ1 H locs hw_61 hP hD hS => ?_)
          have hu_62 := hw_61
          obtain ⟨hu_62a, hu_62b⟩ := Prod.mk.inj hu_62
          rw [hu_62a, hu_62b] at hP hD
          refine pk_i (va_runV (As := [.int 1, .int x_1, .int (ri w_9 0), .int x_60]) (rest := []) ⟨hx, hb, hml, hown, hts⟩ (s_X12_firstSo l D t σ I J ri rj rq H.size tg hSH hG.1 this (1 : Int32) x_1 (ri w_9 0) x_60 hL_this hK_this (rg_w (rg_k (1 : Int32) 1 rfl) (by decide)) (rg_w h_8 (by decide)) w_9 hR_w_9 hL_w_9 hK_w_9 hN_w_9 hT_w_9) (cwV 4 hts (tw_V tw_597 tw_598 tw_599 tw_5 tw_600) rfl rfl rfl (by decide +kernel) ⟨Nat.le_of_ble_eq_true rfl, Nat.le_of_ble_eq_true rfl⟩) ⟨pq_blind, pq_recv hK hP hL_this hK_this (by decide) rfl, pq_pre hK hN hP hD⟩ rfl rfl hl.1 rfl (lv_room (Nat.le_of_ble_eq_true rfl)) dX12_stands_50 ⟨Nat.le_of_ble_eq_true rfl, Nat.le_of_ble_eq_true rfl⟩) hD hS hA (fun x_65 σ1 μ1 H locs hw_66 hP hD hS => ?_)
          obtain ⟨ri_67, rj_68, hu_69, hg_70, hp_72, hr_71⟩ := hw_66
          obtain ⟨hu_69a, hu_69b⟩ := Prod.mk.inj hu_69
          rw [hu_69a, hu_69b] at hP hD
          have hG := GM.tr hG hg_70 (by decide)
          refine lv_if_lt (tgt := 60) hx hb dX12_stands_53 (by decide) (fun c_73 => ?_) (fun c_73 => ?_)
          · have tc_74 : (x_65).toInt < 0 := Int32.lt_iff_toInt_lt.mp c_73
            have h_75 : rg x_65 (-1) (-1) := rg_lt1 c_73 hr_71 (rg_k (0 : Int32) 0 rfl) (by decide)
            have uh_75 := h_75.1
            have vh_75 := h_75.2
            refine lv_iconst (v := 0) hx hb dX12_stands_60 (by decide) ?_
            subst hQ
            exact W.zret (v := 0) hx hb hr (by decide) (fun t1 ht hW => ⟨⟨0, (σ, I, J, ri_67, rj_68, rq), rfl, ⟨ri_67, rj_68, rfl, hG, (Or.inr ⟨rfl, trivial⟩)⟩, by rw [ht]; exact hP, va_K.moved hW.alike hK, hD⟩, hS.F ht⟩) hS.2.2 dX12_stands_61
          · have tc_76 : 0 ≤ (x_65).toInt := Int32.le_iff_toInt_le.mp (nlt c_73)
            have h_77 : rg x_65 0 19 := rg_le2 (nlt c_73) (rg_k (0 : Int32) 0 rfl) hr_71 (by decide)
            have uh_77 := h_77.1
            have vh_77 := h_77.2
            exact K_45 ri_67 rj_68 _ _ _ hG hP hD hS (lv_sub hl [] rfl)
    · have tc_78 : (x_1).toInt < 0 := Int32.lt_iff_toInt_lt.mp (nle c_6)
      have h_79 : rg x_1 (-1) (-1) := rg_lt1 (nle c_6) hr_5 (rg_k (0 : Int32) 0 rfl) (by decide)
      have uh_79 := h_79.1
      have vh_79 := h_79.2
      refine lv_iconst (v := 0) hx hb dX12_stands_12 (by decide) ?_
      subst hQ
      exact W.zret (v := 0) hx hb hr (by decide) (fun t1 ht hW => ⟨⟨0, (σ, I, J, ri, rj, rq), rfl, ⟨ri, rj, rfl, hG, (Or.inr ⟨rfl, trivial⟩)⟩, by rw [ht]; exact hP, va_K.moved hW.alike hK, hD⟩, hS.F ht⟩) hS.2.2 dX12_stands_13
  exact go _ _ _ hP hD hS hl

set_option maxHeartbeats 4000000 in
set_option maxRecDepth 100000 in
theorem s_X12_titleOf (l : Launch) (D : va_G) (t : pq_T) (σ : pq_S) (I : Nat → Nat → Int32) (J : Nat → Nat → Int64) (ri : Nat → Nat → Int32) (rj : Nat → Nat → Int64) (rq : Nat → Nat → Option Nat) (sz : Nat) (tg : Nat → Nat) (hSH : SH σ tg) (hG0 : GT tg I ri) (this : Nat) (a0 : Int32) (a1 : Int32) (hL_this : this ∈ σ.1) (hK_this : σ.2.1 this = 12) : MetI l yX12_titleOf (wa yX12_titleOf cX12_titleOf 3 (some .int)) ({ frames := 5, cells := 0, slots := 0, locals := 124 }) [.ref this, .int a0, .int a1] D t σ (I, J, ri, rj, rq) sz 0 0 (fun (r : Int32) (u : pq_S × pq_M) => ∃ ri' : Nat → Nat → Int32, ∃ rj' : Nat → Nat → Int64, u = (σ, I, J, ri', rj', rq) ∧ GM [] tg σ I ri I ri' rq ∧ rg r (-1) 39) := by
  refine Met.ofW (cc := cX12_titleOf) (maxL := 3) (ret := (some .int)) (by decide) rfl ?_
  intro p e s m args below meth c s₁ B hml hv
  obtain ⟨rfl, hsz, hP, hK, hD0, hN⟩ := hv
  have hx := B.exec
  have hb := B.bytes
  have hr := B.returns
  have hts := atoms_spec (ws := (wa yX12_titleOf cX12_titleOf 3 (some .int))) B.pre
  have hown : s.vm.findClass RX12 = some m.cls := findClass_of_methodNamed B.named
  have hlocks := B.notSynchronized
  subst hsz
  have hD : va_D (pq_B t σ (I, J, ri, rj, rq) s.heap.size) (pq_P t σ (I, J, ri, rj, rq)) := hD0.self
  generalize hAe : pq_B t σ (I, J, ri, rj, rq) s.heap.size = A at hD ⊢
  have hA : ∀ q : Nat, s.heap.size ≤ q → A q := fun q h => by rw [← hAe]; exact Or.inr h
  have hS : va_S A s.heap s.heap [] := va_S.rf
  have hG : GM [] tg σ I ri I ri rq := ⟨hG0, fun _ _ _ => rfl, fun _ _ _ _ _ => rfl, fun _ _ _ _ _ _ => rfl⟩
  have hl := lv_entry ([.ref this, .int a0, .int a1]) (n := 3) (Nat.le_of_ble_eq_true rfl)
  rw [lg_entry_eq]
  generalize (lg_sl ([.ref this, .int a0, .int a1]) ++ List.replicate (3 - (lg_sl ([.ref this, .int a0, .int a1])).length) Slot.unset).toArray = ls at hl ⊢
  have hl : lv_has ls 3 [(0, .ref this), (1, .int a0), (2, .int a1)] := hl
  refine q_gen (fun Q hQ => ?_)
  have go : ∀ (H : Heap) (locs : List Loc) (ls : Array Slot), va_P D vwCl (pq_P t σ (I, J, ri, rj, rq)) H → va_D A (pq_P t σ (I, J, ri, rj, rq)) → va_S A s.heap H locs → lv_has ls 3 [(0, .ref this), (1, .int a0), (2, .int a1)] → W p l e ({ frames := 5, cells := 0, slots := 0, locals := 124 } : Room) s m (List.toArray ([.ref this, .int a0, .int a1] : List Value)) below meth c H locs 0 0 Q (F0 m 0 ls []) := by
    intro H locs ls hP hD hS hl
    refine lv_aload_n hx hb dX12_titleOf_0 rfl (lv_at hl 0 rfl) ?_
    refine lv_iload_n hx hb dX12_titleOf_1 rfl (lv_at hl 1 rfl) ?_
    refine pk_i (va_runV (As := [.int a0]) (rest := []) ⟨hx, hb, hml, hown, hts⟩ (s_X12_isCell l D t σ I J ri rj rq H.size tg hSH hG.1 this a0 hL_this hK_this) (cwV 1 hts (tw_V tw_340 tw_341 tw_342 tw_5 tw_343) rfl rfl rfl (by decide +kernel) ⟨Nat.le_of_ble_eq_true rfl, Nat.le_of_ble_eq_true rfl⟩) ⟨pq_blind, pq_recv hK hP hL_this hK_this (by decide) rfl, pq_pre hK hN hP hD⟩ rfl rfl hl.1 rfl (lv_room (Nat.le_of_ble_eq_true rfl)) dX12_titleOf_2 ⟨Nat.le_of_ble_eq_true rfl, Nat.le_of_ble_eq_true rfl⟩) hD hS hA (fun x_1 σ1 μ1 H locs hw_2 hP hD hS => ?_)
    obtain ⟨hu_3, hr_5⟩ := hw_2
    obtain ⟨hu_3a, hu_3b⟩ := Prod.mk.inj hu_3
    rw [hu_3a, hu_3b] at hP hD
    have h_6 : rg x_1 0 1 := by rcases hr_5 with ⟨q, -⟩ | ⟨q, -⟩ <;> rw [q] <;> exact ⟨by decide, by decide⟩
    have uh_6 := h_6.1
    have vh_6 := h_6.2
    have K_55 : ∀  (H : Heap) (locs : List Loc) (ls : Array Slot), GM [] tg σ I ri I ri rq → va_P D vwCl (pq_P t σ (I, J, ri, rj, rq)) H → va_D A (pq_P t σ (I, J, ri, rj, rq)) → va_S A s.heap H locs → lv_has ls 3 [] → W p l e ({ frames := 5, cells := 0, slots := 0, locals := 124 } : Room) s m (List.toArray ([.ref this, .int a0, .int a1] : List Value)) below meth c H locs 0 0 Q (F0 m 17 ls []) := by
      intro H locs ls hG hP hD hS hl
      refine lv_iconst (v := (-1)) hx hb dX12_titleOf_17 (by decide) ?_
      subst hQ
      exact W.iret (v := (-1)) hx hb hr (fun t1 ht hW => ⟨⟨(-1), (σ, I, J, ri, rj, rq), rfl, ⟨ri, rj, rfl, hG, (rg_w (rg_k (-1 : Int32) (-1) rfl) (by decide))⟩, by rw [ht]; exact hP, va_K.moved hW.alike hK, hD⟩, hS.F ht⟩) hS.2.2 dX12_titleOf_18
    refine lv_if_eq (tgt := 17) hx hb dX12_titleOf_5 (by decide) (fun c_56 => ?_) (fun c_56 => ?_)
    · have f_57 := (hr_5.resolve_left (fun q => absurd (q.1.symm.trans c_56) (by decide))).2
      have tc_58 : (x_1).toInt = 0 := congrArg Int32.toInt c_56
      have h_59 : rg x_1 0 0 := rg_and h_6 (rg_of_eq c_56 (rg_k (0 : Int32) 0 rfl)) (by decide)
      have uh_59 := h_59.1
      have vh_59 := h_59.2
      exact K_55 _ _ _ hG hP hD hS (lv_sub hl [] rfl)
    · have f_60 := (hr_5.resolve_right (fun q => c_56 q.1)).2
      have uf_60 := f_60.1
      have vf_60 := f_60.2
      have tc_61 : (x_1).toInt ≠ 0 := fun q => c_56 (Int32.toInt_inj.mp q)
      have h_62 : rg x_1 1 1 := rg_ne c_56 h_6 0 rfl (by decide)
      have uh_62 := h_62.1
      have vh_62 := h_62.2
      refine lv_iload_n hx hb dX12_titleOf_8 rfl (lv_at hl 2 rfl) ?_
      refine lv_iconst (v := 0) hx hb dX12_titleOf_9 (by decide) ?_
      refine lv_iconst (v := 1) hx hb dX12_titleOf_10 (by decide) ?_
      refine pk_i (va_runS (As := [.int a1, .int 0, .int 1]) (rest := []) ⟨hx, hb, hml, hown, hts⟩ (s_X12_isIn l D t σ I J ri rj rq H.size tg hSH hG.1 a1 (0 : Int32) (1 : Int32)) (va_cwS 3 hts (tw_S tw_235 tw_236 tw_5 tw_237) rfl rfl rfl (by decide +kernel) ⟨Nat.le_of_ble_eq_true rfl, Nat.le_of_ble_eq_true rfl⟩) ⟨pq_blind, pq_pre hK hN hP hD⟩ rfl rfl hl.1 rfl (lv_room (Nat.le_of_ble_eq_true rfl)) dX12_titleOf_11 ⟨Nat.le_of_ble_eq_true rfl, Nat.le_of_ble_eq_true rfl⟩) hD hS hA (fun x_63 σ1 μ1 H locs hw_64 hP hD hS => ?_)
      obtain ⟨hu_65, hr_67⟩ := hw_64
      obtain ⟨hu_65a, hu_65b⟩ := Prod.mk.inj hu_65
      rw [hu_65a, hu_65b] at hP hD
      have h_68 : rg x_63 0 1 := by rcases hr_67 with ⟨q, -⟩ | ⟨q, -⟩ <;> rw [q] <;> exact ⟨by decide, by decide⟩
      have uh_68 := h_68.1
      have vh_68 := h_68.2
      refine lv_if_ne (tgt := 19) hx hb dX12_titleOf_14 (by decide) (fun c_69 => ?_) (fun c_69 => ?_)
      · obtain ⟨f_70, f_71⟩ := (hr_67.resolve_right (fun q => c_69 q.1)).2
        have tc_72 : 0 ≤ (a1).toInt := Int32.le_iff_toInt_le.mp f_70
        have h_73 : rg a1 0 2147483647 := rg_le2 f_70 (rg_k (0 : Int32) 0 rfl) (rg_full _) (by decide)
        have uh_73 := h_73.1
        have vh_73 := h_73.2
        have tc_74 : (a1).toInt ≤ 1 := Int32.le_iff_toInt_le.mp f_71
        have h_75 : rg a1 0 1 := rg_le1 f_71 h_73 (rg_k (1 : Int32) 1 rfl) (by decide)
        have uh_75 := h_75.1
        have vh_75 := h_75.2
        have tc_76 : (x_63).toInt ≠ 0 := fun q => c_69 (Int32.toInt_inj.mp q)
        have h_77 : rg x_63 1 1 := rg_ne c_69 h_68 0 rfl (by decide)
        have uh_77 := h_77.1
        have vh_77 := h_77.2
        refine lv_iload_n hx hb dX12_titleOf_19 rfl (lv_at hl 2 rfl) ?_
        refine lv_if_ne (tgt := 33) hx hb dX12_titleOf_20 (by decide) (fun c_78 => ?_) (fun c_78 => ?_)
        · have tc_79 : (a1).toInt ≠ 0 := fun q => c_78 (Int32.toInt_inj.mp q)
          have h_80 : rg a1 1 1 := rg_ne c_78 h_75 0 rfl (by decide)
          have uh_80 := h_80.1
          have vh_80 := h_80.2
          refine lv_aload_n hx hb dX12_titleOf_33 rfl (lv_at hl 0 rfl) ?_
          refine lv_iload_n hx hb dX12_titleOf_34 rfl (lv_at hl 1 rfl) ?_
          refine pk_i (va_runV (As := [.int a0]) (rest := []) ⟨hx, hb, hml, hown, hts⟩ (s_X12_stands l D t σ I J ri rj rq H.size tg hSH hG.1 this a0 hL_this hK_this (rg_w f_60 (by decide))) (cwV 1 hts (tw_V tw_593 tw_594 tw_595 tw_5 tw_596) rfl rfl rfl (by decide +kernel) ⟨Nat.le_of_ble_eq_true rfl, Nat.le_of_ble_eq_true rfl⟩) ⟨pq_blind, pq_recv hK hP hL_this hK_this (by decide) rfl, pq_pre hK hN hP hD⟩ rfl rfl hl.1 rfl (lv_room (Nat.le_of_ble_eq_true rfl)) dX12_titleOf_35 ⟨Nat.le_of_ble_eq_true rfl, Nat.le_of_ble_eq_true rfl⟩) hD hS hA (fun x_81 σ1 μ1 H locs hw_82 hP hD hS => ?_)
          obtain ⟨ri_83, rj_84, hu_85, hg_86, hr_87⟩ := hw_82
          obtain ⟨hu_85a, hu_85b⟩ := Prod.mk.inj hu_85
          rw [hu_85a, hu_85b] at hP hD
          have hG := GM.tr hG hg_86 (by decide)
          have h_88 : rg x_81 0 1 := by rcases hr_87 with ⟨q, -⟩ | ⟨q, -⟩ <;> rw [q] <;> exact ⟨by decide, by decide⟩
          have uh_88 := h_88.1
          have vh_88 := h_88.2
          refine lv_if_eq (tgt := 45) hx hb dX12_titleOf_38 (by decide) (fun c_89 => ?_) (fun c_89 => ?_)
          · have tc_90 : (x_81).toInt = 0 := congrArg Int32.toInt c_89
            have h_91 : rg x_81 0 0 := rg_and h_88 (rg_of_eq c_89 (rg_k (0 : Int32) 0 rfl)) (by decide)
            have uh_91 := h_91.1
            have vh_91 := h_91.2
            refine lv_iconst (v := 0) hx hb dX12_titleOf_45 (by decide) ?_
            subst hQ
            exact W.iret (v := 0) hx hb hr (fun t1 ht hW => ⟨⟨0, (σ, I, J, ri_83, rj_84, rq), rfl, ⟨ri_83, rj_84, rfl, hG, (rg_w (rg_k (0 : Int32) 0 rfl) (by decide))⟩, by rw [ht]; exact hP, va_K.moved hW.alike hK, hD⟩, hS.F ht⟩) hS.2.2 dX12_titleOf_46
          · have tc_92 : (x_81).toInt ≠ 0 := fun q => c_89 (Int32.toInt_inj.mp q)
            have h_93 : rg x_81 1 1 := rg_ne c_89 h_88 0 rfl (by decide)
            have uh_93 := h_93.1
            have vh_93 := h_93.2
            refine lv_iconst (v := 1) hx hb dX12_titleOf_41 (by decide) ?_
            refine lv_goto (tgt := 46) hx hb dX12_titleOf_42 (by decide) ?_
            subst hQ
            exact W.iret (v := 1) hx hb hr (fun t1 ht hW => ⟨⟨1, (σ, I, J, ri_83, rj_84, rq), rfl, ⟨ri_83, rj_84, rfl, hG, (rg_w (rg_k (1 : Int32) 1 rfl) (by decide))⟩, by rw [ht]; exact hP, va_K.moved hW.alike hK, hD⟩, hS.F ht⟩) hS.2.2 dX12_titleOf_46
        · have tc_94 : (a1).toInt = 0 := congrArg Int32.toInt c_78
          have h_95 : rg a1 0 0 := rg_and h_75 (rg_of_eq c_78 (rg_k (0 : Int32) 0 rfl)) (by decide)
          have uh_95 := h_95.1
          have vh_95 := h_95.2
          refine lv_aload_n hx hb dX12_titleOf_23 rfl (lv_at hl 0 rfl) ?_
          refine lv_iload_n hx hb dX12_titleOf_24 rfl (lv_at hl 1 rfl) ?_
          refine lv_bipush (v := 14) hx hb dX12_titleOf_25 (by decide) ?_
          refine pk_i (va_runV (As := [.int a0, .int 14]) (rest := []) ⟨hx, hb, hml, hown, hts⟩ (s_X12_cellAt_c14 l D t σ I J ri rj rq H.size tg hSH hG.1 this a0 hL_this hK_this (rg_w f_60 (by decide))) (cwV 2 hts (tw_V tw_361 tw_362 tw_363 tw_5 tw_364) rfl rfl rfl (by decide +kernel) ⟨Nat.le_of_ble_eq_true rfl, Nat.le_of_ble_eq_true rfl⟩) ⟨pq_blind, pq_recv hK hP hL_this hK_this (by decide) rfl, pq_pre hK hN hP hD⟩ rfl rfl hl.1 rfl (lv_room (Nat.le_of_ble_eq_true rfl)) dX12_titleOf_27 ⟨Nat.le_of_ble_eq_true rfl, Nat.le_of_ble_eq_true rfl⟩) hD hS hA (fun x_96 σ1 μ1 H locs hw_97 hP hD hS => ?_)
          obtain ⟨hu_98, hr_100⟩ := hw_97
          obtain ⟨hu_98a, hu_98b⟩ := Prod.mk.inj hu_98
          rw [hu_98a, hu_98b] at hP hD
          refine lv_goto (tgt := 46) hx hb dX12_titleOf_30 (by decide) ?_
          subst hQ
          exact W.iret (v := x_96) hx hb hr (fun t1 ht hW => ⟨⟨x_96, (σ, I, J, ri, rj, rq), rfl, ⟨ri, rj, rfl, hG, (rg_w hr_100 (by decide))⟩, by rw [ht]; exact hP, va_K.moved hW.alike hK, hD⟩, hS.F ht⟩) hS.2.2 dX12_titleOf_46
      · have f_101 := (hr_67.resolve_left (fun q => absurd (q.1.symm.trans c_69) (by decide))).2
        have tc_102 : (x_63).toInt = 0 := congrArg Int32.toInt c_69
        have h_103 : rg x_63 0 0 := rg_and h_68 (rg_of_eq c_69 (rg_k (0 : Int32) 0 rfl)) (by decide)
        have uh_103 := h_103.1
        have vh_103 := h_103.2
        exact K_55 _ _ _ hG hP hD hS (lv_sub hl [] rfl)
  exact go _ _ _ hP hD hS hl

set_option maxHeartbeats 4000000 in
set_option maxRecDepth 100000 in
theorem s_X12_four (l : Launch) (D : va_G) (t : pq_T) (σ : pq_S) (I : Nat → Nat → Int32) (J : Nat → Nat → Int64) (ri : Nat → Nat → Int32) (rj : Nat → Nat → Int64) (rq : Nat → Nat → Option Nat) (sz : Nat) (tg : Nat → Nat) (hSH : SH σ tg) (hG0 : GT tg I ri) (this : Nat) (a0 : Int32) (hL_this : this ∈ σ.1) (hK_this : σ.2.1 this = 12) (hct : (I 388 this).toInt + 4 ≤ 300) : MetV l yX12_four (wa yX12_four cX12_four 3 none) ({ frames := 0, cells := 0, slots := 0, locals := 0 }) [.ref this, .int a0] D t σ (I, J, ri, rj, rq) sz 0 0 (fun (u : pq_S × pq_M) => ∃ I' : Nat → Nat → Int32, ∃ ri' : Nat → Nat → Int32, u = (σ, I', J, ri', rj, rq) ∧ GM [388] tg σ I ri I' ri' rq ∧ ((I' 388 this).toInt = (I 388 this).toInt + 4)) := by
  refine Met.ofW (cc := cX12_four) (maxL := 3) (ret := none) (by decide) rfl ?_
  intro p e s m args below meth c s₁ B hml hv
  obtain ⟨rfl, hsz, hP, hK, hD0, hN⟩ := hv
  have hx := B.exec
  have hb := B.bytes
  have hr := B.returns
  have hts := atoms_spec (ws := (wa yX12_four cX12_four 3 none)) B.pre
  have hown : s.vm.findClass RX12 = some m.cls := findClass_of_methodNamed B.named
  have hlocks := B.notSynchronized
  subst hsz
  have hD : va_D (pq_B t σ (I, J, ri, rj, rq) s.heap.size) (pq_P t σ (I, J, ri, rj, rq)) := hD0.self
  generalize hAe : pq_B t σ (I, J, ri, rj, rq) s.heap.size = A at hD ⊢
  have hA : ∀ q : Nat, s.heap.size ≤ q → A q := fun q h => by rw [← hAe]; exact Or.inr h
  have hS : va_S A s.heap s.heap [] := va_S.rf
  have hG : GM [388] tg σ I ri I ri rq := ⟨hG0, fun _ _ _ => rfl, fun _ _ _ _ _ => rfl, fun _ _ _ _ _ _ => rfl⟩
  have hl := lv_entry ([.ref this, .int a0]) (n := 3) (Nat.le_of_ble_eq_true rfl)
  rw [lg_entry_eq]
  generalize (lg_sl ([.ref this, .int a0]) ++ List.replicate (3 - (lg_sl ([.ref this, .int a0])).length) Slot.unset).toArray = ls at hl ⊢
  have hl : lv_has ls 3 [(0, .ref this), (1, .int a0)] := hl
  refine q_gen (fun Q hQ => ?_)
  have go : ∀ (H : Heap) (locs : List Loc) (ls : Array Slot), va_P D vwCl (pq_P t σ (I, J, ri, rj, rq)) H → va_D A (pq_P t σ (I, J, ri, rj, rq)) → va_S A s.heap H locs → lv_has ls 3 [(0, .ref this), (1, .int a0)] → W p l e ({ frames := 0, cells := 0, slots := 0, locals := 0 } : Room) s m (List.toArray ([.ref this, .int a0] : List Value)) below meth c H locs 0 0 Q (F0 m 0 ls []) := by
    intro H locs ls hP hD hS hl
    refine lv_bipush (v := 24) hx hb dX12_four_0 (by decide) ?_
    refine lv_istore_n (lv' := [(2, .int 24), (0, .ref this), (1, .int a0)]) hx hb dX12_four_2 rfl hl (by decide) rfl (fun ls hl => ?_)
    have L_194 : ∀ (n_193 : Nat) (x_169 : Int32) (I_170 : Nat → Nat → Int32) (ri_171 : Nat → Nat → Int32) (H : Heap) (locs : List Loc) (ls : Array Slot), rg x_169 (-8) 24 → (8 * ((I_170 388 this).toInt - (I 388 this).toInt) + (x_169).toInt = 24) → ((x_169).toInt - (-8)).toNat < n_193 → GM [388] tg σ I ri I_170 ri_171 rq → va_P D vwCl (pq_P t σ (I_170, J, ri_171, rj, rq)) H → va_D A (pq_P t σ (I_170, J, ri_171, rj, rq)) → va_S A s.heap H locs → lv_has ls 3 [(0, .ref this), (1, .int a0), (2, .int x_169)] → W p l e ({ frames := 0, cells := 0, slots := 0, locals := 0 } : Room) s m (List.toArray ([.ref this, .int a0] : List Value)) below meth c H locs 0 0 Q (F0 m 3 ls []) := by
      intro n_193
      induction n_193 with
      | zero => intro x_169 I_170 ri_171 H locs ls h_198 hrel_199 hm_192 hG hP hD hS hl; exact absurd hm_192 (Nat.not_lt_zero _)
      | succ n_193 ih_195 =>
        intro x_169 I_170 ri_171 H locs ls h_198 hrel_199 hm_192 hG hP hD hS hl
        have uh_198 := h_198.1
        have vh_198 := h_198.2
        refine lv_iload_n hx hb dX12_four_3 rfl (lv_at hl 2 rfl) ?_
        refine lv_if_lt (tgt := 39) hx hb dX12_four_4 (by decide) (fun c_200 => ?_) (fun c_200 => ?_)
        · have tc_201 : (x_169).toInt < 0 := Int32.lt_iff_toInt_lt.mp c_200
          have h_202 : rg x_169 (-8) (-1) := rg_lt1 c_200 h_198 (rg_k (0 : Int32) 0 rfl) (by decide)
          have uh_202 := h_202.1
          have vh_202 := h_202.2
          subst hQ
          exact W.vret hx hb hr (fun t1 ht hW => ⟨⟨(σ, I_170, J, ri_171, rj, rq), rfl, ⟨I_170, ri_171, rfl, hG, (by omega)⟩, by rw [ht]; exact hP, va_K.moved hW.alike hK, hD⟩, hS.F ht⟩) hS.2.2 dX12_four_39
        · have tc_203 : 0 ≤ (x_169).toInt := Int32.le_iff_toInt_le.mp (nlt c_200)
          have h_204 : rg x_169 0 24 := rg_le2 (nlt c_200) (rg_k (0 : Int32) 0 rfl) h_198 (by decide)
          have uh_204 := h_204.1
          have vh_204 := h_204.2
          refine lv_aload_n hx hb dX12_four_7 rfl (lv_at hl 0 rfl) ?_
          obtain ⟨w_205, hR_w_205, hL_w_205, hK_w_205, hN_w_205, hT_w_205⟩ := sh_a hSH 387 (ci := 12) (kd := 13) (len := 300) rfl (by decide) hL_this hK_this
          refine pg_f (v := .ref w_205) (C := RX12) (T := TX12) (N := 31) hx hb hts (tw_i inlX12) hown hK hP hL_this hK_this (by decide) rfl 3 (by decide) (hts _ (tw_c tw_179)) (pq_hv rfl hR_w_205) dX12_four_8 ?_
          refine lv_aload_n hx hb dX12_four_11 rfl (lv_at hl 0 rfl) ?_
          refine pg_f (v := .int (I_170 388 this)) (C := RX12) (T := TX12) (N := 31) hx hb hts (tw_i inlX12) hown hK hP hL_this hK_this (by decide) rfl 4 (by decide) (hts _ (tw_c tw_631)) rfl dX12_four_12 ?_
          have h_206 : rg (I_170 388 this) 0 300 := GM.rI hG 388 rfl
          have uh_206 := h_206.1
          have vh_206 := h_206.2
          refine lv_iload_n hx hb dX12_four_15 rfl (lv_at hl 1 rfl) ?_
          refine lv_iload_n hx hb dX12_four_16 rfl (lv_at hl 2 rfl) ?_
          refine lv_ishr hx hb dX12_four_17 ?_
          refine lv_topi (fun x_207 ex_207 => ?_)
          refine lv_sipush (v := 255) hx hb dX12_four_18 (by decide) ?_
          refine lv_iand hx hb dX12_four_21 ?_
          refine lv_topi (fun x_208 ex_208 => ?_)
          have h_209 : rg x_208 0 255 := rg_of_eq ex_208 (rg_m255 _)
          have uh_209 := h_209.1
          have vh_209 := h_209.2
          have h_211 : rg (I_170 388 this) 0 299 := ⟨by omega, by omega⟩
          have uh_211 := h_211.1
          have vh_211 := h_211.2
          refine pt_i hx hb hK hP hD hS hL_w_205 hK_w_205 hN_w_205 (rg_in h_211 (by decide)) dX12_four_22 (fun r_210 H locs er_210 hP hD hS => ?_)
          have hG := GM.wR hG hSH hT_w_205 rfl er_210 (rg_w h_209 (by decide)) (by decide)
          refine lv_aload_n hx hb dX12_four_23 rfl (lv_at hl 0 rfl) ?_
          refine lv_dup hx hb dX12_four_24 rfl ?_
          refine pg_f (v := .int (I_170 388 this)) (C := RX12) (T := TX12) (N := 31) hx hb hts (tw_i inlX12) hown hK hP hL_this hK_this (by decide) rfl 4 (by decide) (hts _ (tw_c tw_631)) rfl dX12_four_25 ?_
          refine lv_iconst (v := 1) hx hb dX12_four_28 (by decide) ?_
          refine lv_iadd hx hb dX12_four_29 ?_
          refine lv_topi (fun x_212 ex_212 => ?_)
          have h_213 : rg x_212 1 300 := rg_of_eq ex_212 (rg_add h_211 (rg_k (1 : Int32) 1 rfl) (by decide))
          have uh_213 := h_213.1
          have vh_213 := h_213.2
          have tx_212 : (x_212).toInt = (I_170 388 this).toInt + 1 := by rw [ex_212]; exact i_add_rg (a2 := (I_170 388 this).toInt) (b2 := 1) rfl rfl h_211 (rg_k (1 : Int32) 1 rfl) (by decide)
          refine pp_i (v := x_212) (ty := .int) (C := RX12) (T := TX12) (N := 31) hx hb hts (tw_i inlX12) tyX12 tyX12_ok nmX12 hown hK hP hD hS hL_this hK_this (by decide) rfl 4 388 (by decide) (hts _ (tw_c tw_631)) rfl (by decide +kernel) rfl rfl (Nat.le_of_ble_eq_true rfl) (ps_388 _ _ _ _ _) dX12_four_30 (fun I_214 H locs eI_214 hP hD hS => ?_)
          have hG := GM.wI hG 388 rfl eI_214 (rg_w h_213 (by decide)) (by decide)
          have tt_215 : (I_214 388 this).toInt = (x_212).toInt := by rw [eI_214, pq_us]
          obtain ⟨x_216, ex_216⟩ : ∃ y : Int32, y = x_169 + Int32.ofInt (-8) := ⟨_, rfl⟩
          have h_217 : rg x_216 (-8) 16 := rg_of_eq ex_216 (rg_add h_204 (rg_k (Int32.ofInt (-8)) (-8) rfl) (by decide))
          have uh_217 := h_217.1
          have vh_217 := h_217.2
          have tx_216 : (x_216).toInt = (x_169).toInt + (-8) := by rw [ex_216]; exact i_add_rg (a2 := (x_169).toInt) (b2 := (-8)) rfl rfl h_204 (rg_k (Int32.ofInt (-8)) (-8) rfl) (by decide)
          refine lv_iinc (v := x_216) (lv' := [(2, .int x_216), (0, .ref this), (1, .int a0)]) hx hb dX12_four_33 hl (k := 2) rfl ex_216.symm (by decide) rfl (fun ls hl => ?_)
          refine lv_goto (tgt := 3) hx hb dX12_four_36 (by decide) ?_
          exact ih_195 x_216 I_214 r_210 _ _ _ (rg_w h_217 (by decide)) (by omega) (ms_dn 8 hm_192 ex_216 rfl (by decide) h_204 (by decide) (by decide)) hG hP hD hS (lv_sub hl [1, 2, 0] rfl)
    exact L_194 _ (24 : Int32) I ri _ _ _ (rg_w (rg_k (24 : Int32) 24 rfl) (by decide)) (by have k0 : (24 : Int32).toInt = 24 := rfl; omega) (Nat.lt_succ_self _) hG hP hD hS (lv_sub hl [1, 2, 0] rfl)
  exact go _ _ _ hP hD hS hl

set_option maxHeartbeats 4000000 in
set_option maxRecDepth 100000 in
theorem s_X12_feed (l : Launch) (D : va_G) (t : pq_T) (σ : pq_S) (I : Nat → Nat → Int32) (J : Nat → Nat → Int64) (ri : Nat → Nat → Int32) (rj : Nat → Nat → Int64) (rq : Nat → Nat → Option Nat) (sz : Nat) (tg : Nat → Nat) (hSH : SH σ tg) (hG0 : GT tg I ri) (this : Nat) (a0 : Int32) (a1 : Int32) (a2 : Int32) (a3 : Int32) (a4 : Int32) (hL_this : this ∈ σ.1) (hK_this : σ.2.1 this = 12) : MetI l yX12_feed (wa yX12_feed cX12_feed 6 (some .int)) ({ frames := 1, cells := 0, slots := 0, locals := 22 }) [.ref this, .int a0, .int a1, .int a2, .int a3, .int a4] D t σ (I, J, ri, rj, rq) sz 0 0 (fun (r : Int32) (u : pq_S × pq_M) => ∃ I' : Nat → Nat → Int32, ∃ ri' : Nat → Nat → Int32, u = (σ, I', J, ri', rj, rq) ∧ GM [388] tg σ I ri I' ri' rq ∧ rg r (-1) 300) := by
  refine Met.ofW (cc := cX12_feed) (maxL := 6) (ret := (some .int)) (by decide) rfl ?_
  intro p e s m args below meth c s₁ B hml hv
  obtain ⟨rfl, hsz, hP, hK, hD0, hN⟩ := hv
  have hx := B.exec
  have hb := B.bytes
  have hr := B.returns
  have hts := atoms_spec (ws := (wa yX12_feed cX12_feed 6 (some .int))) B.pre
  have hown : s.vm.findClass RX12 = some m.cls := findClass_of_methodNamed B.named
  have hlocks := B.notSynchronized
  subst hsz
  have hD : va_D (pq_B t σ (I, J, ri, rj, rq) s.heap.size) (pq_P t σ (I, J, ri, rj, rq)) := hD0.self
  generalize hAe : pq_B t σ (I, J, ri, rj, rq) s.heap.size = A at hD ⊢
  have hA : ∀ q : Nat, s.heap.size ≤ q → A q := fun q h => by rw [← hAe]; exact Or.inr h
  have hS : va_S A s.heap s.heap [] := va_S.rf
  have hG : GM [388] tg σ I ri I ri rq := ⟨hG0, fun _ _ _ => rfl, fun _ _ _ _ _ => rfl, fun _ _ _ _ _ _ => rfl⟩
  have hl := lv_entry ([.ref this, .int a0, .int a1, .int a2, .int a3, .int a4]) (n := 6) (Nat.le_of_ble_eq_true rfl)
  rw [lg_entry_eq]
  generalize (lg_sl ([.ref this, .int a0, .int a1, .int a2, .int a3, .int a4]) ++ List.replicate (6 - (lg_sl ([.ref this, .int a0, .int a1, .int a2, .int a3, .int a4])).length) Slot.unset).toArray = ls at hl ⊢
  have hl : lv_has ls 6 [(0, .ref this), (1, .int a0), (2, .int a1), (3, .int a2), (4, .int a3), (5, .int a4)] := hl
  refine q_gen (fun Q hQ => ?_)
  have go : ∀ (H : Heap) (locs : List Loc) (ls : Array Slot), va_P D vwCl (pq_P t σ (I, J, ri, rj, rq)) H → va_D A (pq_P t σ (I, J, ri, rj, rq)) → va_S A s.heap H locs → lv_has ls 6 [(0, .ref this), (1, .int a0), (2, .int a1), (3, .int a2), (4, .int a3), (5, .int a4)] → W p l e ({ frames := 1, cells := 0, slots := 0, locals := 22 } : Room) s m (List.toArray ([.ref this, .int a0, .int a1, .int a2, .int a3, .int a4] : List Value)) below meth c H locs 0 0 Q (F0 m 0 ls []) := by
    intro H locs ls hP hD hS hl
    refine lv_aload_n hx hb dX12_feed_0 rfl (lv_at hl 0 rfl) ?_
    refine pg_f (v := .int (I 388 this)) (C := RX12) (T := TX12) (N := 31) hx hb hts (tw_i inlX12) hown hK hP hL_this hK_this (by decide) rfl 4 (by decide) (hts _ (tw_c tw_631)) rfl dX12_feed_1 ?_
    have h_1 : rg (I 388 this) 0 300 := GM.rI hG 388 rfl
    have uh_1 := h_1.1
    have vh_1 := h_1.2
    refine lv_bipush (v := 20) hx hb dX12_feed_4 (by decide) ?_
    refine lv_iadd hx hb dX12_feed_6 ?_
    refine lv_topi (fun x_2 ex_2 => ?_)
    have h_3 : rg x_2 20 320 := rg_of_eq ex_2 (rg_add h_1 (rg_k (20 : Int32) 20 rfl) (by decide))
    have uh_3 := h_3.1
    have vh_3 := h_3.2
    have tx_2 : (x_2).toInt = (I 388 this).toInt + 20 := by rw [ex_2]; exact i_add_rg (a2 := (I 388 this).toInt) (b2 := 20) rfl rfl h_1 (rg_k (20 : Int32) 20 rfl) (by decide)
    refine lv_sipush (v := 300) hx hb dX12_feed_7 (by decide) ?_
    refine lv_icmp_le (tgt := 15) hx hb dX12_feed_10 (by decide) (fun c_4 => ?_) (fun c_4 => ?_)
    · have tc_5 : (x_2).toInt ≤ 300 := Int32.le_iff_toInt_le.mp c_4
      have h_6 : rg x_2 20 300 := rg_le1 c_4 h_3 (rg_k (300 : Int32) 300 rfl) (by decide)
      have uh_6 := h_6.1
      have vh_6 := h_6.2
      refine lv_aload_n hx hb dX12_feed_15 rfl (lv_at hl 0 rfl) ?_
      refine lv_iload_n hx hb dX12_feed_16 rfl (lv_at hl 1 rfl) ?_
      refine pk_v (va_runV (As := [.int a0]) (rest := []) ⟨hx, hb, hml, hown, hts⟩ (s_X12_four l D t σ I J ri rj rq H.size tg hSH hG.1 this a0 hL_this hK_this (by omega)) (cwV 1 hts (tw_V tw_632 tw_633 tw_634 tw_5 tw_635) rfl rfl rfl (by decide +kernel) ⟨Nat.le_of_ble_eq_true rfl, Nat.le_of_ble_eq_true rfl⟩) ⟨pq_blind, pq_recv hK hP hL_this hK_this (by decide) rfl, pq_pre hK hN hP hD⟩ rfl rfl hl.1 rfl (lv_room (Nat.le_of_ble_eq_true rfl)) dX12_feed_17 ⟨Nat.le_of_ble_eq_true rfl, Nat.le_of_ble_eq_true rfl⟩) hD hS hA (fun σ1 μ1 H locs hw_8 hP hD hS => ?_)
      obtain ⟨I_9, ri_10, hu_11, hg_12, hp_14⟩ := hw_8
      obtain ⟨hu_11a, hu_11b⟩ := Prod.mk.inj hu_11
      rw [hu_11a, hu_11b] at hP hD
      have tt_15 := hp_14
      have hG := GM.tr hG hg_12 (by decide)
      refine lv_aload_n hx hb dX12_feed_20 rfl (lv_at hl 0 rfl) ?_
      refine lv_iload_n hx hb dX12_feed_21 rfl (lv_at hl 2 rfl) ?_
      refine pk_v (va_runV (As := [.int a1]) (rest := []) ⟨hx, hb, hml, hown, hts⟩ (s_X12_four l D t σ I_9 J ri_10 rj rq H.size tg hSH hG.1 this a1 hL_this hK_this (by omega)) (cwV 1 hts (tw_V tw_632 tw_633 tw_634 tw_5 tw_635) rfl rfl rfl (by decide +kernel) ⟨Nat.le_of_ble_eq_true rfl, Nat.le_of_ble_eq_true rfl⟩) ⟨pq_blind, pq_recv hK hP hL_this hK_this (by decide) rfl, pq_pre hK hN hP hD⟩ rfl rfl hl.1 rfl (lv_room (Nat.le_of_ble_eq_true rfl)) dX12_feed_22 ⟨Nat.le_of_ble_eq_true rfl, Nat.le_of_ble_eq_true rfl⟩) hD hS hA (fun σ1 μ1 H locs hw_17 hP hD hS => ?_)
      obtain ⟨I_18, ri_19, hu_20, hg_21, hp_23⟩ := hw_17
      obtain ⟨hu_20a, hu_20b⟩ := Prod.mk.inj hu_20
      rw [hu_20a, hu_20b] at hP hD
      have tt_24 := hp_23
      have hG := GM.tr hG hg_21 (by decide)
      refine lv_aload_n hx hb dX12_feed_25 rfl (lv_at hl 0 rfl) ?_
      refine lv_iload_n hx hb dX12_feed_26 rfl (lv_at hl 3 rfl) ?_
      refine pk_v (va_runV (As := [.int a2]) (rest := []) ⟨hx, hb, hml, hown, hts⟩ (s_X12_four l D t σ I_18 J ri_19 rj rq H.size tg hSH hG.1 this a2 hL_this hK_this (by omega)) (cwV 1 hts (tw_V tw_632 tw_633 tw_634 tw_5 tw_635) rfl rfl rfl (by decide +kernel) ⟨Nat.le_of_ble_eq_true rfl, Nat.le_of_ble_eq_true rfl⟩) ⟨pq_blind, pq_recv hK hP hL_this hK_this (by decide) rfl, pq_pre hK hN hP hD⟩ rfl rfl hl.1 rfl (lv_room (Nat.le_of_ble_eq_true rfl)) dX12_feed_27 ⟨Nat.le_of_ble_eq_true rfl, Nat.le_of_ble_eq_true rfl⟩) hD hS hA (fun σ1 μ1 H locs hw_26 hP hD hS => ?_)
      obtain ⟨I_27, ri_28, hu_29, hg_30, hp_32⟩ := hw_26
      obtain ⟨hu_29a, hu_29b⟩ := Prod.mk.inj hu_29
      rw [hu_29a, hu_29b] at hP hD
      have tt_33 := hp_32
      have hG := GM.tr hG hg_30 (by decide)
      refine lv_aload_n hx hb dX12_feed_30 rfl (lv_at hl 0 rfl) ?_
      refine lv_iload hx hb dX12_feed_31 (lv_at hl 4 rfl) ?_
      refine pk_v (va_runV (As := [.int a3]) (rest := []) ⟨hx, hb, hml, hown, hts⟩ (s_X12_four l D t σ I_27 J ri_28 rj rq H.size tg hSH hG.1 this a3 hL_this hK_this (by omega)) (cwV 1 hts (tw_V tw_632 tw_633 tw_634 tw_5 tw_635) rfl rfl rfl (by decide +kernel) ⟨Nat.le_of_ble_eq_true rfl, Nat.le_of_ble_eq_true rfl⟩) ⟨pq_blind, pq_recv hK hP hL_this hK_this (by decide) rfl, pq_pre hK hN hP hD⟩ rfl rfl hl.1 rfl (lv_room (Nat.le_of_ble_eq_true rfl)) dX12_feed_33 ⟨Nat.le_of_ble_eq_true rfl, Nat.le_of_ble_eq_true rfl⟩) hD hS hA (fun σ1 μ1 H locs hw_35 hP hD hS => ?_)
      obtain ⟨I_36, ri_37, hu_38, hg_39, hp_41⟩ := hw_35
      obtain ⟨hu_38a, hu_38b⟩ := Prod.mk.inj hu_38
      rw [hu_38a, hu_38b] at hP hD
      have tt_42 := hp_41
      have hG := GM.tr hG hg_39 (by decide)
      refine lv_aload_n hx hb dX12_feed_36 rfl (lv_at hl 0 rfl) ?_
      refine lv_iload hx hb dX12_feed_37 (lv_at hl 5 rfl) ?_
      refine pk_v (va_runV (As := [.int a4]) (rest := []) ⟨hx, hb, hml, hown, hts⟩ (s_X12_four l D t σ I_36 J ri_37 rj rq H.size tg hSH hG.1 this a4 hL_this hK_this (by omega)) (cwV 1 hts (tw_V tw_632 tw_633 tw_634 tw_5 tw_635) rfl rfl rfl (by decide +kernel) ⟨Nat.le_of_ble_eq_true rfl, Nat.le_of_ble_eq_true rfl⟩) ⟨pq_blind, pq_recv hK hP hL_this hK_this (by decide) rfl, pq_pre hK hN hP hD⟩ rfl rfl hl.1 rfl (lv_room (Nat.le_of_ble_eq_true rfl)) dX12_feed_39 ⟨Nat.le_of_ble_eq_true rfl, Nat.le_of_ble_eq_true rfl⟩) hD hS hA (fun σ1 μ1 H locs hw_44 hP hD hS => ?_)
      obtain ⟨I_45, ri_46, hu_47, hg_48, hp_50⟩ := hw_44
      obtain ⟨hu_47a, hu_47b⟩ := Prod.mk.inj hu_47
      rw [hu_47a, hu_47b] at hP hD
      have tt_51 := hp_50
      have hG := GM.tr hG hg_48 (by decide)
      refine lv_aload_n hx hb dX12_feed_42 rfl (lv_at hl 0 rfl) ?_
      refine pg_f (v := .int (I_45 388 this)) (C := RX12) (T := TX12) (N := 31) hx hb hts (tw_i inlX12) hown hK hP hL_this hK_this (by decide) rfl 4 (by decide) (hts _ (tw_c tw_631)) rfl dX12_feed_43 ?_
      have h_52 : rg (I_45 388 this) 0 300 := GM.rI hG 388 rfl
      have uh_52 := h_52.1
      have vh_52 := h_52.2
      subst hQ
      exact W.iret (v := (I_45 388 this)) hx hb hr (fun t1 ht hW => ⟨⟨(I_45 388 this), (σ, I_45, J, ri_46, rj, rq), rfl, ⟨I_45, ri_46, rfl, hG, (rg_w h_52 (by decide))⟩, by rw [ht]; exact hP, va_K.moved hW.alike hK, hD⟩, hS.F ht⟩) hS.2.2 dX12_feed_46
    · have tc_53 : 300 < (x_2).toInt := Int32.lt_iff_toInt_lt.mp (nle c_4)
      have h_54 : rg x_2 301 320 := rg_lt2 (nle c_4) (rg_k (300 : Int32) 300 rfl) h_3 (by decide)
      have uh_54 := h_54.1
      have vh_54 := h_54.2
      refine lv_iconst (v := (-1)) hx hb dX12_feed_13 (by decide) ?_
      subst hQ
      exact W.iret (v := (-1)) hx hb hr (fun t1 ht hW => ⟨⟨(-1), (σ, I, J, ri, rj, rq), rfl, ⟨I, ri, rfl, hG, (rg_w (rg_k (-1 : Int32) (-1) rfl) (by decide))⟩, by rw [ht]; exact hP, va_K.moved hW.alike hK, hD⟩, hS.F ht⟩) hS.2.2 dX12_feed_14
  exact go _ _ _ hP hD hS hl

set_option maxHeartbeats 4000000 in
set_option maxRecDepth 100000 in
theorem s_X12_end (l : Launch) (D : va_G) (t : pq_T) (σ : pq_S) (I : Nat → Nat → Int32) (J : Nat → Nat → Int64) (ri : Nat → Nat → Int32) (rj : Nat → Nat → Int64) (rq : Nat → Nat → Option Nat) (sz : Nat) (tg : Nat → Nat) (hSH : SH σ tg) (hG0 : GT tg I ri) (this : Nat) (a0 : Int32) (hL_this : this ∈ σ.1) (hK_this : σ.2.1 this = 12) : MetI l yX12_end (wa yX12_end cX12_end 2 (some .int)) ({ frames := 1, cells := 0, slots := 0, locals := 22 }) [.ref this, .int a0] D t σ (I, J, ri, rj, rq) sz 0 0 (fun (r : Int32) (u : pq_S × pq_M) => ∃ I' : Nat → Nat → Int32, u = (σ, I', J, ri, rj, rq) ∧ GM [388] tg σ I ri I' ri rq ∧ rg r (-1) 300) := by
  refine Met.ofW (cc := cX12_end) (maxL := 2) (ret := (some .int)) (by decide) rfl ?_
  intro p e s m args below meth c s₁ B hml hv
  obtain ⟨rfl, hsz, hP, hK, hD0, hN⟩ := hv
  have hx := B.exec
  have hb := B.bytes
  have hr := B.returns
  have hts := atoms_spec (ws := (wa yX12_end cX12_end 2 (some .int))) B.pre
  have hown : s.vm.findClass RX12 = some m.cls := findClass_of_methodNamed B.named
  have hlocks := B.notSynchronized
  subst hsz
  have hD : va_D (pq_B t σ (I, J, ri, rj, rq) s.heap.size) (pq_P t σ (I, J, ri, rj, rq)) := hD0.self
  generalize hAe : pq_B t σ (I, J, ri, rj, rq) s.heap.size = A at hD ⊢
  have hA : ∀ q : Nat, s.heap.size ≤ q → A q := fun q h => by rw [← hAe]; exact Or.inr h
  have hS : va_S A s.heap s.heap [] := va_S.rf
  have hG : GM [388] tg σ I ri I ri rq := ⟨hG0, fun _ _ _ => rfl, fun _ _ _ _ _ => rfl, fun _ _ _ _ _ _ => rfl⟩
  have hl := lv_entry ([.ref this, .int a0]) (n := 2) (Nat.le_of_ble_eq_true rfl)
  rw [lg_entry_eq]
  generalize (lg_sl ([.ref this, .int a0]) ++ List.replicate (2 - (lg_sl ([.ref this, .int a0])).length) Slot.unset).toArray = ls at hl ⊢
  have hl : lv_has ls 2 [(0, .ref this), (1, .int a0)] := hl
  refine q_gen (fun Q hQ => ?_)
  have go : ∀ (H : Heap) (locs : List Loc) (ls : Array Slot), va_P D vwCl (pq_P t σ (I, J, ri, rj, rq)) H → va_D A (pq_P t σ (I, J, ri, rj, rq)) → va_S A s.heap H locs → lv_has ls 2 [(0, .ref this), (1, .int a0)] → W p l e ({ frames := 1, cells := 0, slots := 0, locals := 22 } : Room) s m (List.toArray ([.ref this, .int a0] : List Value)) below meth c H locs 0 0 Q (F0 m 0 ls []) := by
    intro H locs ls hP hD hS hl
    refine lv_iload_n hx hb dX12_end_0 rfl (lv_at hl 1 rfl) ?_
    refine lv_iconst (v := 0) hx hb dX12_end_1 (by decide) ?_
    refine lv_aload_n hx hb dX12_end_2 rfl (lv_at hl 0 rfl) ?_
    refine pg_f (v := .int (I 388 this)) (C := RX12) (T := TX12) (N := 31) hx hb hts (tw_i inlX12) hown hK hP hL_this hK_this (by decide) rfl 4 (by decide) (hts _ (tw_c tw_631)) rfl dX12_end_3 ?_
    have h_1 : rg (I 388 this) 0 300 := GM.rI hG 388 rfl
    have uh_1 := h_1.1
    have vh_1 := h_1.2
    refine pk_i (va_runS (As := [.int a0, .int 0, .int (I 388 this)]) (rest := []) ⟨hx, hb, hml, hown, hts⟩ (s_X12_isIn l D t σ I J ri rj rq H.size tg hSH hG.1 a0 (0 : Int32) (I 388 this)) (va_cwS 3 hts (tw_S tw_235 tw_236 tw_5 tw_237) rfl rfl rfl (by decide +kernel) ⟨Nat.le_of_ble_eq_true rfl, Nat.le_of_ble_eq_true rfl⟩) ⟨pq_blind, pq_pre hK hN hP hD⟩ rfl rfl hl.1 rfl (lv_room (Nat.le_of_ble_eq_true rfl)) dX12_end_6 ⟨Nat.le_of_ble_eq_true rfl, Nat.le_of_ble_eq_true rfl⟩) hD hS hA (fun x_2 σ1 μ1 H locs hw_3 hP hD hS => ?_)
    obtain ⟨hu_4, hr_6⟩ := hw_3
    obtain ⟨hu_4a, hu_4b⟩ := Prod.mk.inj hu_4
    rw [hu_4a, hu_4b] at hP hD
    have h_7 : rg x_2 0 1 := by rcases hr_6 with ⟨q, -⟩ | ⟨q, -⟩ <;> rw [q] <;> exact ⟨by decide, by decide⟩
    have uh_7 := h_7.1
    have vh_7 := h_7.2
    refine lv_if_ne (tgt := 14) hx hb dX12_end_9 (by decide) (fun c_8 => ?_) (fun c_8 => ?_)
    · obtain ⟨f_9, f_10⟩ := (hr_6.resolve_right (fun q => c_8 q.1)).2
      have tc_11 : 0 ≤ (a0).toInt := Int32.le_iff_toInt_le.mp f_9
      have h_12 : rg a0 0 2147483647 := rg_le2 f_9 (rg_k (0 : Int32) 0 rfl) (rg_full _) (by decide)
      have uh_12 := h_12.1
      have vh_12 := h_12.2
      have tc_13 : (a0).toInt ≤ (I 388 this).toInt := Int32.le_iff_toInt_le.mp f_10
      have h_14 : rg a0 0 300 := rg_le1 f_10 h_12 h_1 (by decide)
      have uh_14 := h_14.1
      have vh_14 := h_14.2
      have tc_15 : (x_2).toInt ≠ 0 := fun q => c_8 (Int32.toInt_inj.mp q)
      have h_16 : rg x_2 1 1 := rg_ne c_8 h_7 0 rfl (by decide)
      have uh_16 := h_16.1
      have vh_16 := h_16.2
      refine lv_aload_n hx hb dX12_end_14 rfl (lv_at hl 0 rfl) ?_
      refine lv_iload_n hx hb dX12_end_15 rfl (lv_at hl 1 rfl) ?_
      refine pp_i (v := a0) (ty := .int) (C := RX12) (T := TX12) (N := 31) hx hb hts (tw_i inlX12) tyX12 tyX12_ok nmX12 hown hK hP hD hS hL_this hK_this (by decide) rfl 4 388 (by decide) (hts _ (tw_c tw_631)) rfl (by decide +kernel) rfl rfl (Nat.le_of_ble_eq_true rfl) (ps_388 _ _ _ _ _) dX12_end_16 (fun I_17 H locs eI_17 hP hD hS => ?_)
      have hG := GM.wI hG 388 rfl eI_17 (rg_w h_14 (by decide)) (by decide)
      refine lv_iload_n hx hb dX12_end_19 rfl (lv_at hl 1 rfl) ?_
      subst hQ
      exact W.iret (v := a0) hx hb hr (fun t1 ht hW => ⟨⟨a0, (σ, I_17, J, ri, rj, rq), rfl, ⟨I_17, rfl, hG, (rg_w h_14 (by decide))⟩, by rw [ht]; exact hP, va_K.moved hW.alike hK, hD⟩, hS.F ht⟩) hS.2.2 dX12_end_20
    · have f_18 := (hr_6.resolve_left (fun q => absurd (q.1.symm.trans c_8) (by decide))).2
      have tc_19 : (x_2).toInt = 0 := congrArg Int32.toInt c_8
      have h_20 : rg x_2 0 0 := rg_and h_7 (rg_of_eq c_8 (rg_k (0 : Int32) 0 rfl)) (by decide)
      have uh_20 := h_20.1
      have vh_20 := h_20.2
      refine lv_iconst (v := (-1)) hx hb dX12_end_12 (by decide) ?_
      subst hQ
      exact W.iret (v := (-1)) hx hb hr (fun t1 ht hW => ⟨⟨(-1), (σ, I, J, ri, rj, rq), rfl, ⟨I, rfl, hG, (rg_w (rg_k (-1 : Int32) (-1) rfl) (by decide))⟩, by rw [ht]; exact hP, va_K.moved hW.alike hK, hD⟩, hS.F ht⟩) hS.2.2 dX12_end_13
  exact go _ _ _ hP hD hS hl

set_option maxHeartbeats 4000000 in
set_option maxRecDepth 100000 in
theorem s_X12_see (l : Launch) (D : va_G) (t : pq_T) (σ : pq_S) (I : Nat → Nat → Int32) (J : Nat → Nat → Int64) (ri : Nat → Nat → Int32) (rj : Nat → Nat → Int64) (rq : Nat → Nat → Option Nat) (sz : Nat) (tg : Nat → Nat) (hSH : SH σ tg) (hG0 : GT tg I ri) (this : Nat) (a0 : Int32) (hL_this : this ∈ σ.1) (hK_this : σ.2.1 this = 12) (h_a0 : rg a0 0 300) : MetI l yX12_see (wa yX12_see cX12_see 2 (some .int)) ({ frames := 0, cells := 0, slots := 0, locals := 0 }) [.ref this, .int a0] D t σ (I, J, ri, rj, rq) sz 0 0 (fun (r : Int32) (u : pq_S × pq_M) => u = (σ, I, J, ri, rj, rq) ∧ ((r.toInt = -1 ∧ (I 388 this).toInt ≤ a0.toInt) ∨ (0 ≤ r.toInt ∧ a0.toInt < (I 388 this).toInt)) ∧ rg r (-1) 255) := by
  refine Met.ofW (cc := cX12_see) (maxL := 2) (ret := (some .int)) (by decide) rfl ?_
  intro p e s m args below meth c s₁ B hml hv
  obtain ⟨rfl, hsz, hP, hK, hD0, hN⟩ := hv
  have hx := B.exec
  have hb := B.bytes
  have hr := B.returns
  have hts := atoms_spec (ws := (wa yX12_see cX12_see 2 (some .int))) B.pre
  have hown : s.vm.findClass RX12 = some m.cls := findClass_of_methodNamed B.named
  have hlocks := B.notSynchronized
  subst hsz
  have hD : va_D (pq_B t σ (I, J, ri, rj, rq) s.heap.size) (pq_P t σ (I, J, ri, rj, rq)) := hD0.self
  generalize hAe : pq_B t σ (I, J, ri, rj, rq) s.heap.size = A at hD ⊢
  have hA : ∀ q : Nat, s.heap.size ≤ q → A q := fun q h => by rw [← hAe]; exact Or.inr h
  have hS : va_S A s.heap s.heap [] := va_S.rf
  have hG : GM [] tg σ I ri I ri rq := ⟨hG0, fun _ _ _ => rfl, fun _ _ _ _ _ => rfl, fun _ _ _ _ _ _ => rfl⟩
  have hl := lv_entry ([.ref this, .int a0]) (n := 2) (Nat.le_of_ble_eq_true rfl)
  rw [lg_entry_eq]
  generalize (lg_sl ([.ref this, .int a0]) ++ List.replicate (2 - (lg_sl ([.ref this, .int a0])).length) Slot.unset).toArray = ls at hl ⊢
  have hl : lv_has ls 2 [(0, .ref this), (1, .int a0)] := hl
  refine q_gen (fun Q hQ => ?_)
  have go : ∀ (H : Heap) (locs : List Loc) (ls : Array Slot), va_P D vwCl (pq_P t σ (I, J, ri, rj, rq)) H → va_D A (pq_P t σ (I, J, ri, rj, rq)) → va_S A s.heap H locs → lv_has ls 2 [(0, .ref this), (1, .int a0)] → W p l e ({ frames := 0, cells := 0, slots := 0, locals := 0 } : Room) s m (List.toArray ([.ref this, .int a0] : List Value)) below meth c H locs 0 0 Q (F0 m 0 ls []) := by
    intro H locs ls hP hD hS hl
    refine lv_iload_n hx hb dX12_see_0 rfl (lv_at hl 1 rfl) ?_
    refine lv_aload_n hx hb dX12_see_1 rfl (lv_at hl 0 rfl) ?_
    refine pg_f (v := .int (I 388 this)) (C := RX12) (T := TX12) (N := 31) hx hb hts (tw_i inlX12) hown hK hP hL_this hK_this (by decide) rfl 4 (by decide) (hts _ (tw_c tw_631)) rfl dX12_see_2 ?_
    have h_1 : rg (I 388 this) 0 300 := GM.rI hG 388 rfl
    have uh_1 := h_1.1
    have vh_1 := h_1.2
    refine lv_icmp_ge (tgt := 17) hx hb dX12_see_5 (by decide) (fun c_2 => ?_) (fun c_2 => ?_)
    · have tc_3 : (I 388 this).toInt ≤ (a0).toInt := Int32.le_iff_toInt_le.mp c_2
      refine lv_iconst (v := (-1)) hx hb dX12_see_17 (by decide) ?_
      subst hQ
      exact W.iret (v := (-1)) hx hb hr (fun t1 ht hW => ⟨⟨(-1), (σ, I, J, ri, rj, rq), rfl, ⟨rfl, (Or.inl ⟨rfl, by omega⟩), (rg_w (rg_k (-1 : Int32) (-1) rfl) (by decide))⟩, by rw [ht]; exact hP, va_K.moved hW.alike hK, hD⟩, hS.F ht⟩) hS.2.2 dX12_see_18
    · have tc_4 : (a0).toInt < (I 388 this).toInt := Int32.lt_iff_toInt_lt.mp (nle c_2)
      have h_5 : rg a0 0 299 := rg_lt1 (nle c_2) h_a0 h_1 (by decide)
      have uh_5 := h_5.1
      have vh_5 := h_5.2
      have h_6 : rg (I 388 this) 1 300 := rg_lt2 (nle c_2) h_a0 h_1 (by decide)
      have uh_6 := h_6.1
      have vh_6 := h_6.2
      refine lv_aload_n hx hb dX12_see_8 rfl (lv_at hl 0 rfl) ?_
      obtain ⟨w_7, hR_w_7, hL_w_7, hK_w_7, hN_w_7, hT_w_7⟩ := sh_a hSH 387 (ci := 12) (kd := 13) (len := 300) rfl (by decide) hL_this hK_this
      refine pg_f (v := .ref w_7) (C := RX12) (T := TX12) (N := 31) hx hb hts (tw_i inlX12) hown hK hP hL_this hK_this (by decide) rfl 3 (by decide) (hts _ (tw_c tw_179)) (pq_hv rfl hR_w_7) dX12_see_9 ?_
      refine lv_iload_n hx hb dX12_see_12 rfl (lv_at hl 1 rfl) ?_
      refine pl_i hx hb hK hP hL_w_7 hK_w_7 hN_w_7 (rg_in h_5 (by decide)) dX12_see_13 ?_
      refine lv_topi (fun x_8 ex_8 => ?_)
      have h_9 : rg x_8 0 255 := rg_of_eq ex_8 (GM.rR hG hT_w_7 rfl)
      have uh_9 := h_9.1
      have vh_9 := h_9.2
      refine lv_goto (tgt := 18) hx hb dX12_see_14 (by decide) ?_
      subst hQ
      exact W.iret (v := x_8) hx hb hr (fun t1 ht hW => ⟨⟨x_8, (σ, I, J, ri, rj, rq), rfl, ⟨rfl, (by omega), (rg_w h_9 (by decide))⟩, by rw [ht]; exact hP, va_K.moved hW.alike hK, hD⟩, hS.F ht⟩) hS.2.2 dX12_see_18
  exact go _ _ _ hP hD hS hl

set_option maxHeartbeats 4000000 in
set_option maxRecDepth 100000 in
theorem s_X12_isLetter (l : Launch) (D : va_G) (t : pq_T) (σ : pq_S) (I : Nat → Nat → Int32) (J : Nat → Nat → Int64) (ri : Nat → Nat → Int32) (rj : Nat → Nat → Int64) (rq : Nat → Nat → Option Nat) (sz : Nat) (tg : Nat → Nat) (hSH : SH σ tg) (hG0 : GT tg I ri) (a0 : Int32) : MetI l yX12_isLetter (wa yX12_isLetter cX12_isLetter 1 (some .boolean)) ({ frames := 1, cells := 0, slots := 0, locals := 22 }) [.int a0] D t σ (I, J, ri, rj, rq) sz 0 0 (fun (r : Int32) (u : pq_S × pq_M) => u = (σ, I, J, ri, rj, rq) ∧ ((r = 1 ∧ rg a0 65 122) ∨ (r = 0 ∧ True))) := by
  refine Met.ofW (cc := cX12_isLetter) (maxL := 1) (ret := (some .boolean)) (by decide) rfl ?_
  intro p e s m args below meth c s₁ B hml hv
  obtain ⟨rfl, hsz, hP, hK, hD0, hN⟩ := hv
  have hx := B.exec
  have hb := B.bytes
  have hr := B.returns
  have hts := atoms_spec (ws := (wa yX12_isLetter cX12_isLetter 1 (some .boolean))) B.pre
  have hown : s.vm.findClass RX12 = some m.cls := findClass_of_methodNamed B.named
  have hlocks := B.notSynchronized
  subst hsz
  have hD : va_D (pq_B t σ (I, J, ri, rj, rq) s.heap.size) (pq_P t σ (I, J, ri, rj, rq)) := hD0.self
  generalize hAe : pq_B t σ (I, J, ri, rj, rq) s.heap.size = A at hD ⊢
  have hA : ∀ q : Nat, s.heap.size ≤ q → A q := fun q h => by rw [← hAe]; exact Or.inr h
  have hS : va_S A s.heap s.heap [] := va_S.rf
  have hG : GM [] tg σ I ri I ri rq := ⟨hG0, fun _ _ _ => rfl, fun _ _ _ _ _ => rfl, fun _ _ _ _ _ _ => rfl⟩
  have hl := lv_entry ([.int a0]) (n := 1) (Nat.le_of_ble_eq_true rfl)
  rw [lg_entry_eq]
  generalize (lg_sl ([.int a0]) ++ List.replicate (1 - (lg_sl ([.int a0])).length) Slot.unset).toArray = ls at hl ⊢
  have hl : lv_has ls 1 [(0, .int a0)] := hl
  refine q_gen (fun Q hQ => ?_)
  have go : ∀ (H : Heap) (locs : List Loc) (ls : Array Slot), va_P D vwCl (pq_P t σ (I, J, ri, rj, rq)) H → va_D A (pq_P t σ (I, J, ri, rj, rq)) → va_S A s.heap H locs → lv_has ls 1 [(0, .int a0)] → W p l e ({ frames := 1, cells := 0, slots := 0, locals := 22 } : Room) s m (List.toArray ([.int a0] : List Value)) below meth c H locs 0 0 Q (F0 m 0 ls []) := by
    intro H locs ls hP hD hS hl
    refine lv_iload_n hx hb dX12_isLetter_0 rfl (lv_at hl 0 rfl) ?_
    refine lv_bipush (v := 97) hx hb dX12_isLetter_1 (by decide) ?_
    refine lv_bipush (v := 122) hx hb dX12_isLetter_3 (by decide) ?_
    refine pk_i (va_runS (As := [.int a0, .int 97, .int 122]) (rest := []) ⟨hx, hb, hml, hown, hts⟩ (s_X12_isIn l D t σ I J ri rj rq H.size tg hSH hG.1 a0 (97 : Int32) (122 : Int32)) (va_cwS 3 hts (tw_S tw_235 tw_236 tw_5 tw_237) rfl rfl rfl (by decide +kernel) ⟨Nat.le_of_ble_eq_true rfl, Nat.le_of_ble_eq_true rfl⟩) ⟨pq_blind, pq_pre hK hN hP hD⟩ rfl rfl hl.1 rfl (lv_room (Nat.le_of_ble_eq_true rfl)) dX12_isLetter_5 ⟨Nat.le_of_ble_eq_true rfl, Nat.le_of_ble_eq_true rfl⟩) hD hS hA (fun x_1 σ1 μ1 H locs hw_2 hP hD hS => ?_)
    obtain ⟨hu_3, hr_5⟩ := hw_2
    obtain ⟨hu_3a, hu_3b⟩ := Prod.mk.inj hu_3
    rw [hu_3a, hu_3b] at hP hD
    have h_6 : rg x_1 0 1 := by rcases hr_5 with ⟨q, -⟩ | ⟨q, -⟩ <;> rw [q] <;> exact ⟨by decide, by decide⟩
    have uh_6 := h_6.1
    have vh_6 := h_6.2
    have K_38 : ∀  (H : Heap) (locs : List Loc) (ls : Array Slot), rg (a0) 65 122 → GM [] tg σ I ri I ri rq → va_P D vwCl (pq_P t σ (I, J, ri, rj, rq)) H → va_D A (pq_P t σ (I, J, ri, rj, rq)) → va_S A s.heap H locs → lv_has ls 1 [] → W p l e ({ frames := 1, cells := 0, slots := 0, locals := 22 } : Room) s m (List.toArray ([.int a0] : List Value)) below meth c H locs 0 0 Q (F0 m 22 ls []) := by
      intro H locs ls h_40 hG hP hD hS hl
      have uh_40 := h_40.1
      have vh_40 := h_40.2
      refine lv_iconst (v := 1) hx hb dX12_isLetter_22 (by decide) ?_
      refine lv_goto (tgt := 27) hx hb dX12_isLetter_23 (by decide) ?_
      subst hQ
      exact W.zret (v := 1) hx hb hr (by decide) (fun t1 ht hW => ⟨⟨1, (σ, I, J, ri, rj, rq), rfl, ⟨rfl, (Or.inl ⟨rfl, (rg_w h_40 (by decide))⟩)⟩, by rw [ht]; exact hP, va_K.moved hW.alike hK, hD⟩, hS.F ht⟩) hS.2.2 dX12_isLetter_27
    refine lv_if_ne (tgt := 22) hx hb dX12_isLetter_8 (by decide) (fun c_41 => ?_) (fun c_41 => ?_)
    · obtain ⟨f_42, f_43⟩ := (hr_5.resolve_right (fun q => c_41 q.1)).2
      have tc_44 : 97 ≤ (a0).toInt := Int32.le_iff_toInt_le.mp f_42
      have h_45 : rg a0 97 2147483647 := rg_le2 f_42 (rg_k (97 : Int32) 97 rfl) (rg_full _) (by decide)
      have uh_45 := h_45.1
      have vh_45 := h_45.2
      have tc_46 : (a0).toInt ≤ 122 := Int32.le_iff_toInt_le.mp f_43
      have h_47 : rg a0 97 122 := rg_le1 f_43 h_45 (rg_k (122 : Int32) 122 rfl) (by decide)
      have uh_47 := h_47.1
      have vh_47 := h_47.2
      have tc_48 : (x_1).toInt ≠ 0 := fun q => c_41 (Int32.toInt_inj.mp q)
      have h_49 : rg x_1 1 1 := rg_ne c_41 h_6 0 rfl (by decide)
      have uh_49 := h_49.1
      have vh_49 := h_49.2
      exact K_38 _ _ _ (rg_w h_47 (by decide)) hG hP hD hS (lv_sub hl [] rfl)
    · have f_50 := (hr_5.resolve_left (fun q => absurd (q.1.symm.trans c_41) (by decide))).2
      have tc_51 : (x_1).toInt = 0 := congrArg Int32.toInt c_41
      have h_52 : rg x_1 0 0 := rg_and h_6 (rg_of_eq c_41 (rg_k (0 : Int32) 0 rfl)) (by decide)
      have uh_52 := h_52.1
      have vh_52 := h_52.2
      refine lv_iload_n hx hb dX12_isLetter_11 rfl (lv_at hl 0 rfl) ?_
      refine lv_bipush (v := 65) hx hb dX12_isLetter_12 (by decide) ?_
      refine lv_bipush (v := 90) hx hb dX12_isLetter_14 (by decide) ?_
      refine pk_i (va_runS (As := [.int a0, .int 65, .int 90]) (rest := []) ⟨hx, hb, hml, hown, hts⟩ (s_X12_isIn l D t σ I J ri rj rq H.size tg hSH hG.1 a0 (65 : Int32) (90 : Int32)) (va_cwS 3 hts (tw_S tw_235 tw_236 tw_5 tw_237) rfl rfl rfl (by decide +kernel) ⟨Nat.le_of_ble_eq_true rfl, Nat.le_of_ble_eq_true rfl⟩) ⟨pq_blind, pq_pre hK hN hP hD⟩ rfl rfl hl.1 rfl (lv_room (Nat.le_of_ble_eq_true rfl)) dX12_isLetter_16 ⟨Nat.le_of_ble_eq_true rfl, Nat.le_of_ble_eq_true rfl⟩) hD hS hA (fun x_53 σ1 μ1 H locs hw_54 hP hD hS => ?_)
      obtain ⟨hu_55, hr_57⟩ := hw_54
      obtain ⟨hu_55a, hu_55b⟩ := Prod.mk.inj hu_55
      rw [hu_55a, hu_55b] at hP hD
      have h_58 : rg x_53 0 1 := by rcases hr_57 with ⟨q, -⟩ | ⟨q, -⟩ <;> rw [q] <;> exact ⟨by decide, by decide⟩
      have uh_58 := h_58.1
      have vh_58 := h_58.2
      refine lv_if_eq (tgt := 26) hx hb dX12_isLetter_19 (by decide) (fun c_59 => ?_) (fun c_59 => ?_)
      · have f_60 := (hr_57.resolve_left (fun q => absurd (q.1.symm.trans c_59) (by decide))).2
        have tc_61 : (x_53).toInt = 0 := congrArg Int32.toInt c_59
        have h_62 : rg x_53 0 0 := rg_and h_58 (rg_of_eq c_59 (rg_k (0 : Int32) 0 rfl)) (by decide)
        have uh_62 := h_62.1
        have vh_62 := h_62.2
        refine lv_iconst (v := 0) hx hb dX12_isLetter_26 (by decide) ?_
        subst hQ
        exact W.zret (v := 0) hx hb hr (by decide) (fun t1 ht hW => ⟨⟨0, (σ, I, J, ri, rj, rq), rfl, ⟨rfl, (Or.inr ⟨rfl, trivial⟩)⟩, by rw [ht]; exact hP, va_K.moved hW.alike hK, hD⟩, hS.F ht⟩) hS.2.2 dX12_isLetter_27
      · obtain ⟨f_63, f_64⟩ := (hr_57.resolve_right (fun q => c_59 q.1)).2
        have tc_65 : 65 ≤ (a0).toInt := Int32.le_iff_toInt_le.mp f_63
        have h_66 : rg a0 65 2147483647 := rg_le2 f_63 (rg_k (65 : Int32) 65 rfl) (rg_full _) (by decide)
        have uh_66 := h_66.1
        have vh_66 := h_66.2
        have tc_67 : (a0).toInt ≤ 90 := Int32.le_iff_toInt_le.mp f_64
        have h_68 : rg a0 65 90 := rg_le1 f_64 h_66 (rg_k (90 : Int32) 90 rfl) (by decide)
        have uh_68 := h_68.1
        have vh_68 := h_68.2
        have tc_69 : (x_53).toInt ≠ 0 := fun q => c_59 (Int32.toInt_inj.mp q)
        have h_70 : rg x_53 1 1 := rg_ne c_59 h_58 0 rfl (by decide)
        have uh_70 := h_70.1
        have vh_70 := h_70.2
        exact K_38 _ _ _ (rg_w h_68 (by decide)) hG hP hD hS (lv_sub hl [] rfl)
  exact go _ _ _ hP hD hS hl

set_option maxHeartbeats 4000000 in
set_option maxRecDepth 100000 in
theorem s_X12_isDigit (l : Launch) (D : va_G) (t : pq_T) (σ : pq_S) (I : Nat → Nat → Int32) (J : Nat → Nat → Int64) (ri : Nat → Nat → Int32) (rj : Nat → Nat → Int64) (rq : Nat → Nat → Option Nat) (sz : Nat) (tg : Nat → Nat) (hSH : SH σ tg) (hG0 : GT tg I ri) (a0 : Int32) : MetI l yX12_isDigit (wa yX12_isDigit cX12_isDigit 1 (some .boolean)) ({ frames := 1, cells := 0, slots := 0, locals := 22 }) [.int a0] D t σ (I, J, ri, rj, rq) sz 0 0 (fun (r : Int32) (u : pq_S × pq_M) => u = (σ, I, J, ri, rj, rq) ∧ ((r = 1 ∧ rg a0 48 57) ∨ (r = 0 ∧ True))) := by
  refine Met.ofW (cc := cX12_isDigit) (maxL := 1) (ret := (some .boolean)) (by decide) rfl ?_
  intro p e s m args below meth c s₁ B hml hv
  obtain ⟨rfl, hsz, hP, hK, hD0, hN⟩ := hv
  have hx := B.exec
  have hb := B.bytes
  have hr := B.returns
  have hts := atoms_spec (ws := (wa yX12_isDigit cX12_isDigit 1 (some .boolean))) B.pre
  have hown : s.vm.findClass RX12 = some m.cls := findClass_of_methodNamed B.named
  have hlocks := B.notSynchronized
  subst hsz
  have hD : va_D (pq_B t σ (I, J, ri, rj, rq) s.heap.size) (pq_P t σ (I, J, ri, rj, rq)) := hD0.self
  generalize hAe : pq_B t σ (I, J, ri, rj, rq) s.heap.size = A at hD ⊢
  have hA : ∀ q : Nat, s.heap.size ≤ q → A q := fun q h => by rw [← hAe]; exact Or.inr h
  have hS : va_S A s.heap s.heap [] := va_S.rf
  have hG : GM [] tg σ I ri I ri rq := ⟨hG0, fun _ _ _ => rfl, fun _ _ _ _ _ => rfl, fun _ _ _ _ _ _ => rfl⟩
  have hl := lv_entry ([.int a0]) (n := 1) (Nat.le_of_ble_eq_true rfl)
  rw [lg_entry_eq]
  generalize (lg_sl ([.int a0]) ++ List.replicate (1 - (lg_sl ([.int a0])).length) Slot.unset).toArray = ls at hl ⊢
  have hl : lv_has ls 1 [(0, .int a0)] := hl
  refine q_gen (fun Q hQ => ?_)
  have go : ∀ (H : Heap) (locs : List Loc) (ls : Array Slot), va_P D vwCl (pq_P t σ (I, J, ri, rj, rq)) H → va_D A (pq_P t σ (I, J, ri, rj, rq)) → va_S A s.heap H locs → lv_has ls 1 [(0, .int a0)] → W p l e ({ frames := 1, cells := 0, slots := 0, locals := 22 } : Room) s m (List.toArray ([.int a0] : List Value)) below meth c H locs 0 0 Q (F0 m 0 ls []) := by
    intro H locs ls hP hD hS hl
    refine lv_iload_n hx hb dX12_isDigit_0 rfl (lv_at hl 0 rfl) ?_
    refine lv_bipush (v := 48) hx hb dX12_isDigit_1 (by decide) ?_
    refine lv_bipush (v := 57) hx hb dX12_isDigit_3 (by decide) ?_
    refine pk_i (va_runS (As := [.int a0, .int 48, .int 57]) (rest := []) ⟨hx, hb, hml, hown, hts⟩ (s_X12_isIn l D t σ I J ri rj rq H.size tg hSH hG.1 a0 (48 : Int32) (57 : Int32)) (va_cwS 3 hts (tw_S tw_235 tw_236 tw_5 tw_237) rfl rfl rfl (by decide +kernel) ⟨Nat.le_of_ble_eq_true rfl, Nat.le_of_ble_eq_true rfl⟩) ⟨pq_blind, pq_pre hK hN hP hD⟩ rfl rfl hl.1 rfl (lv_room (Nat.le_of_ble_eq_true rfl)) dX12_isDigit_5 ⟨Nat.le_of_ble_eq_true rfl, Nat.le_of_ble_eq_true rfl⟩) hD hS hA (fun x_1 σ1 μ1 H locs hw_2 hP hD hS => ?_)
    obtain ⟨hu_3, hr_5⟩ := hw_2
    obtain ⟨hu_3a, hu_3b⟩ := Prod.mk.inj hu_3
    rw [hu_3a, hu_3b] at hP hD
    have h_6 : rg x_1 0 1 := by rcases hr_5 with ⟨q, -⟩ | ⟨q, -⟩ <;> rw [q] <;> exact ⟨by decide, by decide⟩
    have uh_6 := h_6.1
    have vh_6 := h_6.2
    rcases hr_5 with ⟨e_10, f_7, f_8⟩ | ⟨e_10, f_9⟩
    · refine lv_tov 1 e_10 ?_
      have tc_11 : 48 ≤ (a0).toInt := Int32.le_iff_toInt_le.mp f_7
      have h_12 : rg a0 48 2147483647 := rg_le2 f_7 (rg_k (48 : Int32) 48 rfl) (rg_full _) (by decide)
      have uh_12 := h_12.1
      have vh_12 := h_12.2
      have tc_13 : (a0).toInt ≤ 57 := Int32.le_iff_toInt_le.mp f_8
      have h_14 : rg a0 48 57 := rg_le1 f_8 h_12 (rg_k (57 : Int32) 57 rfl) (by decide)
      have uh_14 := h_14.1
      have vh_14 := h_14.2
      subst hQ
      exact W.zret (v := 1) hx hb hr (by decide) (fun t1 ht hW => ⟨⟨1, (σ, I, J, ri, rj, rq), rfl, ⟨rfl, (Or.inl ⟨rfl, (rg_w h_14 (by decide))⟩)⟩, by rw [ht]; exact hP, va_K.moved hW.alike hK, hD⟩, hS.F ht⟩) hS.2.2 dX12_isDigit_8
    · refine lv_tov 0 e_10 ?_
      subst hQ
      exact W.zret (v := 0) hx hb hr (by decide) (fun t1 ht hW => ⟨⟨0, (σ, I, J, ri, rj, rq), rfl, ⟨rfl, (Or.inr ⟨rfl, trivial⟩)⟩, by rw [ht]; exact hP, va_K.moved hW.alike hK, hD⟩, hS.F ht⟩) hS.2.2 dX12_isDigit_8
  exact go _ _ _ hP hD hS hl

set_option maxHeartbeats 4000000 in
set_option maxRecDepth 100000 in
theorem s_X12_nextToken (l : Launch) (D : va_G) (t : pq_T) (σ : pq_S) (I : Nat → Nat → Int32) (J : Nat → Nat → Int64) (ri : Nat → Nat → Int32) (rj : Nat → Nat → Int64) (rq : Nat → Nat → Option Nat) (sz : Nat) (tg : Nat → Nat) (hSH : SH σ tg) (hG0 : GT tg I ri) (this : Nat) (hL_this : this ∈ σ.1) (hK_this : σ.2.1 this = 12) : MetV l yX12_nextToken (wa yX12_nextToken cX12_nextToken 3 none) ({ frames := 2, cells := 0, slots := 0, locals := 42 }) [.ref this] D t σ (I, J, ri, rj, rq) sz 0 0 (fun (u : pq_S × pq_M) => ∃ I' : Nat → Nat → Int32, ∃ J' : Nat → Nat → Int64, u = (σ, I', J', ri, rj, rq) ∧ GM [392, 391, 393] tg σ I ri I' ri rq) := by
  refine Met.ofW (cc := cX12_nextToken) (maxL := 3) (ret := none) (by decide) rfl ?_
  intro p e s m args below meth c s₁ B hml hv
  obtain ⟨rfl, hsz, hP, hK, hD0, hN⟩ := hv
  have hx := B.exec
  have hb := B.bytes
  have hr := B.returns
  have hts := atoms_spec (ws := (wa yX12_nextToken cX12_nextToken 3 none)) B.pre
  have hown : s.vm.findClass RX12 = some m.cls := findClass_of_methodNamed B.named
  have hlocks := B.notSynchronized
  subst hsz
  have hD : va_D (pq_B t σ (I, J, ri, rj, rq) s.heap.size) (pq_P t σ (I, J, ri, rj, rq)) := hD0.self
  generalize hAe : pq_B t σ (I, J, ri, rj, rq) s.heap.size = A at hD ⊢
  have hA : ∀ q : Nat, s.heap.size ≤ q → A q := fun q h => by rw [← hAe]; exact Or.inr h
  have hS : va_S A s.heap s.heap [] := va_S.rf
  have hG : GM [392, 391, 393] tg σ I ri I ri rq := ⟨hG0, fun _ _ _ => rfl, fun _ _ _ _ _ => rfl, fun _ _ _ _ _ _ => rfl⟩
  have hl := lv_entry ([.ref this]) (n := 3) (Nat.le_of_ble_eq_true rfl)
  rw [lg_entry_eq]
  generalize (lg_sl ([.ref this]) ++ List.replicate (3 - (lg_sl ([.ref this])).length) Slot.unset).toArray = ls at hl ⊢
  have hl : lv_has ls 3 [(0, .ref this)] := hl
  refine q_gen (fun Q hQ => ?_)
  have go : ∀ (H : Heap) (locs : List Loc) (ls : Array Slot), va_P D vwCl (pq_P t σ (I, J, ri, rj, rq)) H → va_D A (pq_P t σ (I, J, ri, rj, rq)) → va_S A s.heap H locs → lv_has ls 3 [(0, .ref this)] → W p l e ({ frames := 2, cells := 0, slots := 0, locals := 42 } : Room) s m (List.toArray ([.ref this] : List Value)) below meth c H locs 0 0 Q (F0 m 0 ls []) := by
    intro H locs ls hP hD hS hl
    refine lv_aload_n hx hb dX12_nextToken_0 rfl (lv_at hl 0 rfl) ?_
    refine lv_aload_n hx hb dX12_nextToken_1 rfl (lv_at hl 0 rfl) ?_
    refine pg_f (v := .int (I 391 this)) (C := RX12) (T := TX12) (N := 31) hx hb hts (tw_i inlX12) hown hK hP hL_this hK_this (by decide) rfl 7 (by decide) (hts _ (tw_c tw_830)) rfl dX12_nextToken_2 ?_
    have h_1 : rg (I 391 this) 0 300 := GM.rI hG 391 rfl
    have uh_1 := h_1.1
    have vh_1 := h_1.2
    refine pk_i (va_runV (As := [.int (I 391 this)]) (rest := []) ⟨hx, hb, hml, hown, hts⟩ (s_X12_see l D t σ I J ri rj rq H.size tg hSH hG.1 this (I 391 this) hL_this hK_this (rg_w h_1 (by decide))) (cwV 1 hts (tw_V tw_839 tw_840 tw_841 tw_5 tw_842) rfl rfl rfl (by decide +kernel) ⟨Nat.le_of_ble_eq_true rfl, Nat.le_of_ble_eq_true rfl⟩) ⟨pq_blind, pq_recv hK hP hL_this hK_this (by decide) rfl, pq_pre hK hN hP hD⟩ rfl rfl hl.1 rfl (lv_room (Nat.le_of_ble_eq_true rfl)) dX12_nextToken_5 ⟨Nat.le_of_ble_eq_true rfl, Nat.le_of_ble_eq_true rfl⟩) hD hS hA (fun x_2 σ1 μ1 H locs hw_3 hP hD hS => ?_)
    obtain ⟨hu_4, hp_7, hr_6⟩ := hw_3
    obtain ⟨hu_4a, hu_4b⟩ := Prod.mk.inj hu_4
    rw [hu_4a, hu_4b] at hP hD
    have tt_8 := hp_7
    refine lv_bipush (v := 32) hx hb dX12_nextToken_8 (by decide) ?_
    have K_4266 : ∀  (H : Heap) (locs : List Loc) (ls : Array Slot), GM [392, 391, 393] tg σ I ri I ri rq → va_P D vwCl (pq_P t σ (I, J, ri, rj, rq)) H → va_D A (pq_P t σ (I, J, ri, rj, rq)) → va_S A s.heap H locs → lv_has ls 3 [(0, .ref this)] → W p l e ({ frames := 2, cells := 0, slots := 0, locals := 42 } : Room) s m (List.toArray ([.ref this] : List Value)) below meth c H locs 0 0 Q (F0 m 26 ls []) := by
      intro H locs ls hG hP hD hS hl
      refine lv_aload_n hx hb dX12_nextToken_26 rfl (lv_at hl 0 rfl) ?_
      refine lv_dup hx hb dX12_nextToken_27 rfl ?_
      refine pg_f (v := .int (I 391 this)) (C := RX12) (T := TX12) (N := 31) hx hb hts (tw_i inlX12) hown hK hP hL_this hK_this (by decide) rfl 7 (by decide) (hts _ (tw_c tw_830)) rfl dX12_nextToken_28 ?_
      refine lv_iconst (v := 1) hx hb dX12_nextToken_31 (by decide) ?_
      have h_4267 : rg (I 391 this) 0 299 := ⟨by omega, by omega⟩
      have uh_4267 := h_4267.1
      have vh_4267 := h_4267.2
      refine lv_iadd hx hb dX12_nextToken_32 ?_
      refine lv_topi (fun x_4268 ex_4268 => ?_)
      have h_4269 : rg x_4268 1 300 := rg_of_eq ex_4268 (rg_add h_4267 (rg_k (1 : Int32) 1 rfl) (by decide))
      have uh_4269 := h_4269.1
      have vh_4269 := h_4269.2
      have tx_4268 : (x_4268).toInt = (I 391 this).toInt + 1 := by rw [ex_4268]; exact i_add_rg (a2 := (I 391 this).toInt) (b2 := 1) rfl rfl h_4267 (rg_k (1 : Int32) 1 rfl) (by decide)
      refine pp_i (v := x_4268) (ty := .int) (C := RX12) (T := TX12) (N := 31) hx hb hts (tw_i inlX12) tyX12 tyX12_ok nmX12 hown hK hP hD hS hL_this hK_this (by decide) rfl 7 391 (by decide) (hts _ (tw_c tw_830)) rfl (by decide +kernel) rfl rfl (Nat.le_of_ble_eq_true rfl) (ps_391 _ _ _ _ _) dX12_nextToken_33 (fun I_4270 H locs eI_4270 hP hD hS => ?_)
      have hG := GM.wI hG 391 rfl eI_4270 (rg_w h_4269 (by decide)) (by decide)
      refine lv_goto (tgt := 0) hx hb dX12_nextToken_36 (by decide) ?_
      have L_7116 : ∀ (n_7115 : Nat) (I_6403 : Nat → Nat → Int32) (H : Heap) (locs : List Loc) (ls : Array Slot), (300 - (I_6403 391 this).toInt).toNat < n_7115 → GM [392, 391, 393] tg σ I ri I_6403 ri rq → va_P D vwCl (pq_P t σ (I_6403, J, ri, rj, rq)) H → va_D A (pq_P t σ (I_6403, J, ri, rj, rq)) → va_S A s.heap H locs → lv_has ls 3 [(0, .ref this)] → W p l e ({ frames := 2, cells := 0, slots := 0, locals := 42 } : Room) s m (List.toArray ([.ref this] : List Value)) below meth c H locs 0 0 Q (F0 m 0 ls []) := by
        intro n_7115
        induction n_7115 with
        | zero => intro I_6403 H locs ls hm_7114 hG hP hD hS hl; exact absurd hm_7114 (Nat.not_lt_zero _)
        | succ n_7115 ih_7117 =>
          intro I_6403 H locs ls hm_7114 hG hP hD hS hl
          refine lv_aload_n hx hb dX12_nextToken_0 rfl (lv_at hl 0 rfl) ?_
          refine lv_aload_n hx hb dX12_nextToken_1 rfl (lv_at hl 0 rfl) ?_
          refine pg_f (v := .int (I_6403 391 this)) (C := RX12) (T := TX12) (N := 31) hx hb hts (tw_i inlX12) hown hK hP hL_this hK_this (by decide) rfl 7 (by decide) (hts _ (tw_c tw_830)) rfl dX12_nextToken_2 ?_
          have h_7118 : rg (I_6403 391 this) 0 300 := GM.rI hG 391 rfl
          have uh_7118 := h_7118.1
          have vh_7118 := h_7118.2
          refine pk_i (va_runV (As := [.int (I_6403 391 this)]) (rest := []) ⟨hx, hb, hml, hown, hts⟩ (s_X12_see l D t σ I_6403 J ri rj rq H.size tg hSH hG.1 this (I_6403 391 this) hL_this hK_this (rg_w h_7118 (by decide))) (cwV 1 hts (tw_V tw_839 tw_840 tw_841 tw_5 tw_842) rfl rfl rfl (by decide +kernel) ⟨Nat.le_of_ble_eq_true rfl, Nat.le_of_ble_eq_true rfl⟩) ⟨pq_blind, pq_recv hK hP hL_this hK_this (by decide) rfl, pq_pre hK hN hP hD⟩ rfl rfl hl.1 rfl (lv_room (Nat.le_of_ble_eq_true rfl)) dX12_nextToken_5 ⟨Nat.le_of_ble_eq_true rfl, Nat.le_of_ble_eq_true rfl⟩) hD hS hA (fun x_7119 σ1 μ1 H locs hw_7120 hP hD hS => ?_)
          obtain ⟨hu_7121, hp_7124, hr_7123⟩ := hw_7120
          obtain ⟨hu_7121a, hu_7121b⟩ := Prod.mk.inj hu_7121
          rw [hu_7121a, hu_7121b] at hP hD
          have tt_7125 := hp_7124
          refine lv_bipush (v := 32) hx hb dX12_nextToken_8 (by decide) ?_
          have K_7828 : ∀  (H : Heap) (locs : List Loc) (ls : Array Slot), GM [392, 391, 393] tg σ I ri I_6403 ri rq → va_P D vwCl (pq_P t σ (I_6403, J, ri, rj, rq)) H → va_D A (pq_P t σ (I_6403, J, ri, rj, rq)) → va_S A s.heap H locs → lv_has ls 3 [(0, .ref this)] → W p l e ({ frames := 2, cells := 0, slots := 0, locals := 42 } : Room) s m (List.toArray ([.ref this] : List Value)) below meth c H locs 0 0 Q (F0 m 26 ls []) := by
            intro H locs ls hG hP hD hS hl
            refine lv_aload_n hx hb dX12_nextToken_26 rfl (lv_at hl 0 rfl) ?_
            refine lv_dup hx hb dX12_nextToken_27 rfl ?_
            refine pg_f (v := .int (I_6403 391 this)) (C := RX12) (T := TX12) (N := 31) hx hb hts (tw_i inlX12) hown hK hP hL_this hK_this (by decide) rfl 7 (by decide) (hts _ (tw_c tw_830)) rfl dX12_nextToken_28 ?_
            refine lv_iconst (v := 1) hx hb dX12_nextToken_31 (by decide) ?_
            have h_7829 : rg (I_6403 391 this) 0 299 := ⟨by omega, by omega⟩
            have uh_7829 := h_7829.1
            have vh_7829 := h_7829.2
            refine lv_iadd hx hb dX12_nextToken_32 ?_
            refine lv_topi (fun x_7830 ex_7830 => ?_)
            have h_7831 : rg x_7830 1 300 := rg_of_eq ex_7830 (rg_add h_7829 (rg_k (1 : Int32) 1 rfl) (by decide))
            have uh_7831 := h_7831.1
            have vh_7831 := h_7831.2
            have tx_7830 : (x_7830).toInt = (I_6403 391 this).toInt + 1 := by rw [ex_7830]; exact i_add_rg (a2 := (I_6403 391 this).toInt) (b2 := 1) rfl rfl h_7829 (rg_k (1 : Int32) 1 rfl) (by decide)
            refine pp_i (v := x_7830) (ty := .int) (C := RX12) (T := TX12) (N := 31) hx hb hts (tw_i inlX12) tyX12 tyX12_ok nmX12 hown hK hP hD hS hL_this hK_this (by decide) rfl 7 391 (by decide) (hts _ (tw_c tw_830)) rfl (by decide +kernel) rfl rfl (Nat.le_of_ble_eq_true rfl) (ps_391 _ _ _ _ _) dX12_nextToken_33 (fun I_7832 H locs eI_7832 hP hD hS => ?_)
            have hG := GM.wI hG 391 rfl eI_7832 (rg_w h_7831 (by decide)) (by decide)
            refine lv_goto (tgt := 0) hx hb dX12_nextToken_36 (by decide) ?_
            exact ih_7117 I_7832 _ _ _ (ms_fu_iadd hm_7114 (by rw [eI_7832]; exact pq_us _ _ _ _) ex_7830 rfl (kk := 1) rfl (by decide) h_7829 (by decide) (by decide)) hG hP hD hS (lv_sub hl [0] rfl)
          refine lv_icmp_eq (tgt := 26) hx hb dX12_nextToken_10 (by decide) (fun c_7833 => ?_) (fun c_7833 => ?_)
          · have tc_7834 : (x_7119).toInt = 32 := congrArg Int32.toInt c_7833
            have h_7835 : rg x_7119 32 32 := rg_and hr_7123 (rg_of_eq c_7833 (rg_k (32 : Int32) 32 rfl)) (by decide)
            have uh_7835 := h_7835.1
            have vh_7835 := h_7835.2
            exact K_7828 _ _ _ hG hP hD hS (lv_sub hl [0] rfl)
          · have tc_7836 : (x_7119).toInt ≠ 32 := fun q => c_7833 (Int32.toInt_inj.mp q)
            refine lv_aload_n hx hb dX12_nextToken_13 rfl (lv_at hl 0 rfl) ?_
            refine lv_aload_n hx hb dX12_nextToken_14 rfl (lv_at hl 0 rfl) ?_
            refine pg_f (v := .int (I_6403 391 this)) (C := RX12) (T := TX12) (N := 31) hx hb hts (tw_i inlX12) hown hK hP hL_this hK_this (by decide) rfl 7 (by decide) (hts _ (tw_c tw_830)) rfl dX12_nextToken_15 ?_
            refine pk_i (va_runV (As := [.int (I_6403 391 this)]) (rest := []) ⟨hx, hb, hml, hown, hts⟩ (s_X12_see l D t σ I_6403 J ri rj rq H.size tg hSH hG.1 this (I_6403 391 this) hL_this hK_this (rg_w h_7118 (by decide))) (cwV 1 hts (tw_V tw_839 tw_840 tw_841 tw_5 tw_842) rfl rfl rfl (by decide +kernel) ⟨Nat.le_of_ble_eq_true rfl, Nat.le_of_ble_eq_true rfl⟩) ⟨pq_blind, pq_recv hK hP hL_this hK_this (by decide) rfl, pq_pre hK hN hP hD⟩ rfl rfl hl.1 rfl (lv_room (Nat.le_of_ble_eq_true rfl)) dX12_nextToken_18 ⟨Nat.le_of_ble_eq_true rfl, Nat.le_of_ble_eq_true rfl⟩) hD hS hA (fun x_7837 σ1 μ1 H locs hw_7838 hP hD hS => ?_)
            obtain ⟨hu_7839, hp_7842, hr_7841⟩ := hw_7838
            obtain ⟨hu_7839a, hu_7839b⟩ := Prod.mk.inj hu_7839
            rw [hu_7839a, hu_7839b] at hP hD
            have tt_7843 := hp_7842
            refine lv_bipush (v := 10) hx hb dX12_nextToken_21 (by decide) ?_
            refine lv_icmp_ne (tgt := 39) hx hb dX12_nextToken_23 (by decide) (fun c_7844 => ?_) (fun c_7844 => ?_)
            · have tc_7845 : (x_7837).toInt ≠ 10 := fun q => c_7844 (Int32.toInt_inj.mp q)
              refine lv_aload_n hx hb dX12_nextToken_39 rfl (lv_at hl 0 rfl) ?_
              refine lv_aload_n hx hb dX12_nextToken_40 rfl (lv_at hl 0 rfl) ?_
              refine pg_f (v := .int (I_6403 391 this)) (C := RX12) (T := TX12) (N := 31) hx hb hts (tw_i inlX12) hown hK hP hL_this hK_this (by decide) rfl 7 (by decide) (hts _ (tw_c tw_830)) rfl dX12_nextToken_41 ?_
              refine pp_i (v := (I_6403 391 this)) (ty := .int) (C := RX12) (T := TX12) (N := 31) hx hb hts (tw_i inlX12) tyX12 tyX12_ok nmX12 hown hK hP hD hS hL_this hK_this (by decide) rfl 8 392 (by decide) (hts _ (tw_c tw_820)) rfl (by decide +kernel) rfl rfl (Nat.le_of_ble_eq_true rfl) (ps_392 _ _ _ _ _) dX12_nextToken_44 (fun I_7846 H locs eI_7846 hP hD hS => ?_)
              have hG := GM.wI hG 392 rfl eI_7846 (rg_w h_7118 (by decide)) (by decide)
              refine lv_aload_n hx hb dX12_nextToken_47 rfl (lv_at hl 0 rfl) ?_
              refine lv_aload_n hx hb dX12_nextToken_48 rfl (lv_at hl 0 rfl) ?_
              refine pg_f (v := .int (I_7846 391 this)) (C := RX12) (T := TX12) (N := 31) hx hb hts (tw_i inlX12) hown hK hP hL_this hK_this (by decide) rfl 7 (by decide) (hts _ (tw_c tw_830)) rfl dX12_nextToken_49 ?_
              have h_7847 : rg (I_7846 391 this) 0 300 := GM.rI hG 391 rfl
              have uh_7847 := h_7847.1
              have vh_7847 := h_7847.2
              refine pk_i (va_runV (As := [.int (I_7846 391 this)]) (rest := []) ⟨hx, hb, hml, hown, hts⟩ (s_X12_see l D t σ I_7846 J ri rj rq H.size tg hSH hG.1 this (I_7846 391 this) hL_this hK_this (rg_w h_7847 (by decide))) (cwV 1 hts (tw_V tw_839 tw_840 tw_841 tw_5 tw_842) rfl rfl rfl (by decide +kernel) ⟨Nat.le_of_ble_eq_true rfl, Nat.le_of_ble_eq_true rfl⟩) ⟨pq_blind, pq_recv hK hP hL_this hK_this (by decide) rfl, pq_pre hK hN hP hD⟩ rfl rfl hl.1 rfl (lv_room (Nat.le_of_ble_eq_true rfl)) dX12_nextToken_52 ⟨Nat.le_of_ble_eq_true rfl, Nat.le_of_ble_eq_true rfl⟩) hD hS hA (fun x_7848 σ1 μ1 H locs hw_7849 hP hD hS => ?_)
              obtain ⟨hu_7850, hp_7853, hr_7852⟩ := hw_7849
              obtain ⟨hu_7850a, hu_7850b⟩ := Prod.mk.inj hu_7850
              rw [hu_7850a, hu_7850b] at hP hD
              have tt_7854 := hp_7853
              refine lv_istore_n (lv' := [(1, .int x_7848), (0, .ref this)]) hx hb dX12_nextToken_55 rfl hl (by decide) rfl (fun ls hl => ?_)
              refine lv_iload_n hx hb dX12_nextToken_56 rfl (lv_at hl 0 rfl) ?_
              refine lv_if_ge (tgt := 68) hx hb dX12_nextToken_57 (by decide) (fun c_7855 => ?_) (fun c_7855 => ?_)
              · have tc_7856 : 0 ≤ (x_7848).toInt := Int32.le_iff_toInt_le.mp c_7855
                have h_7857 : rg x_7848 0 255 := rg_le2 c_7855 (rg_k (0 : Int32) 0 rfl) hr_7852 (by decide)
                have uh_7857 := h_7857.1
                have vh_7857 := h_7857.2
                refine lv_iload_n hx hb dX12_nextToken_68 rfl (lv_at hl 0 rfl) ?_
                refine pk_i (va_runS (As := [.int x_7848]) (rest := []) ⟨hx, hb, hml, hown, hts⟩ (s_X12_isDigit l D t σ I_7846 J ri rj rq H.size tg hSH hG.1 x_7848) (va_cwS 1 hts (tw_S tw_843 tw_844 tw_5 tw_845) rfl rfl rfl (by decide +kernel) ⟨Nat.le_of_ble_eq_true rfl, Nat.le_of_ble_eq_true rfl⟩) ⟨pq_blind, pq_pre hK hN hP hD⟩ rfl rfl hl.1 rfl (lv_room (Nat.le_of_ble_eq_true rfl)) dX12_nextToken_69 ⟨Nat.le_of_ble_eq_true rfl, Nat.le_of_ble_eq_true rfl⟩) hD hS hA (fun x_7858 σ1 μ1 H locs hw_7859 hP hD hS => ?_)
                obtain ⟨hu_7860, hr_7862⟩ := hw_7859
                obtain ⟨hu_7860a, hu_7860b⟩ := Prod.mk.inj hu_7860
                rw [hu_7860a, hu_7860b] at hP hD
                have h_7863 : rg x_7858 0 1 := by rcases hr_7862 with ⟨q, -⟩ | ⟨q, -⟩ <;> rw [q] <;> exact ⟨by decide, by decide⟩
                have uh_7863 := h_7863.1
                have vh_7863 := h_7863.2
                refine lv_if_eq (tgt := 144) hx hb dX12_nextToken_72 (by decide) (fun c_7864 => ?_) (fun c_7864 => ?_)
                · have f_7865 := (hr_7862.resolve_left (fun q => absurd (q.1.symm.trans c_7864) (by decide))).2
                  have tc_7866 : (x_7858).toInt = 0 := congrArg Int32.toInt c_7864
                  have h_7867 : rg x_7858 0 0 := rg_and h_7863 (rg_of_eq c_7864 (rg_k (0 : Int32) 0 rfl)) (by decide)
                  have uh_7867 := h_7867.1
                  have vh_7867 := h_7867.2
                  refine lv_iload_n hx hb dX12_nextToken_144 rfl (lv_at hl 0 rfl) ?_
                  refine pk_i (va_runS (As := [.int x_7848]) (rest := []) ⟨hx, hb, hml, hown, hts⟩ (s_X12_isLetter l D t σ I_7846 J ri rj rq H.size tg hSH hG.1 x_7848) (va_cwS 1 hts (tw_S tw_846 tw_847 tw_5 tw_848) rfl rfl rfl (by decide +kernel) ⟨Nat.le_of_ble_eq_true rfl, Nat.le_of_ble_eq_true rfl⟩) ⟨pq_blind, pq_pre hK hN hP hD⟩ rfl rfl hl.1 rfl (lv_room (Nat.le_of_ble_eq_true rfl)) dX12_nextToken_145 ⟨Nat.le_of_ble_eq_true rfl, Nat.le_of_ble_eq_true rfl⟩) hD hS hA (fun x_7868 σ1 μ1 H locs hw_7869 hP hD hS => ?_)
                  obtain ⟨hu_7870, hr_7872⟩ := hw_7869
                  obtain ⟨hu_7870a, hu_7870b⟩ := Prod.mk.inj hu_7870
                  rw [hu_7870a, hu_7870b] at hP hD
                  have h_7873 : rg x_7868 0 1 := by rcases hr_7872 with ⟨q, -⟩ | ⟨q, -⟩ <;> rw [q] <;> exact ⟨by decide, by decide⟩
                  have uh_7873 := h_7873.1
                  have vh_7873 := h_7873.2
                  refine lv_if_eq (tgt := 245) hx hb dX12_nextToken_148 (by decide) (fun c_7874 => ?_) (fun c_7874 => ?_)
                  · have f_7875 := (hr_7872.resolve_left (fun q => absurd (q.1.symm.trans c_7874) (by decide))).2
                    have tc_7876 : (x_7868).toInt = 0 := congrArg Int32.toInt c_7874
                    have h_7877 : rg x_7868 0 0 := rg_and h_7873 (rg_of_eq c_7874 (rg_k (0 : Int32) 0 rfl)) (by decide)
                    have uh_7877 := h_7877.1
                    have vh_7877 := h_7877.2
                    refine lv_aload_n hx hb dX12_nextToken_245 rfl (lv_at hl 1 rfl) ?_
                    refine lv_dup hx hb dX12_nextToken_246 rfl ?_
                    refine pg_f (v := .int (I_7846 391 this)) (C := RX12) (T := TX12) (N := 31) hx hb hts (tw_i inlX12) hown hK hP hL_this hK_this (by decide) rfl 7 (by decide) (hts _ (tw_c tw_830)) rfl dX12_nextToken_247 ?_
                    refine lv_iconst (v := 1) hx hb dX12_nextToken_250 (by decide) ?_
                    have h_7878 : rg (I_7846 391 this) 0 299 := ⟨by omega, by omega⟩
                    have uh_7878 := h_7878.1
                    have vh_7878 := h_7878.2
                    refine lv_iadd hx hb dX12_nextToken_251 ?_
                    refine lv_topi (fun x_7879 ex_7879 => ?_)
                    have h_7880 : rg x_7879 1 300 := rg_of_eq ex_7879 (rg_add h_7878 (rg_k (1 : Int32) 1 rfl) (by decide))
                    have uh_7880 := h_7880.1
                    have vh_7880 := h_7880.2
                    have tx_7879 : (x_7879).toInt = (I_7846 391 this).toInt + 1 := by rw [ex_7879]; exact i_add_rg (a2 := (I_7846 391 this).toInt) (b2 := 1) rfl rfl h_7878 (rg_k (1 : Int32) 1 rfl) (by decide)
                    refine pp_i (v := x_7879) (ty := .int) (C := RX12) (T := TX12) (N := 31) hx hb hts (tw_i inlX12) tyX12 tyX12_ok nmX12 hown hK hP hD hS hL_this hK_this (by decide) rfl 7 391 (by decide) (hts _ (tw_c tw_830)) rfl (by decide +kernel) rfl rfl (Nat.le_of_ble_eq_true rfl) (ps_391 _ _ _ _ _) dX12_nextToken_252 (fun I_7881 H locs eI_7881 hP hD hS => ?_)
                    have hG := GM.wI hG 391 rfl eI_7881 (rg_w h_7880 (by decide)) (by decide)
                    refine lv_iload_n hx hb dX12_nextToken_255 rfl (lv_at hl 0 rfl) ?_
                    refine lv_bipush (v := 60) hx hb dX12_nextToken_256 (by decide) ?_
                    have K_8005 : ∀  (H : Heap) (locs : List Loc) (ls : Array Slot), GM [392, 391, 393] tg σ I ri I_7881 ri rq → va_P D vwCl (pq_P t σ (I_7881, J, ri, rj, rq)) H → va_D A (pq_P t σ (I_7881, J, ri, rj, rq)) → va_S A s.heap H locs → lv_has ls 3 [(0, .ref this), (1, .int x_7848)] → W p l e ({ frames := 2, cells := 0, slots := 0, locals := 42 } : Room) s m (List.toArray ([.ref this] : List Value)) below meth c H locs 0 0 Q (F0 m 332 ls [.int 0]) := by
                      intro H locs ls hG hP hD hS hl
                      refine lv_istore_n (lv' := [(2, .int 0), (0, .ref this), (1, .int x_7848)]) hx hb dX12_nextToken_332 rfl hl (by decide) rfl (fun ls hl => ?_)
                      refine lv_aload_n hx hb dX12_nextToken_333 rfl (lv_at hl 1 rfl) ?_
                      refine lv_iload_n hx hb dX12_nextToken_334 rfl (lv_at hl 0 rfl) ?_
                      have K_8042 : ∀  (H : Heap) (locs : List Loc) (ls : Array Slot), GM [392, 391, 393] tg σ I ri I_7881 ri rq → va_P D vwCl (pq_P t σ (I_7881, J, ri, rj, rq)) H → va_D A (pq_P t σ (I_7881, J, ri, rj, rq)) → va_S A s.heap H locs → lv_has ls 3 [(0, .ref this), (1, .int x_7848)] → W p l e ({ frames := 2, cells := 0, slots := 0, locals := 42 } : Room) s m (List.toArray ([.ref this] : List Value)) below meth c H locs 0 0 Q (F0 m 343 ls [.int 3, .ref this]) := by
                        intro H locs ls hG hP hD hS hl
                        refine pp_i (v := 3) (ty := .int) (C := RX12) (T := TX12) (N := 31) hx hb hts (tw_i inlX12) tyX12 tyX12_ok nmX12 hown hK hP hD hS hL_this hK_this (by decide) rfl 9 393 (by decide) (hts _ (tw_c tw_831)) rfl (by decide +kernel) rfl rfl (Nat.le_of_ble_eq_true rfl) (ps_393 _ _ _ _ _) dX12_nextToken_343 (fun I_8043 H locs eI_8043 hP hD hS => ?_)
                        have hG := GM.wI hG 393 rfl eI_8043 (rg_w (rg_k (3 : Int32) 3 rfl) (by decide)) (by decide)
                        refine lv_iload_n hx hb dX12_nextToken_346 rfl (lv_at hl 1 rfl) ?_
                        refine lv_bipush (v := 60) hx hb dX12_nextToken_347 (by decide) ?_
                        have K_8078 : ∀  (H : Heap) (locs : List Loc) (ls : Array Slot), rg (x_7848) 60 62 → GM [392, 391, 393] tg σ I ri I_8043 ri rq → va_P D vwCl (pq_P t σ (I_8043, J, ri, rj, rq)) H → va_D A (pq_P t σ (I_8043, J, ri, rj, rq)) → va_S A s.heap H locs → lv_has ls 3 [(0, .ref this), (1, .int x_7848)] → W p l e ({ frames := 2, cells := 0, slots := 0, locals := 42 } : Room) s m (List.toArray ([.ref this] : List Value)) below meth c H locs 0 0 Q (F0 m 358 ls []) := by
                          intro H locs ls h_8080 hG hP hD hS hl
                          have uh_8080 := h_8080.1
                          have vh_8080 := h_8080.2
                          refine lv_aload_n hx hb dX12_nextToken_358 rfl (lv_at hl 0 rfl) ?_
                          refine lv_aload_n hx hb dX12_nextToken_359 rfl (lv_at hl 0 rfl) ?_
                          refine pg_f (v := .int (I_8043 391 this)) (C := RX12) (T := TX12) (N := 31) hx hb hts (tw_i inlX12) hown hK hP hL_this hK_this (by decide) rfl 7 (by decide) (hts _ (tw_c tw_830)) rfl dX12_nextToken_360 ?_
                          have h_8081 : rg (I_8043 391 this) 1 300 := (by rw [eI_8043, pq_uf _ _ _ (by decide)]; exact (by rw [eI_7881, pq_us]; exact h_7880))
                          have uh_8081 := h_8081.1
                          have vh_8081 := h_8081.2
                          refine pk_i (va_runV (As := [.int (I_8043 391 this)]) (rest := []) ⟨hx, hb, hml, hown, hts⟩ (s_X12_see l D t σ I_8043 J ri rj rq H.size tg hSH hG.1 this (I_8043 391 this) hL_this hK_this (rg_w h_8081 (by decide))) (cwV 1 hts (tw_V tw_839 tw_840 tw_841 tw_5 tw_842) rfl rfl rfl (by decide +kernel) ⟨Nat.le_of_ble_eq_true rfl, Nat.le_of_ble_eq_true rfl⟩) ⟨pq_blind, pq_recv hK hP hL_this hK_this (by decide) rfl, pq_pre hK hN hP hD⟩ rfl rfl hl.1 rfl (lv_room (Nat.le_of_ble_eq_true rfl)) dX12_nextToken_363 ⟨Nat.le_of_ble_eq_true rfl, Nat.le_of_ble_eq_true rfl⟩) hD hS hA (fun x_8082 σ1 μ1 H locs hw_8083 hP hD hS => ?_)
                          obtain ⟨hu_8084, hp_8087, hr_8086⟩ := hw_8083
                          obtain ⟨hu_8084a, hu_8084b⟩ := Prod.mk.inj hu_8084
                          rw [hu_8084a, hu_8084b] at hP hD
                          have tt_8088 := hp_8087
                          refine lv_bipush (v := 61) hx hb dX12_nextToken_366 (by decide) ?_
                          refine lv_icmp_ne (tgt := 396) hx hb dX12_nextToken_368 (by decide) (fun c_8089 => ?_) (fun c_8089 => ?_)
                          · have tc_8090 : (x_8082).toInt ≠ 61 := fun q => c_8089 (Int32.toInt_inj.mp q)
                            subst hQ
                            exact W.vret hx hb hr (fun t1 ht hW => ⟨⟨(σ, I_8043, J, ri, rj, rq), rfl, ⟨I_8043, J, rfl, hG⟩, by rw [ht]; exact hP, va_K.moved hW.alike hK, hD⟩, hS.F ht⟩) hS.2.2 dX12_nextToken_396
                          · have tc_8091 : (x_8082).toInt = 61 := congrArg Int32.toInt c_8089
                            have h_8092 : rg x_8082 61 61 := rg_and hr_8086 (rg_of_eq c_8089 (rg_k (61 : Int32) 61 rfl)) (by decide)
                            have uh_8092 := h_8092.1
                            have vh_8092 := h_8092.2
                            refine lv_aload_n hx hb dX12_nextToken_371 rfl (lv_at hl 0 rfl) ?_
                            refine lv_dup hx hb dX12_nextToken_372 rfl ?_
                            refine pg_f (v := .int (I_8043 391 this)) (C := RX12) (T := TX12) (N := 31) hx hb hts (tw_i inlX12) hown hK hP hL_this hK_this (by decide) rfl 7 (by decide) (hts _ (tw_c tw_830)) rfl dX12_nextToken_373 ?_
                            refine lv_iconst (v := 1) hx hb dX12_nextToken_376 (by decide) ?_
                            have h_8093 : rg (I_8043 391 this) 0 299 := ⟨by omega, by omega⟩
                            have uh_8093 := h_8093.1
                            have vh_8093 := h_8093.2
                            refine lv_iadd hx hb dX12_nextToken_377 ?_
                            refine lv_topi (fun x_8094 ex_8094 => ?_)
                            have h_8095 : rg x_8094 1 300 := rg_of_eq ex_8094 (rg_add h_8093 (rg_k (1 : Int32) 1 rfl) (by decide))
                            have uh_8095 := h_8095.1
                            have vh_8095 := h_8095.2
                            have tx_8094 : (x_8094).toInt = (I_8043 391 this).toInt + 1 := by rw [ex_8094]; exact i_add_rg (a2 := (I_8043 391 this).toInt) (b2 := 1) rfl rfl h_8093 (rg_k (1 : Int32) 1 rfl) (by decide)
                            refine pp_i (v := x_8094) (ty := .int) (C := RX12) (T := TX12) (N := 31) hx hb hts (tw_i inlX12) tyX12 tyX12_ok nmX12 hown hK hP hD hS hL_this hK_this (by decide) rfl 7 391 (by decide) (hts _ (tw_c tw_830)) rfl (by decide +kernel) rfl rfl (Nat.le_of_ble_eq_true rfl) (ps_391 _ _ _ _ _) dX12_nextToken_378 (fun I_8096 H locs eI_8096 hP hD hS => ?_)
                            have hG := GM.wI hG 391 rfl eI_8096 (rg_w h_8095 (by decide)) (by decide)
                            refine lv_aload_n hx hb dX12_nextToken_381 rfl (lv_at hl 0 rfl) ?_
                            refine lv_iload_n hx hb dX12_nextToken_382 rfl (lv_at hl 1 rfl) ?_
                            refine lv_bipush (v := 60) hx hb dX12_nextToken_383 (by decide) ?_
                            have K_8106 : ∀  (H : Heap) (locs : List Loc) (ls : Array Slot), rg (x_7848) 61 62 → GM [392, 391, 393] tg σ I ri I_8096 ri rq → va_P D vwCl (pq_P t σ (I_8096, J, ri, rj, rq)) H → va_D A (pq_P t σ (I_8096, J, ri, rj, rq)) → va_S A s.heap H locs → lv_has ls 3 [] → W p l e ({ frames := 2, cells := 0, slots := 0, locals := 42 } : Room) s m (List.toArray ([.ref this] : List Value)) below meth c H locs 0 0 Q (F0 m 393 ls [.int 5, .ref this]) := by
                              intro H locs ls h_8108 hG hP hD hS hl
                              have uh_8108 := h_8108.1
                              have vh_8108 := h_8108.2
                              refine pp_i (v := 5) (ty := .int) (C := RX12) (T := TX12) (N := 31) hx hb hts (tw_i inlX12) tyX12 tyX12_ok nmX12 hown hK hP hD hS hL_this hK_this (by decide) rfl 9 393 (by decide) (hts _ (tw_c tw_831)) rfl (by decide +kernel) rfl rfl (Nat.le_of_ble_eq_true rfl) (ps_393 _ _ _ _ _) dX12_nextToken_393 (fun I_8109 H locs eI_8109 hP hD hS => ?_)
                              have hG := GM.wI hG 393 rfl eI_8109 (rg_w (rg_k (5 : Int32) 5 rfl) (by decide)) (by decide)
                              subst hQ
                              exact W.vret hx hb hr (fun t1 ht hW => ⟨⟨(σ, I_8109, J, ri, rj, rq), rfl, ⟨I_8109, J, rfl, hG⟩, by rw [ht]; exact hP, va_K.moved hW.alike hK, hD⟩, hS.F ht⟩) hS.2.2 dX12_nextToken_396
                            have K_8110 : ∀  (H : Heap) (locs : List Loc) (ls : Array Slot), rg (x_7848) 60 60 → GM [392, 391, 393] tg σ I ri I_8096 ri rq → va_P D vwCl (pq_P t σ (I_8096, J, ri, rj, rq)) H → va_D A (pq_P t σ (I_8096, J, ri, rj, rq)) → va_S A s.heap H locs → lv_has ls 3 [] → W p l e ({ frames := 2, cells := 0, slots := 0, locals := 42 } : Room) s m (List.toArray ([.ref this] : List Value)) below meth c H locs 0 0 Q (F0 m 393 ls [.int 4, .ref this]) := by
                              intro H locs ls h_8112 hG hP hD hS hl
                              have uh_8112 := h_8112.1
                              have vh_8112 := h_8112.2
                              refine pp_i (v := 4) (ty := .int) (C := RX12) (T := TX12) (N := 31) hx hb hts (tw_i inlX12) tyX12 tyX12_ok nmX12 hown hK hP hD hS hL_this hK_this (by decide) rfl 9 393 (by decide) (hts _ (tw_c tw_831)) rfl (by decide +kernel) rfl rfl (Nat.le_of_ble_eq_true rfl) (ps_393 _ _ _ _ _) dX12_nextToken_393 (fun I_8113 H locs eI_8113 hP hD hS => ?_)
                              have hG := GM.wI hG 393 rfl eI_8113 (rg_w (rg_k (4 : Int32) 4 rfl) (by decide)) (by decide)
                              subst hQ
                              exact W.vret hx hb hr (fun t1 ht hW => ⟨⟨(σ, I_8113, J, ri, rj, rq), rfl, ⟨I_8113, J, rfl, hG⟩, by rw [ht]; exact hP, va_K.moved hW.alike hK, hD⟩, hS.F ht⟩) hS.2.2 dX12_nextToken_396
                            refine lv_icmp_ne (tgt := 392) hx hb dX12_nextToken_385 (by decide) (fun c_8114 => ?_) (fun c_8114 => ?_)
                            · have tc_8115 : (x_7848).toInt ≠ 60 := fun q => c_8114 (Int32.toInt_inj.mp q)
                              have h_8116 : rg x_7848 61 62 := rg_ne c_8114 h_8080 60 rfl (by decide)
                              have uh_8116 := h_8116.1
                              have vh_8116 := h_8116.2
                              refine lv_iconst (v := 5) hx hb dX12_nextToken_392 (by decide) ?_
                              exact K_8106 _ _ _ (rg_w h_8116 (by decide)) hG hP hD hS (lv_sub hl [] rfl)
                            · have tc_8117 : (x_7848).toInt = 60 := congrArg Int32.toInt c_8114
                              have h_8118 : rg x_7848 60 60 := rg_and h_8080 (rg_of_eq c_8114 (rg_k (60 : Int32) 60 rfl)) (by decide)
                              have uh_8118 := h_8118.1
                              have vh_8118 := h_8118.2
                              refine lv_iconst (v := 4) hx hb dX12_nextToken_388 (by decide) ?_
                              refine lv_goto (tgt := 393) hx hb dX12_nextToken_389 (by decide) ?_
                              exact K_8110 _ _ _ (rg_w h_8118 (by decide)) hG hP hD hS (lv_sub hl [] rfl)
                        refine lv_icmp_eq (tgt := 358) hx hb dX12_nextToken_349 (by decide) (fun c_8119 => ?_) (fun c_8119 => ?_)
                        · have tc_8120 : (x_7848).toInt = 60 := congrArg Int32.toInt c_8119
                          have h_8121 : rg x_7848 60 60 := rg_and h_7857 (rg_of_eq c_8119 (rg_k (60 : Int32) 60 rfl)) (by decide)
                          have uh_8121 := h_8121.1
                          have vh_8121 := h_8121.2
                          exact K_8078 _ _ _ (rg_w h_8121 (by decide)) hG hP hD hS (lv_sub hl [0, 1] rfl)
                        · have tc_8122 : (x_7848).toInt ≠ 60 := fun q => c_8119 (Int32.toInt_inj.mp q)
                          refine lv_iload_n hx hb dX12_nextToken_352 rfl (lv_at hl 1 rfl) ?_
                          refine lv_bipush (v := 62) hx hb dX12_nextToken_353 (by decide) ?_
                          refine lv_icmp_ne (tgt := 396) hx hb dX12_nextToken_355 (by decide) (fun c_8123 => ?_) (fun c_8123 => ?_)
                          · have tc_8124 : (x_7848).toInt ≠ 62 := fun q => c_8123 (Int32.toInt_inj.mp q)
                            subst hQ
                            exact W.vret hx hb hr (fun t1 ht hW => ⟨⟨(σ, I_8043, J, ri, rj, rq), rfl, ⟨I_8043, J, rfl, hG⟩, by rw [ht]; exact hP, va_K.moved hW.alike hK, hD⟩, hS.F ht⟩) hS.2.2 dX12_nextToken_396
                          · have tc_8125 : (x_7848).toInt = 62 := congrArg Int32.toInt c_8123
                            have h_8126 : rg x_7848 62 62 := rg_and h_7857 (rg_of_eq c_8123 (rg_k (62 : Int32) 62 rfl)) (by decide)
                            have uh_8126 := h_8126.1
                            have vh_8126 := h_8126.2
                            exact K_8078 _ _ _ (rg_w h_8126 (by decide)) hG hP hD hS (lv_sub hl [0, 1] rfl)
                      refine lv_if_eq (tgt := 342) hx hb dX12_nextToken_335 (by decide) (fun c_8127 => ?_) (fun c_8127 => absurd c_8127 (by decide))
                      refine lv_iconst (v := 3) hx hb dX12_nextToken_342 (by decide) ?_
                      exact K_8042 _ _ _ hG hP hD hS (lv_sub hl [1, 2] rfl)
                    have K_8128 : ∀  (H : Heap) (locs : List Loc) (ls : Array Slot), rg (x_7848) 35 62 → GM [392, 391, 393] tg σ I ri I_7881 ri rq → va_P D vwCl (pq_P t σ (I_7881, J, ri, rj, rq)) H → va_D A (pq_P t σ (I_7881, J, ri, rj, rq)) → va_S A s.heap H locs → lv_has ls 3 [(0, .ref this), (1, .int x_7848)] → W p l e ({ frames := 2, cells := 0, slots := 0, locals := 42 } : Room) s m (List.toArray ([.ref this] : List Value)) below meth c H locs 0 0 Q (F0 m 332 ls [.int 1]) := by
                      intro H locs ls h_8130 hG hP hD hS hl
                      have uh_8130 := h_8130.1
                      have vh_8130 := h_8130.2
                      refine lv_istore_n (lv' := [(2, .int 1), (0, .ref this), (1, .int x_7848)]) hx hb dX12_nextToken_332 rfl hl (by decide) rfl (fun ls hl => ?_)
                      refine lv_aload_n hx hb dX12_nextToken_333 rfl (lv_at hl 1 rfl) ?_
                      refine lv_iload_n hx hb dX12_nextToken_334 rfl (lv_at hl 0 rfl) ?_
                      have K_8168 : ∀  (H : Heap) (locs : List Loc) (ls : Array Slot), GM [392, 391, 393] tg σ I ri I_7881 ri rq → va_P D vwCl (pq_P t σ (I_7881, J, ri, rj, rq)) H → va_D A (pq_P t σ (I_7881, J, ri, rj, rq)) → va_S A s.heap H locs → lv_has ls 3 [(0, .ref this), (1, .int x_7848)] → W p l e ({ frames := 2, cells := 0, slots := 0, locals := 42 } : Room) s m (List.toArray ([.ref this] : List Value)) below meth c H locs 0 0 Q (F0 m 343 ls [.int x_7848, .ref this]) := by
                        intro H locs ls hG hP hD hS hl
                        refine pp_i (v := x_7848) (ty := .int) (C := RX12) (T := TX12) (N := 31) hx hb hts (tw_i inlX12) tyX12 tyX12_ok nmX12 hown hK hP hD hS hL_this hK_this (by decide) rfl 9 393 (by decide) (hts _ (tw_c tw_831)) rfl (by decide +kernel) rfl rfl (Nat.le_of_ble_eq_true rfl) (ps_393 _ _ _ _ _) dX12_nextToken_343 (fun I_8169 H locs eI_8169 hP hD hS => ?_)
                        have hG := GM.wI hG 393 rfl eI_8169 (rg_w h_8130 (by decide)) (by decide)
                        refine lv_iload_n hx hb dX12_nextToken_346 rfl (lv_at hl 1 rfl) ?_
                        refine lv_bipush (v := 60) hx hb dX12_nextToken_347 (by decide) ?_
                        have K_8205 : ∀  (H : Heap) (locs : List Loc) (ls : Array Slot), rg (x_7848) 60 62 → GM [392, 391, 393] tg σ I ri I_8169 ri rq → va_P D vwCl (pq_P t σ (I_8169, J, ri, rj, rq)) H → va_D A (pq_P t σ (I_8169, J, ri, rj, rq)) → va_S A s.heap H locs → lv_has ls 3 [(0, .ref this), (1, .int x_7848)] → W p l e ({ frames := 2, cells := 0, slots := 0, locals := 42 } : Room) s m (List.toArray ([.ref this] : List Value)) below meth c H locs 0 0 Q (F0 m 358 ls []) := by
                          intro H locs ls h_8207 hG hP hD hS hl
                          have uh_8207 := h_8207.1
                          have vh_8207 := h_8207.2
                          refine lv_aload_n hx hb dX12_nextToken_358 rfl (lv_at hl 0 rfl) ?_
                          refine lv_aload_n hx hb dX12_nextToken_359 rfl (lv_at hl 0 rfl) ?_
                          refine pg_f (v := .int (I_8169 391 this)) (C := RX12) (T := TX12) (N := 31) hx hb hts (tw_i inlX12) hown hK hP hL_this hK_this (by decide) rfl 7 (by decide) (hts _ (tw_c tw_830)) rfl dX12_nextToken_360 ?_
                          have h_8208 : rg (I_8169 391 this) 1 300 := (by rw [eI_8169, pq_uf _ _ _ (by decide)]; exact (by rw [eI_7881, pq_us]; exact h_7880))
                          have uh_8208 := h_8208.1
                          have vh_8208 := h_8208.2
                          refine pk_i (va_runV (As := [.int (I_8169 391 this)]) (rest := []) ⟨hx, hb, hml, hown, hts⟩ (s_X12_see l D t σ I_8169 J ri rj rq H.size tg hSH hG.1 this (I_8169 391 this) hL_this hK_this (rg_w h_8208 (by decide))) (cwV 1 hts (tw_V tw_839 tw_840 tw_841 tw_5 tw_842) rfl rfl rfl (by decide +kernel) ⟨Nat.le_of_ble_eq_true rfl, Nat.le_of_ble_eq_true rfl⟩) ⟨pq_blind, pq_recv hK hP hL_this hK_this (by decide) rfl, pq_pre hK hN hP hD⟩ rfl rfl hl.1 rfl (lv_room (Nat.le_of_ble_eq_true rfl)) dX12_nextToken_363 ⟨Nat.le_of_ble_eq_true rfl, Nat.le_of_ble_eq_true rfl⟩) hD hS hA (fun x_8209 σ1 μ1 H locs hw_8210 hP hD hS => ?_)
                          obtain ⟨hu_8211, hp_8214, hr_8213⟩ := hw_8210
                          obtain ⟨hu_8211a, hu_8211b⟩ := Prod.mk.inj hu_8211
                          rw [hu_8211a, hu_8211b] at hP hD
                          have tt_8215 := hp_8214
                          refine lv_bipush (v := 61) hx hb dX12_nextToken_366 (by decide) ?_
                          refine lv_icmp_ne (tgt := 396) hx hb dX12_nextToken_368 (by decide) (fun c_8216 => ?_) (fun c_8216 => ?_)
                          · have tc_8217 : (x_8209).toInt ≠ 61 := fun q => c_8216 (Int32.toInt_inj.mp q)
                            subst hQ
                            exact W.vret hx hb hr (fun t1 ht hW => ⟨⟨(σ, I_8169, J, ri, rj, rq), rfl, ⟨I_8169, J, rfl, hG⟩, by rw [ht]; exact hP, va_K.moved hW.alike hK, hD⟩, hS.F ht⟩) hS.2.2 dX12_nextToken_396
                          · have tc_8218 : (x_8209).toInt = 61 := congrArg Int32.toInt c_8216
                            have h_8219 : rg x_8209 61 61 := rg_and hr_8213 (rg_of_eq c_8216 (rg_k (61 : Int32) 61 rfl)) (by decide)
                            have uh_8219 := h_8219.1
                            have vh_8219 := h_8219.2
                            refine lv_aload_n hx hb dX12_nextToken_371 rfl (lv_at hl 0 rfl) ?_
                            refine lv_dup hx hb dX12_nextToken_372 rfl ?_
                            refine pg_f (v := .int (I_8169 391 this)) (C := RX12) (T := TX12) (N := 31) hx hb hts (tw_i inlX12) hown hK hP hL_this hK_this (by decide) rfl 7 (by decide) (hts _ (tw_c tw_830)) rfl dX12_nextToken_373 ?_
                            refine lv_iconst (v := 1) hx hb dX12_nextToken_376 (by decide) ?_
                            have h_8220 : rg (I_8169 391 this) 0 299 := ⟨by omega, by omega⟩
                            have uh_8220 := h_8220.1
                            have vh_8220 := h_8220.2
                            refine lv_iadd hx hb dX12_nextToken_377 ?_
                            refine lv_topi (fun x_8221 ex_8221 => ?_)
                            have h_8222 : rg x_8221 1 300 := rg_of_eq ex_8221 (rg_add h_8220 (rg_k (1 : Int32) 1 rfl) (by decide))
                            have uh_8222 := h_8222.1
                            have vh_8222 := h_8222.2
                            have tx_8221 : (x_8221).toInt = (I_8169 391 this).toInt + 1 := by rw [ex_8221]; exact i_add_rg (a2 := (I_8169 391 this).toInt) (b2 := 1) rfl rfl h_8220 (rg_k (1 : Int32) 1 rfl) (by decide)
                            refine pp_i (v := x_8221) (ty := .int) (C := RX12) (T := TX12) (N := 31) hx hb hts (tw_i inlX12) tyX12 tyX12_ok nmX12 hown hK hP hD hS hL_this hK_this (by decide) rfl 7 391 (by decide) (hts _ (tw_c tw_830)) rfl (by decide +kernel) rfl rfl (Nat.le_of_ble_eq_true rfl) (ps_391 _ _ _ _ _) dX12_nextToken_378 (fun I_8223 H locs eI_8223 hP hD hS => ?_)
                            have hG := GM.wI hG 391 rfl eI_8223 (rg_w h_8222 (by decide)) (by decide)
                            refine lv_aload_n hx hb dX12_nextToken_381 rfl (lv_at hl 0 rfl) ?_
                            refine lv_iload_n hx hb dX12_nextToken_382 rfl (lv_at hl 1 rfl) ?_
                            refine lv_bipush (v := 60) hx hb dX12_nextToken_383 (by decide) ?_
                            have K_8233 : ∀  (H : Heap) (locs : List Loc) (ls : Array Slot), rg (x_7848) 61 62 → GM [392, 391, 393] tg σ I ri I_8223 ri rq → va_P D vwCl (pq_P t σ (I_8223, J, ri, rj, rq)) H → va_D A (pq_P t σ (I_8223, J, ri, rj, rq)) → va_S A s.heap H locs → lv_has ls 3 [] → W p l e ({ frames := 2, cells := 0, slots := 0, locals := 42 } : Room) s m (List.toArray ([.ref this] : List Value)) below meth c H locs 0 0 Q (F0 m 393 ls [.int 5, .ref this]) := by
                              intro H locs ls h_8235 hG hP hD hS hl
                              have uh_8235 := h_8235.1
                              have vh_8235 := h_8235.2
                              refine pp_i (v := 5) (ty := .int) (C := RX12) (T := TX12) (N := 31) hx hb hts (tw_i inlX12) tyX12 tyX12_ok nmX12 hown hK hP hD hS hL_this hK_this (by decide) rfl 9 393 (by decide) (hts _ (tw_c tw_831)) rfl (by decide +kernel) rfl rfl (Nat.le_of_ble_eq_true rfl) (ps_393 _ _ _ _ _) dX12_nextToken_393 (fun I_8236 H locs eI_8236 hP hD hS => ?_)
                              have hG := GM.wI hG 393 rfl eI_8236 (rg_w (rg_k (5 : Int32) 5 rfl) (by decide)) (by decide)
                              subst hQ
                              exact W.vret hx hb hr (fun t1 ht hW => ⟨⟨(σ, I_8236, J, ri, rj, rq), rfl, ⟨I_8236, J, rfl, hG⟩, by rw [ht]; exact hP, va_K.moved hW.alike hK, hD⟩, hS.F ht⟩) hS.2.2 dX12_nextToken_396
                            have K_8237 : ∀  (H : Heap) (locs : List Loc) (ls : Array Slot), rg (x_7848) 60 60 → GM [392, 391, 393] tg σ I ri I_8223 ri rq → va_P D vwCl (pq_P t σ (I_8223, J, ri, rj, rq)) H → va_D A (pq_P t σ (I_8223, J, ri, rj, rq)) → va_S A s.heap H locs → lv_has ls 3 [] → W p l e ({ frames := 2, cells := 0, slots := 0, locals := 42 } : Room) s m (List.toArray ([.ref this] : List Value)) below meth c H locs 0 0 Q (F0 m 393 ls [.int 4, .ref this]) := by
                              intro H locs ls h_8239 hG hP hD hS hl
                              have uh_8239 := h_8239.1
                              have vh_8239 := h_8239.2
                              refine pp_i (v := 4) (ty := .int) (C := RX12) (T := TX12) (N := 31) hx hb hts (tw_i inlX12) tyX12 tyX12_ok nmX12 hown hK hP hD hS hL_this hK_this (by decide) rfl 9 393 (by decide) (hts _ (tw_c tw_831)) rfl (by decide +kernel) rfl rfl (Nat.le_of_ble_eq_true rfl) (ps_393 _ _ _ _ _) dX12_nextToken_393 (fun I_8240 H locs eI_8240 hP hD hS => ?_)
                              have hG := GM.wI hG 393 rfl eI_8240 (rg_w (rg_k (4 : Int32) 4 rfl) (by decide)) (by decide)
                              subst hQ
                              exact W.vret hx hb hr (fun t1 ht hW => ⟨⟨(σ, I_8240, J, ri, rj, rq), rfl, ⟨I_8240, J, rfl, hG⟩, by rw [ht]; exact hP, va_K.moved hW.alike hK, hD⟩, hS.F ht⟩) hS.2.2 dX12_nextToken_396
                            refine lv_icmp_ne (tgt := 392) hx hb dX12_nextToken_385 (by decide) (fun c_8241 => ?_) (fun c_8241 => ?_)
                            · have tc_8242 : (x_7848).toInt ≠ 60 := fun q => c_8241 (Int32.toInt_inj.mp q)
                              have h_8243 : rg x_7848 61 62 := rg_ne c_8241 h_8207 60 rfl (by decide)
                              have uh_8243 := h_8243.1
                              have vh_8243 := h_8243.2
                              refine lv_iconst (v := 5) hx hb dX12_nextToken_392 (by decide) ?_
                              exact K_8233 _ _ _ (rg_w h_8243 (by decide)) hG hP hD hS (lv_sub hl [] rfl)
                            · have tc_8244 : (x_7848).toInt = 60 := congrArg Int32.toInt c_8241
                              have h_8245 : rg x_7848 60 60 := rg_and h_8207 (rg_of_eq c_8241 (rg_k (60 : Int32) 60 rfl)) (by decide)
                              have uh_8245 := h_8245.1
                              have vh_8245 := h_8245.2
                              refine lv_iconst (v := 4) hx hb dX12_nextToken_388 (by decide) ?_
                              refine lv_goto (tgt := 393) hx hb dX12_nextToken_389 (by decide) ?_
                              exact K_8237 _ _ _ (rg_w h_8245 (by decide)) hG hP hD hS (lv_sub hl [] rfl)
                        refine lv_icmp_eq (tgt := 358) hx hb dX12_nextToken_349 (by decide) (fun c_8246 => ?_) (fun c_8246 => ?_)
                        · have tc_8247 : (x_7848).toInt = 60 := congrArg Int32.toInt c_8246
                          have h_8248 : rg x_7848 60 60 := rg_and h_8130 (rg_of_eq c_8246 (rg_k (60 : Int32) 60 rfl)) (by decide)
                          have uh_8248 := h_8248.1
                          have vh_8248 := h_8248.2
                          exact K_8205 _ _ _ (rg_w h_8248 (by decide)) hG hP hD hS (lv_sub hl [0, 1] rfl)
                        · have tc_8249 : (x_7848).toInt ≠ 60 := fun q => c_8246 (Int32.toInt_inj.mp q)
                          refine lv_iload_n hx hb dX12_nextToken_352 rfl (lv_at hl 1 rfl) ?_
                          refine lv_bipush (v := 62) hx hb dX12_nextToken_353 (by decide) ?_
                          refine lv_icmp_ne (tgt := 396) hx hb dX12_nextToken_355 (by decide) (fun c_8250 => ?_) (fun c_8250 => ?_)
                          · have tc_8251 : (x_7848).toInt ≠ 62 := fun q => c_8250 (Int32.toInt_inj.mp q)
                            have h_8252 : rg x_7848 35 61 := rg_ne c_8250 h_8130 62 rfl (by decide)
                            have uh_8252 := h_8252.1
                            have vh_8252 := h_8252.2
                            subst hQ
                            exact W.vret hx hb hr (fun t1 ht hW => ⟨⟨(σ, I_8169, J, ri, rj, rq), rfl, ⟨I_8169, J, rfl, hG⟩, by rw [ht]; exact hP, va_K.moved hW.alike hK, hD⟩, hS.F ht⟩) hS.2.2 dX12_nextToken_396
                          · have tc_8253 : (x_7848).toInt = 62 := congrArg Int32.toInt c_8250
                            have h_8254 : rg x_7848 62 62 := rg_and h_8130 (rg_of_eq c_8250 (rg_k (62 : Int32) 62 rfl)) (by decide)
                            have uh_8254 := h_8254.1
                            have vh_8254 := h_8254.2
                            exact K_8205 _ _ _ (rg_w h_8254 (by decide)) hG hP hD hS (lv_sub hl [0, 1] rfl)
                      refine lv_if_eq (tgt := 342) hx hb dX12_nextToken_335 (by decide) (fun c_8255 => absurd c_8255 (by decide)) (fun c_8255 => ?_)
                      refine lv_iload_n hx hb dX12_nextToken_338 rfl (lv_at hl 2 rfl) ?_
                      refine lv_goto (tgt := 343) hx hb dX12_nextToken_339 (by decide) ?_
                      exact K_8168 _ _ _ hG hP hD hS (lv_sub hl [1, 2] rfl)
                    have K_8256 : ∀  (H : Heap) (locs : List Loc) (ls : Array Slot), rg (x_7848) 35 62 → GM [392, 391, 393] tg σ I ri I_7881 ri rq → va_P D vwCl (pq_P t σ (I_7881, J, ri, rj, rq)) H → va_D A (pq_P t σ (I_7881, J, ri, rj, rq)) → va_S A s.heap H locs → lv_has ls 3 [(0, .ref this), (1, .int x_7848)] → W p l e ({ frames := 2, cells := 0, slots := 0, locals := 42 } : Room) s m (List.toArray ([.ref this] : List Value)) below meth c H locs 0 0 Q (F0 m 327 ls []) := by
                      intro H locs ls h_8258 hG hP hD hS hl
                      have uh_8258 := h_8258.1
                      have vh_8258 := h_8258.2
                      refine lv_iconst (v := 1) hx hb dX12_nextToken_327 (by decide) ?_
                      refine lv_goto (tgt := 332) hx hb dX12_nextToken_328 (by decide) ?_
                      exact K_8128 _ _ _ (rg_w h_8258 (by decide)) hG hP hD hS (lv_sub hl [0, 1] rfl)
                    refine lv_icmp_eq (tgt := 327) hx hb dX12_nextToken_258 (by decide) (fun c_8259 => ?_) (fun c_8259 => ?_)
                    · have tc_8260 : (x_7848).toInt = 60 := congrArg Int32.toInt c_8259
                      have h_8261 : rg x_7848 60 60 := rg_and h_7857 (rg_of_eq c_8259 (rg_k (60 : Int32) 60 rfl)) (by decide)
                      have uh_8261 := h_8261.1
                      have vh_8261 := h_8261.2
                      exact K_8256 _ _ _ (rg_w h_8261 (by decide)) hG hP hD hS (lv_sub hl [1, 0] rfl)
                    · have tc_8262 : (x_7848).toInt ≠ 60 := fun q => c_8259 (Int32.toInt_inj.mp q)
                      refine lv_iload_n hx hb dX12_nextToken_261 rfl (lv_at hl 0 rfl) ?_
                      refine lv_bipush (v := 62) hx hb dX12_nextToken_262 (by decide) ?_
                      refine lv_icmp_eq (tgt := 327) hx hb dX12_nextToken_264 (by decide) (fun c_8263 => ?_) (fun c_8263 => ?_)
                      · have tc_8264 : (x_7848).toInt = 62 := congrArg Int32.toInt c_8263
                        have h_8265 : rg x_7848 62 62 := rg_and h_7857 (rg_of_eq c_8263 (rg_k (62 : Int32) 62 rfl)) (by decide)
                        have uh_8265 := h_8265.1
                        have vh_8265 := h_8265.2
                        exact K_8256 _ _ _ (rg_w h_8265 (by decide)) hG hP hD hS (lv_sub hl [1, 0] rfl)
                      · have tc_8266 : (x_7848).toInt ≠ 62 := fun q => c_8263 (Int32.toInt_inj.mp q)
                        refine lv_iload_n hx hb dX12_nextToken_267 rfl (lv_at hl 0 rfl) ?_
                        refine lv_bipush (v := 61) hx hb dX12_nextToken_268 (by decide) ?_
                        refine lv_icmp_eq (tgt := 327) hx hb dX12_nextToken_270 (by decide) (fun c_8267 => ?_) (fun c_8267 => ?_)
                        · have tc_8268 : (x_7848).toInt = 61 := congrArg Int32.toInt c_8267
                          have h_8269 : rg x_7848 61 61 := rg_and h_7857 (rg_of_eq c_8267 (rg_k (61 : Int32) 61 rfl)) (by decide)
                          have uh_8269 := h_8269.1
                          have vh_8269 := h_8269.2
                          exact K_8256 _ _ _ (rg_w h_8269 (by decide)) hG hP hD hS (lv_sub hl [1, 0] rfl)
                        · have tc_8270 : (x_7848).toInt ≠ 61 := fun q => c_8267 (Int32.toInt_inj.mp q)
                          refine lv_iload_n hx hb dX12_nextToken_273 rfl (lv_at hl 0 rfl) ?_
                          refine lv_bipush (v := 35) hx hb dX12_nextToken_274 (by decide) ?_
                          refine lv_icmp_eq (tgt := 327) hx hb dX12_nextToken_276 (by decide) (fun c_8271 => ?_) (fun c_8271 => ?_)
                          · have tc_8272 : (x_7848).toInt = 35 := congrArg Int32.toInt c_8271
                            have h_8273 : rg x_7848 35 35 := rg_and h_7857 (rg_of_eq c_8271 (rg_k (35 : Int32) 35 rfl)) (by decide)
                            have uh_8273 := h_8273.1
                            have vh_8273 := h_8273.2
                            exact K_8256 _ _ _ (rg_w h_8273 (by decide)) hG hP hD hS (lv_sub hl [1, 0] rfl)
                          · have tc_8274 : (x_7848).toInt ≠ 35 := fun q => c_8271 (Int32.toInt_inj.mp q)
                            refine lv_iload_n hx hb dX12_nextToken_279 rfl (lv_at hl 0 rfl) ?_
                            refine lv_bipush (v := 43) hx hb dX12_nextToken_280 (by decide) ?_
                            refine lv_icmp_eq (tgt := 327) hx hb dX12_nextToken_282 (by decide) (fun c_8275 => ?_) (fun c_8275 => ?_)
                            · have tc_8276 : (x_7848).toInt = 43 := congrArg Int32.toInt c_8275
                              have h_8277 : rg x_7848 43 43 := rg_and h_7857 (rg_of_eq c_8275 (rg_k (43 : Int32) 43 rfl)) (by decide)
                              have uh_8277 := h_8277.1
                              have vh_8277 := h_8277.2
                              exact K_8256 _ _ _ (rg_w h_8277 (by decide)) hG hP hD hS (lv_sub hl [1, 0] rfl)
                            · have tc_8278 : (x_7848).toInt ≠ 43 := fun q => c_8275 (Int32.toInt_inj.mp q)
                              refine lv_iload_n hx hb dX12_nextToken_285 rfl (lv_at hl 0 rfl) ?_
                              refine lv_bipush (v := 45) hx hb dX12_nextToken_286 (by decide) ?_
                              refine lv_icmp_eq (tgt := 327) hx hb dX12_nextToken_288 (by decide) (fun c_8279 => ?_) (fun c_8279 => ?_)
                              · have tc_8280 : (x_7848).toInt = 45 := congrArg Int32.toInt c_8279
                                have h_8281 : rg x_7848 45 45 := rg_and h_7857 (rg_of_eq c_8279 (rg_k (45 : Int32) 45 rfl)) (by decide)
                                have uh_8281 := h_8281.1
                                have vh_8281 := h_8281.2
                                exact K_8256 _ _ _ (rg_w h_8281 (by decide)) hG hP hD hS (lv_sub hl [1, 0] rfl)
                              · have tc_8282 : (x_7848).toInt ≠ 45 := fun q => c_8279 (Int32.toInt_inj.mp q)
                                refine lv_iload_n hx hb dX12_nextToken_291 rfl (lv_at hl 0 rfl) ?_
                                refine lv_bipush (v := 42) hx hb dX12_nextToken_292 (by decide) ?_
                                refine lv_icmp_eq (tgt := 327) hx hb dX12_nextToken_294 (by decide) (fun c_8283 => ?_) (fun c_8283 => ?_)
                                · have tc_8284 : (x_7848).toInt = 42 := congrArg Int32.toInt c_8283
                                  have h_8285 : rg x_7848 42 42 := rg_and h_7857 (rg_of_eq c_8283 (rg_k (42 : Int32) 42 rfl)) (by decide)
                                  have uh_8285 := h_8285.1
                                  have vh_8285 := h_8285.2
                                  exact K_8256 _ _ _ (rg_w h_8285 (by decide)) hG hP hD hS (lv_sub hl [1, 0] rfl)
                                · have tc_8286 : (x_7848).toInt ≠ 42 := fun q => c_8283 (Int32.toInt_inj.mp q)
                                  refine lv_iload_n hx hb dX12_nextToken_297 rfl (lv_at hl 0 rfl) ?_
                                  refine lv_bipush (v := 47) hx hb dX12_nextToken_298 (by decide) ?_
                                  refine lv_icmp_eq (tgt := 327) hx hb dX12_nextToken_300 (by decide) (fun c_8287 => ?_) (fun c_8287 => ?_)
                                  · have tc_8288 : (x_7848).toInt = 47 := congrArg Int32.toInt c_8287
                                    have h_8289 : rg x_7848 47 47 := rg_and h_7857 (rg_of_eq c_8287 (rg_k (47 : Int32) 47 rfl)) (by decide)
                                    have uh_8289 := h_8289.1
                                    have vh_8289 := h_8289.2
                                    exact K_8256 _ _ _ (rg_w h_8289 (by decide)) hG hP hD hS (lv_sub hl [1, 0] rfl)
                                  · have tc_8290 : (x_7848).toInt ≠ 47 := fun q => c_8287 (Int32.toInt_inj.mp q)
                                    refine lv_iload_n hx hb dX12_nextToken_303 rfl (lv_at hl 0 rfl) ?_
                                    refine lv_bipush (v := 40) hx hb dX12_nextToken_304 (by decide) ?_
                                    refine lv_icmp_eq (tgt := 327) hx hb dX12_nextToken_306 (by decide) (fun c_8291 => ?_) (fun c_8291 => ?_)
                                    · have tc_8292 : (x_7848).toInt = 40 := congrArg Int32.toInt c_8291
                                      have h_8293 : rg x_7848 40 40 := rg_and h_7857 (rg_of_eq c_8291 (rg_k (40 : Int32) 40 rfl)) (by decide)
                                      have uh_8293 := h_8293.1
                                      have vh_8293 := h_8293.2
                                      exact K_8256 _ _ _ (rg_w h_8293 (by decide)) hG hP hD hS (lv_sub hl [1, 0] rfl)
                                    · have tc_8294 : (x_7848).toInt ≠ 40 := fun q => c_8291 (Int32.toInt_inj.mp q)
                                      refine lv_iload_n hx hb dX12_nextToken_309 rfl (lv_at hl 0 rfl) ?_
                                      refine lv_bipush (v := 41) hx hb dX12_nextToken_310 (by decide) ?_
                                      refine lv_icmp_eq (tgt := 327) hx hb dX12_nextToken_312 (by decide) (fun c_8295 => ?_) (fun c_8295 => ?_)
                                      · have tc_8296 : (x_7848).toInt = 41 := congrArg Int32.toInt c_8295
                                        have h_8297 : rg x_7848 41 41 := rg_and h_7857 (rg_of_eq c_8295 (rg_k (41 : Int32) 41 rfl)) (by decide)
                                        have uh_8297 := h_8297.1
                                        have vh_8297 := h_8297.2
                                        exact K_8256 _ _ _ (rg_w h_8297 (by decide)) hG hP hD hS (lv_sub hl [1, 0] rfl)
                                      · have tc_8298 : (x_7848).toInt ≠ 41 := fun q => c_8295 (Int32.toInt_inj.mp q)
                                        refine lv_iload_n hx hb dX12_nextToken_315 rfl (lv_at hl 0 rfl) ?_
                                        refine lv_bipush (v := 44) hx hb dX12_nextToken_316 (by decide) ?_
                                        refine lv_icmp_eq (tgt := 327) hx hb dX12_nextToken_318 (by decide) (fun c_8299 => ?_) (fun c_8299 => ?_)
                                        · have tc_8300 : (x_7848).toInt = 44 := congrArg Int32.toInt c_8299
                                          have h_8301 : rg x_7848 44 44 := rg_and h_7857 (rg_of_eq c_8299 (rg_k (44 : Int32) 44 rfl)) (by decide)
                                          have uh_8301 := h_8301.1
                                          have vh_8301 := h_8301.2
                                          exact K_8256 _ _ _ (rg_w h_8301 (by decide)) hG hP hD hS (lv_sub hl [1, 0] rfl)
                                        · have tc_8302 : (x_7848).toInt ≠ 44 := fun q => c_8299 (Int32.toInt_inj.mp q)
                                          refine lv_iload_n hx hb dX12_nextToken_321 rfl (lv_at hl 0 rfl) ?_
                                          refine lv_bipush (v := 59) hx hb dX12_nextToken_322 (by decide) ?_
                                          refine lv_icmp_ne (tgt := 331) hx hb dX12_nextToken_324 (by decide) (fun c_8303 => ?_) (fun c_8303 => ?_)
                                          · have tc_8304 : (x_7848).toInt ≠ 59 := fun q => c_8303 (Int32.toInt_inj.mp q)
                                            refine lv_iconst (v := 0) hx hb dX12_nextToken_331 (by decide) ?_
                                            exact K_8005 _ _ _ hG hP hD hS (lv_sub hl [1, 0] rfl)
                                          · have tc_8305 : (x_7848).toInt = 59 := congrArg Int32.toInt c_8303
                                            have h_8306 : rg x_7848 59 59 := rg_and h_7857 (rg_of_eq c_8303 (rg_k (59 : Int32) 59 rfl)) (by decide)
                                            have uh_8306 := h_8306.1
                                            have vh_8306 := h_8306.2
                                            exact K_8256 _ _ _ (rg_w h_8306 (by decide)) hG hP hD hS (lv_sub hl [1, 0] rfl)
                  · have f_8307 := (hr_7872.resolve_right (fun q => c_7874 q.1)).2
                    have uf_8307 := f_8307.1
                    have vf_8307 := f_8307.2
                    have tc_8308 : (x_7868).toInt ≠ 0 := fun q => c_7874 (Int32.toInt_inj.mp q)
                    have h_8309 : rg x_7868 1 1 := rg_ne c_7874 h_7873 0 rfl (by decide)
                    have uh_8309 := h_8309.1
                    have vh_8309 := h_8309.2
                    refine lv_aload_n hx hb dX12_nextToken_151 rfl (lv_at hl 1 rfl) ?_
                    refine lv_iconst (v := 2) hx hb dX12_nextToken_152 (by decide) ?_
                    refine pp_i (v := 2) (ty := .int) (C := RX12) (T := TX12) (N := 31) hx hb hts (tw_i inlX12) tyX12 tyX12_ok nmX12 hown hK hP hD hS hL_this hK_this (by decide) rfl 9 393 (by decide) (hts _ (tw_c tw_831)) rfl (by decide +kernel) rfl rfl (Nat.le_of_ble_eq_true rfl) (ps_393 _ _ _ _ _) dX12_nextToken_153 (fun I_8310 H locs eI_8310 hP hD hS => ?_)
                    have hG := GM.wI hG 393 rfl eI_8310 (rg_w (rg_k (2 : Int32) 2 rfl) (by decide)) (by decide)
                    refine lv_aload_n hx hb dX12_nextToken_156 rfl (lv_at hl 1 rfl) ?_
                    refine lv_lconst (v := 0) hx hb dX12_nextToken_157 (by decide) ?_
                    refine pp_l (v := 0) (C := RX12) (T := TX12) (N := 31) hx hb hts (tw_i inlX12) tyX12 tyX12_ok nmX12 hown hK hP hD hS hL_this hK_this (by decide) rfl 11 395 (by decide) (hts _ (tw_c tw_838)) rfl (by decide +kernel) (Nat.le_of_ble_eq_true rfl) (ps_395 _ _ _ _ _) dX12_nextToken_158 (fun J_8311 H locs eJ_8311 hP hD hS => ?_)
                    have L_8536 : ∀ (n_8535 : Nat) (I_8478 : Nat → Nat → Int32) (J_8479 : Nat → Nat → Int64) (H : Heap) (locs : List Loc) (ls : Array Slot), (300 - (I_8478 391 this).toInt).toNat < n_8535 → GM [392, 391, 393] tg σ I ri I_8478 ri rq → va_P D vwCl (pq_P t σ (I_8478, J_8479, ri, rj, rq)) H → va_D A (pq_P t σ (I_8478, J_8479, ri, rj, rq)) → va_S A s.heap H locs → lv_has ls 3 [(0, .ref this)] → W p l e ({ frames := 2, cells := 0, slots := 0, locals := 42 } : Room) s m (List.toArray ([.ref this] : List Value)) below meth c H locs 0 0 Q (F0 m 161 ls []) := by
                      intro n_8535
                      induction n_8535 with
                      | zero => intro I_8478 J_8479 H locs ls hm_8534 hG hP hD hS hl; exact absurd hm_8534 (Nat.not_lt_zero _)
                      | succ n_8535 ih_8537 =>
                        intro I_8478 J_8479 H locs ls hm_8534 hG hP hD hS hl
                        refine lv_aload_n hx hb dX12_nextToken_161 rfl (lv_at hl 0 rfl) ?_
                        refine lv_aload_n hx hb dX12_nextToken_162 rfl (lv_at hl 0 rfl) ?_
                        refine pg_f (v := .int (I_8478 391 this)) (C := RX12) (T := TX12) (N := 31) hx hb hts (tw_i inlX12) hown hK hP hL_this hK_this (by decide) rfl 7 (by decide) (hts _ (tw_c tw_830)) rfl dX12_nextToken_163 ?_
                        have h_8538 : rg (I_8478 391 this) 0 300 := GM.rI hG 391 rfl
                        have uh_8538 := h_8538.1
                        have vh_8538 := h_8538.2
                        refine pk_i (va_runV (As := [.int (I_8478 391 this)]) (rest := []) ⟨hx, hb, hml, hown, hts⟩ (s_X12_see l D t σ I_8478 J_8479 ri rj rq H.size tg hSH hG.1 this (I_8478 391 this) hL_this hK_this (rg_w h_8538 (by decide))) (cwV 1 hts (tw_V tw_839 tw_840 tw_841 tw_5 tw_842) rfl rfl rfl (by decide +kernel) ⟨Nat.le_of_ble_eq_true rfl, Nat.le_of_ble_eq_true rfl⟩) ⟨pq_blind, pq_recv hK hP hL_this hK_this (by decide) rfl, pq_pre hK hN hP hD⟩ rfl rfl hl.1 rfl (lv_room (Nat.le_of_ble_eq_true rfl)) dX12_nextToken_166 ⟨Nat.le_of_ble_eq_true rfl, Nat.le_of_ble_eq_true rfl⟩) hD hS hA (fun x_8539 σ1 μ1 H locs hw_8540 hP hD hS => ?_)
                        obtain ⟨hu_8541, hp_8544, hr_8543⟩ := hw_8540
                        obtain ⟨hu_8541a, hu_8541b⟩ := Prod.mk.inj hu_8541
                        rw [hu_8541a, hu_8541b] at hP hD
                        have tt_8545 := hp_8544
                        refine pk_i (va_runS (As := [.int x_8539]) (rest := []) ⟨hx, hb, hml, hown, hts⟩ (s_X12_isLetter l D t σ I_8478 J_8479 ri rj rq H.size tg hSH hG.1 x_8539) (va_cwS 1 hts (tw_S tw_846 tw_847 tw_5 tw_848) rfl rfl rfl (by decide +kernel) ⟨Nat.le_of_ble_eq_true rfl, Nat.le_of_ble_eq_true rfl⟩) ⟨pq_blind, pq_pre hK hN hP hD⟩ rfl rfl hl.1 rfl (lv_room (Nat.le_of_ble_eq_true rfl)) dX12_nextToken_169 ⟨Nat.le_of_ble_eq_true rfl, Nat.le_of_ble_eq_true rfl⟩) hD hS hA (fun x_8546 σ1 μ1 H locs hw_8547 hP hD hS => ?_)
                        obtain ⟨hu_8548, hr_8550⟩ := hw_8547
                        obtain ⟨hu_8548a, hu_8548b⟩ := Prod.mk.inj hu_8548
                        rw [hu_8548a, hu_8548b] at hP hD
                        have h_8551 : rg x_8546 0 1 := by rcases hr_8550 with ⟨q, -⟩ | ⟨q, -⟩ <;> rw [q] <;> exact ⟨by decide, by decide⟩
                        have uh_8551 := h_8551.1
                        have vh_8551 := h_8551.2
                        refine lv_if_eq (tgt := 223) hx hb dX12_nextToken_172 (by decide) (fun c_8552 => ?_) (fun c_8552 => ?_)
                        · have f_8553 := (hr_8550.resolve_left (fun q => absurd (q.1.symm.trans c_8552) (by decide))).2
                          have tc_8554 : (x_8546).toInt = 0 := congrArg Int32.toInt c_8552
                          have h_8555 : rg x_8546 0 0 := rg_and h_8551 (rg_of_eq c_8552 (rg_k (0 : Int32) 0 rfl)) (by decide)
                          have uh_8555 := h_8555.1
                          have vh_8555 := h_8555.2
                          refine lv_aload_n hx hb dX12_nextToken_223 rfl (lv_at hl 0 rfl) ?_
                          refine pg_f (v := .int (I_8478 391 this)) (C := RX12) (T := TX12) (N := 31) hx hb hts (tw_i inlX12) hown hK hP hL_this hK_this (by decide) rfl 7 (by decide) (hts _ (tw_c tw_830)) rfl dX12_nextToken_224 ?_
                          refine lv_aload_n hx hb dX12_nextToken_227 rfl (lv_at hl 0 rfl) ?_
                          refine pg_f (v := .int (I_8478 392 this)) (C := RX12) (T := TX12) (N := 31) hx hb hts (tw_i inlX12) hown hK hP hL_this hK_this (by decide) rfl 8 (by decide) (hts _ (tw_c tw_820)) rfl dX12_nextToken_228 ?_
                          have h_8556 : rg (I_8478 392 this) 0 300 := GM.rI hG 392 rfl
                          have uh_8556 := h_8556.1
                          have vh_8556 := h_8556.2
                          refine lv_isub hx hb dX12_nextToken_231 ?_
                          refine lv_topi (fun x_8557 ex_8557 => ?_)
                          have h_8558 : rg x_8557 (-300) 300 := rg_of_eq ex_8557 (rg_sub h_8538 h_8556 (by decide))
                          have uh_8558 := h_8558.1
                          have vh_8558 := h_8558.2
                          have tx_8557 : (x_8557).toInt = (I_8478 391 this).toInt - (I_8478 392 this).toInt := by rw [ex_8557]; exact i_sub_rg (a2 := (I_8478 391 this).toInt) (b2 := (I_8478 392 this).toInt) rfl rfl h_8538 h_8556 (by decide)
                          refine lv_bipush (v := 7) hx hb dX12_nextToken_232 (by decide) ?_
                          refine lv_icmp_le (tgt := 396) hx hb dX12_nextToken_234 (by decide) (fun c_8559 => ?_) (fun c_8559 => ?_)
                          · have tc_8560 : (x_8557).toInt ≤ 7 := Int32.le_iff_toInt_le.mp c_8559
                            have h_8561 : rg x_8557 (-300) 7 := rg_le1 c_8559 h_8558 (rg_k (7 : Int32) 7 rfl) (by decide)
                            have uh_8561 := h_8561.1
                            have vh_8561 := h_8561.2
                            subst hQ
                            exact W.vret hx hb hr (fun t1 ht hW => ⟨⟨(σ, I_8478, J_8479, ri, rj, rq), rfl, ⟨I_8478, J_8479, rfl, hG⟩, by rw [ht]; exact hP, va_K.moved hW.alike hK, hD⟩, hS.F ht⟩) hS.2.2 dX12_nextToken_396
                          · have tc_8562 : 7 < (x_8557).toInt := Int32.lt_iff_toInt_lt.mp (nle c_8559)
                            have h_8563 : rg x_8557 8 300 := rg_lt2 (nle c_8559) (rg_k (7 : Int32) 7 rfl) h_8558 (by decide)
                            have uh_8563 := h_8563.1
                            have vh_8563 := h_8563.2
                            refine lv_aload_n hx hb dX12_nextToken_237 rfl (lv_at hl 0 rfl) ?_
                            refine lv_lconst (v := 0) hx hb dX12_nextToken_238 (by decide) ?_
                            refine pp_l (v := 0) (C := RX12) (T := TX12) (N := 31) hx hb hts (tw_i inlX12) tyX12 tyX12_ok nmX12 hown hK hP hD hS hL_this hK_this (by decide) rfl 11 395 (by decide) (hts _ (tw_c tw_838)) rfl (by decide +kernel) (Nat.le_of_ble_eq_true rfl) (ps_395 _ _ _ _ _) dX12_nextToken_239 (fun J_8564 H locs eJ_8564 hP hD hS => ?_)
                            refine lv_goto (tgt := 396) hx hb dX12_nextToken_242 (by decide) ?_
                            subst hQ
                            exact W.vret hx hb hr (fun t1 ht hW => ⟨⟨(σ, I_8478, J_8564, ri, rj, rq), rfl, ⟨I_8478, J_8564, rfl, hG⟩, by rw [ht]; exact hP, va_K.moved hW.alike hK, hD⟩, hS.F ht⟩) hS.2.2 dX12_nextToken_396
                        · have f_8565 := (hr_8550.resolve_right (fun q => c_8552 q.1)).2
                          have uf_8565 := f_8565.1
                          have vf_8565 := f_8565.2
                          have tc_8566 : (x_8546).toInt ≠ 0 := fun q => c_8552 (Int32.toInt_inj.mp q)
                          have h_8567 : rg x_8546 1 1 := rg_ne c_8552 h_8551 0 rfl (by decide)
                          have uh_8567 := h_8567.1
                          have vh_8567 := h_8567.2
                          refine lv_aload_n hx hb dX12_nextToken_175 rfl (lv_at hl 0 rfl) ?_
                          refine pg_f (v := .int (I_8478 391 this)) (C := RX12) (T := TX12) (N := 31) hx hb hts (tw_i inlX12) hown hK hP hL_this hK_this (by decide) rfl 7 (by decide) (hts _ (tw_c tw_830)) rfl dX12_nextToken_176 ?_
                          refine lv_aload_n hx hb dX12_nextToken_179 rfl (lv_at hl 0 rfl) ?_
                          refine pg_f (v := .int (I_8478 392 this)) (C := RX12) (T := TX12) (N := 31) hx hb hts (tw_i inlX12) hown hK hP hL_this hK_this (by decide) rfl 8 (by decide) (hts _ (tw_c tw_820)) rfl dX12_nextToken_180 ?_
                          have h_8568 : rg (I_8478 392 this) 0 300 := GM.rI hG 392 rfl
                          have uh_8568 := h_8568.1
                          have vh_8568 := h_8568.2
                          refine lv_isub hx hb dX12_nextToken_183 ?_
                          refine lv_topi (fun x_8569 ex_8569 => ?_)
                          have h_8570 : rg x_8569 (-300) 300 := rg_of_eq ex_8569 (rg_sub h_8538 h_8568 (by decide))
                          have uh_8570 := h_8570.1
                          have vh_8570 := h_8570.2
                          have tx_8569 : (x_8569).toInt = (I_8478 391 this).toInt - (I_8478 392 this).toInt := by rw [ex_8569]; exact i_sub_rg (a2 := (I_8478 391 this).toInt) (b2 := (I_8478 392 this).toInt) rfl rfl h_8538 h_8568 (by decide)
                          refine lv_bipush (v := 7) hx hb dX12_nextToken_184 (by decide) ?_
                          have K_8592 : ∀  (J_8587 : Nat → Nat → Int64) (H : Heap) (locs : List Loc) (ls : Array Slot), GM [392, 391, 393] tg σ I ri I_8478 ri rq → va_P D vwCl (pq_P t σ (I_8478, J_8587, ri, rj, rq)) H → va_D A (pq_P t σ (I_8478, J_8587, ri, rj, rq)) → va_S A s.heap H locs → lv_has ls 3 [(0, .ref this)] → W p l e ({ frames := 2, cells := 0, slots := 0, locals := 42 } : Room) s m (List.toArray ([.ref this] : List Value)) below meth c H locs 0 0 Q (F0 m 210 ls []) := by
                            intro J_8587 H locs ls hG hP hD hS hl
                            refine lv_aload_n hx hb dX12_nextToken_210 rfl (lv_at hl 0 rfl) ?_
                            refine lv_dup hx hb dX12_nextToken_211 rfl ?_
                            refine pg_f (v := .int (I_8478 391 this)) (C := RX12) (T := TX12) (N := 31) hx hb hts (tw_i inlX12) hown hK hP hL_this hK_this (by decide) rfl 7 (by decide) (hts _ (tw_c tw_830)) rfl dX12_nextToken_212 ?_
                            refine lv_iconst (v := 1) hx hb dX12_nextToken_215 (by decide) ?_
                            have h_8593 : rg (I_8478 391 this) 0 299 := ⟨by omega, by omega⟩
                            have uh_8593 := h_8593.1
                            have vh_8593 := h_8593.2
                            refine lv_iadd hx hb dX12_nextToken_216 ?_
                            refine lv_topi (fun x_8594 ex_8594 => ?_)
                            have h_8595 : rg x_8594 1 300 := rg_of_eq ex_8594 (rg_add h_8593 (rg_k (1 : Int32) 1 rfl) (by decide))
                            have uh_8595 := h_8595.1
                            have vh_8595 := h_8595.2
                            have tx_8594 : (x_8594).toInt = (I_8478 391 this).toInt + 1 := by rw [ex_8594]; exact i_add_rg (a2 := (I_8478 391 this).toInt) (b2 := 1) rfl rfl h_8593 (rg_k (1 : Int32) 1 rfl) (by decide)
                            refine pp_i (v := x_8594) (ty := .int) (C := RX12) (T := TX12) (N := 31) hx hb hts (tw_i inlX12) tyX12 tyX12_ok nmX12 hown hK hP hD hS hL_this hK_this (by decide) rfl 7 391 (by decide) (hts _ (tw_c tw_830)) rfl (by decide +kernel) rfl rfl (Nat.le_of_ble_eq_true rfl) (ps_391 _ _ _ _ _) dX12_nextToken_217 (fun I_8596 H locs eI_8596 hP hD hS => ?_)
                            have hG := GM.wI hG 391 rfl eI_8596 (rg_w h_8595 (by decide)) (by decide)
                            refine lv_goto (tgt := 161) hx hb dX12_nextToken_220 (by decide) ?_
                            exact ih_8537 I_8596 J_8587 _ _ _ (ms_fu_iadd hm_8534 (by rw [eI_8596]; exact pq_us _ _ _ _) ex_8594 rfl (kk := 1) rfl (by decide) h_8593 (by decide) (by decide)) hG hP hD hS (lv_sub hl [0] rfl)
                          refine lv_icmp_ge (tgt := 210) hx hb dX12_nextToken_186 (by decide) (fun c_8597 => ?_) (fun c_8597 => ?_)
                          · have tc_8598 : 7 ≤ (x_8569).toInt := Int32.le_iff_toInt_le.mp c_8597
                            have h_8599 : rg x_8569 7 300 := rg_le2 c_8597 (rg_k (7 : Int32) 7 rfl) h_8570 (by decide)
                            have uh_8599 := h_8599.1
                            have vh_8599 := h_8599.2
                            exact K_8592 J_8479 _ _ _ hG hP hD hS (lv_sub hl [0] rfl)
                          · have tc_8600 : (x_8569).toInt < 7 := Int32.lt_iff_toInt_lt.mp (nle c_8597)
                            have h_8601 : rg x_8569 (-300) 6 := rg_lt1 (nle c_8597) h_8570 (rg_k (7 : Int32) 7 rfl) (by decide)
                            have uh_8601 := h_8601.1
                            have vh_8601 := h_8601.2
                            refine lv_aload_n hx hb dX12_nextToken_189 rfl (lv_at hl 0 rfl) ?_
                            refine lv_aload_n hx hb dX12_nextToken_190 rfl (lv_at hl 0 rfl) ?_
                            refine pg_f (v := .long (J_8479 395 this)) (C := RX12) (T := TX12) (N := 31) hx hb hts (tw_i inlX12) hown hK hP hL_this hK_this (by decide) rfl 11 (by decide) (hts _ (tw_c tw_838)) rfl dX12_nextToken_191 ?_
                            refine lv_bipush (v := 8) hx hb dX12_nextToken_194 (by decide) ?_
                            refine lv_lshl hx hb dX12_nextToken_196 rfl ?_
                            refine lv_topl (fun x_8602 ex_8602 => ?_)
                            refine lv_aload_n hx hb dX12_nextToken_197 rfl (lv_at hl 0 rfl) ?_
                            refine lv_aload_n hx hb dX12_nextToken_198 rfl (lv_at hl 0 rfl) ?_
                            refine pg_f (v := .int (I_8478 391 this)) (C := RX12) (T := TX12) (N := 31) hx hb hts (tw_i inlX12) hown hK hP hL_this hK_this (by decide) rfl 7 (by decide) (hts _ (tw_c tw_830)) rfl dX12_nextToken_199 ?_
                            refine pk_i (va_runV (As := [.int (I_8478 391 this)]) (rest := [.long x_8602, .ref this]) ⟨hx, hb, hml, hown, hts⟩ (s_X12_see l D t σ I_8478 J_8479 ri rj rq H.size tg hSH hG.1 this (I_8478 391 this) hL_this hK_this (rg_w h_8538 (by decide))) (cwV 1 hts (tw_V tw_839 tw_840 tw_841 tw_5 tw_842) rfl rfl rfl (by decide +kernel) ⟨Nat.le_of_ble_eq_true rfl, Nat.le_of_ble_eq_true rfl⟩) ⟨pq_blind, pq_recv hK hP hL_this hK_this (by decide) rfl, pq_pre hK hN hP hD⟩ rfl rfl hl.1 rfl (lv_room (Nat.le_of_ble_eq_true rfl)) dX12_nextToken_202 ⟨Nat.le_of_ble_eq_true rfl, Nat.le_of_ble_eq_true rfl⟩) hD hS hA (fun x_8603 σ1 μ1 H locs hw_8604 hP hD hS => ?_)
                            obtain ⟨hu_8605, hp_8608, hr_8607⟩ := hw_8604
                            obtain ⟨hu_8605a, hu_8605b⟩ := Prod.mk.inj hu_8605
                            rw [hu_8605a, hu_8605b] at hP hD
                            have tt_8609 := hp_8608
                            refine lv_i2l hx hb dX12_nextToken_205 rfl ?_
                            refine lv_topl (fun x_8610 ex_8610 => ?_)
                            refine lv_lor hx hb dX12_nextToken_206 ?_
                            refine lv_topl (fun x_8611 ex_8611 => ?_)
                            refine pp_l (v := x_8611) (C := RX12) (T := TX12) (N := 31) hx hb hts (tw_i inlX12) tyX12 tyX12_ok nmX12 hown hK hP hD hS hL_this hK_this (by decide) rfl 11 395 (by decide) (hts _ (tw_c tw_838)) rfl (by decide +kernel) (Nat.le_of_ble_eq_true rfl) (ps_395 _ _ _ _ _) dX12_nextToken_207 (fun J_8612 H locs eJ_8612 hP hD hS => ?_)
                            exact K_8592 J_8612 _ _ _ hG hP hD hS (lv_sub hl [0] rfl)
                    exact L_8536 _ I_8310 J_8311 _ _ _ (Nat.lt_succ_self _) hG hP hD hS (lv_sub hl [1] rfl)
                · have f_8613 := (hr_7862.resolve_right (fun q => c_7864 q.1)).2
                  have uf_8613 := f_8613.1
                  have vf_8613 := f_8613.2
                  have tc_8614 : (x_7858).toInt ≠ 0 := fun q => c_7864 (Int32.toInt_inj.mp q)
                  have h_8615 : rg x_7858 1 1 := rg_ne c_7864 h_7863 0 rfl (by decide)
                  have uh_8615 := h_8615.1
                  have vh_8615 := h_8615.2
                  refine lv_aload_n hx hb dX12_nextToken_75 rfl (lv_at hl 1 rfl) ?_
                  refine lv_iconst (v := 1) hx hb dX12_nextToken_76 (by decide) ?_
                  refine pp_i (v := 1) (ty := .int) (C := RX12) (T := TX12) (N := 31) hx hb hts (tw_i inlX12) tyX12 tyX12_ok nmX12 hown hK hP hD hS hL_this hK_this (by decide) rfl 9 393 (by decide) (hts _ (tw_c tw_831)) rfl (by decide +kernel) rfl rfl (Nat.le_of_ble_eq_true rfl) (ps_393 _ _ _ _ _) dX12_nextToken_77 (fun I_8616 H locs eI_8616 hP hD hS => ?_)
                  have hG := GM.wI hG 393 rfl eI_8616 (rg_w (rg_k (1 : Int32) 1 rfl) (by decide)) (by decide)
                  refine lv_aload_n hx hb dX12_nextToken_80 rfl (lv_at hl 1 rfl) ?_
                  refine lv_iconst (v := 0) hx hb dX12_nextToken_81 (by decide) ?_
                  refine pp_i (v := 0) (ty := .int) (C := RX12) (T := TX12) (N := 31) hx hb hts (tw_i inlX12) tyX12 tyX12_ok nmX12 hown hK hP hD hS hL_this hK_this (by decide) rfl 10 394 (by decide) (hts _ (tw_c tw_836)) rfl (by decide +kernel) rfl rfl (Nat.le_of_ble_eq_true rfl) (ps_394 _ _ _ _ _) dX12_nextToken_82 (fun I_8617 H locs eI_8617 hP hD hS => ?_)
                  have hG := GM.wI hG 394 rfl eI_8617 (rg_w (rg_k (0 : Int32) 0 rfl) (by decide)) (by decide)
                  have L_8805 : ∀ (n_8804 : Nat) (I_8756 : Nat → Nat → Int32) (H : Heap) (locs : List Loc) (ls : Array Slot), (300 - (I_8756 391 this).toInt).toNat < n_8804 → GM [392, 391, 393] tg σ I ri I_8756 ri rq → va_P D vwCl (pq_P t σ (I_8756, J, ri, rj, rq)) H → va_D A (pq_P t σ (I_8756, J, ri, rj, rq)) → va_S A s.heap H locs → lv_has ls 3 [(0, .ref this)] → W p l e ({ frames := 2, cells := 0, slots := 0, locals := 42 } : Room) s m (List.toArray ([.ref this] : List Value)) below meth c H locs 0 0 Q (F0 m 85 ls []) := by
                    intro n_8804
                    induction n_8804 with
                    | zero => intro I_8756 H locs ls hm_8803 hG hP hD hS hl; exact absurd hm_8803 (Nat.not_lt_zero _)
                    | succ n_8804 ih_8806 =>
                      intro I_8756 H locs ls hm_8803 hG hP hD hS hl
                      refine lv_aload_n hx hb dX12_nextToken_85 rfl (lv_at hl 0 rfl) ?_
                      refine lv_aload_n hx hb dX12_nextToken_86 rfl (lv_at hl 0 rfl) ?_
                      refine pg_f (v := .int (I_8756 391 this)) (C := RX12) (T := TX12) (N := 31) hx hb hts (tw_i inlX12) hown hK hP hL_this hK_this (by decide) rfl 7 (by decide) (hts _ (tw_c tw_830)) rfl dX12_nextToken_87 ?_
                      have h_8807 : rg (I_8756 391 this) 0 300 := GM.rI hG 391 rfl
                      have uh_8807 := h_8807.1
                      have vh_8807 := h_8807.2
                      refine pk_i (va_runV (As := [.int (I_8756 391 this)]) (rest := []) ⟨hx, hb, hml, hown, hts⟩ (s_X12_see l D t σ I_8756 J ri rj rq H.size tg hSH hG.1 this (I_8756 391 this) hL_this hK_this (rg_w h_8807 (by decide))) (cwV 1 hts (tw_V tw_839 tw_840 tw_841 tw_5 tw_842) rfl rfl rfl (by decide +kernel) ⟨Nat.le_of_ble_eq_true rfl, Nat.le_of_ble_eq_true rfl⟩) ⟨pq_blind, pq_recv hK hP hL_this hK_this (by decide) rfl, pq_pre hK hN hP hD⟩ rfl rfl hl.1 rfl (lv_room (Nat.le_of_ble_eq_true rfl)) dX12_nextToken_90 ⟨Nat.le_of_ble_eq_true rfl, Nat.le_of_ble_eq_true rfl⟩) hD hS hA (fun x_8808 σ1 μ1 H locs hw_8809 hP hD hS => ?_)
                      obtain ⟨hu_8810, hp_8813, hr_8812⟩ := hw_8809
                      obtain ⟨hu_8810a, hu_8810b⟩ := Prod.mk.inj hu_8810
                      rw [hu_8810a, hu_8810b] at hP hD
                      have tt_8814 := hp_8813
                      refine pk_i (va_runS (As := [.int x_8808]) (rest := []) ⟨hx, hb, hml, hown, hts⟩ (s_X12_isDigit l D t σ I_8756 J ri rj rq H.size tg hSH hG.1 x_8808) (va_cwS 1 hts (tw_S tw_843 tw_844 tw_5 tw_845) rfl rfl rfl (by decide +kernel) ⟨Nat.le_of_ble_eq_true rfl, Nat.le_of_ble_eq_true rfl⟩) ⟨pq_blind, pq_pre hK hN hP hD⟩ rfl rfl hl.1 rfl (lv_room (Nat.le_of_ble_eq_true rfl)) dX12_nextToken_93 ⟨Nat.le_of_ble_eq_true rfl, Nat.le_of_ble_eq_true rfl⟩) hD hS hA (fun x_8815 σ1 μ1 H locs hw_8816 hP hD hS => ?_)
                      obtain ⟨hu_8817, hr_8819⟩ := hw_8816
                      obtain ⟨hu_8817a, hu_8817b⟩ := Prod.mk.inj hu_8817
                      rw [hu_8817a, hu_8817b] at hP hD
                      have h_8820 : rg x_8815 0 1 := by rcases hr_8819 with ⟨q, -⟩ | ⟨q, -⟩ <;> rw [q] <;> exact ⟨by decide, by decide⟩
                      have uh_8820 := h_8820.1
                      have vh_8820 := h_8820.2
                      refine lv_if_eq (tgt := 396) hx hb dX12_nextToken_96 (by decide) (fun c_8821 => ?_) (fun c_8821 => ?_)
                      · have f_8822 := (hr_8819.resolve_left (fun q => absurd (q.1.symm.trans c_8821) (by decide))).2
                        have tc_8823 : (x_8815).toInt = 0 := congrArg Int32.toInt c_8821
                        have h_8824 : rg x_8815 0 0 := rg_and h_8820 (rg_of_eq c_8821 (rg_k (0 : Int32) 0 rfl)) (by decide)
                        have uh_8824 := h_8824.1
                        have vh_8824 := h_8824.2
                        subst hQ
                        exact W.vret hx hb hr (fun t1 ht hW => ⟨⟨(σ, I_8756, J, ri, rj, rq), rfl, ⟨I_8756, J, rfl, hG⟩, by rw [ht]; exact hP, va_K.moved hW.alike hK, hD⟩, hS.F ht⟩) hS.2.2 dX12_nextToken_396
                      · have f_8825 := (hr_8819.resolve_right (fun q => c_8821 q.1)).2
                        have uf_8825 := f_8825.1
                        have vf_8825 := f_8825.2
                        have tc_8826 : (x_8815).toInt ≠ 0 := fun q => c_8821 (Int32.toInt_inj.mp q)
                        have h_8827 : rg x_8815 1 1 := rg_ne c_8821 h_8820 0 rfl (by decide)
                        have uh_8827 := h_8827.1
                        have vh_8827 := h_8827.2
                        refine lv_aload_n hx hb dX12_nextToken_99 rfl (lv_at hl 0 rfl) ?_
                        refine pg_f (v := .int (I_8756 394 this)) (C := RX12) (T := TX12) (N := 31) hx hb hts (tw_i inlX12) hown hK hP hL_this hK_this (by decide) rfl 10 (by decide) (hts _ (tw_c tw_836)) rfl dX12_nextToken_100 ?_
                        refine lv_ldc hx hb hown (hts _ (tw_c tw_837)) dX12_nextToken_103 ?_
                        refine lv_icmp_ge (tgt := 131) hx hb dX12_nextToken_105 (by decide) (fun c_8828 => ?_) (fun c_8828 => ?_)
                        · have tc_8829 : 100000 ≤ (I_8756 394 this).toInt := Int32.le_iff_toInt_le.mp c_8828
                          have h_8830 : rg (I_8756 394 this) 100000 2147483647 := rg_le2 c_8828 (rg_k (100000 : Int32) 100000 rfl) (rg_full _) (by decide)
                          have uh_8830 := h_8830.1
                          have vh_8830 := h_8830.2
                          refine lv_aload_n hx hb dX12_nextToken_131 rfl (lv_at hl 0 rfl) ?_
                          refine lv_dup hx hb dX12_nextToken_132 rfl ?_
                          refine pg_f (v := .int (I_8756 391 this)) (C := RX12) (T := TX12) (N := 31) hx hb hts (tw_i inlX12) hown hK hP hL_this hK_this (by decide) rfl 7 (by decide) (hts _ (tw_c tw_830)) rfl dX12_nextToken_133 ?_
                          refine lv_iconst (v := 1) hx hb dX12_nextToken_136 (by decide) ?_
                          have h_8831 : rg (I_8756 391 this) 0 299 := ⟨by omega, by omega⟩
                          have uh_8831 := h_8831.1
                          have vh_8831 := h_8831.2
                          refine lv_iadd hx hb dX12_nextToken_137 ?_
                          refine lv_topi (fun x_8832 ex_8832 => ?_)
                          have h_8833 : rg x_8832 1 300 := rg_of_eq ex_8832 (rg_add h_8831 (rg_k (1 : Int32) 1 rfl) (by decide))
                          have uh_8833 := h_8833.1
                          have vh_8833 := h_8833.2
                          have tx_8832 : (x_8832).toInt = (I_8756 391 this).toInt + 1 := by rw [ex_8832]; exact i_add_rg (a2 := (I_8756 391 this).toInt) (b2 := 1) rfl rfl h_8831 (rg_k (1 : Int32) 1 rfl) (by decide)
                          refine pp_i (v := x_8832) (ty := .int) (C := RX12) (T := TX12) (N := 31) hx hb hts (tw_i inlX12) tyX12 tyX12_ok nmX12 hown hK hP hD hS hL_this hK_this (by decide) rfl 7 391 (by decide) (hts _ (tw_c tw_830)) rfl (by decide +kernel) rfl rfl (Nat.le_of_ble_eq_true rfl) (ps_391 _ _ _ _ _) dX12_nextToken_138 (fun I_8834 H locs eI_8834 hP hD hS => ?_)
                          have hG := GM.wI hG 391 rfl eI_8834 (rg_w h_8833 (by decide)) (by decide)
                          refine lv_goto (tgt := 85) hx hb dX12_nextToken_141 (by decide) ?_
                          exact ih_8806 I_8834 _ _ _ (ms_fu_iadd hm_8803 (by rw [eI_8834]; exact pq_us _ _ _ _) ex_8832 rfl (kk := 1) rfl (by decide) h_8831 (by decide) (by decide)) hG hP hD hS (lv_sub hl [0] rfl)
                        · have tc_8835 : (I_8756 394 this).toInt < 100000 := Int32.lt_iff_toInt_lt.mp (nle c_8828)
                          have h_8836 : rg (I_8756 394 this) (-2147483648) 99999 := rg_lt1 (nle c_8828) (rg_full _) (rg_k (100000 : Int32) 100000 rfl) (by decide)
                          have uh_8836 := h_8836.1
                          have vh_8836 := h_8836.2
                          refine lv_aload_n hx hb dX12_nextToken_108 rfl (lv_at hl 0 rfl) ?_
                          refine lv_bipush (v := 10) hx hb dX12_nextToken_109 (by decide) ?_
                          refine lv_aload_n hx hb dX12_nextToken_111 rfl (lv_at hl 0 rfl) ?_
                          refine pg_f (v := .int (I_8756 394 this)) (C := RX12) (T := TX12) (N := 31) hx hb hts (tw_i inlX12) hown hK hP hL_this hK_this (by decide) rfl 10 (by decide) (hts _ (tw_c tw_836)) rfl dX12_nextToken_112 ?_
                          refine lv_imul hx hb dX12_nextToken_115 ?_
                          refine lv_topi (fun x_8837 ex_8837 => ?_)
                          refine lv_aload_n hx hb dX12_nextToken_116 rfl (lv_at hl 0 rfl) ?_
                          refine lv_aload_n hx hb dX12_nextToken_117 rfl (lv_at hl 0 rfl) ?_
                          refine pg_f (v := .int (I_8756 391 this)) (C := RX12) (T := TX12) (N := 31) hx hb hts (tw_i inlX12) hown hK hP hL_this hK_this (by decide) rfl 7 (by decide) (hts _ (tw_c tw_830)) rfl dX12_nextToken_118 ?_
                          refine pk_i (va_runV (As := [.int (I_8756 391 this)]) (rest := [.int x_8837, .ref this]) ⟨hx, hb, hml, hown, hts⟩ (s_X12_see l D t σ I_8756 J ri rj rq H.size tg hSH hG.1 this (I_8756 391 this) hL_this hK_this (rg_w h_8807 (by decide))) (cwV 1 hts (tw_V tw_839 tw_840 tw_841 tw_5 tw_842) rfl rfl rfl (by decide +kernel) ⟨Nat.le_of_ble_eq_true rfl, Nat.le_of_ble_eq_true rfl⟩) ⟨pq_blind, pq_recv hK hP hL_this hK_this (by decide) rfl, pq_pre hK hN hP hD⟩ rfl rfl hl.1 rfl (lv_room (Nat.le_of_ble_eq_true rfl)) dX12_nextToken_121 ⟨Nat.le_of_ble_eq_true rfl, Nat.le_of_ble_eq_true rfl⟩) hD hS hA (fun x_8838 σ1 μ1 H locs hw_8839 hP hD hS => ?_)
                          obtain ⟨hu_8840, hp_8843, hr_8842⟩ := hw_8839
                          obtain ⟨hu_8840a, hu_8840b⟩ := Prod.mk.inj hu_8840
                          rw [hu_8840a, hu_8840b] at hP hD
                          have tt_8844 := hp_8843
                          refine lv_iadd hx hb dX12_nextToken_124 ?_
                          refine lv_topi (fun x_8845 ex_8845 => ?_)
                          refine lv_bipush (v := 48) hx hb dX12_nextToken_125 (by decide) ?_
                          refine lv_isub hx hb dX12_nextToken_127 ?_
                          refine lv_topi (fun x_8846 ex_8846 => ?_)
                          refine pp_i (v := x_8846) (ty := .int) (C := RX12) (T := TX12) (N := 31) hx hb hts (tw_i inlX12) tyX12 tyX12_ok nmX12 hown hK hP hD hS hL_this hK_this (by decide) rfl 10 394 (by decide) (hts _ (tw_c tw_836)) rfl (by decide +kernel) rfl rfl (Nat.le_of_ble_eq_true rfl) (ps_394 _ _ _ _ _) dX12_nextToken_128 (fun I_8847 H locs eI_8847 hP hD hS => ?_)
                          have hG := GM.wI hG 394 rfl eI_8847 (rg_w (rg_full _) (by decide)) (by decide)
                          refine lv_aload_n hx hb dX12_nextToken_131 rfl (lv_at hl 0 rfl) ?_
                          refine lv_dup hx hb dX12_nextToken_132 rfl ?_
                          refine pg_f (v := .int (I_8847 391 this)) (C := RX12) (T := TX12) (N := 31) hx hb hts (tw_i inlX12) hown hK hP hL_this hK_this (by decide) rfl 7 (by decide) (hts _ (tw_c tw_830)) rfl dX12_nextToken_133 ?_
                          have h_8848 : rg (I_8847 391 this) 0 300 := GM.rI hG 391 rfl
                          have uh_8848 := h_8848.1
                          have vh_8848 := h_8848.2
                          refine lv_iconst (v := 1) hx hb dX12_nextToken_136 (by decide) ?_
                          have h_8849 : rg (I_8847 391 this) 0 299 := ⟨by omega, by omega⟩
                          have uh_8849 := h_8849.1
                          have vh_8849 := h_8849.2
                          refine lv_iadd hx hb dX12_nextToken_137 ?_
                          refine lv_topi (fun x_8850 ex_8850 => ?_)
                          have h_8851 : rg x_8850 1 300 := rg_of_eq ex_8850 (rg_add h_8849 (rg_k (1 : Int32) 1 rfl) (by decide))
                          have uh_8851 := h_8851.1
                          have vh_8851 := h_8851.2
                          have tx_8850 : (x_8850).toInt = (I_8847 391 this).toInt + 1 := by rw [ex_8850]; exact i_add_rg (a2 := (I_8847 391 this).toInt) (b2 := 1) rfl rfl h_8849 (rg_k (1 : Int32) 1 rfl) (by decide)
                          refine pp_i (v := x_8850) (ty := .int) (C := RX12) (T := TX12) (N := 31) hx hb hts (tw_i inlX12) tyX12 tyX12_ok nmX12 hown hK hP hD hS hL_this hK_this (by decide) rfl 7 391 (by decide) (hts _ (tw_c tw_830)) rfl (by decide +kernel) rfl rfl (Nat.le_of_ble_eq_true rfl) (ps_391 _ _ _ _ _) dX12_nextToken_138 (fun I_8852 H locs eI_8852 hP hD hS => ?_)
                          have hG := GM.wI hG 391 rfl eI_8852 (rg_w h_8851 (by decide)) (by decide)
                          refine lv_goto (tgt := 85) hx hb dX12_nextToken_141 (by decide) ?_
                          exact ih_8806 I_8852 _ _ _ (ms_fu_iadd hm_8803 (by rw [eI_8852]; exact pq_us _ _ _ _) ex_8850 ((congrFun (show I_8847 391 = I_8756 391 from by rw [eI_8847]; exact pq_uf _ _ _ (by decide)) this).trans rfl) (kk := 1) rfl (by decide) h_8849 (by decide) (by decide)) hG hP hD hS (lv_sub hl [0] rfl)
                  exact L_8805 _ I_8617 _ _ _ (Nat.lt_succ_self _) hG hP hD hS (lv_sub hl [1] rfl)
              · have tc_8853 : (x_7848).toInt < 0 := Int32.lt_iff_toInt_lt.mp (nle c_7855)
                have h_8854 : rg x_7848 (-1) (-1) := rg_lt1 (nle c_7855) hr_7852 (rg_k (0 : Int32) 0 rfl) (by decide)
                have uh_8854 := h_8854.1
                have vh_8854 := h_8854.2
                refine lv_aload_n hx hb dX12_nextToken_60 rfl (lv_at hl 1 rfl) ?_
                refine lv_iconst (v := 0) hx hb dX12_nextToken_61 (by decide) ?_
                refine pp_i (v := 0) (ty := .int) (C := RX12) (T := TX12) (N := 31) hx hb hts (tw_i inlX12) tyX12 tyX12_ok nmX12 hown hK hP hD hS hL_this hK_this (by decide) rfl 9 393 (by decide) (hts _ (tw_c tw_831)) rfl (by decide +kernel) rfl rfl (Nat.le_of_ble_eq_true rfl) (ps_393 _ _ _ _ _) dX12_nextToken_62 (fun I_8855 H locs eI_8855 hP hD hS => ?_)
                have hG := GM.wI hG 393 rfl eI_8855 (rg_w (rg_k (0 : Int32) 0 rfl) (by decide)) (by decide)
                refine lv_goto (tgt := 396) hx hb dX12_nextToken_65 (by decide) ?_
                subst hQ
                exact W.vret hx hb hr (fun t1 ht hW => ⟨⟨(σ, I_8855, J, ri, rj, rq), rfl, ⟨I_8855, J, rfl, hG⟩, by rw [ht]; exact hP, va_K.moved hW.alike hK, hD⟩, hS.F ht⟩) hS.2.2 dX12_nextToken_396
            · have tc_8856 : (x_7837).toInt = 10 := congrArg Int32.toInt c_7844
              have h_8857 : rg x_7837 10 10 := rg_and hr_7841 (rg_of_eq c_7844 (rg_k (10 : Int32) 10 rfl)) (by decide)
              have uh_8857 := h_8857.1
              have vh_8857 := h_8857.2
              exact K_7828 _ _ _ hG hP hD hS (lv_sub hl [0] rfl)
      exact L_7116 _ I_4270 _ _ _ (Nat.lt_succ_self _) hG hP hD hS (lv_sub hl [0] rfl)
    refine lv_icmp_eq (tgt := 26) hx hb dX12_nextToken_10 (by decide) (fun c_8858 => ?_) (fun c_8858 => ?_)
    · have tc_8859 : (x_2).toInt = 32 := congrArg Int32.toInt c_8858
      have h_8860 : rg x_2 32 32 := rg_and hr_6 (rg_of_eq c_8858 (rg_k (32 : Int32) 32 rfl)) (by decide)
      have uh_8860 := h_8860.1
      have vh_8860 := h_8860.2
      exact K_4266 _ _ _ hG hP hD hS (lv_sub hl [0] rfl)
    · have tc_8861 : (x_2).toInt ≠ 32 := fun q => c_8858 (Int32.toInt_inj.mp q)
      refine lv_aload_n hx hb dX12_nextToken_13 rfl (lv_at hl 0 rfl) ?_
      refine lv_aload_n hx hb dX12_nextToken_14 rfl (lv_at hl 0 rfl) ?_
      refine pg_f (v := .int (I 391 this)) (C := RX12) (T := TX12) (N := 31) hx hb hts (tw_i inlX12) hown hK hP hL_this hK_this (by decide) rfl 7 (by decide) (hts _ (tw_c tw_830)) rfl dX12_nextToken_15 ?_
      refine pk_i (va_runV (As := [.int (I 391 this)]) (rest := []) ⟨hx, hb, hml, hown, hts⟩ (s_X12_see l D t σ I J ri rj rq H.size tg hSH hG.1 this (I 391 this) hL_this hK_this (rg_w h_1 (by decide))) (cwV 1 hts (tw_V tw_839 tw_840 tw_841 tw_5 tw_842) rfl rfl rfl (by decide +kernel) ⟨Nat.le_of_ble_eq_true rfl, Nat.le_of_ble_eq_true rfl⟩) ⟨pq_blind, pq_recv hK hP hL_this hK_this (by decide) rfl, pq_pre hK hN hP hD⟩ rfl rfl hl.1 rfl (lv_room (Nat.le_of_ble_eq_true rfl)) dX12_nextToken_18 ⟨Nat.le_of_ble_eq_true rfl, Nat.le_of_ble_eq_true rfl⟩) hD hS hA (fun x_8862 σ1 μ1 H locs hw_8863 hP hD hS => ?_)
      obtain ⟨hu_8864, hp_8867, hr_8866⟩ := hw_8863
      obtain ⟨hu_8864a, hu_8864b⟩ := Prod.mk.inj hu_8864
      rw [hu_8864a, hu_8864b] at hP hD
      have tt_8868 := hp_8867
      refine lv_bipush (v := 10) hx hb dX12_nextToken_21 (by decide) ?_
      refine lv_icmp_ne (tgt := 39) hx hb dX12_nextToken_23 (by decide) (fun c_8869 => ?_) (fun c_8869 => ?_)
      · have tc_8870 : (x_8862).toInt ≠ 10 := fun q => c_8869 (Int32.toInt_inj.mp q)
        refine lv_aload_n hx hb dX12_nextToken_39 rfl (lv_at hl 0 rfl) ?_
        refine lv_aload_n hx hb dX12_nextToken_40 rfl (lv_at hl 0 rfl) ?_
        refine pg_f (v := .int (I 391 this)) (C := RX12) (T := TX12) (N := 31) hx hb hts (tw_i inlX12) hown hK hP hL_this hK_this (by decide) rfl 7 (by decide) (hts _ (tw_c tw_830)) rfl dX12_nextToken_41 ?_
        refine pp_i (v := (I 391 this)) (ty := .int) (C := RX12) (T := TX12) (N := 31) hx hb hts (tw_i inlX12) tyX12 tyX12_ok nmX12 hown hK hP hD hS hL_this hK_this (by decide) rfl 8 392 (by decide) (hts _ (tw_c tw_820)) rfl (by decide +kernel) rfl rfl (Nat.le_of_ble_eq_true rfl) (ps_392 _ _ _ _ _) dX12_nextToken_44 (fun I_8871 H locs eI_8871 hP hD hS => ?_)
        have hG := GM.wI hG 392 rfl eI_8871 (rg_w h_1 (by decide)) (by decide)
        refine lv_aload_n hx hb dX12_nextToken_47 rfl (lv_at hl 0 rfl) ?_
        refine lv_aload_n hx hb dX12_nextToken_48 rfl (lv_at hl 0 rfl) ?_
        refine pg_f (v := .int (I_8871 391 this)) (C := RX12) (T := TX12) (N := 31) hx hb hts (tw_i inlX12) hown hK hP hL_this hK_this (by decide) rfl 7 (by decide) (hts _ (tw_c tw_830)) rfl dX12_nextToken_49 ?_
        have h_8872 : rg (I_8871 391 this) 0 300 := GM.rI hG 391 rfl
        have uh_8872 := h_8872.1
        have vh_8872 := h_8872.2
        refine pk_i (va_runV (As := [.int (I_8871 391 this)]) (rest := []) ⟨hx, hb, hml, hown, hts⟩ (s_X12_see l D t σ I_8871 J ri rj rq H.size tg hSH hG.1 this (I_8871 391 this) hL_this hK_this (rg_w h_8872 (by decide))) (cwV 1 hts (tw_V tw_839 tw_840 tw_841 tw_5 tw_842) rfl rfl rfl (by decide +kernel) ⟨Nat.le_of_ble_eq_true rfl, Nat.le_of_ble_eq_true rfl⟩) ⟨pq_blind, pq_recv hK hP hL_this hK_this (by decide) rfl, pq_pre hK hN hP hD⟩ rfl rfl hl.1 rfl (lv_room (Nat.le_of_ble_eq_true rfl)) dX12_nextToken_52 ⟨Nat.le_of_ble_eq_true rfl, Nat.le_of_ble_eq_true rfl⟩) hD hS hA (fun x_8873 σ1 μ1 H locs hw_8874 hP hD hS => ?_)
        obtain ⟨hu_8875, hp_8878, hr_8877⟩ := hw_8874
        obtain ⟨hu_8875a, hu_8875b⟩ := Prod.mk.inj hu_8875
        rw [hu_8875a, hu_8875b] at hP hD
        have tt_8879 := hp_8878
        refine lv_istore_n (lv' := [(1, .int x_8873), (0, .ref this)]) hx hb dX12_nextToken_55 rfl hl (by decide) rfl (fun ls hl => ?_)
        refine lv_iload_n hx hb dX12_nextToken_56 rfl (lv_at hl 0 rfl) ?_
        refine lv_if_ge (tgt := 68) hx hb dX12_nextToken_57 (by decide) (fun c_8880 => ?_) (fun c_8880 => ?_)
        · have tc_8881 : 0 ≤ (x_8873).toInt := Int32.le_iff_toInt_le.mp c_8880
          have h_8882 : rg x_8873 0 255 := rg_le2 c_8880 (rg_k (0 : Int32) 0 rfl) hr_8877 (by decide)
          have uh_8882 := h_8882.1
          have vh_8882 := h_8882.2
          refine lv_iload_n hx hb dX12_nextToken_68 rfl (lv_at hl 0 rfl) ?_
          refine pk_i (va_runS (As := [.int x_8873]) (rest := []) ⟨hx, hb, hml, hown, hts⟩ (s_X12_isDigit l D t σ I_8871 J ri rj rq H.size tg hSH hG.1 x_8873) (va_cwS 1 hts (tw_S tw_843 tw_844 tw_5 tw_845) rfl rfl rfl (by decide +kernel) ⟨Nat.le_of_ble_eq_true rfl, Nat.le_of_ble_eq_true rfl⟩) ⟨pq_blind, pq_pre hK hN hP hD⟩ rfl rfl hl.1 rfl (lv_room (Nat.le_of_ble_eq_true rfl)) dX12_nextToken_69 ⟨Nat.le_of_ble_eq_true rfl, Nat.le_of_ble_eq_true rfl⟩) hD hS hA (fun x_8883 σ1 μ1 H locs hw_8884 hP hD hS => ?_)
          obtain ⟨hu_8885, hr_8887⟩ := hw_8884
          obtain ⟨hu_8885a, hu_8885b⟩ := Prod.mk.inj hu_8885
          rw [hu_8885a, hu_8885b] at hP hD
          have h_8888 : rg x_8883 0 1 := by rcases hr_8887 with ⟨q, -⟩ | ⟨q, -⟩ <;> rw [q] <;> exact ⟨by decide, by decide⟩
          have uh_8888 := h_8888.1
          have vh_8888 := h_8888.2
          refine lv_if_eq (tgt := 144) hx hb dX12_nextToken_72 (by decide) (fun c_8889 => ?_) (fun c_8889 => ?_)
          · have f_8890 := (hr_8887.resolve_left (fun q => absurd (q.1.symm.trans c_8889) (by decide))).2
            have tc_8891 : (x_8883).toInt = 0 := congrArg Int32.toInt c_8889
            have h_8892 : rg x_8883 0 0 := rg_and h_8888 (rg_of_eq c_8889 (rg_k (0 : Int32) 0 rfl)) (by decide)
            have uh_8892 := h_8892.1
            have vh_8892 := h_8892.2
            refine lv_iload_n hx hb dX12_nextToken_144 rfl (lv_at hl 0 rfl) ?_
            refine pk_i (va_runS (As := [.int x_8873]) (rest := []) ⟨hx, hb, hml, hown, hts⟩ (s_X12_isLetter l D t σ I_8871 J ri rj rq H.size tg hSH hG.1 x_8873) (va_cwS 1 hts (tw_S tw_846 tw_847 tw_5 tw_848) rfl rfl rfl (by decide +kernel) ⟨Nat.le_of_ble_eq_true rfl, Nat.le_of_ble_eq_true rfl⟩) ⟨pq_blind, pq_pre hK hN hP hD⟩ rfl rfl hl.1 rfl (lv_room (Nat.le_of_ble_eq_true rfl)) dX12_nextToken_145 ⟨Nat.le_of_ble_eq_true rfl, Nat.le_of_ble_eq_true rfl⟩) hD hS hA (fun x_8893 σ1 μ1 H locs hw_8894 hP hD hS => ?_)
            obtain ⟨hu_8895, hr_8897⟩ := hw_8894
            obtain ⟨hu_8895a, hu_8895b⟩ := Prod.mk.inj hu_8895
            rw [hu_8895a, hu_8895b] at hP hD
            have h_8898 : rg x_8893 0 1 := by rcases hr_8897 with ⟨q, -⟩ | ⟨q, -⟩ <;> rw [q] <;> exact ⟨by decide, by decide⟩
            have uh_8898 := h_8898.1
            have vh_8898 := h_8898.2
            refine lv_if_eq (tgt := 245) hx hb dX12_nextToken_148 (by decide) (fun c_8899 => ?_) (fun c_8899 => ?_)
            · have f_8900 := (hr_8897.resolve_left (fun q => absurd (q.1.symm.trans c_8899) (by decide))).2
              have tc_8901 : (x_8893).toInt = 0 := congrArg Int32.toInt c_8899
              have h_8902 : rg x_8893 0 0 := rg_and h_8898 (rg_of_eq c_8899 (rg_k (0 : Int32) 0 rfl)) (by decide)
              have uh_8902 := h_8902.1
              have vh_8902 := h_8902.2
              refine lv_aload_n hx hb dX12_nextToken_245 rfl (lv_at hl 1 rfl) ?_
              refine lv_dup hx hb dX12_nextToken_246 rfl ?_
              refine pg_f (v := .int (I_8871 391 this)) (C := RX12) (T := TX12) (N := 31) hx hb hts (tw_i inlX12) hown hK hP hL_this hK_this (by decide) rfl 7 (by decide) (hts _ (tw_c tw_830)) rfl dX12_nextToken_247 ?_
              refine lv_iconst (v := 1) hx hb dX12_nextToken_250 (by decide) ?_
              have h_8903 : rg (I_8871 391 this) 0 299 := ⟨by omega, by omega⟩
              have uh_8903 := h_8903.1
              have vh_8903 := h_8903.2
              refine lv_iadd hx hb dX12_nextToken_251 ?_
              refine lv_topi (fun x_8904 ex_8904 => ?_)
              have h_8905 : rg x_8904 1 300 := rg_of_eq ex_8904 (rg_add h_8903 (rg_k (1 : Int32) 1 rfl) (by decide))
              have uh_8905 := h_8905.1
              have vh_8905 := h_8905.2
              have tx_8904 : (x_8904).toInt = (I_8871 391 this).toInt + 1 := by rw [ex_8904]; exact i_add_rg (a2 := (I_8871 391 this).toInt) (b2 := 1) rfl rfl h_8903 (rg_k (1 : Int32) 1 rfl) (by decide)
              refine pp_i (v := x_8904) (ty := .int) (C := RX12) (T := TX12) (N := 31) hx hb hts (tw_i inlX12) tyX12 tyX12_ok nmX12 hown hK hP hD hS hL_this hK_this (by decide) rfl 7 391 (by decide) (hts _ (tw_c tw_830)) rfl (by decide +kernel) rfl rfl (Nat.le_of_ble_eq_true rfl) (ps_391 _ _ _ _ _) dX12_nextToken_252 (fun I_8906 H locs eI_8906 hP hD hS => ?_)
              have hG := GM.wI hG 391 rfl eI_8906 (rg_w h_8905 (by decide)) (by decide)
              refine lv_iload_n hx hb dX12_nextToken_255 rfl (lv_at hl 0 rfl) ?_
              refine lv_bipush (v := 60) hx hb dX12_nextToken_256 (by decide) ?_
              have K_9030 : ∀  (H : Heap) (locs : List Loc) (ls : Array Slot), GM [392, 391, 393] tg σ I ri I_8906 ri rq → va_P D vwCl (pq_P t σ (I_8906, J, ri, rj, rq)) H → va_D A (pq_P t σ (I_8906, J, ri, rj, rq)) → va_S A s.heap H locs → lv_has ls 3 [(0, .ref this), (1, .int x_8873)] → W p l e ({ frames := 2, cells := 0, slots := 0, locals := 42 } : Room) s m (List.toArray ([.ref this] : List Value)) below meth c H locs 0 0 Q (F0 m 332 ls [.int 0]) := by
                intro H locs ls hG hP hD hS hl
                refine lv_istore_n (lv' := [(2, .int 0), (0, .ref this), (1, .int x_8873)]) hx hb dX12_nextToken_332 rfl hl (by decide) rfl (fun ls hl => ?_)
                refine lv_aload_n hx hb dX12_nextToken_333 rfl (lv_at hl 1 rfl) ?_
                refine lv_iload_n hx hb dX12_nextToken_334 rfl (lv_at hl 0 rfl) ?_
                have K_9067 : ∀  (H : Heap) (locs : List Loc) (ls : Array Slot), GM [392, 391, 393] tg σ I ri I_8906 ri rq → va_P D vwCl (pq_P t σ (I_8906, J, ri, rj, rq)) H → va_D A (pq_P t σ (I_8906, J, ri, rj, rq)) → va_S A s.heap H locs → lv_has ls 3 [(0, .ref this), (1, .int x_8873)] → W p l e ({ frames := 2, cells := 0, slots := 0, locals := 42 } : Room) s m (List.toArray ([.ref this] : List Value)) below meth c H locs 0 0 Q (F0 m 343 ls [.int 3, .ref this]) := by
                  intro H locs ls hG hP hD hS hl
                  refine pp_i (v := 3) (ty := .int) (C := RX12) (T := TX12) (N := 31) hx hb hts (tw_i inlX12) tyX12 tyX12_ok nmX12 hown hK hP hD hS hL_this hK_this (by decide) rfl 9 393 (by decide) (hts _ (tw_c tw_831)) rfl (by decide +kernel) rfl rfl (Nat.le_of_ble_eq_true rfl) (ps_393 _ _ _ _ _) dX12_nextToken_343 (fun I_9068 H locs eI_9068 hP hD hS => ?_)
                  have hG := GM.wI hG 393 rfl eI_9068 (rg_w (rg_k (3 : Int32) 3 rfl) (by decide)) (by decide)
                  refine lv_iload_n hx hb dX12_nextToken_346 rfl (lv_at hl 1 rfl) ?_
                  refine lv_bipush (v := 60) hx hb dX12_nextToken_347 (by decide) ?_
                  have K_9103 : ∀  (H : Heap) (locs : List Loc) (ls : Array Slot), rg (x_8873) 60 62 → GM [392, 391, 393] tg σ I ri I_9068 ri rq → va_P D vwCl (pq_P t σ (I_9068, J, ri, rj, rq)) H → va_D A (pq_P t σ (I_9068, J, ri, rj, rq)) → va_S A s.heap H locs → lv_has ls 3 [(0, .ref this), (1, .int x_8873)] → W p l e ({ frames := 2, cells := 0, slots := 0, locals := 42 } : Room) s m (List.toArray ([.ref this] : List Value)) below meth c H locs 0 0 Q (F0 m 358 ls []) := by
                    intro H locs ls h_9105 hG hP hD hS hl
                    have uh_9105 := h_9105.1
                    have vh_9105 := h_9105.2
                    refine lv_aload_n hx hb dX12_nextToken_358 rfl (lv_at hl 0 rfl) ?_
                    refine lv_aload_n hx hb dX12_nextToken_359 rfl (lv_at hl 0 rfl) ?_
                    refine pg_f (v := .int (I_9068 391 this)) (C := RX12) (T := TX12) (N := 31) hx hb hts (tw_i inlX12) hown hK hP hL_this hK_this (by decide) rfl 7 (by decide) (hts _ (tw_c tw_830)) rfl dX12_nextToken_360 ?_
                    have h_9106 : rg (I_9068 391 this) 1 300 := (by rw [eI_9068, pq_uf _ _ _ (by decide)]; exact (by rw [eI_8906, pq_us]; exact h_8905))
                    have uh_9106 := h_9106.1
                    have vh_9106 := h_9106.2
                    refine pk_i (va_runV (As := [.int (I_9068 391 this)]) (rest := []) ⟨hx, hb, hml, hown, hts⟩ (s_X12_see l D t σ I_9068 J ri rj rq H.size tg hSH hG.1 this (I_9068 391 this) hL_this hK_this (rg_w h_9106 (by decide))) (cwV 1 hts (tw_V tw_839 tw_840 tw_841 tw_5 tw_842) rfl rfl rfl (by decide +kernel) ⟨Nat.le_of_ble_eq_true rfl, Nat.le_of_ble_eq_true rfl⟩) ⟨pq_blind, pq_recv hK hP hL_this hK_this (by decide) rfl, pq_pre hK hN hP hD⟩ rfl rfl hl.1 rfl (lv_room (Nat.le_of_ble_eq_true rfl)) dX12_nextToken_363 ⟨Nat.le_of_ble_eq_true rfl, Nat.le_of_ble_eq_true rfl⟩) hD hS hA (fun x_9107 σ1 μ1 H locs hw_9108 hP hD hS => ?_)
                    obtain ⟨hu_9109, hp_9112, hr_9111⟩ := hw_9108
                    obtain ⟨hu_9109a, hu_9109b⟩ := Prod.mk.inj hu_9109
                    rw [hu_9109a, hu_9109b] at hP hD
                    have tt_9113 := hp_9112
                    refine lv_bipush (v := 61) hx hb dX12_nextToken_366 (by decide) ?_
                    refine lv_icmp_ne (tgt := 396) hx hb dX12_nextToken_368 (by decide) (fun c_9114 => ?_) (fun c_9114 => ?_)
                    · have tc_9115 : (x_9107).toInt ≠ 61 := fun q => c_9114 (Int32.toInt_inj.mp q)
                      subst hQ
                      exact W.vret hx hb hr (fun t1 ht hW => ⟨⟨(σ, I_9068, J, ri, rj, rq), rfl, ⟨I_9068, J, rfl, hG⟩, by rw [ht]; exact hP, va_K.moved hW.alike hK, hD⟩, hS.F ht⟩) hS.2.2 dX12_nextToken_396
                    · have tc_9116 : (x_9107).toInt = 61 := congrArg Int32.toInt c_9114
                      have h_9117 : rg x_9107 61 61 := rg_and hr_9111 (rg_of_eq c_9114 (rg_k (61 : Int32) 61 rfl)) (by decide)
                      have uh_9117 := h_9117.1
                      have vh_9117 := h_9117.2
                      refine lv_aload_n hx hb dX12_nextToken_371 rfl (lv_at hl 0 rfl) ?_
                      refine lv_dup hx hb dX12_nextToken_372 rfl ?_
                      refine pg_f (v := .int (I_9068 391 this)) (C := RX12) (T := TX12) (N := 31) hx hb hts (tw_i inlX12) hown hK hP hL_this hK_this (by decide) rfl 7 (by decide) (hts _ (tw_c tw_830)) rfl dX12_nextToken_373 ?_
                      refine lv_iconst (v := 1) hx hb dX12_nextToken_376 (by decide) ?_
                      have h_9118 : rg (I_9068 391 this) 0 299 := ⟨by omega, by omega⟩
                      have uh_9118 := h_9118.1
                      have vh_9118 := h_9118.2
                      refine lv_iadd hx hb dX12_nextToken_377 ?_
                      refine lv_topi (fun x_9119 ex_9119 => ?_)
                      have h_9120 : rg x_9119 1 300 := rg_of_eq ex_9119 (rg_add h_9118 (rg_k (1 : Int32) 1 rfl) (by decide))
                      have uh_9120 := h_9120.1
                      have vh_9120 := h_9120.2
                      have tx_9119 : (x_9119).toInt = (I_9068 391 this).toInt + 1 := by rw [ex_9119]; exact i_add_rg (a2 := (I_9068 391 this).toInt) (b2 := 1) rfl rfl h_9118 (rg_k (1 : Int32) 1 rfl) (by decide)
                      refine pp_i (v := x_9119) (ty := .int) (C := RX12) (T := TX12) (N := 31) hx hb hts (tw_i inlX12) tyX12 tyX12_ok nmX12 hown hK hP hD hS hL_this hK_this (by decide) rfl 7 391 (by decide) (hts _ (tw_c tw_830)) rfl (by decide +kernel) rfl rfl (Nat.le_of_ble_eq_true rfl) (ps_391 _ _ _ _ _) dX12_nextToken_378 (fun I_9121 H locs eI_9121 hP hD hS => ?_)
                      have hG := GM.wI hG 391 rfl eI_9121 (rg_w h_9120 (by decide)) (by decide)
                      refine lv_aload_n hx hb dX12_nextToken_381 rfl (lv_at hl 0 rfl) ?_
                      refine lv_iload_n hx hb dX12_nextToken_382 rfl (lv_at hl 1 rfl) ?_
                      refine lv_bipush (v := 60) hx hb dX12_nextToken_383 (by decide) ?_
                      have K_9131 : ∀  (H : Heap) (locs : List Loc) (ls : Array Slot), rg (x_8873) 61 62 → GM [392, 391, 393] tg σ I ri I_9121 ri rq → va_P D vwCl (pq_P t σ (I_9121, J, ri, rj, rq)) H → va_D A (pq_P t σ (I_9121, J, ri, rj, rq)) → va_S A s.heap H locs → lv_has ls 3 [] → W p l e ({ frames := 2, cells := 0, slots := 0, locals := 42 } : Room) s m (List.toArray ([.ref this] : List Value)) below meth c H locs 0 0 Q (F0 m 393 ls [.int 5, .ref this]) := by
                        intro H locs ls h_9133 hG hP hD hS hl
                        have uh_9133 := h_9133.1
                        have vh_9133 := h_9133.2
                        refine pp_i (v := 5) (ty := .int) (C := RX12) (T := TX12) (N := 31) hx hb hts (tw_i inlX12) tyX12 tyX12_ok nmX12 hown hK hP hD hS hL_this hK_this (by decide) rfl 9 393 (by decide) (hts _ (tw_c tw_831)) rfl (by decide +kernel) rfl rfl (Nat.le_of_ble_eq_true rfl) (ps_393 _ _ _ _ _) dX12_nextToken_393 (fun I_9134 H locs eI_9134 hP hD hS => ?_)
                        have hG := GM.wI hG 393 rfl eI_9134 (rg_w (rg_k (5 : Int32) 5 rfl) (by decide)) (by decide)
                        subst hQ
                        exact W.vret hx hb hr (fun t1 ht hW => ⟨⟨(σ, I_9134, J, ri, rj, rq), rfl, ⟨I_9134, J, rfl, hG⟩, by rw [ht]; exact hP, va_K.moved hW.alike hK, hD⟩, hS.F ht⟩) hS.2.2 dX12_nextToken_396
                      have K_9135 : ∀  (H : Heap) (locs : List Loc) (ls : Array Slot), rg (x_8873) 60 60 → GM [392, 391, 393] tg σ I ri I_9121 ri rq → va_P D vwCl (pq_P t σ (I_9121, J, ri, rj, rq)) H → va_D A (pq_P t σ (I_9121, J, ri, rj, rq)) → va_S A s.heap H locs → lv_has ls 3 [] → W p l e ({ frames := 2, cells := 0, slots := 0, locals := 42 } : Room) s m (List.toArray ([.ref this] : List Value)) below meth c H locs 0 0 Q (F0 m 393 ls [.int 4, .ref this]) := by
                        intro H locs ls h_9137 hG hP hD hS hl
                        have uh_9137 := h_9137.1
                        have vh_9137 := h_9137.2
                        refine pp_i (v := 4) (ty := .int) (C := RX12) (T := TX12) (N := 31) hx hb hts (tw_i inlX12) tyX12 tyX12_ok nmX12 hown hK hP hD hS hL_this hK_this (by decide) rfl 9 393 (by decide) (hts _ (tw_c tw_831)) rfl (by decide +kernel) rfl rfl (Nat.le_of_ble_eq_true rfl) (ps_393 _ _ _ _ _) dX12_nextToken_393 (fun I_9138 H locs eI_9138 hP hD hS => ?_)
                        have hG := GM.wI hG 393 rfl eI_9138 (rg_w (rg_k (4 : Int32) 4 rfl) (by decide)) (by decide)
                        subst hQ
                        exact W.vret hx hb hr (fun t1 ht hW => ⟨⟨(σ, I_9138, J, ri, rj, rq), rfl, ⟨I_9138, J, rfl, hG⟩, by rw [ht]; exact hP, va_K.moved hW.alike hK, hD⟩, hS.F ht⟩) hS.2.2 dX12_nextToken_396
                      refine lv_icmp_ne (tgt := 392) hx hb dX12_nextToken_385 (by decide) (fun c_9139 => ?_) (fun c_9139 => ?_)
                      · have tc_9140 : (x_8873).toInt ≠ 60 := fun q => c_9139 (Int32.toInt_inj.mp q)
                        have h_9141 : rg x_8873 61 62 := rg_ne c_9139 h_9105 60 rfl (by decide)
                        have uh_9141 := h_9141.1
                        have vh_9141 := h_9141.2
                        refine lv_iconst (v := 5) hx hb dX12_nextToken_392 (by decide) ?_
                        exact K_9131 _ _ _ (rg_w h_9141 (by decide)) hG hP hD hS (lv_sub hl [] rfl)
                      · have tc_9142 : (x_8873).toInt = 60 := congrArg Int32.toInt c_9139
                        have h_9143 : rg x_8873 60 60 := rg_and h_9105 (rg_of_eq c_9139 (rg_k (60 : Int32) 60 rfl)) (by decide)
                        have uh_9143 := h_9143.1
                        have vh_9143 := h_9143.2
                        refine lv_iconst (v := 4) hx hb dX12_nextToken_388 (by decide) ?_
                        refine lv_goto (tgt := 393) hx hb dX12_nextToken_389 (by decide) ?_
                        exact K_9135 _ _ _ (rg_w h_9143 (by decide)) hG hP hD hS (lv_sub hl [] rfl)
                  refine lv_icmp_eq (tgt := 358) hx hb dX12_nextToken_349 (by decide) (fun c_9144 => ?_) (fun c_9144 => ?_)
                  · have tc_9145 : (x_8873).toInt = 60 := congrArg Int32.toInt c_9144
                    have h_9146 : rg x_8873 60 60 := rg_and h_8882 (rg_of_eq c_9144 (rg_k (60 : Int32) 60 rfl)) (by decide)
                    have uh_9146 := h_9146.1
                    have vh_9146 := h_9146.2
                    exact K_9103 _ _ _ (rg_w h_9146 (by decide)) hG hP hD hS (lv_sub hl [0, 1] rfl)
                  · have tc_9147 : (x_8873).toInt ≠ 60 := fun q => c_9144 (Int32.toInt_inj.mp q)
                    refine lv_iload_n hx hb dX12_nextToken_352 rfl (lv_at hl 1 rfl) ?_
                    refine lv_bipush (v := 62) hx hb dX12_nextToken_353 (by decide) ?_
                    refine lv_icmp_ne (tgt := 396) hx hb dX12_nextToken_355 (by decide) (fun c_9148 => ?_) (fun c_9148 => ?_)
                    · have tc_9149 : (x_8873).toInt ≠ 62 := fun q => c_9148 (Int32.toInt_inj.mp q)
                      subst hQ
                      exact W.vret hx hb hr (fun t1 ht hW => ⟨⟨(σ, I_9068, J, ri, rj, rq), rfl, ⟨I_9068, J, rfl, hG⟩, by rw [ht]; exact hP, va_K.moved hW.alike hK, hD⟩, hS.F ht⟩) hS.2.2 dX12_nextToken_396
                    · have tc_9150 : (x_8873).toInt = 62 := congrArg Int32.toInt c_9148
                      have h_9151 : rg x_8873 62 62 := rg_and h_8882 (rg_of_eq c_9148 (rg_k (62 : Int32) 62 rfl)) (by decide)
                      have uh_9151 := h_9151.1
                      have vh_9151 := h_9151.2
                      exact K_9103 _ _ _ (rg_w h_9151 (by decide)) hG hP hD hS (lv_sub hl [0, 1] rfl)
                refine lv_if_eq (tgt := 342) hx hb dX12_nextToken_335 (by decide) (fun c_9152 => ?_) (fun c_9152 => absurd c_9152 (by decide))
                refine lv_iconst (v := 3) hx hb dX12_nextToken_342 (by decide) ?_
                exact K_9067 _ _ _ hG hP hD hS (lv_sub hl [1, 2] rfl)
              have K_9153 : ∀  (H : Heap) (locs : List Loc) (ls : Array Slot), rg (x_8873) 35 62 → GM [392, 391, 393] tg σ I ri I_8906 ri rq → va_P D vwCl (pq_P t σ (I_8906, J, ri, rj, rq)) H → va_D A (pq_P t σ (I_8906, J, ri, rj, rq)) → va_S A s.heap H locs → lv_has ls 3 [(0, .ref this), (1, .int x_8873)] → W p l e ({ frames := 2, cells := 0, slots := 0, locals := 42 } : Room) s m (List.toArray ([.ref this] : List Value)) below meth c H locs 0 0 Q (F0 m 332 ls [.int 1]) := by
                intro H locs ls h_9155 hG hP hD hS hl
                have uh_9155 := h_9155.1
                have vh_9155 := h_9155.2
                refine lv_istore_n (lv' := [(2, .int 1), (0, .ref this), (1, .int x_8873)]) hx hb dX12_nextToken_332 rfl hl (by decide) rfl (fun ls hl => ?_)
                refine lv_aload_n hx hb dX12_nextToken_333 rfl (lv_at hl 1 rfl) ?_
                refine lv_iload_n hx hb dX12_nextToken_334 rfl (lv_at hl 0 rfl) ?_
                have K_9193 : ∀  (H : Heap) (locs : List Loc) (ls : Array Slot), GM [392, 391, 393] tg σ I ri I_8906 ri rq → va_P D vwCl (pq_P t σ (I_8906, J, ri, rj, rq)) H → va_D A (pq_P t σ (I_8906, J, ri, rj, rq)) → va_S A s.heap H locs → lv_has ls 3 [(0, .ref this), (1, .int x_8873)] → W p l e ({ frames := 2, cells := 0, slots := 0, locals := 42 } : Room) s m (List.toArray ([.ref this] : List Value)) below meth c H locs 0 0 Q (F0 m 343 ls [.int x_8873, .ref this]) := by
                  intro H locs ls hG hP hD hS hl
                  refine pp_i (v := x_8873) (ty := .int) (C := RX12) (T := TX12) (N := 31) hx hb hts (tw_i inlX12) tyX12 tyX12_ok nmX12 hown hK hP hD hS hL_this hK_this (by decide) rfl 9 393 (by decide) (hts _ (tw_c tw_831)) rfl (by decide +kernel) rfl rfl (Nat.le_of_ble_eq_true rfl) (ps_393 _ _ _ _ _) dX12_nextToken_343 (fun I_9194 H locs eI_9194 hP hD hS => ?_)
                  have hG := GM.wI hG 393 rfl eI_9194 (rg_w h_9155 (by decide)) (by decide)
                  refine lv_iload_n hx hb dX12_nextToken_346 rfl (lv_at hl 1 rfl) ?_
                  refine lv_bipush (v := 60) hx hb dX12_nextToken_347 (by decide) ?_
                  have K_9230 : ∀  (H : Heap) (locs : List Loc) (ls : Array Slot), rg (x_8873) 60 62 → GM [392, 391, 393] tg σ I ri I_9194 ri rq → va_P D vwCl (pq_P t σ (I_9194, J, ri, rj, rq)) H → va_D A (pq_P t σ (I_9194, J, ri, rj, rq)) → va_S A s.heap H locs → lv_has ls 3 [(0, .ref this), (1, .int x_8873)] → W p l e ({ frames := 2, cells := 0, slots := 0, locals := 42 } : Room) s m (List.toArray ([.ref this] : List Value)) below meth c H locs 0 0 Q (F0 m 358 ls []) := by
                    intro H locs ls h_9232 hG hP hD hS hl
                    have uh_9232 := h_9232.1
                    have vh_9232 := h_9232.2
                    refine lv_aload_n hx hb dX12_nextToken_358 rfl (lv_at hl 0 rfl) ?_
                    refine lv_aload_n hx hb dX12_nextToken_359 rfl (lv_at hl 0 rfl) ?_
                    refine pg_f (v := .int (I_9194 391 this)) (C := RX12) (T := TX12) (N := 31) hx hb hts (tw_i inlX12) hown hK hP hL_this hK_this (by decide) rfl 7 (by decide) (hts _ (tw_c tw_830)) rfl dX12_nextToken_360 ?_
                    have h_9233 : rg (I_9194 391 this) 1 300 := (by rw [eI_9194, pq_uf _ _ _ (by decide)]; exact (by rw [eI_8906, pq_us]; exact h_8905))
                    have uh_9233 := h_9233.1
                    have vh_9233 := h_9233.2
                    refine pk_i (va_runV (As := [.int (I_9194 391 this)]) (rest := []) ⟨hx, hb, hml, hown, hts⟩ (s_X12_see l D t σ I_9194 J ri rj rq H.size tg hSH hG.1 this (I_9194 391 this) hL_this hK_this (rg_w h_9233 (by decide))) (cwV 1 hts (tw_V tw_839 tw_840 tw_841 tw_5 tw_842) rfl rfl rfl (by decide +kernel) ⟨Nat.le_of_ble_eq_true rfl, Nat.le_of_ble_eq_true rfl⟩) ⟨pq_blind, pq_recv hK hP hL_this hK_this (by decide) rfl, pq_pre hK hN hP hD⟩ rfl rfl hl.1 rfl (lv_room (Nat.le_of_ble_eq_true rfl)) dX12_nextToken_363 ⟨Nat.le_of_ble_eq_true rfl, Nat.le_of_ble_eq_true rfl⟩) hD hS hA (fun x_9234 σ1 μ1 H locs hw_9235 hP hD hS => ?_)
                    obtain ⟨hu_9236, hp_9239, hr_9238⟩ := hw_9235
                    obtain ⟨hu_9236a, hu_9236b⟩ := Prod.mk.inj hu_9236
                    rw [hu_9236a, hu_9236b] at hP hD
                    have tt_9240 := hp_9239
                    refine lv_bipush (v := 61) hx hb dX12_nextToken_366 (by decide) ?_
                    refine lv_icmp_ne (tgt := 396) hx hb dX12_nextToken_368 (by decide) (fun c_9241 => ?_) (fun c_9241 => ?_)
                    · have tc_9242 : (x_9234).toInt ≠ 61 := fun q => c_9241 (Int32.toInt_inj.mp q)
                      subst hQ
                      exact W.vret hx hb hr (fun t1 ht hW => ⟨⟨(σ, I_9194, J, ri, rj, rq), rfl, ⟨I_9194, J, rfl, hG⟩, by rw [ht]; exact hP, va_K.moved hW.alike hK, hD⟩, hS.F ht⟩) hS.2.2 dX12_nextToken_396
                    · have tc_9243 : (x_9234).toInt = 61 := congrArg Int32.toInt c_9241
                      have h_9244 : rg x_9234 61 61 := rg_and hr_9238 (rg_of_eq c_9241 (rg_k (61 : Int32) 61 rfl)) (by decide)
                      have uh_9244 := h_9244.1
                      have vh_9244 := h_9244.2
                      refine lv_aload_n hx hb dX12_nextToken_371 rfl (lv_at hl 0 rfl) ?_
                      refine lv_dup hx hb dX12_nextToken_372 rfl ?_
                      refine pg_f (v := .int (I_9194 391 this)) (C := RX12) (T := TX12) (N := 31) hx hb hts (tw_i inlX12) hown hK hP hL_this hK_this (by decide) rfl 7 (by decide) (hts _ (tw_c tw_830)) rfl dX12_nextToken_373 ?_
                      refine lv_iconst (v := 1) hx hb dX12_nextToken_376 (by decide) ?_
                      have h_9245 : rg (I_9194 391 this) 0 299 := ⟨by omega, by omega⟩
                      have uh_9245 := h_9245.1
                      have vh_9245 := h_9245.2
                      refine lv_iadd hx hb dX12_nextToken_377 ?_
                      refine lv_topi (fun x_9246 ex_9246 => ?_)
                      have h_9247 : rg x_9246 1 300 := rg_of_eq ex_9246 (rg_add h_9245 (rg_k (1 : Int32) 1 rfl) (by decide))
                      have uh_9247 := h_9247.1
                      have vh_9247 := h_9247.2
                      have tx_9246 : (x_9246).toInt = (I_9194 391 this).toInt + 1 := by rw [ex_9246]; exact i_add_rg (a2 := (I_9194 391 this).toInt) (b2 := 1) rfl rfl h_9245 (rg_k (1 : Int32) 1 rfl) (by decide)
                      refine pp_i (v := x_9246) (ty := .int) (C := RX12) (T := TX12) (N := 31) hx hb hts (tw_i inlX12) tyX12 tyX12_ok nmX12 hown hK hP hD hS hL_this hK_this (by decide) rfl 7 391 (by decide) (hts _ (tw_c tw_830)) rfl (by decide +kernel) rfl rfl (Nat.le_of_ble_eq_true rfl) (ps_391 _ _ _ _ _) dX12_nextToken_378 (fun I_9248 H locs eI_9248 hP hD hS => ?_)
                      have hG := GM.wI hG 391 rfl eI_9248 (rg_w h_9247 (by decide)) (by decide)
                      refine lv_aload_n hx hb dX12_nextToken_381 rfl (lv_at hl 0 rfl) ?_
                      refine lv_iload_n hx hb dX12_nextToken_382 rfl (lv_at hl 1 rfl) ?_
                      refine lv_bipush (v := 60) hx hb dX12_nextToken_383 (by decide) ?_
                      have K_9258 : ∀  (H : Heap) (locs : List Loc) (ls : Array Slot), rg (x_8873) 61 62 → GM [392, 391, 393] tg σ I ri I_9248 ri rq → va_P D vwCl (pq_P t σ (I_9248, J, ri, rj, rq)) H → va_D A (pq_P t σ (I_9248, J, ri, rj, rq)) → va_S A s.heap H locs → lv_has ls 3 [] → W p l e ({ frames := 2, cells := 0, slots := 0, locals := 42 } : Room) s m (List.toArray ([.ref this] : List Value)) below meth c H locs 0 0 Q (F0 m 393 ls [.int 5, .ref this]) := by
                        intro H locs ls h_9260 hG hP hD hS hl
                        have uh_9260 := h_9260.1
                        have vh_9260 := h_9260.2
                        refine pp_i (v := 5) (ty := .int) (C := RX12) (T := TX12) (N := 31) hx hb hts (tw_i inlX12) tyX12 tyX12_ok nmX12 hown hK hP hD hS hL_this hK_this (by decide) rfl 9 393 (by decide) (hts _ (tw_c tw_831)) rfl (by decide +kernel) rfl rfl (Nat.le_of_ble_eq_true rfl) (ps_393 _ _ _ _ _) dX12_nextToken_393 (fun I_9261 H locs eI_9261 hP hD hS => ?_)
                        have hG := GM.wI hG 393 rfl eI_9261 (rg_w (rg_k (5 : Int32) 5 rfl) (by decide)) (by decide)
                        subst hQ
                        exact W.vret hx hb hr (fun t1 ht hW => ⟨⟨(σ, I_9261, J, ri, rj, rq), rfl, ⟨I_9261, J, rfl, hG⟩, by rw [ht]; exact hP, va_K.moved hW.alike hK, hD⟩, hS.F ht⟩) hS.2.2 dX12_nextToken_396
                      have K_9262 : ∀  (H : Heap) (locs : List Loc) (ls : Array Slot), rg (x_8873) 60 60 → GM [392, 391, 393] tg σ I ri I_9248 ri rq → va_P D vwCl (pq_P t σ (I_9248, J, ri, rj, rq)) H → va_D A (pq_P t σ (I_9248, J, ri, rj, rq)) → va_S A s.heap H locs → lv_has ls 3 [] → W p l e ({ frames := 2, cells := 0, slots := 0, locals := 42 } : Room) s m (List.toArray ([.ref this] : List Value)) below meth c H locs 0 0 Q (F0 m 393 ls [.int 4, .ref this]) := by
                        intro H locs ls h_9264 hG hP hD hS hl
                        have uh_9264 := h_9264.1
                        have vh_9264 := h_9264.2
                        refine pp_i (v := 4) (ty := .int) (C := RX12) (T := TX12) (N := 31) hx hb hts (tw_i inlX12) tyX12 tyX12_ok nmX12 hown hK hP hD hS hL_this hK_this (by decide) rfl 9 393 (by decide) (hts _ (tw_c tw_831)) rfl (by decide +kernel) rfl rfl (Nat.le_of_ble_eq_true rfl) (ps_393 _ _ _ _ _) dX12_nextToken_393 (fun I_9265 H locs eI_9265 hP hD hS => ?_)
                        have hG := GM.wI hG 393 rfl eI_9265 (rg_w (rg_k (4 : Int32) 4 rfl) (by decide)) (by decide)
                        subst hQ
                        exact W.vret hx hb hr (fun t1 ht hW => ⟨⟨(σ, I_9265, J, ri, rj, rq), rfl, ⟨I_9265, J, rfl, hG⟩, by rw [ht]; exact hP, va_K.moved hW.alike hK, hD⟩, hS.F ht⟩) hS.2.2 dX12_nextToken_396
                      refine lv_icmp_ne (tgt := 392) hx hb dX12_nextToken_385 (by decide) (fun c_9266 => ?_) (fun c_9266 => ?_)
                      · have tc_9267 : (x_8873).toInt ≠ 60 := fun q => c_9266 (Int32.toInt_inj.mp q)
                        have h_9268 : rg x_8873 61 62 := rg_ne c_9266 h_9232 60 rfl (by decide)
                        have uh_9268 := h_9268.1
                        have vh_9268 := h_9268.2
                        refine lv_iconst (v := 5) hx hb dX12_nextToken_392 (by decide) ?_
                        exact K_9258 _ _ _ (rg_w h_9268 (by decide)) hG hP hD hS (lv_sub hl [] rfl)
                      · have tc_9269 : (x_8873).toInt = 60 := congrArg Int32.toInt c_9266
                        have h_9270 : rg x_8873 60 60 := rg_and h_9232 (rg_of_eq c_9266 (rg_k (60 : Int32) 60 rfl)) (by decide)
                        have uh_9270 := h_9270.1
                        have vh_9270 := h_9270.2
                        refine lv_iconst (v := 4) hx hb dX12_nextToken_388 (by decide) ?_
                        refine lv_goto (tgt := 393) hx hb dX12_nextToken_389 (by decide) ?_
                        exact K_9262 _ _ _ (rg_w h_9270 (by decide)) hG hP hD hS (lv_sub hl [] rfl)
                  refine lv_icmp_eq (tgt := 358) hx hb dX12_nextToken_349 (by decide) (fun c_9271 => ?_) (fun c_9271 => ?_)
                  · have tc_9272 : (x_8873).toInt = 60 := congrArg Int32.toInt c_9271
                    have h_9273 : rg x_8873 60 60 := rg_and h_9155 (rg_of_eq c_9271 (rg_k (60 : Int32) 60 rfl)) (by decide)
                    have uh_9273 := h_9273.1
                    have vh_9273 := h_9273.2
                    exact K_9230 _ _ _ (rg_w h_9273 (by decide)) hG hP hD hS (lv_sub hl [0, 1] rfl)
                  · have tc_9274 : (x_8873).toInt ≠ 60 := fun q => c_9271 (Int32.toInt_inj.mp q)
                    refine lv_iload_n hx hb dX12_nextToken_352 rfl (lv_at hl 1 rfl) ?_
                    refine lv_bipush (v := 62) hx hb dX12_nextToken_353 (by decide) ?_
                    refine lv_icmp_ne (tgt := 396) hx hb dX12_nextToken_355 (by decide) (fun c_9275 => ?_) (fun c_9275 => ?_)
                    · have tc_9276 : (x_8873).toInt ≠ 62 := fun q => c_9275 (Int32.toInt_inj.mp q)
                      have h_9277 : rg x_8873 35 61 := rg_ne c_9275 h_9155 62 rfl (by decide)
                      have uh_9277 := h_9277.1
                      have vh_9277 := h_9277.2
                      subst hQ
                      exact W.vret hx hb hr (fun t1 ht hW => ⟨⟨(σ, I_9194, J, ri, rj, rq), rfl, ⟨I_9194, J, rfl, hG⟩, by rw [ht]; exact hP, va_K.moved hW.alike hK, hD⟩, hS.F ht⟩) hS.2.2 dX12_nextToken_396
                    · have tc_9278 : (x_8873).toInt = 62 := congrArg Int32.toInt c_9275
                      have h_9279 : rg x_8873 62 62 := rg_and h_9155 (rg_of_eq c_9275 (rg_k (62 : Int32) 62 rfl)) (by decide)
                      have uh_9279 := h_9279.1
                      have vh_9279 := h_9279.2
                      exact K_9230 _ _ _ (rg_w h_9279 (by decide)) hG hP hD hS (lv_sub hl [0, 1] rfl)
                refine lv_if_eq (tgt := 342) hx hb dX12_nextToken_335 (by decide) (fun c_9280 => absurd c_9280 (by decide)) (fun c_9280 => ?_)
                refine lv_iload_n hx hb dX12_nextToken_338 rfl (lv_at hl 2 rfl) ?_
                refine lv_goto (tgt := 343) hx hb dX12_nextToken_339 (by decide) ?_
                exact K_9193 _ _ _ hG hP hD hS (lv_sub hl [1, 2] rfl)
              have K_9281 : ∀  (H : Heap) (locs : List Loc) (ls : Array Slot), rg (x_8873) 35 62 → GM [392, 391, 393] tg σ I ri I_8906 ri rq → va_P D vwCl (pq_P t σ (I_8906, J, ri, rj, rq)) H → va_D A (pq_P t σ (I_8906, J, ri, rj, rq)) → va_S A s.heap H locs → lv_has ls 3 [(0, .ref this), (1, .int x_8873)] → W p l e ({ frames := 2, cells := 0, slots := 0, locals := 42 } : Room) s m (List.toArray ([.ref this] : List Value)) below meth c H locs 0 0 Q (F0 m 327 ls []) := by
                intro H locs ls h_9283 hG hP hD hS hl
                have uh_9283 := h_9283.1
                have vh_9283 := h_9283.2
                refine lv_iconst (v := 1) hx hb dX12_nextToken_327 (by decide) ?_
                refine lv_goto (tgt := 332) hx hb dX12_nextToken_328 (by decide) ?_
                exact K_9153 _ _ _ (rg_w h_9283 (by decide)) hG hP hD hS (lv_sub hl [0, 1] rfl)
              refine lv_icmp_eq (tgt := 327) hx hb dX12_nextToken_258 (by decide) (fun c_9284 => ?_) (fun c_9284 => ?_)
              · have tc_9285 : (x_8873).toInt = 60 := congrArg Int32.toInt c_9284
                have h_9286 : rg x_8873 60 60 := rg_and h_8882 (rg_of_eq c_9284 (rg_k (60 : Int32) 60 rfl)) (by decide)
                have uh_9286 := h_9286.1
                have vh_9286 := h_9286.2
                exact K_9281 _ _ _ (rg_w h_9286 (by decide)) hG hP hD hS (lv_sub hl [1, 0] rfl)
              · have tc_9287 : (x_8873).toInt ≠ 60 := fun q => c_9284 (Int32.toInt_inj.mp q)
                refine lv_iload_n hx hb dX12_nextToken_261 rfl (lv_at hl 0 rfl) ?_
                refine lv_bipush (v := 62) hx hb dX12_nextToken_262 (by decide) ?_
                refine lv_icmp_eq (tgt := 327) hx hb dX12_nextToken_264 (by decide) (fun c_9288 => ?_) (fun c_9288 => ?_)
                · have tc_9289 : (x_8873).toInt = 62 := congrArg Int32.toInt c_9288
                  have h_9290 : rg x_8873 62 62 := rg_and h_8882 (rg_of_eq c_9288 (rg_k (62 : Int32) 62 rfl)) (by decide)
                  have uh_9290 := h_9290.1
                  have vh_9290 := h_9290.2
                  exact K_9281 _ _ _ (rg_w h_9290 (by decide)) hG hP hD hS (lv_sub hl [1, 0] rfl)
                · have tc_9291 : (x_8873).toInt ≠ 62 := fun q => c_9288 (Int32.toInt_inj.mp q)
                  refine lv_iload_n hx hb dX12_nextToken_267 rfl (lv_at hl 0 rfl) ?_
                  refine lv_bipush (v := 61) hx hb dX12_nextToken_268 (by decide) ?_
                  refine lv_icmp_eq (tgt := 327) hx hb dX12_nextToken_270 (by decide) (fun c_9292 => ?_) (fun c_9292 => ?_)
                  · have tc_9293 : (x_8873).toInt = 61 := congrArg Int32.toInt c_9292
                    have h_9294 : rg x_8873 61 61 := rg_and h_8882 (rg_of_eq c_9292 (rg_k (61 : Int32) 61 rfl)) (by decide)
                    have uh_9294 := h_9294.1
                    have vh_9294 := h_9294.2
                    exact K_9281 _ _ _ (rg_w h_9294 (by decide)) hG hP hD hS (lv_sub hl [1, 0] rfl)
                  · have tc_9295 : (x_8873).toInt ≠ 61 := fun q => c_9292 (Int32.toInt_inj.mp q)
                    refine lv_iload_n hx hb dX12_nextToken_273 rfl (lv_at hl 0 rfl) ?_
                    refine lv_bipush (v := 35) hx hb dX12_nextToken_274 (by decide) ?_
                    refine lv_icmp_eq (tgt := 327) hx hb dX12_nextToken_276 (by decide) (fun c_9296 => ?_) (fun c_9296 => ?_)
                    · have tc_9297 : (x_8873).toInt = 35 := congrArg Int32.toInt c_9296
                      have h_9298 : rg x_8873 35 35 := rg_and h_8882 (rg_of_eq c_9296 (rg_k (35 : Int32) 35 rfl)) (by decide)
                      have uh_9298 := h_9298.1
                      have vh_9298 := h_9298.2
                      exact K_9281 _ _ _ (rg_w h_9298 (by decide)) hG hP hD hS (lv_sub hl [1, 0] rfl)
                    · have tc_9299 : (x_8873).toInt ≠ 35 := fun q => c_9296 (Int32.toInt_inj.mp q)
                      refine lv_iload_n hx hb dX12_nextToken_279 rfl (lv_at hl 0 rfl) ?_
                      refine lv_bipush (v := 43) hx hb dX12_nextToken_280 (by decide) ?_
                      refine lv_icmp_eq (tgt := 327) hx hb dX12_nextToken_282 (by decide) (fun c_9300 => ?_) (fun c_9300 => ?_)
                      · have tc_9301 : (x_8873).toInt = 43 := congrArg Int32.toInt c_9300
                        have h_9302 : rg x_8873 43 43 := rg_and h_8882 (rg_of_eq c_9300 (rg_k (43 : Int32) 43 rfl)) (by decide)
                        have uh_9302 := h_9302.1
                        have vh_9302 := h_9302.2
                        exact K_9281 _ _ _ (rg_w h_9302 (by decide)) hG hP hD hS (lv_sub hl [1, 0] rfl)
                      · have tc_9303 : (x_8873).toInt ≠ 43 := fun q => c_9300 (Int32.toInt_inj.mp q)
                        refine lv_iload_n hx hb dX12_nextToken_285 rfl (lv_at hl 0 rfl) ?_
                        refine lv_bipush (v := 45) hx hb dX12_nextToken_286 (by decide) ?_
                        refine lv_icmp_eq (tgt := 327) hx hb dX12_nextToken_288 (by decide) (fun c_9304 => ?_) (fun c_9304 => ?_)
                        · have tc_9305 : (x_8873).toInt = 45 := congrArg Int32.toInt c_9304
                          have h_9306 : rg x_8873 45 45 := rg_and h_8882 (rg_of_eq c_9304 (rg_k (45 : Int32) 45 rfl)) (by decide)
                          have uh_9306 := h_9306.1
                          have vh_9306 := h_9306.2
                          exact K_9281 _ _ _ (rg_w h_9306 (by decide)) hG hP hD hS (lv_sub hl [1, 0] rfl)
                        · have tc_9307 : (x_8873).toInt ≠ 45 := fun q => c_9304 (Int32.toInt_inj.mp q)
                          refine lv_iload_n hx hb dX12_nextToken_291 rfl (lv_at hl 0 rfl) ?_
                          refine lv_bipush (v := 42) hx hb dX12_nextToken_292 (by decide) ?_
                          refine lv_icmp_eq (tgt := 327) hx hb dX12_nextToken_294 (by decide) (fun c_9308 => ?_) (fun c_9308 => ?_)
                          · have tc_9309 : (x_8873).toInt = 42 := congrArg Int32.toInt c_9308
                            have h_9310 : rg x_8873 42 42 := rg_and h_8882 (rg_of_eq c_9308 (rg_k (42 : Int32) 42 rfl)) (by decide)
                            have uh_9310 := h_9310.1
                            have vh_9310 := h_9310.2
                            exact K_9281 _ _ _ (rg_w h_9310 (by decide)) hG hP hD hS (lv_sub hl [1, 0] rfl)
                          · have tc_9311 : (x_8873).toInt ≠ 42 := fun q => c_9308 (Int32.toInt_inj.mp q)
                            refine lv_iload_n hx hb dX12_nextToken_297 rfl (lv_at hl 0 rfl) ?_
                            refine lv_bipush (v := 47) hx hb dX12_nextToken_298 (by decide) ?_
                            refine lv_icmp_eq (tgt := 327) hx hb dX12_nextToken_300 (by decide) (fun c_9312 => ?_) (fun c_9312 => ?_)
                            · have tc_9313 : (x_8873).toInt = 47 := congrArg Int32.toInt c_9312
                              have h_9314 : rg x_8873 47 47 := rg_and h_8882 (rg_of_eq c_9312 (rg_k (47 : Int32) 47 rfl)) (by decide)
                              have uh_9314 := h_9314.1
                              have vh_9314 := h_9314.2
                              exact K_9281 _ _ _ (rg_w h_9314 (by decide)) hG hP hD hS (lv_sub hl [1, 0] rfl)
                            · have tc_9315 : (x_8873).toInt ≠ 47 := fun q => c_9312 (Int32.toInt_inj.mp q)
                              refine lv_iload_n hx hb dX12_nextToken_303 rfl (lv_at hl 0 rfl) ?_
                              refine lv_bipush (v := 40) hx hb dX12_nextToken_304 (by decide) ?_
                              refine lv_icmp_eq (tgt := 327) hx hb dX12_nextToken_306 (by decide) (fun c_9316 => ?_) (fun c_9316 => ?_)
                              · have tc_9317 : (x_8873).toInt = 40 := congrArg Int32.toInt c_9316
                                have h_9318 : rg x_8873 40 40 := rg_and h_8882 (rg_of_eq c_9316 (rg_k (40 : Int32) 40 rfl)) (by decide)
                                have uh_9318 := h_9318.1
                                have vh_9318 := h_9318.2
                                exact K_9281 _ _ _ (rg_w h_9318 (by decide)) hG hP hD hS (lv_sub hl [1, 0] rfl)
                              · have tc_9319 : (x_8873).toInt ≠ 40 := fun q => c_9316 (Int32.toInt_inj.mp q)
                                refine lv_iload_n hx hb dX12_nextToken_309 rfl (lv_at hl 0 rfl) ?_
                                refine lv_bipush (v := 41) hx hb dX12_nextToken_310 (by decide) ?_
                                refine lv_icmp_eq (tgt := 327) hx hb dX12_nextToken_312 (by decide) (fun c_9320 => ?_) (fun c_9320 => ?_)
                                · have tc_9321 : (x_8873).toInt = 41 := congrArg Int32.toInt c_9320
                                  have h_9322 : rg x_8873 41 41 := rg_and h_8882 (rg_of_eq c_9320 (rg_k (41 : Int32) 41 rfl)) (by decide)
                                  have uh_9322 := h_9322.1
                                  have vh_9322 := h_9322.2
                                  exact K_9281 _ _ _ (rg_w h_9322 (by decide)) hG hP hD hS (lv_sub hl [1, 0] rfl)
                                · have tc_9323 : (x_8873).toInt ≠ 41 := fun q => c_9320 (Int32.toInt_inj.mp q)
                                  refine lv_iload_n hx hb dX12_nextToken_315 rfl (lv_at hl 0 rfl) ?_
                                  refine lv_bipush (v := 44) hx hb dX12_nextToken_316 (by decide) ?_
                                  refine lv_icmp_eq (tgt := 327) hx hb dX12_nextToken_318 (by decide) (fun c_9324 => ?_) (fun c_9324 => ?_)
                                  · have tc_9325 : (x_8873).toInt = 44 := congrArg Int32.toInt c_9324
                                    have h_9326 : rg x_8873 44 44 := rg_and h_8882 (rg_of_eq c_9324 (rg_k (44 : Int32) 44 rfl)) (by decide)
                                    have uh_9326 := h_9326.1
                                    have vh_9326 := h_9326.2
                                    exact K_9281 _ _ _ (rg_w h_9326 (by decide)) hG hP hD hS (lv_sub hl [1, 0] rfl)
                                  · have tc_9327 : (x_8873).toInt ≠ 44 := fun q => c_9324 (Int32.toInt_inj.mp q)
                                    refine lv_iload_n hx hb dX12_nextToken_321 rfl (lv_at hl 0 rfl) ?_
                                    refine lv_bipush (v := 59) hx hb dX12_nextToken_322 (by decide) ?_
                                    refine lv_icmp_ne (tgt := 331) hx hb dX12_nextToken_324 (by decide) (fun c_9328 => ?_) (fun c_9328 => ?_)
                                    · have tc_9329 : (x_8873).toInt ≠ 59 := fun q => c_9328 (Int32.toInt_inj.mp q)
                                      refine lv_iconst (v := 0) hx hb dX12_nextToken_331 (by decide) ?_
                                      exact K_9030 _ _ _ hG hP hD hS (lv_sub hl [1, 0] rfl)
                                    · have tc_9330 : (x_8873).toInt = 59 := congrArg Int32.toInt c_9328
                                      have h_9331 : rg x_8873 59 59 := rg_and h_8882 (rg_of_eq c_9328 (rg_k (59 : Int32) 59 rfl)) (by decide)
                                      have uh_9331 := h_9331.1
                                      have vh_9331 := h_9331.2
                                      exact K_9281 _ _ _ (rg_w h_9331 (by decide)) hG hP hD hS (lv_sub hl [1, 0] rfl)
            · have f_9332 := (hr_8897.resolve_right (fun q => c_8899 q.1)).2
              have uf_9332 := f_9332.1
              have vf_9332 := f_9332.2
              have tc_9333 : (x_8893).toInt ≠ 0 := fun q => c_8899 (Int32.toInt_inj.mp q)
              have h_9334 : rg x_8893 1 1 := rg_ne c_8899 h_8898 0 rfl (by decide)
              have uh_9334 := h_9334.1
              have vh_9334 := h_9334.2
              refine lv_aload_n hx hb dX12_nextToken_151 rfl (lv_at hl 1 rfl) ?_
              refine lv_iconst (v := 2) hx hb dX12_nextToken_152 (by decide) ?_
              refine pp_i (v := 2) (ty := .int) (C := RX12) (T := TX12) (N := 31) hx hb hts (tw_i inlX12) tyX12 tyX12_ok nmX12 hown hK hP hD hS hL_this hK_this (by decide) rfl 9 393 (by decide) (hts _ (tw_c tw_831)) rfl (by decide +kernel) rfl rfl (Nat.le_of_ble_eq_true rfl) (ps_393 _ _ _ _ _) dX12_nextToken_153 (fun I_9335 H locs eI_9335 hP hD hS => ?_)
              have hG := GM.wI hG 393 rfl eI_9335 (rg_w (rg_k (2 : Int32) 2 rfl) (by decide)) (by decide)
              refine lv_aload_n hx hb dX12_nextToken_156 rfl (lv_at hl 1 rfl) ?_
              refine lv_lconst (v := 0) hx hb dX12_nextToken_157 (by decide) ?_
              refine pp_l (v := 0) (C := RX12) (T := TX12) (N := 31) hx hb hts (tw_i inlX12) tyX12 tyX12_ok nmX12 hown hK hP hD hS hL_this hK_this (by decide) rfl 11 395 (by decide) (hts _ (tw_c tw_838)) rfl (by decide +kernel) (Nat.le_of_ble_eq_true rfl) (ps_395 _ _ _ _ _) dX12_nextToken_158 (fun J_9336 H locs eJ_9336 hP hD hS => ?_)
              have L_9561 : ∀ (n_9560 : Nat) (I_9503 : Nat → Nat → Int32) (J_9504 : Nat → Nat → Int64) (H : Heap) (locs : List Loc) (ls : Array Slot), (300 - (I_9503 391 this).toInt).toNat < n_9560 → GM [392, 391, 393] tg σ I ri I_9503 ri rq → va_P D vwCl (pq_P t σ (I_9503, J_9504, ri, rj, rq)) H → va_D A (pq_P t σ (I_9503, J_9504, ri, rj, rq)) → va_S A s.heap H locs → lv_has ls 3 [(0, .ref this)] → W p l e ({ frames := 2, cells := 0, slots := 0, locals := 42 } : Room) s m (List.toArray ([.ref this] : List Value)) below meth c H locs 0 0 Q (F0 m 161 ls []) := by
                intro n_9560
                induction n_9560 with
                | zero => intro I_9503 J_9504 H locs ls hm_9559 hG hP hD hS hl; exact absurd hm_9559 (Nat.not_lt_zero _)
                | succ n_9560 ih_9562 =>
                  intro I_9503 J_9504 H locs ls hm_9559 hG hP hD hS hl
                  refine lv_aload_n hx hb dX12_nextToken_161 rfl (lv_at hl 0 rfl) ?_
                  refine lv_aload_n hx hb dX12_nextToken_162 rfl (lv_at hl 0 rfl) ?_
                  refine pg_f (v := .int (I_9503 391 this)) (C := RX12) (T := TX12) (N := 31) hx hb hts (tw_i inlX12) hown hK hP hL_this hK_this (by decide) rfl 7 (by decide) (hts _ (tw_c tw_830)) rfl dX12_nextToken_163 ?_
                  have h_9563 : rg (I_9503 391 this) 0 300 := GM.rI hG 391 rfl
                  have uh_9563 := h_9563.1
                  have vh_9563 := h_9563.2
                  refine pk_i (va_runV (As := [.int (I_9503 391 this)]) (rest := []) ⟨hx, hb, hml, hown, hts⟩ (s_X12_see l D t σ I_9503 J_9504 ri rj rq H.size tg hSH hG.1 this (I_9503 391 this) hL_this hK_this (rg_w h_9563 (by decide))) (cwV 1 hts (tw_V tw_839 tw_840 tw_841 tw_5 tw_842) rfl rfl rfl (by decide +kernel) ⟨Nat.le_of_ble_eq_true rfl, Nat.le_of_ble_eq_true rfl⟩) ⟨pq_blind, pq_recv hK hP hL_this hK_this (by decide) rfl, pq_pre hK hN hP hD⟩ rfl rfl hl.1 rfl (lv_room (Nat.le_of_ble_eq_true rfl)) dX12_nextToken_166 ⟨Nat.le_of_ble_eq_true rfl, Nat.le_of_ble_eq_true rfl⟩) hD hS hA (fun x_9564 σ1 μ1 H locs hw_9565 hP hD hS => ?_)
                  obtain ⟨hu_9566, hp_9569, hr_9568⟩ := hw_9565
                  obtain ⟨hu_9566a, hu_9566b⟩ := Prod.mk.inj hu_9566
                  rw [hu_9566a, hu_9566b] at hP hD
                  have tt_9570 := hp_9569
                  refine pk_i (va_runS (As := [.int x_9564]) (rest := []) ⟨hx, hb, hml, hown, hts⟩ (s_X12_isLetter l D t σ I_9503 J_9504 ri rj rq H.size tg hSH hG.1 x_9564) (va_cwS 1 hts (tw_S tw_846 tw_847 tw_5 tw_848) rfl rfl rfl (by decide +kernel) ⟨Nat.le_of_ble_eq_true rfl, Nat.le_of_ble_eq_true rfl⟩) ⟨pq_blind, pq_pre hK hN hP hD⟩ rfl rfl hl.1 rfl (lv_room (Nat.le_of_ble_eq_true rfl)) dX12_nextToken_169 ⟨Nat.le_of_ble_eq_true rfl, Nat.le_of_ble_eq_true rfl⟩) hD hS hA (fun x_9571 σ1 μ1 H locs hw_9572 hP hD hS => ?_)
                  obtain ⟨hu_9573, hr_9575⟩ := hw_9572
                  obtain ⟨hu_9573a, hu_9573b⟩ := Prod.mk.inj hu_9573
                  rw [hu_9573a, hu_9573b] at hP hD
                  have h_9576 : rg x_9571 0 1 := by rcases hr_9575 with ⟨q, -⟩ | ⟨q, -⟩ <;> rw [q] <;> exact ⟨by decide, by decide⟩
                  have uh_9576 := h_9576.1
                  have vh_9576 := h_9576.2
                  refine lv_if_eq (tgt := 223) hx hb dX12_nextToken_172 (by decide) (fun c_9577 => ?_) (fun c_9577 => ?_)
                  · have f_9578 := (hr_9575.resolve_left (fun q => absurd (q.1.symm.trans c_9577) (by decide))).2
                    have tc_9579 : (x_9571).toInt = 0 := congrArg Int32.toInt c_9577
                    have h_9580 : rg x_9571 0 0 := rg_and h_9576 (rg_of_eq c_9577 (rg_k (0 : Int32) 0 rfl)) (by decide)
                    have uh_9580 := h_9580.1
                    have vh_9580 := h_9580.2
                    refine lv_aload_n hx hb dX12_nextToken_223 rfl (lv_at hl 0 rfl) ?_
                    refine pg_f (v := .int (I_9503 391 this)) (C := RX12) (T := TX12) (N := 31) hx hb hts (tw_i inlX12) hown hK hP hL_this hK_this (by decide) rfl 7 (by decide) (hts _ (tw_c tw_830)) rfl dX12_nextToken_224 ?_
                    refine lv_aload_n hx hb dX12_nextToken_227 rfl (lv_at hl 0 rfl) ?_
                    refine pg_f (v := .int (I_9503 392 this)) (C := RX12) (T := TX12) (N := 31) hx hb hts (tw_i inlX12) hown hK hP hL_this hK_this (by decide) rfl 8 (by decide) (hts _ (tw_c tw_820)) rfl dX12_nextToken_228 ?_
                    have h_9581 : rg (I_9503 392 this) 0 300 := GM.rI hG 392 rfl
                    have uh_9581 := h_9581.1
                    have vh_9581 := h_9581.2
                    refine lv_isub hx hb dX12_nextToken_231 ?_
                    refine lv_topi (fun x_9582 ex_9582 => ?_)
                    have h_9583 : rg x_9582 (-300) 300 := rg_of_eq ex_9582 (rg_sub h_9563 h_9581 (by decide))
                    have uh_9583 := h_9583.1
                    have vh_9583 := h_9583.2
                    have tx_9582 : (x_9582).toInt = (I_9503 391 this).toInt - (I_9503 392 this).toInt := by rw [ex_9582]; exact i_sub_rg (a2 := (I_9503 391 this).toInt) (b2 := (I_9503 392 this).toInt) rfl rfl h_9563 h_9581 (by decide)
                    refine lv_bipush (v := 7) hx hb dX12_nextToken_232 (by decide) ?_
                    refine lv_icmp_le (tgt := 396) hx hb dX12_nextToken_234 (by decide) (fun c_9584 => ?_) (fun c_9584 => ?_)
                    · have tc_9585 : (x_9582).toInt ≤ 7 := Int32.le_iff_toInt_le.mp c_9584
                      have h_9586 : rg x_9582 (-300) 7 := rg_le1 c_9584 h_9583 (rg_k (7 : Int32) 7 rfl) (by decide)
                      have uh_9586 := h_9586.1
                      have vh_9586 := h_9586.2
                      subst hQ
                      exact W.vret hx hb hr (fun t1 ht hW => ⟨⟨(σ, I_9503, J_9504, ri, rj, rq), rfl, ⟨I_9503, J_9504, rfl, hG⟩, by rw [ht]; exact hP, va_K.moved hW.alike hK, hD⟩, hS.F ht⟩) hS.2.2 dX12_nextToken_396
                    · have tc_9587 : 7 < (x_9582).toInt := Int32.lt_iff_toInt_lt.mp (nle c_9584)
                      have h_9588 : rg x_9582 8 300 := rg_lt2 (nle c_9584) (rg_k (7 : Int32) 7 rfl) h_9583 (by decide)
                      have uh_9588 := h_9588.1
                      have vh_9588 := h_9588.2
                      refine lv_aload_n hx hb dX12_nextToken_237 rfl (lv_at hl 0 rfl) ?_
                      refine lv_lconst (v := 0) hx hb dX12_nextToken_238 (by decide) ?_
                      refine pp_l (v := 0) (C := RX12) (T := TX12) (N := 31) hx hb hts (tw_i inlX12) tyX12 tyX12_ok nmX12 hown hK hP hD hS hL_this hK_this (by decide) rfl 11 395 (by decide) (hts _ (tw_c tw_838)) rfl (by decide +kernel) (Nat.le_of_ble_eq_true rfl) (ps_395 _ _ _ _ _) dX12_nextToken_239 (fun J_9589 H locs eJ_9589 hP hD hS => ?_)
                      refine lv_goto (tgt := 396) hx hb dX12_nextToken_242 (by decide) ?_
                      subst hQ
                      exact W.vret hx hb hr (fun t1 ht hW => ⟨⟨(σ, I_9503, J_9589, ri, rj, rq), rfl, ⟨I_9503, J_9589, rfl, hG⟩, by rw [ht]; exact hP, va_K.moved hW.alike hK, hD⟩, hS.F ht⟩) hS.2.2 dX12_nextToken_396
                  · have f_9590 := (hr_9575.resolve_right (fun q => c_9577 q.1)).2
                    have uf_9590 := f_9590.1
                    have vf_9590 := f_9590.2
                    have tc_9591 : (x_9571).toInt ≠ 0 := fun q => c_9577 (Int32.toInt_inj.mp q)
                    have h_9592 : rg x_9571 1 1 := rg_ne c_9577 h_9576 0 rfl (by decide)
                    have uh_9592 := h_9592.1
                    have vh_9592 := h_9592.2
                    refine lv_aload_n hx hb dX12_nextToken_175 rfl (lv_at hl 0 rfl) ?_
                    refine pg_f (v := .int (I_9503 391 this)) (C := RX12) (T := TX12) (N := 31) hx hb hts (tw_i inlX12) hown hK hP hL_this hK_this (by decide) rfl 7 (by decide) (hts _ (tw_c tw_830)) rfl dX12_nextToken_176 ?_
                    refine lv_aload_n hx hb dX12_nextToken_179 rfl (lv_at hl 0 rfl) ?_
                    refine pg_f (v := .int (I_9503 392 this)) (C := RX12) (T := TX12) (N := 31) hx hb hts (tw_i inlX12) hown hK hP hL_this hK_this (by decide) rfl 8 (by decide) (hts _ (tw_c tw_820)) rfl dX12_nextToken_180 ?_
                    have h_9593 : rg (I_9503 392 this) 0 300 := GM.rI hG 392 rfl
                    have uh_9593 := h_9593.1
                    have vh_9593 := h_9593.2
                    refine lv_isub hx hb dX12_nextToken_183 ?_
                    refine lv_topi (fun x_9594 ex_9594 => ?_)
                    have h_9595 : rg x_9594 (-300) 300 := rg_of_eq ex_9594 (rg_sub h_9563 h_9593 (by decide))
                    have uh_9595 := h_9595.1
                    have vh_9595 := h_9595.2
                    have tx_9594 : (x_9594).toInt = (I_9503 391 this).toInt - (I_9503 392 this).toInt := by rw [ex_9594]; exact i_sub_rg (a2 := (I_9503 391 this).toInt) (b2 := (I_9503 392 this).toInt) rfl rfl h_9563 h_9593 (by decide)
                    refine lv_bipush (v := 7) hx hb dX12_nextToken_184 (by decide) ?_
                    have K_9617 : ∀  (J_9612 : Nat → Nat → Int64) (H : Heap) (locs : List Loc) (ls : Array Slot), GM [392, 391, 393] tg σ I ri I_9503 ri rq → va_P D vwCl (pq_P t σ (I_9503, J_9612, ri, rj, rq)) H → va_D A (pq_P t σ (I_9503, J_9612, ri, rj, rq)) → va_S A s.heap H locs → lv_has ls 3 [(0, .ref this)] → W p l e ({ frames := 2, cells := 0, slots := 0, locals := 42 } : Room) s m (List.toArray ([.ref this] : List Value)) below meth c H locs 0 0 Q (F0 m 210 ls []) := by
                      intro J_9612 H locs ls hG hP hD hS hl
                      refine lv_aload_n hx hb dX12_nextToken_210 rfl (lv_at hl 0 rfl) ?_
                      refine lv_dup hx hb dX12_nextToken_211 rfl ?_
                      refine pg_f (v := .int (I_9503 391 this)) (C := RX12) (T := TX12) (N := 31) hx hb hts (tw_i inlX12) hown hK hP hL_this hK_this (by decide) rfl 7 (by decide) (hts _ (tw_c tw_830)) rfl dX12_nextToken_212 ?_
                      refine lv_iconst (v := 1) hx hb dX12_nextToken_215 (by decide) ?_
                      have h_9618 : rg (I_9503 391 this) 0 299 := ⟨by omega, by omega⟩
                      have uh_9618 := h_9618.1
                      have vh_9618 := h_9618.2
                      refine lv_iadd hx hb dX12_nextToken_216 ?_
                      refine lv_topi (fun x_9619 ex_9619 => ?_)
                      have h_9620 : rg x_9619 1 300 := rg_of_eq ex_9619 (rg_add h_9618 (rg_k (1 : Int32) 1 rfl) (by decide))
                      have uh_9620 := h_9620.1
                      have vh_9620 := h_9620.2
                      have tx_9619 : (x_9619).toInt = (I_9503 391 this).toInt + 1 := by rw [ex_9619]; exact i_add_rg (a2 := (I_9503 391 this).toInt) (b2 := 1) rfl rfl h_9618 (rg_k (1 : Int32) 1 rfl) (by decide)
                      refine pp_i (v := x_9619) (ty := .int) (C := RX12) (T := TX12) (N := 31) hx hb hts (tw_i inlX12) tyX12 tyX12_ok nmX12 hown hK hP hD hS hL_this hK_this (by decide) rfl 7 391 (by decide) (hts _ (tw_c tw_830)) rfl (by decide +kernel) rfl rfl (Nat.le_of_ble_eq_true rfl) (ps_391 _ _ _ _ _) dX12_nextToken_217 (fun I_9621 H locs eI_9621 hP hD hS => ?_)
                      have hG := GM.wI hG 391 rfl eI_9621 (rg_w h_9620 (by decide)) (by decide)
                      refine lv_goto (tgt := 161) hx hb dX12_nextToken_220 (by decide) ?_
                      exact ih_9562 I_9621 J_9612 _ _ _ (ms_fu_iadd hm_9559 (by rw [eI_9621]; exact pq_us _ _ _ _) ex_9619 rfl (kk := 1) rfl (by decide) h_9618 (by decide) (by decide)) hG hP hD hS (lv_sub hl [0] rfl)
                    refine lv_icmp_ge (tgt := 210) hx hb dX12_nextToken_186 (by decide) (fun c_9622 => ?_) (fun c_9622 => ?_)
                    · have tc_9623 : 7 ≤ (x_9594).toInt := Int32.le_iff_toInt_le.mp c_9622
                      have h_9624 : rg x_9594 7 300 := rg_le2 c_9622 (rg_k (7 : Int32) 7 rfl) h_9595 (by decide)
                      have uh_9624 := h_9624.1
                      have vh_9624 := h_9624.2
                      exact K_9617 J_9504 _ _ _ hG hP hD hS (lv_sub hl [0] rfl)
                    · have tc_9625 : (x_9594).toInt < 7 := Int32.lt_iff_toInt_lt.mp (nle c_9622)
                      have h_9626 : rg x_9594 (-300) 6 := rg_lt1 (nle c_9622) h_9595 (rg_k (7 : Int32) 7 rfl) (by decide)
                      have uh_9626 := h_9626.1
                      have vh_9626 := h_9626.2
                      refine lv_aload_n hx hb dX12_nextToken_189 rfl (lv_at hl 0 rfl) ?_
                      refine lv_aload_n hx hb dX12_nextToken_190 rfl (lv_at hl 0 rfl) ?_
                      refine pg_f (v := .long (J_9504 395 this)) (C := RX12) (T := TX12) (N := 31) hx hb hts (tw_i inlX12) hown hK hP hL_this hK_this (by decide) rfl 11 (by decide) (hts _ (tw_c tw_838)) rfl dX12_nextToken_191 ?_
                      refine lv_bipush (v := 8) hx hb dX12_nextToken_194 (by decide) ?_
                      refine lv_lshl hx hb dX12_nextToken_196 rfl ?_
                      refine lv_topl (fun x_9627 ex_9627 => ?_)
                      refine lv_aload_n hx hb dX12_nextToken_197 rfl (lv_at hl 0 rfl) ?_
                      refine lv_aload_n hx hb dX12_nextToken_198 rfl (lv_at hl 0 rfl) ?_
                      refine pg_f (v := .int (I_9503 391 this)) (C := RX12) (T := TX12) (N := 31) hx hb hts (tw_i inlX12) hown hK hP hL_this hK_this (by decide) rfl 7 (by decide) (hts _ (tw_c tw_830)) rfl dX12_nextToken_199 ?_
                      refine pk_i (va_runV (As := [.int (I_9503 391 this)]) (rest := [.long x_9627, .ref this]) ⟨hx, hb, hml, hown, hts⟩ (s_X12_see l D t σ I_9503 J_9504 ri rj rq H.size tg hSH hG.1 this (I_9503 391 this) hL_this hK_this (rg_w h_9563 (by decide))) (cwV 1 hts (tw_V tw_839 tw_840 tw_841 tw_5 tw_842) rfl rfl rfl (by decide +kernel) ⟨Nat.le_of_ble_eq_true rfl, Nat.le_of_ble_eq_true rfl⟩) ⟨pq_blind, pq_recv hK hP hL_this hK_this (by decide) rfl, pq_pre hK hN hP hD⟩ rfl rfl hl.1 rfl (lv_room (Nat.le_of_ble_eq_true rfl)) dX12_nextToken_202 ⟨Nat.le_of_ble_eq_true rfl, Nat.le_of_ble_eq_true rfl⟩) hD hS hA (fun x_9628 σ1 μ1 H locs hw_9629 hP hD hS => ?_)
                      obtain ⟨hu_9630, hp_9633, hr_9632⟩ := hw_9629
                      obtain ⟨hu_9630a, hu_9630b⟩ := Prod.mk.inj hu_9630
                      rw [hu_9630a, hu_9630b] at hP hD
                      have tt_9634 := hp_9633
                      refine lv_i2l hx hb dX12_nextToken_205 rfl ?_
                      refine lv_topl (fun x_9635 ex_9635 => ?_)
                      refine lv_lor hx hb dX12_nextToken_206 ?_
                      refine lv_topl (fun x_9636 ex_9636 => ?_)
                      refine pp_l (v := x_9636) (C := RX12) (T := TX12) (N := 31) hx hb hts (tw_i inlX12) tyX12 tyX12_ok nmX12 hown hK hP hD hS hL_this hK_this (by decide) rfl 11 395 (by decide) (hts _ (tw_c tw_838)) rfl (by decide +kernel) (Nat.le_of_ble_eq_true rfl) (ps_395 _ _ _ _ _) dX12_nextToken_207 (fun J_9637 H locs eJ_9637 hP hD hS => ?_)
                      exact K_9617 J_9637 _ _ _ hG hP hD hS (lv_sub hl [0] rfl)
              exact L_9561 _ I_9335 J_9336 _ _ _ (Nat.lt_succ_self _) hG hP hD hS (lv_sub hl [1] rfl)
          · have f_9638 := (hr_8887.resolve_right (fun q => c_8889 q.1)).2
            have uf_9638 := f_9638.1
            have vf_9638 := f_9638.2
            have tc_9639 : (x_8883).toInt ≠ 0 := fun q => c_8889 (Int32.toInt_inj.mp q)
            have h_9640 : rg x_8883 1 1 := rg_ne c_8889 h_8888 0 rfl (by decide)
            have uh_9640 := h_9640.1
            have vh_9640 := h_9640.2
            refine lv_aload_n hx hb dX12_nextToken_75 rfl (lv_at hl 1 rfl) ?_
            refine lv_iconst (v := 1) hx hb dX12_nextToken_76 (by decide) ?_
            refine pp_i (v := 1) (ty := .int) (C := RX12) (T := TX12) (N := 31) hx hb hts (tw_i inlX12) tyX12 tyX12_ok nmX12 hown hK hP hD hS hL_this hK_this (by decide) rfl 9 393 (by decide) (hts _ (tw_c tw_831)) rfl (by decide +kernel) rfl rfl (Nat.le_of_ble_eq_true rfl) (ps_393 _ _ _ _ _) dX12_nextToken_77 (fun I_9641 H locs eI_9641 hP hD hS => ?_)
            have hG := GM.wI hG 393 rfl eI_9641 (rg_w (rg_k (1 : Int32) 1 rfl) (by decide)) (by decide)
            refine lv_aload_n hx hb dX12_nextToken_80 rfl (lv_at hl 1 rfl) ?_
            refine lv_iconst (v := 0) hx hb dX12_nextToken_81 (by decide) ?_
            refine pp_i (v := 0) (ty := .int) (C := RX12) (T := TX12) (N := 31) hx hb hts (tw_i inlX12) tyX12 tyX12_ok nmX12 hown hK hP hD hS hL_this hK_this (by decide) rfl 10 394 (by decide) (hts _ (tw_c tw_836)) rfl (by decide +kernel) rfl rfl (Nat.le_of_ble_eq_true rfl) (ps_394 _ _ _ _ _) dX12_nextToken_82 (fun I_9642 H locs eI_9642 hP hD hS => ?_)
            have hG := GM.wI hG 394 rfl eI_9642 (rg_w (rg_k (0 : Int32) 0 rfl) (by decide)) (by decide)
            have L_9830 : ∀ (n_9829 : Nat) (I_9781 : Nat → Nat → Int32) (H : Heap) (locs : List Loc) (ls : Array Slot), (300 - (I_9781 391 this).toInt).toNat < n_9829 → GM [392, 391, 393] tg σ I ri I_9781 ri rq → va_P D vwCl (pq_P t σ (I_9781, J, ri, rj, rq)) H → va_D A (pq_P t σ (I_9781, J, ri, rj, rq)) → va_S A s.heap H locs → lv_has ls 3 [(0, .ref this)] → W p l e ({ frames := 2, cells := 0, slots := 0, locals := 42 } : Room) s m (List.toArray ([.ref this] : List Value)) below meth c H locs 0 0 Q (F0 m 85 ls []) := by
              intro n_9829
              induction n_9829 with
              | zero => intro I_9781 H locs ls hm_9828 hG hP hD hS hl; exact absurd hm_9828 (Nat.not_lt_zero _)
              | succ n_9829 ih_9831 =>
                intro I_9781 H locs ls hm_9828 hG hP hD hS hl
                refine lv_aload_n hx hb dX12_nextToken_85 rfl (lv_at hl 0 rfl) ?_
                refine lv_aload_n hx hb dX12_nextToken_86 rfl (lv_at hl 0 rfl) ?_
                refine pg_f (v := .int (I_9781 391 this)) (C := RX12) (T := TX12) (N := 31) hx hb hts (tw_i inlX12) hown hK hP hL_this hK_this (by decide) rfl 7 (by decide) (hts _ (tw_c tw_830)) rfl dX12_nextToken_87 ?_
                have h_9832 : rg (I_9781 391 this) 0 300 := GM.rI hG 391 rfl
                have uh_9832 := h_9832.1
                have vh_9832 := h_9832.2
                refine pk_i (va_runV (As := [.int (I_9781 391 this)]) (rest := []) ⟨hx, hb, hml, hown, hts⟩ (s_X12_see l D t σ I_9781 J ri rj rq H.size tg hSH hG.1 this (I_9781 391 this) hL_this hK_this (rg_w h_9832 (by decide))) (cwV 1 hts (tw_V tw_839 tw_840 tw_841 tw_5 tw_842) rfl rfl rfl (by decide +kernel) ⟨Nat.le_of_ble_eq_true rfl, Nat.le_of_ble_eq_true rfl⟩) ⟨pq_blind, pq_recv hK hP hL_this hK_this (by decide) rfl, pq_pre hK hN hP hD⟩ rfl rfl hl.1 rfl (lv_room (Nat.le_of_ble_eq_true rfl)) dX12_nextToken_90 ⟨Nat.le_of_ble_eq_true rfl, Nat.le_of_ble_eq_true rfl⟩) hD hS hA (fun x_9833 σ1 μ1 H locs hw_9834 hP hD hS => ?_)
                obtain ⟨hu_9835, hp_9838, hr_9837⟩ := hw_9834
                obtain ⟨hu_9835a, hu_9835b⟩ := Prod.mk.inj hu_9835
                rw [hu_9835a, hu_9835b] at hP hD
                have tt_9839 := hp_9838
                refine pk_i (va_runS (As := [.int x_9833]) (rest := []) ⟨hx, hb, hml, hown, hts⟩ (s_X12_isDigit l D t σ I_9781 J ri rj rq H.size tg hSH hG.1 x_9833) (va_cwS 1 hts (tw_S tw_843 tw_844 tw_5 tw_845) rfl rfl rfl (by decide +kernel) ⟨Nat.le_of_ble_eq_true rfl, Nat.le_of_ble_eq_true rfl⟩) ⟨pq_blind, pq_pre hK hN hP hD⟩ rfl rfl hl.1 rfl (lv_room (Nat.le_of_ble_eq_true rfl)) dX12_nextToken_93 ⟨Nat.le_of_ble_eq_true rfl, Nat.le_of_ble_eq_true rfl⟩) hD hS hA (fun x_9840 σ1 μ1 H locs hw_9841 hP hD hS => ?_)
                obtain ⟨hu_9842, hr_9844⟩ := hw_9841
                obtain ⟨hu_9842a, hu_9842b⟩ := Prod.mk.inj hu_9842
                rw [hu_9842a, hu_9842b] at hP hD
                have h_9845 : rg x_9840 0 1 := by rcases hr_9844 with ⟨q, -⟩ | ⟨q, -⟩ <;> rw [q] <;> exact ⟨by decide, by decide⟩
                have uh_9845 := h_9845.1
                have vh_9845 := h_9845.2
                refine lv_if_eq (tgt := 396) hx hb dX12_nextToken_96 (by decide) (fun c_9846 => ?_) (fun c_9846 => ?_)
                · have f_9847 := (hr_9844.resolve_left (fun q => absurd (q.1.symm.trans c_9846) (by decide))).2
                  have tc_9848 : (x_9840).toInt = 0 := congrArg Int32.toInt c_9846
                  have h_9849 : rg x_9840 0 0 := rg_and h_9845 (rg_of_eq c_9846 (rg_k (0 : Int32) 0 rfl)) (by decide)
                  have uh_9849 := h_9849.1
                  have vh_9849 := h_9849.2
                  subst hQ
                  exact W.vret hx hb hr (fun t1 ht hW => ⟨⟨(σ, I_9781, J, ri, rj, rq), rfl, ⟨I_9781, J, rfl, hG⟩, by rw [ht]; exact hP, va_K.moved hW.alike hK, hD⟩, hS.F ht⟩) hS.2.2 dX12_nextToken_396
                · have f_9850 := (hr_9844.resolve_right (fun q => c_9846 q.1)).2
                  have uf_9850 := f_9850.1
                  have vf_9850 := f_9850.2
                  have tc_9851 : (x_9840).toInt ≠ 0 := fun q => c_9846 (Int32.toInt_inj.mp q)
                  have h_9852 : rg x_9840 1 1 := rg_ne c_9846 h_9845 0 rfl (by decide)
                  have uh_9852 := h_9852.1
                  have vh_9852 := h_9852.2
                  refine lv_aload_n hx hb dX12_nextToken_99 rfl (lv_at hl 0 rfl) ?_
                  refine pg_f (v := .int (I_9781 394 this)) (C := RX12) (T := TX12) (N := 31) hx hb hts (tw_i inlX12) hown hK hP hL_this hK_this (by decide) rfl 10 (by decide) (hts _ (tw_c tw_836)) rfl dX12_nextToken_100 ?_
                  refine lv_ldc hx hb hown (hts _ (tw_c tw_837)) dX12_nextToken_103 ?_
                  refine lv_icmp_ge (tgt := 131) hx hb dX12_nextToken_105 (by decide) (fun c_9853 => ?_) (fun c_9853 => ?_)
                  · have tc_9854 : 100000 ≤ (I_9781 394 this).toInt := Int32.le_iff_toInt_le.mp c_9853
                    have h_9855 : rg (I_9781 394 this) 100000 2147483647 := rg_le2 c_9853 (rg_k (100000 : Int32) 100000 rfl) (rg_full _) (by decide)
                    have uh_9855 := h_9855.1
                    have vh_9855 := h_9855.2
                    refine lv_aload_n hx hb dX12_nextToken_131 rfl (lv_at hl 0 rfl) ?_
                    refine lv_dup hx hb dX12_nextToken_132 rfl ?_
                    refine pg_f (v := .int (I_9781 391 this)) (C := RX12) (T := TX12) (N := 31) hx hb hts (tw_i inlX12) hown hK hP hL_this hK_this (by decide) rfl 7 (by decide) (hts _ (tw_c tw_830)) rfl dX12_nextToken_133 ?_
                    refine lv_iconst (v := 1) hx hb dX12_nextToken_136 (by decide) ?_
                    have h_9856 : rg (I_9781 391 this) 0 299 := ⟨by omega, by omega⟩
                    have uh_9856 := h_9856.1
                    have vh_9856 := h_9856.2
                    refine lv_iadd hx hb dX12_nextToken_137 ?_
                    refine lv_topi (fun x_9857 ex_9857 => ?_)
                    have h_9858 : rg x_9857 1 300 := rg_of_eq ex_9857 (rg_add h_9856 (rg_k (1 : Int32) 1 rfl) (by decide))
                    have uh_9858 := h_9858.1
                    have vh_9858 := h_9858.2
                    have tx_9857 : (x_9857).toInt = (I_9781 391 this).toInt + 1 := by rw [ex_9857]; exact i_add_rg (a2 := (I_9781 391 this).toInt) (b2 := 1) rfl rfl h_9856 (rg_k (1 : Int32) 1 rfl) (by decide)
                    refine pp_i (v := x_9857) (ty := .int) (C := RX12) (T := TX12) (N := 31) hx hb hts (tw_i inlX12) tyX12 tyX12_ok nmX12 hown hK hP hD hS hL_this hK_this (by decide) rfl 7 391 (by decide) (hts _ (tw_c tw_830)) rfl (by decide +kernel) rfl rfl (Nat.le_of_ble_eq_true rfl) (ps_391 _ _ _ _ _) dX12_nextToken_138 (fun I_9859 H locs eI_9859 hP hD hS => ?_)
                    have hG := GM.wI hG 391 rfl eI_9859 (rg_w h_9858 (by decide)) (by decide)
                    refine lv_goto (tgt := 85) hx hb dX12_nextToken_141 (by decide) ?_
                    exact ih_9831 I_9859 _ _ _ (ms_fu_iadd hm_9828 (by rw [eI_9859]; exact pq_us _ _ _ _) ex_9857 rfl (kk := 1) rfl (by decide) h_9856 (by decide) (by decide)) hG hP hD hS (lv_sub hl [0] rfl)
                  · have tc_9860 : (I_9781 394 this).toInt < 100000 := Int32.lt_iff_toInt_lt.mp (nle c_9853)
                    have h_9861 : rg (I_9781 394 this) (-2147483648) 99999 := rg_lt1 (nle c_9853) (rg_full _) (rg_k (100000 : Int32) 100000 rfl) (by decide)
                    have uh_9861 := h_9861.1
                    have vh_9861 := h_9861.2
                    refine lv_aload_n hx hb dX12_nextToken_108 rfl (lv_at hl 0 rfl) ?_
                    refine lv_bipush (v := 10) hx hb dX12_nextToken_109 (by decide) ?_
                    refine lv_aload_n hx hb dX12_nextToken_111 rfl (lv_at hl 0 rfl) ?_
                    refine pg_f (v := .int (I_9781 394 this)) (C := RX12) (T := TX12) (N := 31) hx hb hts (tw_i inlX12) hown hK hP hL_this hK_this (by decide) rfl 10 (by decide) (hts _ (tw_c tw_836)) rfl dX12_nextToken_112 ?_
                    refine lv_imul hx hb dX12_nextToken_115 ?_
                    refine lv_topi (fun x_9862 ex_9862 => ?_)
                    refine lv_aload_n hx hb dX12_nextToken_116 rfl (lv_at hl 0 rfl) ?_
                    refine lv_aload_n hx hb dX12_nextToken_117 rfl (lv_at hl 0 rfl) ?_
                    refine pg_f (v := .int (I_9781 391 this)) (C := RX12) (T := TX12) (N := 31) hx hb hts (tw_i inlX12) hown hK hP hL_this hK_this (by decide) rfl 7 (by decide) (hts _ (tw_c tw_830)) rfl dX12_nextToken_118 ?_
                    refine pk_i (va_runV (As := [.int (I_9781 391 this)]) (rest := [.int x_9862, .ref this]) ⟨hx, hb, hml, hown, hts⟩ (s_X12_see l D t σ I_9781 J ri rj rq H.size tg hSH hG.1 this (I_9781 391 this) hL_this hK_this (rg_w h_9832 (by decide))) (cwV 1 hts (tw_V tw_839 tw_840 tw_841 tw_5 tw_842) rfl rfl rfl (by decide +kernel) ⟨Nat.le_of_ble_eq_true rfl, Nat.le_of_ble_eq_true rfl⟩) ⟨pq_blind, pq_recv hK hP hL_this hK_this (by decide) rfl, pq_pre hK hN hP hD⟩ rfl rfl hl.1 rfl (lv_room (Nat.le_of_ble_eq_true rfl)) dX12_nextToken_121 ⟨Nat.le_of_ble_eq_true rfl, Nat.le_of_ble_eq_true rfl⟩) hD hS hA (fun x_9863 σ1 μ1 H locs hw_9864 hP hD hS => ?_)
                    obtain ⟨hu_9865, hp_9868, hr_9867⟩ := hw_9864
                    obtain ⟨hu_9865a, hu_9865b⟩ := Prod.mk.inj hu_9865
                    rw [hu_9865a, hu_9865b] at hP hD
                    have tt_9869 := hp_9868
                    refine lv_iadd hx hb dX12_nextToken_124 ?_
                    refine lv_topi (fun x_9870 ex_9870 => ?_)
                    refine lv_bipush (v := 48) hx hb dX12_nextToken_125 (by decide) ?_
                    refine lv_isub hx hb dX12_nextToken_127 ?_
                    refine lv_topi (fun x_9871 ex_9871 => ?_)
                    refine pp_i (v := x_9871) (ty := .int) (C := RX12) (T := TX12) (N := 31) hx hb hts (tw_i inlX12) tyX12 tyX12_ok nmX12 hown hK hP hD hS hL_this hK_this (by decide) rfl 10 394 (by decide) (hts _ (tw_c tw_836)) rfl (by decide +kernel) rfl rfl (Nat.le_of_ble_eq_true rfl) (ps_394 _ _ _ _ _) dX12_nextToken_128 (fun I_9872 H locs eI_9872 hP hD hS => ?_)
                    have hG := GM.wI hG 394 rfl eI_9872 (rg_w (rg_full _) (by decide)) (by decide)
                    refine lv_aload_n hx hb dX12_nextToken_131 rfl (lv_at hl 0 rfl) ?_
                    refine lv_dup hx hb dX12_nextToken_132 rfl ?_
                    refine pg_f (v := .int (I_9872 391 this)) (C := RX12) (T := TX12) (N := 31) hx hb hts (tw_i inlX12) hown hK hP hL_this hK_this (by decide) rfl 7 (by decide) (hts _ (tw_c tw_830)) rfl dX12_nextToken_133 ?_
                    have h_9873 : rg (I_9872 391 this) 0 300 := GM.rI hG 391 rfl
                    have uh_9873 := h_9873.1
                    have vh_9873 := h_9873.2
                    refine lv_iconst (v := 1) hx hb dX12_nextToken_136 (by decide) ?_
                    have h_9874 : rg (I_9872 391 this) 0 299 := ⟨by omega, by omega⟩
                    have uh_9874 := h_9874.1
                    have vh_9874 := h_9874.2
                    refine lv_iadd hx hb dX12_nextToken_137 ?_
                    refine lv_topi (fun x_9875 ex_9875 => ?_)
                    have h_9876 : rg x_9875 1 300 := rg_of_eq ex_9875 (rg_add h_9874 (rg_k (1 : Int32) 1 rfl) (by decide))
                    have uh_9876 := h_9876.1
                    have vh_9876 := h_9876.2
                    have tx_9875 : (x_9875).toInt = (I_9872 391 this).toInt + 1 := by rw [ex_9875]; exact i_add_rg (a2 := (I_9872 391 this).toInt) (b2 := 1) rfl rfl h_9874 (rg_k (1 : Int32) 1 rfl) (by decide)
                    refine pp_i (v := x_9875) (ty := .int) (C := RX12) (T := TX12) (N := 31) hx hb hts (tw_i inlX12) tyX12 tyX12_ok nmX12 hown hK hP hD hS hL_this hK_this (by decide) rfl 7 391 (by decide) (hts _ (tw_c tw_830)) rfl (by decide +kernel) rfl rfl (Nat.le_of_ble_eq_true rfl) (ps_391 _ _ _ _ _) dX12_nextToken_138 (fun I_9877 H locs eI_9877 hP hD hS => ?_)
                    have hG := GM.wI hG 391 rfl eI_9877 (rg_w h_9876 (by decide)) (by decide)
                    refine lv_goto (tgt := 85) hx hb dX12_nextToken_141 (by decide) ?_
                    exact ih_9831 I_9877 _ _ _ (ms_fu_iadd hm_9828 (by rw [eI_9877]; exact pq_us _ _ _ _) ex_9875 ((congrFun (show I_9872 391 = I_9781 391 from by rw [eI_9872]; exact pq_uf _ _ _ (by decide)) this).trans rfl) (kk := 1) rfl (by decide) h_9874 (by decide) (by decide)) hG hP hD hS (lv_sub hl [0] rfl)
            exact L_9830 _ I_9642 _ _ _ (Nat.lt_succ_self _) hG hP hD hS (lv_sub hl [1] rfl)
        · have tc_9878 : (x_8873).toInt < 0 := Int32.lt_iff_toInt_lt.mp (nle c_8880)
          have h_9879 : rg x_8873 (-1) (-1) := rg_lt1 (nle c_8880) hr_8877 (rg_k (0 : Int32) 0 rfl) (by decide)
          have uh_9879 := h_9879.1
          have vh_9879 := h_9879.2
          refine lv_aload_n hx hb dX12_nextToken_60 rfl (lv_at hl 1 rfl) ?_
          refine lv_iconst (v := 0) hx hb dX12_nextToken_61 (by decide) ?_
          refine pp_i (v := 0) (ty := .int) (C := RX12) (T := TX12) (N := 31) hx hb hts (tw_i inlX12) tyX12 tyX12_ok nmX12 hown hK hP hD hS hL_this hK_this (by decide) rfl 9 393 (by decide) (hts _ (tw_c tw_831)) rfl (by decide +kernel) rfl rfl (Nat.le_of_ble_eq_true rfl) (ps_393 _ _ _ _ _) dX12_nextToken_62 (fun I_9880 H locs eI_9880 hP hD hS => ?_)
          have hG := GM.wI hG 393 rfl eI_9880 (rg_w (rg_k (0 : Int32) 0 rfl) (by decide)) (by decide)
          refine lv_goto (tgt := 396) hx hb dX12_nextToken_65 (by decide) ?_
          subst hQ
          exact W.vret hx hb hr (fun t1 ht hW => ⟨⟨(σ, I_9880, J, ri, rj, rq), rfl, ⟨I_9880, J, rfl, hG⟩, by rw [ht]; exact hP, va_K.moved hW.alike hK, hD⟩, hS.F ht⟩) hS.2.2 dX12_nextToken_396
      · have tc_9881 : (x_8862).toInt = 10 := congrArg Int32.toInt c_8869
        have h_9882 : rg x_8862 10 10 := rg_and hr_8866 (rg_of_eq c_8869 (rg_k (10 : Int32) 10 rfl)) (by decide)
        have uh_9882 := h_9882.1
        have vh_9882 := h_9882.2
        exact K_4266 _ _ _ hG hP hD hS (lv_sub hl [0] rfl)
  exact go _ _ _ hP hD hS hl
