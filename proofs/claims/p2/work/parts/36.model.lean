theorem dX12_stands_0 : decode cX12_stands 0 = .ok (.aload_n 0, 1) := by decide +kernel
theorem dX12_stands_1 : decode cX12_stands 1 = .ok (.iload_n 1, 1) := by decide +kernel
theorem dX12_stands_2 : decode cX12_stands 2 = .ok (.bipush 14, 2) := by decide +kernel
theorem dX12_stands_4 : decode cX12_stands 4 = .ok (.invokevirtual 91, 3) := by decide +kernel
theorem dX12_stands_7 : decode cX12_stands 7 = .ok (.istore_n 2, 1) := by decide +kernel
theorem dX12_stands_8 : decode cX12_stands 8 = .ok (.iload_n 2, 1) := by decide +kernel
theorem dX12_stands_9 : decode cX12_stands 9 = .ok (.ifCond .ge 5, 3) := by decide +kernel
theorem dX12_stands_14 : decode cX12_stands 14 = .ok (.aload_n 0, 1) := by decide +kernel
theorem dX12_stands_15 : decode cX12_stands 15 = .ok (.getfield 7, 3) := by decide +kernel
theorem dX12_stands_18 : decode cX12_stands 18 = .ok (.iconst 0, 1) := by decide +kernel
theorem dX12_stands_19 : decode cX12_stands 19 = .ok (.iaload, 1) := by decide +kernel
theorem dX12_stands_56 : decode cX12_stands 56 = .ok (.iconst 1, 1) := by decide +kernel
theorem dX12_stands_57 : decode cX12_stands 57 = .ok (.goto 4, 3) := by decide +kernel
theorem dX12_stands_61 : decode cX12_stands 61 = .ok (.ireturn, 1) := by decide +kernel
theorem dX12_stands_20 : decode cX12_stands 20 = .ok (.ifCond .eq 36, 3) := by decide +kernel
theorem dX12_stands_23 : decode cX12_stands 23 = .ok (.aload_n 0, 1) := by decide +kernel
theorem dX12_stands_24 : decode cX12_stands 24 = .ok (.iload_n 1, 1) := by decide +kernel
theorem dX12_stands_25 : decode cX12_stands 25 = .ok (.bipush 12, 2) := by decide +kernel
theorem dX12_stands_27 : decode cX12_stands 27 = .ok (.invokevirtual 91, 3) := by decide +kernel
theorem dX12_stands_30 : decode cX12_stands 30 = .ok (.iconst 1, 1) := by decide +kernel
theorem dX12_stands_31 : decode cX12_stands 31 = .ok (.if_icmp .eq 25, 3) := by decide +kernel
theorem dX12_stands_34 : decode cX12_stands 34 = .ok (.aload_n 0, 1) := by decide +kernel
theorem dX12_stands_35 : decode cX12_stands 35 = .ok (.iconst 1, 1) := by decide +kernel
theorem dX12_stands_36 : decode cX12_stands 36 = .ok (.iload_n 2, 1) := by decide +kernel
theorem dX12_stands_37 : decode cX12_stands 37 = .ok (.aload_n 0, 1) := by decide +kernel
theorem dX12_stands_38 : decode cX12_stands 38 = .ok (.getfield 7, 3) := by decide +kernel
theorem dX12_stands_41 : decode cX12_stands 41 = .ok (.iconst 0, 1) := by decide +kernel
theorem dX12_stands_42 : decode cX12_stands 42 = .ok (.iaload, 1) := by decide +kernel
theorem dX12_stands_43 : decode cX12_stands 43 = .ok (.aload_n 0, 1) := by decide +kernel
theorem dX12_stands_44 : decode cX12_stands 44 = .ok (.iload_n 1, 1) := by decide +kernel
theorem dX12_stands_45 : decode cX12_stands 45 = .ok (.bipush 11, 2) := by decide +kernel
theorem dX12_stands_47 : decode cX12_stands 47 = .ok (.invokevirtual 91, 3) := by decide +kernel
theorem tw_597 : Cond.methodLink RX12 120 yX12_firstSo ∈ wsL_law := List.mem_of_getElem? (i := 597) (by decide +kernel)
theorem tw_598 : Cond.instanceMethod yX12_firstSo ∈ wsL_law := List.mem_of_getElem? (i := 598) (by decide +kernel)
theorem tw_599 : Cond.selects RX12 yX12_firstSo yX12_firstSo ∈ wsL_law := List.mem_of_getElem? (i := 599) (by decide +kernel)
theorem tw_600 : Cond.code yX12_firstSo cX12_firstSo 7 (some .int) ∈ wsL_law := List.mem_of_getElem? (i := 600) (by decide +kernel)
theorem dX12_stands_50 : decode cX12_stands 50 = .ok (.invokevirtual 120, 3) := by decide +kernel
theorem dX12_stands_53 : decode cX12_stands 53 = .ok (.ifCond .lt 7, 3) := by decide +kernel
theorem dX12_stands_60 : decode cX12_stands 60 = .ok (.iconst 0, 1) := by decide +kernel
theorem dX12_stands_12 : decode cX12_stands 12 = .ok (.iconst 0, 1) := by decide +kernel
theorem dX12_stands_13 : decode cX12_stands 13 = .ok (.ireturn, 1) := by decide +kernel
theorem dX12_titleOf_0 : decode cX12_titleOf 0 = .ok (.aload_n 0, 1) := by decide +kernel
theorem dX12_titleOf_1 : decode cX12_titleOf 1 = .ok (.iload_n 1, 1) := by decide +kernel
theorem dX12_titleOf_2 : decode cX12_titleOf 2 = .ok (.invokevirtual 88, 3) := by decide +kernel
theorem dX12_titleOf_17 : decode cX12_titleOf 17 = .ok (.iconst (-1), 1) := by decide +kernel
theorem dX12_titleOf_18 : decode cX12_titleOf 18 = .ok (.ireturn, 1) := by decide +kernel
theorem dX12_titleOf_5 : decode cX12_titleOf 5 = .ok (.ifCond .eq 12, 3) := by decide +kernel
theorem dX12_titleOf_8 : decode cX12_titleOf 8 = .ok (.iload_n 2, 1) := by decide +kernel
theorem dX12_titleOf_9 : decode cX12_titleOf 9 = .ok (.iconst 0, 1) := by decide +kernel
theorem dX12_titleOf_10 : decode cX12_titleOf 10 = .ok (.iconst 1, 1) := by decide +kernel
theorem dX12_titleOf_11 : decode cX12_titleOf 11 = .ok (.invokestatic 62, 3) := by decide +kernel
theorem dX12_titleOf_14 : decode cX12_titleOf 14 = .ok (.ifCond .ne 5, 3) := by decide +kernel
theorem dX12_titleOf_19 : decode cX12_titleOf 19 = .ok (.iload_n 2, 1) := by decide +kernel
theorem dX12_titleOf_20 : decode cX12_titleOf 20 = .ok (.ifCond .ne 13, 3) := by decide +kernel
theorem dX12_titleOf_33 : decode cX12_titleOf 33 = .ok (.aload_n 0, 1) := by decide +kernel
theorem dX12_titleOf_34 : decode cX12_titleOf 34 = .ok (.iload_n 1, 1) := by decide +kernel
theorem tw_593 : Cond.methodLink RX12 124 yX12_stands ∈ wsL_law := List.mem_of_getElem? (i := 593) (by decide +kernel)
theorem tw_594 : Cond.instanceMethod yX12_stands ∈ wsL_law := List.mem_of_getElem? (i := 594) (by decide +kernel)
theorem tw_595 : Cond.selects RX12 yX12_stands yX12_stands ∈ wsL_law := List.mem_of_getElem? (i := 595) (by decide +kernel)
theorem tw_596 : Cond.code yX12_stands cX12_stands 3 (some .boolean) ∈ wsL_law := List.mem_of_getElem? (i := 596) (by decide +kernel)
theorem dX12_titleOf_35 : decode cX12_titleOf 35 = .ok (.invokevirtual 124, 3) := by decide +kernel
theorem dX12_titleOf_38 : decode cX12_titleOf 38 = .ok (.ifCond .eq 7, 3) := by decide +kernel
theorem dX12_titleOf_45 : decode cX12_titleOf 45 = .ok (.iconst 0, 1) := by decide +kernel
theorem dX12_titleOf_46 : decode cX12_titleOf 46 = .ok (.ireturn, 1) := by decide +kernel
theorem dX12_titleOf_41 : decode cX12_titleOf 41 = .ok (.iconst 1, 1) := by decide +kernel
theorem dX12_titleOf_42 : decode cX12_titleOf 42 = .ok (.goto 4, 3) := by decide +kernel
theorem dX12_titleOf_23 : decode cX12_titleOf 23 = .ok (.aload_n 0, 1) := by decide +kernel
theorem dX12_titleOf_24 : decode cX12_titleOf 24 = .ok (.iload_n 1, 1) := by decide +kernel
theorem dX12_titleOf_25 : decode cX12_titleOf 25 = .ok (.bipush 14, 2) := by decide +kernel
theorem dX12_titleOf_27 : decode cX12_titleOf 27 = .ok (.invokevirtual 91, 3) := by decide +kernel
theorem dX12_titleOf_30 : decode cX12_titleOf 30 = .ok (.goto 16, 3) := by decide +kernel
theorem dX12_four_0 : decode cX12_four 0 = .ok (.bipush 24, 2) := by decide +kernel
theorem dX12_four_2 : decode cX12_four 2 = .ok (.istore_n 2, 1) := by decide +kernel
theorem dX12_four_3 : decode cX12_four 3 = .ok (.iload_n 2, 1) := by decide +kernel
theorem dX12_four_4 : decode cX12_four 4 = .ok (.ifCond .lt 35, 3) := by decide +kernel
theorem dX12_four_39 : decode cX12_four 39 = .ok (.return_, 1) := by decide +kernel
theorem dX12_four_7 : decode cX12_four 7 = .ok (.aload_n 0, 1) := by decide +kernel
theorem tw_179 : Cond.fieldLink RX12 19 "RingsUnderModel" "tape" "[I" ∈ wsL_law := List.mem_of_getElem? (i := 179) (by decide +kernel)
theorem dX12_four_8 : decode cX12_four 8 = .ok (.getfield 19, 3) := by decide +kernel
theorem dX12_four_11 : decode cX12_four 11 = .ok (.aload_n 0, 1) := by decide +kernel
theorem tw_631 : Cond.fieldLink RX12 127 "RingsUnderModel" "taped" "I" ∈ wsL_law := List.mem_of_getElem? (i := 631) (by decide +kernel)
theorem dX12_four_12 : decode cX12_four 12 = .ok (.getfield 127, 3) := by decide +kernel
theorem dX12_four_15 : decode cX12_four 15 = .ok (.iload_n 1, 1) := by decide +kernel
theorem dX12_four_16 : decode cX12_four 16 = .ok (.iload_n 2, 1) := by decide +kernel
theorem dX12_four_17 : decode cX12_four 17 = .ok (.ishr, 1) := by decide +kernel
theorem dX12_four_18 : decode cX12_four 18 = .ok (.sipush 255, 3) := by decide +kernel
theorem dX12_four_21 : decode cX12_four 21 = .ok (.iand, 1) := by decide +kernel
theorem dX12_four_22 : decode cX12_four 22 = .ok (.iastore, 1) := by decide +kernel
theorem dX12_four_23 : decode cX12_four 23 = .ok (.aload_n 0, 1) := by decide +kernel
theorem dX12_four_24 : decode cX12_four 24 = .ok (.dup, 1) := by decide +kernel
theorem dX12_four_25 : decode cX12_four 25 = .ok (.getfield 127, 3) := by decide +kernel
theorem dX12_four_28 : decode cX12_four 28 = .ok (.iconst 1, 1) := by decide +kernel
theorem dX12_four_29 : decode cX12_four 29 = .ok (.iadd, 1) := by decide +kernel
theorem dX12_four_30 : decode cX12_four 30 = .ok (.putfield 127, 3) := by decide +kernel
theorem dX12_four_33 : decode cX12_four 33 = .ok (.iinc 2 (-8), 3) := by decide +kernel
theorem dX12_four_36 : decode cX12_four 36 = .ok (.goto (-33), 3) := by decide +kernel
theorem dX12_feed_0 : decode cX12_feed 0 = .ok (.aload_n 0, 1) := by decide +kernel
theorem dX12_feed_1 : decode cX12_feed 1 = .ok (.getfield 127, 3) := by decide +kernel
theorem dX12_feed_4 : decode cX12_feed 4 = .ok (.bipush 20, 2) := by decide +kernel
theorem dX12_feed_6 : decode cX12_feed 6 = .ok (.iadd, 1) := by decide +kernel
theorem dX12_feed_7 : decode cX12_feed 7 = .ok (.sipush 300, 3) := by decide +kernel
theorem dX12_feed_10 : decode cX12_feed 10 = .ok (.if_icmp .le 5, 3) := by decide +kernel
theorem dX12_feed_15 : decode cX12_feed 15 = .ok (.aload_n 0, 1) := by decide +kernel
theorem dX12_feed_16 : decode cX12_feed 16 = .ok (.iload_n 1, 1) := by decide +kernel
theorem tw_632 : Cond.methodLink RX12 130 yX12_four ∈ wsL_law := List.mem_of_getElem? (i := 632) (by decide +kernel)
theorem tw_633 : Cond.instanceMethod yX12_four ∈ wsL_law := List.mem_of_getElem? (i := 633) (by decide +kernel)
theorem tw_634 : Cond.selects RX12 yX12_four yX12_four ∈ wsL_law := List.mem_of_getElem? (i := 634) (by decide +kernel)
theorem tw_635 : Cond.code yX12_four cX12_four 3 none ∈ wsL_law := List.mem_of_getElem? (i := 635) (by decide +kernel)
theorem dX12_feed_17 : decode cX12_feed 17 = .ok (.invokevirtual 130, 3) := by decide +kernel
theorem dX12_feed_20 : decode cX12_feed 20 = .ok (.aload_n 0, 1) := by decide +kernel
theorem dX12_feed_21 : decode cX12_feed 21 = .ok (.iload_n 2, 1) := by decide +kernel
theorem dX12_feed_22 : decode cX12_feed 22 = .ok (.invokevirtual 130, 3) := by decide +kernel
theorem dX12_feed_25 : decode cX12_feed 25 = .ok (.aload_n 0, 1) := by decide +kernel
theorem dX12_feed_26 : decode cX12_feed 26 = .ok (.iload_n 3, 1) := by decide +kernel
theorem dX12_feed_27 : decode cX12_feed 27 = .ok (.invokevirtual 130, 3) := by decide +kernel
theorem dX12_feed_30 : decode cX12_feed 30 = .ok (.aload_n 0, 1) := by decide +kernel
theorem dX12_feed_31 : decode cX12_feed 31 = .ok (.iload 4, 2) := by decide +kernel
theorem dX12_feed_33 : decode cX12_feed 33 = .ok (.invokevirtual 130, 3) := by decide +kernel
theorem dX12_feed_36 : decode cX12_feed 36 = .ok (.aload_n 0, 1) := by decide +kernel
theorem dX12_feed_37 : decode cX12_feed 37 = .ok (.iload 5, 2) := by decide +kernel
theorem dX12_feed_39 : decode cX12_feed 39 = .ok (.invokevirtual 130, 3) := by decide +kernel
theorem dX12_feed_42 : decode cX12_feed 42 = .ok (.aload_n 0, 1) := by decide +kernel
theorem dX12_feed_43 : decode cX12_feed 43 = .ok (.getfield 127, 3) := by decide +kernel
theorem dX12_feed_46 : decode cX12_feed 46 = .ok (.ireturn, 1) := by decide +kernel
theorem dX12_feed_13 : decode cX12_feed 13 = .ok (.iconst (-1), 1) := by decide +kernel
theorem dX12_feed_14 : decode cX12_feed 14 = .ok (.ireturn, 1) := by decide +kernel
theorem dX12_end_0 : decode cX12_end 0 = .ok (.iload_n 1, 1) := by decide +kernel
theorem dX12_end_1 : decode cX12_end 1 = .ok (.iconst 0, 1) := by decide +kernel
theorem dX12_end_2 : decode cX12_end 2 = .ok (.aload_n 0, 1) := by decide +kernel
theorem dX12_end_3 : decode cX12_end 3 = .ok (.getfield 127, 3) := by decide +kernel
theorem dX12_end_6 : decode cX12_end 6 = .ok (.invokestatic 62, 3) := by decide +kernel
theorem dX12_end_9 : decode cX12_end 9 = .ok (.ifCond .ne 5, 3) := by decide +kernel
theorem dX12_end_14 : decode cX12_end 14 = .ok (.aload_n 0, 1) := by decide +kernel
theorem dX12_end_15 : decode cX12_end 15 = .ok (.iload_n 1, 1) := by decide +kernel
theorem dX12_end_16 : decode cX12_end 16 = .ok (.putfield 127, 3) := by decide +kernel
theorem dX12_end_19 : decode cX12_end 19 = .ok (.iload_n 1, 1) := by decide +kernel
theorem dX12_end_20 : decode cX12_end 20 = .ok (.ireturn, 1) := by decide +kernel
theorem dX12_end_12 : decode cX12_end 12 = .ok (.iconst (-1), 1) := by decide +kernel
theorem dX12_end_13 : decode cX12_end 13 = .ok (.ireturn, 1) := by decide +kernel
theorem dX12_see_0 : decode cX12_see 0 = .ok (.iload_n 1, 1) := by decide +kernel
theorem dX12_see_1 : decode cX12_see 1 = .ok (.aload_n 0, 1) := by decide +kernel
theorem dX12_see_2 : decode cX12_see 2 = .ok (.getfield 127, 3) := by decide +kernel
theorem dX12_see_5 : decode cX12_see 5 = .ok (.if_icmp .ge 12, 3) := by decide +kernel
theorem dX12_see_17 : decode cX12_see 17 = .ok (.iconst (-1), 1) := by decide +kernel
theorem dX12_see_18 : decode cX12_see 18 = .ok (.ireturn, 1) := by decide +kernel
theorem dX12_see_8 : decode cX12_see 8 = .ok (.aload_n 0, 1) := by decide +kernel
theorem dX12_see_9 : decode cX12_see 9 = .ok (.getfield 19, 3) := by decide +kernel
theorem dX12_see_12 : decode cX12_see 12 = .ok (.iload_n 1, 1) := by decide +kernel
theorem dX12_see_13 : decode cX12_see 13 = .ok (.iaload, 1) := by decide +kernel
theorem dX12_see_14 : decode cX12_see 14 = .ok (.goto 4, 3) := by decide +kernel
theorem dX12_isLetter_0 : decode cX12_isLetter 0 = .ok (.iload_n 0, 1) := by decide +kernel
theorem dX12_isLetter_1 : decode cX12_isLetter 1 = .ok (.bipush 97, 2) := by decide +kernel
theorem dX12_isLetter_3 : decode cX12_isLetter 3 = .ok (.bipush 122, 2) := by decide +kernel
theorem dX12_isLetter_5 : decode cX12_isLetter 5 = .ok (.invokestatic 62, 3) := by decide +kernel
theorem dX12_isLetter_22 : decode cX12_isLetter 22 = .ok (.iconst 1, 1) := by decide +kernel
theorem dX12_isLetter_23 : decode cX12_isLetter 23 = .ok (.goto 4, 3) := by decide +kernel
theorem dX12_isLetter_27 : decode cX12_isLetter 27 = .ok (.ireturn, 1) := by decide +kernel
theorem dX12_isLetter_8 : decode cX12_isLetter 8 = .ok (.ifCond .ne 14, 3) := by decide +kernel
theorem dX12_isLetter_11 : decode cX12_isLetter 11 = .ok (.iload_n 0, 1) := by decide +kernel
theorem dX12_isLetter_12 : decode cX12_isLetter 12 = .ok (.bipush 65, 2) := by decide +kernel
theorem dX12_isLetter_14 : decode cX12_isLetter 14 = .ok (.bipush 90, 2) := by decide +kernel
theorem dX12_isLetter_16 : decode cX12_isLetter 16 = .ok (.invokestatic 62, 3) := by decide +kernel
theorem dX12_isLetter_19 : decode cX12_isLetter 19 = .ok (.ifCond .eq 7, 3) := by decide +kernel
theorem dX12_isLetter_26 : decode cX12_isLetter 26 = .ok (.iconst 0, 1) := by decide +kernel
theorem dX12_isDigit_0 : decode cX12_isDigit 0 = .ok (.iload_n 0, 1) := by decide +kernel
theorem dX12_isDigit_1 : decode cX12_isDigit 1 = .ok (.bipush 48, 2) := by decide +kernel
theorem dX12_isDigit_3 : decode cX12_isDigit 3 = .ok (.bipush 57, 2) := by decide +kernel
theorem dX12_isDigit_5 : decode cX12_isDigit 5 = .ok (.invokestatic 62, 3) := by decide +kernel
theorem dX12_isDigit_8 : decode cX12_isDigit 8 = .ok (.ireturn, 1) := by decide +kernel
theorem dX12_nextToken_0 : decode cX12_nextToken 0 = .ok (.aload_n 0, 1) := by decide +kernel
theorem dX12_nextToken_1 : decode cX12_nextToken 1 = .ok (.aload_n 0, 1) := by decide +kernel
theorem tw_830 : Cond.fieldLink RX12 134 "RingsUnderModel" "at" "I" ∈ wsL_law := List.mem_of_getElem? (i := 830) (by decide +kernel)
theorem dX12_nextToken_2 : decode cX12_nextToken 2 = .ok (.getfield 134, 3) := by decide +kernel
theorem tw_839 : Cond.methodLink RX12 137 yX12_see ∈ wsL_law := List.mem_of_getElem? (i := 839) (by decide +kernel)
theorem tw_840 : Cond.instanceMethod yX12_see ∈ wsL_law := List.mem_of_getElem? (i := 840) (by decide +kernel)
theorem tw_841 : Cond.selects RX12 yX12_see yX12_see ∈ wsL_law := List.mem_of_getElem? (i := 841) (by decide +kernel)
theorem tw_842 : Cond.code yX12_see cX12_see 2 (some .int) ∈ wsL_law := List.mem_of_getElem? (i := 842) (by decide +kernel)
theorem dX12_nextToken_5 : decode cX12_nextToken 5 = .ok (.invokevirtual 137, 3) := by decide +kernel
theorem dX12_nextToken_8 : decode cX12_nextToken 8 = .ok (.bipush 32, 2) := by decide +kernel
theorem dX12_nextToken_26 : decode cX12_nextToken 26 = .ok (.aload_n 0, 1) := by decide +kernel
theorem dX12_nextToken_27 : decode cX12_nextToken 27 = .ok (.dup, 1) := by decide +kernel
theorem dX12_nextToken_28 : decode cX12_nextToken 28 = .ok (.getfield 134, 3) := by decide +kernel
theorem dX12_nextToken_31 : decode cX12_nextToken 31 = .ok (.iconst 1, 1) := by decide +kernel
theorem dX12_nextToken_32 : decode cX12_nextToken 32 = .ok (.iadd, 1) := by decide +kernel
theorem dX12_nextToken_33 : decode cX12_nextToken 33 = .ok (.putfield 134, 3) := by decide +kernel
theorem dX12_nextToken_36 : decode cX12_nextToken 36 = .ok (.goto (-36), 3) := by decide +kernel
theorem dX12_nextToken_10 : decode cX12_nextToken 10 = .ok (.if_icmp .eq 16, 3) := by decide +kernel
theorem dX12_nextToken_13 : decode cX12_nextToken 13 = .ok (.aload_n 0, 1) := by decide +kernel
theorem dX12_nextToken_14 : decode cX12_nextToken 14 = .ok (.aload_n 0, 1) := by decide +kernel
theorem dX12_nextToken_15 : decode cX12_nextToken 15 = .ok (.getfield 134, 3) := by decide +kernel
theorem dX12_nextToken_18 : decode cX12_nextToken 18 = .ok (.invokevirtual 137, 3) := by decide +kernel
theorem dX12_nextToken_21 : decode cX12_nextToken 21 = .ok (.bipush 10, 2) := by decide +kernel
theorem dX12_nextToken_23 : decode cX12_nextToken 23 = .ok (.if_icmp .ne 16, 3) := by decide +kernel
theorem dX12_nextToken_39 : decode cX12_nextToken 39 = .ok (.aload_n 0, 1) := by decide +kernel
theorem dX12_nextToken_40 : decode cX12_nextToken 40 = .ok (.aload_n 0, 1) := by decide +kernel
theorem dX12_nextToken_41 : decode cX12_nextToken 41 = .ok (.getfield 134, 3) := by decide +kernel
theorem tw_820 : Cond.fieldLink RX12 140 "RingsUnderModel" "place" "I" ∈ wsL_law := List.mem_of_getElem? (i := 820) (by decide +kernel)
theorem dX12_nextToken_44 : decode cX12_nextToken 44 = .ok (.putfield 140, 3) := by decide +kernel
theorem dX12_nextToken_47 : decode cX12_nextToken 47 = .ok (.aload_n 0, 1) := by decide +kernel
theorem dX12_nextToken_48 : decode cX12_nextToken 48 = .ok (.aload_n 0, 1) := by decide +kernel
theorem dX12_nextToken_49 : decode cX12_nextToken 49 = .ok (.getfield 134, 3) := by decide +kernel
theorem dX12_nextToken_52 : decode cX12_nextToken 52 = .ok (.invokevirtual 137, 3) := by decide +kernel
theorem dX12_nextToken_55 : decode cX12_nextToken 55 = .ok (.istore_n 1, 1) := by decide +kernel
theorem dX12_nextToken_56 : decode cX12_nextToken 56 = .ok (.iload_n 1, 1) := by decide +kernel
theorem dX12_nextToken_57 : decode cX12_nextToken 57 = .ok (.ifCond .ge 11, 3) := by decide +kernel
theorem dX12_nextToken_68 : decode cX12_nextToken 68 = .ok (.iload_n 1, 1) := by decide +kernel
theorem tw_843 : Cond.methodLink RX12 146 yX12_isDigit ∈ wsL_law := List.mem_of_getElem? (i := 843) (by decide +kernel)
theorem tw_844 : Cond.static yX12_isDigit ∈ wsL_law := List.mem_of_getElem? (i := 844) (by decide +kernel)
theorem tw_845 : Cond.code yX12_isDigit cX12_isDigit 1 (some .boolean) ∈ wsL_law := List.mem_of_getElem? (i := 845) (by decide +kernel)
theorem dX12_nextToken_69 : decode cX12_nextToken 69 = .ok (.invokestatic 146, 3) := by decide +kernel
theorem dX12_nextToken_72 : decode cX12_nextToken 72 = .ok (.ifCond .eq 72, 3) := by decide +kernel
theorem dX12_nextToken_144 : decode cX12_nextToken 144 = .ok (.iload_n 1, 1) := by decide +kernel
theorem tw_846 : Cond.methodLink RX12 153 yX12_isLetter ∈ wsL_law := List.mem_of_getElem? (i := 846) (by decide +kernel)
theorem tw_847 : Cond.static yX12_isLetter ∈ wsL_law := List.mem_of_getElem? (i := 847) (by decide +kernel)
theorem tw_848 : Cond.code yX12_isLetter cX12_isLetter 1 (some .boolean) ∈ wsL_law := List.mem_of_getElem? (i := 848) (by decide +kernel)
theorem dX12_nextToken_145 : decode cX12_nextToken 145 = .ok (.invokestatic 153, 3) := by decide +kernel
theorem dX12_nextToken_148 : decode cX12_nextToken 148 = .ok (.ifCond .eq 97, 3) := by decide +kernel
theorem dX12_nextToken_245 : decode cX12_nextToken 245 = .ok (.aload_n 0, 1) := by decide +kernel
theorem dX12_nextToken_246 : decode cX12_nextToken 246 = .ok (.dup, 1) := by decide +kernel
theorem dX12_nextToken_247 : decode cX12_nextToken 247 = .ok (.getfield 134, 3) := by decide +kernel
theorem dX12_nextToken_250 : decode cX12_nextToken 250 = .ok (.iconst 1, 1) := by decide +kernel
theorem dX12_nextToken_251 : decode cX12_nextToken 251 = .ok (.iadd, 1) := by decide +kernel
theorem dX12_nextToken_252 : decode cX12_nextToken 252 = .ok (.putfield 134, 3) := by decide +kernel
theorem dX12_nextToken_255 : decode cX12_nextToken 255 = .ok (.iload_n 1, 1) := by decide +kernel
theorem dX12_nextToken_256 : decode cX12_nextToken 256 = .ok (.bipush 60, 2) := by decide +kernel
theorem dX12_nextToken_332 : decode cX12_nextToken 332 = .ok (.istore_n 2, 1) := by decide +kernel
theorem dX12_nextToken_333 : decode cX12_nextToken 333 = .ok (.aload_n 0, 1) := by decide +kernel
theorem dX12_nextToken_334 : decode cX12_nextToken 334 = .ok (.iload_n 2, 1) := by decide +kernel
theorem tw_831 : Cond.fieldLink RX12 143 "RingsUnderModel" "token" "I" ∈ wsL_law := List.mem_of_getElem? (i := 831) (by decide +kernel)
theorem dX12_nextToken_343 : decode cX12_nextToken 343 = .ok (.putfield 143, 3) := by decide +kernel
theorem dX12_nextToken_346 : decode cX12_nextToken 346 = .ok (.iload_n 1, 1) := by decide +kernel
theorem dX12_nextToken_347 : decode cX12_nextToken 347 = .ok (.bipush 60, 2) := by decide +kernel
theorem dX12_nextToken_358 : decode cX12_nextToken 358 = .ok (.aload_n 0, 1) := by decide +kernel
theorem dX12_nextToken_359 : decode cX12_nextToken 359 = .ok (.aload_n 0, 1) := by decide +kernel
theorem dX12_nextToken_360 : decode cX12_nextToken 360 = .ok (.getfield 134, 3) := by decide +kernel
theorem dX12_nextToken_363 : decode cX12_nextToken 363 = .ok (.invokevirtual 137, 3) := by decide +kernel
theorem dX12_nextToken_366 : decode cX12_nextToken 366 = .ok (.bipush 61, 2) := by decide +kernel
theorem dX12_nextToken_368 : decode cX12_nextToken 368 = .ok (.if_icmp .ne 28, 3) := by decide +kernel
theorem dX12_nextToken_396 : decode cX12_nextToken 396 = .ok (.return_, 1) := by decide +kernel
theorem dX12_nextToken_371 : decode cX12_nextToken 371 = .ok (.aload_n 0, 1) := by decide +kernel
theorem dX12_nextToken_372 : decode cX12_nextToken 372 = .ok (.dup, 1) := by decide +kernel
theorem dX12_nextToken_373 : decode cX12_nextToken 373 = .ok (.getfield 134, 3) := by decide +kernel
theorem dX12_nextToken_376 : decode cX12_nextToken 376 = .ok (.iconst 1, 1) := by decide +kernel
theorem dX12_nextToken_377 : decode cX12_nextToken 377 = .ok (.iadd, 1) := by decide +kernel
theorem dX12_nextToken_378 : decode cX12_nextToken 378 = .ok (.putfield 134, 3) := by decide +kernel
theorem dX12_nextToken_381 : decode cX12_nextToken 381 = .ok (.aload_n 0, 1) := by decide +kernel
theorem dX12_nextToken_382 : decode cX12_nextToken 382 = .ok (.iload_n 1, 1) := by decide +kernel
theorem dX12_nextToken_383 : decode cX12_nextToken 383 = .ok (.bipush 60, 2) := by decide +kernel
theorem dX12_nextToken_393 : decode cX12_nextToken 393 = .ok (.putfield 143, 3) := by decide +kernel
theorem dX12_nextToken_385 : decode cX12_nextToken 385 = .ok (.if_icmp .ne 7, 3) := by decide +kernel
theorem dX12_nextToken_392 : decode cX12_nextToken 392 = .ok (.iconst 5, 1) := by decide +kernel
theorem dX12_nextToken_388 : decode cX12_nextToken 388 = .ok (.iconst 4, 1) := by decide +kernel
theorem dX12_nextToken_389 : decode cX12_nextToken 389 = .ok (.goto 4, 3) := by decide +kernel
theorem dX12_nextToken_349 : decode cX12_nextToken 349 = .ok (.if_icmp .eq 9, 3) := by decide +kernel
theorem dX12_nextToken_352 : decode cX12_nextToken 352 = .ok (.iload_n 1, 1) := by decide +kernel
theorem dX12_nextToken_353 : decode cX12_nextToken 353 = .ok (.bipush 62, 2) := by decide +kernel
theorem dX12_nextToken_355 : decode cX12_nextToken 355 = .ok (.if_icmp .ne 41, 3) := by decide +kernel
theorem dX12_nextToken_335 : decode cX12_nextToken 335 = .ok (.ifCond .eq 7, 3) := by decide +kernel
theorem dX12_nextToken_342 : decode cX12_nextToken 342 = .ok (.iconst 3, 1) := by decide +kernel
theorem dX12_nextToken_338 : decode cX12_nextToken 338 = .ok (.iload_n 1, 1) := by decide +kernel
theorem dX12_nextToken_339 : decode cX12_nextToken 339 = .ok (.goto 4, 3) := by decide +kernel
theorem dX12_nextToken_327 : decode cX12_nextToken 327 = .ok (.iconst 1, 1) := by decide +kernel
theorem dX12_nextToken_328 : decode cX12_nextToken 328 = .ok (.goto 4, 3) := by decide +kernel
theorem dX12_nextToken_258 : decode cX12_nextToken 258 = .ok (.if_icmp .eq 69, 3) := by decide +kernel
theorem dX12_nextToken_261 : decode cX12_nextToken 261 = .ok (.iload_n 1, 1) := by decide +kernel
theorem dX12_nextToken_262 : decode cX12_nextToken 262 = .ok (.bipush 62, 2) := by decide +kernel
theorem dX12_nextToken_264 : decode cX12_nextToken 264 = .ok (.if_icmp .eq 63, 3) := by decide +kernel
theorem dX12_nextToken_267 : decode cX12_nextToken 267 = .ok (.iload_n 1, 1) := by decide +kernel
theorem dX12_nextToken_268 : decode cX12_nextToken 268 = .ok (.bipush 61, 2) := by decide +kernel
theorem dX12_nextToken_270 : decode cX12_nextToken 270 = .ok (.if_icmp .eq 57, 3) := by decide +kernel
theorem dX12_nextToken_273 : decode cX12_nextToken 273 = .ok (.iload_n 1, 1) := by decide +kernel
theorem dX12_nextToken_274 : decode cX12_nextToken 274 = .ok (.bipush 35, 2) := by decide +kernel
theorem dX12_nextToken_276 : decode cX12_nextToken 276 = .ok (.if_icmp .eq 51, 3) := by decide +kernel
theorem dX12_nextToken_279 : decode cX12_nextToken 279 = .ok (.iload_n 1, 1) := by decide +kernel
theorem dX12_nextToken_280 : decode cX12_nextToken 280 = .ok (.bipush 43, 2) := by decide +kernel
theorem dX12_nextToken_282 : decode cX12_nextToken 282 = .ok (.if_icmp .eq 45, 3) := by decide +kernel
theorem dX12_nextToken_285 : decode cX12_nextToken 285 = .ok (.iload_n 1, 1) := by decide +kernel
theorem dX12_nextToken_286 : decode cX12_nextToken 286 = .ok (.bipush 45, 2) := by decide +kernel
theorem dX12_nextToken_288 : decode cX12_nextToken 288 = .ok (.if_icmp .eq 39, 3) := by decide +kernel
theorem dX12_nextToken_291 : decode cX12_nextToken 291 = .ok (.iload_n 1, 1) := by decide +kernel
theorem dX12_nextToken_292 : decode cX12_nextToken 292 = .ok (.bipush 42, 2) := by decide +kernel
theorem dX12_nextToken_294 : decode cX12_nextToken 294 = .ok (.if_icmp .eq 33, 3) := by decide +kernel
theorem dX12_nextToken_297 : decode cX12_nextToken 297 = .ok (.iload_n 1, 1) := by decide +kernel
theorem dX12_nextToken_298 : decode cX12_nextToken 298 = .ok (.bipush 47, 2) := by decide +kernel
theorem dX12_nextToken_300 : decode cX12_nextToken 300 = .ok (.if_icmp .eq 27, 3) := by decide +kernel
theorem dX12_nextToken_303 : decode cX12_nextToken 303 = .ok (.iload_n 1, 1) := by decide +kernel
theorem dX12_nextToken_304 : decode cX12_nextToken 304 = .ok (.bipush 40, 2) := by decide +kernel
theorem dX12_nextToken_306 : decode cX12_nextToken 306 = .ok (.if_icmp .eq 21, 3) := by decide +kernel
theorem dX12_nextToken_309 : decode cX12_nextToken 309 = .ok (.iload_n 1, 1) := by decide +kernel
theorem dX12_nextToken_310 : decode cX12_nextToken 310 = .ok (.bipush 41, 2) := by decide +kernel
theorem dX12_nextToken_312 : decode cX12_nextToken 312 = .ok (.if_icmp .eq 15, 3) := by decide +kernel
theorem dX12_nextToken_315 : decode cX12_nextToken 315 = .ok (.iload_n 1, 1) := by decide +kernel
theorem dX12_nextToken_316 : decode cX12_nextToken 316 = .ok (.bipush 44, 2) := by decide +kernel
theorem dX12_nextToken_318 : decode cX12_nextToken 318 = .ok (.if_icmp .eq 9, 3) := by decide +kernel
theorem dX12_nextToken_321 : decode cX12_nextToken 321 = .ok (.iload_n 1, 1) := by decide +kernel
theorem dX12_nextToken_322 : decode cX12_nextToken 322 = .ok (.bipush 59, 2) := by decide +kernel
theorem dX12_nextToken_324 : decode cX12_nextToken 324 = .ok (.if_icmp .ne 7, 3) := by decide +kernel
theorem dX12_nextToken_331 : decode cX12_nextToken 331 = .ok (.iconst 0, 1) := by decide +kernel
theorem dX12_nextToken_151 : decode cX12_nextToken 151 = .ok (.aload_n 0, 1) := by decide +kernel
theorem dX12_nextToken_152 : decode cX12_nextToken 152 = .ok (.iconst 2, 1) := by decide +kernel
theorem dX12_nextToken_153 : decode cX12_nextToken 153 = .ok (.putfield 143, 3) := by decide +kernel
theorem dX12_nextToken_156 : decode cX12_nextToken 156 = .ok (.aload_n 0, 1) := by decide +kernel
theorem dX12_nextToken_157 : decode cX12_nextToken 157 = .ok (.lconst 0, 1) := by decide +kernel
theorem tw_838 : Cond.fieldLink RX12 156 "RingsUnderModel" "word" "J" ∈ wsL_law := List.mem_of_getElem? (i := 838) (by decide +kernel)
theorem dX12_nextToken_158 : decode cX12_nextToken 158 = .ok (.putfield 156, 3) := by decide +kernel
theorem dX12_nextToken_161 : decode cX12_nextToken 161 = .ok (.aload_n 0, 1) := by decide +kernel
theorem dX12_nextToken_162 : decode cX12_nextToken 162 = .ok (.aload_n 0, 1) := by decide +kernel
theorem dX12_nextToken_163 : decode cX12_nextToken 163 = .ok (.getfield 134, 3) := by decide +kernel
theorem dX12_nextToken_166 : decode cX12_nextToken 166 = .ok (.invokevirtual 137, 3) := by decide +kernel
theorem dX12_nextToken_169 : decode cX12_nextToken 169 = .ok (.invokestatic 153, 3) := by decide +kernel
theorem dX12_nextToken_172 : decode cX12_nextToken 172 = .ok (.ifCond .eq 51, 3) := by decide +kernel
theorem dX12_nextToken_223 : decode cX12_nextToken 223 = .ok (.aload_n 0, 1) := by decide +kernel
theorem dX12_nextToken_224 : decode cX12_nextToken 224 = .ok (.getfield 134, 3) := by decide +kernel
theorem dX12_nextToken_227 : decode cX12_nextToken 227 = .ok (.aload_n 0, 1) := by decide +kernel
theorem dX12_nextToken_228 : decode cX12_nextToken 228 = .ok (.getfield 140, 3) := by decide +kernel
theorem dX12_nextToken_231 : decode cX12_nextToken 231 = .ok (.isub, 1) := by decide +kernel
theorem dX12_nextToken_232 : decode cX12_nextToken 232 = .ok (.bipush 7, 2) := by decide +kernel
theorem dX12_nextToken_234 : decode cX12_nextToken 234 = .ok (.if_icmp .le 162, 3) := by decide +kernel
theorem dX12_nextToken_237 : decode cX12_nextToken 237 = .ok (.aload_n 0, 1) := by decide +kernel
theorem dX12_nextToken_238 : decode cX12_nextToken 238 = .ok (.lconst 0, 1) := by decide +kernel
theorem dX12_nextToken_239 : decode cX12_nextToken 239 = .ok (.putfield 156, 3) := by decide +kernel
theorem dX12_nextToken_242 : decode cX12_nextToken 242 = .ok (.goto 154, 3) := by decide +kernel
theorem dX12_nextToken_175 : decode cX12_nextToken 175 = .ok (.aload_n 0, 1) := by decide +kernel
theorem dX12_nextToken_176 : decode cX12_nextToken 176 = .ok (.getfield 134, 3) := by decide +kernel
theorem dX12_nextToken_179 : decode cX12_nextToken 179 = .ok (.aload_n 0, 1) := by decide +kernel
theorem dX12_nextToken_180 : decode cX12_nextToken 180 = .ok (.getfield 140, 3) := by decide +kernel
theorem dX12_nextToken_183 : decode cX12_nextToken 183 = .ok (.isub, 1) := by decide +kernel
theorem dX12_nextToken_184 : decode cX12_nextToken 184 = .ok (.bipush 7, 2) := by decide +kernel
theorem dX12_nextToken_210 : decode cX12_nextToken 210 = .ok (.aload_n 0, 1) := by decide +kernel
theorem dX12_nextToken_211 : decode cX12_nextToken 211 = .ok (.dup, 1) := by decide +kernel
theorem dX12_nextToken_212 : decode cX12_nextToken 212 = .ok (.getfield 134, 3) := by decide +kernel
theorem dX12_nextToken_215 : decode cX12_nextToken 215 = .ok (.iconst 1, 1) := by decide +kernel
theorem dX12_nextToken_216 : decode cX12_nextToken 216 = .ok (.iadd, 1) := by decide +kernel
theorem dX12_nextToken_217 : decode cX12_nextToken 217 = .ok (.putfield 134, 3) := by decide +kernel
theorem dX12_nextToken_220 : decode cX12_nextToken 220 = .ok (.goto (-59), 3) := by decide +kernel
theorem dX12_nextToken_186 : decode cX12_nextToken 186 = .ok (.if_icmp .ge 24, 3) := by decide +kernel
theorem dX12_nextToken_189 : decode cX12_nextToken 189 = .ok (.aload_n 0, 1) := by decide +kernel
theorem dX12_nextToken_190 : decode cX12_nextToken 190 = .ok (.aload_n 0, 1) := by decide +kernel
theorem dX12_nextToken_191 : decode cX12_nextToken 191 = .ok (.getfield 156, 3) := by decide +kernel
theorem dX12_nextToken_194 : decode cX12_nextToken 194 = .ok (.bipush 8, 2) := by decide +kernel
theorem dX12_nextToken_196 : decode cX12_nextToken 196 = .ok (.lshl, 1) := by decide +kernel
theorem dX12_nextToken_197 : decode cX12_nextToken 197 = .ok (.aload_n 0, 1) := by decide +kernel
theorem dX12_nextToken_198 : decode cX12_nextToken 198 = .ok (.aload_n 0, 1) := by decide +kernel
theorem dX12_nextToken_199 : decode cX12_nextToken 199 = .ok (.getfield 134, 3) := by decide +kernel
theorem dX12_nextToken_202 : decode cX12_nextToken 202 = .ok (.invokevirtual 137, 3) := by decide +kernel
theorem dX12_nextToken_205 : decode cX12_nextToken 205 = .ok (.i2l, 1) := by decide +kernel
theorem dX12_nextToken_206 : decode cX12_nextToken 206 = .ok (.lor, 1) := by decide +kernel
theorem dX12_nextToken_207 : decode cX12_nextToken 207 = .ok (.putfield 156, 3) := by decide +kernel
theorem dX12_nextToken_75 : decode cX12_nextToken 75 = .ok (.aload_n 0, 1) := by decide +kernel
theorem dX12_nextToken_76 : decode cX12_nextToken 76 = .ok (.iconst 1, 1) := by decide +kernel
theorem dX12_nextToken_77 : decode cX12_nextToken 77 = .ok (.putfield 143, 3) := by decide +kernel
theorem dX12_nextToken_80 : decode cX12_nextToken 80 = .ok (.aload_n 0, 1) := by decide +kernel
theorem dX12_nextToken_81 : decode cX12_nextToken 81 = .ok (.iconst 0, 1) := by decide +kernel
theorem tw_836 : Cond.fieldLink RX12 149 "RingsUnderModel" "number" "I" ∈ wsL_law := List.mem_of_getElem? (i := 836) (by decide +kernel)
theorem dX12_nextToken_82 : decode cX12_nextToken 82 = .ok (.putfield 149, 3) := by decide +kernel
theorem dX12_nextToken_85 : decode cX12_nextToken 85 = .ok (.aload_n 0, 1) := by decide +kernel
theorem dX12_nextToken_86 : decode cX12_nextToken 86 = .ok (.aload_n 0, 1) := by decide +kernel
theorem dX12_nextToken_87 : decode cX12_nextToken 87 = .ok (.getfield 134, 3) := by decide +kernel
theorem dX12_nextToken_90 : decode cX12_nextToken 90 = .ok (.invokevirtual 137, 3) := by decide +kernel
theorem dX12_nextToken_93 : decode cX12_nextToken 93 = .ok (.invokestatic 146, 3) := by decide +kernel
theorem dX12_nextToken_96 : decode cX12_nextToken 96 = .ok (.ifCond .eq 300, 3) := by decide +kernel
theorem dX12_nextToken_99 : decode cX12_nextToken 99 = .ok (.aload_n 0, 1) := by decide +kernel
theorem dX12_nextToken_100 : decode cX12_nextToken 100 = .ok (.getfield 149, 3) := by decide +kernel
theorem tw_837 : Cond.constant RX12 152 (100000) ∈ wsL_law := List.mem_of_getElem? (i := 837) (by decide +kernel)
theorem dX12_nextToken_103 : decode cX12_nextToken 103 = .ok (.ldc 152, 2) := by decide +kernel
theorem dX12_nextToken_105 : decode cX12_nextToken 105 = .ok (.if_icmp .ge 26, 3) := by decide +kernel
theorem dX12_nextToken_131 : decode cX12_nextToken 131 = .ok (.aload_n 0, 1) := by decide +kernel
theorem dX12_nextToken_132 : decode cX12_nextToken 132 = .ok (.dup, 1) := by decide +kernel
theorem dX12_nextToken_133 : decode cX12_nextToken 133 = .ok (.getfield 134, 3) := by decide +kernel
theorem dX12_nextToken_136 : decode cX12_nextToken 136 = .ok (.iconst 1, 1) := by decide +kernel
theorem dX12_nextToken_137 : decode cX12_nextToken 137 = .ok (.iadd, 1) := by decide +kernel
theorem dX12_nextToken_138 : decode cX12_nextToken 138 = .ok (.putfield 134, 3) := by decide +kernel
theorem dX12_nextToken_141 : decode cX12_nextToken 141 = .ok (.goto (-56), 3) := by decide +kernel
theorem dX12_nextToken_108 : decode cX12_nextToken 108 = .ok (.aload_n 0, 1) := by decide +kernel
theorem dX12_nextToken_109 : decode cX12_nextToken 109 = .ok (.bipush 10, 2) := by decide +kernel
theorem dX12_nextToken_111 : decode cX12_nextToken 111 = .ok (.aload_n 0, 1) := by decide +kernel
theorem dX12_nextToken_112 : decode cX12_nextToken 112 = .ok (.getfield 149, 3) := by decide +kernel
theorem dX12_nextToken_115 : decode cX12_nextToken 115 = .ok (.imul, 1) := by decide +kernel
theorem dX12_nextToken_116 : decode cX12_nextToken 116 = .ok (.aload_n 0, 1) := by decide +kernel
theorem dX12_nextToken_117 : decode cX12_nextToken 117 = .ok (.aload_n 0, 1) := by decide +kernel
theorem dX12_nextToken_118 : decode cX12_nextToken 118 = .ok (.getfield 134, 3) := by decide +kernel
theorem dX12_nextToken_121 : decode cX12_nextToken 121 = .ok (.invokevirtual 137, 3) := by decide +kernel
theorem dX12_nextToken_124 : decode cX12_nextToken 124 = .ok (.iadd, 1) := by decide +kernel
theorem dX12_nextToken_125 : decode cX12_nextToken 125 = .ok (.bipush 48, 2) := by decide +kernel
theorem dX12_nextToken_127 : decode cX12_nextToken 127 = .ok (.isub, 1) := by decide +kernel
theorem dX12_nextToken_128 : decode cX12_nextToken 128 = .ok (.putfield 149, 3) := by decide +kernel
theorem dX12_nextToken_60 : decode cX12_nextToken 60 = .ok (.aload_n 0, 1) := by decide +kernel
theorem dX12_nextToken_61 : decode cX12_nextToken 61 = .ok (.iconst 0, 1) := by decide +kernel
theorem dX12_nextToken_62 : decode cX12_nextToken 62 = .ok (.putfield 143, 3) := by decide +kernel
theorem dX12_nextToken_65 : decode cX12_nextToken 65 = .ok (.goto 331, 3) := by decide +kernel
set_option maxHeartbeats 4000000 in
set_option maxRecDepth 100000 in
theorem s_X12_stands (l : Launch) (D : va_G) (t : pq_T) (σ : pq_S) (I : Nat → Nat → Int32) (J : Nat → Nat → Int64) (ri : Nat → Nat → Int32) (rj : Nat → Nat → Int64) (rq : Nat → Nat → Option Nat) (sz : Nat) (tg : Nat → Nat) (hSH : SH σ tg) (hG0 : GT tg I ri) (this : Nat) (a0 : Int32) (hL_this : this ∈ σ.1) (hK_this : σ.2.1 this = 12) (h_a0 : rg a0 0 39) : MetI l yX12_stands (wa yX12_stands cX12_stands 3 (some .boolean)) ({ frames := 4, cells := 0, slots := 0, locals := 102 }) [.ref this, .int a0] D t σ (I, J, ri, rj, rq) sz 0 0 (fun (r : Int32) (u : pq_S × pq_M) => ∃ ri' : Nat → Nat → Int32, ∃ rj' : Nat → Nat → Int64, u = (σ, I, J, ri', rj', rq) ∧ GM [] tg σ I ri I ri' rq ∧ ((r = 1 ∧ True) ∨ (r = 0 ∧ True))) := by
  refine Met.ofW (cc := cX12_stands) (maxL := 3) (ret := (some .boolean)) (by decide) rfl ?_
  intro p e s m args below meth c s₁ B hml hv
  obtain ⟨rfl, hsz, hP, hK, hD0, hN⟩ := hv
  have hx := B.exec
  have hb := B.bytes
  have hr := B.returns
  have hts := atoms_spec (ws := (wa yX12_stands cX12_stands 3 (some .boolean))) B.pre
  have hown : s.vm.findClass RX12 = some m.cls := findClass_of_methodNamed B.named
  have hlocks := B.notSynchronized
  subst hsz
  have hD : va_D (pq_B t σ (I, J, ri, rj, rq) s.heap.size) (pq_P t σ (I, J, ri, rj, rq)) := hD0.self
  generalize hAe : pq_B t σ (I, J, ri, rj, rq) s.heap.size = A at hD ⊢
  have hA : ∀ q : Nat, s.heap.size ≤ q → A q := fun q h => by rw [← hAe]; exact Or.inr h
  have hS : va_S A s.heap s.heap [] := va_S.rf
  have hG : GM [] tg σ I ri I ri rq := ⟨hG0, fun _ _ _ => rfl, fun _ _ _ _ _ => rfl, fun _ _ _ _ _ _ => rfl⟩
  have hl := lv_entry ([.ref this, .int a0]) (n := 3) (Nat.le_of_ble_eq_true rfl)
  rw [lg_entry_eq]
  generalize (lg_sl ([.ref this, .int a0]) ++ List.replicate (3 - (lg_sl ([.ref this, .int a0])).length) Slot.unset).toArray = ls at hl ⊢
  have hl : lv_has ls 3 [(0, .ref this), (1, .int a0)] := hl
  refine q_gen (fun Q hQ => ?_)
  have go : ∀ (H : Heap) (locs : List Loc) (ls : Array Slot), va_P D vwCl (pq_P t σ (I, J, ri, rj, rq)) H → va_D A (pq_P t σ (I, J, ri, rj, rq)) → va_S A s.heap H locs → lv_has ls 3 [(0, .ref this), (1, .int a0)] → W p l e ({ frames := 4, cells := 0, slots := 0, locals := 102 } : Room) s m (List.toArray ([.ref this, .int a0] : List Value)) below meth c H locs 0 0 Q (F0 m 0 ls []) := by
    intro H locs ls hP hD hS hl
    refine lv_aload_n hx hb dX12_stands_0 rfl (lv_at hl 0 rfl) ?_
    refine lv_iload_n hx hb dX12_stands_1 rfl (lv_at hl 1 rfl) ?_
    refine lv_bipush (v := 14) hx hb dX12_stands_2 (by decide) ?_
    refine pk_i (va_runV (As := [.int a0, .int 14]) (rest := []) ⟨hx, hb, hml, hown, hts⟩ (s_X12_cellAt_c14 l D t σ I J ri rj rq H.size tg hSH hG.1 this a0 hL_this hK_this (rg_w h_a0 (by decide))) (cwV 2 hts (tw_V tw_361 tw_362 tw_363 tw_5 tw_364) rfl rfl rfl (by decide +kernel) ⟨Nat.le_of_ble_eq_true rfl, Nat.le_of_ble_eq_true rfl⟩) ⟨pq_blind, pq_recv hK hP hL_this hK_this (by decide) rfl, pq_pre hK hN hP hD⟩ rfl rfl hl.1 rfl (lv_room (Nat.le_of_ble_eq_true rfl)) dX12_stands_4 ⟨Nat.le_of_ble_eq_true rfl, Nat.le_of_ble_eq_true rfl⟩) hD hS hA (fun x_1 σ1 μ1 H locs hw_2 hP hD hS => ?_)
    obtain ⟨hu_3, hr_5⟩ := hw_2
    obtain ⟨hu_3a, hu_3b⟩ := Prod.mk.inj hu_3
    rw [hu_3a, hu_3b] at hP hD
    refine lv_istore_n (lv' := [(2, .int x_1), (0, .ref this), (1, .int a0)]) hx hb dX12_stands_7 rfl hl (by decide) rfl (fun ls hl => ?_)
    refine lv_iload_n hx hb dX12_stands_8 rfl (lv_at hl 0 rfl) ?_
    refine lv_if_ge (tgt := 14) hx hb dX12_stands_9 (by decide) (fun c_6 => ?_) (fun c_6 => ?_)
    · have tc_7 : 0 ≤ (x_1).toInt := Int32.le_iff_toInt_le.mp c_6
      have h_8 : rg x_1 0 39 := rg_le2 c_6 (rg_k (0 : Int32) 0 rfl) hr_5 (by decide)
      have uh_8 := h_8.1
      have vh_8 := h_8.2
      refine lv_aload_n hx hb dX12_stands_14 rfl (lv_at hl 1 rfl) ?_
      obtain ⟨w_9, hR_w_9, hL_w_9, hK_w_9, hN_w_9, hT_w_9⟩ := sh_a hSH 384 (ci := 12) (kd := 13) (len := 12720) rfl (by decide) hL_this hK_this
      refine pg_f (v := .ref w_9) (C := RX12) (T := TX12) (N := 31) hx hb hts (tw_i inlX12) hown hK hP hL_this hK_this (by decide) rfl 0 (by decide) (hts _ (tw_c tw_176)) (pq_hv rfl hR_w_9) dX12_stands_15 ?_
      refine lv_iconst (v := 0) hx hb dX12_stands_18 (by decide) ?_
      refine pl_i hx hb hK hP hL_w_9 hK_w_9 hN_w_9 (vp_in_iff.mpr (by decide)) dX12_stands_19 ?_
      refine lv_tov (ri w_9 0) rfl ?_
      have h_10 : rg (ri w_9 0) 0 600 := GM.z0 hG0 (by rw [hT_w_9]; decide) (i := 0) (k := 0) (by decide) rfl
      have uh_10 := h_10.1
      have vh_10 := h_10.2
      have K_45 : ∀  (ri_43 : Nat → Nat → Int32) (rj_44 : Nat → Nat → Int64) (H : Heap) (locs : List Loc) (ls : Array Slot), GM [] tg σ I ri I ri_43 rq → va_P D vwCl (pq_P t σ (I, J, ri_43, rj_44, rq)) H → va_D A (pq_P t σ (I, J, ri_43, rj_44, rq)) → va_S A s.heap H locs → lv_has ls 3 [] → W p l e ({ frames := 4, cells := 0, slots := 0, locals := 102 } : Room) s m (List.toArray ([.ref this, .int a0] : List Value)) below meth c H locs 0 0 Q (F0 m 56 ls []) := by
        intro ri_43 rj_44 H locs ls hG hP hD hS hl
        refine lv_iconst (v := 1) hx hb dX12_stands_56 (by decide) ?_
        refine lv_goto (tgt := 61) hx hb dX12_stands_57 (by decide) ?_
        subst hQ
        exact W.zret (v := 1) hx hb hr (by decide) (fun t1 ht hW => ⟨⟨1, (σ, I, J, ri_43, rj_44, rq), rfl, ⟨ri_43, rj_44, rfl, hG, (Or.inl ⟨rfl, trivial⟩)⟩, by rw [ht]; exact hP, va_K.moved hW.alike hK, hD⟩, hS.F ht⟩) hS.2.2 dX12_stands_61
      refine lv_if_eq (tgt := 56) hx hb dX12_stands_20 (by decide) (fun c_46 => ?_) (fun c_46 => ?_)
      · have tc_47 : (ri w_9 0).toInt = 0 := congrArg Int32.toInt c_46
        have h_48 : rg (ri w_9 0) 0 0 := rg_and h_10 (rg_of_eq c_46 (rg_k (0 : Int32) 0 rfl)) (by decide)
        have uh_48 := h_48.1
        have vh_48 := h_48.2
        exact K_45 ri rj _ _ _ hG hP hD hS (lv_sub hl [] rfl)
      · have tc_49 : (ri w_9 0).toInt ≠ 0 := fun q => c_46 (Int32.toInt_inj.mp q)
        have h_50 : rg (ri w_9 0) 1 600 := rg_ne c_46 h_10 0 rfl (by decide)
        have uh_50 := h_50.1
        have vh_50 := h_50.2
        refine lv_aload_n hx hb dX12_stands_23 rfl (lv_at hl 1 rfl) ?_
        refine lv_iload_n hx hb dX12_stands_24 rfl (lv_at hl 2 rfl) ?_
        refine lv_bipush (v := 12) hx hb dX12_stands_25 (by decide) ?_
        refine pk_i (va_runV (As := [.int a0, .int 12]) (rest := []) ⟨hx, hb, hml, hown, hts⟩ (s_X12_cellAt_c12 l D t σ I J ri rj rq H.size tg hSH hG.1 this a0 hL_this hK_this (rg_w h_a0 (by decide))) (cwV 2 hts (tw_V tw_361 tw_362 tw_363 tw_5 tw_364) rfl rfl rfl (by decide +kernel) ⟨Nat.le_of_ble_eq_true rfl, Nat.le_of_ble_eq_true rfl⟩) ⟨pq_blind, pq_recv hK hP hL_this hK_this (by decide) rfl, pq_pre hK hN hP hD⟩ rfl rfl hl.1 rfl (lv_room (Nat.le_of_ble_eq_true rfl)) dX12_stands_27 ⟨Nat.le_of_ble_eq_true rfl, Nat.le_of_ble_eq_true rfl⟩) hD hS hA (fun x_51 σ1 μ1 H locs hw_52 hP hD hS => ?_)
        have hu_53 := hw_52
        obtain ⟨hu_53a, hu_53b⟩ := Prod.mk.inj hu_53
        rw [hu_53a, hu_53b] at hP hD
        refine lv_iconst (v := 1) hx hb dX12_stands_30 (by decide) ?_
        refine lv_icmp_eq (tgt := 56) hx hb dX12_stands_31 (by decide) (fun c_56 => ?_) (fun c_56 => ?_)
        · have tc_57 : (x_51).toInt = 1 := congrArg Int32.toInt c_56
          have h_58 : rg x_51 1 1 := rg_and (rg_full _) (rg_of_eq c_56 (rg_k (1 : Int32) 1 rfl)) (by decide)
          have uh_58 := h_58.1
          have vh_58 := h_58.2
          exact K_45 ri rj _ _ _ hG hP hD hS (lv_sub hl [] rfl)
        · have tc_59 : (x_51).toInt ≠ 1 := fun q => c_56 (Int32.toInt_inj.mp q)
          refine lv_aload_n hx hb dX12_stands_34 rfl (lv_at hl 1 rfl) ?_
          refine lv_iconst (v := 1) hx hb dX12_stands_35 (by decide) ?_
          refine lv_iload_n hx hb dX12_stands_36 rfl (lv_at hl 0 rfl) ?_
          refine lv_aload_n hx hb dX12_stands_37 rfl (lv_at hl 1 rfl) ?_
          refine pg_f (v := .ref w_9) (C := RX12) (T := TX12) (N := 31) hx hb hts (tw_i inlX12) hown hK hP hL_this hK_this (by decide) rfl 0 (by decide) (hts _ (tw_c tw_176)) (pq_hv rfl hR_w_9) dX12_stands_38 ?_
          refine lv_iconst (v := 0) hx hb dX12_stands_41 (by decide) ?_
          refine pl_i hx hb hK hP hL_w_9 hK_w_9 hN_w_9 (vp_in_iff.mpr (by decide)) dX12_stands_42 ?_
          refine lv_tov (ri w_9 0) rfl ?_
          refine lv_aload_n hx hb dX12_stands_43 rfl (lv_at hl 1 rfl) ?_
          refine lv_iload_n hx hb dX12_stands_44 rfl (lv_at hl 2 rfl) ?_
          refine lv_bipush (v := 11) hx hb dX12_stands_45 (by decide) ?_
          refine pk_i (va_runV (As := [.int a0, .int 11]) (rest := [.int (ri w_9 0), .int x_1, .int 1, .ref this]) ⟨hx, hb, hml, hown, hts⟩ (s_X12_cellAt_c11 l D t σ I J ri rj rq H.size tg hSH hG.1 this a0 hL_this hK_this (rg_w h_a0 (by decide))) (cwV 2 hts (tw_V tw_361 tw_362 tw_363 tw_5 tw_364) rfl rfl rfl (by decide +kernel) ⟨Nat.le_of_ble_eq_true rfl, Nat.le_of_ble_eq_true rfl⟩) ⟨pq_blind, pq_recv hK hP hL_this hK_this (by decide) rfl, pq_pre hK hN hP hD⟩ rfl rfl hl.1 rfl (lv_room (Nat.le_of_ble_eq_true rfl)) dX12_stands_47 ⟨Nat.le_of_ble_eq_true rfl, Nat.le_of_ble_eq_true rfl⟩) hD hS hA (fun x_60 σ1 μ1 H locs hw_61 hP hD hS => ?_)
          have hu_62 := hw_61
          obtain ⟨hu_62a, hu_62b⟩ := Prod.mk.inj hu_62
          rw [hu_62a, hu_62b] at hP hD
          refine pk_i (va_runV (As := [.int 1, .int x_1, .int (ri w_9 0), .int x_60]) (rest := []) ⟨hx, hb, hml, hown, hts⟩ (s_X12_firstSo l D t σ I J ri rj rq H.size tg hSH hG.1 this (1 : Int32) x_1 (ri w_9 0) x_60 hL_this hK_this (rg_w (rg_k (1 : Int32) 1 rfl) (by decide)) (rg_w h_8 (by decide)) w_9 hR_w_9 hL_w_9 hK_w_9 hN_w_9 hT_w_9) (cwV 4 hts (tw_V tw_597 tw_598 tw_599 tw_5 tw_600) rfl rfl rfl (by decide +kernel) ⟨Nat.le_of_ble_eq_true rfl, Nat.le_of_ble_eq_true rfl⟩) ⟨pq_blind, pq_recv hK hP hL_this hK_this (by decide) rfl, pq_pre hK hN hP hD⟩ rfl rfl hl.1 rfl (lv_room (Nat.le_of_ble_eq_true rfl)) dX12_stands_50 ⟨Nat.le_of_ble_eq_true rfl, Nat.le_of_ble_eq_true rfl⟩) hD hS hA (fun x_65 σ1 μ1 H locs hw_66 hP hD hS => ?_)
          obtain ⟨ri_67, rj_68, hu_69, hg_70, hp_72, hr_71⟩ := hw_66
          obtain ⟨hu_69a, hu_69b⟩ := Prod.mk.inj hu_69
          rw [hu_69a, hu_69b] at hP hD
          have hG := GM.tr hG hg_70 (by decide)
          refine lv_if_lt (tgt := 60) hx hb dX12_stands_53 (by decide) (fun c_73 => ?_) (fun c_73 => ?_)
          · have tc_74 : (x_65).toInt < 0 := Int32.lt_iff_toInt_lt.mp c_73
            have h_75 : rg x_65 (-1) (-1) := rg_lt1 c_73 hr_71 (rg_k (0 : Int32) 0 rfl) (by decide)
            have uh_75 := h_75.1
            have vh_75 := h_75.2
            refine lv_iconst (v := 0) hx hb dX12_stands_60 (by decide) ?_
            subst hQ
            exact W.zret (v := 0) hx hb hr (by decide) (fun t1 ht hW => ⟨⟨0, (σ, I, J, ri_67, rj_68, rq), rfl, ⟨ri_67, rj_68, rfl, hG, (Or.inr ⟨rfl, trivial⟩)⟩, by rw [ht]; exact hP, va_K.moved hW.alike hK, hD⟩, hS.F ht⟩) hS.2.2 dX12_stands_61
          · have tc_76 : 0 ≤ (x_65).toInt := Int32.le_iff_toInt_le.mp (nlt c_73)
            have h_77 : rg x_65 0 19 := rg_le2 (nlt c_73) (rg_k (0 : Int32) 0 rfl) hr_71 (by decide)
            have uh_77 := h_77.1
            have vh_77 := h_77.2
            exact K_45 ri_67 rj_68 _ _ _ hG hP hD hS (lv_sub hl [] rfl)
    · have tc_78 : (x_1).toInt < 0 := Int32.lt_iff_toInt_lt.mp (nle c_6)
      have h_79 : rg x_1 (-1) (-1) := rg_lt1 (nle c_6) hr_5 (rg_k (0 : Int32) 0 rfl) (by decide)
      have uh_79 := h_79.1
      have vh_79 := h_79.2
      refine lv_iconst (v := 0) hx hb dX12_stands_12 (by decide) ?_
      subst hQ
      exact W.zret (v := 0) hx hb hr (by decide) (fun t1 ht hW => ⟨⟨0, (σ, I, J, ri, rj, rq), rfl, ⟨ri, rj, rfl, hG, (Or.inr ⟨rfl, trivial⟩)⟩, by rw [ht]; exact hP, va_K.moved hW.alike hK, hD⟩, hS.F ht⟩) hS.2.2 dX12_stands_13
  exact go _ _ _ hP hD hS hl

set_option maxHeartbeats 4000000 in
set_option maxRecDepth 100000 in
theorem s_X12_titleOf (l : Launch) (D : va_G) (t : pq_T) (σ : pq_S) (I : Nat → Nat → Int32) (J : Nat → Nat → Int64) (ri : Nat → Nat → Int32) (rj : Nat → Nat → Int64) (rq : Nat → Nat → Option Nat) (sz : Nat) (tg : Nat → Nat) (hSH : SH σ tg) (hG0 : GT tg I ri) (this : Nat) (a0 : Int32) (a1 : Int32) (hL_this : this ∈ σ.1) (hK_this : σ.2.1 this = 12) : MetI l yX12_titleOf (wa yX12_titleOf cX12_titleOf 3 (some .int)) ({ frames := 5, cells := 0, slots := 0, locals := 124 }) [.ref this, .int a0, .int a1] D t σ (I, J, ri, rj, rq) sz 0 0 (fun (r : Int32) (u : pq_S × pq_M) => ∃ ri' : Nat → Nat → Int32, ∃ rj' : Nat → Nat → Int64, u = (σ, I, J, ri', rj', rq) ∧ GM [] tg σ I ri I ri' rq ∧ rg r (-1) 39) := by
  refine Met.ofW (cc := cX12_titleOf) (maxL := 3) (ret := (some .int)) (by decide) rfl ?_
  intro p e s m args below meth c s₁ B hml hv
  obtain ⟨rfl, hsz, hP, hK, hD0, hN⟩ := hv
  have hx := B.exec
  have hb := B.bytes
  have hr := B.returns
  have hts := atoms_spec (ws := (wa yX12_titleOf cX12_titleOf 3 (some .int))) B.pre
  have hown : s.vm.findClass RX12 = some m.cls := findClass_of_methodNamed B.named
  have hlocks := B.notSynchronized
  subst hsz
  have hD : va_D (pq_B t σ (I, J, ri, rj, rq) s.heap.size) (pq_P t σ (I, J, ri, rj, rq)) := hD0.self
  generalize hAe : pq_B t σ (I, J, ri, rj, rq) s.heap.size = A at hD ⊢
  have hA : ∀ q : Nat, s.heap.size ≤ q → A q := fun q h => by rw [← hAe]; exact Or.inr h
  have hS : va_S A s.heap s.heap [] := va_S.rf
  have hG : GM [] tg σ I ri I ri rq := ⟨hG0, fun _ _ _ => rfl, fun _ _ _ _ _ => rfl, fun _ _ _ _ _ _ => rfl⟩
  have hl := lv_entry ([.ref this, .int a0, .int a1]) (n := 3) (Nat.le_of_ble_eq_true rfl)
  rw [lg_entry_eq]
  generalize (lg_sl ([.ref this, .int a0, .int a1]) ++ List.replicate (3 - (lg_sl ([.ref this, .int a0, .int a1])).length) Slot.unset).toArray = ls at hl ⊢
  have hl : lv_has ls 3 [(0, .ref this), (1, .int a0), (2, .int a1)] := hl
  refine q_gen (fun Q hQ => ?_)
  have go : ∀ (H : Heap) (locs : List Loc) (ls : Array Slot), va_P D vwCl (pq_P t σ (I, J, ri, rj, rq)) H → va_D A (pq_P t σ (I, J, ri, rj, rq)) → va_S A s.heap H locs → lv_has ls 3 [(0, .ref this), (1, .int a0), (2, .int a1)] → W p l e ({ frames := 5, cells := 0, slots := 0, locals := 124 } : Room) s m (List.toArray ([.ref this, .int a0, .int a1] : List Value)) below meth c H locs 0 0 Q (F0 m 0 ls []) := by
    intro H locs ls hP hD hS hl
    refine lv_aload_n hx hb dX12_titleOf_0 rfl (lv_at hl 0 rfl) ?_
    refine lv_iload_n hx hb dX12_titleOf_1 rfl (lv_at hl 1 rfl) ?_
    refine pk_i (va_runV (As := [.int a0]) (rest := []) ⟨hx, hb, hml, hown, hts⟩ (s_X12_isCell l D t σ I J ri rj rq H.size tg hSH hG.1 this a0 hL_this hK_this) (cwV 1 hts (tw_V tw_340 tw_341 tw_342 tw_5 tw_343) rfl rfl rfl (by decide +kernel) ⟨Nat.le_of_ble_eq_true rfl, Nat.le_of_ble_eq_true rfl⟩) ⟨pq_blind, pq_recv hK hP hL_this hK_this (by decide) rfl, pq_pre hK hN hP hD⟩ rfl rfl hl.1 rfl (lv_room (Nat.le_of_ble_eq_true rfl)) dX12_titleOf_2 ⟨Nat.le_of_ble_eq_true rfl, Nat.le_of_ble_eq_true rfl⟩) hD hS hA (fun x_1 σ1 μ1 H locs hw_2 hP hD hS => ?_)
    obtain ⟨hu_3, hr_5⟩ := hw_2
    obtain ⟨hu_3a, hu_3b⟩ := Prod.mk.inj hu_3
    rw [hu_3a, hu_3b] at hP hD
    have h_6 : rg x_1 0 1 := by rcases hr_5 with ⟨q, -⟩ | ⟨q, -⟩ <;> rw [q] <;> exact ⟨by decide, by decide⟩
    have uh_6 := h_6.1
    have vh_6 := h_6.2
    have K_55 : ∀  (H : Heap) (locs : List Loc) (ls : Array Slot), GM [] tg σ I ri I ri rq → va_P D vwCl (pq_P t σ (I, J, ri, rj, rq)) H → va_D A (pq_P t σ (I, J, ri, rj, rq)) → va_S A s.heap H locs → lv_has ls 3 [] → W p l e ({ frames := 5, cells := 0, slots := 0, locals := 124 } : Room) s m (List.toArray ([.ref this, .int a0, .int a1] : List Value)) below meth c H locs 0 0 Q (F0 m 17 ls []) := by
      intro H locs ls hG hP hD hS hl
      refine lv_iconst (v := (-1)) hx hb dX12_titleOf_17 (by decide) ?_
      subst hQ
      exact W.iret (v := (-1)) hx hb hr (fun t1 ht hW => ⟨⟨(-1), (σ, I, J, ri, rj, rq), rfl, ⟨ri, rj, rfl, hG, (rg_w (rg_k (-1 : Int32) (-1) rfl) (by decide))⟩, by rw [ht]; exact hP, va_K.moved hW.alike hK, hD⟩, hS.F ht⟩) hS.2.2 dX12_titleOf_18
    refine lv_if_eq (tgt := 17) hx hb dX12_titleOf_5 (by decide) (fun c_56 => ?_) (fun c_56 => ?_)
    · have f_57 := (hr_5.resolve_left (fun q => absurd (q.1.symm.trans c_56) (by decide))).2
      have tc_58 : (x_1).toInt = 0 := congrArg Int32.toInt c_56
      have h_59 : rg x_1 0 0 := rg_and h_6 (rg_of_eq c_56 (rg_k (0 : Int32) 0 rfl)) (by decide)
      have uh_59 := h_59.1
      have vh_59 := h_59.2
      exact K_55 _ _ _ hG hP hD hS (lv_sub hl [] rfl)
    · have f_60 := (hr_5.resolve_right (fun q => c_56 q.1)).2
      have uf_60 := f_60.1
      have vf_60 := f_60.2
      have tc_61 : (x_1).toInt ≠ 0 := fun q => c_56 (Int32.toInt_inj.mp q)
      have h_62 : rg x_1 1 1 := rg_ne c_56 h_6 0 rfl (by decide)
      have uh_62 := h_62.1
      have vh_62 := h_62.2
      refine lv_iload_n hx hb dX12_titleOf_8 rfl (lv_at hl 2 rfl) ?_
      refine lv_iconst (v := 0) hx hb dX12_titleOf_9 (by decide) ?_
      refine lv_iconst (v := 1) hx hb dX12_titleOf_10 (by decide) ?_
      refine pk_i (va_runS (As := [.int a1, .int 0, .int 1]) (rest := []) ⟨hx, hb, hml, hown, hts⟩ (s_X12_isIn l D t σ I J ri rj rq H.size tg hSH hG.1 a1 (0 : Int32) (1 : Int32)) (va_cwS 3 hts (tw_S tw_235 tw_236 tw_5 tw_237) rfl rfl rfl (by decide +kernel) ⟨Nat.le_of_ble_eq_true rfl, Nat.le_of_ble_eq_true rfl⟩) ⟨pq_blind, pq_pre hK hN hP hD⟩ rfl rfl hl.1 rfl (lv_room (Nat.le_of_ble_eq_true rfl)) dX12_titleOf_11 ⟨Nat.le_of_ble_eq_true rfl, Nat.le_of_ble_eq_true rfl⟩) hD hS hA (fun x_63 σ1 μ1 H locs hw_64 hP hD hS => ?_)
      obtain ⟨hu_65, hr_67⟩ := hw_64
      obtain ⟨hu_65a, hu_65b⟩ := Prod.mk.inj hu_65
      rw [hu_65a, hu_65b] at hP hD
      have h_68 : rg x_63 0 1 := by rcases hr_67 with ⟨q, -⟩ | ⟨q, -⟩ <;> rw [q] <;> exact ⟨by decide, by decide⟩
      have uh_68 := h_68.1
      have vh_68 := h_68.2
      refine lv_if_ne (tgt := 19) hx hb dX12_titleOf_14 (by decide) (fun c_69 => ?_) (fun c_69 => ?_)
      · obtain ⟨f_70, f_71⟩ := (hr_67.resolve_right (fun q => c_69 q.1)).2
        have tc_72 : 0 ≤ (a1).toInt := Int32.le_iff_toInt_le.mp f_70
        have h_73 : rg a1 0 2147483647 := rg_le2 f_70 (rg_k (0 : Int32) 0 rfl) (rg_full _) (by decide)
        have uh_73 := h_73.1
        have vh_73 := h_73.2
        have tc_74 : (a1).toInt ≤ 1 := Int32.le_iff_toInt_le.mp f_71
        have h_75 : rg a1 0 1 := rg_le1 f_71 h_73 (rg_k (1 : Int32) 1 rfl) (by decide)
        have uh_75 := h_75.1
        have vh_75 := h_75.2
        have tc_76 : (x_63).toInt ≠ 0 := fun q => c_69 (Int32.toInt_inj.mp q)
        have h_77 : rg x_63 1 1 := rg_ne c_69 h_68 0 rfl (by decide)
        have uh_77 := h_77.1
        have vh_77 := h_77.2
        refine lv_iload_n hx hb dX12_titleOf_19 rfl (lv_at hl 2 rfl) ?_
        refine lv_if_ne (tgt := 33) hx hb dX12_titleOf_20 (by decide) (fun c_78 => ?_) (fun c_78 => ?_)
        · have tc_79 : (a1).toInt ≠ 0 := fun q => c_78 (Int32.toInt_inj.mp q)
          have h_80 : rg a1 1 1 := rg_ne c_78 h_75 0 rfl (by decide)
          have uh_80 := h_80.1
          have vh_80 := h_80.2
          refine lv_aload_n hx hb dX12_titleOf_33 rfl (lv_at hl 0 rfl) ?_
          refine lv_iload_n hx hb dX12_titleOf_34 rfl (lv_at hl 1 rfl) ?_
          refine pk_i (va_runV (As := [.int a0]) (rest := []) ⟨hx, hb, hml, hown, hts⟩ (s_X12_stands l D t σ I J ri rj rq H.size tg hSH hG.1 this a0 hL_this hK_this (rg_w f_60 (by decide))) (cwV 1 hts (tw_V tw_593 tw_594 tw_595 tw_5 tw_596) rfl rfl rfl (by decide +kernel) ⟨Nat.le_of_ble_eq_true rfl, Nat.le_of_ble_eq_true rfl⟩) ⟨pq_blind, pq_recv hK hP hL_this hK_this (by decide) rfl, pq_pre hK hN hP hD⟩ rfl rfl hl.1 rfl (lv_room (Nat.le_of_ble_eq_true rfl)) dX12_titleOf_35 ⟨Nat.le_of_ble_eq_true rfl, Nat.le_of_ble_eq_true rfl⟩) hD hS hA (fun x_81 σ1 μ1 H locs hw_82 hP hD hS => ?_)
          obtain ⟨ri_83, rj_84, hu_85, hg_86, hr_87⟩ := hw_82
          obtain ⟨hu_85a, hu_85b⟩ := Prod.mk.inj hu_85
          rw [hu_85a, hu_85b] at hP hD
          have hG := GM.tr hG hg_86 (by decide)
          have h_88 : rg x_81 0 1 := by rcases hr_87 with ⟨q, -⟩ | ⟨q, -⟩ <;> rw [q] <;> exact ⟨by decide, by decide⟩
          have uh_88 := h_88.1
          have vh_88 := h_88.2
          refine lv_if_eq (tgt := 45) hx hb dX12_titleOf_38 (by decide) (fun c_89 => ?_) (fun c_89 => ?_)
          · have tc_90 : (x_81).toInt = 0 := congrArg Int32.toInt c_89
            have h_91 : rg x_81 0 0 := rg_and h_88 (rg_of_eq c_89 (rg_k (0 : Int32) 0 rfl)) (by decide)
            have uh_91 := h_91.1
            have vh_91 := h_91.2
            refine lv_iconst (v := 0) hx hb dX12_titleOf_45 (by decide) ?_
            subst hQ
            exact W.iret (v := 0) hx hb hr (fun t1 ht hW => ⟨⟨0, (σ, I, J, ri_83, rj_84, rq), rfl, ⟨ri_83, rj_84, rfl, hG, (rg_w (rg_k (0 : Int32) 0 rfl) (by decide))⟩, by rw [ht]; exact hP, va_K.moved hW.alike hK, hD⟩, hS.F ht⟩) hS.2.2 dX12_titleOf_46
          · have tc_92 : (x_81).toInt ≠ 0 := fun q => c_89 (Int32.toInt_inj.mp q)
            have h_93 : rg x_81 1 1 := rg_ne c_89 h_88 0 rfl (by decide)
            have uh_93 := h_93.1
            have vh_93 := h_93.2
            refine lv_iconst (v := 1) hx hb dX12_titleOf_41 (by decide) ?_
            refine lv_goto (tgt := 46) hx hb dX12_titleOf_42 (by decide) ?_
            subst hQ
            exact W.iret (v := 1) hx hb hr (fun t1 ht hW => ⟨⟨1, (σ, I, J, ri_83, rj_84, rq), rfl, ⟨ri_83, rj_84, rfl, hG, (rg_w (rg_k (1 : Int32) 1 rfl) (by decide))⟩, by rw [ht]; exact hP, va_K.moved hW.alike hK, hD⟩, hS.F ht⟩) hS.2.2 dX12_titleOf_46
        · have tc_94 : (a1).toInt = 0 := congrArg Int32.toInt c_78
          have h_95 : rg a1 0 0 := rg_and h_75 (rg_of_eq c_78 (rg_k (0 : Int32) 0 rfl)) (by decide)
          have uh_95 := h_95.1
          have vh_95 := h_95.2
          refine lv_aload_n hx hb dX12_titleOf_23 rfl (lv_at hl 0 rfl) ?_
          refine lv_iload_n hx hb dX12_titleOf_24 rfl (lv_at hl 1 rfl) ?_
          refine lv_bipush (v := 14) hx hb dX12_titleOf_25 (by decide) ?_
          refine pk_i (va_runV (As := [.int a0, .int 14]) (rest := []) ⟨hx, hb, hml, hown, hts⟩ (s_X12_cellAt_c14 l D t σ I J ri rj rq H.size tg hSH hG.1 this a0 hL_this hK_this (rg_w f_60 (by decide))) (cwV 2 hts (tw_V tw_361 tw_362 tw_363 tw_5 tw_364) rfl rfl rfl (by decide +kernel) ⟨Nat.le_of_ble_eq_true rfl, Nat.le_of_ble_eq_true rfl⟩) ⟨pq_blind, pq_recv hK hP hL_this hK_this (by decide) rfl, pq_pre hK hN hP hD⟩ rfl rfl hl.1 rfl (lv_room (Nat.le_of_ble_eq_true rfl)) dX12_titleOf_27 ⟨Nat.le_of_ble_eq_true rfl, Nat.le_of_ble_eq_true rfl⟩) hD hS hA (fun x_96 σ1 μ1 H locs hw_97 hP hD hS => ?_)
          obtain ⟨hu_98, hr_100⟩ := hw_97
          obtain ⟨hu_98a, hu_98b⟩ := Prod.mk.inj hu_98
          rw [hu_98a, hu_98b] at hP hD
          refine lv_goto (tgt := 46) hx hb dX12_titleOf_30 (by decide) ?_
          subst hQ
          exact W.iret (v := x_96) hx hb hr (fun t1 ht hW => ⟨⟨x_96, (σ, I, J, ri, rj, rq), rfl, ⟨ri, rj, rfl, hG, (rg_w hr_100 (by decide))⟩, by rw [ht]; exact hP, va_K.moved hW.alike hK, hD⟩, hS.F ht⟩) hS.2.2 dX12_titleOf_46
      · have f_101 := (hr_67.resolve_left (fun q => absurd (q.1.symm.trans c_69) (by decide))).2
        have tc_102 : (x_63).toInt = 0 := congrArg Int32.toInt c_69
        have h_103 : rg x_63 0 0 := rg_and h_68 (rg_of_eq c_69 (rg_k (0 : Int32) 0 rfl)) (by decide)
        have uh_103 := h_103.1
        have vh_103 := h_103.2
        exact K_55 _ _ _ hG hP hD hS (lv_sub hl [] rfl)
  exact go _ _ _ hP hD hS hl

set_option maxHeartbeats 4000000 in
set_option maxRecDepth 100000 in
theorem s_X12_four (l : Launch) (D : va_G) (t : pq_T) (σ : pq_S) (I : Nat → Nat → Int32) (J : Nat → Nat → Int64) (ri : Nat → Nat → Int32) (rj : Nat → Nat → Int64) (rq : Nat → Nat → Option Nat) (sz : Nat) (tg : Nat → Nat) (hSH : SH σ tg) (hG0 : GT tg I ri) (this : Nat) (a0 : Int32) (hL_this : this ∈ σ.1) (hK_this : σ.2.1 this = 12) (hct : (I 388 this).toInt + 4 ≤ 300) : MetV l yX12_four (wa yX12_four cX12_four 3 none) ({ frames := 0, cells := 0, slots := 0, locals := 0 }) [.ref this, .int a0] D t σ (I, J, ri, rj, rq) sz 0 0 (fun (u : pq_S × pq_M) => ∃ I' : Nat → Nat → Int32, ∃ ri' : Nat → Nat → Int32, u = (σ, I', J, ri', rj, rq) ∧ GM [388] tg σ I ri I' ri' rq ∧ ((I' 388 this).toInt = (I 388 this).toInt + 4)) := by
  refine Met.ofW (cc := cX12_four) (maxL := 3) (ret := none) (by decide) rfl ?_
  intro p e s m args below meth c s₁ B hml hv
  obtain ⟨rfl, hsz, hP, hK, hD0, hN⟩ := hv
  have hx := B.exec
  have hb := B.bytes
  have hr := B.returns
  have hts := atoms_spec (ws := (wa yX12_four cX12_four 3 none)) B.pre
  have hown : s.vm.findClass RX12 = some m.cls := findClass_of_methodNamed B.named
  have hlocks := B.notSynchronized
  subst hsz
  have hD : va_D (pq_B t σ (I, J, ri, rj, rq) s.heap.size) (pq_P t σ (I, J, ri, rj, rq)) := hD0.self
  generalize hAe : pq_B t σ (I, J, ri, rj, rq) s.heap.size = A at hD ⊢
  have hA : ∀ q : Nat, s.heap.size ≤ q → A q := fun q h => by rw [← hAe]; exact Or.inr h
  have hS : va_S A s.heap s.heap [] := va_S.rf
  have hG : GM [388] tg σ I ri I ri rq := ⟨hG0, fun _ _ _ => rfl, fun _ _ _ _ _ => rfl, fun _ _ _ _ _ _ => rfl⟩
  have hl := lv_entry ([.ref this, .int a0]) (n := 3) (Nat.le_of_ble_eq_true rfl)
  rw [lg_entry_eq]
  generalize (lg_sl ([.ref this, .int a0]) ++ List.replicate (3 - (lg_sl ([.ref this, .int a0])).length) Slot.unset).toArray = ls at hl ⊢
  have hl : lv_has ls 3 [(0, .ref this), (1, .int a0)] := hl
  refine q_gen (fun Q hQ => ?_)
  have go : ∀ (H : Heap) (locs : List Loc) (ls : Array Slot), va_P D vwCl (pq_P t σ (I, J, ri, rj, rq)) H → va_D A (pq_P t σ (I, J, ri, rj, rq)) → va_S A s.heap H locs → lv_has ls 3 [(0, .ref this), (1, .int a0)] → W p l e ({ frames := 0, cells := 0, slots := 0, locals := 0 } : Room) s m (List.toArray ([.ref this, .int a0] : List Value)) below meth c H locs 0 0 Q (F0 m 0 ls []) := by
    intro H locs ls hP hD hS hl
    refine lv_bipush (v := 24) hx hb dX12_four_0 (by decide) ?_
    refine lv_istore_n (lv' := [(2, .int 24), (0, .ref this), (1, .int a0)]) hx hb dX12_four_2 rfl hl (by decide) rfl (fun ls hl => ?_)
    have L_194 : ∀ (n_193 : Nat) (x_169 : Int32) (I_170 : Nat → Nat → Int32) (ri_171 : Nat → Nat → Int32) (H : Heap) (locs : List Loc) (ls : Array Slot), rg x_169 (-8) 24 → (8 * ((I_170 388 this).toInt - (I 388 this).toInt) + (x_169).toInt = 24) → ((x_169).toInt - (-8)).toNat < n_193 → GM [388] tg σ I ri I_170 ri_171 rq → va_P D vwCl (pq_P t σ (I_170, J, ri_171, rj, rq)) H → va_D A (pq_P t σ (I_170, J, ri_171, rj, rq)) → va_S A s.heap H locs → lv_has ls 3 [(0, .ref this), (1, .int a0), (2, .int x_169)] → W p l e ({ frames := 0, cells := 0, slots := 0, locals := 0 } : Room) s m (List.toArray ([.ref this, .int a0] : List Value)) below meth c H locs 0 0 Q (F0 m 3 ls []) := by
      intro n_193
      induction n_193 with
      | zero => intro x_169 I_170 ri_171 H locs ls h_198 hrel_199 hm_192 hG hP hD hS hl; exact absurd hm_192 (Nat.not_lt_zero _)
      | succ n_193 ih_195 =>
        intro x_169 I_170 ri_171 H locs ls h_198 hrel_199 hm_192 hG hP hD hS hl
        have uh_198 := h_198.1
        have vh_198 := h_198.2
        refine lv_iload_n hx hb dX12_four_3 rfl (lv_at hl 2 rfl) ?_
        refine lv_if_lt (tgt := 39) hx hb dX12_four_4 (by decide) (fun c_200 => ?_) (fun c_200 => ?_)
        · have tc_201 : (x_169).toInt < 0 := Int32.lt_iff_toInt_lt.mp c_200
          have h_202 : rg x_169 (-8) (-1) := rg_lt1 c_200 h_198 (rg_k (0 : Int32) 0 rfl) (by decide)
          have uh_202 := h_202.1
          have vh_202 := h_202.2
          subst hQ
          exact W.vret hx hb hr (fun t1 ht hW => ⟨⟨(σ, I_170, J, ri_171, rj, rq), rfl, ⟨I_170, ri_171, rfl, hG, (by omega)⟩, by rw [ht]; exact hP, va_K.moved hW.alike hK, hD⟩, hS.F ht⟩) hS.2.2 dX12_four_39
        · have tc_203 : 0 ≤ (x_169).toInt := Int32.le_iff_toInt_le.mp (nlt c_200)
          have h_204 : rg x_169 0 24 := rg_le2 (nlt c_200) (rg_k (0 : Int32) 0 rfl) h_198 (by decide)
          have uh_204 := h_204.1
          have vh_204 := h_204.2
          refine lv_aload_n hx hb dX12_four_7 rfl (lv_at hl 0 rfl) ?_
          obtain ⟨w_205, hR_w_205, hL_w_205, hK_w_205, hN_w_205, hT_w_205⟩ := sh_a hSH 387 (ci := 12) (kd := 13) (len := 300) rfl (by decide) hL_this hK_this
          refine pg_f (v := .ref w_205) (C := RX12) (T := TX12) (N := 31) hx hb hts (tw_i inlX12) hown hK hP hL_this hK_this (by decide) rfl 3 (by decide) (hts _ (tw_c tw_179)) (pq_hv rfl hR_w_205) dX12_four_8 ?_
          refine lv_aload_n hx hb dX12_four_11 rfl (lv_at hl 0 rfl) ?_
          refine pg_f (v := .int (I_170 388 this)) (C := RX12) (T := TX12) (N := 31) hx hb hts (tw_i inlX12) hown hK hP hL_this hK_this (by decide) rfl 4 (by decide) (hts _ (tw_c tw_631)) rfl dX12_four_12 ?_
          have h_206 : rg (I_170 388 this) 0 300 := GM.rI hG 388 rfl
          have uh_206 := h_206.1
          have vh_206 := h_206.2
          refine lv_iload_n hx hb dX12_four_15 rfl (lv_at hl 1 rfl) ?_
          refine lv_iload_n hx hb dX12_four_16 rfl (lv_at hl 2 rfl) ?_
          refine lv_ishr hx hb dX12_four_17 ?_
          refine lv_topi (fun x_207 ex_207 => ?_)
          refine lv_sipush (v := 255) hx hb dX12_four_18 (by decide) ?_
          refine lv_iand hx hb dX12_four_21 ?_
          refine lv_topi (fun x_208 ex_208 => ?_)
          have h_209 : rg x_208 0 255 := rg_of_eq ex_208 (rg_m255 _)
          have uh_209 := h_209.1
          have vh_209 := h_209.2
          have h_211 : rg (I_170 388 this) 0 299 := ⟨by omega, by omega⟩
          have uh_211 := h_211.1
          have vh_211 := h_211.2
          refine pt_i hx hb hK hP hD hS hL_w_205 hK_w_205 hN_w_205 (rg_in h_211 (by decide)) dX12_four_22 (fun r_210 H locs er_210 hP hD hS => ?_)
          have hG := GM.wR hG hSH hT_w_205 rfl er_210 (rg_w h_209 (by decide)) (by decide)
          refine lv_aload_n hx hb dX12_four_23 rfl (lv_at hl 0 rfl) ?_
          refine lv_dup hx hb dX12_four_24 rfl ?_
          refine pg_f (v := .int (I_170 388 this)) (C := RX12) (T := TX12) (N := 31) hx hb hts (tw_i inlX12) hown hK hP hL_this hK_this (by decide) rfl 4 (by decide) (hts _ (tw_c tw_631)) rfl dX12_four_25 ?_
          refine lv_iconst (v := 1) hx hb dX12_four_28 (by decide) ?_
          refine lv_iadd hx hb dX12_four_29 ?_
          refine lv_topi (fun x_212 ex_212 => ?_)
          have h_213 : rg x_212 1 300 := rg_of_eq ex_212 (rg_add h_211 (rg_k (1 : Int32) 1 rfl) (by decide))
          have uh_213 := h_213.1
          have vh_213 := h_213.2
          have tx_212 : (x_212).toInt = (I_170 388 this).toInt + 1 := by rw [ex_212]; exact i_add_rg (a2 := (I_170 388 this).toInt) (b2 := 1) rfl rfl h_211 (rg_k (1 : Int32) 1 rfl) (by decide)
          refine pp_i (v := x_212) (ty := .int) (C := RX12) (T := TX12) (N := 31) hx hb hts (tw_i inlX12) tyX12 tyX12_ok nmX12 hown hK hP hD hS hL_this hK_this (by decide) rfl 4 388 (by decide) (hts _ (tw_c tw_631)) rfl (by decide +kernel) rfl rfl (Nat.le_of_ble_eq_true rfl) (ps_388 _ _ _ _ _) dX12_four_30 (fun I_214 H locs eI_214 hP hD hS => ?_)
          have hG := GM.wI hG 388 rfl eI_214 (rg_w h_213 (by decide)) (by decide)
          have tt_215 : (I_214 388 this).toInt = (x_212).toInt := by rw [eI_214, pq_us]
          obtain ⟨x_216, ex_216⟩ : ∃ y : Int32, y = x_169 + Int32.ofInt (-8) := ⟨_, rfl⟩
          have h_217 : rg x_216 (-8) 16 := rg_of_eq ex_216 (rg_add h_204 (rg_k (Int32.ofInt (-8)) (-8) rfl) (by decide))
          have uh_217 := h_217.1
          have vh_217 := h_217.2
          have tx_216 : (x_216).toInt = (x_169).toInt + (-8) := by rw [ex_216]; exact i_add_rg (a2 := (x_169).toInt) (b2 := (-8)) rfl rfl h_204 (rg_k (Int32.ofInt (-8)) (-8) rfl) (by decide)
          refine lv_iinc (v := x_216) (lv' := [(2, .int x_216), (0, .ref this), (1, .int a0)]) hx hb dX12_four_33 hl (k := 2) rfl ex_216.symm (by decide) rfl (fun ls hl => ?_)
          refine lv_goto (tgt := 3) hx hb dX12_four_36 (by decide) ?_
          exact ih_195 x_216 I_214 r_210 _ _ _ (rg_w h_217 (by decide)) (by omega) (ms_dn 8 hm_192 ex_216 rfl (by decide) h_204 (by decide) (by decide)) hG hP hD hS (lv_sub hl [1, 2, 0] rfl)
    exact L_194 _ (24 : Int32) I ri _ _ _ (rg_w (rg_k (24 : Int32) 24 rfl) (by decide)) (by have k0 : (24 : Int32).toInt = 24 := rfl; omega) (Nat.lt_succ_self _) hG hP hD hS (lv_sub hl [1, 2, 0] rfl)
  exact go _ _ _ hP hD hS hl

set_option maxHeartbeats 4000000 in
set_option maxRecDepth 100000 in
theorem s_X12_feed (l : Launch) (D : va_G) (t : pq_T) (σ : pq_S) (I : Nat → Nat → Int32) (J : Nat → Nat → Int64) (ri : Nat → Nat → Int32) (rj : Nat → Nat → Int64) (rq : Nat → Nat → Option Nat) (sz : Nat) (tg : Nat → Nat) (hSH : SH σ tg) (hG0 : GT tg I ri) (this : Nat) (a0 : Int32) (a1 : Int32) (a2 : Int32) (a3 : Int32) (a4 : Int32) (hL_this : this ∈ σ.1) (hK_this : σ.2.1 this = 12) : MetI l yX12_feed (wa yX12_feed cX12_feed 6 (some .int)) ({ frames := 1, cells := 0, slots := 0, locals := 22 }) [.ref this, .int a0, .int a1, .int a2, .int a3, .int a4] D t σ (I, J, ri, rj, rq) sz 0 0 (fun (r : Int32) (u : pq_S × pq_M) => ∃ I' : Nat → Nat → Int32, ∃ ri' : Nat → Nat → Int32, u = (σ, I', J, ri', rj, rq) ∧ GM [388] tg σ I ri I' ri' rq ∧ rg r (-1) 300) := by
  refine Met.ofW (cc := cX12_feed) (maxL := 6) (ret := (some .int)) (by decide) rfl ?_
  intro p e s m args below meth c s₁ B hml hv
  obtain ⟨rfl, hsz, hP, hK, hD0, hN⟩ := hv
  have hx := B.exec
  have hb := B.bytes
  have hr := B.returns
  have hts := atoms_spec (ws := (wa yX12_feed cX12_feed 6 (some .int))) B.pre
  have hown : s.vm.findClass RX12 = some m.cls := findClass_of_methodNamed B.named
  have hlocks := B.notSynchronized
  subst hsz
  have hD : va_D (pq_B t σ (I, J, ri, rj, rq) s.heap.size) (pq_P t σ (I, J, ri, rj, rq)) := hD0.self
  generalize hAe : pq_B t σ (I, J, ri, rj, rq) s.heap.size = A at hD ⊢
  have hA : ∀ q : Nat, s.heap.size ≤ q → A q := fun q h => by rw [← hAe]; exact Or.inr h
  have hS : va_S A s.heap s.heap [] := va_S.rf
  have hG : GM [388] tg σ I ri I ri rq := ⟨hG0, fun _ _ _ => rfl, fun _ _ _ _ _ => rfl, fun _ _ _ _ _ _ => rfl⟩
  have hl := lv_entry ([.ref this, .int a0, .int a1, .int a2, .int a3, .int a4]) (n := 6) (Nat.le_of_ble_eq_true rfl)
  rw [lg_entry_eq]
  generalize (lg_sl ([.ref this, .int a0, .int a1, .int a2, .int a3, .int a4]) ++ List.replicate (6 - (lg_sl ([.ref this, .int a0, .int a1, .int a2, .int a3, .int a4])).length) Slot.unset).toArray = ls at hl ⊢
  have hl : lv_has ls 6 [(0, .ref this), (1, .int a0), (2, .int a1), (3, .int a2), (4, .int a3), (5, .int a4)] := hl
  refine q_gen (fun Q hQ => ?_)
  have go : ∀ (H : Heap) (locs : List Loc) (ls : Array Slot), va_P D vwCl (pq_P t σ (I, J, ri, rj, rq)) H → va_D A (pq_P t σ (I, J, ri, rj, rq)) → va_S A s.heap H locs → lv_has ls 6 [(0, .ref this), (1, .int a0), (2, .int a1), (3, .int a2), (4, .int a3), (5, .int a4)] → W p l e ({ frames := 1, cells := 0, slots := 0, locals := 22 } : Room) s m (List.toArray ([.ref this, .int a0, .int a1, .int a2, .int a3, .int a4] : List Value)) below meth c H locs 0 0 Q (F0 m 0 ls []) := by
    intro H locs ls hP hD hS hl
    refine lv_aload_n hx hb dX12_feed_0 rfl (lv_at hl 0 rfl) ?_
    refine pg_f (v := .int (I 388 this)) (C := RX12) (T := TX12) (N := 31) hx hb hts (tw_i inlX12) hown hK hP hL_this hK_this (by decide) rfl 4 (by decide) (hts _ (tw_c tw_631)) rfl dX12_feed_1 ?_
    have h_1 : rg (I 388 this) 0 300 := GM.rI hG 388 rfl
    have uh_1 := h_1.1
    have vh_1 := h_1.2
    refine lv_bipush (v := 20) hx hb dX12_feed_4 (by decide) ?_
    refine lv_iadd hx hb dX12_feed_6 ?_
    refine lv_topi (fun x_2 ex_2 => ?_)
    have h_3 : rg x_2 20 320 := rg_of_eq ex_2 (rg_add h_1 (rg_k (20 : Int32) 20 rfl) (by decide))
    have uh_3 := h_3.1
    have vh_3 := h_3.2
    have tx_2 : (x_2).toInt = (I 388 this).toInt + 20 := by rw [ex_2]; exact i_add_rg (a2 := (I 388 this).toInt) (b2 := 20) rfl rfl h_1 (rg_k (20 : Int32) 20 rfl) (by decide)
    refine lv_sipush (v := 300) hx hb dX12_feed_7 (by decide) ?_
    refine lv_icmp_le (tgt := 15) hx hb dX12_feed_10 (by decide) (fun c_4 => ?_) (fun c_4 => ?_)
    · have tc_5 : (x_2).toInt ≤ 300 := Int32.le_iff_toInt_le.mp c_4
      have h_6 : rg x_2 20 300 := rg_le1 c_4 h_3 (rg_k (300 : Int32) 300 rfl) (by decide)
      have uh_6 := h_6.1
      have vh_6 := h_6.2
      refine lv_aload_n hx hb dX12_feed_15 rfl (lv_at hl 0 rfl) ?_
      refine lv_iload_n hx hb dX12_feed_16 rfl (lv_at hl 1 rfl) ?_
      refine pk_v (va_runV (As := [.int a0]) (rest := []) ⟨hx, hb, hml, hown, hts⟩ (s_X12_four l D t σ I J ri rj rq H.size tg hSH hG.1 this a0 hL_this hK_this (by omega)) (cwV 1 hts (tw_V tw_632 tw_633 tw_634 tw_5 tw_635) rfl rfl rfl (by decide +kernel) ⟨Nat.le_of_ble_eq_true rfl, Nat.le_of_ble_eq_true rfl⟩) ⟨pq_blind, pq_recv hK hP hL_this hK_this (by decide) rfl, pq_pre hK hN hP hD⟩ rfl rfl hl.1 rfl (lv_room (Nat.le_of_ble_eq_true rfl)) dX12_feed_17 ⟨Nat.le_of_ble_eq_true rfl, Nat.le_of_ble_eq_true rfl⟩) hD hS hA (fun σ1 μ1 H locs hw_8 hP hD hS => ?_)
      obtain ⟨I_9, ri_10, hu_11, hg_12, hp_14⟩ := hw_8
      obtain ⟨hu_11a, hu_11b⟩ := Prod.mk.inj hu_11
      rw [hu_11a, hu_11b] at hP hD
      have tt_15 := hp_14
      have hG := GM.tr hG hg_12 (by decide)
      refine lv_aload_n hx hb dX12_feed_20 rfl (lv_at hl 0 rfl) ?_
      refine lv_iload_n hx hb dX12_feed_21 rfl (lv_at hl 2 rfl) ?_
      refine pk_v (va_runV (As := [.int a1]) (rest := []) ⟨hx, hb, hml, hown, hts⟩ (s_X12_four l D t σ I_9 J ri_10 rj rq H.size tg hSH hG.1 this a1 hL_this hK_this (by omega)) (cwV 1 hts (tw_V tw_632 tw_633 tw_634 tw_5 tw_635) rfl rfl rfl (by decide +kernel) ⟨Nat.le_of_ble_eq_true rfl, Nat.le_of_ble_eq_true rfl⟩) ⟨pq_blind, pq_recv hK hP hL_this hK_this (by decide) rfl, pq_pre hK hN hP hD⟩ rfl rfl hl.1 rfl (lv_room (Nat.le_of_ble_eq_true rfl)) dX12_feed_22 ⟨Nat.le_of_ble_eq_true rfl, Nat.le_of_ble_eq_true rfl⟩) hD hS hA (fun σ1 μ1 H locs hw_17 hP hD hS => ?_)
      obtain ⟨I_18, ri_19, hu_20, hg_21, hp_23⟩ := hw_17
      obtain ⟨hu_20a, hu_20b⟩ := Prod.mk.inj hu_20
      rw [hu_20a, hu_20b] at hP hD
      have tt_24 := hp_23
      have hG := GM.tr hG hg_21 (by decide)
      refine lv_aload_n hx hb dX12_feed_25 rfl (lv_at hl 0 rfl) ?_
      refine lv_iload_n hx hb dX12_feed_26 rfl (lv_at hl 3 rfl) ?_
      refine pk_v (va_runV (As := [.int a2]) (rest := []) ⟨hx, hb, hml, hown, hts⟩ (s_X12_four l D t σ I_18 J ri_19 rj rq H.size tg hSH hG.1 this a2 hL_this hK_this (by omega)) (cwV 1 hts (tw_V tw_632 tw_633 tw_634 tw_5 tw_635) rfl rfl rfl (by decide +kernel) ⟨Nat.le_of_ble_eq_true rfl, Nat.le_of_ble_eq_true rfl⟩) ⟨pq_blind, pq_recv hK hP hL_this hK_this (by decide) rfl, pq_pre hK hN hP hD⟩ rfl rfl hl.1 rfl (lv_room (Nat.le_of_ble_eq_true rfl)) dX12_feed_27 ⟨Nat.le_of_ble_eq_true rfl, Nat.le_of_ble_eq_true rfl⟩) hD hS hA (fun σ1 μ1 H locs hw_26 hP hD hS => ?_)
      obtain ⟨I_27, ri_28, hu_29, hg_30, hp_32⟩ := hw_26
      obtain ⟨hu_29a, hu_29b⟩ := Prod.mk.inj hu_29
      rw [hu_29a, hu_29b] at hP hD
      have tt_33 := hp_32
      have hG := GM.tr hG hg_30 (by decide)
      refine lv_aload_n hx hb dX12_feed_30 rfl (lv_at hl 0 rfl) ?_
      refine lv_iload hx hb dX12_feed_31 (lv_at hl 4 rfl) ?_
      refine pk_v (va_runV (As := [.int a3]) (rest := []) ⟨hx, hb, hml, hown, hts⟩ (s_X12_four l D t σ I_27 J ri_28 rj rq H.size tg hSH hG.1 this a3 hL_this hK_this (by omega)) (cwV 1 hts (tw_V tw_632 tw_633 tw_634 tw_5 tw_635) rfl rfl rfl (by decide +kernel) ⟨Nat.le_of_ble_eq_true rfl, Nat.le_of_ble_eq_true rfl⟩) ⟨pq_blind, pq_recv hK hP hL_this hK_this (by decide) rfl, pq_pre hK hN hP hD⟩ rfl rfl hl.1 rfl (lv_room (Nat.le_of_ble_eq_true rfl)) dX12_feed_33 ⟨Nat.le_of_ble_eq_true rfl, Nat.le_of_ble_eq_true rfl⟩) hD hS hA (fun σ1 μ1 H locs hw_35 hP hD hS => ?_)
      obtain ⟨I_36, ri_37, hu_38, hg_39, hp_41⟩ := hw_35
      obtain ⟨hu_38a, hu_38b⟩ := Prod.mk.inj hu_38
      rw [hu_38a, hu_38b] at hP hD
      have tt_42 := hp_41
      have hG := GM.tr hG hg_39 (by decide)
      refine lv_aload_n hx hb dX12_feed_36 rfl (lv_at hl 0 rfl) ?_
      refine lv_iload hx hb dX12_feed_37 (lv_at hl 5 rfl) ?_
      refine pk_v (va_runV (As := [.int a4]) (rest := []) ⟨hx, hb, hml, hown, hts⟩ (s_X12_four l D t σ I_36 J ri_37 rj rq H.size tg hSH hG.1 this a4 hL_this hK_this (by omega)) (cwV 1 hts (tw_V tw_632 tw_633 tw_634 tw_5 tw_635) rfl rfl rfl (by decide +kernel) ⟨Nat.le_of_ble_eq_true rfl, Nat.le_of_ble_eq_true rfl⟩) ⟨pq_blind, pq_recv hK hP hL_this hK_this (by decide) rfl, pq_pre hK hN hP hD⟩ rfl rfl hl.1 rfl (lv_room (Nat.le_of_ble_eq_true rfl)) dX12_feed_39 ⟨Nat.le_of_ble_eq_true rfl, Nat.le_of_ble_eq_true rfl⟩) hD hS hA (fun σ1 μ1 H locs hw_44 hP hD hS => ?_)
      obtain ⟨I_45, ri_46, hu_47, hg_48, hp_50⟩ := hw_44
      obtain ⟨hu_47a, hu_47b⟩ := Prod.mk.inj hu_47
      rw [hu_47a, hu_47b] at hP hD
      have tt_51 := hp_50
      have hG := GM.tr hG hg_48 (by decide)
      refine lv_aload_n hx hb dX12_feed_42 rfl (lv_at hl 0 rfl) ?_
      refine pg_f (v := .int (I_45 388 this)) (C := RX12) (T := TX12) (N := 31) hx hb hts (tw_i inlX12) hown hK hP hL_this hK_this (by decide) rfl 4 (by decide) (hts _ (tw_c tw_631)) rfl dX12_feed_43 ?_
      have h_52 : rg (I_45 388 this) 0 300 := GM.rI hG 388 rfl
      have uh_52 := h_52.1
      have vh_52 := h_52.2
      subst hQ
      exact W.iret (v := (I_45 388 this)) hx hb hr (fun t1 ht hW => ⟨⟨(I_45 388 this), (σ, I_45, J, ri_46, rj, rq), rfl, ⟨I_45, ri_46, rfl, hG, (rg_w h_52 (by decide))⟩, by rw [ht]; exact hP, va_K.moved hW.alike hK, hD⟩, hS.F ht⟩) hS.2.2 dX12_feed_46
    · have tc_53 : 300 < (x_2).toInt := Int32.lt_iff_toInt_lt.mp (nle c_4)
      have h_54 : rg x_2 301 320 := rg_lt2 (nle c_4) (rg_k (300 : Int32) 300 rfl) h_3 (by decide)
      have uh_54 := h_54.1
      have vh_54 := h_54.2
      refine lv_iconst (v := (-1)) hx hb dX12_feed_13 (by decide) ?_
      subst hQ
      exact W.iret (v := (-1)) hx hb hr (fun t1 ht hW => ⟨⟨(-1), (σ, I, J, ri, rj, rq), rfl, ⟨I, ri, rfl, hG, (rg_w (rg_k (-1 : Int32) (-1) rfl) (by decide))⟩, by rw [ht]; exact hP, va_K.moved hW.alike hK, hD⟩, hS.F ht⟩) hS.2.2 dX12_feed_14
  exact go _ _ _ hP hD hS hl

set_option maxHeartbeats 4000000 in
set_option maxRecDepth 100000 in
theorem s_X12_end (l : Launch) (D : va_G) (t : pq_T) (σ : pq_S) (I : Nat → Nat → Int32) (J : Nat → Nat → Int64) (ri : Nat → Nat → Int32) (rj : Nat → Nat → Int64) (rq : Nat → Nat → Option Nat) (sz : Nat) (tg : Nat → Nat) (hSH : SH σ tg) (hG0 : GT tg I ri) (this : Nat) (a0 : Int32) (hL_this : this ∈ σ.1) (hK_this : σ.2.1 this = 12) : MetI l yX12_end (wa yX12_end cX12_end 2 (some .int)) ({ frames := 1, cells := 0, slots := 0, locals := 22 }) [.ref this, .int a0] D t σ (I, J, ri, rj, rq) sz 0 0 (fun (r : Int32) (u : pq_S × pq_M) => ∃ I' : Nat → Nat → Int32, u = (σ, I', J, ri, rj, rq) ∧ GM [388] tg σ I ri I' ri rq ∧ rg r (-1) 300) := by
  refine Met.ofW (cc := cX12_end) (maxL := 2) (ret := (some .int)) (by decide) rfl ?_
  intro p e s m args below meth c s₁ B hml hv
  obtain ⟨rfl, hsz, hP, hK, hD0, hN⟩ := hv
  have hx := B.exec
  have hb := B.bytes
  have hr := B.returns
  have hts := atoms_spec (ws := (wa yX12_end cX12_end 2 (some .int))) B.pre
  have hown : s.vm.findClass RX12 = some m.cls := findClass_of_methodNamed B.named
  have hlocks := B.notSynchronized
  subst hsz
  have hD : va_D (pq_B t σ (I, J, ri, rj, rq) s.heap.size) (pq_P t σ (I, J, ri, rj, rq)) := hD0.self
  generalize hAe : pq_B t σ (I, J, ri, rj, rq) s.heap.size = A at hD ⊢
  have hA : ∀ q : Nat, s.heap.size ≤ q → A q := fun q h => by rw [← hAe]; exact Or.inr h
  have hS : va_S A s.heap s.heap [] := va_S.rf
  have hG : GM [388] tg σ I ri I ri rq := ⟨hG0, fun _ _ _ => rfl, fun _ _ _ _ _ => rfl, fun _ _ _ _ _ _ => rfl⟩
  have hl := lv_entry ([.ref this, .int a0]) (n := 2) (Nat.le_of_ble_eq_true rfl)
  rw [lg_entry_eq]
  generalize (lg_sl ([.ref this, .int a0]) ++ List.replicate (2 - (lg_sl ([.ref this, .int a0])).length) Slot.unset).toArray = ls at hl ⊢
  have hl : lv_has ls 2 [(0, .ref this), (1, .int a0)] := hl
  refine q_gen (fun Q hQ => ?_)
  have go : ∀ (H : Heap) (locs : List Loc) (ls : Array Slot), va_P D vwCl (pq_P t σ (I, J, ri, rj, rq)) H → va_D A (pq_P t σ (I, J, ri, rj, rq)) → va_S A s.heap H locs → lv_has ls 2 [(0, .ref this), (1, .int a0)] → W p l e ({ frames := 1, cells := 0, slots := 0, locals := 22 } : Room) s m (List.toArray ([.ref this, .int a0] : List Value)) below meth c H locs 0 0 Q (F0 m 0 ls []) := by
    intro H locs ls hP hD hS hl
    refine lv_iload_n hx hb dX12_end_0 rfl (lv_at hl 1 rfl) ?_
    refine lv_iconst (v := 0) hx hb dX12_end_1 (by decide) ?_
    refine lv_aload_n hx hb dX12_end_2 rfl (lv_at hl 0 rfl) ?_
    refine pg_f (v := .int (I 388 this)) (C := RX12) (T := TX12) (N := 31) hx hb hts (tw_i inlX12) hown hK hP hL_this hK_this (by decide) rfl 4 (by decide) (hts _ (tw_c tw_631)) rfl dX12_end_3 ?_
    have h_1 : rg (I 388 this) 0 300 := GM.rI hG 388 rfl
    have uh_1 := h_1.1
    have vh_1 := h_1.2
    refine pk_i (va_runS (As := [.int a0, .int 0, .int (I 388 this)]) (rest := []) ⟨hx, hb, hml, hown, hts⟩ (s_X12_isIn l D t σ I J ri rj rq H.size tg hSH hG.1 a0 (0 : Int32) (I 388 this)) (va_cwS 3 hts (tw_S tw_235 tw_236 tw_5 tw_237) rfl rfl rfl (by decide +kernel) ⟨Nat.le_of_ble_eq_true rfl, Nat.le_of_ble_eq_true rfl⟩) ⟨pq_blind, pq_pre hK hN hP hD⟩ rfl rfl hl.1 rfl (lv_room (Nat.le_of_ble_eq_true rfl)) dX12_end_6 ⟨Nat.le_of_ble_eq_true rfl, Nat.le_of_ble_eq_true rfl⟩) hD hS hA (fun x_2 σ1 μ1 H locs hw_3 hP hD hS => ?_)
    obtain ⟨hu_4, hr_6⟩ := hw_3
    obtain ⟨hu_4a, hu_4b⟩ := Prod.mk.inj hu_4
    rw [hu_4a, hu_4b] at hP hD
    have h_7 : rg x_2 0 1 := by rcases hr_6 with ⟨q, -⟩ | ⟨q, -⟩ <;> rw [q] <;> exact ⟨by decide, by decide⟩
    have uh_7 := h_7.1
    have vh_7 := h_7.2
    refine lv_if_ne (tgt := 14) hx hb dX12_end_9 (by decide) (fun c_8 => ?_) (fun c_8 => ?_)
    · obtain ⟨f_9, f_10⟩ := (hr_6.resolve_right (fun q => c_8 q.1)).2
      have tc_11 : 0 ≤ (a0).toInt := Int32.le_iff_toInt_le.mp f_9
      have h_12 : rg a0 0 2147483647 := rg_le2 f_9 (rg_k (0 : Int32) 0 rfl) (rg_full _) (by decide)
      have uh_12 := h_12.1
      have vh_12 := h_12.2
      have tc_13 : (a0).toInt ≤ (I 388 this).toInt := Int32.le_iff_toInt_le.mp f_10
      have h_14 : rg a0 0 300 := rg_le1 f_10 h_12 h_1 (by decide)
      have uh_14 := h_14.1
      have vh_14 := h_14.2
      have tc_15 : (x_2).toInt ≠ 0 := fun q => c_8 (Int32.toInt_inj.mp q)
      have h_16 : rg x_2 1 1 := rg_ne c_8 h_7 0 rfl (by decide)
      have uh_16 := h_16.1
      have vh_16 := h_16.2
      refine lv_aload_n hx hb dX12_end_14 rfl (lv_at hl 0 rfl) ?_
      refine lv_iload_n hx hb dX12_end_15 rfl (lv_at hl 1 rfl) ?_
      refine pp_i (v := a0) (ty := .int) (C := RX12) (T := TX12) (N := 31) hx hb hts (tw_i inlX12) tyX12 tyX12_ok nmX12 hown hK hP hD hS hL_this hK_this (by decide) rfl 4 388 (by decide) (hts _ (tw_c tw_631)) rfl (by decide +kernel) rfl rfl (Nat.le_of_ble_eq_true rfl) (ps_388 _ _ _ _ _) dX12_end_16 (fun I_17 H locs eI_17 hP hD hS => ?_)
      have hG := GM.wI hG 388 rfl eI_17 (rg_w h_14 (by decide)) (by decide)
      refine lv_iload_n hx hb dX12_end_19 rfl (lv_at hl 1 rfl) ?_
      subst hQ
      exact W.iret (v := a0) hx hb hr (fun t1 ht hW => ⟨⟨a0, (σ, I_17, J, ri, rj, rq), rfl, ⟨I_17, rfl, hG, (rg_w h_14 (by decide))⟩, by rw [ht]; exact hP, va_K.moved hW.alike hK, hD⟩, hS.F ht⟩) hS.2.2 dX12_end_20
    · have f_18 := (hr_6.resolve_left (fun q => absurd (q.1.symm.trans c_8) (by decide))).2
      have tc_19 : (x_2).toInt = 0 := congrArg Int32.toInt c_8
      have h_20 : rg x_2 0 0 := rg_and h_7 (rg_of_eq c_8 (rg_k (0 : Int32) 0 rfl)) (by decide)
      have uh_20 := h_20.1
      have vh_20 := h_20.2
      refine lv_iconst (v := (-1)) hx hb dX12_end_12 (by decide) ?_
      subst hQ
      exact W.iret (v := (-1)) hx hb hr (fun t1 ht hW => ⟨⟨(-1), (σ, I, J, ri, rj, rq), rfl, ⟨I, rfl, hG, (rg_w (rg_k (-1 : Int32) (-1) rfl) (by decide))⟩, by rw [ht]; exact hP, va_K.moved hW.alike hK, hD⟩, hS.F ht⟩) hS.2.2 dX12_end_13
  exact go _ _ _ hP hD hS hl

set_option maxHeartbeats 4000000 in
set_option maxRecDepth 100000 in
theorem s_X12_see (l : Launch) (D : va_G) (t : pq_T) (σ : pq_S) (I : Nat → Nat → Int32) (J : Nat → Nat → Int64) (ri : Nat → Nat → Int32) (rj : Nat → Nat → Int64) (rq : Nat → Nat → Option Nat) (sz : Nat) (tg : Nat → Nat) (hSH : SH σ tg) (hG0 : GT tg I ri) (this : Nat) (a0 : Int32) (hL_this : this ∈ σ.1) (hK_this : σ.2.1 this = 12) (h_a0 : rg a0 0 300) : MetI l yX12_see (wa yX12_see cX12_see 2 (some .int)) ({ frames := 0, cells := 0, slots := 0, locals := 0 }) [.ref this, .int a0] D t σ (I, J, ri, rj, rq) sz 0 0 (fun (r : Int32) (u : pq_S × pq_M) => u = (σ, I, J, ri, rj, rq) ∧ ((r.toInt = -1 ∧ (I 388 this).toInt ≤ a0.toInt) ∨ (0 ≤ r.toInt ∧ a0.toInt < (I 388 this).toInt)) ∧ rg r (-1) 255) := by
  refine Met.ofW (cc := cX12_see) (maxL := 2) (ret := (some .int)) (by decide) rfl ?_
  intro p e s m args below meth c s₁ B hml hv
  obtain ⟨rfl, hsz, hP, hK, hD0, hN⟩ := hv
  have hx := B.exec
  have hb := B.bytes
  have hr := B.returns
  have hts := atoms_spec (ws := (wa yX12_see cX12_see 2 (some .int))) B.pre
  have hown : s.vm.findClass RX12 = some m.cls := findClass_of_methodNamed B.named
  have hlocks := B.notSynchronized
  subst hsz
  have hD : va_D (pq_B t σ (I, J, ri, rj, rq) s.heap.size) (pq_P t σ (I, J, ri, rj, rq)) := hD0.self
  generalize hAe : pq_B t σ (I, J, ri, rj, rq) s.heap.size = A at hD ⊢
  have hA : ∀ q : Nat, s.heap.size ≤ q → A q := fun q h => by rw [← hAe]; exact Or.inr h
  have hS : va_S A s.heap s.heap [] := va_S.rf
  have hG : GM [] tg σ I ri I ri rq := ⟨hG0, fun _ _ _ => rfl, fun _ _ _ _ _ => rfl, fun _ _ _ _ _ _ => rfl⟩
  have hl := lv_entry ([.ref this, .int a0]) (n := 2) (Nat.le_of_ble_eq_true rfl)
  rw [lg_entry_eq]
  generalize (lg_sl ([.ref this, .int a0]) ++ List.replicate (2 - (lg_sl ([.ref this, .int a0])).length) Slot.unset).toArray = ls at hl ⊢
  have hl : lv_has ls 2 [(0, .ref this), (1, .int a0)] := hl
  refine q_gen (fun Q hQ => ?_)
  have go : ∀ (H : Heap) (locs : List Loc) (ls : Array Slot), va_P D vwCl (pq_P t σ (I, J, ri, rj, rq)) H → va_D A (pq_P t σ (I, J, ri, rj, rq)) → va_S A s.heap H locs → lv_has ls 2 [(0, .ref this), (1, .int a0)] → W p l e ({ frames := 0, cells := 0, slots := 0, locals := 0 } : Room) s m (List.toArray ([.ref this, .int a0] : List Value)) below meth c H locs 0 0 Q (F0 m 0 ls []) := by
    intro H locs ls hP hD hS hl
    refine lv_iload_n hx hb dX12_see_0 rfl (lv_at hl 1 rfl) ?_
    refine lv_aload_n hx hb dX12_see_1 rfl (lv_at hl 0 rfl) ?_
    refine pg_f (v := .int (I 388 this)) (C := RX12) (T := TX12) (N := 31) hx hb hts (tw_i inlX12) hown hK hP hL_this hK_this (by decide) rfl 4 (by decide) (hts _ (tw_c tw_631)) rfl dX12_see_2 ?_
    have h_1 : rg (I 388 this) 0 300 := GM.rI hG 388 rfl
    have uh_1 := h_1.1
    have vh_1 := h_1.2
    refine lv_icmp_ge (tgt := 17) hx hb dX12_see_5 (by decide) (fun c_2 => ?_) (fun c_2 => ?_)
    · have tc_3 : (I 388 this).toInt ≤ (a0).toInt := Int32.le_iff_toInt_le.mp c_2
      refine lv_iconst (v := (-1)) hx hb dX12_see_17 (by decide) ?_
      subst hQ
      exact W.iret (v := (-1)) hx hb hr (fun t1 ht hW => ⟨⟨(-1), (σ, I, J, ri, rj, rq), rfl, ⟨rfl, (Or.inl ⟨rfl, by omega⟩), (rg_w (rg_k (-1 : Int32) (-1) rfl) (by decide))⟩, by rw [ht]; exact hP, va_K.moved hW.alike hK, hD⟩, hS.F ht⟩) hS.2.2 dX12_see_18
    · have tc_4 : (a0).toInt < (I 388 this).toInt := Int32.lt_iff_toInt_lt.mp (nle c_2)
      have h_5 : rg a0 0 299 := rg_lt1 (nle c_2) h_a0 h_1 (by decide)
      have uh_5 := h_5.1
      have vh_5 := h_5.2
      have h_6 : rg (I 388 this) 1 300 := rg_lt2 (nle c_2) h_a0 h_1 (by decide)
      have uh_6 := h_6.1
      have vh_6 := h_6.2
      refine lv_aload_n hx hb dX12_see_8 rfl (lv_at hl 0 rfl) ?_
      obtain ⟨w_7, hR_w_7, hL_w_7, hK_w_7, hN_w_7, hT_w_7⟩ := sh_a hSH 387 (ci := 12) (kd := 13) (len := 300) rfl (by decide) hL_this hK_this
      refine pg_f (v := .ref w_7) (C := RX12) (T := TX12) (N := 31) hx hb hts (tw_i inlX12) hown hK hP hL_this hK_this (by decide) rfl 3 (by decide) (hts _ (tw_c tw_179)) (pq_hv rfl hR_w_7) dX12_see_9 ?_
      refine lv_iload_n hx hb dX12_see_12 rfl (lv_at hl 1 rfl) ?_
      refine pl_i hx hb hK hP hL_w_7 hK_w_7 hN_w_7 (rg_in h_5 (by decide)) dX12_see_13 ?_
      refine lv_topi (fun x_8 ex_8 => ?_)
      have h_9 : rg x_8 0 255 := rg_of_eq ex_8 (GM.rR hG hT_w_7 rfl)
      have uh_9 := h_9.1
      have vh_9 := h_9.2
      refine lv_goto (tgt := 18) hx hb dX12_see_14 (by decide) ?_
      subst hQ
      exact W.iret (v := x_8) hx hb hr (fun t1 ht hW => ⟨⟨x_8, (σ, I, J, ri, rj, rq), rfl, ⟨rfl, (by omega), (rg_w h_9 (by decide))⟩, by rw [ht]; exact hP, va_K.moved hW.alike hK, hD⟩, hS.F ht⟩) hS.2.2 dX12_see_18
  exact go _ _ _ hP hD hS hl

set_option maxHeartbeats 4000000 in
set_option maxRecDepth 100000 in
theorem s_X12_isLetter (l : Launch) (D : va_G) (t : pq_T) (σ : pq_S) (I : Nat → Nat → Int32) (J : Nat → Nat → Int64) (ri : Nat → Nat → Int32) (rj : Nat → Nat → Int64) (rq : Nat → Nat → Option Nat) (sz : Nat) (tg : Nat → Nat) (hSH : SH σ tg) (hG0 : GT tg I ri) (a0 : Int32) : MetI l yX12_isLetter (wa yX12_isLetter cX12_isLetter 1 (some .boolean)) ({ frames := 1, cells := 0, slots := 0, locals := 22 }) [.int a0] D t σ (I, J, ri, rj, rq) sz 0 0 (fun (r : Int32) (u : pq_S × pq_M) => u = (σ, I, J, ri, rj, rq) ∧ ((r = 1 ∧ rg a0 65 122) ∨ (r = 0 ∧ True))) := by
  refine Met.ofW (cc := cX12_isLetter) (maxL := 1) (ret := (some .boolean)) (by decide) rfl ?_
  intro p e s m args below meth c s₁ B hml hv
  obtain ⟨rfl, hsz, hP, hK, hD0, hN⟩ := hv
  have hx := B.exec
  have hb := B.bytes
  have hr := B.returns
  have hts := atoms_spec (ws := (wa yX12_isLetter cX12_isLetter 1 (some .boolean))) B.pre
  have hown : s.vm.findClass RX12 = some m.cls := findClass_of_methodNamed B.named
  have hlocks := B.notSynchronized
  subst hsz
  have hD : va_D (pq_B t σ (I, J, ri, rj, rq) s.heap.size) (pq_P t σ (I, J, ri, rj, rq)) := hD0.self
  generalize hAe : pq_B t σ (I, J, ri, rj, rq) s.heap.size = A at hD ⊢
  have hA : ∀ q : Nat, s.heap.size ≤ q → A q := fun q h => by rw [← hAe]; exact Or.inr h
  have hS : va_S A s.heap s.heap [] := va_S.rf
  have hG : GM [] tg σ I ri I ri rq := ⟨hG0, fun _ _ _ => rfl, fun _ _ _ _ _ => rfl, fun _ _ _ _ _ _ => rfl⟩
  have hl := lv_entry ([.int a0]) (n := 1) (Nat.le_of_ble_eq_true rfl)
  rw [lg_entry_eq]
  generalize (lg_sl ([.int a0]) ++ List.replicate (1 - (lg_sl ([.int a0])).length) Slot.unset).toArray = ls at hl ⊢
  have hl : lv_has ls 1 [(0, .int a0)] := hl
  refine q_gen (fun Q hQ => ?_)
  have go : ∀ (H : Heap) (locs : List Loc) (ls : Array Slot), va_P D vwCl (pq_P t σ (I, J, ri, rj, rq)) H → va_D A (pq_P t σ (I, J, ri, rj, rq)) → va_S A s.heap H locs → lv_has ls 1 [(0, .int a0)] → W p l e ({ frames := 1, cells := 0, slots := 0, locals := 22 } : Room) s m (List.toArray ([.int a0] : List Value)) below meth c H locs 0 0 Q (F0 m 0 ls []) := by
    intro H locs ls hP hD hS hl
    refine lv_iload_n hx hb dX12_isLetter_0 rfl (lv_at hl 0 rfl) ?_
    refine lv_bipush (v := 97) hx hb dX12_isLetter_1 (by decide) ?_
    refine lv_bipush (v := 122) hx hb dX12_isLetter_3 (by decide) ?_
    refine pk_i (va_runS (As := [.int a0, .int 97, .int 122]) (rest := []) ⟨hx, hb, hml, hown, hts⟩ (s_X12_isIn l D t σ I J ri rj rq H.size tg hSH hG.1 a0 (97 : Int32) (122 : Int32)) (va_cwS 3 hts (tw_S tw_235 tw_236 tw_5 tw_237) rfl rfl rfl (by decide +kernel) ⟨Nat.le_of_ble_eq_true rfl, Nat.le_of_ble_eq_true rfl⟩) ⟨pq_blind, pq_pre hK hN hP hD⟩ rfl rfl hl.1 rfl (lv_room (Nat.le_of_ble_eq_true rfl)) dX12_isLetter_5 ⟨Nat.le_of_ble_eq_true rfl, Nat.le_of_ble_eq_true rfl⟩) hD hS hA (fun x_1 σ1 μ1 H locs hw_2 hP hD hS => ?_)
    obtain ⟨hu_3, hr_5⟩ := hw_2
    obtain ⟨hu_3a, hu_3b⟩ := Prod.mk.inj hu_3
    rw [hu_3a, hu_3b] at hP hD
    have h_6 : rg x_1 0 1 := by rcases hr_5 with ⟨q, -⟩ | ⟨q, -⟩ <;> rw [q] <;> exact ⟨by decide, by decide⟩
    have uh_6 := h_6.1
    have vh_6 := h_6.2
    have K_38 : ∀  (H : Heap) (locs : List Loc) (ls : Array Slot), rg (a0) 65 122 → GM [] tg σ I ri I ri rq → va_P D vwCl (pq_P t σ (I, J, ri, rj, rq)) H → va_D A (pq_P t σ (I, J, ri, rj, rq)) → va_S A s.heap H locs → lv_has ls 1 [] → W p l e ({ frames := 1, cells := 0, slots := 0, locals := 22 } : Room) s m (List.toArray ([.int a0] : List Value)) below meth c H locs 0 0 Q (F0 m 22 ls []) := by
      intro H locs ls h_40 hG hP hD hS hl
      have uh_40 := h_40.1
      have vh_40 := h_40.2
      refine lv_iconst (v := 1) hx hb dX12_isLetter_22 (by decide) ?_
      refine lv_goto (tgt := 27) hx hb dX12_isLetter_23 (by decide) ?_
      subst hQ
      exact W.zret (v := 1) hx hb hr (by decide) (fun t1 ht hW => ⟨⟨1, (σ, I, J, ri, rj, rq), rfl, ⟨rfl, (Or.inl ⟨rfl, (rg_w h_40 (by decide))⟩)⟩, by rw [ht]; exact hP, va_K.moved hW.alike hK, hD⟩, hS.F ht⟩) hS.2.2 dX12_isLetter_27
    refine lv_if_ne (tgt := 22) hx hb dX12_isLetter_8 (by decide) (fun c_41 => ?_) (fun c_41 => ?_)
    · obtain ⟨f_42, f_43⟩ := (hr_5.resolve_right (fun q => c_41 q.1)).2
      have tc_44 : 97 ≤ (a0).toInt := Int32.le_iff_toInt_le.mp f_42
      have h_45 : rg a0 97 2147483647 := rg_le2 f_42 (rg_k (97 : Int32) 97 rfl) (rg_full _) (by decide)
      have uh_45 := h_45.1
      have vh_45 := h_45.2
      have tc_46 : (a0).toInt ≤ 122 := Int32.le_iff_toInt_le.mp f_43
      have h_47 : rg a0 97 122 := rg_le1 f_43 h_45 (rg_k (122 : Int32) 122 rfl) (by decide)
      have uh_47 := h_47.1
      have vh_47 := h_47.2
      have tc_48 : (x_1).toInt ≠ 0 := fun q => c_41 (Int32.toInt_inj.mp q)
      have h_49 : rg x_1 1 1 := rg_ne c_41 h_6 0 rfl (by decide)
      have uh_49 := h_49.1
      have vh_49 := h_49.2
      exact K_38 _ _ _ (rg_w h_47 (by decide)) hG hP hD hS (lv_sub hl [] rfl)
    · have f_50 := (hr_5.resolve_left (fun q => absurd (q.1.symm.trans c_41) (by decide))).2
      have tc_51 : (x_1).toInt = 0 := congrArg Int32.toInt c_41
      have h_52 : rg x_1 0 0 := rg_and h_6 (rg_of_eq c_41 (rg_k (0 : Int32) 0 rfl)) (by decide)
      have uh_52 := h_52.1
      have vh_52 := h_52.2
      refine lv_iload_n hx hb dX12_isLetter_11 rfl (lv_at hl 0 rfl) ?_
      refine lv_bipush (v := 65) hx hb dX12_isLetter_12 (by decide) ?_
      refine lv_bipush (v := 90) hx hb dX12_isLetter_14 (by decide) ?_
      refine pk_i (va_runS (As := [.int a0, .int 65, .int 90]) (rest := []) ⟨hx, hb, hml, hown, hts⟩ (s_X12_isIn l D t σ I J ri rj rq H.size tg hSH hG.1 a0 (65 : Int32) (90 : Int32)) (va_cwS 3 hts (tw_S tw_235 tw_236 tw_5 tw_237) rfl rfl rfl (by decide +kernel) ⟨Nat.le_of_ble_eq_true rfl, Nat.le_of_ble_eq_true rfl⟩) ⟨pq_blind, pq_pre hK hN hP hD⟩ rfl rfl hl.1 rfl (lv_room (Nat.le_of_ble_eq_true rfl)) dX12_isLetter_16 ⟨Nat.le_of_ble_eq_true rfl, Nat.le_of_ble_eq_true rfl⟩) hD hS hA (fun x_53 σ1 μ1 H locs hw_54 hP hD hS => ?_)
      obtain ⟨hu_55, hr_57⟩ := hw_54
      obtain ⟨hu_55a, hu_55b⟩ := Prod.mk.inj hu_55
      rw [hu_55a, hu_55b] at hP hD
      have h_58 : rg x_53 0 1 := by rcases hr_57 with ⟨q, -⟩ | ⟨q, -⟩ <;> rw [q] <;> exact ⟨by decide, by decide⟩
      have uh_58 := h_58.1
      have vh_58 := h_58.2
      refine lv_if_eq (tgt := 26) hx hb dX12_isLetter_19 (by decide) (fun c_59 => ?_) (fun c_59 => ?_)
      · have f_60 := (hr_57.resolve_left (fun q => absurd (q.1.symm.trans c_59) (by decide))).2
        have tc_61 : (x_53).toInt = 0 := congrArg Int32.toInt c_59
        have h_62 : rg x_53 0 0 := rg_and h_58 (rg_of_eq c_59 (rg_k (0 : Int32) 0 rfl)) (by decide)
        have uh_62 := h_62.1
        have vh_62 := h_62.2
        refine lv_iconst (v := 0) hx hb dX12_isLetter_26 (by decide) ?_
        subst hQ
        exact W.zret (v := 0) hx hb hr (by decide) (fun t1 ht hW => ⟨⟨0, (σ, I, J, ri, rj, rq), rfl, ⟨rfl, (Or.inr ⟨rfl, trivial⟩)⟩, by rw [ht]; exact hP, va_K.moved hW.alike hK, hD⟩, hS.F ht⟩) hS.2.2 dX12_isLetter_27
      · obtain ⟨f_63, f_64⟩ := (hr_57.resolve_right (fun q => c_59 q.1)).2
        have tc_65 : 65 ≤ (a0).toInt := Int32.le_iff_toInt_le.mp f_63
        have h_66 : rg a0 65 2147483647 := rg_le2 f_63 (rg_k (65 : Int32) 65 rfl) (rg_full _) (by decide)
        have uh_66 := h_66.1
        have vh_66 := h_66.2
        have tc_67 : (a0).toInt ≤ 90 := Int32.le_iff_toInt_le.mp f_64
        have h_68 : rg a0 65 90 := rg_le1 f_64 h_66 (rg_k (90 : Int32) 90 rfl) (by decide)
        have uh_68 := h_68.1
        have vh_68 := h_68.2
        have tc_69 : (x_53).toInt ≠ 0 := fun q => c_59 (Int32.toInt_inj.mp q)
        have h_70 : rg x_53 1 1 := rg_ne c_59 h_58 0 rfl (by decide)
        have uh_70 := h_70.1
        have vh_70 := h_70.2
        exact K_38 _ _ _ (rg_w h_68 (by decide)) hG hP hD hS (lv_sub hl [] rfl)
  exact go _ _ _ hP hD hS hl

set_option maxHeartbeats 4000000 in
set_option maxRecDepth 100000 in
theorem s_X12_isDigit (l : Launch) (D : va_G) (t : pq_T) (σ : pq_S) (I : Nat → Nat → Int32) (J : Nat → Nat → Int64) (ri : Nat → Nat → Int32) (rj : Nat → Nat → Int64) (rq : Nat → Nat → Option Nat) (sz : Nat) (tg : Nat → Nat) (hSH : SH σ tg) (hG0 : GT tg I ri) (a0 : Int32) : MetI l yX12_isDigit (wa yX12_isDigit cX12_isDigit 1 (some .boolean)) ({ frames := 1, cells := 0, slots := 0, locals := 22 }) [.int a0] D t σ (I, J, ri, rj, rq) sz 0 0 (fun (r : Int32) (u : pq_S × pq_M) => u = (σ, I, J, ri, rj, rq) ∧ ((r = 1 ∧ rg a0 48 57) ∨ (r = 0 ∧ True))) := by
  refine Met.ofW (cc := cX12_isDigit) (maxL := 1) (ret := (some .boolean)) (by decide) rfl ?_
  intro p e s m args below meth c s₁ B hml hv
  obtain ⟨rfl, hsz, hP, hK, hD0, hN⟩ := hv
  have hx := B.exec
  have hb := B.bytes
  have hr := B.returns
  have hts := atoms_spec (ws := (wa yX12_isDigit cX12_isDigit 1 (some .boolean))) B.pre
  have hown : s.vm.findClass RX12 = some m.cls := findClass_of_methodNamed B.named
  have hlocks := B.notSynchronized
  subst hsz
  have hD : va_D (pq_B t σ (I, J, ri, rj, rq) s.heap.size) (pq_P t σ (I, J, ri, rj, rq)) := hD0.self
  generalize hAe : pq_B t σ (I, J, ri, rj, rq) s.heap.size = A at hD ⊢
  have hA : ∀ q : Nat, s.heap.size ≤ q → A q := fun q h => by rw [← hAe]; exact Or.inr h
  have hS : va_S A s.heap s.heap [] := va_S.rf
  have hG : GM [] tg σ I ri I ri rq := ⟨hG0, fun _ _ _ => rfl, fun _ _ _ _ _ => rfl, fun _ _ _ _ _ _ => rfl⟩
  have hl := lv_entry ([.int a0]) (n := 1) (Nat.le_of_ble_eq_true rfl)
  rw [lg_entry_eq]
  generalize (lg_sl ([.int a0]) ++ List.replicate (1 - (lg_sl ([.int a0])).length) Slot.unset).toArray = ls at hl ⊢
  have hl : lv_has ls 1 [(0, .int a0)] := hl
  refine q_gen (fun Q hQ => ?_)
  have go : ∀ (H : Heap) (locs : List Loc) (ls : Array Slot), va_P D vwCl (pq_P t σ (I, J, ri, rj, rq)) H → va_D A (pq_P t σ (I, J, ri, rj, rq)) → va_S A s.heap H locs → lv_has ls 1 [(0, .int a0)] → W p l e ({ frames := 1, cells := 0, slots := 0, locals := 22 } : Room) s m (List.toArray ([.int a0] : List Value)) below meth c H locs 0 0 Q (F0 m 0 ls []) := by
    intro H locs ls hP hD hS hl
    refine lv_iload_n hx hb dX12_isDigit_0 rfl (lv_at hl 0 rfl) ?_
    refine lv_bipush (v := 48) hx hb dX12_isDigit_1 (by decide) ?_
    refine lv_bipush (v := 57) hx hb dX12_isDigit_3 (by decide) ?_
    refine pk_i (va_runS (As := [.int a0, .int 48, .int 57]) (rest := []) ⟨hx, hb, hml, hown, hts⟩ (s_X12_isIn l D t σ I J ri rj rq H.size tg hSH hG.1 a0 (48 : Int32) (57 : Int32)) (va_cwS 3 hts (tw_S tw_235 tw_236 tw_5 tw_237) rfl rfl rfl (by decide +kernel) ⟨Nat.le_of_ble_eq_true rfl, Nat.le_of_ble_eq_true rfl⟩) ⟨pq_blind, pq_pre hK hN hP hD⟩ rfl rfl hl.1 rfl (lv_room (Nat.le_of_ble_eq_true rfl)) dX12_isDigit_5 ⟨Nat.le_of_ble_eq_true rfl, Nat.le_of_ble_eq_true rfl⟩) hD hS hA (fun x_1 σ1 μ1 H locs hw_2 hP hD hS => ?_)
    obtain ⟨hu_3, hr_5⟩ := hw_2
    obtain ⟨hu_3a, hu_3b⟩ := Prod.mk.inj hu_3
    rw [hu_3a, hu_3b] at hP hD
    have h_6 : rg x_1 0 1 := by rcases hr_5 with ⟨q, -⟩ | ⟨q, -⟩ <;> rw [q] <;> exact ⟨by decide, by decide⟩
    have uh_6 := h_6.1
    have vh_6 := h_6.2
    rcases hr_5 with ⟨e_10, f_7, f_8⟩ | ⟨e_10, f_9⟩
    · refine lv_tov 1 e_10 ?_
      have tc_11 : 48 ≤ (a0).toInt := Int32.le_iff_toInt_le.mp f_7
      have h_12 : rg a0 48 2147483647 := rg_le2 f_7 (rg_k (48 : Int32) 48 rfl) (rg_full _) (by decide)
      have uh_12 := h_12.1
      have vh_12 := h_12.2
      have tc_13 : (a0).toInt ≤ 57 := Int32.le_iff_toInt_le.mp f_8
      have h_14 : rg a0 48 57 := rg_le1 f_8 h_12 (rg_k (57 : Int32) 57 rfl) (by decide)
      have uh_14 := h_14.1
      have vh_14 := h_14.2
      subst hQ
      exact W.zret (v := 1) hx hb hr (by decide) (fun t1 ht hW => ⟨⟨1, (σ, I, J, ri, rj, rq), rfl, ⟨rfl, (Or.inl ⟨rfl, (rg_w h_14 (by decide))⟩)⟩, by rw [ht]; exact hP, va_K.moved hW.alike hK, hD⟩, hS.F ht⟩) hS.2.2 dX12_isDigit_8
    · refine lv_tov 0 e_10 ?_
      subst hQ
      exact W.zret (v := 0) hx hb hr (by decide) (fun t1 ht hW => ⟨⟨0, (σ, I, J, ri, rj, rq), rfl, ⟨rfl, (Or.inr ⟨rfl, trivial⟩)⟩, by rw [ht]; exact hP, va_K.moved hW.alike hK, hD⟩, hS.F ht⟩) hS.2.2 dX12_isDigit_8
  exact go _ _ _ hP hD hS hl

set_option maxHeartbeats 4000000 in
set_option maxRecDepth 100000 in
theorem s_X12_nextToken (l : Launch) (D : va_G) (t : pq_T) (σ : pq_S) (I : Nat → Nat → Int32) (J : Nat → Nat → Int64) (ri : Nat → Nat → Int32) (rj : Nat → Nat → Int64) (rq : Nat → Nat → Option Nat) (sz : Nat) (tg : Nat → Nat) (hSH : SH σ tg) (hG0 : GT tg I ri) (this : Nat) (hL_this : this ∈ σ.1) (hK_this : σ.2.1 this = 12) : MetV l yX12_nextToken (wa yX12_nextToken cX12_nextToken 3 none) ({ frames := 2, cells := 0, slots := 0, locals := 42 }) [.ref this] D t σ (I, J, ri, rj, rq) sz 0 0 (fun (u : pq_S × pq_M) => ∃ I' : Nat → Nat → Int32, ∃ J' : Nat → Nat → Int64, u = (σ, I', J', ri, rj, rq) ∧ GM [392, 391, 393] tg σ I ri I' ri rq) := by
  refine Met.ofW (cc := cX12_nextToken) (maxL := 3) (ret := none) (by decide) rfl ?_
  intro p e s m args below meth c s₁ B hml hv
  obtain ⟨rfl, hsz, hP, hK, hD0, hN⟩ := hv
  have hx := B.exec
  have hb := B.bytes
  have hr := B.returns
  have hts := atoms_spec (ws := (wa yX12_nextToken cX12_nextToken 3 none)) B.pre
  have hown : s.vm.findClass RX12 = some m.cls := findClass_of_methodNamed B.named
  have hlocks := B.notSynchronized
  subst hsz
  have hD : va_D (pq_B t σ (I, J, ri, rj, rq) s.heap.size) (pq_P t σ (I, J, ri, rj, rq)) := hD0.self
  generalize hAe : pq_B t σ (I, J, ri, rj, rq) s.heap.size = A at hD ⊢
  have hA : ∀ q : Nat, s.heap.size ≤ q → A q := fun q h => by rw [← hAe]; exact Or.inr h
  have hS : va_S A s.heap s.heap [] := va_S.rf
  have hG : GM [392, 391, 393] tg σ I ri I ri rq := ⟨hG0, fun _ _ _ => rfl, fun _ _ _ _ _ => rfl, fun _ _ _ _ _ _ => rfl⟩
  have hl := lv_entry ([.ref this]) (n := 3) (Nat.le_of_ble_eq_true rfl)
  rw [lg_entry_eq]
  generalize (lg_sl ([.ref this]) ++ List.replicate (3 - (lg_sl ([.ref this])).length) Slot.unset).toArray = ls at hl ⊢
  have hl : lv_has ls 3 [(0, .ref this)] := hl
  refine q_gen (fun Q hQ => ?_)
  have go : ∀ (H : Heap) (locs : List Loc) (ls : Array Slot), va_P D vwCl (pq_P t σ (I, J, ri, rj, rq)) H → va_D A (pq_P t σ (I, J, ri, rj, rq)) → va_S A s.heap H locs → lv_has ls 3 [(0, .ref this)] → W p l e ({ frames := 2, cells := 0, slots := 0, locals := 42 } : Room) s m (List.toArray ([.ref this] : List Value)) below meth c H locs 0 0 Q (F0 m 0 ls []) := by
    intro H locs ls hP hD hS hl
    refine lv_aload_n hx hb dX12_nextToken_0 rfl (lv_at hl 0 rfl) ?_
    refine lv_aload_n hx hb dX12_nextToken_1 rfl (lv_at hl 0 rfl) ?_
    refine pg_f (v := .int (I 391 this)) (C := RX12) (T := TX12) (N := 31) hx hb hts (tw_i inlX12) hown hK hP hL_this hK_this (by decide) rfl 7 (by decide) (hts _ (tw_c tw_830)) rfl dX12_nextToken_2 ?_
    have h_1 : rg (I 391 this) 0 300 := GM.rI hG 391 rfl
    have uh_1 := h_1.1
    have vh_1 := h_1.2
    refine pk_i (va_runV (As := [.int (I 391 this)]) (rest := []) ⟨hx, hb, hml, hown, hts⟩ (s_X12_see l D t σ I J ri rj rq H.size tg hSH hG.1 this (I 391 this) hL_this hK_this (rg_w h_1 (by decide))) (cwV 1 hts (tw_V tw_839 tw_840 tw_841 tw_5 tw_842) rfl rfl rfl (by decide +kernel) ⟨Nat.le_of_ble_eq_true rfl, Nat.le_of_ble_eq_true rfl⟩) ⟨pq_blind, pq_recv hK hP hL_this hK_this (by decide) rfl, pq_pre hK hN hP hD⟩ rfl rfl hl.1 rfl (lv_room (Nat.le_of_ble_eq_true rfl)) dX12_nextToken_5 ⟨Nat.le_of_ble_eq_true rfl, Nat.le_of_ble_eq_true rfl⟩) hD hS hA (fun x_2 σ1 μ1 H locs hw_3 hP hD hS => ?_)
    obtain ⟨hu_4, hp_7, hr_6⟩ := hw_3
    obtain ⟨hu_4a, hu_4b⟩ := Prod.mk.inj hu_4
    rw [hu_4a, hu_4b] at hP hD
    have tt_8 := hp_7
    have tt_9 := (GM.rI hG 388 (a := this) (lo := 0) (hi := 300) rfl).2
    refine lv_bipush (v := 32) hx hb dX12_nextToken_8 (by decide) ?_
    have K_5028 : ∀  (H : Heap) (locs : List Loc) (ls : Array Slot), GM [392, 391, 393] tg σ I ri I ri rq → va_P D vwCl (pq_P t σ (I, J, ri, rj, rq)) H → va_D A (pq_P t σ (I, J, ri, rj, rq)) → va_S A s.heap H locs → lv_has ls 3 [(0, .ref this)] → W p l e ({ frames := 2, cells := 0, slots := 0, locals := 42 } : Room) s m (List.toArray ([.ref this] : List Value)) below meth c H locs 0 0 Q (F0 m 26 ls []) := by
      intro H locs ls hG hP hD hS hl
      refine lv_aload_n hx hb dX12_nextToken_26 rfl (lv_at hl 0 rfl) ?_
      refine lv_dup hx hb dX12_nextToken_27 rfl ?_
      refine pg_f (v := .int (I 391 this)) (C := RX12) (T := TX12) (N := 31) hx hb hts (tw_i inlX12) hown hK hP hL_this hK_this (by decide) rfl 7 (by decide) (hts _ (tw_c tw_830)) rfl dX12_nextToken_28 ?_
      refine lv_iconst (v := 1) hx hb dX12_nextToken_31 (by decide) ?_
      have h_5029 : rg (I 391 this) 0 299 := ⟨by omega, by omega⟩
      have uh_5029 := h_5029.1
      have vh_5029 := h_5029.2
      refine lv_iadd hx hb dX12_nextToken_32 ?_
      refine lv_topi (fun x_5030 ex_5030 => ?_)
      have h_5031 : rg x_5030 1 300 := rg_of_eq ex_5030 (rg_add h_5029 (rg_k (1 : Int32) 1 rfl) (by decide))
      have uh_5031 := h_5031.1
      have vh_5031 := h_5031.2
      have tx_5030 : (x_5030).toInt = (I 391 this).toInt + 1 := by rw [ex_5030]; exact i_add_rg (a2 := (I 391 this).toInt) (b2 := 1) rfl rfl h_5029 (rg_k (1 : Int32) 1 rfl) (by decide)
      refine pp_i (v := x_5030) (ty := .int) (C := RX12) (T := TX12) (N := 31) hx hb hts (tw_i inlX12) tyX12 tyX12_ok nmX12 hown hK hP hD hS hL_this hK_this (by decide) rfl 7 391 (by decide) (hts _ (tw_c tw_830)) rfl (by decide +kernel) rfl rfl (Nat.le_of_ble_eq_true rfl) (ps_391 _ _ _ _ _) dX12_nextToken_33 (fun I_5032 H locs eI_5032 hP hD hS => ?_)
      have hG := GM.wI hG 391 rfl eI_5032 (rg_w h_5031 (by decide)) (by decide)
      have tt_5033 : (I_5032 391 this).toInt = (x_5030).toInt := by rw [eI_5032, pq_us]
      have tt_5034 : (I_5032 388 this).toInt = (I 388 this).toInt := by rw [eI_5032, pq_uf _ _ _ (by decide)]
      have tt_5035 : (I_5032 392 this).toInt = (I 392 this).toInt := by rw [eI_5032, pq_uf _ _ _ (by decide)]
      refine lv_goto (tgt := 0) hx hb dX12_nextToken_36 (by decide) ?_
      have L_8389 : ∀ (n_8388 : Nat) (I_7549 : Nat → Nat → Int32) (H : Heap) (locs : List Loc) (ls : Array Slot), (300 - (I_7549 391 this).toInt).toNat < n_8388 → GM [392, 391, 393] tg σ I ri I_7549 ri rq → va_P D vwCl (pq_P t σ (I_7549, J, ri, rj, rq)) H → va_D A (pq_P t σ (I_7549, J, ri, rj, rq)) → va_S A s.heap H locs → lv_has ls 3 [(0, .ref this)] → W p l e ({ frames := 2, cells := 0, slots := 0, locals := 42 } : Room) s m (List.toArray ([.ref this] : List Value)) below meth c H locs 0 0 Q (F0 m 0 ls []) := by
        intro n_8388
        induction n_8388 with
        | zero => intro I_7549 H locs ls hm_8387 hG hP hD hS hl; exact absurd hm_8387 (Nat.not_lt_zero _)
        | succ n_8388 ih_8390 =>
          intro I_7549 H locs ls hm_8387 hG hP hD hS hl
          refine lv_aload_n hx hb dX12_nextToken_0 rfl (lv_at hl 0 rfl) ?_
          refine lv_aload_n hx hb dX12_nextToken_1 rfl (lv_at hl 0 rfl) ?_
          refine pg_f (v := .int (I_7549 391 this)) (C := RX12) (T := TX12) (N := 31) hx hb hts (tw_i inlX12) hown hK hP hL_this hK_this (by decide) rfl 7 (by decide) (hts _ (tw_c tw_830)) rfl dX12_nextToken_2 ?_
          have h_8391 : rg (I_7549 391 this) 0 300 := GM.rI hG 391 rfl
          have uh_8391 := h_8391.1
          have vh_8391 := h_8391.2
          refine pk_i (va_runV (As := [.int (I_7549 391 this)]) (rest := []) ⟨hx, hb, hml, hown, hts⟩ (s_X12_see l D t σ I_7549 J ri rj rq H.size tg hSH hG.1 this (I_7549 391 this) hL_this hK_this (rg_w h_8391 (by decide))) (cwV 1 hts (tw_V tw_839 tw_840 tw_841 tw_5 tw_842) rfl rfl rfl (by decide +kernel) ⟨Nat.le_of_ble_eq_true rfl, Nat.le_of_ble_eq_true rfl⟩) ⟨pq_blind, pq_recv hK hP hL_this hK_this (by decide) rfl, pq_pre hK hN hP hD⟩ rfl rfl hl.1 rfl (lv_room (Nat.le_of_ble_eq_true rfl)) dX12_nextToken_5 ⟨Nat.le_of_ble_eq_true rfl, Nat.le_of_ble_eq_true rfl⟩) hD hS hA (fun x_8392 σ1 μ1 H locs hw_8393 hP hD hS => ?_)
          obtain ⟨hu_8394, hp_8397, hr_8396⟩ := hw_8393
          obtain ⟨hu_8394a, hu_8394b⟩ := Prod.mk.inj hu_8394
          rw [hu_8394a, hu_8394b] at hP hD
          have tt_8398 := hp_8397
          have tt_8399 := (GM.rI hG 388 (a := this) (lo := 0) (hi := 300) rfl).2
          refine lv_bipush (v := 32) hx hb dX12_nextToken_8 (by decide) ?_
          have K_9228 : ∀  (H : Heap) (locs : List Loc) (ls : Array Slot), GM [392, 391, 393] tg σ I ri I_7549 ri rq → va_P D vwCl (pq_P t σ (I_7549, J, ri, rj, rq)) H → va_D A (pq_P t σ (I_7549, J, ri, rj, rq)) → va_S A s.heap H locs → lv_has ls 3 [(0, .ref this)] → W p l e ({ frames := 2, cells := 0, slots := 0, locals := 42 } : Room) s m (List.toArray ([.ref this] : List Value)) below meth c H locs 0 0 Q (F0 m 26 ls []) := by
            intro H locs ls hG hP hD hS hl
            refine lv_aload_n hx hb dX12_nextToken_26 rfl (lv_at hl 0 rfl) ?_
            refine lv_dup hx hb dX12_nextToken_27 rfl ?_
            refine pg_f (v := .int (I_7549 391 this)) (C := RX12) (T := TX12) (N := 31) hx hb hts (tw_i inlX12) hown hK hP hL_this hK_this (by decide) rfl 7 (by decide) (hts _ (tw_c tw_830)) rfl dX12_nextToken_28 ?_
            refine lv_iconst (v := 1) hx hb dX12_nextToken_31 (by decide) ?_
            have h_9229 : rg (I_7549 391 this) 0 299 := ⟨by omega, by omega⟩
            have uh_9229 := h_9229.1
            have vh_9229 := h_9229.2
            refine lv_iadd hx hb dX12_nextToken_32 ?_
            refine lv_topi (fun x_9230 ex_9230 => ?_)
            have h_9231 : rg x_9230 1 300 := rg_of_eq ex_9230 (rg_add h_9229 (rg_k (1 : Int32) 1 rfl) (by decide))
            have uh_9231 := h_9231.1
            have vh_9231 := h_9231.2
            have tx_9230 : (x_9230).toInt = (I_7549 391 this).toInt + 1 := by rw [ex_9230]; exact i_add_rg (a2 := (I_7549 391 this).toInt) (b2 := 1) rfl rfl h_9229 (rg_k (1 : Int32) 1 rfl) (by decide)
            refine pp_i (v := x_9230) (ty := .int) (C := RX12) (T := TX12) (N := 31) hx hb hts (tw_i inlX12) tyX12 tyX12_ok nmX12 hown hK hP hD hS hL_this hK_this (by decide) rfl 7 391 (by decide) (hts _ (tw_c tw_830)) rfl (by decide +kernel) rfl rfl (Nat.le_of_ble_eq_true rfl) (ps_391 _ _ _ _ _) dX12_nextToken_33 (fun I_9232 H locs eI_9232 hP hD hS => ?_)
            have hG := GM.wI hG 391 rfl eI_9232 (rg_w h_9231 (by decide)) (by decide)
            have tt_9233 : (I_9232 391 this).toInt = (x_9230).toInt := by rw [eI_9232, pq_us]
            have tt_9234 : (I_9232 388 this).toInt = (I_7549 388 this).toInt := by rw [eI_9232, pq_uf _ _ _ (by decide)]
            have tt_9235 : (I_9232 392 this).toInt = (I_7549 392 this).toInt := by rw [eI_9232, pq_uf _ _ _ (by decide)]
            refine lv_goto (tgt := 0) hx hb dX12_nextToken_36 (by decide) ?_
            exact ih_8390 I_9232 _ _ _ (ms_fu_iadd hm_8387 (by rw [eI_9232]; exact pq_us _ _ _ _) ex_9230 rfl (kk := 1) rfl (by decide) h_9229 (by decide) (by decide)) hG hP hD hS (lv_sub hl [0] rfl)
          refine lv_icmp_eq (tgt := 26) hx hb dX12_nextToken_10 (by decide) (fun c_9236 => ?_) (fun c_9236 => ?_)
          · have tc_9237 : (x_8392).toInt = 32 := congrArg Int32.toInt c_9236
            have h_9238 : rg x_8392 32 32 := rg_and hr_8396 (rg_of_eq c_9236 (rg_k (32 : Int32) 32 rfl)) (by decide)
            have uh_9238 := h_9238.1
            have vh_9238 := h_9238.2
            exact K_9228 _ _ _ hG hP hD hS (lv_sub hl [0] rfl)
          · have tc_9239 : (x_8392).toInt ≠ 32 := fun q => c_9236 (Int32.toInt_inj.mp q)
            refine lv_aload_n hx hb dX12_nextToken_13 rfl (lv_at hl 0 rfl) ?_
            refine lv_aload_n hx hb dX12_nextToken_14 rfl (lv_at hl 0 rfl) ?_
            refine pg_f (v := .int (I_7549 391 this)) (C := RX12) (T := TX12) (N := 31) hx hb hts (tw_i inlX12) hown hK hP hL_this hK_this (by decide) rfl 7 (by decide) (hts _ (tw_c tw_830)) rfl dX12_nextToken_15 ?_
            refine pk_i (va_runV (As := [.int (I_7549 391 this)]) (rest := []) ⟨hx, hb, hml, hown, hts⟩ (s_X12_see l D t σ I_7549 J ri rj rq H.size tg hSH hG.1 this (I_7549 391 this) hL_this hK_this (rg_w h_8391 (by decide))) (cwV 1 hts (tw_V tw_839 tw_840 tw_841 tw_5 tw_842) rfl rfl rfl (by decide +kernel) ⟨Nat.le_of_ble_eq_true rfl, Nat.le_of_ble_eq_true rfl⟩) ⟨pq_blind, pq_recv hK hP hL_this hK_this (by decide) rfl, pq_pre hK hN hP hD⟩ rfl rfl hl.1 rfl (lv_room (Nat.le_of_ble_eq_true rfl)) dX12_nextToken_18 ⟨Nat.le_of_ble_eq_true rfl, Nat.le_of_ble_eq_true rfl⟩) hD hS hA (fun x_9240 σ1 μ1 H locs hw_9241 hP hD hS => ?_)
            obtain ⟨hu_9242, hp_9245, hr_9244⟩ := hw_9241
            obtain ⟨hu_9242a, hu_9242b⟩ := Prod.mk.inj hu_9242
            rw [hu_9242a, hu_9242b] at hP hD
            have tt_9246 := hp_9245
            have tt_9247 := (GM.rI hG 388 (a := this) (lo := 0) (hi := 300) rfl).2
            refine lv_bipush (v := 10) hx hb dX12_nextToken_21 (by decide) ?_
            refine lv_icmp_ne (tgt := 39) hx hb dX12_nextToken_23 (by decide) (fun c_9248 => ?_) (fun c_9248 => ?_)
            · have tc_9249 : (x_9240).toInt ≠ 10 := fun q => c_9248 (Int32.toInt_inj.mp q)
              refine lv_aload_n hx hb dX12_nextToken_39 rfl (lv_at hl 0 rfl) ?_
              refine lv_aload_n hx hb dX12_nextToken_40 rfl (lv_at hl 0 rfl) ?_
              refine pg_f (v := .int (I_7549 391 this)) (C := RX12) (T := TX12) (N := 31) hx hb hts (tw_i inlX12) hown hK hP hL_this hK_this (by decide) rfl 7 (by decide) (hts _ (tw_c tw_830)) rfl dX12_nextToken_41 ?_
              refine pp_i (v := (I_7549 391 this)) (ty := .int) (C := RX12) (T := TX12) (N := 31) hx hb hts (tw_i inlX12) tyX12 tyX12_ok nmX12 hown hK hP hD hS hL_this hK_this (by decide) rfl 8 392 (by decide) (hts _ (tw_c tw_820)) rfl (by decide +kernel) rfl rfl (Nat.le_of_ble_eq_true rfl) (ps_392 _ _ _ _ _) dX12_nextToken_44 (fun I_9250 H locs eI_9250 hP hD hS => ?_)
              have hG := GM.wI hG 392 rfl eI_9250 (rg_w h_8391 (by decide)) (by decide)
              have tt_9251 : (I_9250 391 this).toInt = (I_7549 391 this).toInt := by rw [eI_9250, pq_uf _ _ _ (by decide)]
              have tt_9252 : (I_9250 388 this).toInt = (I_7549 388 this).toInt := by rw [eI_9250, pq_uf _ _ _ (by decide)]
              have tt_9253 : (I_9250 392 this).toInt = (I_7549 391 this).toInt := by rw [eI_9250, pq_us]
              refine lv_aload_n hx hb dX12_nextToken_47 rfl (lv_at hl 0 rfl) ?_
              refine lv_aload_n hx hb dX12_nextToken_48 rfl (lv_at hl 0 rfl) ?_
              refine pg_f (v := .int (I_9250 391 this)) (C := RX12) (T := TX12) (N := 31) hx hb hts (tw_i inlX12) hown hK hP hL_this hK_this (by decide) rfl 7 (by decide) (hts _ (tw_c tw_830)) rfl dX12_nextToken_49 ?_
              have h_9254 : rg (I_9250 391 this) 0 300 := GM.rI hG 391 rfl
              have uh_9254 := h_9254.1
              have vh_9254 := h_9254.2
              refine pk_i (va_runV (As := [.int (I_9250 391 this)]) (rest := []) ⟨hx, hb, hml, hown, hts⟩ (s_X12_see l D t σ I_9250 J ri rj rq H.size tg hSH hG.1 this (I_9250 391 this) hL_this hK_this (rg_w h_9254 (by decide))) (cwV 1 hts (tw_V tw_839 tw_840 tw_841 tw_5 tw_842) rfl rfl rfl (by decide +kernel) ⟨Nat.le_of_ble_eq_true rfl, Nat.le_of_ble_eq_true rfl⟩) ⟨pq_blind, pq_recv hK hP hL_this hK_this (by decide) rfl, pq_pre hK hN hP hD⟩ rfl rfl hl.1 rfl (lv_room (Nat.le_of_ble_eq_true rfl)) dX12_nextToken_52 ⟨Nat.le_of_ble_eq_true rfl, Nat.le_of_ble_eq_true rfl⟩) hD hS hA (fun x_9255 σ1 μ1 H locs hw_9256 hP hD hS => ?_)
              obtain ⟨hu_9257, hp_9260, hr_9259⟩ := hw_9256
              obtain ⟨hu_9257a, hu_9257b⟩ := Prod.mk.inj hu_9257
              rw [hu_9257a, hu_9257b] at hP hD
              have tt_9261 := hp_9260
              have tt_9262 := (GM.rI hG 388 (a := this) (lo := 0) (hi := 300) rfl).2
              refine lv_istore_n (lv' := [(1, .int x_9255), (0, .ref this)]) hx hb dX12_nextToken_55 rfl hl (by decide) rfl (fun ls hl => ?_)
              refine lv_iload_n hx hb dX12_nextToken_56 rfl (lv_at hl 0 rfl) ?_
              refine lv_if_ge (tgt := 68) hx hb dX12_nextToken_57 (by decide) (fun c_9263 => ?_) (fun c_9263 => ?_)
              · have tc_9264 : 0 ≤ (x_9255).toInt := Int32.le_iff_toInt_le.mp c_9263
                have h_9265 : rg x_9255 0 255 := rg_le2 c_9263 (rg_k (0 : Int32) 0 rfl) hr_9259 (by decide)
                have uh_9265 := h_9265.1
                have vh_9265 := h_9265.2
                refine lv_iload_n hx hb dX12_nextToken_68 rfl (lv_at hl 0 rfl) ?_
                refine pk_i (va_runS (As := [.int x_9255]) (rest := []) ⟨hx, hb, hml, hown, hts⟩ (s_X12_isDigit l D t σ I_9250 J ri rj rq H.size tg hSH hG.1 x_9255) (va_cwS 1 hts (tw_S tw_843 tw_844 tw_5 tw_845) rfl rfl rfl (by decide +kernel) ⟨Nat.le_of_ble_eq_true rfl, Nat.le_of_ble_eq_true rfl⟩) ⟨pq_blind, pq_pre hK hN hP hD⟩ rfl rfl hl.1 rfl (lv_room (Nat.le_of_ble_eq_true rfl)) dX12_nextToken_69 ⟨Nat.le_of_ble_eq_true rfl, Nat.le_of_ble_eq_true rfl⟩) hD hS hA (fun x_9266 σ1 μ1 H locs hw_9267 hP hD hS => ?_)
                obtain ⟨hu_9268, hr_9270⟩ := hw_9267
                obtain ⟨hu_9268a, hu_9268b⟩ := Prod.mk.inj hu_9268
                rw [hu_9268a, hu_9268b] at hP hD
                have h_9271 : rg x_9266 0 1 := by rcases hr_9270 with ⟨q, -⟩ | ⟨q, -⟩ <;> rw [q] <;> exact ⟨by decide, by decide⟩
                have uh_9271 := h_9271.1
                have vh_9271 := h_9271.2
                refine lv_if_eq (tgt := 144) hx hb dX12_nextToken_72 (by decide) (fun c_9272 => ?_) (fun c_9272 => ?_)
                · have f_9273 := (hr_9270.resolve_left (fun q => absurd (q.1.symm.trans c_9272) (by decide))).2
                  have tc_9274 : (x_9266).toInt = 0 := congrArg Int32.toInt c_9272
                  have h_9275 : rg x_9266 0 0 := rg_and h_9271 (rg_of_eq c_9272 (rg_k (0 : Int32) 0 rfl)) (by decide)
                  have uh_9275 := h_9275.1
                  have vh_9275 := h_9275.2
                  refine lv_iload_n hx hb dX12_nextToken_144 rfl (lv_at hl 0 rfl) ?_
                  refine pk_i (va_runS (As := [.int x_9255]) (rest := []) ⟨hx, hb, hml, hown, hts⟩ (s_X12_isLetter l D t σ I_9250 J ri rj rq H.size tg hSH hG.1 x_9255) (va_cwS 1 hts (tw_S tw_846 tw_847 tw_5 tw_848) rfl rfl rfl (by decide +kernel) ⟨Nat.le_of_ble_eq_true rfl, Nat.le_of_ble_eq_true rfl⟩) ⟨pq_blind, pq_pre hK hN hP hD⟩ rfl rfl hl.1 rfl (lv_room (Nat.le_of_ble_eq_true rfl)) dX12_nextToken_145 ⟨Nat.le_of_ble_eq_true rfl, Nat.le_of_ble_eq_true rfl⟩) hD hS hA (fun x_9276 σ1 μ1 H locs hw_9277 hP hD hS => ?_)
                  obtain ⟨hu_9278, hr_9280⟩ := hw_9277
                  obtain ⟨hu_9278a, hu_9278b⟩ := Prod.mk.inj hu_9278
                  rw [hu_9278a, hu_9278b] at hP hD
                  have h_9281 : rg x_9276 0 1 := by rcases hr_9280 with ⟨q, -⟩ | ⟨q, -⟩ <;> rw [q] <;> exact ⟨by decide, by decide⟩
                  have uh_9281 := h_9281.1
                  have vh_9281 := h_9281.2
                  refine lv_if_eq (tgt := 245) hx hb dX12_nextToken_148 (by decide) (fun c_9282 => ?_) (fun c_9282 => ?_)
                  · have f_9283 := (hr_9280.resolve_left (fun q => absurd (q.1.symm.trans c_9282) (by decide))).2
                    have tc_9284 : (x_9276).toInt = 0 := congrArg Int32.toInt c_9282
                    have h_9285 : rg x_9276 0 0 := rg_and h_9281 (rg_of_eq c_9282 (rg_k (0 : Int32) 0 rfl)) (by decide)
                    have uh_9285 := h_9285.1
                    have vh_9285 := h_9285.2
                    refine lv_aload_n hx hb dX12_nextToken_245 rfl (lv_at hl 1 rfl) ?_
                    refine lv_dup hx hb dX12_nextToken_246 rfl ?_
                    refine pg_f (v := .int (I_9250 391 this)) (C := RX12) (T := TX12) (N := 31) hx hb hts (tw_i inlX12) hown hK hP hL_this hK_this (by decide) rfl 7 (by decide) (hts _ (tw_c tw_830)) rfl dX12_nextToken_247 ?_
                    refine lv_iconst (v := 1) hx hb dX12_nextToken_250 (by decide) ?_
                    have h_9286 : rg (I_9250 391 this) 0 299 := ⟨by omega, by omega⟩
                    have uh_9286 := h_9286.1
                    have vh_9286 := h_9286.2
                    refine lv_iadd hx hb dX12_nextToken_251 ?_
                    refine lv_topi (fun x_9287 ex_9287 => ?_)
                    have h_9288 : rg x_9287 1 300 := rg_of_eq ex_9287 (rg_add h_9286 (rg_k (1 : Int32) 1 rfl) (by decide))
                    have uh_9288 := h_9288.1
                    have vh_9288 := h_9288.2
                    have tx_9287 : (x_9287).toInt = (I_9250 391 this).toInt + 1 := by rw [ex_9287]; exact i_add_rg (a2 := (I_9250 391 this).toInt) (b2 := 1) rfl rfl h_9286 (rg_k (1 : Int32) 1 rfl) (by decide)
                    refine pp_i (v := x_9287) (ty := .int) (C := RX12) (T := TX12) (N := 31) hx hb hts (tw_i inlX12) tyX12 tyX12_ok nmX12 hown hK hP hD hS hL_this hK_this (by decide) rfl 7 391 (by decide) (hts _ (tw_c tw_830)) rfl (by decide +kernel) rfl rfl (Nat.le_of_ble_eq_true rfl) (ps_391 _ _ _ _ _) dX12_nextToken_252 (fun I_9289 H locs eI_9289 hP hD hS => ?_)
                    have hG := GM.wI hG 391 rfl eI_9289 (rg_w h_9288 (by decide)) (by decide)
                    have tt_9290 : (I_9289 391 this).toInt = (x_9287).toInt := by rw [eI_9289, pq_us]
                    have tt_9291 : (I_9289 388 this).toInt = (I_9250 388 this).toInt := by rw [eI_9289, pq_uf _ _ _ (by decide)]
                    have tt_9292 : (I_9289 392 this).toInt = (I_9250 392 this).toInt := by rw [eI_9289, pq_uf _ _ _ (by decide)]
                    refine lv_iload_n hx hb dX12_nextToken_255 rfl (lv_at hl 0 rfl) ?_
                    refine lv_bipush (v := 60) hx hb dX12_nextToken_256 (by decide) ?_
                    have K_9442 : ∀  (H : Heap) (locs : List Loc) (ls : Array Slot), GM [392, 391, 393] tg σ I ri I_9289 ri rq → va_P D vwCl (pq_P t σ (I_9289, J, ri, rj, rq)) H → va_D A (pq_P t σ (I_9289, J, ri, rj, rq)) → va_S A s.heap H locs → lv_has ls 3 [(0, .ref this), (1, .int x_9255)] → W p l e ({ frames := 2, cells := 0, slots := 0, locals := 42 } : Room) s m (List.toArray ([.ref this] : List Value)) below meth c H locs 0 0 Q (F0 m 332 ls [.int 0]) := by
                      intro H locs ls hG hP hD hS hl
                      refine lv_istore_n (lv' := [(2, .int 0), (0, .ref this), (1, .int x_9255)]) hx hb dX12_nextToken_332 rfl hl (by decide) rfl (fun ls hl => ?_)
                      refine lv_aload_n hx hb dX12_nextToken_333 rfl (lv_at hl 1 rfl) ?_
                      refine lv_iload_n hx hb dX12_nextToken_334 rfl (lv_at hl 0 rfl) ?_
                      have K_9492 : ∀  (H : Heap) (locs : List Loc) (ls : Array Slot), GM [392, 391, 393] tg σ I ri I_9289 ri rq → va_P D vwCl (pq_P t σ (I_9289, J, ri, rj, rq)) H → va_D A (pq_P t σ (I_9289, J, ri, rj, rq)) → va_S A s.heap H locs → lv_has ls 3 [(0, .ref this), (1, .int x_9255)] → W p l e ({ frames := 2, cells := 0, slots := 0, locals := 42 } : Room) s m (List.toArray ([.ref this] : List Value)) below meth c H locs 0 0 Q (F0 m 343 ls [.int 3, .ref this]) := by
                        intro H locs ls hG hP hD hS hl
                        refine pp_i (v := 3) (ty := .int) (C := RX12) (T := TX12) (N := 31) hx hb hts (tw_i inlX12) tyX12 tyX12_ok nmX12 hown hK hP hD hS hL_this hK_this (by decide) rfl 9 393 (by decide) (hts _ (tw_c tw_831)) rfl (by decide +kernel) rfl rfl (Nat.le_of_ble_eq_true rfl) (ps_393 _ _ _ _ _) dX12_nextToken_343 (fun I_9493 H locs eI_9493 hP hD hS => ?_)
                        have hG := GM.wI hG 393 rfl eI_9493 (rg_w (rg_k (3 : Int32) 3 rfl) (by decide)) (by decide)
                        have tt_9494 : (I_9493 391 this).toInt = (I_9289 391 this).toInt := by rw [eI_9493, pq_uf _ _ _ (by decide)]
                        have tt_9495 : (I_9493 388 this).toInt = (I_9289 388 this).toInt := by rw [eI_9493, pq_uf _ _ _ (by decide)]
                        have tt_9496 : (I_9493 392 this).toInt = (I_9289 392 this).toInt := by rw [eI_9493, pq_uf _ _ _ (by decide)]
                        refine lv_iload_n hx hb dX12_nextToken_346 rfl (lv_at hl 1 rfl) ?_
                        refine lv_bipush (v := 60) hx hb dX12_nextToken_347 (by decide) ?_
                        have K_9541 : ∀  (H : Heap) (locs : List Loc) (ls : Array Slot), rg (x_9255) 60 62 → GM [392, 391, 393] tg σ I ri I_9493 ri rq → va_P D vwCl (pq_P t σ (I_9493, J, ri, rj, rq)) H → va_D A (pq_P t σ (I_9493, J, ri, rj, rq)) → va_S A s.heap H locs → lv_has ls 3 [(0, .ref this), (1, .int x_9255)] → W p l e ({ frames := 2, cells := 0, slots := 0, locals := 42 } : Room) s m (List.toArray ([.ref this] : List Value)) below meth c H locs 0 0 Q (F0 m 358 ls []) := by
                          intro H locs ls h_9543 hG hP hD hS hl
                          have uh_9543 := h_9543.1
                          have vh_9543 := h_9543.2
                          refine lv_aload_n hx hb dX12_nextToken_358 rfl (lv_at hl 0 rfl) ?_
                          refine lv_aload_n hx hb dX12_nextToken_359 rfl (lv_at hl 0 rfl) ?_
                          refine pg_f (v := .int (I_9493 391 this)) (C := RX12) (T := TX12) (N := 31) hx hb hts (tw_i inlX12) hown hK hP hL_this hK_this (by decide) rfl 7 (by decide) (hts _ (tw_c tw_830)) rfl dX12_nextToken_360 ?_
                          have h_9544 : rg (I_9493 391 this) 1 300 := (by rw [eI_9493, pq_uf _ _ _ (by decide)]; exact (by rw [eI_9289, pq_us]; exact h_9288))
                          have uh_9544 := h_9544.1
                          have vh_9544 := h_9544.2
                          refine pk_i (va_runV (As := [.int (I_9493 391 this)]) (rest := []) ⟨hx, hb, hml, hown, hts⟩ (s_X12_see l D t σ I_9493 J ri rj rq H.size tg hSH hG.1 this (I_9493 391 this) hL_this hK_this (rg_w h_9544 (by decide))) (cwV 1 hts (tw_V tw_839 tw_840 tw_841 tw_5 tw_842) rfl rfl rfl (by decide +kernel) ⟨Nat.le_of_ble_eq_true rfl, Nat.le_of_ble_eq_true rfl⟩) ⟨pq_blind, pq_recv hK hP hL_this hK_this (by decide) rfl, pq_pre hK hN hP hD⟩ rfl rfl hl.1 rfl (lv_room (Nat.le_of_ble_eq_true rfl)) dX12_nextToken_363 ⟨Nat.le_of_ble_eq_true rfl, Nat.le_of_ble_eq_true rfl⟩) hD hS hA (fun x_9545 σ1 μ1 H locs hw_9546 hP hD hS => ?_)
                          obtain ⟨hu_9547, hp_9550, hr_9549⟩ := hw_9546
                          obtain ⟨hu_9547a, hu_9547b⟩ := Prod.mk.inj hu_9547
                          rw [hu_9547a, hu_9547b] at hP hD
                          have tt_9551 := hp_9550
                          have tt_9552 := (GM.rI hG 388 (a := this) (lo := 0) (hi := 300) rfl).2
                          refine lv_bipush (v := 61) hx hb dX12_nextToken_366 (by decide) ?_
                          refine lv_icmp_ne (tgt := 396) hx hb dX12_nextToken_368 (by decide) (fun c_9553 => ?_) (fun c_9553 => ?_)
                          · have tc_9554 : (x_9545).toInt ≠ 61 := fun q => c_9553 (Int32.toInt_inj.mp q)
                            subst hQ
                            exact W.vret hx hb hr (fun t1 ht hW => ⟨⟨(σ, I_9493, J, ri, rj, rq), rfl, ⟨I_9493, J, rfl, hG⟩, by rw [ht]; exact hP, va_K.moved hW.alike hK, hD⟩, hS.F ht⟩) hS.2.2 dX12_nextToken_396
                          · have tc_9555 : (x_9545).toInt = 61 := congrArg Int32.toInt c_9553
                            have h_9556 : rg x_9545 61 61 := rg_and hr_9549 (rg_of_eq c_9553 (rg_k (61 : Int32) 61 rfl)) (by decide)
                            have uh_9556 := h_9556.1
                            have vh_9556 := h_9556.2
                            refine lv_aload_n hx hb dX12_nextToken_371 rfl (lv_at hl 0 rfl) ?_
                            refine lv_dup hx hb dX12_nextToken_372 rfl ?_
                            refine pg_f (v := .int (I_9493 391 this)) (C := RX12) (T := TX12) (N := 31) hx hb hts (tw_i inlX12) hown hK hP hL_this hK_this (by decide) rfl 7 (by decide) (hts _ (tw_c tw_830)) rfl dX12_nextToken_373 ?_
                            refine lv_iconst (v := 1) hx hb dX12_nextToken_376 (by decide) ?_
                            have h_9557 : rg (I_9493 391 this) 0 299 := ⟨by omega, by omega⟩
                            have uh_9557 := h_9557.1
                            have vh_9557 := h_9557.2
                            refine lv_iadd hx hb dX12_nextToken_377 ?_
                            refine lv_topi (fun x_9558 ex_9558 => ?_)
                            have h_9559 : rg x_9558 1 300 := rg_of_eq ex_9558 (rg_add h_9557 (rg_k (1 : Int32) 1 rfl) (by decide))
                            have uh_9559 := h_9559.1
                            have vh_9559 := h_9559.2
                            have tx_9558 : (x_9558).toInt = (I_9493 391 this).toInt + 1 := by rw [ex_9558]; exact i_add_rg (a2 := (I_9493 391 this).toInt) (b2 := 1) rfl rfl h_9557 (rg_k (1 : Int32) 1 rfl) (by decide)
                            refine pp_i (v := x_9558) (ty := .int) (C := RX12) (T := TX12) (N := 31) hx hb hts (tw_i inlX12) tyX12 tyX12_ok nmX12 hown hK hP hD hS hL_this hK_this (by decide) rfl 7 391 (by decide) (hts _ (tw_c tw_830)) rfl (by decide +kernel) rfl rfl (Nat.le_of_ble_eq_true rfl) (ps_391 _ _ _ _ _) dX12_nextToken_378 (fun I_9560 H locs eI_9560 hP hD hS => ?_)
                            have hG := GM.wI hG 391 rfl eI_9560 (rg_w h_9559 (by decide)) (by decide)
                            have tt_9561 : (I_9560 391 this).toInt = (x_9558).toInt := by rw [eI_9560, pq_us]
                            have tt_9562 : (I_9560 388 this).toInt = (I_9493 388 this).toInt := by rw [eI_9560, pq_uf _ _ _ (by decide)]
                            have tt_9563 : (I_9560 392 this).toInt = (I_9493 392 this).toInt := by rw [eI_9560, pq_uf _ _ _ (by decide)]
                            refine lv_aload_n hx hb dX12_nextToken_381 rfl (lv_at hl 0 rfl) ?_
                            refine lv_iload_n hx hb dX12_nextToken_382 rfl (lv_at hl 1 rfl) ?_
                            refine lv_bipush (v := 60) hx hb dX12_nextToken_383 (by decide) ?_
                            have K_9579 : ∀  (H : Heap) (locs : List Loc) (ls : Array Slot), rg (x_9255) 61 62 → GM [392, 391, 393] tg σ I ri I_9560 ri rq → va_P D vwCl (pq_P t σ (I_9560, J, ri, rj, rq)) H → va_D A (pq_P t σ (I_9560, J, ri, rj, rq)) → va_S A s.heap H locs → lv_has ls 3 [] → W p l e ({ frames := 2, cells := 0, slots := 0, locals := 42 } : Room) s m (List.toArray ([.ref this] : List Value)) below meth c H locs 0 0 Q (F0 m 393 ls [.int 5, .ref this]) := by
                              intro H locs ls h_9581 hG hP hD hS hl
                              have uh_9581 := h_9581.1
                              have vh_9581 := h_9581.2
                              refine pp_i (v := 5) (ty := .int) (C := RX12) (T := TX12) (N := 31) hx hb hts (tw_i inlX12) tyX12 tyX12_ok nmX12 hown hK hP hD hS hL_this hK_this (by decide) rfl 9 393 (by decide) (hts _ (tw_c tw_831)) rfl (by decide +kernel) rfl rfl (Nat.le_of_ble_eq_true rfl) (ps_393 _ _ _ _ _) dX12_nextToken_393 (fun I_9582 H locs eI_9582 hP hD hS => ?_)
                              have hG := GM.wI hG 393 rfl eI_9582 (rg_w (rg_k (5 : Int32) 5 rfl) (by decide)) (by decide)
                              have tt_9583 : (I_9582 391 this).toInt = (I_9560 391 this).toInt := by rw [eI_9582, pq_uf _ _ _ (by decide)]
                              have tt_9584 : (I_9582 388 this).toInt = (I_9560 388 this).toInt := by rw [eI_9582, pq_uf _ _ _ (by decide)]
                              have tt_9585 : (I_9582 392 this).toInt = (I_9560 392 this).toInt := by rw [eI_9582, pq_uf _ _ _ (by decide)]
                              subst hQ
                              exact W.vret hx hb hr (fun t1 ht hW => ⟨⟨(σ, I_9582, J, ri, rj, rq), rfl, ⟨I_9582, J, rfl, hG⟩, by rw [ht]; exact hP, va_K.moved hW.alike hK, hD⟩, hS.F ht⟩) hS.2.2 dX12_nextToken_396
                            have K_9586 : ∀  (H : Heap) (locs : List Loc) (ls : Array Slot), rg (x_9255) 60 60 → GM [392, 391, 393] tg σ I ri I_9560 ri rq → va_P D vwCl (pq_P t σ (I_9560, J, ri, rj, rq)) H → va_D A (pq_P t σ (I_9560, J, ri, rj, rq)) → va_S A s.heap H locs → lv_has ls 3 [] → W p l e ({ frames := 2, cells := 0, slots := 0, locals := 42 } : Room) s m (List.toArray ([.ref this] : List Value)) below meth c H locs 0 0 Q (F0 m 393 ls [.int 4, .ref this]) := by
                              intro H locs ls h_9588 hG hP hD hS hl
                              have uh_9588 := h_9588.1
                              have vh_9588 := h_9588.2
                              refine pp_i (v := 4) (ty := .int) (C := RX12) (T := TX12) (N := 31) hx hb hts (tw_i inlX12) tyX12 tyX12_ok nmX12 hown hK hP hD hS hL_this hK_this (by decide) rfl 9 393 (by decide) (hts _ (tw_c tw_831)) rfl (by decide +kernel) rfl rfl (Nat.le_of_ble_eq_true rfl) (ps_393 _ _ _ _ _) dX12_nextToken_393 (fun I_9589 H locs eI_9589 hP hD hS => ?_)
                              have hG := GM.wI hG 393 rfl eI_9589 (rg_w (rg_k (4 : Int32) 4 rfl) (by decide)) (by decide)
                              have tt_9590 : (I_9589 391 this).toInt = (I_9560 391 this).toInt := by rw [eI_9589, pq_uf _ _ _ (by decide)]
                              have tt_9591 : (I_9589 388 this).toInt = (I_9560 388 this).toInt := by rw [eI_9589, pq_uf _ _ _ (by decide)]
                              have tt_9592 : (I_9589 392 this).toInt = (I_9560 392 this).toInt := by rw [eI_9589, pq_uf _ _ _ (by decide)]
                              subst hQ
                              exact W.vret hx hb hr (fun t1 ht hW => ⟨⟨(σ, I_9589, J, ri, rj, rq), rfl, ⟨I_9589, J, rfl, hG⟩, by rw [ht]; exact hP, va_K.moved hW.alike hK, hD⟩, hS.F ht⟩) hS.2.2 dX12_nextToken_396
                            refine lv_icmp_ne (tgt := 392) hx hb dX12_nextToken_385 (by decide) (fun c_9593 => ?_) (fun c_9593 => ?_)
                            · have tc_9594 : (x_9255).toInt ≠ 60 := fun q => c_9593 (Int32.toInt_inj.mp q)
                              have h_9595 : rg x_9255 61 62 := rg_ne c_9593 h_9543 60 rfl (by decide)
                              have uh_9595 := h_9595.1
                              have vh_9595 := h_9595.2
                              refine lv_iconst (v := 5) hx hb dX12_nextToken_392 (by decide) ?_
                              exact K_9579 _ _ _ (rg_w h_9595 (by decide)) hG hP hD hS (lv_sub hl [] rfl)
                            · have tc_9596 : (x_9255).toInt = 60 := congrArg Int32.toInt c_9593
                              have h_9597 : rg x_9255 60 60 := rg_and h_9543 (rg_of_eq c_9593 (rg_k (60 : Int32) 60 rfl)) (by decide)
                              have uh_9597 := h_9597.1
                              have vh_9597 := h_9597.2
                              refine lv_iconst (v := 4) hx hb dX12_nextToken_388 (by decide) ?_
                              refine lv_goto (tgt := 393) hx hb dX12_nextToken_389 (by decide) ?_
                              exact K_9586 _ _ _ (rg_w h_9597 (by decide)) hG hP hD hS (lv_sub hl [] rfl)
                        refine lv_icmp_eq (tgt := 358) hx hb dX12_nextToken_349 (by decide) (fun c_9598 => ?_) (fun c_9598 => ?_)
                        · have tc_9599 : (x_9255).toInt = 60 := congrArg Int32.toInt c_9598
                          have h_9600 : rg x_9255 60 60 := rg_and h_9265 (rg_of_eq c_9598 (rg_k (60 : Int32) 60 rfl)) (by decide)
                          have uh_9600 := h_9600.1
                          have vh_9600 := h_9600.2
                          exact K_9541 _ _ _ (rg_w h_9600 (by decide)) hG hP hD hS (lv_sub hl [0, 1] rfl)
                        · have tc_9601 : (x_9255).toInt ≠ 60 := fun q => c_9598 (Int32.toInt_inj.mp q)
                          refine lv_iload_n hx hb dX12_nextToken_352 rfl (lv_at hl 1 rfl) ?_
                          refine lv_bipush (v := 62) hx hb dX12_nextToken_353 (by decide) ?_
                          refine lv_icmp_ne (tgt := 396) hx hb dX12_nextToken_355 (by decide) (fun c_9602 => ?_) (fun c_9602 => ?_)
                          · have tc_9603 : (x_9255).toInt ≠ 62 := fun q => c_9602 (Int32.toInt_inj.mp q)
                            subst hQ
                            exact W.vret hx hb hr (fun t1 ht hW => ⟨⟨(σ, I_9493, J, ri, rj, rq), rfl, ⟨I_9493, J, rfl, hG⟩, by rw [ht]; exact hP, va_K.moved hW.alike hK, hD⟩, hS.F ht⟩) hS.2.2 dX12_nextToken_396
                          · have tc_9604 : (x_9255).toInt = 62 := congrArg Int32.toInt c_9602
                            have h_9605 : rg x_9255 62 62 := rg_and h_9265 (rg_of_eq c_9602 (rg_k (62 : Int32) 62 rfl)) (by decide)
                            have uh_9605 := h_9605.1
                            have vh_9605 := h_9605.2
                            exact K_9541 _ _ _ (rg_w h_9605 (by decide)) hG hP hD hS (lv_sub hl [0, 1] rfl)
                      refine lv_if_eq (tgt := 342) hx hb dX12_nextToken_335 (by decide) (fun c_9606 => ?_) (fun c_9606 => absurd c_9606 (by decide))
                      refine lv_iconst (v := 3) hx hb dX12_nextToken_342 (by decide) ?_
                      exact K_9492 _ _ _ hG hP hD hS (lv_sub hl [1, 2] rfl)
                    have K_9607 : ∀  (H : Heap) (locs : List Loc) (ls : Array Slot), rg (x_9255) 35 62 → GM [392, 391, 393] tg σ I ri I_9289 ri rq → va_P D vwCl (pq_P t σ (I_9289, J, ri, rj, rq)) H → va_D A (pq_P t σ (I_9289, J, ri, rj, rq)) → va_S A s.heap H locs → lv_has ls 3 [(0, .ref this), (1, .int x_9255)] → W p l e ({ frames := 2, cells := 0, slots := 0, locals := 42 } : Room) s m (List.toArray ([.ref this] : List Value)) below meth c H locs 0 0 Q (F0 m 332 ls [.int 1]) := by
                      intro H locs ls h_9609 hG hP hD hS hl
                      have uh_9609 := h_9609.1
                      have vh_9609 := h_9609.2
                      refine lv_istore_n (lv' := [(2, .int 1), (0, .ref this), (1, .int x_9255)]) hx hb dX12_nextToken_332 rfl hl (by decide) rfl (fun ls hl => ?_)
                      refine lv_aload_n hx hb dX12_nextToken_333 rfl (lv_at hl 1 rfl) ?_
                      refine lv_iload_n hx hb dX12_nextToken_334 rfl (lv_at hl 0 rfl) ?_
                      have K_9660 : ∀  (H : Heap) (locs : List Loc) (ls : Array Slot), GM [392, 391, 393] tg σ I ri I_9289 ri rq → va_P D vwCl (pq_P t σ (I_9289, J, ri, rj, rq)) H → va_D A (pq_P t σ (I_9289, J, ri, rj, rq)) → va_S A s.heap H locs → lv_has ls 3 [(0, .ref this), (1, .int x_9255)] → W p l e ({ frames := 2, cells := 0, slots := 0, locals := 42 } : Room) s m (List.toArray ([.ref this] : List Value)) below meth c H locs 0 0 Q (F0 m 343 ls [.int x_9255, .ref this]) := by
                        intro H locs ls hG hP hD hS hl
                        refine pp_i (v := x_9255) (ty := .int) (C := RX12) (T := TX12) (N := 31) hx hb hts (tw_i inlX12) tyX12 tyX12_ok nmX12 hown hK hP hD hS hL_this hK_this (by decide) rfl 9 393 (by decide) (hts _ (tw_c tw_831)) rfl (by decide +kernel) rfl rfl (Nat.le_of_ble_eq_true rfl) (ps_393 _ _ _ _ _) dX12_nextToken_343 (fun I_9661 H locs eI_9661 hP hD hS => ?_)
                        have hG := GM.wI hG 393 rfl eI_9661 (rg_w h_9609 (by decide)) (by decide)
                        have tt_9662 : (I_9661 391 this).toInt = (I_9289 391 this).toInt := by rw [eI_9661, pq_uf _ _ _ (by decide)]
                        have tt_9663 : (I_9661 388 this).toInt = (I_9289 388 this).toInt := by rw [eI_9661, pq_uf _ _ _ (by decide)]
                        have tt_9664 : (I_9661 392 this).toInt = (I_9289 392 this).toInt := by rw [eI_9661, pq_uf _ _ _ (by decide)]
                        refine lv_iload_n hx hb dX12_nextToken_346 rfl (lv_at hl 1 rfl) ?_
                        refine lv_bipush (v := 60) hx hb dX12_nextToken_347 (by decide) ?_
                        have K_9710 : ∀  (H : Heap) (locs : List Loc) (ls : Array Slot), rg (x_9255) 60 62 → GM [392, 391, 393] tg σ I ri I_9661 ri rq → va_P D vwCl (pq_P t σ (I_9661, J, ri, rj, rq)) H → va_D A (pq_P t σ (I_9661, J, ri, rj, rq)) → va_S A s.heap H locs → lv_has ls 3 [(0, .ref this), (1, .int x_9255)] → W p l e ({ frames := 2, cells := 0, slots := 0, locals := 42 } : Room) s m (List.toArray ([.ref this] : List Value)) below meth c H locs 0 0 Q (F0 m 358 ls []) := by
                          intro H locs ls h_9712 hG hP hD hS hl
                          have uh_9712 := h_9712.1
                          have vh_9712 := h_9712.2
                          refine lv_aload_n hx hb dX12_nextToken_358 rfl (lv_at hl 0 rfl) ?_
                          refine lv_aload_n hx hb dX12_nextToken_359 rfl (lv_at hl 0 rfl) ?_
                          refine pg_f (v := .int (I_9661 391 this)) (C := RX12) (T := TX12) (N := 31) hx hb hts (tw_i inlX12) hown hK hP hL_this hK_this (by decide) rfl 7 (by decide) (hts _ (tw_c tw_830)) rfl dX12_nextToken_360 ?_
                          have h_9713 : rg (I_9661 391 this) 1 300 := (by rw [eI_9661, pq_uf _ _ _ (by decide)]; exact (by rw [eI_9289, pq_us]; exact h_9288))
                          have uh_9713 := h_9713.1
                          have vh_9713 := h_9713.2
                          refine pk_i (va_runV (As := [.int (I_9661 391 this)]) (rest := []) ⟨hx, hb, hml, hown, hts⟩ (s_X12_see l D t σ I_9661 J ri rj rq H.size tg hSH hG.1 this (I_9661 391 this) hL_this hK_this (rg_w h_9713 (by decide))) (cwV 1 hts (tw_V tw_839 tw_840 tw_841 tw_5 tw_842) rfl rfl rfl (by decide +kernel) ⟨Nat.le_of_ble_eq_true rfl, Nat.le_of_ble_eq_true rfl⟩) ⟨pq_blind, pq_recv hK hP hL_this hK_this (by decide) rfl, pq_pre hK hN hP hD⟩ rfl rfl hl.1 rfl (lv_room (Nat.le_of_ble_eq_true rfl)) dX12_nextToken_363 ⟨Nat.le_of_ble_eq_true rfl, Nat.le_of_ble_eq_true rfl⟩) hD hS hA (fun x_9714 σ1 μ1 H locs hw_9715 hP hD hS => ?_)
                          obtain ⟨hu_9716, hp_9719, hr_9718⟩ := hw_9715
                          obtain ⟨hu_9716a, hu_9716b⟩ := Prod.mk.inj hu_9716
                          rw [hu_9716a, hu_9716b] at hP hD
                          have tt_9720 := hp_9719
                          have tt_9721 := (GM.rI hG 388 (a := this) (lo := 0) (hi := 300) rfl).2
                          refine lv_bipush (v := 61) hx hb dX12_nextToken_366 (by decide) ?_
                          refine lv_icmp_ne (tgt := 396) hx hb dX12_nextToken_368 (by decide) (fun c_9722 => ?_) (fun c_9722 => ?_)
                          · have tc_9723 : (x_9714).toInt ≠ 61 := fun q => c_9722 (Int32.toInt_inj.mp q)
                            subst hQ
                            exact W.vret hx hb hr (fun t1 ht hW => ⟨⟨(σ, I_9661, J, ri, rj, rq), rfl, ⟨I_9661, J, rfl, hG⟩, by rw [ht]; exact hP, va_K.moved hW.alike hK, hD⟩, hS.F ht⟩) hS.2.2 dX12_nextToken_396
                          · have tc_9724 : (x_9714).toInt = 61 := congrArg Int32.toInt c_9722
                            have h_9725 : rg x_9714 61 61 := rg_and hr_9718 (rg_of_eq c_9722 (rg_k (61 : Int32) 61 rfl)) (by decide)
                            have uh_9725 := h_9725.1
                            have vh_9725 := h_9725.2
                            refine lv_aload_n hx hb dX12_nextToken_371 rfl (lv_at hl 0 rfl) ?_
                            refine lv_dup hx hb dX12_nextToken_372 rfl ?_
                            refine pg_f (v := .int (I_9661 391 this)) (C := RX12) (T := TX12) (N := 31) hx hb hts (tw_i inlX12) hown hK hP hL_this hK_this (by decide) rfl 7 (by decide) (hts _ (tw_c tw_830)) rfl dX12_nextToken_373 ?_
                            refine lv_iconst (v := 1) hx hb dX12_nextToken_376 (by decide) ?_
                            have h_9726 : rg (I_9661 391 this) 0 299 := ⟨by omega, by omega⟩
                            have uh_9726 := h_9726.1
                            have vh_9726 := h_9726.2
                            refine lv_iadd hx hb dX12_nextToken_377 ?_
                            refine lv_topi (fun x_9727 ex_9727 => ?_)
                            have h_9728 : rg x_9727 1 300 := rg_of_eq ex_9727 (rg_add h_9726 (rg_k (1 : Int32) 1 rfl) (by decide))
                            have uh_9728 := h_9728.1
                            have vh_9728 := h_9728.2
                            have tx_9727 : (x_9727).toInt = (I_9661 391 this).toInt + 1 := by rw [ex_9727]; exact i_add_rg (a2 := (I_9661 391 this).toInt) (b2 := 1) rfl rfl h_9726 (rg_k (1 : Int32) 1 rfl) (by decide)
                            refine pp_i (v := x_9727) (ty := .int) (C := RX12) (T := TX12) (N := 31) hx hb hts (tw_i inlX12) tyX12 tyX12_ok nmX12 hown hK hP hD hS hL_this hK_this (by decide) rfl 7 391 (by decide) (hts _ (tw_c tw_830)) rfl (by decide +kernel) rfl rfl (Nat.le_of_ble_eq_true rfl) (ps_391 _ _ _ _ _) dX12_nextToken_378 (fun I_9729 H locs eI_9729 hP hD hS => ?_)
                            have hG := GM.wI hG 391 rfl eI_9729 (rg_w h_9728 (by decide)) (by decide)
                            have tt_9730 : (I_9729 391 this).toInt = (x_9727).toInt := by rw [eI_9729, pq_us]
                            have tt_9731 : (I_9729 388 this).toInt = (I_9661 388 this).toInt := by rw [eI_9729, pq_uf _ _ _ (by decide)]
                            have tt_9732 : (I_9729 392 this).toInt = (I_9661 392 this).toInt := by rw [eI_9729, pq_uf _ _ _ (by decide)]
                            refine lv_aload_n hx hb dX12_nextToken_381 rfl (lv_at hl 0 rfl) ?_
                            refine lv_iload_n hx hb dX12_nextToken_382 rfl (lv_at hl 1 rfl) ?_
                            refine lv_bipush (v := 60) hx hb dX12_nextToken_383 (by decide) ?_
                            have K_9748 : ∀  (H : Heap) (locs : List Loc) (ls : Array Slot), rg (x_9255) 61 62 → GM [392, 391, 393] tg σ I ri I_9729 ri rq → va_P D vwCl (pq_P t σ (I_9729, J, ri, rj, rq)) H → va_D A (pq_P t σ (I_9729, J, ri, rj, rq)) → va_S A s.heap H locs → lv_has ls 3 [] → W p l e ({ frames := 2, cells := 0, slots := 0, locals := 42 } : Room) s m (List.toArray ([.ref this] : List Value)) below meth c H locs 0 0 Q (F0 m 393 ls [.int 5, .ref this]) := by
                              intro H locs ls h_9750 hG hP hD hS hl
                              have uh_9750 := h_9750.1
                              have vh_9750 := h_9750.2
                              refine pp_i (v := 5) (ty := .int) (C := RX12) (T := TX12) (N := 31) hx hb hts (tw_i inlX12) tyX12 tyX12_ok nmX12 hown hK hP hD hS hL_this hK_this (by decide) rfl 9 393 (by decide) (hts _ (tw_c tw_831)) rfl (by decide +kernel) rfl rfl (Nat.le_of_ble_eq_true rfl) (ps_393 _ _ _ _ _) dX12_nextToken_393 (fun I_9751 H locs eI_9751 hP hD hS => ?_)
                              have hG := GM.wI hG 393 rfl eI_9751 (rg_w (rg_k (5 : Int32) 5 rfl) (by decide)) (by decide)
                              have tt_9752 : (I_9751 391 this).toInt = (I_9729 391 this).toInt := by rw [eI_9751, pq_uf _ _ _ (by decide)]
                              have tt_9753 : (I_9751 388 this).toInt = (I_9729 388 this).toInt := by rw [eI_9751, pq_uf _ _ _ (by decide)]
                              have tt_9754 : (I_9751 392 this).toInt = (I_9729 392 this).toInt := by rw [eI_9751, pq_uf _ _ _ (by decide)]
                              subst hQ
                              exact W.vret hx hb hr (fun t1 ht hW => ⟨⟨(σ, I_9751, J, ri, rj, rq), rfl, ⟨I_9751, J, rfl, hG⟩, by rw [ht]; exact hP, va_K.moved hW.alike hK, hD⟩, hS.F ht⟩) hS.2.2 dX12_nextToken_396
                            have K_9755 : ∀  (H : Heap) (locs : List Loc) (ls : Array Slot), rg (x_9255) 60 60 → GM [392, 391, 393] tg σ I ri I_9729 ri rq → va_P D vwCl (pq_P t σ (I_9729, J, ri, rj, rq)) H → va_D A (pq_P t σ (I_9729, J, ri, rj, rq)) → va_S A s.heap H locs → lv_has ls 3 [] → W p l e ({ frames := 2, cells := 0, slots := 0, locals := 42 } : Room) s m (List.toArray ([.ref this] : List Value)) below meth c H locs 0 0 Q (F0 m 393 ls [.int 4, .ref this]) := by
                              intro H locs ls h_9757 hG hP hD hS hl
                              have uh_9757 := h_9757.1
                              have vh_9757 := h_9757.2
                              refine pp_i (v := 4) (ty := .int) (C := RX12) (T := TX12) (N := 31) hx hb hts (tw_i inlX12) tyX12 tyX12_ok nmX12 hown hK hP hD hS hL_this hK_this (by decide) rfl 9 393 (by decide) (hts _ (tw_c tw_831)) rfl (by decide +kernel) rfl rfl (Nat.le_of_ble_eq_true rfl) (ps_393 _ _ _ _ _) dX12_nextToken_393 (fun I_9758 H locs eI_9758 hP hD hS => ?_)
                              have hG := GM.wI hG 393 rfl eI_9758 (rg_w (rg_k (4 : Int32) 4 rfl) (by decide)) (by decide)
                              have tt_9759 : (I_9758 391 this).toInt = (I_9729 391 this).toInt := by rw [eI_9758, pq_uf _ _ _ (by decide)]
                              have tt_9760 : (I_9758 388 this).toInt = (I_9729 388 this).toInt := by rw [eI_9758, pq_uf _ _ _ (by decide)]
                              have tt_9761 : (I_9758 392 this).toInt = (I_9729 392 this).toInt := by rw [eI_9758, pq_uf _ _ _ (by decide)]
                              subst hQ
                              exact W.vret hx hb hr (fun t1 ht hW => ⟨⟨(σ, I_9758, J, ri, rj, rq), rfl, ⟨I_9758, J, rfl, hG⟩, by rw [ht]; exact hP, va_K.moved hW.alike hK, hD⟩, hS.F ht⟩) hS.2.2 dX12_nextToken_396
                            refine lv_icmp_ne (tgt := 392) hx hb dX12_nextToken_385 (by decide) (fun c_9762 => ?_) (fun c_9762 => ?_)
                            · have tc_9763 : (x_9255).toInt ≠ 60 := fun q => c_9762 (Int32.toInt_inj.mp q)
                              have h_9764 : rg x_9255 61 62 := rg_ne c_9762 h_9712 60 rfl (by decide)
                              have uh_9764 := h_9764.1
                              have vh_9764 := h_9764.2
                              refine lv_iconst (v := 5) hx hb dX12_nextToken_392 (by decide) ?_
                              exact K_9748 _ _ _ (rg_w h_9764 (by decide)) hG hP hD hS (lv_sub hl [] rfl)
                            · have tc_9765 : (x_9255).toInt = 60 := congrArg Int32.toInt c_9762
                              have h_9766 : rg x_9255 60 60 := rg_and h_9712 (rg_of_eq c_9762 (rg_k (60 : Int32) 60 rfl)) (by decide)
                              have uh_9766 := h_9766.1
                              have vh_9766 := h_9766.2
                              refine lv_iconst (v := 4) hx hb dX12_nextToken_388 (by decide) ?_
                              refine lv_goto (tgt := 393) hx hb dX12_nextToken_389 (by decide) ?_
                              exact K_9755 _ _ _ (rg_w h_9766 (by decide)) hG hP hD hS (lv_sub hl [] rfl)
                        refine lv_icmp_eq (tgt := 358) hx hb dX12_nextToken_349 (by decide) (fun c_9767 => ?_) (fun c_9767 => ?_)
                        · have tc_9768 : (x_9255).toInt = 60 := congrArg Int32.toInt c_9767
                          have h_9769 : rg x_9255 60 60 := rg_and h_9609 (rg_of_eq c_9767 (rg_k (60 : Int32) 60 rfl)) (by decide)
                          have uh_9769 := h_9769.1
                          have vh_9769 := h_9769.2
                          exact K_9710 _ _ _ (rg_w h_9769 (by decide)) hG hP hD hS (lv_sub hl [0, 1] rfl)
                        · have tc_9770 : (x_9255).toInt ≠ 60 := fun q => c_9767 (Int32.toInt_inj.mp q)
                          refine lv_iload_n hx hb dX12_nextToken_352 rfl (lv_at hl 1 rfl) ?_
                          refine lv_bipush (v := 62) hx hb dX12_nextToken_353 (by decide) ?_
                          refine lv_icmp_ne (tgt := 396) hx hb dX12_nextToken_355 (by decide) (fun c_9771 => ?_) (fun c_9771 => ?_)
                          · have tc_9772 : (x_9255).toInt ≠ 62 := fun q => c_9771 (Int32.toInt_inj.mp q)
                            have h_9773 : rg x_9255 35 61 := rg_ne c_9771 h_9609 62 rfl (by decide)
                            have uh_9773 := h_9773.1
                            have vh_9773 := h_9773.2
                            subst hQ
                            exact W.vret hx hb hr (fun t1 ht hW => ⟨⟨(σ, I_9661, J, ri, rj, rq), rfl, ⟨I_9661, J, rfl, hG⟩, by rw [ht]; exact hP, va_K.moved hW.alike hK, hD⟩, hS.F ht⟩) hS.2.2 dX12_nextToken_396
                          · have tc_9774 : (x_9255).toInt = 62 := congrArg Int32.toInt c_9771
                            have h_9775 : rg x_9255 62 62 := rg_and h_9609 (rg_of_eq c_9771 (rg_k (62 : Int32) 62 rfl)) (by decide)
                            have uh_9775 := h_9775.1
                            have vh_9775 := h_9775.2
                            exact K_9710 _ _ _ (rg_w h_9775 (by decide)) hG hP hD hS (lv_sub hl [0, 1] rfl)
                      refine lv_if_eq (tgt := 342) hx hb dX12_nextToken_335 (by decide) (fun c_9776 => absurd c_9776 (by decide)) (fun c_9776 => ?_)
                      refine lv_iload_n hx hb dX12_nextToken_338 rfl (lv_at hl 2 rfl) ?_
                      refine lv_goto (tgt := 343) hx hb dX12_nextToken_339 (by decide) ?_
                      exact K_9660 _ _ _ hG hP hD hS (lv_sub hl [1, 2] rfl)
                    have K_9777 : ∀  (H : Heap) (locs : List Loc) (ls : Array Slot), rg (x_9255) 35 62 → GM [392, 391, 393] tg σ I ri I_9289 ri rq → va_P D vwCl (pq_P t σ (I_9289, J, ri, rj, rq)) H → va_D A (pq_P t σ (I_9289, J, ri, rj, rq)) → va_S A s.heap H locs → lv_has ls 3 [(0, .ref this), (1, .int x_9255)] → W p l e ({ frames := 2, cells := 0, slots := 0, locals := 42 } : Room) s m (List.toArray ([.ref this] : List Value)) below meth c H locs 0 0 Q (F0 m 327 ls []) := by
                      intro H locs ls h_9779 hG hP hD hS hl
                      have uh_9779 := h_9779.1
                      have vh_9779 := h_9779.2
                      refine lv_iconst (v := 1) hx hb dX12_nextToken_327 (by decide) ?_
                      refine lv_goto (tgt := 332) hx hb dX12_nextToken_328 (by decide) ?_
                      exact K_9607 _ _ _ (rg_w h_9779 (by decide)) hG hP hD hS (lv_sub hl [0, 1] rfl)
                    refine lv_icmp_eq (tgt := 327) hx hb dX12_nextToken_258 (by decide) (fun c_9780 => ?_) (fun c_9780 => ?_)
                    · have tc_9781 : (x_9255).toInt = 60 := congrArg Int32.toInt c_9780
                      have h_9782 : rg x_9255 60 60 := rg_and h_9265 (rg_of_eq c_9780 (rg_k (60 : Int32) 60 rfl)) (by decide)
                      have uh_9782 := h_9782.1
                      have vh_9782 := h_9782.2
                      exact K_9777 _ _ _ (rg_w h_9782 (by decide)) hG hP hD hS (lv_sub hl [1, 0] rfl)
                    · have tc_9783 : (x_9255).toInt ≠ 60 := fun q => c_9780 (Int32.toInt_inj.mp q)
                      refine lv_iload_n hx hb dX12_nextToken_261 rfl (lv_at hl 0 rfl) ?_
                      refine lv_bipush (v := 62) hx hb dX12_nextToken_262 (by decide) ?_
                      refine lv_icmp_eq (tgt := 327) hx hb dX12_nextToken_264 (by decide) (fun c_9784 => ?_) (fun c_9784 => ?_)
                      · have tc_9785 : (x_9255).toInt = 62 := congrArg Int32.toInt c_9784
                        have h_9786 : rg x_9255 62 62 := rg_and h_9265 (rg_of_eq c_9784 (rg_k (62 : Int32) 62 rfl)) (by decide)
                        have uh_9786 := h_9786.1
                        have vh_9786 := h_9786.2
                        exact K_9777 _ _ _ (rg_w h_9786 (by decide)) hG hP hD hS (lv_sub hl [1, 0] rfl)
                      · have tc_9787 : (x_9255).toInt ≠ 62 := fun q => c_9784 (Int32.toInt_inj.mp q)
                        refine lv_iload_n hx hb dX12_nextToken_267 rfl (lv_at hl 0 rfl) ?_
                        refine lv_bipush (v := 61) hx hb dX12_nextToken_268 (by decide) ?_
                        refine lv_icmp_eq (tgt := 327) hx hb dX12_nextToken_270 (by decide) (fun c_9788 => ?_) (fun c_9788 => ?_)
                        · have tc_9789 : (x_9255).toInt = 61 := congrArg Int32.toInt c_9788
                          have h_9790 : rg x_9255 61 61 := rg_and h_9265 (rg_of_eq c_9788 (rg_k (61 : Int32) 61 rfl)) (by decide)
                          have uh_9790 := h_9790.1
                          have vh_9790 := h_9790.2
                          exact K_9777 _ _ _ (rg_w h_9790 (by decide)) hG hP hD hS (lv_sub hl [1, 0] rfl)
                        · have tc_9791 : (x_9255).toInt ≠ 61 := fun q => c_9788 (Int32.toInt_inj.mp q)
                          refine lv_iload_n hx hb dX12_nextToken_273 rfl (lv_at hl 0 rfl) ?_
                          refine lv_bipush (v := 35) hx hb dX12_nextToken_274 (by decide) ?_
                          refine lv_icmp_eq (tgt := 327) hx hb dX12_nextToken_276 (by decide) (fun c_9792 => ?_) (fun c_9792 => ?_)
                          · have tc_9793 : (x_9255).toInt = 35 := congrArg Int32.toInt c_9792
                            have h_9794 : rg x_9255 35 35 := rg_and h_9265 (rg_of_eq c_9792 (rg_k (35 : Int32) 35 rfl)) (by decide)
                            have uh_9794 := h_9794.1
                            have vh_9794 := h_9794.2
                            exact K_9777 _ _ _ (rg_w h_9794 (by decide)) hG hP hD hS (lv_sub hl [1, 0] rfl)
                          · have tc_9795 : (x_9255).toInt ≠ 35 := fun q => c_9792 (Int32.toInt_inj.mp q)
                            refine lv_iload_n hx hb dX12_nextToken_279 rfl (lv_at hl 0 rfl) ?_
                            refine lv_bipush (v := 43) hx hb dX12_nextToken_280 (by decide) ?_
                            refine lv_icmp_eq (tgt := 327) hx hb dX12_nextToken_282 (by decide) (fun c_9796 => ?_) (fun c_9796 => ?_)
                            · have tc_9797 : (x_9255).toInt = 43 := congrArg Int32.toInt c_9796
                              have h_9798 : rg x_9255 43 43 := rg_and h_9265 (rg_of_eq c_9796 (rg_k (43 : Int32) 43 rfl)) (by decide)
                              have uh_9798 := h_9798.1
                              have vh_9798 := h_9798.2
                              exact K_9777 _ _ _ (rg_w h_9798 (by decide)) hG hP hD hS (lv_sub hl [1, 0] rfl)
                            · have tc_9799 : (x_9255).toInt ≠ 43 := fun q => c_9796 (Int32.toInt_inj.mp q)
                              refine lv_iload_n hx hb dX12_nextToken_285 rfl (lv_at hl 0 rfl) ?_
                              refine lv_bipush (v := 45) hx hb dX12_nextToken_286 (by decide) ?_
                              refine lv_icmp_eq (tgt := 327) hx hb dX12_nextToken_288 (by decide) (fun c_9800 => ?_) (fun c_9800 => ?_)
                              · have tc_9801 : (x_9255).toInt = 45 := congrArg Int32.toInt c_9800
                                have h_9802 : rg x_9255 45 45 := rg_and h_9265 (rg_of_eq c_9800 (rg_k (45 : Int32) 45 rfl)) (by decide)
                                have uh_9802 := h_9802.1
                                have vh_9802 := h_9802.2
                                exact K_9777 _ _ _ (rg_w h_9802 (by decide)) hG hP hD hS (lv_sub hl [1, 0] rfl)
                              · have tc_9803 : (x_9255).toInt ≠ 45 := fun q => c_9800 (Int32.toInt_inj.mp q)
                                refine lv_iload_n hx hb dX12_nextToken_291 rfl (lv_at hl 0 rfl) ?_
                                refine lv_bipush (v := 42) hx hb dX12_nextToken_292 (by decide) ?_
                                refine lv_icmp_eq (tgt := 327) hx hb dX12_nextToken_294 (by decide) (fun c_9804 => ?_) (fun c_9804 => ?_)
                                · have tc_9805 : (x_9255).toInt = 42 := congrArg Int32.toInt c_9804
                                  have h_9806 : rg x_9255 42 42 := rg_and h_9265 (rg_of_eq c_9804 (rg_k (42 : Int32) 42 rfl)) (by decide)
                                  have uh_9806 := h_9806.1
                                  have vh_9806 := h_9806.2
                                  exact K_9777 _ _ _ (rg_w h_9806 (by decide)) hG hP hD hS (lv_sub hl [1, 0] rfl)
                                · have tc_9807 : (x_9255).toInt ≠ 42 := fun q => c_9804 (Int32.toInt_inj.mp q)
                                  refine lv_iload_n hx hb dX12_nextToken_297 rfl (lv_at hl 0 rfl) ?_
                                  refine lv_bipush (v := 47) hx hb dX12_nextToken_298 (by decide) ?_
                                  refine lv_icmp_eq (tgt := 327) hx hb dX12_nextToken_300 (by decide) (fun c_9808 => ?_) (fun c_9808 => ?_)
                                  · have tc_9809 : (x_9255).toInt = 47 := congrArg Int32.toInt c_9808
                                    have h_9810 : rg x_9255 47 47 := rg_and h_9265 (rg_of_eq c_9808 (rg_k (47 : Int32) 47 rfl)) (by decide)
                                    have uh_9810 := h_9810.1
                                    have vh_9810 := h_9810.2
                                    exact K_9777 _ _ _ (rg_w h_9810 (by decide)) hG hP hD hS (lv_sub hl [1, 0] rfl)
                                  · have tc_9811 : (x_9255).toInt ≠ 47 := fun q => c_9808 (Int32.toInt_inj.mp q)
                                    refine lv_iload_n hx hb dX12_nextToken_303 rfl (lv_at hl 0 rfl) ?_
                                    refine lv_bipush (v := 40) hx hb dX12_nextToken_304 (by decide) ?_
                                    refine lv_icmp_eq (tgt := 327) hx hb dX12_nextToken_306 (by decide) (fun c_9812 => ?_) (fun c_9812 => ?_)
                                    · have tc_9813 : (x_9255).toInt = 40 := congrArg Int32.toInt c_9812
                                      have h_9814 : rg x_9255 40 40 := rg_and h_9265 (rg_of_eq c_9812 (rg_k (40 : Int32) 40 rfl)) (by decide)
                                      have uh_9814 := h_9814.1
                                      have vh_9814 := h_9814.2
                                      exact K_9777 _ _ _ (rg_w h_9814 (by decide)) hG hP hD hS (lv_sub hl [1, 0] rfl)
                                    · have tc_9815 : (x_9255).toInt ≠ 40 := fun q => c_9812 (Int32.toInt_inj.mp q)
                                      refine lv_iload_n hx hb dX12_nextToken_309 rfl (lv_at hl 0 rfl) ?_
                                      refine lv_bipush (v := 41) hx hb dX12_nextToken_310 (by decide) ?_
                                      refine lv_icmp_eq (tgt := 327) hx hb dX12_nextToken_312 (by decide) (fun c_9816 => ?_) (fun c_9816 => ?_)
                                      · have tc_9817 : (x_9255).toInt = 41 := congrArg Int32.toInt c_9816
                                        have h_9818 : rg x_9255 41 41 := rg_and h_9265 (rg_of_eq c_9816 (rg_k (41 : Int32) 41 rfl)) (by decide)
                                        have uh_9818 := h_9818.1
                                        have vh_9818 := h_9818.2
                                        exact K_9777 _ _ _ (rg_w h_9818 (by decide)) hG hP hD hS (lv_sub hl [1, 0] rfl)
                                      · have tc_9819 : (x_9255).toInt ≠ 41 := fun q => c_9816 (Int32.toInt_inj.mp q)
                                        refine lv_iload_n hx hb dX12_nextToken_315 rfl (lv_at hl 0 rfl) ?_
                                        refine lv_bipush (v := 44) hx hb dX12_nextToken_316 (by decide) ?_
                                        refine lv_icmp_eq (tgt := 327) hx hb dX12_nextToken_318 (by decide) (fun c_9820 => ?_) (fun c_9820 => ?_)
                                        · have tc_9821 : (x_9255).toInt = 44 := congrArg Int32.toInt c_9820
                                          have h_9822 : rg x_9255 44 44 := rg_and h_9265 (rg_of_eq c_9820 (rg_k (44 : Int32) 44 rfl)) (by decide)
                                          have uh_9822 := h_9822.1
                                          have vh_9822 := h_9822.2
                                          exact K_9777 _ _ _ (rg_w h_9822 (by decide)) hG hP hD hS (lv_sub hl [1, 0] rfl)
                                        · have tc_9823 : (x_9255).toInt ≠ 44 := fun q => c_9820 (Int32.toInt_inj.mp q)
                                          refine lv_iload_n hx hb dX12_nextToken_321 rfl (lv_at hl 0 rfl) ?_
                                          refine lv_bipush (v := 59) hx hb dX12_nextToken_322 (by decide) ?_
                                          refine lv_icmp_ne (tgt := 331) hx hb dX12_nextToken_324 (by decide) (fun c_9824 => ?_) (fun c_9824 => ?_)
                                          · have tc_9825 : (x_9255).toInt ≠ 59 := fun q => c_9824 (Int32.toInt_inj.mp q)
                                            refine lv_iconst (v := 0) hx hb dX12_nextToken_331 (by decide) ?_
                                            exact K_9442 _ _ _ hG hP hD hS (lv_sub hl [1, 0] rfl)
                                          · have tc_9826 : (x_9255).toInt = 59 := congrArg Int32.toInt c_9824
                                            have h_9827 : rg x_9255 59 59 := rg_and h_9265 (rg_of_eq c_9824 (rg_k (59 : Int32) 59 rfl)) (by decide)
                                            have uh_9827 := h_9827.1
                                            have vh_9827 := h_9827.2
                                            exact K_9777 _ _ _ (rg_w h_9827 (by decide)) hG hP hD hS (lv_sub hl [1, 0] rfl)
                  · have f_9828 := (hr_9280.resolve_right (fun q => c_9282 q.1)).2
                    have uf_9828 := f_9828.1
                    have vf_9828 := f_9828.2
                    have tc_9829 : (x_9276).toInt ≠ 0 := fun q => c_9282 (Int32.toInt_inj.mp q)
                    have h_9830 : rg x_9276 1 1 := rg_ne c_9282 h_9281 0 rfl (by decide)
                    have uh_9830 := h_9830.1
                    have vh_9830 := h_9830.2
                    refine lv_aload_n hx hb dX12_nextToken_151 rfl (lv_at hl 1 rfl) ?_
                    refine lv_iconst (v := 2) hx hb dX12_nextToken_152 (by decide) ?_
                    refine pp_i (v := 2) (ty := .int) (C := RX12) (T := TX12) (N := 31) hx hb hts (tw_i inlX12) tyX12 tyX12_ok nmX12 hown hK hP hD hS hL_this hK_this (by decide) rfl 9 393 (by decide) (hts _ (tw_c tw_831)) rfl (by decide +kernel) rfl rfl (Nat.le_of_ble_eq_true rfl) (ps_393 _ _ _ _ _) dX12_nextToken_153 (fun I_9831 H locs eI_9831 hP hD hS => ?_)
                    have hG := GM.wI hG 393 rfl eI_9831 (rg_w (rg_k (2 : Int32) 2 rfl) (by decide)) (by decide)
                    have tt_9832 : (I_9831 391 this).toInt = (I_9250 391 this).toInt := by rw [eI_9831, pq_uf _ _ _ (by decide)]
                    have tt_9833 : (I_9831 388 this).toInt = (I_9250 388 this).toInt := by rw [eI_9831, pq_uf _ _ _ (by decide)]
                    have tt_9834 : (I_9831 392 this).toInt = (I_9250 392 this).toInt := by rw [eI_9831, pq_uf _ _ _ (by decide)]
                    refine lv_aload_n hx hb dX12_nextToken_156 rfl (lv_at hl 1 rfl) ?_
                    refine lv_lconst (v := 0) hx hb dX12_nextToken_157 (by decide) ?_
                    refine pp_l (v := 0) (C := RX12) (T := TX12) (N := 31) hx hb hts (tw_i inlX12) tyX12 tyX12_ok nmX12 hown hK hP hD hS hL_this hK_this (by decide) rfl 11 395 (by decide) (hts _ (tw_c tw_838)) rfl (by decide +kernel) (Nat.le_of_ble_eq_true rfl) (ps_395 _ _ _ _ _) dX12_nextToken_158 (fun J_9835 H locs eJ_9835 hP hD hS => ?_)
                    have L_10080 : ∀ (n_10079 : Nat) (I_10017 : Nat → Nat → Int32) (J_10018 : Nat → Nat → Int64) (H : Heap) (locs : List Loc) (ls : Array Slot), (300 - (I_10017 391 this).toInt).toNat < n_10079 → GM [392, 391, 393] tg σ I ri I_10017 ri rq → va_P D vwCl (pq_P t σ (I_10017, J_10018, ri, rj, rq)) H → va_D A (pq_P t σ (I_10017, J_10018, ri, rj, rq)) → va_S A s.heap H locs → lv_has ls 3 [(0, .ref this)] → W p l e ({ frames := 2, cells := 0, slots := 0, locals := 42 } : Room) s m (List.toArray ([.ref this] : List Value)) below meth c H locs 0 0 Q (F0 m 161 ls []) := by
                      intro n_10079
                      induction n_10079 with
                      | zero => intro I_10017 J_10018 H locs ls hm_10078 hG hP hD hS hl; exact absurd hm_10078 (Nat.not_lt_zero _)
                      | succ n_10079 ih_10081 =>
                        intro I_10017 J_10018 H locs ls hm_10078 hG hP hD hS hl
                        refine lv_aload_n hx hb dX12_nextToken_161 rfl (lv_at hl 0 rfl) ?_
                        refine lv_aload_n hx hb dX12_nextToken_162 rfl (lv_at hl 0 rfl) ?_
                        refine pg_f (v := .int (I_10017 391 this)) (C := RX12) (T := TX12) (N := 31) hx hb hts (tw_i inlX12) hown hK hP hL_this hK_this (by decide) rfl 7 (by decide) (hts _ (tw_c tw_830)) rfl dX12_nextToken_163 ?_
                        have h_10082 : rg (I_10017 391 this) 0 300 := GM.rI hG 391 rfl
                        have uh_10082 := h_10082.1
                        have vh_10082 := h_10082.2
                        refine pk_i (va_runV (As := [.int (I_10017 391 this)]) (rest := []) ⟨hx, hb, hml, hown, hts⟩ (s_X12_see l D t σ I_10017 J_10018 ri rj rq H.size tg hSH hG.1 this (I_10017 391 this) hL_this hK_this (rg_w h_10082 (by decide))) (cwV 1 hts (tw_V tw_839 tw_840 tw_841 tw_5 tw_842) rfl rfl rfl (by decide +kernel) ⟨Nat.le_of_ble_eq_true rfl, Nat.le_of_ble_eq_true rfl⟩) ⟨pq_blind, pq_recv hK hP hL_this hK_this (by decide) rfl, pq_pre hK hN hP hD⟩ rfl rfl hl.1 rfl (lv_room (Nat.le_of_ble_eq_true rfl)) dX12_nextToken_166 ⟨Nat.le_of_ble_eq_true rfl, Nat.le_of_ble_eq_true rfl⟩) hD hS hA (fun x_10083 σ1 μ1 H locs hw_10084 hP hD hS => ?_)
                        obtain ⟨hu_10085, hp_10088, hr_10087⟩ := hw_10084
                        obtain ⟨hu_10085a, hu_10085b⟩ := Prod.mk.inj hu_10085
                        rw [hu_10085a, hu_10085b] at hP hD
                        have tt_10089 := hp_10088
                        have tt_10090 := (GM.rI hG 388 (a := this) (lo := 0) (hi := 300) rfl).2
                        refine pk_i (va_runS (As := [.int x_10083]) (rest := []) ⟨hx, hb, hml, hown, hts⟩ (s_X12_isLetter l D t σ I_10017 J_10018 ri rj rq H.size tg hSH hG.1 x_10083) (va_cwS 1 hts (tw_S tw_846 tw_847 tw_5 tw_848) rfl rfl rfl (by decide +kernel) ⟨Nat.le_of_ble_eq_true rfl, Nat.le_of_ble_eq_true rfl⟩) ⟨pq_blind, pq_pre hK hN hP hD⟩ rfl rfl hl.1 rfl (lv_room (Nat.le_of_ble_eq_true rfl)) dX12_nextToken_169 ⟨Nat.le_of_ble_eq_true rfl, Nat.le_of_ble_eq_true rfl⟩) hD hS hA (fun x_10091 σ1 μ1 H locs hw_10092 hP hD hS => ?_)
                        obtain ⟨hu_10093, hr_10095⟩ := hw_10092
                        obtain ⟨hu_10093a, hu_10093b⟩ := Prod.mk.inj hu_10093
                        rw [hu_10093a, hu_10093b] at hP hD
                        have h_10096 : rg x_10091 0 1 := by rcases hr_10095 with ⟨q, -⟩ | ⟨q, -⟩ <;> rw [q] <;> exact ⟨by decide, by decide⟩
                        have uh_10096 := h_10096.1
                        have vh_10096 := h_10096.2
                        refine lv_if_eq (tgt := 223) hx hb dX12_nextToken_172 (by decide) (fun c_10097 => ?_) (fun c_10097 => ?_)
                        · have f_10098 := (hr_10095.resolve_left (fun q => absurd (q.1.symm.trans c_10097) (by decide))).2
                          have tc_10099 : (x_10091).toInt = 0 := congrArg Int32.toInt c_10097
                          have h_10100 : rg x_10091 0 0 := rg_and h_10096 (rg_of_eq c_10097 (rg_k (0 : Int32) 0 rfl)) (by decide)
                          have uh_10100 := h_10100.1
                          have vh_10100 := h_10100.2
                          refine lv_aload_n hx hb dX12_nextToken_223 rfl (lv_at hl 0 rfl) ?_
                          refine pg_f (v := .int (I_10017 391 this)) (C := RX12) (T := TX12) (N := 31) hx hb hts (tw_i inlX12) hown hK hP hL_this hK_this (by decide) rfl 7 (by decide) (hts _ (tw_c tw_830)) rfl dX12_nextToken_224 ?_
                          refine lv_aload_n hx hb dX12_nextToken_227 rfl (lv_at hl 0 rfl) ?_
                          refine pg_f (v := .int (I_10017 392 this)) (C := RX12) (T := TX12) (N := 31) hx hb hts (tw_i inlX12) hown hK hP hL_this hK_this (by decide) rfl 8 (by decide) (hts _ (tw_c tw_820)) rfl dX12_nextToken_228 ?_
                          have h_10101 : rg (I_10017 392 this) 0 300 := GM.rI hG 392 rfl
                          have uh_10101 := h_10101.1
                          have vh_10101 := h_10101.2
                          refine lv_isub hx hb dX12_nextToken_231 ?_
                          refine lv_topi (fun x_10102 ex_10102 => ?_)
                          have h_10103 : rg x_10102 (-300) 300 := rg_of_eq ex_10102 (rg_sub h_10082 h_10101 (by decide))
                          have uh_10103 := h_10103.1
                          have vh_10103 := h_10103.2
                          have tx_10102 : (x_10102).toInt = (I_10017 391 this).toInt - (I_10017 392 this).toInt := by rw [ex_10102]; exact i_sub_rg (a2 := (I_10017 391 this).toInt) (b2 := (I_10017 392 this).toInt) rfl rfl h_10082 h_10101 (by decide)
                          refine lv_bipush (v := 7) hx hb dX12_nextToken_232 (by decide) ?_
                          refine lv_icmp_le (tgt := 396) hx hb dX12_nextToken_234 (by decide) (fun c_10104 => ?_) (fun c_10104 => ?_)
                          · have tc_10105 : (x_10102).toInt ≤ 7 := Int32.le_iff_toInt_le.mp c_10104
                            have h_10106 : rg x_10102 (-300) 7 := rg_le1 c_10104 h_10103 (rg_k (7 : Int32) 7 rfl) (by decide)
                            have uh_10106 := h_10106.1
                            have vh_10106 := h_10106.2
                            subst hQ
                            exact W.vret hx hb hr (fun t1 ht hW => ⟨⟨(σ, I_10017, J_10018, ri, rj, rq), rfl, ⟨I_10017, J_10018, rfl, hG⟩, by rw [ht]; exact hP, va_K.moved hW.alike hK, hD⟩, hS.F ht⟩) hS.2.2 dX12_nextToken_396
                          · have tc_10107 : 7 < (x_10102).toInt := Int32.lt_iff_toInt_lt.mp (nle c_10104)
                            have h_10108 : rg x_10102 8 300 := rg_lt2 (nle c_10104) (rg_k (7 : Int32) 7 rfl) h_10103 (by decide)
                            have uh_10108 := h_10108.1
                            have vh_10108 := h_10108.2
                            refine lv_aload_n hx hb dX12_nextToken_237 rfl (lv_at hl 0 rfl) ?_
                            refine lv_lconst (v := 0) hx hb dX12_nextToken_238 (by decide) ?_
                            refine pp_l (v := 0) (C := RX12) (T := TX12) (N := 31) hx hb hts (tw_i inlX12) tyX12 tyX12_ok nmX12 hown hK hP hD hS hL_this hK_this (by decide) rfl 11 395 (by decide) (hts _ (tw_c tw_838)) rfl (by decide +kernel) (Nat.le_of_ble_eq_true rfl) (ps_395 _ _ _ _ _) dX12_nextToken_239 (fun J_10109 H locs eJ_10109 hP hD hS => ?_)
                            refine lv_goto (tgt := 396) hx hb dX12_nextToken_242 (by decide) ?_
                            subst hQ
                            exact W.vret hx hb hr (fun t1 ht hW => ⟨⟨(σ, I_10017, J_10109, ri, rj, rq), rfl, ⟨I_10017, J_10109, rfl, hG⟩, by rw [ht]; exact hP, va_K.moved hW.alike hK, hD⟩, hS.F ht⟩) hS.2.2 dX12_nextToken_396
                        · have f_10110 := (hr_10095.resolve_right (fun q => c_10097 q.1)).2
                          have uf_10110 := f_10110.1
                          have vf_10110 := f_10110.2
                          have tc_10111 : (x_10091).toInt ≠ 0 := fun q => c_10097 (Int32.toInt_inj.mp q)
                          have h_10112 : rg x_10091 1 1 := rg_ne c_10097 h_10096 0 rfl (by decide)
                          have uh_10112 := h_10112.1
                          have vh_10112 := h_10112.2
                          refine lv_aload_n hx hb dX12_nextToken_175 rfl (lv_at hl 0 rfl) ?_
                          refine pg_f (v := .int (I_10017 391 this)) (C := RX12) (T := TX12) (N := 31) hx hb hts (tw_i inlX12) hown hK hP hL_this hK_this (by decide) rfl 7 (by decide) (hts _ (tw_c tw_830)) rfl dX12_nextToken_176 ?_
                          refine lv_aload_n hx hb dX12_nextToken_179 rfl (lv_at hl 0 rfl) ?_
                          refine pg_f (v := .int (I_10017 392 this)) (C := RX12) (T := TX12) (N := 31) hx hb hts (tw_i inlX12) hown hK hP hL_this hK_this (by decide) rfl 8 (by decide) (hts _ (tw_c tw_820)) rfl dX12_nextToken_180 ?_
                          have h_10113 : rg (I_10017 392 this) 0 300 := GM.rI hG 392 rfl
                          have uh_10113 := h_10113.1
                          have vh_10113 := h_10113.2
                          refine lv_isub hx hb dX12_nextToken_183 ?_
                          refine lv_topi (fun x_10114 ex_10114 => ?_)
                          have h_10115 : rg x_10114 (-300) 300 := rg_of_eq ex_10114 (rg_sub h_10082 h_10113 (by decide))
                          have uh_10115 := h_10115.1
                          have vh_10115 := h_10115.2
                          have tx_10114 : (x_10114).toInt = (I_10017 391 this).toInt - (I_10017 392 this).toInt := by rw [ex_10114]; exact i_sub_rg (a2 := (I_10017 391 this).toInt) (b2 := (I_10017 392 this).toInt) rfl rfl h_10082 h_10113 (by decide)
                          refine lv_bipush (v := 7) hx hb dX12_nextToken_184 (by decide) ?_
                          have K_10141 : ∀  (J_10133 : Nat → Nat → Int64) (H : Heap) (locs : List Loc) (ls : Array Slot), GM [392, 391, 393] tg σ I ri I_10017 ri rq → va_P D vwCl (pq_P t σ (I_10017, J_10133, ri, rj, rq)) H → va_D A (pq_P t σ (I_10017, J_10133, ri, rj, rq)) → va_S A s.heap H locs → lv_has ls 3 [(0, .ref this)] → W p l e ({ frames := 2, cells := 0, slots := 0, locals := 42 } : Room) s m (List.toArray ([.ref this] : List Value)) below meth c H locs 0 0 Q (F0 m 210 ls []) := by
                            intro J_10133 H locs ls hG hP hD hS hl
                            refine lv_aload_n hx hb dX12_nextToken_210 rfl (lv_at hl 0 rfl) ?_
                            refine lv_dup hx hb dX12_nextToken_211 rfl ?_
                            refine pg_f (v := .int (I_10017 391 this)) (C := RX12) (T := TX12) (N := 31) hx hb hts (tw_i inlX12) hown hK hP hL_this hK_this (by decide) rfl 7 (by decide) (hts _ (tw_c tw_830)) rfl dX12_nextToken_212 ?_
                            refine lv_iconst (v := 1) hx hb dX12_nextToken_215 (by decide) ?_
                            have h_10142 : rg (I_10017 391 this) 0 299 := ⟨by omega, by omega⟩
                            have uh_10142 := h_10142.1
                            have vh_10142 := h_10142.2
                            refine lv_iadd hx hb dX12_nextToken_216 ?_
                            refine lv_topi (fun x_10143 ex_10143 => ?_)
                            have h_10144 : rg x_10143 1 300 := rg_of_eq ex_10143 (rg_add h_10142 (rg_k (1 : Int32) 1 rfl) (by decide))
                            have uh_10144 := h_10144.1
                            have vh_10144 := h_10144.2
                            have tx_10143 : (x_10143).toInt = (I_10017 391 this).toInt + 1 := by rw [ex_10143]; exact i_add_rg (a2 := (I_10017 391 this).toInt) (b2 := 1) rfl rfl h_10142 (rg_k (1 : Int32) 1 rfl) (by decide)
                            refine pp_i (v := x_10143) (ty := .int) (C := RX12) (T := TX12) (N := 31) hx hb hts (tw_i inlX12) tyX12 tyX12_ok nmX12 hown hK hP hD hS hL_this hK_this (by decide) rfl 7 391 (by decide) (hts _ (tw_c tw_830)) rfl (by decide +kernel) rfl rfl (Nat.le_of_ble_eq_true rfl) (ps_391 _ _ _ _ _) dX12_nextToken_217 (fun I_10145 H locs eI_10145 hP hD hS => ?_)
                            have hG := GM.wI hG 391 rfl eI_10145 (rg_w h_10144 (by decide)) (by decide)
                            have tt_10146 : (I_10145 391 this).toInt = (x_10143).toInt := by rw [eI_10145, pq_us]
                            have tt_10147 : (I_10145 388 this).toInt = (I_10017 388 this).toInt := by rw [eI_10145, pq_uf _ _ _ (by decide)]
                            have tt_10148 : (I_10145 392 this).toInt = (I_10017 392 this).toInt := by rw [eI_10145, pq_uf _ _ _ (by decide)]
                            refine lv_goto (tgt := 161) hx hb dX12_nextToken_220 (by decide) ?_
                            exact ih_10081 I_10145 J_10133 _ _ _ (ms_fu_iadd hm_10078 (by rw [eI_10145]; exact pq_us _ _ _ _) ex_10143 rfl (kk := 1) rfl (by decide) h_10142 (by decide) (by decide)) hG hP hD hS (lv_sub hl [0] rfl)
                          refine lv_icmp_ge (tgt := 210) hx hb dX12_nextToken_186 (by decide) (fun c_10149 => ?_) (fun c_10149 => ?_)
                          · have tc_10150 : 7 ≤ (x_10114).toInt := Int32.le_iff_toInt_le.mp c_10149
                            have h_10151 : rg x_10114 7 300 := rg_le2 c_10149 (rg_k (7 : Int32) 7 rfl) h_10115 (by decide)
                            have uh_10151 := h_10151.1
                            have vh_10151 := h_10151.2
                            exact K_10141 J_10018 _ _ _ hG hP hD hS (lv_sub hl [0] rfl)
                          · have tc_10152 : (x_10114).toInt < 7 := Int32.lt_iff_toInt_lt.mp (nle c_10149)
                            have h_10153 : rg x_10114 (-300) 6 := rg_lt1 (nle c_10149) h_10115 (rg_k (7 : Int32) 7 rfl) (by decide)
                            have uh_10153 := h_10153.1
                            have vh_10153 := h_10153.2
                            refine lv_aload_n hx hb dX12_nextToken_189 rfl (lv_at hl 0 rfl) ?_
                            refine lv_aload_n hx hb dX12_nextToken_190 rfl (lv_at hl 0 rfl) ?_
                            refine pg_f (v := .long (J_10018 395 this)) (C := RX12) (T := TX12) (N := 31) hx hb hts (tw_i inlX12) hown hK hP hL_this hK_this (by decide) rfl 11 (by decide) (hts _ (tw_c tw_838)) rfl dX12_nextToken_191 ?_
                            refine lv_bipush (v := 8) hx hb dX12_nextToken_194 (by decide) ?_
                            refine lv_lshl hx hb dX12_nextToken_196 rfl ?_
                            refine lv_topl (fun x_10154 ex_10154 => ?_)
                            refine lv_aload_n hx hb dX12_nextToken_197 rfl (lv_at hl 0 rfl) ?_
                            refine lv_aload_n hx hb dX12_nextToken_198 rfl (lv_at hl 0 rfl) ?_
                            refine pg_f (v := .int (I_10017 391 this)) (C := RX12) (T := TX12) (N := 31) hx hb hts (tw_i inlX12) hown hK hP hL_this hK_this (by decide) rfl 7 (by decide) (hts _ (tw_c tw_830)) rfl dX12_nextToken_199 ?_
                            refine pk_i (va_runV (As := [.int (I_10017 391 this)]) (rest := [.long x_10154, .ref this]) ⟨hx, hb, hml, hown, hts⟩ (s_X12_see l D t σ I_10017 J_10018 ri rj rq H.size tg hSH hG.1 this (I_10017 391 this) hL_this hK_this (rg_w h_10082 (by decide))) (cwV 1 hts (tw_V tw_839 tw_840 tw_841 tw_5 tw_842) rfl rfl rfl (by decide +kernel) ⟨Nat.le_of_ble_eq_true rfl, Nat.le_of_ble_eq_true rfl⟩) ⟨pq_blind, pq_recv hK hP hL_this hK_this (by decide) rfl, pq_pre hK hN hP hD⟩ rfl rfl hl.1 rfl (lv_room (Nat.le_of_ble_eq_true rfl)) dX12_nextToken_202 ⟨Nat.le_of_ble_eq_true rfl, Nat.le_of_ble_eq_true rfl⟩) hD hS hA (fun x_10155 σ1 μ1 H locs hw_10156 hP hD hS => ?_)
                            obtain ⟨hu_10157, hp_10160, hr_10159⟩ := hw_10156
                            obtain ⟨hu_10157a, hu_10157b⟩ := Prod.mk.inj hu_10157
                            rw [hu_10157a, hu_10157b] at hP hD
                            have tt_10161 := hp_10160
                            have tt_10162 := (GM.rI hG 388 (a := this) (lo := 0) (hi := 300) rfl).2
                            refine lv_i2l hx hb dX12_nextToken_205 rfl ?_
                            refine lv_topl (fun x_10163 ex_10163 => ?_)
                            refine lv_lor hx hb dX12_nextToken_206 ?_
                            refine lv_topl (fun x_10164 ex_10164 => ?_)
                            refine pp_l (v := x_10164) (C := RX12) (T := TX12) (N := 31) hx hb hts (tw_i inlX12) tyX12 tyX12_ok nmX12 hown hK hP hD hS hL_this hK_this (by decide) rfl 11 395 (by decide) (hts _ (tw_c tw_838)) rfl (by decide +kernel) (Nat.le_of_ble_eq_true rfl) (ps_395 _ _ _ _ _) dX12_nextToken_207 (fun J_10165 H locs eJ_10165 hP hD hS => ?_)
                            exact K_10141 J_10165 _ _ _ hG hP hD hS (lv_sub hl [0] rfl)
                    exact L_10080 _ I_9831 J_9835 _ _ _ (Nat.lt_succ_self _) hG hP hD hS (lv_sub hl [1] rfl)
                · have f_10166 := (hr_9270.resolve_right (fun q => c_9272 q.1)).2
                  have uf_10166 := f_10166.1
                  have vf_10166 := f_10166.2
                  have tc_10167 : (x_9266).toInt ≠ 0 := fun q => c_9272 (Int32.toInt_inj.mp q)
                  have h_10168 : rg x_9266 1 1 := rg_ne c_9272 h_9271 0 rfl (by decide)
                  have uh_10168 := h_10168.1
                  have vh_10168 := h_10168.2
                  refine lv_aload_n hx hb dX12_nextToken_75 rfl (lv_at hl 1 rfl) ?_
                  refine lv_iconst (v := 1) hx hb dX12_nextToken_76 (by decide) ?_
                  refine pp_i (v := 1) (ty := .int) (C := RX12) (T := TX12) (N := 31) hx hb hts (tw_i inlX12) tyX12 tyX12_ok nmX12 hown hK hP hD hS hL_this hK_this (by decide) rfl 9 393 (by decide) (hts _ (tw_c tw_831)) rfl (by decide +kernel) rfl rfl (Nat.le_of_ble_eq_true rfl) (ps_393 _ _ _ _ _) dX12_nextToken_77 (fun I_10169 H locs eI_10169 hP hD hS => ?_)
                  have hG := GM.wI hG 393 rfl eI_10169 (rg_w (rg_k (1 : Int32) 1 rfl) (by decide)) (by decide)
                  have tt_10170 : (I_10169 391 this).toInt = (I_9250 391 this).toInt := by rw [eI_10169, pq_uf _ _ _ (by decide)]
                  have tt_10171 : (I_10169 388 this).toInt = (I_9250 388 this).toInt := by rw [eI_10169, pq_uf _ _ _ (by decide)]
                  have tt_10172 : (I_10169 392 this).toInt = (I_9250 392 this).toInt := by rw [eI_10169, pq_uf _ _ _ (by decide)]
                  refine lv_aload_n hx hb dX12_nextToken_80 rfl (lv_at hl 1 rfl) ?_
                  refine lv_iconst (v := 0) hx hb dX12_nextToken_81 (by decide) ?_
                  refine pp_i (v := 0) (ty := .int) (C := RX12) (T := TX12) (N := 31) hx hb hts (tw_i inlX12) tyX12 tyX12_ok nmX12 hown hK hP hD hS hL_this hK_this (by decide) rfl 10 394 (by decide) (hts _ (tw_c tw_836)) rfl (by decide +kernel) rfl rfl (Nat.le_of_ble_eq_true rfl) (ps_394 _ _ _ _ _) dX12_nextToken_82 (fun I_10173 H locs eI_10173 hP hD hS => ?_)
                  have hG := GM.wI hG 394 rfl eI_10173 (rg_w (rg_k (0 : Int32) 0 rfl) (by decide)) (by decide)
                  have tt_10174 : (I_10173 391 this).toInt = (I_10169 391 this).toInt := by rw [eI_10173, pq_uf _ _ _ (by decide)]
                  have tt_10175 : (I_10173 388 this).toInt = (I_10169 388 this).toInt := by rw [eI_10173, pq_uf _ _ _ (by decide)]
                  have tt_10176 : (I_10173 392 this).toInt = (I_10169 392 this).toInt := by rw [eI_10173, pq_uf _ _ _ (by decide)]
                  have L_10405 : ∀ (n_10404 : Nat) (I_10345 : Nat → Nat → Int32) (H : Heap) (locs : List Loc) (ls : Array Slot), (300 - (I_10345 391 this).toInt).toNat < n_10404 → GM [392, 391, 393] tg σ I ri I_10345 ri rq → va_P D vwCl (pq_P t σ (I_10345, J, ri, rj, rq)) H → va_D A (pq_P t σ (I_10345, J, ri, rj, rq)) → va_S A s.heap H locs → lv_has ls 3 [(0, .ref this)] → W p l e ({ frames := 2, cells := 0, slots := 0, locals := 42 } : Room) s m (List.toArray ([.ref this] : List Value)) below meth c H locs 0 0 Q (F0 m 85 ls []) := by
                    intro n_10404
                    induction n_10404 with
                    | zero => intro I_10345 H locs ls hm_10403 hG hP hD hS hl; exact absurd hm_10403 (Nat.not_lt_zero _)
                    | succ n_10404 ih_10406 =>
                      intro I_10345 H locs ls hm_10403 hG hP hD hS hl
                      refine lv_aload_n hx hb dX12_nextToken_85 rfl (lv_at hl 0 rfl) ?_
                      refine lv_aload_n hx hb dX12_nextToken_86 rfl (lv_at hl 0 rfl) ?_
                      refine pg_f (v := .int (I_10345 391 this)) (C := RX12) (T := TX12) (N := 31) hx hb hts (tw_i inlX12) hown hK hP hL_this hK_this (by decide) rfl 7 (by decide) (hts _ (tw_c tw_830)) rfl dX12_nextToken_87 ?_
                      have h_10407 : rg (I_10345 391 this) 0 300 := GM.rI hG 391 rfl
                      have uh_10407 := h_10407.1
                      have vh_10407 := h_10407.2
                      refine pk_i (va_runV (As := [.int (I_10345 391 this)]) (rest := []) ⟨hx, hb, hml, hown, hts⟩ (s_X12_see l D t σ I_10345 J ri rj rq H.size tg hSH hG.1 this (I_10345 391 this) hL_this hK_this (rg_w h_10407 (by decide))) (cwV 1 hts (tw_V tw_839 tw_840 tw_841 tw_5 tw_842) rfl rfl rfl (by decide +kernel) ⟨Nat.le_of_ble_eq_true rfl, Nat.le_of_ble_eq_true rfl⟩) ⟨pq_blind, pq_recv hK hP hL_this hK_this (by decide) rfl, pq_pre hK hN hP hD⟩ rfl rfl hl.1 rfl (lv_room (Nat.le_of_ble_eq_true rfl)) dX12_nextToken_90 ⟨Nat.le_of_ble_eq_true rfl, Nat.le_of_ble_eq_true rfl⟩) hD hS hA (fun x_10408 σ1 μ1 H locs hw_10409 hP hD hS => ?_)
                      obtain ⟨hu_10410, hp_10413, hr_10412⟩ := hw_10409
                      obtain ⟨hu_10410a, hu_10410b⟩ := Prod.mk.inj hu_10410
                      rw [hu_10410a, hu_10410b] at hP hD
                      have tt_10414 := hp_10413
                      have tt_10415 := (GM.rI hG 388 (a := this) (lo := 0) (hi := 300) rfl).2
                      refine pk_i (va_runS (As := [.int x_10408]) (rest := []) ⟨hx, hb, hml, hown, hts⟩ (s_X12_isDigit l D t σ I_10345 J ri rj rq H.size tg hSH hG.1 x_10408) (va_cwS 1 hts (tw_S tw_843 tw_844 tw_5 tw_845) rfl rfl rfl (by decide +kernel) ⟨Nat.le_of_ble_eq_true rfl, Nat.le_of_ble_eq_true rfl⟩) ⟨pq_blind, pq_pre hK hN hP hD⟩ rfl rfl hl.1 rfl (lv_room (Nat.le_of_ble_eq_true rfl)) dX12_nextToken_93 ⟨Nat.le_of_ble_eq_true rfl, Nat.le_of_ble_eq_true rfl⟩) hD hS hA (fun x_10416 σ1 μ1 H locs hw_10417 hP hD hS => ?_)
                      obtain ⟨hu_10418, hr_10420⟩ := hw_10417
                      obtain ⟨hu_10418a, hu_10418b⟩ := Prod.mk.inj hu_10418
                      rw [hu_10418a, hu_10418b] at hP hD
                      have h_10421 : rg x_10416 0 1 := by rcases hr_10420 with ⟨q, -⟩ | ⟨q, -⟩ <;> rw [q] <;> exact ⟨by decide, by decide⟩
                      have uh_10421 := h_10421.1
                      have vh_10421 := h_10421.2
                      refine lv_if_eq (tgt := 396) hx hb dX12_nextToken_96 (by decide) (fun c_10422 => ?_) (fun c_10422 => ?_)
                      · have f_10423 := (hr_10420.resolve_left (fun q => absurd (q.1.symm.trans c_10422) (by decide))).2
                        have tc_10424 : (x_10416).toInt = 0 := congrArg Int32.toInt c_10422
                        have h_10425 : rg x_10416 0 0 := rg_and h_10421 (rg_of_eq c_10422 (rg_k (0 : Int32) 0 rfl)) (by decide)
                        have uh_10425 := h_10425.1
                        have vh_10425 := h_10425.2
                        subst hQ
                        exact W.vret hx hb hr (fun t1 ht hW => ⟨⟨(σ, I_10345, J, ri, rj, rq), rfl, ⟨I_10345, J, rfl, hG⟩, by rw [ht]; exact hP, va_K.moved hW.alike hK, hD⟩, hS.F ht⟩) hS.2.2 dX12_nextToken_396
                      · have f_10426 := (hr_10420.resolve_right (fun q => c_10422 q.1)).2
                        have uf_10426 := f_10426.1
                        have vf_10426 := f_10426.2
                        have tc_10427 : (x_10416).toInt ≠ 0 := fun q => c_10422 (Int32.toInt_inj.mp q)
                        have h_10428 : rg x_10416 1 1 := rg_ne c_10422 h_10421 0 rfl (by decide)
                        have uh_10428 := h_10428.1
                        have vh_10428 := h_10428.2
                        refine lv_aload_n hx hb dX12_nextToken_99 rfl (lv_at hl 0 rfl) ?_
                        refine pg_f (v := .int (I_10345 394 this)) (C := RX12) (T := TX12) (N := 31) hx hb hts (tw_i inlX12) hown hK hP hL_this hK_this (by decide) rfl 10 (by decide) (hts _ (tw_c tw_836)) rfl dX12_nextToken_100 ?_
                        refine lv_ldc hx hb hown (hts _ (tw_c tw_837)) dX12_nextToken_103 ?_
                        refine lv_icmp_ge (tgt := 131) hx hb dX12_nextToken_105 (by decide) (fun c_10429 => ?_) (fun c_10429 => ?_)
                        · have tc_10430 : 100000 ≤ (I_10345 394 this).toInt := Int32.le_iff_toInt_le.mp c_10429
                          have h_10431 : rg (I_10345 394 this) 100000 2147483647 := rg_le2 c_10429 (rg_k (100000 : Int32) 100000 rfl) (rg_full _) (by decide)
                          have uh_10431 := h_10431.1
                          have vh_10431 := h_10431.2
                          refine lv_aload_n hx hb dX12_nextToken_131 rfl (lv_at hl 0 rfl) ?_
                          refine lv_dup hx hb dX12_nextToken_132 rfl ?_
                          refine pg_f (v := .int (I_10345 391 this)) (C := RX12) (T := TX12) (N := 31) hx hb hts (tw_i inlX12) hown hK hP hL_this hK_this (by decide) rfl 7 (by decide) (hts _ (tw_c tw_830)) rfl dX12_nextToken_133 ?_
                          refine lv_iconst (v := 1) hx hb dX12_nextToken_136 (by decide) ?_
                          have h_10432 : rg (I_10345 391 this) 0 299 := ⟨by omega, by omega⟩
                          have uh_10432 := h_10432.1
                          have vh_10432 := h_10432.2
                          refine lv_iadd hx hb dX12_nextToken_137 ?_
                          refine lv_topi (fun x_10433 ex_10433 => ?_)
                          have h_10434 : rg x_10433 1 300 := rg_of_eq ex_10433 (rg_add h_10432 (rg_k (1 : Int32) 1 rfl) (by decide))
                          have uh_10434 := h_10434.1
                          have vh_10434 := h_10434.2
                          have tx_10433 : (x_10433).toInt = (I_10345 391 this).toInt + 1 := by rw [ex_10433]; exact i_add_rg (a2 := (I_10345 391 this).toInt) (b2 := 1) rfl rfl h_10432 (rg_k (1 : Int32) 1 rfl) (by decide)
                          refine pp_i (v := x_10433) (ty := .int) (C := RX12) (T := TX12) (N := 31) hx hb hts (tw_i inlX12) tyX12 tyX12_ok nmX12 hown hK hP hD hS hL_this hK_this (by decide) rfl 7 391 (by decide) (hts _ (tw_c tw_830)) rfl (by decide +kernel) rfl rfl (Nat.le_of_ble_eq_true rfl) (ps_391 _ _ _ _ _) dX12_nextToken_138 (fun I_10435 H locs eI_10435 hP hD hS => ?_)
                          have hG := GM.wI hG 391 rfl eI_10435 (rg_w h_10434 (by decide)) (by decide)
                          have tt_10436 : (I_10435 391 this).toInt = (x_10433).toInt := by rw [eI_10435, pq_us]
                          have tt_10437 : (I_10435 388 this).toInt = (I_10345 388 this).toInt := by rw [eI_10435, pq_uf _ _ _ (by decide)]
                          have tt_10438 : (I_10435 392 this).toInt = (I_10345 392 this).toInt := by rw [eI_10435, pq_uf _ _ _ (by decide)]
                          refine lv_goto (tgt := 85) hx hb dX12_nextToken_141 (by decide) ?_
                          exact ih_10406 I_10435 _ _ _ (ms_fu_iadd hm_10403 (by rw [eI_10435]; exact pq_us _ _ _ _) ex_10433 rfl (kk := 1) rfl (by decide) h_10432 (by decide) (by decide)) hG hP hD hS (lv_sub hl [0] rfl)
                        · have tc_10439 : (I_10345 394 this).toInt < 100000 := Int32.lt_iff_toInt_lt.mp (nle c_10429)
                          have h_10440 : rg (I_10345 394 this) (-2147483648) 99999 := rg_lt1 (nle c_10429) (rg_full _) (rg_k (100000 : Int32) 100000 rfl) (by decide)
                          have uh_10440 := h_10440.1
                          have vh_10440 := h_10440.2
                          refine lv_aload_n hx hb dX12_nextToken_108 rfl (lv_at hl 0 rfl) ?_
                          refine lv_bipush (v := 10) hx hb dX12_nextToken_109 (by decide) ?_
                          refine lv_aload_n hx hb dX12_nextToken_111 rfl (lv_at hl 0 rfl) ?_
                          refine pg_f (v := .int (I_10345 394 this)) (C := RX12) (T := TX12) (N := 31) hx hb hts (tw_i inlX12) hown hK hP hL_this hK_this (by decide) rfl 10 (by decide) (hts _ (tw_c tw_836)) rfl dX12_nextToken_112 ?_
                          refine lv_imul hx hb dX12_nextToken_115 ?_
                          refine lv_topi (fun x_10441 ex_10441 => ?_)
                          refine lv_aload_n hx hb dX12_nextToken_116 rfl (lv_at hl 0 rfl) ?_
                          refine lv_aload_n hx hb dX12_nextToken_117 rfl (lv_at hl 0 rfl) ?_
                          refine pg_f (v := .int (I_10345 391 this)) (C := RX12) (T := TX12) (N := 31) hx hb hts (tw_i inlX12) hown hK hP hL_this hK_this (by decide) rfl 7 (by decide) (hts _ (tw_c tw_830)) rfl dX12_nextToken_118 ?_
                          refine pk_i (va_runV (As := [.int (I_10345 391 this)]) (rest := [.int x_10441, .ref this]) ⟨hx, hb, hml, hown, hts⟩ (s_X12_see l D t σ I_10345 J ri rj rq H.size tg hSH hG.1 this (I_10345 391 this) hL_this hK_this (rg_w h_10407 (by decide))) (cwV 1 hts (tw_V tw_839 tw_840 tw_841 tw_5 tw_842) rfl rfl rfl (by decide +kernel) ⟨Nat.le_of_ble_eq_true rfl, Nat.le_of_ble_eq_true rfl⟩) ⟨pq_blind, pq_recv hK hP hL_this hK_this (by decide) rfl, pq_pre hK hN hP hD⟩ rfl rfl hl.1 rfl (lv_room (Nat.le_of_ble_eq_true rfl)) dX12_nextToken_121 ⟨Nat.le_of_ble_eq_true rfl, Nat.le_of_ble_eq_true rfl⟩) hD hS hA (fun x_10442 σ1 μ1 H locs hw_10443 hP hD hS => ?_)
                          obtain ⟨hu_10444, hp_10447, hr_10446⟩ := hw_10443
                          obtain ⟨hu_10444a, hu_10444b⟩ := Prod.mk.inj hu_10444
                          rw [hu_10444a, hu_10444b] at hP hD
                          have tt_10448 := hp_10447
                          have tt_10449 := (GM.rI hG 388 (a := this) (lo := 0) (hi := 300) rfl).2
                          refine lv_iadd hx hb dX12_nextToken_124 ?_
                          refine lv_topi (fun x_10450 ex_10450 => ?_)
                          refine lv_bipush (v := 48) hx hb dX12_nextToken_125 (by decide) ?_
                          refine lv_isub hx hb dX12_nextToken_127 ?_
                          refine lv_topi (fun x_10451 ex_10451 => ?_)
                          refine pp_i (v := x_10451) (ty := .int) (C := RX12) (T := TX12) (N := 31) hx hb hts (tw_i inlX12) tyX12 tyX12_ok nmX12 hown hK hP hD hS hL_this hK_this (by decide) rfl 10 394 (by decide) (hts _ (tw_c tw_836)) rfl (by decide +kernel) rfl rfl (Nat.le_of_ble_eq_true rfl) (ps_394 _ _ _ _ _) dX12_nextToken_128 (fun I_10452 H locs eI_10452 hP hD hS => ?_)
                          have hG := GM.wI hG 394 rfl eI_10452 (rg_w (rg_full _) (by decide)) (by decide)
                          have tt_10453 : (I_10452 391 this).toInt = (I_10345 391 this).toInt := by rw [eI_10452, pq_uf _ _ _ (by decide)]
                          have tt_10454 : (I_10452 388 this).toInt = (I_10345 388 this).toInt := by rw [eI_10452, pq_uf _ _ _ (by decide)]
                          have tt_10455 : (I_10452 392 this).toInt = (I_10345 392 this).toInt := by rw [eI_10452, pq_uf _ _ _ (by decide)]
                          refine lv_aload_n hx hb dX12_nextToken_131 rfl (lv_at hl 0 rfl) ?_
                          refine lv_dup hx hb dX12_nextToken_132 rfl ?_
                          refine pg_f (v := .int (I_10452 391 this)) (C := RX12) (T := TX12) (N := 31) hx hb hts (tw_i inlX12) hown hK hP hL_this hK_this (by decide) rfl 7 (by decide) (hts _ (tw_c tw_830)) rfl dX12_nextToken_133 ?_
                          have h_10456 : rg (I_10452 391 this) 0 300 := GM.rI hG 391 rfl
                          have uh_10456 := h_10456.1
                          have vh_10456 := h_10456.2
                          refine lv_iconst (v := 1) hx hb dX12_nextToken_136 (by decide) ?_
                          have h_10457 : rg (I_10452 391 this) 0 299 := ⟨by omega, by omega⟩
                          have uh_10457 := h_10457.1
                          have vh_10457 := h_10457.2
                          refine lv_iadd hx hb dX12_nextToken_137 ?_
                          refine lv_topi (fun x_10458 ex_10458 => ?_)
                          have h_10459 : rg x_10458 1 300 := rg_of_eq ex_10458 (rg_add h_10457 (rg_k (1 : Int32) 1 rfl) (by decide))
                          have uh_10459 := h_10459.1
                          have vh_10459 := h_10459.2
                          have tx_10458 : (x_10458).toInt = (I_10452 391 this).toInt + 1 := by rw [ex_10458]; exact i_add_rg (a2 := (I_10452 391 this).toInt) (b2 := 1) rfl rfl h_10457 (rg_k (1 : Int32) 1 rfl) (by decide)
                          refine pp_i (v := x_10458) (ty := .int) (C := RX12) (T := TX12) (N := 31) hx hb hts (tw_i inlX12) tyX12 tyX12_ok nmX12 hown hK hP hD hS hL_this hK_this (by decide) rfl 7 391 (by decide) (hts _ (tw_c tw_830)) rfl (by decide +kernel) rfl rfl (Nat.le_of_ble_eq_true rfl) (ps_391 _ _ _ _ _) dX12_nextToken_138 (fun I_10460 H locs eI_10460 hP hD hS => ?_)
                          have hG := GM.wI hG 391 rfl eI_10460 (rg_w h_10459 (by decide)) (by decide)
                          have tt_10461 : (I_10460 391 this).toInt = (x_10458).toInt := by rw [eI_10460, pq_us]
                          have tt_10462 : (I_10460 388 this).toInt = (I_10452 388 this).toInt := by rw [eI_10460, pq_uf _ _ _ (by decide)]
                          have tt_10463 : (I_10460 392 this).toInt = (I_10452 392 this).toInt := by rw [eI_10460, pq_uf _ _ _ (by decide)]
                          refine lv_goto (tgt := 85) hx hb dX12_nextToken_141 (by decide) ?_
                          exact ih_10406 I_10460 _ _ _ (ms_fu_iadd hm_10403 (by rw [eI_10460]; exact pq_us _ _ _ _) ex_10458 ((congrFun (show I_10452 391 = I_10345 391 from by rw [eI_10452]; exact pq_uf _ _ _ (by decide)) this).trans rfl) (kk := 1) rfl (by decide) h_10457 (by decide) (by decide)) hG hP hD hS (lv_sub hl [0] rfl)
                  exact L_10405 _ I_10173 _ _ _ (Nat.lt_succ_self _) hG hP hD hS (lv_sub hl [1] rfl)
              · have tc_10464 : (x_9255).toInt < 0 := Int32.lt_iff_toInt_lt.mp (nle c_9263)
                have h_10465 : rg x_9255 (-1) (-1) := rg_lt1 (nle c_9263) hr_9259 (rg_k (0 : Int32) 0 rfl) (by decide)
                have uh_10465 := h_10465.1
                have vh_10465 := h_10465.2
                refine lv_aload_n hx hb dX12_nextToken_60 rfl (lv_at hl 1 rfl) ?_
                refine lv_iconst (v := 0) hx hb dX12_nextToken_61 (by decide) ?_
                refine pp_i (v := 0) (ty := .int) (C := RX12) (T := TX12) (N := 31) hx hb hts (tw_i inlX12) tyX12 tyX12_ok nmX12 hown hK hP hD hS hL_this hK_this (by decide) rfl 9 393 (by decide) (hts _ (tw_c tw_831)) rfl (by decide +kernel) rfl rfl (Nat.le_of_ble_eq_true rfl) (ps_393 _ _ _ _ _) dX12_nextToken_62 (fun I_10466 H locs eI_10466 hP hD hS => ?_)
                have hG := GM.wI hG 393 rfl eI_10466 (rg_w (rg_k (0 : Int32) 0 rfl) (by decide)) (by decide)
                have tt_10467 : (I_10466 391 this).toInt = (I_9250 391 this).toInt := by rw [eI_10466, pq_uf _ _ _ (by decide)]
                have tt_10468 : (I_10466 388 this).toInt = (I_9250 388 this).toInt := by rw [eI_10466, pq_uf _ _ _ (by decide)]
                have tt_10469 : (I_10466 392 this).toInt = (I_9250 392 this).toInt := by rw [eI_10466, pq_uf _ _ _ (by decide)]
                refine lv_goto (tgt := 396) hx hb dX12_nextToken_65 (by decide) ?_
                subst hQ
                exact W.vret hx hb hr (fun t1 ht hW => ⟨⟨(σ, I_10466, J, ri, rj, rq), rfl, ⟨I_10466, J, rfl, hG⟩, by rw [ht]; exact hP, va_K.moved hW.alike hK, hD⟩, hS.F ht⟩) hS.2.2 dX12_nextToken_396
            · have tc_10470 : (x_9240).toInt = 10 := congrArg Int32.toInt c_9248
              have h_10471 : rg x_9240 10 10 := rg_and hr_9244 (rg_of_eq c_9248 (rg_k (10 : Int32) 10 rfl)) (by decide)
              have uh_10471 := h_10471.1
              have vh_10471 := h_10471.2
              exact K_9228 _ _ _ hG hP hD hS (lv_sub hl [0] rfl)
      exact L_8389 _ I_5032 _ _ _ (Nat.lt_succ_self _) hG hP hD hS (lv_sub hl [0] rfl)
    refine lv_icmp_eq (tgt := 26) hx hb dX12_nextToken_10 (by decide) (fun c_10472 => ?_) (fun c_10472 => ?_)
    · have tc_10473 : (x_2).toInt = 32 := congrArg Int32.toInt c_10472
      have h_10474 : rg x_2 32 32 := rg_and hr_6 (rg_of_eq c_10472 (rg_k (32 : Int32) 32 rfl)) (by decide)
      have uh_10474 := h_10474.1
      have vh_10474 := h_10474.2
      exact K_5028 _ _ _ hG hP hD hS (lv_sub hl [0] rfl)
    · have tc_10475 : (x_2).toInt ≠ 32 := fun q => c_10472 (Int32.toInt_inj.mp q)
      refine lv_aload_n hx hb dX12_nextToken_13 rfl (lv_at hl 0 rfl) ?_
      refine lv_aload_n hx hb dX12_nextToken_14 rfl (lv_at hl 0 rfl) ?_
      refine pg_f (v := .int (I 391 this)) (C := RX12) (T := TX12) (N := 31) hx hb hts (tw_i inlX12) hown hK hP hL_this hK_this (by decide) rfl 7 (by decide) (hts _ (tw_c tw_830)) rfl dX12_nextToken_15 ?_
      refine pk_i (va_runV (As := [.int (I 391 this)]) (rest := []) ⟨hx, hb, hml, hown, hts⟩ (s_X12_see l D t σ I J ri rj rq H.size tg hSH hG.1 this (I 391 this) hL_this hK_this (rg_w h_1 (by decide))) (cwV 1 hts (tw_V tw_839 tw_840 tw_841 tw_5 tw_842) rfl rfl rfl (by decide +kernel) ⟨Nat.le_of_ble_eq_true rfl, Nat.le_of_ble_eq_true rfl⟩) ⟨pq_blind, pq_recv hK hP hL_this hK_this (by decide) rfl, pq_pre hK hN hP hD⟩ rfl rfl hl.1 rfl (lv_room (Nat.le_of_ble_eq_true rfl)) dX12_nextToken_18 ⟨Nat.le_of_ble_eq_true rfl, Nat.le_of_ble_eq_true rfl⟩) hD hS hA (fun x_10476 σ1 μ1 H locs hw_10477 hP hD hS => ?_)
      obtain ⟨hu_10478, hp_10481, hr_10480⟩ := hw_10477
      obtain ⟨hu_10478a, hu_10478b⟩ := Prod.mk.inj hu_10478
      rw [hu_10478a, hu_10478b] at hP hD
      have tt_10482 := hp_10481
      have tt_10483 := (GM.rI hG 388 (a := this) (lo := 0) (hi := 300) rfl).2
      refine lv_bipush (v := 10) hx hb dX12_nextToken_21 (by decide) ?_
      refine lv_icmp_ne (tgt := 39) hx hb dX12_nextToken_23 (by decide) (fun c_10484 => ?_) (fun c_10484 => ?_)
      · have tc_10485 : (x_10476).toInt ≠ 10 := fun q => c_10484 (Int32.toInt_inj.mp q)
        refine lv_aload_n hx hb dX12_nextToken_39 rfl (lv_at hl 0 rfl) ?_
        refine lv_aload_n hx hb dX12_nextToken_40 rfl (lv_at hl 0 rfl) ?_
        refine pg_f (v := .int (I 391 this)) (C := RX12) (T := TX12) (N := 31) hx hb hts (tw_i inlX12) hown hK hP hL_this hK_this (by decide) rfl 7 (by decide) (hts _ (tw_c tw_830)) rfl dX12_nextToken_41 ?_
        refine pp_i (v := (I 391 this)) (ty := .int) (C := RX12) (T := TX12) (N := 31) hx hb hts (tw_i inlX12) tyX12 tyX12_ok nmX12 hown hK hP hD hS hL_this hK_this (by decide) rfl 8 392 (by decide) (hts _ (tw_c tw_820)) rfl (by decide +kernel) rfl rfl (Nat.le_of_ble_eq_true rfl) (ps_392 _ _ _ _ _) dX12_nextToken_44 (fun I_10486 H locs eI_10486 hP hD hS => ?_)
        have hG := GM.wI hG 392 rfl eI_10486 (rg_w h_1 (by decide)) (by decide)
        have tt_10487 : (I_10486 391 this).toInt = (I 391 this).toInt := by rw [eI_10486, pq_uf _ _ _ (by decide)]
        have tt_10488 : (I_10486 388 this).toInt = (I 388 this).toInt := by rw [eI_10486, pq_uf _ _ _ (by decide)]
        have tt_10489 : (I_10486 392 this).toInt = (I 391 this).toInt := by rw [eI_10486, pq_us]
        refine lv_aload_n hx hb dX12_nextToken_47 rfl (lv_at hl 0 rfl) ?_
        refine lv_aload_n hx hb dX12_nextToken_48 rfl (lv_at hl 0 rfl) ?_
        refine pg_f (v := .int (I_10486 391 this)) (C := RX12) (T := TX12) (N := 31) hx hb hts (tw_i inlX12) hown hK hP hL_this hK_this (by decide) rfl 7 (by decide) (hts _ (tw_c tw_830)) rfl dX12_nextToken_49 ?_
        have h_10490 : rg (I_10486 391 this) 0 300 := GM.rI hG 391 rfl
        have uh_10490 := h_10490.1
        have vh_10490 := h_10490.2
        refine pk_i (va_runV (As := [.int (I_10486 391 this)]) (rest := []) ⟨hx, hb, hml, hown, hts⟩ (s_X12_see l D t σ I_10486 J ri rj rq H.size tg hSH hG.1 this (I_10486 391 this) hL_this hK_this (rg_w h_10490 (by decide))) (cwV 1 hts (tw_V tw_839 tw_840 tw_841 tw_5 tw_842) rfl rfl rfl (by decide +kernel) ⟨Nat.le_of_ble_eq_true rfl, Nat.le_of_ble_eq_true rfl⟩) ⟨pq_blind, pq_recv hK hP hL_this hK_this (by decide) rfl, pq_pre hK hN hP hD⟩ rfl rfl hl.1 rfl (lv_room (Nat.le_of_ble_eq_true rfl)) dX12_nextToken_52 ⟨Nat.le_of_ble_eq_true rfl, Nat.le_of_ble_eq_true rfl⟩) hD hS hA (fun x_10491 σ1 μ1 H locs hw_10492 hP hD hS => ?_)
        obtain ⟨hu_10493, hp_10496, hr_10495⟩ := hw_10492
        obtain ⟨hu_10493a, hu_10493b⟩ := Prod.mk.inj hu_10493
        rw [hu_10493a, hu_10493b] at hP hD
        have tt_10497 := hp_10496
        have tt_10498 := (GM.rI hG 388 (a := this) (lo := 0) (hi := 300) rfl).2
        refine lv_istore_n (lv' := [(1, .int x_10491), (0, .ref this)]) hx hb dX12_nextToken_55 rfl hl (by decide) rfl (fun ls hl => ?_)
        refine lv_iload_n hx hb dX12_nextToken_56 rfl (lv_at hl 0 rfl) ?_
        refine lv_if_ge (tgt := 68) hx hb dX12_nextToken_57 (by decide) (fun c_10499 => ?_) (fun c_10499 => ?_)
        · have tc_10500 : 0 ≤ (x_10491).toInt := Int32.le_iff_toInt_le.mp c_10499
          have h_10501 : rg x_10491 0 255 := rg_le2 c_10499 (rg_k (0 : Int32) 0 rfl) hr_10495 (by decide)
          have uh_10501 := h_10501.1
          have vh_10501 := h_10501.2
          refine lv_iload_n hx hb dX12_nextToken_68 rfl (lv_at hl 0 rfl) ?_
          refine pk_i (va_runS (As := [.int x_10491]) (rest := []) ⟨hx, hb, hml, hown, hts⟩ (s_X12_isDigit l D t σ I_10486 J ri rj rq H.size tg hSH hG.1 x_10491) (va_cwS 1 hts (tw_S tw_843 tw_844 tw_5 tw_845) rfl rfl rfl (by decide +kernel) ⟨Nat.le_of_ble_eq_true rfl, Nat.le_of_ble_eq_true rfl⟩) ⟨pq_blind, pq_pre hK hN hP hD⟩ rfl rfl hl.1 rfl (lv_room (Nat.le_of_ble_eq_true rfl)) dX12_nextToken_69 ⟨Nat.le_of_ble_eq_true rfl, Nat.le_of_ble_eq_true rfl⟩) hD hS hA (fun x_10502 σ1 μ1 H locs hw_10503 hP hD hS => ?_)
          obtain ⟨hu_10504, hr_10506⟩ := hw_10503
          obtain ⟨hu_10504a, hu_10504b⟩ := Prod.mk.inj hu_10504
          rw [hu_10504a, hu_10504b] at hP hD
          have h_10507 : rg x_10502 0 1 := by rcases hr_10506 with ⟨q, -⟩ | ⟨q, -⟩ <;> rw [q] <;> exact ⟨by decide, by decide⟩
          have uh_10507 := h_10507.1
          have vh_10507 := h_10507.2
          refine lv_if_eq (tgt := 144) hx hb dX12_nextToken_72 (by decide) (fun c_10508 => ?_) (fun c_10508 => ?_)
          · have f_10509 := (hr_10506.resolve_left (fun q => absurd (q.1.symm.trans c_10508) (by decide))).2
            have tc_10510 : (x_10502).toInt = 0 := congrArg Int32.toInt c_10508
            have h_10511 : rg x_10502 0 0 := rg_and h_10507 (rg_of_eq c_10508 (rg_k (0 : Int32) 0 rfl)) (by decide)
            have uh_10511 := h_10511.1
            have vh_10511 := h_10511.2
            refine lv_iload_n hx hb dX12_nextToken_144 rfl (lv_at hl 0 rfl) ?_
            refine pk_i (va_runS (As := [.int x_10491]) (rest := []) ⟨hx, hb, hml, hown, hts⟩ (s_X12_isLetter l D t σ I_10486 J ri rj rq H.size tg hSH hG.1 x_10491) (va_cwS 1 hts (tw_S tw_846 tw_847 tw_5 tw_848) rfl rfl rfl (by decide +kernel) ⟨Nat.le_of_ble_eq_true rfl, Nat.le_of_ble_eq_true rfl⟩) ⟨pq_blind, pq_pre hK hN hP hD⟩ rfl rfl hl.1 rfl (lv_room (Nat.le_of_ble_eq_true rfl)) dX12_nextToken_145 ⟨Nat.le_of_ble_eq_true rfl, Nat.le_of_ble_eq_true rfl⟩) hD hS hA (fun x_10512 σ1 μ1 H locs hw_10513 hP hD hS => ?_)
            obtain ⟨hu_10514, hr_10516⟩ := hw_10513
            obtain ⟨hu_10514a, hu_10514b⟩ := Prod.mk.inj hu_10514
            rw [hu_10514a, hu_10514b] at hP hD
            have h_10517 : rg x_10512 0 1 := by rcases hr_10516 with ⟨q, -⟩ | ⟨q, -⟩ <;> rw [q] <;> exact ⟨by decide, by decide⟩
            have uh_10517 := h_10517.1
            have vh_10517 := h_10517.2
            refine lv_if_eq (tgt := 245) hx hb dX12_nextToken_148 (by decide) (fun c_10518 => ?_) (fun c_10518 => ?_)
            · have f_10519 := (hr_10516.resolve_left (fun q => absurd (q.1.symm.trans c_10518) (by decide))).2
              have tc_10520 : (x_10512).toInt = 0 := congrArg Int32.toInt c_10518
              have h_10521 : rg x_10512 0 0 := rg_and h_10517 (rg_of_eq c_10518 (rg_k (0 : Int32) 0 rfl)) (by decide)
              have uh_10521 := h_10521.1
              have vh_10521 := h_10521.2
              refine lv_aload_n hx hb dX12_nextToken_245 rfl (lv_at hl 1 rfl) ?_
              refine lv_dup hx hb dX12_nextToken_246 rfl ?_
              refine pg_f (v := .int (I_10486 391 this)) (C := RX12) (T := TX12) (N := 31) hx hb hts (tw_i inlX12) hown hK hP hL_this hK_this (by decide) rfl 7 (by decide) (hts _ (tw_c tw_830)) rfl dX12_nextToken_247 ?_
              refine lv_iconst (v := 1) hx hb dX12_nextToken_250 (by decide) ?_
              have h_10522 : rg (I_10486 391 this) 0 299 := ⟨by omega, by omega⟩
              have uh_10522 := h_10522.1
              have vh_10522 := h_10522.2
              refine lv_iadd hx hb dX12_nextToken_251 ?_
              refine lv_topi (fun x_10523 ex_10523 => ?_)
              have h_10524 : rg x_10523 1 300 := rg_of_eq ex_10523 (rg_add h_10522 (rg_k (1 : Int32) 1 rfl) (by decide))
              have uh_10524 := h_10524.1
              have vh_10524 := h_10524.2
              have tx_10523 : (x_10523).toInt = (I_10486 391 this).toInt + 1 := by rw [ex_10523]; exact i_add_rg (a2 := (I_10486 391 this).toInt) (b2 := 1) rfl rfl h_10522 (rg_k (1 : Int32) 1 rfl) (by decide)
              refine pp_i (v := x_10523) (ty := .int) (C := RX12) (T := TX12) (N := 31) hx hb hts (tw_i inlX12) tyX12 tyX12_ok nmX12 hown hK hP hD hS hL_this hK_this (by decide) rfl 7 391 (by decide) (hts _ (tw_c tw_830)) rfl (by decide +kernel) rfl rfl (Nat.le_of_ble_eq_true rfl) (ps_391 _ _ _ _ _) dX12_nextToken_252 (fun I_10525 H locs eI_10525 hP hD hS => ?_)
              have hG := GM.wI hG 391 rfl eI_10525 (rg_w h_10524 (by decide)) (by decide)
              have tt_10526 : (I_10525 391 this).toInt = (x_10523).toInt := by rw [eI_10525, pq_us]
              have tt_10527 : (I_10525 388 this).toInt = (I_10486 388 this).toInt := by rw [eI_10525, pq_uf _ _ _ (by decide)]
              have tt_10528 : (I_10525 392 this).toInt = (I_10486 392 this).toInt := by rw [eI_10525, pq_uf _ _ _ (by decide)]
              refine lv_iload_n hx hb dX12_nextToken_255 rfl (lv_at hl 0 rfl) ?_
              refine lv_bipush (v := 60) hx hb dX12_nextToken_256 (by decide) ?_
              have K_10678 : ∀  (H : Heap) (locs : List Loc) (ls : Array Slot), GM [392, 391, 393] tg σ I ri I_10525 ri rq → va_P D vwCl (pq_P t σ (I_10525, J, ri, rj, rq)) H → va_D A (pq_P t σ (I_10525, J, ri, rj, rq)) → va_S A s.heap H locs → lv_has ls 3 [(0, .ref this), (1, .int x_10491)] → W p l e ({ frames := 2, cells := 0, slots := 0, locals := 42 } : Room) s m (List.toArray ([.ref this] : List Value)) below meth c H locs 0 0 Q (F0 m 332 ls [.int 0]) := by
                intro H locs ls hG hP hD hS hl
                refine lv_istore_n (lv' := [(2, .int 0), (0, .ref this), (1, .int x_10491)]) hx hb dX12_nextToken_332 rfl hl (by decide) rfl (fun ls hl => ?_)
                refine lv_aload_n hx hb dX12_nextToken_333 rfl (lv_at hl 1 rfl) ?_
                refine lv_iload_n hx hb dX12_nextToken_334 rfl (lv_at hl 0 rfl) ?_
                have K_10728 : ∀  (H : Heap) (locs : List Loc) (ls : Array Slot), GM [392, 391, 393] tg σ I ri I_10525 ri rq → va_P D vwCl (pq_P t σ (I_10525, J, ri, rj, rq)) H → va_D A (pq_P t σ (I_10525, J, ri, rj, rq)) → va_S A s.heap H locs → lv_has ls 3 [(0, .ref this), (1, .int x_10491)] → W p l e ({ frames := 2, cells := 0, slots := 0, locals := 42 } : Room) s m (List.toArray ([.ref this] : List Value)) below meth c H locs 0 0 Q (F0 m 343 ls [.int 3, .ref this]) := by
                  intro H locs ls hG hP hD hS hl
                  refine pp_i (v := 3) (ty := .int) (C := RX12) (T := TX12) (N := 31) hx hb hts (tw_i inlX12) tyX12 tyX12_ok nmX12 hown hK hP hD hS hL_this hK_this (by decide) rfl 9 393 (by decide) (hts _ (tw_c tw_831)) rfl (by decide +kernel) rfl rfl (Nat.le_of_ble_eq_true rfl) (ps_393 _ _ _ _ _) dX12_nextToken_343 (fun I_10729 H locs eI_10729 hP hD hS => ?_)
                  have hG := GM.wI hG 393 rfl eI_10729 (rg_w (rg_k (3 : Int32) 3 rfl) (by decide)) (by decide)
                  have tt_10730 : (I_10729 391 this).toInt = (I_10525 391 this).toInt := by rw [eI_10729, pq_uf _ _ _ (by decide)]
                  have tt_10731 : (I_10729 388 this).toInt = (I_10525 388 this).toInt := by rw [eI_10729, pq_uf _ _ _ (by decide)]
                  have tt_10732 : (I_10729 392 this).toInt = (I_10525 392 this).toInt := by rw [eI_10729, pq_uf _ _ _ (by decide)]
                  refine lv_iload_n hx hb dX12_nextToken_346 rfl (lv_at hl 1 rfl) ?_
                  refine lv_bipush (v := 60) hx hb dX12_nextToken_347 (by decide) ?_
                  have K_10777 : ∀  (H : Heap) (locs : List Loc) (ls : Array Slot), rg (x_10491) 60 62 → GM [392, 391, 393] tg σ I ri I_10729 ri rq → va_P D vwCl (pq_P t σ (I_10729, J, ri, rj, rq)) H → va_D A (pq_P t σ (I_10729, J, ri, rj, rq)) → va_S A s.heap H locs → lv_has ls 3 [(0, .ref this), (1, .int x_10491)] → W p l e ({ frames := 2, cells := 0, slots := 0, locals := 42 } : Room) s m (List.toArray ([.ref this] : List Value)) below meth c H locs 0 0 Q (F0 m 358 ls []) := by
                    intro H locs ls h_10779 hG hP hD hS hl
                    have uh_10779 := h_10779.1
                    have vh_10779 := h_10779.2
                    refine lv_aload_n hx hb dX12_nextToken_358 rfl (lv_at hl 0 rfl) ?_
                    refine lv_aload_n hx hb dX12_nextToken_359 rfl (lv_at hl 0 rfl) ?_
                    refine pg_f (v := .int (I_10729 391 this)) (C := RX12) (T := TX12) (N := 31) hx hb hts (tw_i inlX12) hown hK hP hL_this hK_this (by decide) rfl 7 (by decide) (hts _ (tw_c tw_830)) rfl dX12_nextToken_360 ?_
                    have h_10780 : rg (I_10729 391 this) 1 300 := (by rw [eI_10729, pq_uf _ _ _ (by decide)]; exact (by rw [eI_10525, pq_us]; exact h_10524))
                    have uh_10780 := h_10780.1
                    have vh_10780 := h_10780.2
                    refine pk_i (va_runV (As := [.int (I_10729 391 this)]) (rest := []) ⟨hx, hb, hml, hown, hts⟩ (s_X12_see l D t σ I_10729 J ri rj rq H.size tg hSH hG.1 this (I_10729 391 this) hL_this hK_this (rg_w h_10780 (by decide))) (cwV 1 hts (tw_V tw_839 tw_840 tw_841 tw_5 tw_842) rfl rfl rfl (by decide +kernel) ⟨Nat.le_of_ble_eq_true rfl, Nat.le_of_ble_eq_true rfl⟩) ⟨pq_blind, pq_recv hK hP hL_this hK_this (by decide) rfl, pq_pre hK hN hP hD⟩ rfl rfl hl.1 rfl (lv_room (Nat.le_of_ble_eq_true rfl)) dX12_nextToken_363 ⟨Nat.le_of_ble_eq_true rfl, Nat.le_of_ble_eq_true rfl⟩) hD hS hA (fun x_10781 σ1 μ1 H locs hw_10782 hP hD hS => ?_)
                    obtain ⟨hu_10783, hp_10786, hr_10785⟩ := hw_10782
                    obtain ⟨hu_10783a, hu_10783b⟩ := Prod.mk.inj hu_10783
                    rw [hu_10783a, hu_10783b] at hP hD
                    have tt_10787 := hp_10786
                    have tt_10788 := (GM.rI hG 388 (a := this) (lo := 0) (hi := 300) rfl).2
                    refine lv_bipush (v := 61) hx hb dX12_nextToken_366 (by decide) ?_
                    refine lv_icmp_ne (tgt := 396) hx hb dX12_nextToken_368 (by decide) (fun c_10789 => ?_) (fun c_10789 => ?_)
                    · have tc_10790 : (x_10781).toInt ≠ 61 := fun q => c_10789 (Int32.toInt_inj.mp q)
                      subst hQ
                      exact W.vret hx hb hr (fun t1 ht hW => ⟨⟨(σ, I_10729, J, ri, rj, rq), rfl, ⟨I_10729, J, rfl, hG⟩, by rw [ht]; exact hP, va_K.moved hW.alike hK, hD⟩, hS.F ht⟩) hS.2.2 dX12_nextToken_396
                    · have tc_10791 : (x_10781).toInt = 61 := congrArg Int32.toInt c_10789
                      have h_10792 : rg x_10781 61 61 := rg_and hr_10785 (rg_of_eq c_10789 (rg_k (61 : Int32) 61 rfl)) (by decide)
                      have uh_10792 := h_10792.1
                      have vh_10792 := h_10792.2
                      refine lv_aload_n hx hb dX12_nextToken_371 rfl (lv_at hl 0 rfl) ?_
                      refine lv_dup hx hb dX12_nextToken_372 rfl ?_
                      refine pg_f (v := .int (I_10729 391 this)) (C := RX12) (T := TX12) (N := 31) hx hb hts (tw_i inlX12) hown hK hP hL_this hK_this (by decide) rfl 7 (by decide) (hts _ (tw_c tw_830)) rfl dX12_nextToken_373 ?_
                      refine lv_iconst (v := 1) hx hb dX12_nextToken_376 (by decide) ?_
                      have h_10793 : rg (I_10729 391 this) 0 299 := ⟨by omega, by omega⟩
                      have uh_10793 := h_10793.1
                      have vh_10793 := h_10793.2
                      refine lv_iadd hx hb dX12_nextToken_377 ?_
                      refine lv_topi (fun x_10794 ex_10794 => ?_)
                      have h_10795 : rg x_10794 1 300 := rg_of_eq ex_10794 (rg_add h_10793 (rg_k (1 : Int32) 1 rfl) (by decide))
                      have uh_10795 := h_10795.1
                      have vh_10795 := h_10795.2
                      have tx_10794 : (x_10794).toInt = (I_10729 391 this).toInt + 1 := by rw [ex_10794]; exact i_add_rg (a2 := (I_10729 391 this).toInt) (b2 := 1) rfl rfl h_10793 (rg_k (1 : Int32) 1 rfl) (by decide)
                      refine pp_i (v := x_10794) (ty := .int) (C := RX12) (T := TX12) (N := 31) hx hb hts (tw_i inlX12) tyX12 tyX12_ok nmX12 hown hK hP hD hS hL_this hK_this (by decide) rfl 7 391 (by decide) (hts _ (tw_c tw_830)) rfl (by decide +kernel) rfl rfl (Nat.le_of_ble_eq_true rfl) (ps_391 _ _ _ _ _) dX12_nextToken_378 (fun I_10796 H locs eI_10796 hP hD hS => ?_)
                      have hG := GM.wI hG 391 rfl eI_10796 (rg_w h_10795 (by decide)) (by decide)
                      have tt_10797 : (I_10796 391 this).toInt = (x_10794).toInt := by rw [eI_10796, pq_us]
                      have tt_10798 : (I_10796 388 this).toInt = (I_10729 388 this).toInt := by rw [eI_10796, pq_uf _ _ _ (by decide)]
                      have tt_10799 : (I_10796 392 this).toInt = (I_10729 392 this).toInt := by rw [eI_10796, pq_uf _ _ _ (by decide)]
                      refine lv_aload_n hx hb dX12_nextToken_381 rfl (lv_at hl 0 rfl) ?_
                      refine lv_iload_n hx hb dX12_nextToken_382 rfl (lv_at hl 1 rfl) ?_
                      refine lv_bipush (v := 60) hx hb dX12_nextToken_383 (by decide) ?_
                      have K_10815 : ∀  (H : Heap) (locs : List Loc) (ls : Array Slot), rg (x_10491) 61 62 → GM [392, 391, 393] tg σ I ri I_10796 ri rq → va_P D vwCl (pq_P t σ (I_10796, J, ri, rj, rq)) H → va_D A (pq_P t σ (I_10796, J, ri, rj, rq)) → va_S A s.heap H locs → lv_has ls 3 [] → W p l e ({ frames := 2, cells := 0, slots := 0, locals := 42 } : Room) s m (List.toArray ([.ref this] : List Value)) below meth c H locs 0 0 Q (F0 m 393 ls [.int 5, .ref this]) := by
                        intro H locs ls h_10817 hG hP hD hS hl
                        have uh_10817 := h_10817.1
                        have vh_10817 := h_10817.2
                        refine pp_i (v := 5) (ty := .int) (C := RX12) (T := TX12) (N := 31) hx hb hts (tw_i inlX12) tyX12 tyX12_ok nmX12 hown hK hP hD hS hL_this hK_this (by decide) rfl 9 393 (by decide) (hts _ (tw_c tw_831)) rfl (by decide +kernel) rfl rfl (Nat.le_of_ble_eq_true rfl) (ps_393 _ _ _ _ _) dX12_nextToken_393 (fun I_10818 H locs eI_10818 hP hD hS => ?_)
                        have hG := GM.wI hG 393 rfl eI_10818 (rg_w (rg_k (5 : Int32) 5 rfl) (by decide)) (by decide)
                        have tt_10819 : (I_10818 391 this).toInt = (I_10796 391 this).toInt := by rw [eI_10818, pq_uf _ _ _ (by decide)]
                        have tt_10820 : (I_10818 388 this).toInt = (I_10796 388 this).toInt := by rw [eI_10818, pq_uf _ _ _ (by decide)]
                        have tt_10821 : (I_10818 392 this).toInt = (I_10796 392 this).toInt := by rw [eI_10818, pq_uf _ _ _ (by decide)]
                        subst hQ
                        exact W.vret hx hb hr (fun t1 ht hW => ⟨⟨(σ, I_10818, J, ri, rj, rq), rfl, ⟨I_10818, J, rfl, hG⟩, by rw [ht]; exact hP, va_K.moved hW.alike hK, hD⟩, hS.F ht⟩) hS.2.2 dX12_nextToken_396
                      have K_10822 : ∀  (H : Heap) (locs : List Loc) (ls : Array Slot), rg (x_10491) 60 60 → GM [392, 391, 393] tg σ I ri I_10796 ri rq → va_P D vwCl (pq_P t σ (I_10796, J, ri, rj, rq)) H → va_D A (pq_P t σ (I_10796, J, ri, rj, rq)) → va_S A s.heap H locs → lv_has ls 3 [] → W p l e ({ frames := 2, cells := 0, slots := 0, locals := 42 } : Room) s m (List.toArray ([.ref this] : List Value)) below meth c H locs 0 0 Q (F0 m 393 ls [.int 4, .ref this]) := by
                        intro H locs ls h_10824 hG hP hD hS hl
                        have uh_10824 := h_10824.1
                        have vh_10824 := h_10824.2
                        refine pp_i (v := 4) (ty := .int) (C := RX12) (T := TX12) (N := 31) hx hb hts (tw_i inlX12) tyX12 tyX12_ok nmX12 hown hK hP hD hS hL_this hK_this (by decide) rfl 9 393 (by decide) (hts _ (tw_c tw_831)) rfl (by decide +kernel) rfl rfl (Nat.le_of_ble_eq_true rfl) (ps_393 _ _ _ _ _) dX12_nextToken_393 (fun I_10825 H locs eI_10825 hP hD hS => ?_)
                        have hG := GM.wI hG 393 rfl eI_10825 (rg_w (rg_k (4 : Int32) 4 rfl) (by decide)) (by decide)
                        have tt_10826 : (I_10825 391 this).toInt = (I_10796 391 this).toInt := by rw [eI_10825, pq_uf _ _ _ (by decide)]
                        have tt_10827 : (I_10825 388 this).toInt = (I_10796 388 this).toInt := by rw [eI_10825, pq_uf _ _ _ (by decide)]
                        have tt_10828 : (I_10825 392 this).toInt = (I_10796 392 this).toInt := by rw [eI_10825, pq_uf _ _ _ (by decide)]
                        subst hQ
                        exact W.vret hx hb hr (fun t1 ht hW => ⟨⟨(σ, I_10825, J, ri, rj, rq), rfl, ⟨I_10825, J, rfl, hG⟩, by rw [ht]; exact hP, va_K.moved hW.alike hK, hD⟩, hS.F ht⟩) hS.2.2 dX12_nextToken_396
                      refine lv_icmp_ne (tgt := 392) hx hb dX12_nextToken_385 (by decide) (fun c_10829 => ?_) (fun c_10829 => ?_)
                      · have tc_10830 : (x_10491).toInt ≠ 60 := fun q => c_10829 (Int32.toInt_inj.mp q)
                        have h_10831 : rg x_10491 61 62 := rg_ne c_10829 h_10779 60 rfl (by decide)
                        have uh_10831 := h_10831.1
                        have vh_10831 := h_10831.2
                        refine lv_iconst (v := 5) hx hb dX12_nextToken_392 (by decide) ?_
                        exact K_10815 _ _ _ (rg_w h_10831 (by decide)) hG hP hD hS (lv_sub hl [] rfl)
                      · have tc_10832 : (x_10491).toInt = 60 := congrArg Int32.toInt c_10829
                        have h_10833 : rg x_10491 60 60 := rg_and h_10779 (rg_of_eq c_10829 (rg_k (60 : Int32) 60 rfl)) (by decide)
                        have uh_10833 := h_10833.1
                        have vh_10833 := h_10833.2
                        refine lv_iconst (v := 4) hx hb dX12_nextToken_388 (by decide) ?_
                        refine lv_goto (tgt := 393) hx hb dX12_nextToken_389 (by decide) ?_
                        exact K_10822 _ _ _ (rg_w h_10833 (by decide)) hG hP hD hS (lv_sub hl [] rfl)
                  refine lv_icmp_eq (tgt := 358) hx hb dX12_nextToken_349 (by decide) (fun c_10834 => ?_) (fun c_10834 => ?_)
                  · have tc_10835 : (x_10491).toInt = 60 := congrArg Int32.toInt c_10834
                    have h_10836 : rg x_10491 60 60 := rg_and h_10501 (rg_of_eq c_10834 (rg_k (60 : Int32) 60 rfl)) (by decide)
                    have uh_10836 := h_10836.1
                    have vh_10836 := h_10836.2
                    exact K_10777 _ _ _ (rg_w h_10836 (by decide)) hG hP hD hS (lv_sub hl [0, 1] rfl)
                  · have tc_10837 : (x_10491).toInt ≠ 60 := fun q => c_10834 (Int32.toInt_inj.mp q)
                    refine lv_iload_n hx hb dX12_nextToken_352 rfl (lv_at hl 1 rfl) ?_
                    refine lv_bipush (v := 62) hx hb dX12_nextToken_353 (by decide) ?_
                    refine lv_icmp_ne (tgt := 396) hx hb dX12_nextToken_355 (by decide) (fun c_10838 => ?_) (fun c_10838 => ?_)
                    · have tc_10839 : (x_10491).toInt ≠ 62 := fun q => c_10838 (Int32.toInt_inj.mp q)
                      subst hQ
                      exact W.vret hx hb hr (fun t1 ht hW => ⟨⟨(σ, I_10729, J, ri, rj, rq), rfl, ⟨I_10729, J, rfl, hG⟩, by rw [ht]; exact hP, va_K.moved hW.alike hK, hD⟩, hS.F ht⟩) hS.2.2 dX12_nextToken_396
                    · have tc_10840 : (x_10491).toInt = 62 := congrArg Int32.toInt c_10838
                      have h_10841 : rg x_10491 62 62 := rg_and h_10501 (rg_of_eq c_10838 (rg_k (62 : Int32) 62 rfl)) (by decide)
                      have uh_10841 := h_10841.1
                      have vh_10841 := h_10841.2
                      exact K_10777 _ _ _ (rg_w h_10841 (by decide)) hG hP hD hS (lv_sub hl [0, 1] rfl)
                refine lv_if_eq (tgt := 342) hx hb dX12_nextToken_335 (by decide) (fun c_10842 => ?_) (fun c_10842 => absurd c_10842 (by decide))
                refine lv_iconst (v := 3) hx hb dX12_nextToken_342 (by decide) ?_
                exact K_10728 _ _ _ hG hP hD hS (lv_sub hl [1, 2] rfl)
              have K_10843 : ∀  (H : Heap) (locs : List Loc) (ls : Array Slot), rg (x_10491) 35 62 → GM [392, 391, 393] tg σ I ri I_10525 ri rq → va_P D vwCl (pq_P t σ (I_10525, J, ri, rj, rq)) H → va_D A (pq_P t σ (I_10525, J, ri, rj, rq)) → va_S A s.heap H locs → lv_has ls 3 [(0, .ref this), (1, .int x_10491)] → W p l e ({ frames := 2, cells := 0, slots := 0, locals := 42 } : Room) s m (List.toArray ([.ref this] : List Value)) below meth c H locs 0 0 Q (F0 m 332 ls [.int 1]) := by
                intro H locs ls h_10845 hG hP hD hS hl
                have uh_10845 := h_10845.1
                have vh_10845 := h_10845.2
                refine lv_istore_n (lv' := [(2, .int 1), (0, .ref this), (1, .int x_10491)]) hx hb dX12_nextToken_332 rfl hl (by decide) rfl (fun ls hl => ?_)
                refine lv_aload_n hx hb dX12_nextToken_333 rfl (lv_at hl 1 rfl) ?_
                refine lv_iload_n hx hb dX12_nextToken_334 rfl (lv_at hl 0 rfl) ?_
                have K_10896 : ∀  (H : Heap) (locs : List Loc) (ls : Array Slot), GM [392, 391, 393] tg σ I ri I_10525 ri rq → va_P D vwCl (pq_P t σ (I_10525, J, ri, rj, rq)) H → va_D A (pq_P t σ (I_10525, J, ri, rj, rq)) → va_S A s.heap H locs → lv_has ls 3 [(0, .ref this), (1, .int x_10491)] → W p l e ({ frames := 2, cells := 0, slots := 0, locals := 42 } : Room) s m (List.toArray ([.ref this] : List Value)) below meth c H locs 0 0 Q (F0 m 343 ls [.int x_10491, .ref this]) := by
                  intro H locs ls hG hP hD hS hl
                  refine pp_i (v := x_10491) (ty := .int) (C := RX12) (T := TX12) (N := 31) hx hb hts (tw_i inlX12) tyX12 tyX12_ok nmX12 hown hK hP hD hS hL_this hK_this (by decide) rfl 9 393 (by decide) (hts _ (tw_c tw_831)) rfl (by decide +kernel) rfl rfl (Nat.le_of_ble_eq_true rfl) (ps_393 _ _ _ _ _) dX12_nextToken_343 (fun I_10897 H locs eI_10897 hP hD hS => ?_)
                  have hG := GM.wI hG 393 rfl eI_10897 (rg_w h_10845 (by decide)) (by decide)
                  have tt_10898 : (I_10897 391 this).toInt = (I_10525 391 this).toInt := by rw [eI_10897, pq_uf _ _ _ (by decide)]
                  have tt_10899 : (I_10897 388 this).toInt = (I_10525 388 this).toInt := by rw [eI_10897, pq_uf _ _ _ (by decide)]
                  have tt_10900 : (I_10897 392 this).toInt = (I_10525 392 this).toInt := by rw [eI_10897, pq_uf _ _ _ (by decide)]
                  refine lv_iload_n hx hb dX12_nextToken_346 rfl (lv_at hl 1 rfl) ?_
                  refine lv_bipush (v := 60) hx hb dX12_nextToken_347 (by decide) ?_
                  have K_10946 : ∀  (H : Heap) (locs : List Loc) (ls : Array Slot), rg (x_10491) 60 62 → GM [392, 391, 393] tg σ I ri I_10897 ri rq → va_P D vwCl (pq_P t σ (I_10897, J, ri, rj, rq)) H → va_D A (pq_P t σ (I_10897, J, ri, rj, rq)) → va_S A s.heap H locs → lv_has ls 3 [(0, .ref this), (1, .int x_10491)] → W p l e ({ frames := 2, cells := 0, slots := 0, locals := 42 } : Room) s m (List.toArray ([.ref this] : List Value)) below meth c H locs 0 0 Q (F0 m 358 ls []) := by
                    intro H locs ls h_10948 hG hP hD hS hl
                    have uh_10948 := h_10948.1
                    have vh_10948 := h_10948.2
                    refine lv_aload_n hx hb dX12_nextToken_358 rfl (lv_at hl 0 rfl) ?_
                    refine lv_aload_n hx hb dX12_nextToken_359 rfl (lv_at hl 0 rfl) ?_
                    refine pg_f (v := .int (I_10897 391 this)) (C := RX12) (T := TX12) (N := 31) hx hb hts (tw_i inlX12) hown hK hP hL_this hK_this (by decide) rfl 7 (by decide) (hts _ (tw_c tw_830)) rfl dX12_nextToken_360 ?_
                    have h_10949 : rg (I_10897 391 this) 1 300 := (by rw [eI_10897, pq_uf _ _ _ (by decide)]; exact (by rw [eI_10525, pq_us]; exact h_10524))
                    have uh_10949 := h_10949.1
                    have vh_10949 := h_10949.2
                    refine pk_i (va_runV (As := [.int (I_10897 391 this)]) (rest := []) ⟨hx, hb, hml, hown, hts⟩ (s_X12_see l D t σ I_10897 J ri rj rq H.size tg hSH hG.1 this (I_10897 391 this) hL_this hK_this (rg_w h_10949 (by decide))) (cwV 1 hts (tw_V tw_839 tw_840 tw_841 tw_5 tw_842) rfl rfl rfl (by decide +kernel) ⟨Nat.le_of_ble_eq_true rfl, Nat.le_of_ble_eq_true rfl⟩) ⟨pq_blind, pq_recv hK hP hL_this hK_this (by decide) rfl, pq_pre hK hN hP hD⟩ rfl rfl hl.1 rfl (lv_room (Nat.le_of_ble_eq_true rfl)) dX12_nextToken_363 ⟨Nat.le_of_ble_eq_true rfl, Nat.le_of_ble_eq_true rfl⟩) hD hS hA (fun x_10950 σ1 μ1 H locs hw_10951 hP hD hS => ?_)
                    obtain ⟨hu_10952, hp_10955, hr_10954⟩ := hw_10951
                    obtain ⟨hu_10952a, hu_10952b⟩ := Prod.mk.inj hu_10952
                    rw [hu_10952a, hu_10952b] at hP hD
                    have tt_10956 := hp_10955
                    have tt_10957 := (GM.rI hG 388 (a := this) (lo := 0) (hi := 300) rfl).2
                    refine lv_bipush (v := 61) hx hb dX12_nextToken_366 (by decide) ?_
                    refine lv_icmp_ne (tgt := 396) hx hb dX12_nextToken_368 (by decide) (fun c_10958 => ?_) (fun c_10958 => ?_)
                    · have tc_10959 : (x_10950).toInt ≠ 61 := fun q => c_10958 (Int32.toInt_inj.mp q)
                      subst hQ
                      exact W.vret hx hb hr (fun t1 ht hW => ⟨⟨(σ, I_10897, J, ri, rj, rq), rfl, ⟨I_10897, J, rfl, hG⟩, by rw [ht]; exact hP, va_K.moved hW.alike hK, hD⟩, hS.F ht⟩) hS.2.2 dX12_nextToken_396
                    · have tc_10960 : (x_10950).toInt = 61 := congrArg Int32.toInt c_10958
                      have h_10961 : rg x_10950 61 61 := rg_and hr_10954 (rg_of_eq c_10958 (rg_k (61 : Int32) 61 rfl)) (by decide)
                      have uh_10961 := h_10961.1
                      have vh_10961 := h_10961.2
                      refine lv_aload_n hx hb dX12_nextToken_371 rfl (lv_at hl 0 rfl) ?_
                      refine lv_dup hx hb dX12_nextToken_372 rfl ?_
                      refine pg_f (v := .int (I_10897 391 this)) (C := RX12) (T := TX12) (N := 31) hx hb hts (tw_i inlX12) hown hK hP hL_this hK_this (by decide) rfl 7 (by decide) (hts _ (tw_c tw_830)) rfl dX12_nextToken_373 ?_
                      refine lv_iconst (v := 1) hx hb dX12_nextToken_376 (by decide) ?_
                      have h_10962 : rg (I_10897 391 this) 0 299 := ⟨by omega, by omega⟩
                      have uh_10962 := h_10962.1
                      have vh_10962 := h_10962.2
                      refine lv_iadd hx hb dX12_nextToken_377 ?_
                      refine lv_topi (fun x_10963 ex_10963 => ?_)
                      have h_10964 : rg x_10963 1 300 := rg_of_eq ex_10963 (rg_add h_10962 (rg_k (1 : Int32) 1 rfl) (by decide))
                      have uh_10964 := h_10964.1
                      have vh_10964 := h_10964.2
                      have tx_10963 : (x_10963).toInt = (I_10897 391 this).toInt + 1 := by rw [ex_10963]; exact i_add_rg (a2 := (I_10897 391 this).toInt) (b2 := 1) rfl rfl h_10962 (rg_k (1 : Int32) 1 rfl) (by decide)
                      refine pp_i (v := x_10963) (ty := .int) (C := RX12) (T := TX12) (N := 31) hx hb hts (tw_i inlX12) tyX12 tyX12_ok nmX12 hown hK hP hD hS hL_this hK_this (by decide) rfl 7 391 (by decide) (hts _ (tw_c tw_830)) rfl (by decide +kernel) rfl rfl (Nat.le_of_ble_eq_true rfl) (ps_391 _ _ _ _ _) dX12_nextToken_378 (fun I_10965 H locs eI_10965 hP hD hS => ?_)
                      have hG := GM.wI hG 391 rfl eI_10965 (rg_w h_10964 (by decide)) (by decide)
                      have tt_10966 : (I_10965 391 this).toInt = (x_10963).toInt := by rw [eI_10965, pq_us]
                      have tt_10967 : (I_10965 388 this).toInt = (I_10897 388 this).toInt := by rw [eI_10965, pq_uf _ _ _ (by decide)]
                      have tt_10968 : (I_10965 392 this).toInt = (I_10897 392 this).toInt := by rw [eI_10965, pq_uf _ _ _ (by decide)]
                      refine lv_aload_n hx hb dX12_nextToken_381 rfl (lv_at hl 0 rfl) ?_
                      refine lv_iload_n hx hb dX12_nextToken_382 rfl (lv_at hl 1 rfl) ?_
                      refine lv_bipush (v := 60) hx hb dX12_nextToken_383 (by decide) ?_
                      have K_10984 : ∀  (H : Heap) (locs : List Loc) (ls : Array Slot), rg (x_10491) 61 62 → GM [392, 391, 393] tg σ I ri I_10965 ri rq → va_P D vwCl (pq_P t σ (I_10965, J, ri, rj, rq)) H → va_D A (pq_P t σ (I_10965, J, ri, rj, rq)) → va_S A s.heap H locs → lv_has ls 3 [] → W p l e ({ frames := 2, cells := 0, slots := 0, locals := 42 } : Room) s m (List.toArray ([.ref this] : List Value)) below meth c H locs 0 0 Q (F0 m 393 ls [.int 5, .ref this]) := by
                        intro H locs ls h_10986 hG hP hD hS hl
                        have uh_10986 := h_10986.1
                        have vh_10986 := h_10986.2
                        refine pp_i (v := 5) (ty := .int) (C := RX12) (T := TX12) (N := 31) hx hb hts (tw_i inlX12) tyX12 tyX12_ok nmX12 hown hK hP hD hS hL_this hK_this (by decide) rfl 9 393 (by decide) (hts _ (tw_c tw_831)) rfl (by decide +kernel) rfl rfl (Nat.le_of_ble_eq_true rfl) (ps_393 _ _ _ _ _) dX12_nextToken_393 (fun I_10987 H locs eI_10987 hP hD hS => ?_)
                        have hG := GM.wI hG 393 rfl eI_10987 (rg_w (rg_k (5 : Int32) 5 rfl) (by decide)) (by decide)
                        have tt_10988 : (I_10987 391 this).toInt = (I_10965 391 this).toInt := by rw [eI_10987, pq_uf _ _ _ (by decide)]
                        have tt_10989 : (I_10987 388 this).toInt = (I_10965 388 this).toInt := by rw [eI_10987, pq_uf _ _ _ (by decide)]
                        have tt_10990 : (I_10987 392 this).toInt = (I_10965 392 this).toInt := by rw [eI_10987, pq_uf _ _ _ (by decide)]
                        subst hQ
                        exact W.vret hx hb hr (fun t1 ht hW => ⟨⟨(σ, I_10987, J, ri, rj, rq), rfl, ⟨I_10987, J, rfl, hG⟩, by rw [ht]; exact hP, va_K.moved hW.alike hK, hD⟩, hS.F ht⟩) hS.2.2 dX12_nextToken_396
                      have K_10991 : ∀  (H : Heap) (locs : List Loc) (ls : Array Slot), rg (x_10491) 60 60 → GM [392, 391, 393] tg σ I ri I_10965 ri rq → va_P D vwCl (pq_P t σ (I_10965, J, ri, rj, rq)) H → va_D A (pq_P t σ (I_10965, J, ri, rj, rq)) → va_S A s.heap H locs → lv_has ls 3 [] → W p l e ({ frames := 2, cells := 0, slots := 0, locals := 42 } : Room) s m (List.toArray ([.ref this] : List Value)) below meth c H locs 0 0 Q (F0 m 393 ls [.int 4, .ref this]) := by
                        intro H locs ls h_10993 hG hP hD hS hl
                        have uh_10993 := h_10993.1
                        have vh_10993 := h_10993.2
                        refine pp_i (v := 4) (ty := .int) (C := RX12) (T := TX12) (N := 31) hx hb hts (tw_i inlX12) tyX12 tyX12_ok nmX12 hown hK hP hD hS hL_this hK_this (by decide) rfl 9 393 (by decide) (hts _ (tw_c tw_831)) rfl (by decide +kernel) rfl rfl (Nat.le_of_ble_eq_true rfl) (ps_393 _ _ _ _ _) dX12_nextToken_393 (fun I_10994 H locs eI_10994 hP hD hS => ?_)
                        have hG := GM.wI hG 393 rfl eI_10994 (rg_w (rg_k (4 : Int32) 4 rfl) (by decide)) (by decide)
                        have tt_10995 : (I_10994 391 this).toInt = (I_10965 391 this).toInt := by rw [eI_10994, pq_uf _ _ _ (by decide)]
                        have tt_10996 : (I_10994 388 this).toInt = (I_10965 388 this).toInt := by rw [eI_10994, pq_uf _ _ _ (by decide)]
                        have tt_10997 : (I_10994 392 this).toInt = (I_10965 392 this).toInt := by rw [eI_10994, pq_uf _ _ _ (by decide)]
                        subst hQ
                        exact W.vret hx hb hr (fun t1 ht hW => ⟨⟨(σ, I_10994, J, ri, rj, rq), rfl, ⟨I_10994, J, rfl, hG⟩, by rw [ht]; exact hP, va_K.moved hW.alike hK, hD⟩, hS.F ht⟩) hS.2.2 dX12_nextToken_396
                      refine lv_icmp_ne (tgt := 392) hx hb dX12_nextToken_385 (by decide) (fun c_10998 => ?_) (fun c_10998 => ?_)
                      · have tc_10999 : (x_10491).toInt ≠ 60 := fun q => c_10998 (Int32.toInt_inj.mp q)
                        have h_11000 : rg x_10491 61 62 := rg_ne c_10998 h_10948 60 rfl (by decide)
                        have uh_11000 := h_11000.1
                        have vh_11000 := h_11000.2
                        refine lv_iconst (v := 5) hx hb dX12_nextToken_392 (by decide) ?_
                        exact K_10984 _ _ _ (rg_w h_11000 (by decide)) hG hP hD hS (lv_sub hl [] rfl)
                      · have tc_11001 : (x_10491).toInt = 60 := congrArg Int32.toInt c_10998
                        have h_11002 : rg x_10491 60 60 := rg_and h_10948 (rg_of_eq c_10998 (rg_k (60 : Int32) 60 rfl)) (by decide)
                        have uh_11002 := h_11002.1
                        have vh_11002 := h_11002.2
                        refine lv_iconst (v := 4) hx hb dX12_nextToken_388 (by decide) ?_
                        refine lv_goto (tgt := 393) hx hb dX12_nextToken_389 (by decide) ?_
                        exact K_10991 _ _ _ (rg_w h_11002 (by decide)) hG hP hD hS (lv_sub hl [] rfl)
                  refine lv_icmp_eq (tgt := 358) hx hb dX12_nextToken_349 (by decide) (fun c_11003 => ?_) (fun c_11003 => ?_)
                  · have tc_11004 : (x_10491).toInt = 60 := congrArg Int32.toInt c_11003
                    have h_11005 : rg x_10491 60 60 := rg_and h_10845 (rg_of_eq c_11003 (rg_k (60 : Int32) 60 rfl)) (by decide)
                    have uh_11005 := h_11005.1
                    have vh_11005 := h_11005.2
                    exact K_10946 _ _ _ (rg_w h_11005 (by decide)) hG hP hD hS (lv_sub hl [0, 1] rfl)
                  · have tc_11006 : (x_10491).toInt ≠ 60 := fun q => c_11003 (Int32.toInt_inj.mp q)
                    refine lv_iload_n hx hb dX12_nextToken_352 rfl (lv_at hl 1 rfl) ?_
                    refine lv_bipush (v := 62) hx hb dX12_nextToken_353 (by decide) ?_
                    refine lv_icmp_ne (tgt := 396) hx hb dX12_nextToken_355 (by decide) (fun c_11007 => ?_) (fun c_11007 => ?_)
                    · have tc_11008 : (x_10491).toInt ≠ 62 := fun q => c_11007 (Int32.toInt_inj.mp q)
                      have h_11009 : rg x_10491 35 61 := rg_ne c_11007 h_10845 62 rfl (by decide)
                      have uh_11009 := h_11009.1
                      have vh_11009 := h_11009.2
                      subst hQ
                      exact W.vret hx hb hr (fun t1 ht hW => ⟨⟨(σ, I_10897, J, ri, rj, rq), rfl, ⟨I_10897, J, rfl, hG⟩, by rw [ht]; exact hP, va_K.moved hW.alike hK, hD⟩, hS.F ht⟩) hS.2.2 dX12_nextToken_396
                    · have tc_11010 : (x_10491).toInt = 62 := congrArg Int32.toInt c_11007
                      have h_11011 : rg x_10491 62 62 := rg_and h_10845 (rg_of_eq c_11007 (rg_k (62 : Int32) 62 rfl)) (by decide)
                      have uh_11011 := h_11011.1
                      have vh_11011 := h_11011.2
                      exact K_10946 _ _ _ (rg_w h_11011 (by decide)) hG hP hD hS (lv_sub hl [0, 1] rfl)
                refine lv_if_eq (tgt := 342) hx hb dX12_nextToken_335 (by decide) (fun c_11012 => absurd c_11012 (by decide)) (fun c_11012 => ?_)
                refine lv_iload_n hx hb dX12_nextToken_338 rfl (lv_at hl 2 rfl) ?_
                refine lv_goto (tgt := 343) hx hb dX12_nextToken_339 (by decide) ?_
                exact K_10896 _ _ _ hG hP hD hS (lv_sub hl [1, 2] rfl)
              have K_11013 : ∀  (H : Heap) (locs : List Loc) (ls : Array Slot), rg (x_10491) 35 62 → GM [392, 391, 393] tg σ I ri I_10525 ri rq → va_P D vwCl (pq_P t σ (I_10525, J, ri, rj, rq)) H → va_D A (pq_P t σ (I_10525, J, ri, rj, rq)) → va_S A s.heap H locs → lv_has ls 3 [(0, .ref this), (1, .int x_10491)] → W p l e ({ frames := 2, cells := 0, slots := 0, locals := 42 } : Room) s m (List.toArray ([.ref this] : List Value)) below meth c H locs 0 0 Q (F0 m 327 ls []) := by
                intro H locs ls h_11015 hG hP hD hS hl
                have uh_11015 := h_11015.1
                have vh_11015 := h_11015.2
                refine lv_iconst (v := 1) hx hb dX12_nextToken_327 (by decide) ?_
                refine lv_goto (tgt := 332) hx hb dX12_nextToken_328 (by decide) ?_
                exact K_10843 _ _ _ (rg_w h_11015 (by decide)) hG hP hD hS (lv_sub hl [0, 1] rfl)
              refine lv_icmp_eq (tgt := 327) hx hb dX12_nextToken_258 (by decide) (fun c_11016 => ?_) (fun c_11016 => ?_)
              · have tc_11017 : (x_10491).toInt = 60 := congrArg Int32.toInt c_11016
                have h_11018 : rg x_10491 60 60 := rg_and h_10501 (rg_of_eq c_11016 (rg_k (60 : Int32) 60 rfl)) (by decide)
                have uh_11018 := h_11018.1
                have vh_11018 := h_11018.2
                exact K_11013 _ _ _ (rg_w h_11018 (by decide)) hG hP hD hS (lv_sub hl [1, 0] rfl)
              · have tc_11019 : (x_10491).toInt ≠ 60 := fun q => c_11016 (Int32.toInt_inj.mp q)
                refine lv_iload_n hx hb dX12_nextToken_261 rfl (lv_at hl 0 rfl) ?_
                refine lv_bipush (v := 62) hx hb dX12_nextToken_262 (by decide) ?_
                refine lv_icmp_eq (tgt := 327) hx hb dX12_nextToken_264 (by decide) (fun c_11020 => ?_) (fun c_11020 => ?_)
                · have tc_11021 : (x_10491).toInt = 62 := congrArg Int32.toInt c_11020
                  have h_11022 : rg x_10491 62 62 := rg_and h_10501 (rg_of_eq c_11020 (rg_k (62 : Int32) 62 rfl)) (by decide)
                  have uh_11022 := h_11022.1
                  have vh_11022 := h_11022.2
                  exact K_11013 _ _ _ (rg_w h_11022 (by decide)) hG hP hD hS (lv_sub hl [1, 0] rfl)
                · have tc_11023 : (x_10491).toInt ≠ 62 := fun q => c_11020 (Int32.toInt_inj.mp q)
                  refine lv_iload_n hx hb dX12_nextToken_267 rfl (lv_at hl 0 rfl) ?_
                  refine lv_bipush (v := 61) hx hb dX12_nextToken_268 (by decide) ?_
                  refine lv_icmp_eq (tgt := 327) hx hb dX12_nextToken_270 (by decide) (fun c_11024 => ?_) (fun c_11024 => ?_)
                  · have tc_11025 : (x_10491).toInt = 61 := congrArg Int32.toInt c_11024
                    have h_11026 : rg x_10491 61 61 := rg_and h_10501 (rg_of_eq c_11024 (rg_k (61 : Int32) 61 rfl)) (by decide)
                    have uh_11026 := h_11026.1
                    have vh_11026 := h_11026.2
                    exact K_11013 _ _ _ (rg_w h_11026 (by decide)) hG hP hD hS (lv_sub hl [1, 0] rfl)
                  · have tc_11027 : (x_10491).toInt ≠ 61 := fun q => c_11024 (Int32.toInt_inj.mp q)
                    refine lv_iload_n hx hb dX12_nextToken_273 rfl (lv_at hl 0 rfl) ?_
                    refine lv_bipush (v := 35) hx hb dX12_nextToken_274 (by decide) ?_
                    refine lv_icmp_eq (tgt := 327) hx hb dX12_nextToken_276 (by decide) (fun c_11028 => ?_) (fun c_11028 => ?_)
                    · have tc_11029 : (x_10491).toInt = 35 := congrArg Int32.toInt c_11028
                      have h_11030 : rg x_10491 35 35 := rg_and h_10501 (rg_of_eq c_11028 (rg_k (35 : Int32) 35 rfl)) (by decide)
                      have uh_11030 := h_11030.1
                      have vh_11030 := h_11030.2
                      exact K_11013 _ _ _ (rg_w h_11030 (by decide)) hG hP hD hS (lv_sub hl [1, 0] rfl)
                    · have tc_11031 : (x_10491).toInt ≠ 35 := fun q => c_11028 (Int32.toInt_inj.mp q)
                      refine lv_iload_n hx hb dX12_nextToken_279 rfl (lv_at hl 0 rfl) ?_
                      refine lv_bipush (v := 43) hx hb dX12_nextToken_280 (by decide) ?_
                      refine lv_icmp_eq (tgt := 327) hx hb dX12_nextToken_282 (by decide) (fun c_11032 => ?_) (fun c_11032 => ?_)
                      · have tc_11033 : (x_10491).toInt = 43 := congrArg Int32.toInt c_11032
                        have h_11034 : rg x_10491 43 43 := rg_and h_10501 (rg_of_eq c_11032 (rg_k (43 : Int32) 43 rfl)) (by decide)
                        have uh_11034 := h_11034.1
                        have vh_11034 := h_11034.2
                        exact K_11013 _ _ _ (rg_w h_11034 (by decide)) hG hP hD hS (lv_sub hl [1, 0] rfl)
                      · have tc_11035 : (x_10491).toInt ≠ 43 := fun q => c_11032 (Int32.toInt_inj.mp q)
                        refine lv_iload_n hx hb dX12_nextToken_285 rfl (lv_at hl 0 rfl) ?_
                        refine lv_bipush (v := 45) hx hb dX12_nextToken_286 (by decide) ?_
                        refine lv_icmp_eq (tgt := 327) hx hb dX12_nextToken_288 (by decide) (fun c_11036 => ?_) (fun c_11036 => ?_)
                        · have tc_11037 : (x_10491).toInt = 45 := congrArg Int32.toInt c_11036
                          have h_11038 : rg x_10491 45 45 := rg_and h_10501 (rg_of_eq c_11036 (rg_k (45 : Int32) 45 rfl)) (by decide)
                          have uh_11038 := h_11038.1
                          have vh_11038 := h_11038.2
                          exact K_11013 _ _ _ (rg_w h_11038 (by decide)) hG hP hD hS (lv_sub hl [1, 0] rfl)
                        · have tc_11039 : (x_10491).toInt ≠ 45 := fun q => c_11036 (Int32.toInt_inj.mp q)
                          refine lv_iload_n hx hb dX12_nextToken_291 rfl (lv_at hl 0 rfl) ?_
                          refine lv_bipush (v := 42) hx hb dX12_nextToken_292 (by decide) ?_
                          refine lv_icmp_eq (tgt := 327) hx hb dX12_nextToken_294 (by decide) (fun c_11040 => ?_) (fun c_11040 => ?_)
                          · have tc_11041 : (x_10491).toInt = 42 := congrArg Int32.toInt c_11040
                            have h_11042 : rg x_10491 42 42 := rg_and h_10501 (rg_of_eq c_11040 (rg_k (42 : Int32) 42 rfl)) (by decide)
                            have uh_11042 := h_11042.1
                            have vh_11042 := h_11042.2
                            exact K_11013 _ _ _ (rg_w h_11042 (by decide)) hG hP hD hS (lv_sub hl [1, 0] rfl)
                          · have tc_11043 : (x_10491).toInt ≠ 42 := fun q => c_11040 (Int32.toInt_inj.mp q)
                            refine lv_iload_n hx hb dX12_nextToken_297 rfl (lv_at hl 0 rfl) ?_
                            refine lv_bipush (v := 47) hx hb dX12_nextToken_298 (by decide) ?_
                            refine lv_icmp_eq (tgt := 327) hx hb dX12_nextToken_300 (by decide) (fun c_11044 => ?_) (fun c_11044 => ?_)
                            · have tc_11045 : (x_10491).toInt = 47 := congrArg Int32.toInt c_11044
                              have h_11046 : rg x_10491 47 47 := rg_and h_10501 (rg_of_eq c_11044 (rg_k (47 : Int32) 47 rfl)) (by decide)
                              have uh_11046 := h_11046.1
                              have vh_11046 := h_11046.2
                              exact K_11013 _ _ _ (rg_w h_11046 (by decide)) hG hP hD hS (lv_sub hl [1, 0] rfl)
                            · have tc_11047 : (x_10491).toInt ≠ 47 := fun q => c_11044 (Int32.toInt_inj.mp q)
                              refine lv_iload_n hx hb dX12_nextToken_303 rfl (lv_at hl 0 rfl) ?_
                              refine lv_bipush (v := 40) hx hb dX12_nextToken_304 (by decide) ?_
                              refine lv_icmp_eq (tgt := 327) hx hb dX12_nextToken_306 (by decide) (fun c_11048 => ?_) (fun c_11048 => ?_)
                              · have tc_11049 : (x_10491).toInt = 40 := congrArg Int32.toInt c_11048
                                have h_11050 : rg x_10491 40 40 := rg_and h_10501 (rg_of_eq c_11048 (rg_k (40 : Int32) 40 rfl)) (by decide)
                                have uh_11050 := h_11050.1
                                have vh_11050 := h_11050.2
                                exact K_11013 _ _ _ (rg_w h_11050 (by decide)) hG hP hD hS (lv_sub hl [1, 0] rfl)
                              · have tc_11051 : (x_10491).toInt ≠ 40 := fun q => c_11048 (Int32.toInt_inj.mp q)
                                refine lv_iload_n hx hb dX12_nextToken_309 rfl (lv_at hl 0 rfl) ?_
                                refine lv_bipush (v := 41) hx hb dX12_nextToken_310 (by decide) ?_
                                refine lv_icmp_eq (tgt := 327) hx hb dX12_nextToken_312 (by decide) (fun c_11052 => ?_) (fun c_11052 => ?_)
                                · have tc_11053 : (x_10491).toInt = 41 := congrArg Int32.toInt c_11052
                                  have h_11054 : rg x_10491 41 41 := rg_and h_10501 (rg_of_eq c_11052 (rg_k (41 : Int32) 41 rfl)) (by decide)
                                  have uh_11054 := h_11054.1
                                  have vh_11054 := h_11054.2
                                  exact K_11013 _ _ _ (rg_w h_11054 (by decide)) hG hP hD hS (lv_sub hl [1, 0] rfl)
                                · have tc_11055 : (x_10491).toInt ≠ 41 := fun q => c_11052 (Int32.toInt_inj.mp q)
                                  refine lv_iload_n hx hb dX12_nextToken_315 rfl (lv_at hl 0 rfl) ?_
                                  refine lv_bipush (v := 44) hx hb dX12_nextToken_316 (by decide) ?_
                                  refine lv_icmp_eq (tgt := 327) hx hb dX12_nextToken_318 (by decide) (fun c_11056 => ?_) (fun c_11056 => ?_)
                                  · have tc_11057 : (x_10491).toInt = 44 := congrArg Int32.toInt c_11056
                                    have h_11058 : rg x_10491 44 44 := rg_and h_10501 (rg_of_eq c_11056 (rg_k (44 : Int32) 44 rfl)) (by decide)
                                    have uh_11058 := h_11058.1
                                    have vh_11058 := h_11058.2
                                    exact K_11013 _ _ _ (rg_w h_11058 (by decide)) hG hP hD hS (lv_sub hl [1, 0] rfl)
                                  · have tc_11059 : (x_10491).toInt ≠ 44 := fun q => c_11056 (Int32.toInt_inj.mp q)
                                    refine lv_iload_n hx hb dX12_nextToken_321 rfl (lv_at hl 0 rfl) ?_
                                    refine lv_bipush (v := 59) hx hb dX12_nextToken_322 (by decide) ?_
                                    refine lv_icmp_ne (tgt := 331) hx hb dX12_nextToken_324 (by decide) (fun c_11060 => ?_) (fun c_11060 => ?_)
                                    · have tc_11061 : (x_10491).toInt ≠ 59 := fun q => c_11060 (Int32.toInt_inj.mp q)
                                      refine lv_iconst (v := 0) hx hb dX12_nextToken_331 (by decide) ?_
                                      exact K_10678 _ _ _ hG hP hD hS (lv_sub hl [1, 0] rfl)
                                    · have tc_11062 : (x_10491).toInt = 59 := congrArg Int32.toInt c_11060
                                      have h_11063 : rg x_10491 59 59 := rg_and h_10501 (rg_of_eq c_11060 (rg_k (59 : Int32) 59 rfl)) (by decide)
                                      have uh_11063 := h_11063.1
                                      have vh_11063 := h_11063.2
                                      exact K_11013 _ _ _ (rg_w h_11063 (by decide)) hG hP hD hS (lv_sub hl [1, 0] rfl)
            · have f_11064 := (hr_10516.resolve_right (fun q => c_10518 q.1)).2
              have uf_11064 := f_11064.1
              have vf_11064 := f_11064.2
              have tc_11065 : (x_10512).toInt ≠ 0 := fun q => c_10518 (Int32.toInt_inj.mp q)
              have h_11066 : rg x_10512 1 1 := rg_ne c_10518 h_10517 0 rfl (by decide)
              have uh_11066 := h_11066.1
              have vh_11066 := h_11066.2
              refine lv_aload_n hx hb dX12_nextToken_151 rfl (lv_at hl 1 rfl) ?_
              refine lv_iconst (v := 2) hx hb dX12_nextToken_152 (by decide) ?_
              refine pp_i (v := 2) (ty := .int) (C := RX12) (T := TX12) (N := 31) hx hb hts (tw_i inlX12) tyX12 tyX12_ok nmX12 hown hK hP hD hS hL_this hK_this (by decide) rfl 9 393 (by decide) (hts _ (tw_c tw_831)) rfl (by decide +kernel) rfl rfl (Nat.le_of_ble_eq_true rfl) (ps_393 _ _ _ _ _) dX12_nextToken_153 (fun I_11067 H locs eI_11067 hP hD hS => ?_)
              have hG := GM.wI hG 393 rfl eI_11067 (rg_w (rg_k (2 : Int32) 2 rfl) (by decide)) (by decide)
              have tt_11068 : (I_11067 391 this).toInt = (I_10486 391 this).toInt := by rw [eI_11067, pq_uf _ _ _ (by decide)]
              have tt_11069 : (I_11067 388 this).toInt = (I_10486 388 this).toInt := by rw [eI_11067, pq_uf _ _ _ (by decide)]
              have tt_11070 : (I_11067 392 this).toInt = (I_10486 392 this).toInt := by rw [eI_11067, pq_uf _ _ _ (by decide)]
              refine lv_aload_n hx hb dX12_nextToken_156 rfl (lv_at hl 1 rfl) ?_
              refine lv_lconst (v := 0) hx hb dX12_nextToken_157 (by decide) ?_
              refine pp_l (v := 0) (C := RX12) (T := TX12) (N := 31) hx hb hts (tw_i inlX12) tyX12 tyX12_ok nmX12 hown hK hP hD hS hL_this hK_this (by decide) rfl 11 395 (by decide) (hts _ (tw_c tw_838)) rfl (by decide +kernel) (Nat.le_of_ble_eq_true rfl) (ps_395 _ _ _ _ _) dX12_nextToken_158 (fun J_11071 H locs eJ_11071 hP hD hS => ?_)
              have L_11316 : ∀ (n_11315 : Nat) (I_11253 : Nat → Nat → Int32) (J_11254 : Nat → Nat → Int64) (H : Heap) (locs : List Loc) (ls : Array Slot), (300 - (I_11253 391 this).toInt).toNat < n_11315 → GM [392, 391, 393] tg σ I ri I_11253 ri rq → va_P D vwCl (pq_P t σ (I_11253, J_11254, ri, rj, rq)) H → va_D A (pq_P t σ (I_11253, J_11254, ri, rj, rq)) → va_S A s.heap H locs → lv_has ls 3 [(0, .ref this)] → W p l e ({ frames := 2, cells := 0, slots := 0, locals := 42 } : Room) s m (List.toArray ([.ref this] : List Value)) below meth c H locs 0 0 Q (F0 m 161 ls []) := by
                intro n_11315
                induction n_11315 with
                | zero => intro I_11253 J_11254 H locs ls hm_11314 hG hP hD hS hl; exact absurd hm_11314 (Nat.not_lt_zero _)
                | succ n_11315 ih_11317 =>
                  intro I_11253 J_11254 H locs ls hm_11314 hG hP hD hS hl
                  refine lv_aload_n hx hb dX12_nextToken_161 rfl (lv_at hl 0 rfl) ?_
                  refine lv_aload_n hx hb dX12_nextToken_162 rfl (lv_at hl 0 rfl) ?_
                  refine pg_f (v := .int (I_11253 391 this)) (C := RX12) (T := TX12) (N := 31) hx hb hts (tw_i inlX12) hown hK hP hL_this hK_this (by decide) rfl 7 (by decide) (hts _ (tw_c tw_830)) rfl dX12_nextToken_163 ?_
                  have h_11318 : rg (I_11253 391 this) 0 300 := GM.rI hG 391 rfl
                  have uh_11318 := h_11318.1
                  have vh_11318 := h_11318.2
                  refine pk_i (va_runV (As := [.int (I_11253 391 this)]) (rest := []) ⟨hx, hb, hml, hown, hts⟩ (s_X12_see l D t σ I_11253 J_11254 ri rj rq H.size tg hSH hG.1 this (I_11253 391 this) hL_this hK_this (rg_w h_11318 (by decide))) (cwV 1 hts (tw_V tw_839 tw_840 tw_841 tw_5 tw_842) rfl rfl rfl (by decide +kernel) ⟨Nat.le_of_ble_eq_true rfl, Nat.le_of_ble_eq_true rfl⟩) ⟨pq_blind, pq_recv hK hP hL_this hK_this (by decide) rfl, pq_pre hK hN hP hD⟩ rfl rfl hl.1 rfl (lv_room (Nat.le_of_ble_eq_true rfl)) dX12_nextToken_166 ⟨Nat.le_of_ble_eq_true rfl, Nat.le_of_ble_eq_true rfl⟩) hD hS hA (fun x_11319 σ1 μ1 H locs hw_11320 hP hD hS => ?_)
                  obtain ⟨hu_11321, hp_11324, hr_11323⟩ := hw_11320
                  obtain ⟨hu_11321a, hu_11321b⟩ := Prod.mk.inj hu_11321
                  rw [hu_11321a, hu_11321b] at hP hD
                  have tt_11325 := hp_11324
                  have tt_11326 := (GM.rI hG 388 (a := this) (lo := 0) (hi := 300) rfl).2
                  refine pk_i (va_runS (As := [.int x_11319]) (rest := []) ⟨hx, hb, hml, hown, hts⟩ (s_X12_isLetter l D t σ I_11253 J_11254 ri rj rq H.size tg hSH hG.1 x_11319) (va_cwS 1 hts (tw_S tw_846 tw_847 tw_5 tw_848) rfl rfl rfl (by decide +kernel) ⟨Nat.le_of_ble_eq_true rfl, Nat.le_of_ble_eq_true rfl⟩) ⟨pq_blind, pq_pre hK hN hP hD⟩ rfl rfl hl.1 rfl (lv_room (Nat.le_of_ble_eq_true rfl)) dX12_nextToken_169 ⟨Nat.le_of_ble_eq_true rfl, Nat.le_of_ble_eq_true rfl⟩) hD hS hA (fun x_11327 σ1 μ1 H locs hw_11328 hP hD hS => ?_)
                  obtain ⟨hu_11329, hr_11331⟩ := hw_11328
                  obtain ⟨hu_11329a, hu_11329b⟩ := Prod.mk.inj hu_11329
                  rw [hu_11329a, hu_11329b] at hP hD
                  have h_11332 : rg x_11327 0 1 := by rcases hr_11331 with ⟨q, -⟩ | ⟨q, -⟩ <;> rw [q] <;> exact ⟨by decide, by decide⟩
                  have uh_11332 := h_11332.1
                  have vh_11332 := h_11332.2
                  refine lv_if_eq (tgt := 223) hx hb dX12_nextToken_172 (by decide) (fun c_11333 => ?_) (fun c_11333 => ?_)
                  · have f_11334 := (hr_11331.resolve_left (fun q => absurd (q.1.symm.trans c_11333) (by decide))).2
                    have tc_11335 : (x_11327).toInt = 0 := congrArg Int32.toInt c_11333
                    have h_11336 : rg x_11327 0 0 := rg_and h_11332 (rg_of_eq c_11333 (rg_k (0 : Int32) 0 rfl)) (by decide)
                    have uh_11336 := h_11336.1
                    have vh_11336 := h_11336.2
                    refine lv_aload_n hx hb dX12_nextToken_223 rfl (lv_at hl 0 rfl) ?_
                    refine pg_f (v := .int (I_11253 391 this)) (C := RX12) (T := TX12) (N := 31) hx hb hts (tw_i inlX12) hown hK hP hL_this hK_this (by decide) rfl 7 (by decide) (hts _ (tw_c tw_830)) rfl dX12_nextToken_224 ?_
                    refine lv_aload_n hx hb dX12_nextToken_227 rfl (lv_at hl 0 rfl) ?_
                    refine pg_f (v := .int (I_11253 392 this)) (C := RX12) (T := TX12) (N := 31) hx hb hts (tw_i inlX12) hown hK hP hL_this hK_this (by decide) rfl 8 (by decide) (hts _ (tw_c tw_820)) rfl dX12_nextToken_228 ?_
                    have h_11337 : rg (I_11253 392 this) 0 300 := GM.rI hG 392 rfl
                    have uh_11337 := h_11337.1
                    have vh_11337 := h_11337.2
                    refine lv_isub hx hb dX12_nextToken_231 ?_
                    refine lv_topi (fun x_11338 ex_11338 => ?_)
                    have h_11339 : rg x_11338 (-300) 300 := rg_of_eq ex_11338 (rg_sub h_11318 h_11337 (by decide))
                    have uh_11339 := h_11339.1
                    have vh_11339 := h_11339.2
                    have tx_11338 : (x_11338).toInt = (I_11253 391 this).toInt - (I_11253 392 this).toInt := by rw [ex_11338]; exact i_sub_rg (a2 := (I_11253 391 this).toInt) (b2 := (I_11253 392 this).toInt) rfl rfl h_11318 h_11337 (by decide)
                    refine lv_bipush (v := 7) hx hb dX12_nextToken_232 (by decide) ?_
                    refine lv_icmp_le (tgt := 396) hx hb dX12_nextToken_234 (by decide) (fun c_11340 => ?_) (fun c_11340 => ?_)
                    · have tc_11341 : (x_11338).toInt ≤ 7 := Int32.le_iff_toInt_le.mp c_11340
                      have h_11342 : rg x_11338 (-300) 7 := rg_le1 c_11340 h_11339 (rg_k (7 : Int32) 7 rfl) (by decide)
                      have uh_11342 := h_11342.1
                      have vh_11342 := h_11342.2
                      subst hQ
                      exact W.vret hx hb hr (fun t1 ht hW => ⟨⟨(σ, I_11253, J_11254, ri, rj, rq), rfl, ⟨I_11253, J_11254, rfl, hG⟩, by rw [ht]; exact hP, va_K.moved hW.alike hK, hD⟩, hS.F ht⟩) hS.2.2 dX12_nextToken_396
                    · have tc_11343 : 7 < (x_11338).toInt := Int32.lt_iff_toInt_lt.mp (nle c_11340)
                      have h_11344 : rg x_11338 8 300 := rg_lt2 (nle c_11340) (rg_k (7 : Int32) 7 rfl) h_11339 (by decide)
                      have uh_11344 := h_11344.1
                      have vh_11344 := h_11344.2
                      refine lv_aload_n hx hb dX12_nextToken_237 rfl (lv_at hl 0 rfl) ?_
                      refine lv_lconst (v := 0) hx hb dX12_nextToken_238 (by decide) ?_
                      refine pp_l (v := 0) (C := RX12) (T := TX12) (N := 31) hx hb hts (tw_i inlX12) tyX12 tyX12_ok nmX12 hown hK hP hD hS hL_this hK_this (by decide) rfl 11 395 (by decide) (hts _ (tw_c tw_838)) rfl (by decide +kernel) (Nat.le_of_ble_eq_true rfl) (ps_395 _ _ _ _ _) dX12_nextToken_239 (fun J_11345 H locs eJ_11345 hP hD hS => ?_)
                      refine lv_goto (tgt := 396) hx hb dX12_nextToken_242 (by decide) ?_
                      subst hQ
                      exact W.vret hx hb hr (fun t1 ht hW => ⟨⟨(σ, I_11253, J_11345, ri, rj, rq), rfl, ⟨I_11253, J_11345, rfl, hG⟩, by rw [ht]; exact hP, va_K.moved hW.alike hK, hD⟩, hS.F ht⟩) hS.2.2 dX12_nextToken_396
                  · have f_11346 := (hr_11331.resolve_right (fun q => c_11333 q.1)).2
                    have uf_11346 := f_11346.1
                    have vf_11346 := f_11346.2
                    have tc_11347 : (x_11327).toInt ≠ 0 := fun q => c_11333 (Int32.toInt_inj.mp q)
                    have h_11348 : rg x_11327 1 1 := rg_ne c_11333 h_11332 0 rfl (by decide)
                    have uh_11348 := h_11348.1
                    have vh_11348 := h_11348.2
                    refine lv_aload_n hx hb dX12_nextToken_175 rfl (lv_at hl 0 rfl) ?_
                    refine pg_f (v := .int (I_11253 391 this)) (C := RX12) (T := TX12) (N := 31) hx hb hts (tw_i inlX12) hown hK hP hL_this hK_this (by decide) rfl 7 (by decide) (hts _ (tw_c tw_830)) rfl dX12_nextToken_176 ?_
                    refine lv_aload_n hx hb dX12_nextToken_179 rfl (lv_at hl 0 rfl) ?_
                    refine pg_f (v := .int (I_11253 392 this)) (C := RX12) (T := TX12) (N := 31) hx hb hts (tw_i inlX12) hown hK hP hL_this hK_this (by decide) rfl 8 (by decide) (hts _ (tw_c tw_820)) rfl dX12_nextToken_180 ?_
                    have h_11349 : rg (I_11253 392 this) 0 300 := GM.rI hG 392 rfl
                    have uh_11349 := h_11349.1
                    have vh_11349 := h_11349.2
                    refine lv_isub hx hb dX12_nextToken_183 ?_
                    refine lv_topi (fun x_11350 ex_11350 => ?_)
                    have h_11351 : rg x_11350 (-300) 300 := rg_of_eq ex_11350 (rg_sub h_11318 h_11349 (by decide))
                    have uh_11351 := h_11351.1
                    have vh_11351 := h_11351.2
                    have tx_11350 : (x_11350).toInt = (I_11253 391 this).toInt - (I_11253 392 this).toInt := by rw [ex_11350]; exact i_sub_rg (a2 := (I_11253 391 this).toInt) (b2 := (I_11253 392 this).toInt) rfl rfl h_11318 h_11349 (by decide)
                    refine lv_bipush (v := 7) hx hb dX12_nextToken_184 (by decide) ?_
                    have K_11377 : ∀  (J_11369 : Nat → Nat → Int64) (H : Heap) (locs : List Loc) (ls : Array Slot), GM [392, 391, 393] tg σ I ri I_11253 ri rq → va_P D vwCl (pq_P t σ (I_11253, J_11369, ri, rj, rq)) H → va_D A (pq_P t σ (I_11253, J_11369, ri, rj, rq)) → va_S A s.heap H locs → lv_has ls 3 [(0, .ref this)] → W p l e ({ frames := 2, cells := 0, slots := 0, locals := 42 } : Room) s m (List.toArray ([.ref this] : List Value)) below meth c H locs 0 0 Q (F0 m 210 ls []) := by
                      intro J_11369 H locs ls hG hP hD hS hl
                      refine lv_aload_n hx hb dX12_nextToken_210 rfl (lv_at hl 0 rfl) ?_
                      refine lv_dup hx hb dX12_nextToken_211 rfl ?_
                      refine pg_f (v := .int (I_11253 391 this)) (C := RX12) (T := TX12) (N := 31) hx hb hts (tw_i inlX12) hown hK hP hL_this hK_this (by decide) rfl 7 (by decide) (hts _ (tw_c tw_830)) rfl dX12_nextToken_212 ?_
                      refine lv_iconst (v := 1) hx hb dX12_nextToken_215 (by decide) ?_
                      have h_11378 : rg (I_11253 391 this) 0 299 := ⟨by omega, by omega⟩
                      have uh_11378 := h_11378.1
                      have vh_11378 := h_11378.2
                      refine lv_iadd hx hb dX12_nextToken_216 ?_
                      refine lv_topi (fun x_11379 ex_11379 => ?_)
                      have h_11380 : rg x_11379 1 300 := rg_of_eq ex_11379 (rg_add h_11378 (rg_k (1 : Int32) 1 rfl) (by decide))
                      have uh_11380 := h_11380.1
                      have vh_11380 := h_11380.2
                      have tx_11379 : (x_11379).toInt = (I_11253 391 this).toInt + 1 := by rw [ex_11379]; exact i_add_rg (a2 := (I_11253 391 this).toInt) (b2 := 1) rfl rfl h_11378 (rg_k (1 : Int32) 1 rfl) (by decide)
                      refine pp_i (v := x_11379) (ty := .int) (C := RX12) (T := TX12) (N := 31) hx hb hts (tw_i inlX12) tyX12 tyX12_ok nmX12 hown hK hP hD hS hL_this hK_this (by decide) rfl 7 391 (by decide) (hts _ (tw_c tw_830)) rfl (by decide +kernel) rfl rfl (Nat.le_of_ble_eq_true rfl) (ps_391 _ _ _ _ _) dX12_nextToken_217 (fun I_11381 H locs eI_11381 hP hD hS => ?_)
                      have hG := GM.wI hG 391 rfl eI_11381 (rg_w h_11380 (by decide)) (by decide)
                      have tt_11382 : (I_11381 391 this).toInt = (x_11379).toInt := by rw [eI_11381, pq_us]
                      have tt_11383 : (I_11381 388 this).toInt = (I_11253 388 this).toInt := by rw [eI_11381, pq_uf _ _ _ (by decide)]
                      have tt_11384 : (I_11381 392 this).toInt = (I_11253 392 this).toInt := by rw [eI_11381, pq_uf _ _ _ (by decide)]
                      refine lv_goto (tgt := 161) hx hb dX12_nextToken_220 (by decide) ?_
                      exact ih_11317 I_11381 J_11369 _ _ _ (ms_fu_iadd hm_11314 (by rw [eI_11381]; exact pq_us _ _ _ _) ex_11379 rfl (kk := 1) rfl (by decide) h_11378 (by decide) (by decide)) hG hP hD hS (lv_sub hl [0] rfl)
                    refine lv_icmp_ge (tgt := 210) hx hb dX12_nextToken_186 (by decide) (fun c_11385 => ?_) (fun c_11385 => ?_)
                    · have tc_11386 : 7 ≤ (x_11350).toInt := Int32.le_iff_toInt_le.mp c_11385
                      have h_11387 : rg x_11350 7 300 := rg_le2 c_11385 (rg_k (7 : Int32) 7 rfl) h_11351 (by decide)
                      have uh_11387 := h_11387.1
                      have vh_11387 := h_11387.2
                      exact K_11377 J_11254 _ _ _ hG hP hD hS (lv_sub hl [0] rfl)
                    · have tc_11388 : (x_11350).toInt < 7 := Int32.lt_iff_toInt_lt.mp (nle c_11385)
                      have h_11389 : rg x_11350 (-300) 6 := rg_lt1 (nle c_11385) h_11351 (rg_k (7 : Int32) 7 rfl) (by decide)
                      have uh_11389 := h_11389.1
                      have vh_11389 := h_11389.2
                      refine lv_aload_n hx hb dX12_nextToken_189 rfl (lv_at hl 0 rfl) ?_
                      refine lv_aload_n hx hb dX12_nextToken_190 rfl (lv_at hl 0 rfl) ?_
                      refine pg_f (v := .long (J_11254 395 this)) (C := RX12) (T := TX12) (N := 31) hx hb hts (tw_i inlX12) hown hK hP hL_this hK_this (by decide) rfl 11 (by decide) (hts _ (tw_c tw_838)) rfl dX12_nextToken_191 ?_
                      refine lv_bipush (v := 8) hx hb dX12_nextToken_194 (by decide) ?_
                      refine lv_lshl hx hb dX12_nextToken_196 rfl ?_
                      refine lv_topl (fun x_11390 ex_11390 => ?_)
                      refine lv_aload_n hx hb dX12_nextToken_197 rfl (lv_at hl 0 rfl) ?_
                      refine lv_aload_n hx hb dX12_nextToken_198 rfl (lv_at hl 0 rfl) ?_
                      refine pg_f (v := .int (I_11253 391 this)) (C := RX12) (T := TX12) (N := 31) hx hb hts (tw_i inlX12) hown hK hP hL_this hK_this (by decide) rfl 7 (by decide) (hts _ (tw_c tw_830)) rfl dX12_nextToken_199 ?_
                      refine pk_i (va_runV (As := [.int (I_11253 391 this)]) (rest := [.long x_11390, .ref this]) ⟨hx, hb, hml, hown, hts⟩ (s_X12_see l D t σ I_11253 J_11254 ri rj rq H.size tg hSH hG.1 this (I_11253 391 this) hL_this hK_this (rg_w h_11318 (by decide))) (cwV 1 hts (tw_V tw_839 tw_840 tw_841 tw_5 tw_842) rfl rfl rfl (by decide +kernel) ⟨Nat.le_of_ble_eq_true rfl, Nat.le_of_ble_eq_true rfl⟩) ⟨pq_blind, pq_recv hK hP hL_this hK_this (by decide) rfl, pq_pre hK hN hP hD⟩ rfl rfl hl.1 rfl (lv_room (Nat.le_of_ble_eq_true rfl)) dX12_nextToken_202 ⟨Nat.le_of_ble_eq_true rfl, Nat.le_of_ble_eq_true rfl⟩) hD hS hA (fun x_11391 σ1 μ1 H locs hw_11392 hP hD hS => ?_)
                      obtain ⟨hu_11393, hp_11396, hr_11395⟩ := hw_11392
                      obtain ⟨hu_11393a, hu_11393b⟩ := Prod.mk.inj hu_11393
                      rw [hu_11393a, hu_11393b] at hP hD
                      have tt_11397 := hp_11396
                      have tt_11398 := (GM.rI hG 388 (a := this) (lo := 0) (hi := 300) rfl).2
                      refine lv_i2l hx hb dX12_nextToken_205 rfl ?_
                      refine lv_topl (fun x_11399 ex_11399 => ?_)
                      refine lv_lor hx hb dX12_nextToken_206 ?_
                      refine lv_topl (fun x_11400 ex_11400 => ?_)
                      refine pp_l (v := x_11400) (C := RX12) (T := TX12) (N := 31) hx hb hts (tw_i inlX12) tyX12 tyX12_ok nmX12 hown hK hP hD hS hL_this hK_this (by decide) rfl 11 395 (by decide) (hts _ (tw_c tw_838)) rfl (by decide +kernel) (Nat.le_of_ble_eq_true rfl) (ps_395 _ _ _ _ _) dX12_nextToken_207 (fun J_11401 H locs eJ_11401 hP hD hS => ?_)
                      exact K_11377 J_11401 _ _ _ hG hP hD hS (lv_sub hl [0] rfl)
              exact L_11316 _ I_11067 J_11071 _ _ _ (Nat.lt_succ_self _) hG hP hD hS (lv_sub hl [1] rfl)
          · have f_11402 := (hr_10506.resolve_right (fun q => c_10508 q.1)).2
            have uf_11402 := f_11402.1
            have vf_11402 := f_11402.2
            have tc_11403 : (x_10502).toInt ≠ 0 := fun q => c_10508 (Int32.toInt_inj.mp q)
            have h_11404 : rg x_10502 1 1 := rg_ne c_10508 h_10507 0 rfl (by decide)
            have uh_11404 := h_11404.1
            have vh_11404 := h_11404.2
            refine lv_aload_n hx hb dX12_nextToken_75 rfl (lv_at hl 1 rfl) ?_
            refine lv_iconst (v := 1) hx hb dX12_nextToken_76 (by decide) ?_
            refine pp_i (v := 1) (ty := .int) (C := RX12) (T := TX12) (N := 31) hx hb hts (tw_i inlX12) tyX12 tyX12_ok nmX12 hown hK hP hD hS hL_this hK_this (by decide) rfl 9 393 (by decide) (hts _ (tw_c tw_831)) rfl (by decide +kernel) rfl rfl (Nat.le_of_ble_eq_true rfl) (ps_393 _ _ _ _ _) dX12_nextToken_77 (fun I_11405 H locs eI_11405 hP hD hS => ?_)
            have hG := GM.wI hG 393 rfl eI_11405 (rg_w (rg_k (1 : Int32) 1 rfl) (by decide)) (by decide)
            have tt_11406 : (I_11405 391 this).toInt = (I_10486 391 this).toInt := by rw [eI_11405, pq_uf _ _ _ (by decide)]
            have tt_11407 : (I_11405 388 this).toInt = (I_10486 388 this).toInt := by rw [eI_11405, pq_uf _ _ _ (by decide)]
            have tt_11408 : (I_11405 392 this).toInt = (I_10486 392 this).toInt := by rw [eI_11405, pq_uf _ _ _ (by decide)]
            refine lv_aload_n hx hb dX12_nextToken_80 rfl (lv_at hl 1 rfl) ?_
            refine lv_iconst (v := 0) hx hb dX12_nextToken_81 (by decide) ?_
            refine pp_i (v := 0) (ty := .int) (C := RX12) (T := TX12) (N := 31) hx hb hts (tw_i inlX12) tyX12 tyX12_ok nmX12 hown hK hP hD hS hL_this hK_this (by decide) rfl 10 394 (by decide) (hts _ (tw_c tw_836)) rfl (by decide +kernel) rfl rfl (Nat.le_of_ble_eq_true rfl) (ps_394 _ _ _ _ _) dX12_nextToken_82 (fun I_11409 H locs eI_11409 hP hD hS => ?_)
            have hG := GM.wI hG 394 rfl eI_11409 (rg_w (rg_k (0 : Int32) 0 rfl) (by decide)) (by decide)
            have tt_11410 : (I_11409 391 this).toInt = (I_11405 391 this).toInt := by rw [eI_11409, pq_uf _ _ _ (by decide)]
            have tt_11411 : (I_11409 388 this).toInt = (I_11405 388 this).toInt := by rw [eI_11409, pq_uf _ _ _ (by decide)]
            have tt_11412 : (I_11409 392 this).toInt = (I_11405 392 this).toInt := by rw [eI_11409, pq_uf _ _ _ (by decide)]
            have L_11641 : ∀ (n_11640 : Nat) (I_11581 : Nat → Nat → Int32) (H : Heap) (locs : List Loc) (ls : Array Slot), (300 - (I_11581 391 this).toInt).toNat < n_11640 → GM [392, 391, 393] tg σ I ri I_11581 ri rq → va_P D vwCl (pq_P t σ (I_11581, J, ri, rj, rq)) H → va_D A (pq_P t σ (I_11581, J, ri, rj, rq)) → va_S A s.heap H locs → lv_has ls 3 [(0, .ref this)] → W p l e ({ frames := 2, cells := 0, slots := 0, locals := 42 } : Room) s m (List.toArray ([.ref this] : List Value)) below meth c H locs 0 0 Q (F0 m 85 ls []) := by
              intro n_11640
              induction n_11640 with
              | zero => intro I_11581 H locs ls hm_11639 hG hP hD hS hl; exact absurd hm_11639 (Nat.not_lt_zero _)
              | succ n_11640 ih_11642 =>
                intro I_11581 H locs ls hm_11639 hG hP hD hS hl
                refine lv_aload_n hx hb dX12_nextToken_85 rfl (lv_at hl 0 rfl) ?_
                refine lv_aload_n hx hb dX12_nextToken_86 rfl (lv_at hl 0 rfl) ?_
                refine pg_f (v := .int (I_11581 391 this)) (C := RX12) (T := TX12) (N := 31) hx hb hts (tw_i inlX12) hown hK hP hL_this hK_this (by decide) rfl 7 (by decide) (hts _ (tw_c tw_830)) rfl dX12_nextToken_87 ?_
                have h_11643 : rg (I_11581 391 this) 0 300 := GM.rI hG 391 rfl
                have uh_11643 := h_11643.1
                have vh_11643 := h_11643.2
                refine pk_i (va_runV (As := [.int (I_11581 391 this)]) (rest := []) ⟨hx, hb, hml, hown, hts⟩ (s_X12_see l D t σ I_11581 J ri rj rq H.size tg hSH hG.1 this (I_11581 391 this) hL_this hK_this (rg_w h_11643 (by decide))) (cwV 1 hts (tw_V tw_839 tw_840 tw_841 tw_5 tw_842) rfl rfl rfl (by decide +kernel) ⟨Nat.le_of_ble_eq_true rfl, Nat.le_of_ble_eq_true rfl⟩) ⟨pq_blind, pq_recv hK hP hL_this hK_this (by decide) rfl, pq_pre hK hN hP hD⟩ rfl rfl hl.1 rfl (lv_room (Nat.le_of_ble_eq_true rfl)) dX12_nextToken_90 ⟨Nat.le_of_ble_eq_true rfl, Nat.le_of_ble_eq_true rfl⟩) hD hS hA (fun x_11644 σ1 μ1 H locs hw_11645 hP hD hS => ?_)
                obtain ⟨hu_11646, hp_11649, hr_11648⟩ := hw_11645
                obtain ⟨hu_11646a, hu_11646b⟩ := Prod.mk.inj hu_11646
                rw [hu_11646a, hu_11646b] at hP hD
                have tt_11650 := hp_11649
                have tt_11651 := (GM.rI hG 388 (a := this) (lo := 0) (hi := 300) rfl).2
                refine pk_i (va_runS (As := [.int x_11644]) (rest := []) ⟨hx, hb, hml, hown, hts⟩ (s_X12_isDigit l D t σ I_11581 J ri rj rq H.size tg hSH hG.1 x_11644) (va_cwS 1 hts (tw_S tw_843 tw_844 tw_5 tw_845) rfl rfl rfl (by decide +kernel) ⟨Nat.le_of_ble_eq_true rfl, Nat.le_of_ble_eq_true rfl⟩) ⟨pq_blind, pq_pre hK hN hP hD⟩ rfl rfl hl.1 rfl (lv_room (Nat.le_of_ble_eq_true rfl)) dX12_nextToken_93 ⟨Nat.le_of_ble_eq_true rfl, Nat.le_of_ble_eq_true rfl⟩) hD hS hA (fun x_11652 σ1 μ1 H locs hw_11653 hP hD hS => ?_)
                obtain ⟨hu_11654, hr_11656⟩ := hw_11653
                obtain ⟨hu_11654a, hu_11654b⟩ := Prod.mk.inj hu_11654
                rw [hu_11654a, hu_11654b] at hP hD
                have h_11657 : rg x_11652 0 1 := by rcases hr_11656 with ⟨q, -⟩ | ⟨q, -⟩ <;> rw [q] <;> exact ⟨by decide, by decide⟩
                have uh_11657 := h_11657.1
                have vh_11657 := h_11657.2
                refine lv_if_eq (tgt := 396) hx hb dX12_nextToken_96 (by decide) (fun c_11658 => ?_) (fun c_11658 => ?_)
                · have f_11659 := (hr_11656.resolve_left (fun q => absurd (q.1.symm.trans c_11658) (by decide))).2
                  have tc_11660 : (x_11652).toInt = 0 := congrArg Int32.toInt c_11658
                  have h_11661 : rg x_11652 0 0 := rg_and h_11657 (rg_of_eq c_11658 (rg_k (0 : Int32) 0 rfl)) (by decide)
                  have uh_11661 := h_11661.1
                  have vh_11661 := h_11661.2
                  subst hQ
                  exact W.vret hx hb hr (fun t1 ht hW => ⟨⟨(σ, I_11581, J, ri, rj, rq), rfl, ⟨I_11581, J, rfl, hG⟩, by rw [ht]; exact hP, va_K.moved hW.alike hK, hD⟩, hS.F ht⟩) hS.2.2 dX12_nextToken_396
                · have f_11662 := (hr_11656.resolve_right (fun q => c_11658 q.1)).2
                  have uf_11662 := f_11662.1
                  have vf_11662 := f_11662.2
                  have tc_11663 : (x_11652).toInt ≠ 0 := fun q => c_11658 (Int32.toInt_inj.mp q)
                  have h_11664 : rg x_11652 1 1 := rg_ne c_11658 h_11657 0 rfl (by decide)
                  have uh_11664 := h_11664.1
                  have vh_11664 := h_11664.2
                  refine lv_aload_n hx hb dX12_nextToken_99 rfl (lv_at hl 0 rfl) ?_
                  refine pg_f (v := .int (I_11581 394 this)) (C := RX12) (T := TX12) (N := 31) hx hb hts (tw_i inlX12) hown hK hP hL_this hK_this (by decide) rfl 10 (by decide) (hts _ (tw_c tw_836)) rfl dX12_nextToken_100 ?_
                  refine lv_ldc hx hb hown (hts _ (tw_c tw_837)) dX12_nextToken_103 ?_
                  refine lv_icmp_ge (tgt := 131) hx hb dX12_nextToken_105 (by decide) (fun c_11665 => ?_) (fun c_11665 => ?_)
                  · have tc_11666 : 100000 ≤ (I_11581 394 this).toInt := Int32.le_iff_toInt_le.mp c_11665
                    have h_11667 : rg (I_11581 394 this) 100000 2147483647 := rg_le2 c_11665 (rg_k (100000 : Int32) 100000 rfl) (rg_full _) (by decide)
                    have uh_11667 := h_11667.1
                    have vh_11667 := h_11667.2
                    refine lv_aload_n hx hb dX12_nextToken_131 rfl (lv_at hl 0 rfl) ?_
                    refine lv_dup hx hb dX12_nextToken_132 rfl ?_
                    refine pg_f (v := .int (I_11581 391 this)) (C := RX12) (T := TX12) (N := 31) hx hb hts (tw_i inlX12) hown hK hP hL_this hK_this (by decide) rfl 7 (by decide) (hts _ (tw_c tw_830)) rfl dX12_nextToken_133 ?_
                    refine lv_iconst (v := 1) hx hb dX12_nextToken_136 (by decide) ?_
                    have h_11668 : rg (I_11581 391 this) 0 299 := ⟨by omega, by omega⟩
                    have uh_11668 := h_11668.1
                    have vh_11668 := h_11668.2
                    refine lv_iadd hx hb dX12_nextToken_137 ?_
                    refine lv_topi (fun x_11669 ex_11669 => ?_)
                    have h_11670 : rg x_11669 1 300 := rg_of_eq ex_11669 (rg_add h_11668 (rg_k (1 : Int32) 1 rfl) (by decide))
                    have uh_11670 := h_11670.1
                    have vh_11670 := h_11670.2
                    have tx_11669 : (x_11669).toInt = (I_11581 391 this).toInt + 1 := by rw [ex_11669]; exact i_add_rg (a2 := (I_11581 391 this).toInt) (b2 := 1) rfl rfl h_11668 (rg_k (1 : Int32) 1 rfl) (by decide)
                    refine pp_i (v := x_11669) (ty := .int) (C := RX12) (T := TX12) (N := 31) hx hb hts (tw_i inlX12) tyX12 tyX12_ok nmX12 hown hK hP hD hS hL_this hK_this (by decide) rfl 7 391 (by decide) (hts _ (tw_c tw_830)) rfl (by decide +kernel) rfl rfl (Nat.le_of_ble_eq_true rfl) (ps_391 _ _ _ _ _) dX12_nextToken_138 (fun I_11671 H locs eI_11671 hP hD hS => ?_)
                    have hG := GM.wI hG 391 rfl eI_11671 (rg_w h_11670 (by decide)) (by decide)
                    have tt_11672 : (I_11671 391 this).toInt = (x_11669).toInt := by rw [eI_11671, pq_us]
                    have tt_11673 : (I_11671 388 this).toInt = (I_11581 388 this).toInt := by rw [eI_11671, pq_uf _ _ _ (by decide)]
                    have tt_11674 : (I_11671 392 this).toInt = (I_11581 392 this).toInt := by rw [eI_11671, pq_uf _ _ _ (by decide)]
                    refine lv_goto (tgt := 85) hx hb dX12_nextToken_141 (by decide) ?_
                    exact ih_11642 I_11671 _ _ _ (ms_fu_iadd hm_11639 (by rw [eI_11671]; exact pq_us _ _ _ _) ex_11669 rfl (kk := 1) rfl (by decide) h_11668 (by decide) (by decide)) hG hP hD hS (lv_sub hl [0] rfl)
                  · have tc_11675 : (I_11581 394 this).toInt < 100000 := Int32.lt_iff_toInt_lt.mp (nle c_11665)
                    have h_11676 : rg (I_11581 394 this) (-2147483648) 99999 := rg_lt1 (nle c_11665) (rg_full _) (rg_k (100000 : Int32) 100000 rfl) (by decide)
                    have uh_11676 := h_11676.1
                    have vh_11676 := h_11676.2
                    refine lv_aload_n hx hb dX12_nextToken_108 rfl (lv_at hl 0 rfl) ?_
                    refine lv_bipush (v := 10) hx hb dX12_nextToken_109 (by decide) ?_
                    refine lv_aload_n hx hb dX12_nextToken_111 rfl (lv_at hl 0 rfl) ?_
                    refine pg_f (v := .int (I_11581 394 this)) (C := RX12) (T := TX12) (N := 31) hx hb hts (tw_i inlX12) hown hK hP hL_this hK_this (by decide) rfl 10 (by decide) (hts _ (tw_c tw_836)) rfl dX12_nextToken_112 ?_
                    refine lv_imul hx hb dX12_nextToken_115 ?_
                    refine lv_topi (fun x_11677 ex_11677 => ?_)
                    refine lv_aload_n hx hb dX12_nextToken_116 rfl (lv_at hl 0 rfl) ?_
                    refine lv_aload_n hx hb dX12_nextToken_117 rfl (lv_at hl 0 rfl) ?_
                    refine pg_f (v := .int (I_11581 391 this)) (C := RX12) (T := TX12) (N := 31) hx hb hts (tw_i inlX12) hown hK hP hL_this hK_this (by decide) rfl 7 (by decide) (hts _ (tw_c tw_830)) rfl dX12_nextToken_118 ?_
                    refine pk_i (va_runV (As := [.int (I_11581 391 this)]) (rest := [.int x_11677, .ref this]) ⟨hx, hb, hml, hown, hts⟩ (s_X12_see l D t σ I_11581 J ri rj rq H.size tg hSH hG.1 this (I_11581 391 this) hL_this hK_this (rg_w h_11643 (by decide))) (cwV 1 hts (tw_V tw_839 tw_840 tw_841 tw_5 tw_842) rfl rfl rfl (by decide +kernel) ⟨Nat.le_of_ble_eq_true rfl, Nat.le_of_ble_eq_true rfl⟩) ⟨pq_blind, pq_recv hK hP hL_this hK_this (by decide) rfl, pq_pre hK hN hP hD⟩ rfl rfl hl.1 rfl (lv_room (Nat.le_of_ble_eq_true rfl)) dX12_nextToken_121 ⟨Nat.le_of_ble_eq_true rfl, Nat.le_of_ble_eq_true rfl⟩) hD hS hA (fun x_11678 σ1 μ1 H locs hw_11679 hP hD hS => ?_)
                    obtain ⟨hu_11680, hp_11683, hr_11682⟩ := hw_11679
                    obtain ⟨hu_11680a, hu_11680b⟩ := Prod.mk.inj hu_11680
                    rw [hu_11680a, hu_11680b] at hP hD
                    have tt_11684 := hp_11683
                    have tt_11685 := (GM.rI hG 388 (a := this) (lo := 0) (hi := 300) rfl).2
                    refine lv_iadd hx hb dX12_nextToken_124 ?_
                    refine lv_topi (fun x_11686 ex_11686 => ?_)
                    refine lv_bipush (v := 48) hx hb dX12_nextToken_125 (by decide) ?_
                    refine lv_isub hx hb dX12_nextToken_127 ?_
                    refine lv_topi (fun x_11687 ex_11687 => ?_)
                    refine pp_i (v := x_11687) (ty := .int) (C := RX12) (T := TX12) (N := 31) hx hb hts (tw_i inlX12) tyX12 tyX12_ok nmX12 hown hK hP hD hS hL_this hK_this (by decide) rfl 10 394 (by decide) (hts _ (tw_c tw_836)) rfl (by decide +kernel) rfl rfl (Nat.le_of_ble_eq_true rfl) (ps_394 _ _ _ _ _) dX12_nextToken_128 (fun I_11688 H locs eI_11688 hP hD hS => ?_)
                    have hG := GM.wI hG 394 rfl eI_11688 (rg_w (rg_full _) (by decide)) (by decide)
                    have tt_11689 : (I_11688 391 this).toInt = (I_11581 391 this).toInt := by rw [eI_11688, pq_uf _ _ _ (by decide)]
                    have tt_11690 : (I_11688 388 this).toInt = (I_11581 388 this).toInt := by rw [eI_11688, pq_uf _ _ _ (by decide)]
                    have tt_11691 : (I_11688 392 this).toInt = (I_11581 392 this).toInt := by rw [eI_11688, pq_uf _ _ _ (by decide)]
                    refine lv_aload_n hx hb dX12_nextToken_131 rfl (lv_at hl 0 rfl) ?_
                    refine lv_dup hx hb dX12_nextToken_132 rfl ?_
                    refine pg_f (v := .int (I_11688 391 this)) (C := RX12) (T := TX12) (N := 31) hx hb hts (tw_i inlX12) hown hK hP hL_this hK_this (by decide) rfl 7 (by decide) (hts _ (tw_c tw_830)) rfl dX12_nextToken_133 ?_
                    have h_11692 : rg (I_11688 391 this) 0 300 := GM.rI hG 391 rfl
                    have uh_11692 := h_11692.1
                    have vh_11692 := h_11692.2
                    refine lv_iconst (v := 1) hx hb dX12_nextToken_136 (by decide) ?_
                    have h_11693 : rg (I_11688 391 this) 0 299 := ⟨by omega, by omega⟩
                    have uh_11693 := h_11693.1
                    have vh_11693 := h_11693.2
                    refine lv_iadd hx hb dX12_nextToken_137 ?_
                    refine lv_topi (fun x_11694 ex_11694 => ?_)
                    have h_11695 : rg x_11694 1 300 := rg_of_eq ex_11694 (rg_add h_11693 (rg_k (1 : Int32) 1 rfl) (by decide))
                    have uh_11695 := h_11695.1
                    have vh_11695 := h_11695.2
                    have tx_11694 : (x_11694).toInt = (I_11688 391 this).toInt + 1 := by rw [ex_11694]; exact i_add_rg (a2 := (I_11688 391 this).toInt) (b2 := 1) rfl rfl h_11693 (rg_k (1 : Int32) 1 rfl) (by decide)
                    refine pp_i (v := x_11694) (ty := .int) (C := RX12) (T := TX12) (N := 31) hx hb hts (tw_i inlX12) tyX12 tyX12_ok nmX12 hown hK hP hD hS hL_this hK_this (by decide) rfl 7 391 (by decide) (hts _ (tw_c tw_830)) rfl (by decide +kernel) rfl rfl (Nat.le_of_ble_eq_true rfl) (ps_391 _ _ _ _ _) dX12_nextToken_138 (fun I_11696 H locs eI_11696 hP hD hS => ?_)
                    have hG := GM.wI hG 391 rfl eI_11696 (rg_w h_11695 (by decide)) (by decide)
                    have tt_11697 : (I_11696 391 this).toInt = (x_11694).toInt := by rw [eI_11696, pq_us]
                    have tt_11698 : (I_11696 388 this).toInt = (I_11688 388 this).toInt := by rw [eI_11696, pq_uf _ _ _ (by decide)]
                    have tt_11699 : (I_11696 392 this).toInt = (I_11688 392 this).toInt := by rw [eI_11696, pq_uf _ _ _ (by decide)]
                    refine lv_goto (tgt := 85) hx hb dX12_nextToken_141 (by decide) ?_
                    exact ih_11642 I_11696 _ _ _ (ms_fu_iadd hm_11639 (by rw [eI_11696]; exact pq_us _ _ _ _) ex_11694 ((congrFun (show I_11688 391 = I_11581 391 from by rw [eI_11688]; exact pq_uf _ _ _ (by decide)) this).trans rfl) (kk := 1) rfl (by decide) h_11693 (by decide) (by decide)) hG hP hD hS (lv_sub hl [0] rfl)
            exact L_11641 _ I_11409 _ _ _ (Nat.lt_succ_self _) hG hP hD hS (lv_sub hl [1] rfl)
        · have tc_11700 : (x_10491).toInt < 0 := Int32.lt_iff_toInt_lt.mp (nle c_10499)
          have h_11701 : rg x_10491 (-1) (-1) := rg_lt1 (nle c_10499) hr_10495 (rg_k (0 : Int32) 0 rfl) (by decide)
          have uh_11701 := h_11701.1
          have vh_11701 := h_11701.2
          refine lv_aload_n hx hb dX12_nextToken_60 rfl (lv_at hl 1 rfl) ?_
          refine lv_iconst (v := 0) hx hb dX12_nextToken_61 (by decide) ?_
          refine pp_i (v := 0) (ty := .int) (C := RX12) (T := TX12) (N := 31) hx hb hts (tw_i inlX12) tyX12 tyX12_ok nmX12 hown hK hP hD hS hL_this hK_this (by decide) rfl 9 393 (by decide) (hts _ (tw_c tw_831)) rfl (by decide +kernel) rfl rfl (Nat.le_of_ble_eq_true rfl) (ps_393 _ _ _ _ _) dX12_nextToken_62 (fun I_11702 H locs eI_11702 hP hD hS => ?_)
          have hG := GM.wI hG 393 rfl eI_11702 (rg_w (rg_k (0 : Int32) 0 rfl) (by decide)) (by decide)
          have tt_11703 : (I_11702 391 this).toInt = (I_10486 391 this).toInt := by rw [eI_11702, pq_uf _ _ _ (by decide)]
          have tt_11704 : (I_11702 388 this).toInt = (I_10486 388 this).toInt := by rw [eI_11702, pq_uf _ _ _ (by decide)]
          have tt_11705 : (I_11702 392 this).toInt = (I_10486 392 this).toInt := by rw [eI_11702, pq_uf _ _ _ (by decide)]
          refine lv_goto (tgt := 396) hx hb dX12_nextToken_65 (by decide) ?_
          subst hQ
          exact W.vret hx hb hr (fun t1 ht hW => ⟨⟨(σ, I_11702, J, ri, rj, rq), rfl, ⟨I_11702, J, rfl, hG⟩, by rw [ht]; exact hP, va_K.moved hW.alike hK, hD⟩, hS.F ht⟩) hS.2.2 dX12_nextToken_396
      · have tc_11706 : (x_10476).toInt = 10 := congrArg Int32.toInt c_10484
        have h_11707 : rg x_10476 10 10 := rg_and hr_10480 (rg_of_eq c_10484 (rg_k (10 : Int32) 10 rfl)) (by decide)
        have uh_11707 := h_11707.1
        have vh_11707 := h_11707.2
        exact K_5028 _ _ _ hG hP hD hS (lv_sub hl [0] rfl)
  exact go _ _ _ hP hD hS hl
