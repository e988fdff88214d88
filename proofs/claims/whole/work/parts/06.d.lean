theorem dX4_in_0 : decode cX4_in 0 = .ok (.iload_n 0, 1) := by decide +kernel
theorem dX4_in_1 : decode cX4_in 1 = .ok (.iload_n 1, 1) := by decide +kernel
theorem dX4_in_2 : decode cX4_in 2 = .ok (.if_icmp .lt 12, 3) := by decide +kernel
theorem dX4_in_5 : decode cX4_in 5 = .ok (.iload_n 0, 1) := by decide +kernel
theorem dX4_in_6 : decode cX4_in 6 = .ok (.iload_n 2, 1) := by decide +kernel
theorem dX4_in_7 : decode cX4_in 7 = .ok (.if_icmp .gt 7, 3) := by decide +kernel
theorem dX4_in_10 : decode cX4_in 10 = .ok (.iconst 1, 1) := by decide +kernel
theorem dX4_in_11 : decode cX4_in 11 = .ok (.goto 4, 3) := by decide +kernel
theorem dX4_in_14 : decode cX4_in 14 = .ok (.iconst 0, 1) := by decide +kernel
theorem dX4_in_15 : decode cX4_in 15 = .ok (.ireturn, 1) := by decide +kernel
theorem dX4_isStory_0 : decode cX4_isStory 0 = .ok (.iload_n 1, 1) := by decide +kernel
theorem dX4_isStory_1 : decode cX4_isStory 1 = .ok (.iconst 0, 1) := by decide +kernel
theorem dX4_isStory_2 : decode cX4_isStory 2 = .ok (.aload_n 0, 1) := by decide +kernel
theorem dX4_isStory_3 : decode cX4_isStory 3 = .ok (.getfield 7, 3) := by decide +kernel
theorem dX4_isStory_6 : decode cX4_isStory 6 = .ok (.iconst 3, 1) := by decide +kernel
theorem dX4_isStory_7 : decode cX4_isStory 7 = .ok (.iaload, 1) := by decide +kernel
theorem dX4_isStory_8 : decode cX4_isStory 8 = .ok (.iconst 1, 1) := by decide +kernel
theorem dX4_isStory_9 : decode cX4_isStory 9 = .ok (.isub, 1) := by decide +kernel
theorem dX4_isStory_10 : decode cX4_isStory 10 = .ok (.invokestatic 44, 3) := by decide +kernel
theorem dX4_isStory_13 : decode cX4_isStory 13 = .ok (.ireturn, 1) := by decide +kernel
theorem dX4_isWord_0 : decode cX4_isWord 0 = .ok (.aload_n 0, 1) := by decide +kernel
theorem dX4_isWord_1 : decode cX4_isWord 1 = .ok (.iload_n 1, 1) := by decide +kernel
theorem dX4_isWord_2 : decode cX4_isWord 2 = .ok (.invokevirtual 48, 3) := by decide +kernel
theorem dX4_isWord_5 : decode cX4_isWord 5 = .ok (.ifCond .eq 26, 3) := by decide +kernel
theorem dX4_isWord_8 : decode cX4_isWord 8 = .ok (.iload_n 2, 1) := by decide +kernel
theorem dX4_isWord_9 : decode cX4_isWord 9 = .ok (.iconst 0, 1) := by decide +kernel
theorem dX4_isWord_10 : decode cX4_isWord 10 = .ok (.aload_n 0, 1) := by decide +kernel
theorem dX4_isWord_11 : decode cX4_isWord 11 = .ok (.getfield 7, 3) := by decide +kernel
theorem dX4_isWord_14 : decode cX4_isWord 14 = .ok (.bipush 9, 2) := by decide +kernel
theorem dX4_isWord_16 : decode cX4_isWord 16 = .ok (.iload_n 1, 1) := by decide +kernel
theorem dX4_isWord_17 : decode cX4_isWord 17 = .ok (.iadd, 1) := by decide +kernel
theorem dX4_isWord_18 : decode cX4_isWord 18 = .ok (.iaload, 1) := by decide +kernel
theorem dX4_isWord_19 : decode cX4_isWord 19 = .ok (.iconst 1, 1) := by decide +kernel
theorem dX4_isWord_20 : decode cX4_isWord 20 = .ok (.isub, 1) := by decide +kernel
theorem dX4_isWord_21 : decode cX4_isWord 21 = .ok (.invokestatic 44, 3) := by decide +kernel
theorem dX4_isWord_24 : decode cX4_isWord 24 = .ok (.ifCond .eq 7, 3) := by decide +kernel
theorem dX4_isWord_27 : decode cX4_isWord 27 = .ok (.iconst 1, 1) := by decide +kernel
theorem dX4_isWord_28 : decode cX4_isWord 28 = .ok (.goto 4, 3) := by decide +kernel
theorem dX4_isWord_31 : decode cX4_isWord 31 = .ok (.iconst 0, 1) := by decide +kernel
theorem dX4_isWord_32 : decode cX4_isWord 32 = .ok (.ireturn, 1) := by decide +kernel
theorem dX4_first_0 : decode cX4_first 0 = .ok (.iconst 0, 1) := by decide +kernel
theorem dX4_first_1 : decode cX4_first 1 = .ok (.istore_n 2, 1) := by decide +kernel
theorem dX4_first_2 : decode cX4_first 2 = .ok (.iconst 0, 1) := by decide +kernel
theorem dX4_first_3 : decode cX4_first 3 = .ok (.istore_n 3, 1) := by decide +kernel
theorem dX4_first_4 : decode cX4_first 4 = .ok (.iload_n 3, 1) := by decide +kernel
theorem dX4_first_5 : decode cX4_first 5 = .ok (.iload_n 1, 1) := by decide +kernel
theorem dX4_first_6 : decode cX4_first 6 = .ok (.if_icmp .ge 21, 3) := by decide +kernel
theorem dX4_first_9 : decode cX4_first 9 = .ok (.iload_n 2, 1) := by decide +kernel
theorem dX4_first_10 : decode cX4_first 10 = .ok (.aload_n 0, 1) := by decide +kernel
theorem dX4_first_11 : decode cX4_first 11 = .ok (.getfield 7, 3) := by decide +kernel
theorem dX4_first_14 : decode cX4_first 14 = .ok (.bipush 9, 2) := by decide +kernel
theorem dX4_first_16 : decode cX4_first 16 = .ok (.iload_n 3, 1) := by decide +kernel
theorem dX4_first_17 : decode cX4_first 17 = .ok (.iadd, 1) := by decide +kernel
theorem dX4_first_18 : decode cX4_first 18 = .ok (.iaload, 1) := by decide +kernel
theorem dX4_first_19 : decode cX4_first 19 = .ok (.iadd, 1) := by decide +kernel
theorem dX4_first_20 : decode cX4_first 20 = .ok (.istore_n 2, 1) := by decide +kernel
theorem dX4_first_21 : decode cX4_first 21 = .ok (.iinc 3 1, 3) := by decide +kernel
theorem dX4_first_24 : decode cX4_first 24 = .ok (.goto (-20), 3) := by decide +kernel
theorem dX4_first_27 : decode cX4_first 27 = .ok (.iload_n 2, 1) := by decide +kernel
theorem dX4_first_28 : decode cX4_first 28 = .ok (.ireturn, 1) := by decide +kernel
theorem dX4_know_0 : decode cX4_know 0 = .ok (.aload_n 0, 1) := by decide +kernel
theorem dX4_know_1 : decode cX4_know 1 = .ok (.getfield 52, 3) := by decide +kernel
theorem dX4_know_4 : decode cX4_know 4 = .ok (.bipush 6, 2) := by decide +kernel
theorem dX4_know_6 : decode cX4_know 6 = .ok (.if_icmp .ne 44, 3) := by decide +kernel
theorem dX4_know_9 : decode cX4_know 9 = .ok (.iconst 0, 1) := by decide +kernel
theorem dX4_know_10 : decode cX4_know 10 = .ok (.istore_n 1, 1) := by decide +kernel
theorem dX4_know_11 : decode cX4_know 11 = .ok (.iload_n 1, 1) := by decide +kernel
theorem dX4_know_12 : decode cX4_know 12 = .ok (.sipush 1725, 3) := by decide +kernel
theorem dX4_know_15 : decode cX4_know 15 = .ok (.if_icmp .ge 25, 3) := by decide +kernel
theorem dX4_know_18 : decode cX4_know 18 = .ok (.aload_n 0, 1) := by decide +kernel
theorem dX4_know_19 : decode cX4_know 19 = .ok (.getfield 16, 3) := by decide +kernel
theorem dX4_know_22 : decode cX4_know 22 = .ok (.iload_n 1, 1) := by decide +kernel
theorem dX4_know_23 : decode cX4_know 23 = .ok (.aload_n 0, 1) := by decide +kernel
theorem dX4_know_24 : decode cX4_know 24 = .ok (.getfield 16, 3) := by decide +kernel
theorem dX4_know_27 : decode cX4_know 27 = .ok (.sipush 345, 3) := by decide +kernel
theorem dX4_know_30 : decode cX4_know 30 = .ok (.iload_n 1, 1) := by decide +kernel
theorem dX4_know_31 : decode cX4_know 31 = .ok (.iadd, 1) := by decide +kernel
theorem dX4_know_32 : decode cX4_know 32 = .ok (.iaload, 1) := by decide +kernel
theorem dX4_know_33 : decode cX4_know 33 = .ok (.iastore, 1) := by decide +kernel
theorem dX4_know_34 : decode cX4_know 34 = .ok (.iinc 1 1, 3) := by decide +kernel
theorem dX4_know_37 : decode cX4_know 37 = .ok (.goto (-26), 3) := by decide +kernel
theorem dX4_know_40 : decode cX4_know 40 = .ok (.aload_n 0, 1) := by decide +kernel
theorem dX4_know_41 : decode cX4_know 41 = .ok (.dup, 1) := by decide +kernel
theorem dX4_know_42 : decode cX4_know 42 = .ok (.getfield 52, 3) := by decide +kernel
theorem dX4_know_45 : decode cX4_know 45 = .ok (.iconst 1, 1) := by decide +kernel
theorem dX4_know_46 : decode cX4_know 46 = .ok (.isub, 1) := by decide +kernel
theorem dX4_know_47 : decode cX4_know 47 = .ok (.putfield 52, 3) := by decide +kernel
theorem dX4_know_50 : decode cX4_know 50 = .ok (.iconst 0, 1) := by decide +kernel
theorem dX4_know_51 : decode cX4_know 51 = .ok (.istore_n 1, 1) := by decide +kernel
theorem dX4_know_52 : decode cX4_know 52 = .ok (.iload_n 1, 1) := by decide +kernel
theorem dX4_know_53 : decode cX4_know 53 = .ok (.sipush 345, 3) := by decide +kernel
theorem dX4_know_56 : decode cX4_know 56 = .ok (.if_icmp .ge 30, 3) := by decide +kernel
theorem dX4_know_59 : decode cX4_know 59 = .ok (.aload_n 0, 1) := by decide +kernel
theorem dX4_know_60 : decode cX4_know 60 = .ok (.getfield 16, 3) := by decide +kernel
theorem dX4_know_63 : decode cX4_know 63 = .ok (.sipush 345, 3) := by decide +kernel
theorem dX4_know_66 : decode cX4_know 66 = .ok (.aload_n 0, 1) := by decide +kernel
theorem dX4_know_67 : decode cX4_know 67 = .ok (.getfield 52, 3) := by decide +kernel
theorem dX4_know_70 : decode cX4_know 70 = .ok (.imul, 1) := by decide +kernel
theorem dX4_know_71 : decode cX4_know 71 = .ok (.iload_n 1, 1) := by decide +kernel
theorem dX4_know_72 : decode cX4_know 72 = .ok (.iadd, 1) := by decide +kernel
theorem dX4_know_73 : decode cX4_know 73 = .ok (.aload_n 0, 1) := by decide +kernel
theorem dX4_know_74 : decode cX4_know 74 = .ok (.getfield 7, 3) := by decide +kernel
theorem dX4_know_77 : decode cX4_know 77 = .ok (.iload_n 1, 1) := by decide +kernel
theorem dX4_know_78 : decode cX4_know 78 = .ok (.iaload, 1) := by decide +kernel
theorem dX4_know_79 : decode cX4_know 79 = .ok (.iastore, 1) := by decide +kernel
theorem dX4_know_80 : decode cX4_know 80 = .ok (.iinc 1 1, 3) := by decide +kernel
theorem dX4_know_83 : decode cX4_know 83 = .ok (.goto (-31), 3) := by decide +kernel
theorem dX4_know_86 : decode cX4_know 86 = .ok (.aload_n 0, 1) := by decide +kernel
theorem dX4_know_87 : decode cX4_know 87 = .ok (.dup, 1) := by decide +kernel
theorem dX4_know_88 : decode cX4_know 88 = .ok (.getfield 52, 3) := by decide +kernel
theorem dX4_know_91 : decode cX4_know 91 = .ok (.iconst 1, 1) := by decide +kernel
theorem dX4_know_92 : decode cX4_know 92 = .ok (.iadd, 1) := by decide +kernel
theorem dX4_know_93 : decode cX4_know 93 = .ok (.putfield 52, 3) := by decide +kernel
theorem dX4_know_96 : decode cX4_know 96 = .ok (.return_, 1) := by decide +kernel
theorem dX4_warm_0 : decode cX4_warm 0 = .ok (.aload_n 0, 1) := by decide +kernel
theorem dX4_warm_1 : decode cX4_warm 1 = .ok (.getfield 7, 3) := by decide +kernel
theorem dX4_warm_4 : decode cX4_warm 4 = .ok (.sipush 195, 3) := by decide +kernel
theorem dX4_warm_7 : decode cX4_warm 7 = .ok (.iload_n 1, 1) := by decide +kernel
theorem dX4_warm_8 : decode cX4_warm 8 = .ok (.iadd, 1) := by decide +kernel
theorem dX4_warm_9 : decode cX4_warm 9 = .ok (.iaload, 1) := by decide +kernel
theorem dX4_warm_10 : decode cX4_warm 10 = .ok (.iload_n 2, 1) := by decide +kernel
theorem dX4_warm_11 : decode cX4_warm 11 = .ok (.iadd, 1) := by decide +kernel
theorem dX4_warm_12 : decode cX4_warm 12 = .ok (.istore_n 3, 1) := by decide +kernel
theorem dX4_warm_13 : decode cX4_warm 13 = .ok (.aload_n 0, 1) := by decide +kernel
theorem dX4_warm_14 : decode cX4_warm 14 = .ok (.getfield 7, 3) := by decide +kernel
theorem dX4_warm_17 : decode cX4_warm 17 = .ok (.sipush 195, 3) := by decide +kernel
theorem dX4_warm_20 : decode cX4_warm 20 = .ok (.iload_n 1, 1) := by decide +kernel
theorem dX4_warm_21 : decode cX4_warm 21 = .ok (.iadd, 1) := by decide +kernel
theorem dX4_warm_22 : decode cX4_warm 22 = .ok (.iload_n 3, 1) := by decide +kernel
theorem dX4_warm_23 : decode cX4_warm 23 = .ok (.sipush 999, 3) := by decide +kernel
theorem dX4_warm_26 : decode cX4_warm 26 = .ok (.if_icmp .le 9, 3) := by decide +kernel
theorem dX4_warm_29 : decode cX4_warm 29 = .ok (.sipush 999, 3) := by decide +kernel
theorem dX4_warm_32 : decode cX4_warm 32 = .ok (.goto 4, 3) := by decide +kernel
theorem dX4_warm_35 : decode cX4_warm 35 = .ok (.iload_n 3, 1) := by decide +kernel
theorem dX4_warm_36 : decode cX4_warm 36 = .ok (.iastore, 1) := by decide +kernel
theorem dX4_warm_37 : decode cX4_warm 37 = .ok (.return_, 1) := by decide +kernel
theorem dX4_storyOf_0 : decode cX4_storyOf 0 = .ok (.iconst 0, 1) := by decide +kernel
theorem dX4_storyOf_1 : decode cX4_storyOf 1 = .ok (.istore_n 2, 1) := by decide +kernel
theorem dX4_storyOf_2 : decode cX4_storyOf 2 = .ok (.iload_n 1, 1) := by decide +kernel
theorem dX4_storyOf_3 : decode cX4_storyOf 3 = .ok (.istore_n 3, 1) := by decide +kernel
theorem dX4_storyOf_4 : decode cX4_storyOf 4 = .ok (.iload_n 3, 1) := by decide +kernel
theorem dX4_storyOf_5 : decode cX4_storyOf 5 = .ok (.aload_n 0, 1) := by decide +kernel
theorem dX4_storyOf_6 : decode cX4_storyOf 6 = .ok (.getfield 7, 3) := by decide +kernel
theorem dX4_storyOf_9 : decode cX4_storyOf 9 = .ok (.bipush 9, 2) := by decide +kernel
theorem dX4_storyOf_11 : decode cX4_storyOf 11 = .ok (.iload_n 2, 1) := by decide +kernel
theorem dX4_storyOf_12 : decode cX4_storyOf 12 = .ok (.iadd, 1) := by decide +kernel
theorem dX4_storyOf_13 : decode cX4_storyOf 13 = .ok (.iaload, 1) := by decide +kernel
theorem dX4_storyOf_14 : decode cX4_storyOf 14 = .ok (.if_icmp .lt 21, 3) := by decide +kernel
theorem dX4_storyOf_17 : decode cX4_storyOf 17 = .ok (.iload_n 3, 1) := by decide +kernel
theorem dX4_storyOf_18 : decode cX4_storyOf 18 = .ok (.aload_n 0, 1) := by decide +kernel
theorem dX4_storyOf_19 : decode cX4_storyOf 19 = .ok (.getfield 7, 3) := by decide +kernel
theorem dX4_storyOf_22 : decode cX4_storyOf 22 = .ok (.bipush 9, 2) := by decide +kernel
theorem dX4_storyOf_24 : decode cX4_storyOf 24 = .ok (.iload_n 2, 1) := by decide +kernel
theorem dX4_storyOf_25 : decode cX4_storyOf 25 = .ok (.iadd, 1) := by decide +kernel
theorem dX4_storyOf_26 : decode cX4_storyOf 26 = .ok (.iaload, 1) := by decide +kernel
theorem dX4_storyOf_27 : decode cX4_storyOf 27 = .ok (.isub, 1) := by decide +kernel
theorem dX4_storyOf_28 : decode cX4_storyOf 28 = .ok (.istore_n 3, 1) := by decide +kernel
theorem dX4_storyOf_29 : decode cX4_storyOf 29 = .ok (.iinc 2 1, 3) := by decide +kernel
theorem dX4_storyOf_32 : decode cX4_storyOf 32 = .ok (.goto (-28), 3) := by decide +kernel
theorem dX4_storyOf_35 : decode cX4_storyOf 35 = .ok (.iload_n 2, 1) := by decide +kernel
theorem dX4_storyOf_36 : decode cX4_storyOf 36 = .ok (.ireturn, 1) := by decide +kernel
theorem dX4_split_0 : decode cX4_split 0 = .ok (.aload_n 0, 1) := by decide +kernel
theorem dX4_split_1 : decode cX4_split 1 = .ok (.getfield 7, 3) := by decide +kernel
theorem dX4_split_4 : decode cX4_split 4 = .ok (.iconst 3, 1) := by decide +kernel
theorem dX4_split_5 : decode cX4_split 5 = .ok (.iaload, 1) := by decide +kernel
theorem dX4_split_6 : decode cX4_split 6 = .ok (.istore_n 3, 1) := by decide +kernel
theorem dX4_split_7 : decode cX4_split 7 = .ok (.iload_n 3, 1) := by decide +kernel
theorem dX4_split_8 : decode cX4_split 8 = .ok (.iload_n 1, 1) := by decide +kernel
theorem dX4_split_9 : decode cX4_split 9 = .ok (.iconst 1, 1) := by decide +kernel
theorem dX4_split_10 : decode cX4_split 10 = .ok (.iadd, 1) := by decide +kernel
theorem dX4_split_11 : decode cX4_split 11 = .ok (.if_icmp .le 69, 3) := by decide +kernel
theorem dX4_split_14 : decode cX4_split 14 = .ok (.aload_n 0, 1) := by decide +kernel
theorem dX4_split_15 : decode cX4_split 15 = .ok (.getfield 7, 3) := by decide +kernel
theorem dX4_split_18 : decode cX4_split 18 = .ok (.bipush 9, 2) := by decide +kernel
theorem dX4_split_20 : decode cX4_split 20 = .ok (.iload_n 3, 1) := by decide +kernel
theorem dX4_split_21 : decode cX4_split 21 = .ok (.iadd, 1) := by decide +kernel
theorem dX4_split_22 : decode cX4_split 22 = .ok (.aload_n 0, 1) := by decide +kernel
theorem dX4_split_23 : decode cX4_split 23 = .ok (.getfield 7, 3) := by decide +kernel
theorem dX4_split_26 : decode cX4_split 26 = .ok (.bipush 9, 2) := by decide +kernel
theorem dX4_split_28 : decode cX4_split 28 = .ok (.iload_n 3, 1) := by decide +kernel
theorem dX4_split_29 : decode cX4_split 29 = .ok (.iadd, 1) := by decide +kernel
theorem dX4_split_30 : decode cX4_split 30 = .ok (.iconst 1, 1) := by decide +kernel
theorem dX4_split_31 : decode cX4_split 31 = .ok (.isub, 1) := by decide +kernel
theorem dX4_split_32 : decode cX4_split 32 = .ok (.iaload, 1) := by decide +kernel
theorem dX4_split_33 : decode cX4_split 33 = .ok (.iastore, 1) := by decide +kernel
theorem dX4_split_34 : decode cX4_split 34 = .ok (.aload_n 0, 1) := by decide +kernel
theorem dX4_split_35 : decode cX4_split 35 = .ok (.getfield 7, 3) := by decide +kernel
theorem dX4_split_38 : decode cX4_split 38 = .ok (.bipush 21, 2) := by decide +kernel
theorem dX4_split_40 : decode cX4_split 40 = .ok (.iload_n 3, 1) := by decide +kernel
theorem dX4_split_41 : decode cX4_split 41 = .ok (.iadd, 1) := by decide +kernel
theorem dX4_split_42 : decode cX4_split 42 = .ok (.aload_n 0, 1) := by decide +kernel
theorem dX4_split_43 : decode cX4_split 43 = .ok (.getfield 7, 3) := by decide +kernel
theorem dX4_split_46 : decode cX4_split 46 = .ok (.bipush 21, 2) := by decide +kernel
theorem dX4_split_48 : decode cX4_split 48 = .ok (.iload_n 3, 1) := by decide +kernel
theorem dX4_split_49 : decode cX4_split 49 = .ok (.iadd, 1) := by decide +kernel
theorem dX4_split_50 : decode cX4_split 50 = .ok (.iconst 1, 1) := by decide +kernel
theorem dX4_split_51 : decode cX4_split 51 = .ok (.isub, 1) := by decide +kernel
theorem dX4_split_52 : decode cX4_split 52 = .ok (.iaload, 1) := by decide +kernel
theorem dX4_split_53 : decode cX4_split 53 = .ok (.iastore, 1) := by decide +kernel
theorem dX4_split_54 : decode cX4_split 54 = .ok (.aload_n 0, 1) := by decide +kernel
theorem dX4_split_55 : decode cX4_split 55 = .ok (.getfield 7, 3) := by decide +kernel
theorem dX4_split_58 : decode cX4_split 58 = .ok (.bipush 33, 2) := by decide +kernel
theorem dX4_split_60 : decode cX4_split 60 = .ok (.iload_n 3, 1) := by decide +kernel
theorem dX4_split_61 : decode cX4_split 61 = .ok (.iadd, 1) := by decide +kernel
theorem dX4_split_62 : decode cX4_split 62 = .ok (.aload_n 0, 1) := by decide +kernel
theorem dX4_split_63 : decode cX4_split 63 = .ok (.getfield 7, 3) := by decide +kernel
theorem dX4_split_66 : decode cX4_split 66 = .ok (.bipush 33, 2) := by decide +kernel
theorem dX4_split_68 : decode cX4_split 68 = .ok (.iload_n 3, 1) := by decide +kernel
theorem dX4_split_69 : decode cX4_split 69 = .ok (.iadd, 1) := by decide +kernel
theorem dX4_split_70 : decode cX4_split 70 = .ok (.iconst 1, 1) := by decide +kernel
theorem dX4_split_71 : decode cX4_split 71 = .ok (.isub, 1) := by decide +kernel
theorem dX4_split_72 : decode cX4_split 72 = .ok (.iaload, 1) := by decide +kernel
theorem dX4_split_73 : decode cX4_split 73 = .ok (.iastore, 1) := by decide +kernel
theorem dX4_split_74 : decode cX4_split 74 = .ok (.iinc 3 (-1), 3) := by decide +kernel
theorem dX4_split_77 : decode cX4_split 77 = .ok (.goto (-70), 3) := by decide +kernel
theorem dX4_split_80 : decode cX4_split 80 = .ok (.aload_n 0, 1) := by decide +kernel
theorem dX4_split_81 : decode cX4_split 81 = .ok (.getfield 7, 3) := by decide +kernel
theorem dX4_split_84 : decode cX4_split 84 = .ok (.bipush 9, 2) := by decide +kernel
theorem dX4_split_86 : decode cX4_split 86 = .ok (.iload_n 1, 1) := by decide +kernel
theorem dX4_split_87 : decode cX4_split 87 = .ok (.iadd, 1) := by decide +kernel
theorem dX4_split_88 : decode cX4_split 88 = .ok (.iconst 1, 1) := by decide +kernel
theorem dX4_split_89 : decode cX4_split 89 = .ok (.iadd, 1) := by decide +kernel
theorem dX4_split_90 : decode cX4_split 90 = .ok (.aload_n 0, 1) := by decide +kernel
theorem dX4_split_91 : decode cX4_split 91 = .ok (.getfield 7, 3) := by decide +kernel
theorem dX4_split_94 : decode cX4_split 94 = .ok (.bipush 9, 2) := by decide +kernel
theorem dX4_split_96 : decode cX4_split 96 = .ok (.iload_n 1, 1) := by decide +kernel
theorem dX4_split_97 : decode cX4_split 97 = .ok (.iadd, 1) := by decide +kernel
theorem dX4_split_98 : decode cX4_split 98 = .ok (.iaload, 1) := by decide +kernel
theorem dX4_split_99 : decode cX4_split 99 = .ok (.iload_n 2, 1) := by decide +kernel
theorem dX4_split_100 : decode cX4_split 100 = .ok (.isub, 1) := by decide +kernel
theorem dX4_split_101 : decode cX4_split 101 = .ok (.iastore, 1) := by decide +kernel
theorem dX4_split_102 : decode cX4_split 102 = .ok (.aload_n 0, 1) := by decide +kernel
theorem dX4_split_103 : decode cX4_split 103 = .ok (.getfield 7, 3) := by decide +kernel
theorem dX4_split_106 : decode cX4_split 106 = .ok (.bipush 9, 2) := by decide +kernel
theorem dX4_split_108 : decode cX4_split 108 = .ok (.iload_n 1, 1) := by decide +kernel
theorem dX4_split_109 : decode cX4_split 109 = .ok (.iadd, 1) := by decide +kernel
theorem dX4_split_110 : decode cX4_split 110 = .ok (.iload_n 2, 1) := by decide +kernel
theorem dX4_split_111 : decode cX4_split 111 = .ok (.iastore, 1) := by decide +kernel
theorem dX4_split_112 : decode cX4_split 112 = .ok (.aload_n 0, 1) := by decide +kernel
theorem dX4_split_113 : decode cX4_split 113 = .ok (.getfield 7, 3) := by decide +kernel
theorem dX4_split_116 : decode cX4_split 116 = .ok (.bipush 21, 2) := by decide +kernel
theorem dX4_split_118 : decode cX4_split 118 = .ok (.iload_n 1, 1) := by decide +kernel
theorem dX4_split_119 : decode cX4_split 119 = .ok (.iadd, 1) := by decide +kernel
theorem dX4_split_120 : decode cX4_split 120 = .ok (.iconst 1, 1) := by decide +kernel
theorem dX4_split_121 : decode cX4_split 121 = .ok (.iadd, 1) := by decide +kernel
theorem dX4_split_122 : decode cX4_split 122 = .ok (.aload_n 0, 1) := by decide +kernel
theorem dX4_split_123 : decode cX4_split 123 = .ok (.getfield 7, 3) := by decide +kernel
theorem dX4_split_126 : decode cX4_split 126 = .ok (.bipush 21, 2) := by decide +kernel
theorem dX4_split_128 : decode cX4_split 128 = .ok (.iload_n 1, 1) := by decide +kernel
theorem dX4_split_129 : decode cX4_split 129 = .ok (.iadd, 1) := by decide +kernel
theorem dX4_split_130 : decode cX4_split 130 = .ok (.iaload, 1) := by decide +kernel
theorem dX4_split_131 : decode cX4_split 131 = .ok (.iastore, 1) := by decide +kernel
theorem dX4_split_132 : decode cX4_split 132 = .ok (.aload_n 0, 1) := by decide +kernel
theorem dX4_split_133 : decode cX4_split 133 = .ok (.getfield 7, 3) := by decide +kernel
theorem dX4_split_136 : decode cX4_split 136 = .ok (.bipush 33, 2) := by decide +kernel
theorem dX4_split_138 : decode cX4_split 138 = .ok (.iload_n 1, 1) := by decide +kernel
theorem dX4_split_139 : decode cX4_split 139 = .ok (.iadd, 1) := by decide +kernel
theorem dX4_split_140 : decode cX4_split 140 = .ok (.iconst 1, 1) := by decide +kernel
theorem dX4_split_141 : decode cX4_split 141 = .ok (.iadd, 1) := by decide +kernel
theorem dX4_split_142 : decode cX4_split 142 = .ok (.aload_n 0, 1) := by decide +kernel
theorem dX4_split_143 : decode cX4_split 143 = .ok (.getfield 7, 3) := by decide +kernel
theorem dX4_split_146 : decode cX4_split 146 = .ok (.bipush 33, 2) := by decide +kernel
theorem dX4_split_148 : decode cX4_split 148 = .ok (.iload_n 1, 1) := by decide +kernel
theorem dX4_split_149 : decode cX4_split 149 = .ok (.iadd, 1) := by decide +kernel
theorem dX4_split_150 : decode cX4_split 150 = .ok (.iaload, 1) := by decide +kernel
theorem dX4_split_151 : decode cX4_split 151 = .ok (.iconst 1, 1) := by decide +kernel
theorem dX4_split_152 : decode cX4_split 152 = .ok (.iadd, 1) := by decide +kernel
theorem dX4_split_153 : decode cX4_split 153 = .ok (.iastore, 1) := by decide +kernel
theorem dX4_split_154 : decode cX4_split 154 = .ok (.aload_n 0, 1) := by decide +kernel
theorem dX4_split_155 : decode cX4_split 155 = .ok (.getfield 7, 3) := by decide +kernel
theorem dX4_split_158 : decode cX4_split 158 = .ok (.iconst 3, 1) := by decide +kernel
theorem dX4_split_159 : decode cX4_split 159 = .ok (.dup2, 1) := by decide +kernel
theorem dX4_split_160 : decode cX4_split 160 = .ok (.iaload, 1) := by decide +kernel
theorem dX4_split_161 : decode cX4_split 161 = .ok (.iconst 1, 1) := by decide +kernel
theorem dX4_split_162 : decode cX4_split 162 = .ok (.iadd, 1) := by decide +kernel
theorem dX4_split_163 : decode cX4_split 163 = .ok (.iastore, 1) := by decide +kernel
theorem dX4_split_164 : decode cX4_split 164 = .ok (.return_, 1) := by decide +kernel
theorem dX4_reactOne_0 : decode cX4_reactOne 0 = .ok (.aload_n 0, 1) := by decide +kernel
theorem dX4_reactOne_1 : decode cX4_reactOne 1 = .ok (.iload_n 1, 1) := by decide +kernel
theorem dX4_reactOne_2 : decode cX4_reactOne 2 = .ok (.invokevirtual 56, 3) := by decide +kernel
theorem dX4_reactOne_5 : decode cX4_reactOne 5 = .ok (.istore_n 2, 1) := by decide +kernel
theorem dX4_reactOne_6 : decode cX4_reactOne 6 = .ok (.iload_n 1, 1) := by decide +kernel
theorem dX4_reactOne_7 : decode cX4_reactOne 7 = .ok (.aload_n 0, 1) := by decide +kernel
theorem dX4_reactOne_8 : decode cX4_reactOne 8 = .ok (.iload_n 2, 1) := by decide +kernel
theorem dX4_reactOne_9 : decode cX4_reactOne 9 = .ok (.invokevirtual 60, 3) := by decide +kernel
theorem dX4_reactOne_12 : decode cX4_reactOne 12 = .ok (.isub, 1) := by decide +kernel
theorem dX4_reactOne_13 : decode cX4_reactOne 13 = .ok (.istore_n 3, 1) := by decide +kernel
theorem dX4_reactOne_14 : decode cX4_reactOne 14 = .ok (.iload_n 3, 1) := by decide +kernel
theorem dX4_reactOne_15 : decode cX4_reactOne 15 = .ok (.aload_n 0, 1) := by decide +kernel
theorem dX4_reactOne_16 : decode cX4_reactOne 16 = .ok (.getfield 7, 3) := by decide +kernel
theorem dX4_reactOne_19 : decode cX4_reactOne 19 = .ok (.bipush 9, 2) := by decide +kernel
theorem dX4_reactOne_21 : decode cX4_reactOne 21 = .ok (.iload_n 2, 1) := by decide +kernel
theorem dX4_reactOne_22 : decode cX4_reactOne 22 = .ok (.iadd, 1) := by decide +kernel
theorem dX4_reactOne_23 : decode cX4_reactOne 23 = .ok (.iaload, 1) := by decide +kernel
theorem dX4_reactOne_24 : decode cX4_reactOne 24 = .ok (.iconst 1, 1) := by decide +kernel
theorem dX4_reactOne_25 : decode cX4_reactOne 25 = .ok (.isub, 1) := by decide +kernel
theorem dX4_reactOne_26 : decode cX4_reactOne 26 = .ok (.if_icmp .ne 7, 3) := by decide +kernel
theorem dX4_reactOne_29 : decode cX4_reactOne 29 = .ok (.iconst 1, 1) := by decide +kernel
theorem dX4_reactOne_30 : decode cX4_reactOne 30 = .ok (.goto 4, 3) := by decide +kernel
theorem dX4_reactOne_33 : decode cX4_reactOne 33 = .ok (.iconst 0, 1) := by decide +kernel
theorem dX4_reactOne_34 : decode cX4_reactOne 34 = .ok (.istore 4, 2) := by decide +kernel
theorem dX4_reactOne_36 : decode cX4_reactOne 36 = .ok (.aload_n 0, 1) := by decide +kernel
theorem dX4_reactOne_37 : decode cX4_reactOne 37 = .ok (.getfield 7, 3) := by decide +kernel
theorem dX4_reactOne_40 : decode cX4_reactOne 40 = .ok (.sipush 195, 3) := by decide +kernel
theorem dX4_reactOne_43 : decode cX4_reactOne 43 = .ok (.iload_n 1, 1) := by decide +kernel
theorem dX4_reactOne_44 : decode cX4_reactOne 44 = .ok (.iadd, 1) := by decide +kernel
theorem dX4_reactOne_45 : decode cX4_reactOne 45 = .ok (.iconst 0, 1) := by decide +kernel
theorem dX4_reactOne_46 : decode cX4_reactOne 46 = .ok (.iastore, 1) := by decide +kernel
theorem dX4_reactOne_47 : decode cX4_reactOne 47 = .ok (.iload_n 3, 1) := by decide +kernel
theorem dX4_reactOne_48 : decode cX4_reactOne 48 = .ok (.ifCond .ne 17, 3) := by decide +kernel
theorem dX4_reactOne_51 : decode cX4_reactOne 51 = .ok (.aload_n 0, 1) := by decide +kernel
theorem dX4_reactOne_52 : decode cX4_reactOne 52 = .ok (.getfield 7, 3) := by decide +kernel
theorem dX4_reactOne_55 : decode cX4_reactOne 55 = .ok (.bipush 7, 2) := by decide +kernel
theorem dX4_reactOne_57 : decode cX4_reactOne 57 = .ok (.dup2, 1) := by decide +kernel
theorem dX4_reactOne_58 : decode cX4_reactOne 58 = .ok (.iaload, 1) := by decide +kernel
theorem dX4_reactOne_59 : decode cX4_reactOne 59 = .ok (.iconst 1, 1) := by decide +kernel
theorem dX4_reactOne_60 : decode cX4_reactOne 60 = .ok (.iadd, 1) := by decide +kernel
theorem dX4_reactOne_61 : decode cX4_reactOne 61 = .ok (.iastore, 1) := by decide +kernel
theorem dX4_reactOne_62 : decode cX4_reactOne 62 = .ok (.goto 45, 3) := by decide +kernel
theorem dX4_reactOne_65 : decode cX4_reactOne 65 = .ok (.aload_n 0, 1) := by decide +kernel
theorem dX4_reactOne_66 : decode cX4_reactOne 66 = .ok (.getfield 7, 3) := by decide +kernel
theorem dX4_reactOne_69 : decode cX4_reactOne 69 = .ok (.iconst 3, 1) := by decide +kernel
theorem dX4_reactOne_70 : decode cX4_reactOne 70 = .ok (.iaload, 1) := by decide +kernel
theorem dX4_reactOne_71 : decode cX4_reactOne 71 = .ok (.bipush 12, 2) := by decide +kernel
theorem dX4_reactOne_73 : decode cX4_reactOne 73 = .ok (.if_icmp .ge 23, 3) := by decide +kernel
theorem dX4_reactOne_76 : decode cX4_reactOne 76 = .ok (.aload_n 0, 1) := by decide +kernel
theorem dX4_reactOne_77 : decode cX4_reactOne 77 = .ok (.getfield 7, 3) := by decide +kernel
theorem dX4_reactOne_80 : decode cX4_reactOne 80 = .ok (.bipush 6, 2) := by decide +kernel
theorem dX4_reactOne_82 : decode cX4_reactOne 82 = .ok (.dup2, 1) := by decide +kernel
theorem dX4_reactOne_83 : decode cX4_reactOne 83 = .ok (.iaload, 1) := by decide +kernel
theorem dX4_reactOne_84 : decode cX4_reactOne 84 = .ok (.iconst 1, 1) := by decide +kernel
theorem dX4_reactOne_85 : decode cX4_reactOne 85 = .ok (.iadd, 1) := by decide +kernel
theorem dX4_reactOne_86 : decode cX4_reactOne 86 = .ok (.iastore, 1) := by decide +kernel
theorem dX4_reactOne_87 : decode cX4_reactOne 87 = .ok (.aload_n 0, 1) := by decide +kernel
theorem dX4_reactOne_88 : decode cX4_reactOne 88 = .ok (.iload_n 2, 1) := by decide +kernel
theorem dX4_reactOne_89 : decode cX4_reactOne 89 = .ok (.iload_n 3, 1) := by decide +kernel
theorem dX4_reactOne_90 : decode cX4_reactOne 90 = .ok (.invokevirtual 63, 3) := by decide +kernel
theorem dX4_reactOne_93 : decode cX4_reactOne 93 = .ok (.goto 14, 3) := by decide +kernel
theorem dX4_reactOne_96 : decode cX4_reactOne 96 = .ok (.aload_n 0, 1) := by decide +kernel
theorem dX4_reactOne_97 : decode cX4_reactOne 97 = .ok (.getfield 7, 3) := by decide +kernel
theorem dX4_reactOne_100 : decode cX4_reactOne 100 = .ok (.bipush 8, 2) := by decide +kernel
theorem dX4_reactOne_102 : decode cX4_reactOne 102 = .ok (.dup2, 1) := by decide +kernel
theorem dX4_reactOne_103 : decode cX4_reactOne 103 = .ok (.iaload, 1) := by decide +kernel
theorem dX4_reactOne_104 : decode cX4_reactOne 104 = .ok (.iconst 1, 1) := by decide +kernel
theorem dX4_reactOne_105 : decode cX4_reactOne 105 = .ok (.iadd, 1) := by decide +kernel
theorem dX4_reactOne_106 : decode cX4_reactOne 106 = .ok (.iastore, 1) := by decide +kernel
theorem dX4_reactOne_107 : decode cX4_reactOne 107 = .ok (.iload_n 3, 1) := by decide +kernel
theorem dX4_reactOne_108 : decode cX4_reactOne 108 = .ok (.ifCond .le 16, 3) := by decide +kernel
theorem dX4_reactOne_111 : decode cX4_reactOne 111 = .ok (.aload_n 0, 1) := by decide +kernel
theorem dX4_reactOne_112 : decode cX4_reactOne 112 = .ok (.iload_n 1, 1) := by decide +kernel
theorem dX4_reactOne_113 : decode cX4_reactOne 113 = .ok (.iconst 1, 1) := by decide +kernel
theorem dX4_reactOne_114 : decode cX4_reactOne 114 = .ok (.isub, 1) := by decide +kernel
theorem dX4_reactOne_115 : decode cX4_reactOne 115 = .ok (.aload_n 0, 1) := by decide +kernel
theorem dX4_reactOne_116 : decode cX4_reactOne 116 = .ok (.getfield 7, 3) := by decide +kernel
theorem dX4_reactOne_119 : decode cX4_reactOne 119 = .ok (.iconst 1, 1) := by decide +kernel
theorem dX4_reactOne_120 : decode cX4_reactOne 120 = .ok (.iaload, 1) := by decide +kernel
theorem dX4_reactOne_121 : decode cX4_reactOne 121 = .ok (.invokevirtual 67, 3) := by decide +kernel
theorem dX4_reactOne_124 : decode cX4_reactOne 124 = .ok (.iload 4, 2) := by decide +kernel
theorem dX4_reactOne_126 : decode cX4_reactOne 126 = .ok (.ifCond .ne 16, 3) := by decide +kernel
theorem dX4_reactOne_129 : decode cX4_reactOne 129 = .ok (.aload_n 0, 1) := by decide +kernel
theorem dX4_reactOne_130 : decode cX4_reactOne 130 = .ok (.iload_n 1, 1) := by decide +kernel
theorem dX4_reactOne_131 : decode cX4_reactOne 131 = .ok (.iconst 1, 1) := by decide +kernel
theorem dX4_reactOne_132 : decode cX4_reactOne 132 = .ok (.iadd, 1) := by decide +kernel
theorem dX4_reactOne_133 : decode cX4_reactOne 133 = .ok (.aload_n 0, 1) := by decide +kernel
theorem dX4_reactOne_134 : decode cX4_reactOne 134 = .ok (.getfield 7, 3) := by decide +kernel
theorem dX4_reactOne_137 : decode cX4_reactOne 137 = .ok (.iconst 1, 1) := by decide +kernel
theorem dX4_reactOne_138 : decode cX4_reactOne 138 = .ok (.iaload, 1) := by decide +kernel
theorem dX4_reactOne_139 : decode cX4_reactOne 139 = .ok (.invokevirtual 67, 3) := by decide +kernel
theorem dX4_reactOne_142 : decode cX4_reactOne 142 = .ok (.return_, 1) := by decide +kernel
theorem dX4_react_0 : decode cX4_react 0 = .ok (.iconst 0, 1) := by decide +kernel
theorem dX4_react_1 : decode cX4_react 1 = .ok (.istore_n 1, 1) := by decide +kernel
theorem dX4_react_2 : decode cX4_react 2 = .ok (.iconst 0, 1) := by decide +kernel
theorem dX4_react_3 : decode cX4_react 3 = .ok (.istore_n 2, 1) := by decide +kernel
theorem dX4_react_4 : decode cX4_react 4 = .ok (.iload_n 2, 1) := by decide +kernel
theorem dX4_react_5 : decode cX4_react 5 = .ok (.aload_n 0, 1) := by decide +kernel
theorem dX4_react_6 : decode cX4_react 6 = .ok (.getfield 7, 3) := by decide +kernel
theorem dX4_react_9 : decode cX4_react 9 = .ok (.iconst 4, 1) := by decide +kernel
theorem dX4_react_10 : decode cX4_react 10 = .ok (.iaload, 1) := by decide +kernel
theorem dX4_react_11 : decode cX4_react 11 = .ok (.if_icmp .ge 41, 3) := by decide +kernel
theorem dX4_react_14 : decode cX4_react 14 = .ok (.aload_n 0, 1) := by decide +kernel
theorem dX4_react_15 : decode cX4_react 15 = .ok (.getfield 7, 3) := by decide +kernel
theorem dX4_react_18 : decode cX4_react 18 = .ok (.sipush 195, 3) := by decide +kernel
theorem dX4_react_21 : decode cX4_react 21 = .ok (.iload_n 2, 1) := by decide +kernel
theorem dX4_react_22 : decode cX4_react 22 = .ok (.iadd, 1) := by decide +kernel
theorem dX4_react_23 : decode cX4_react 23 = .ok (.iaload, 1) := by decide +kernel
theorem dX4_react_24 : decode cX4_react 24 = .ok (.aload_n 0, 1) := by decide +kernel
theorem dX4_react_25 : decode cX4_react 25 = .ok (.getfield 7, 3) := by decide +kernel
theorem dX4_react_28 : decode cX4_react 28 = .ok (.iconst 0, 1) := by decide +kernel
theorem dX4_react_29 : decode cX4_react 29 = .ok (.iaload, 1) := by decide +kernel
theorem dX4_react_30 : decode cX4_react 30 = .ok (.if_icmp .lt 16, 3) := by decide +kernel
theorem dX4_react_33 : decode cX4_react 33 = .ok (.aload_n 0, 1) := by decide +kernel
theorem dX4_react_34 : decode cX4_react 34 = .ok (.iload_n 2, 1) := by decide +kernel
theorem dX4_react_35 : decode cX4_react 35 = .ok (.invokevirtual 70, 3) := by decide +kernel
theorem dX4_react_38 : decode cX4_react 38 = .ok (.iinc 1 1, 3) := by decide +kernel
theorem dX4_react_41 : decode cX4_react 41 = .ok (.iconst 0, 1) := by decide +kernel
theorem dX4_react_42 : decode cX4_react 42 = .ok (.istore_n 2, 1) := by decide +kernel
theorem dX4_react_43 : decode cX4_react 43 = .ok (.goto (-39), 3) := by decide +kernel
theorem dX4_react_46 : decode cX4_react 46 = .ok (.iinc 2 1, 3) := by decide +kernel
theorem dX4_react_49 : decode cX4_react 49 = .ok (.goto (-45), 3) := by decide +kernel
theorem dX4_react_52 : decode cX4_react 52 = .ok (.iload_n 1, 1) := by decide +kernel
theorem dX4_react_53 : decode cX4_react 53 = .ok (.ireturn, 1) := by decide +kernel
theorem ggX4_isStory_X4_in : GoodIn wsX4_isStory wsX4_in := goodIn_r _ [5] rfl (by decide +kernel)
theorem gX4_isStory_X4_in : GoodIn wsX4_isStory (va_wsS RX4 44 yX4_in wsX4_in) := goodIn_app (goodIn_r _ [2, 3, 4] rfl (by decide +kernel)) ggX4_isStory_X4_in
theorem ggX4_isWord_X4_isStory : GoodIn wsX4_isWord wsX4_isStory := goodIn_r _ [6, 1, 7, 8, 5, 9, 10, 11, 12, 13, 14, 15, 16, 17, 18, 19, 20, 21, 22, 23, 24, 25, 26, 27, 28, 29, 30] rfl (by decide +kernel)
theorem gX4_isWord_X4_isStory : GoodIn wsX4_isWord (wsV RX4 48 RX4 yX4_isStory wsX4_isStory) := goodIn_app (goodIn_r _ [2, 3, 4, 5] rfl (by decide +kernel)) ggX4_isWord_X4_isStory
theorem ggX4_isWord_X4_in : GoodIn wsX4_isWord wsX4_in := goodIn_r _ [9] rfl (by decide +kernel)
theorem gX4_isWord_X4_in : GoodIn wsX4_isWord (va_wsS RX4 44 yX4_in wsX4_in) := goodIn_app (goodIn_r _ [7, 8, 5] rfl (by decide +kernel)) ggX4_isWord_X4_in
theorem ggX4_reactOne_X4_storyOf : GoodIn wsX4_reactOne wsX4_storyOf := goodIn_r _ [6, 1, 19, 20, 21, 22, 23, 24, 25, 26, 27, 28, 29, 30, 31, 32, 33, 34, 35, 36, 37, 38, 39] rfl (by decide +kernel)
theorem gX4_reactOne_X4_storyOf : GoodIn wsX4_reactOne (wsV RX4 56 RX4 yX4_storyOf wsX4_storyOf) := goodIn_app (goodIn_r _ [2, 3, 4, 5] rfl (by decide +kernel)) ggX4_reactOne_X4_storyOf
theorem ggX4_reactOne_X4_first : GoodIn wsX4_reactOne wsX4_first := goodIn_r _ [10, 1, 19, 20, 21, 22, 23, 24, 25, 26, 27, 28, 29, 30, 31, 32, 33, 34, 35, 36, 37, 38, 39] rfl (by decide +kernel)
theorem gX4_reactOne_X4_first : GoodIn wsX4_reactOne (wsV RX4 60 RX4 yX4_first wsX4_first) := goodIn_app (goodIn_r _ [7, 8, 9, 5] rfl (by decide +kernel)) ggX4_reactOne_X4_first
theorem ggX4_reactOne_X4_split : GoodIn wsX4_reactOne wsX4_split := goodIn_r _ [14, 1, 19, 20, 21, 22, 23, 24, 25, 26, 27, 28, 29, 30, 31, 32, 33, 34, 35, 36, 37, 38, 39] rfl (by decide +kernel)
theorem gX4_reactOne_X4_split : GoodIn wsX4_reactOne (wsV RX4 63 RX4 yX4_split wsX4_split) := goodIn_app (goodIn_r _ [11, 12, 13, 5] rfl (by decide +kernel)) ggX4_reactOne_X4_split
theorem ggX4_reactOne_X4_warm : GoodIn wsX4_reactOne wsX4_warm := goodIn_r _ [18, 1, 19, 20, 21, 22, 23, 24, 25, 26, 27, 28, 29, 30, 31, 32, 33, 34, 35, 36, 37, 38, 39] rfl (by decide +kernel)
theorem gX4_reactOne_X4_warm : GoodIn wsX4_reactOne (wsV RX4 67 RX4 yX4_warm wsX4_warm) := goodIn_app (goodIn_r _ [15, 16, 17, 5] rfl (by decide +kernel)) ggX4_reactOne_X4_warm
theorem ggX4_react_X4_reactOne : GoodIn wsX4_react wsX4_reactOne := goodIn_r _ [6, 1, 7, 8, 9, 5, 10, 11, 12, 13, 14, 15, 16, 17, 18, 19, 20, 21, 22, 23, 24, 25, 26, 27, 28, 29, 30, 31, 32, 33, 34, 35, 36, 37, 38, 39, 40, 41, 42, 43] rfl (by decide +kernel)
theorem gX4_react_X4_reactOne : GoodIn wsX4_react (wsV RX4 70 RX4 yX4_reactOne wsX4_reactOne) := goodIn_app (goodIn_r _ [2, 3, 4, 5] rfl (by decide +kernel)) ggX4_react_X4_reactOne
