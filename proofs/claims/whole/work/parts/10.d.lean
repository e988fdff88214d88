theorem dX0_record_0 : decode cX0_record 0 = .ok (.aload_n 0, 1) := by decide +kernel
theorem dX0_record_1 : decode cX0_record 1 = .ok (.getfield 11, 3) := by decide +kernel
theorem dX0_record_4 : decode cX0_record 4 = .ok (.aload_n 0, 1) := by decide +kernel
theorem dX0_record_5 : decode cX0_record 5 = .ok (.getfield 18, 3) := by decide +kernel
theorem dX0_record_8 : decode cX0_record 8 = .ok (.aload_n 0, 1) := by decide +kernel
theorem dX0_record_9 : decode cX0_record 9 = .ok (.getfield 22, 3) := by decide +kernel
theorem dX0_record_12 : decode cX0_record 12 = .ok (.iadd, 1) := by decide +kernel
theorem dX0_record_13 : decode cX0_record 13 = .ok (.bipush 6, 2) := by decide +kernel
theorem dX0_record_15 : decode cX0_record 15 = .ok (.irem, 1) := by decide +kernel
theorem dX0_record_16 : decode cX0_record 16 = .ok (.aaload, 1) := by decide +kernel
theorem dX0_record_17 : decode cX0_record 17 = .ok (.aload_n 1, 1) := by decide +kernel
theorem dX0_record_18 : decode cX0_record 18 = .ok (.invokevirtual 25, 3) := by decide +kernel
theorem dX0_record_21 : decode cX0_record 21 = .ok (.aload_n 0, 1) := by decide +kernel
theorem dX0_record_22 : decode cX0_record 22 = .ok (.getfield 22, 3) := by decide +kernel
theorem dX0_record_25 : decode cX0_record 25 = .ok (.bipush 6, 2) := by decide +kernel
theorem dX0_record_27 : decode cX0_record 27 = .ok (.if_icmp .ge 16, 3) := by decide +kernel
theorem dX0_record_30 : decode cX0_record 30 = .ok (.aload_n 0, 1) := by decide +kernel
theorem dX0_record_31 : decode cX0_record 31 = .ok (.dup, 1) := by decide +kernel
theorem dX0_record_32 : decode cX0_record 32 = .ok (.getfield 22, 3) := by decide +kernel
theorem dX0_record_35 : decode cX0_record 35 = .ok (.iconst 1, 1) := by decide +kernel
theorem dX0_record_36 : decode cX0_record 36 = .ok (.iadd, 1) := by decide +kernel
theorem dX0_record_37 : decode cX0_record 37 = .ok (.putfield 22, 3) := by decide +kernel
theorem dX0_record_40 : decode cX0_record 40 = .ok (.goto 16, 3) := by decide +kernel
theorem dX0_record_43 : decode cX0_record 43 = .ok (.aload_n 0, 1) := by decide +kernel
theorem dX0_record_44 : decode cX0_record 44 = .ok (.aload_n 0, 1) := by decide +kernel
theorem dX0_record_45 : decode cX0_record 45 = .ok (.getfield 18, 3) := by decide +kernel
theorem dX0_record_48 : decode cX0_record 48 = .ok (.iconst 1, 1) := by decide +kernel
theorem dX0_record_49 : decode cX0_record 49 = .ok (.iadd, 1) := by decide +kernel
theorem dX0_record_50 : decode cX0_record 50 = .ok (.bipush 6, 2) := by decide +kernel
theorem dX0_record_52 : decode cX0_record 52 = .ok (.irem, 1) := by decide +kernel
theorem dX0_record_53 : decode cX0_record 53 = .ok (.putfield 18, 3) := by decide +kernel
theorem dX0_record_56 : decode cX0_record 56 = .ok (.return_, 1) := by decide +kernel
theorem dX0_takeBack_0 : decode cX0_takeBack 0 = .ok (.aload_n 0, 1) := by decide +kernel
theorem dX0_takeBack_1 : decode cX0_takeBack 1 = .ok (.dup, 1) := by decide +kernel
theorem dX0_takeBack_2 : decode cX0_takeBack 2 = .ok (.getfield 22, 3) := by decide +kernel
theorem dX0_takeBack_5 : decode cX0_takeBack 5 = .ok (.iconst 1, 1) := by decide +kernel
theorem dX0_takeBack_6 : decode cX0_takeBack 6 = .ok (.isub, 1) := by decide +kernel
theorem dX0_takeBack_7 : decode cX0_takeBack 7 = .ok (.putfield 22, 3) := by decide +kernel
theorem dX0_takeBack_10 : decode cX0_takeBack 10 = .ok (.aload_n 1, 1) := by decide +kernel
theorem dX0_takeBack_11 : decode cX0_takeBack 11 = .ok (.aload_n 0, 1) := by decide +kernel
theorem dX0_takeBack_12 : decode cX0_takeBack 12 = .ok (.getfield 11, 3) := by decide +kernel
theorem dX0_takeBack_15 : decode cX0_takeBack 15 = .ok (.aload_n 0, 1) := by decide +kernel
theorem dX0_takeBack_16 : decode cX0_takeBack 16 = .ok (.getfield 18, 3) := by decide +kernel
theorem dX0_takeBack_19 : decode cX0_takeBack 19 = .ok (.aload_n 0, 1) := by decide +kernel
theorem dX0_takeBack_20 : decode cX0_takeBack 20 = .ok (.getfield 22, 3) := by decide +kernel
theorem dX0_takeBack_23 : decode cX0_takeBack 23 = .ok (.iadd, 1) := by decide +kernel
theorem dX0_takeBack_24 : decode cX0_takeBack 24 = .ok (.bipush 6, 2) := by decide +kernel
theorem dX0_takeBack_26 : decode cX0_takeBack 26 = .ok (.irem, 1) := by decide +kernel
theorem dX0_takeBack_27 : decode cX0_takeBack 27 = .ok (.aaload, 1) := by decide +kernel
theorem dX0_takeBack_28 : decode cX0_takeBack 28 = .ok (.invokevirtual 25, 3) := by decide +kernel
theorem dX0_takeBack_31 : decode cX0_takeBack 31 = .ok (.return_, 1) := by decide +kernel
theorem dX1_charactersIn_0 : decode cX1_charactersIn 0 = .ok (.lload_n 0, 1) := by decide +kernel
theorem dX1_charactersIn_1 : decode cX1_charactersIn 1 = .ok (.lstore_n 2, 1) := by decide +kernel
theorem dX1_charactersIn_2 : decode cX1_charactersIn 2 = .ok (.iconst 0, 1) := by decide +kernel
theorem dX1_charactersIn_3 : decode cX1_charactersIn 3 = .ok (.istore 4, 2) := by decide +kernel
theorem dX1_charactersIn_5 : decode cX1_charactersIn 5 = .ok (.iload 4, 2) := by decide +kernel
theorem dX1_charactersIn_7 : decode cX1_charactersIn 7 = .ok (.bipush 8, 2) := by decide +kernel
theorem dX1_charactersIn_9 : decode cX1_charactersIn 9 = .ok (.if_icmp .ge 38, 3) := by decide +kernel
theorem dX1_charactersIn_12 : decode cX1_charactersIn 12 = .ok (.lload_n 2, 1) := by decide +kernel
theorem dX1_charactersIn_13 : decode cX1_charactersIn 13 = .ok (.lconst 0, 1) := by decide +kernel
theorem dX1_charactersIn_14 : decode cX1_charactersIn 14 = .ok (.lcmp, 1) := by decide +kernel
theorem dX1_charactersIn_15 : decode cX1_charactersIn 15 = .ok (.ifCond .eq 32, 3) := by decide +kernel
theorem dX1_charactersIn_18 : decode cX1_charactersIn 18 = .ok (.lload_n 2, 1) := by decide +kernel
theorem dX1_charactersIn_19 : decode cX1_charactersIn 19 = .ok (.ldc2_w 15, 3) := by decide +kernel
theorem dX1_charactersIn_22 : decode cX1_charactersIn 22 = .ok (.land, 1) := by decide +kernel
theorem dX1_charactersIn_23 : decode cX1_charactersIn 23 = .ok (.l2i, 1) := by decide +kernel
theorem dX1_charactersIn_24 : decode cX1_charactersIn 24 = .ok (.bipush 33, 2) := by decide +kernel
theorem dX1_charactersIn_26 : decode cX1_charactersIn 26 = .ok (.bipush 126, 2) := by decide +kernel
theorem dX1_charactersIn_28 : decode cX1_charactersIn 28 = .ok (.invokestatic 17, 3) := by decide +kernel
theorem dX1_charactersIn_31 : decode cX1_charactersIn 31 = .ok (.ifCond .ne 5, 3) := by decide +kernel
theorem dX1_charactersIn_34 : decode cX1_charactersIn 34 = .ok (.iconst 0, 1) := by decide +kernel
theorem dX1_charactersIn_35 : decode cX1_charactersIn 35 = .ok (.ireturn, 1) := by decide +kernel
theorem dX1_charactersIn_36 : decode cX1_charactersIn 36 = .ok (.lload_n 2, 1) := by decide +kernel
theorem dX1_charactersIn_37 : decode cX1_charactersIn 37 = .ok (.bipush 8, 2) := by decide +kernel
theorem dX1_charactersIn_39 : decode cX1_charactersIn 39 = .ok (.lushr, 1) := by decide +kernel
theorem dX1_charactersIn_40 : decode cX1_charactersIn 40 = .ok (.lstore_n 2, 1) := by decide +kernel
theorem dX1_charactersIn_41 : decode cX1_charactersIn 41 = .ok (.iinc 4 1, 3) := by decide +kernel
theorem dX1_charactersIn_44 : decode cX1_charactersIn 44 = .ok (.goto (-39), 3) := by decide +kernel
theorem dX1_charactersIn_47 : decode cX1_charactersIn 47 = .ok (.iload 4, 2) := by decide +kernel
theorem dX1_charactersIn_49 : decode cX1_charactersIn 49 = .ok (.ireturn, 1) := by decide +kernel
theorem dX1_add_0 : decode cX1_add 0 = .ok (.iload_n 3, 1) := by decide +kernel
theorem dX1_add_1 : decode cX1_add 1 = .ok (.iconst 1, 1) := by decide +kernel
theorem dX1_add_2 : decode cX1_add 2 = .ok (.isub, 1) := by decide +kernel
theorem dX1_add_3 : decode cX1_add 3 = .ok (.istore 4, 2) := by decide +kernel
theorem dX1_add_5 : decode cX1_add 5 = .ok (.iload 4, 2) := by decide +kernel
theorem dX1_add_7 : decode cX1_add 7 = .ok (.ifCond .lt 41, 3) := by decide +kernel
theorem dX1_add_10 : decode cX1_add 10 = .ok (.aload_n 0, 1) := by decide +kernel
theorem dX1_add_11 : decode cX1_add 11 = .ok (.getfield 11, 3) := by decide +kernel
theorem dX1_add_14 : decode cX1_add 14 = .ok (.aload_n 0, 1) := by decide +kernel
theorem dX1_add_15 : decode cX1_add 15 = .ok (.getfield 21, 3) := by decide +kernel
theorem dX1_add_18 : decode cX1_add 18 = .ok (.lload_n 1, 1) := by decide +kernel
theorem dX1_add_19 : decode cX1_add 19 = .ok (.bipush 8, 2) := by decide +kernel
theorem dX1_add_21 : decode cX1_add 21 = .ok (.iload 4, 2) := by decide +kernel
theorem dX1_add_23 : decode cX1_add 23 = .ok (.imul, 1) := by decide +kernel
theorem dX1_add_24 : decode cX1_add 24 = .ok (.lushr, 1) := by decide +kernel
theorem dX1_add_25 : decode cX1_add 25 = .ok (.ldc2_w 15, 3) := by decide +kernel
theorem dX1_add_28 : decode cX1_add 28 = .ok (.land, 1) := by decide +kernel
theorem dX1_add_29 : decode cX1_add 29 = .ok (.l2i, 1) := by decide +kernel
theorem dX1_add_30 : decode cX1_add 30 = .ok (.i2c, 1) := by decide +kernel
theorem dX1_add_31 : decode cX1_add 31 = .ok (.castore, 1) := by decide +kernel
theorem dX1_add_32 : decode cX1_add 32 = .ok (.aload_n 0, 1) := by decide +kernel
theorem dX1_add_33 : decode cX1_add 33 = .ok (.dup, 1) := by decide +kernel
theorem dX1_add_34 : decode cX1_add 34 = .ok (.getfield 21, 3) := by decide +kernel
theorem dX1_add_37 : decode cX1_add 37 = .ok (.iconst 1, 1) := by decide +kernel
theorem dX1_add_38 : decode cX1_add 38 = .ok (.iadd, 1) := by decide +kernel
theorem dX1_add_39 : decode cX1_add 39 = .ok (.putfield 21, 3) := by decide +kernel
theorem dX1_add_42 : decode cX1_add 42 = .ok (.iinc 4 (-1), 3) := by decide +kernel
theorem dX1_add_45 : decode cX1_add 45 = .ok (.goto (-40), 3) := by decide +kernel
theorem dX1_add_48 : decode cX1_add 48 = .ok (.return_, 1) := by decide +kernel
theorem dX1_firstFault_0 : decode cX1_firstFault 0 = .ok (.iconst 0, 1) := by decide +kernel
theorem dX1_firstFault_1 : decode cX1_firstFault 1 = .ok (.istore_n 1, 1) := by decide +kernel
theorem dX1_firstFault_2 : decode cX1_firstFault 2 = .ok (.iconst 0, 1) := by decide +kernel
theorem dX1_firstFault_3 : decode cX1_firstFault 3 = .ok (.istore_n 2, 1) := by decide +kernel
theorem dX1_firstFault_4 : decode cX1_firstFault 4 = .ok (.iload_n 2, 1) := by decide +kernel
theorem dX1_firstFault_5 : decode cX1_firstFault 5 = .ok (.aload_n 0, 1) := by decide +kernel
theorem dX1_firstFault_6 : decode cX1_firstFault 6 = .ok (.getfield 21, 3) := by decide +kernel
theorem dX1_firstFault_9 : decode cX1_firstFault 9 = .ok (.if_icmp .ge 27, 3) := by decide +kernel
theorem dX1_firstFault_12 : decode cX1_firstFault 12 = .ok (.iload_n 1, 1) := by decide +kernel
theorem dX1_firstFault_13 : decode cX1_firstFault 13 = .ok (.aload_n 0, 1) := by decide +kernel
theorem dX1_firstFault_14 : decode cX1_firstFault 14 = .ok (.getfield 11, 3) := by decide +kernel
theorem dX1_firstFault_17 : decode cX1_firstFault 17 = .ok (.iload_n 2, 1) := by decide +kernel
theorem dX1_firstFault_18 : decode cX1_firstFault 18 = .ok (.caload, 1) := by decide +kernel
theorem dX1_firstFault_19 : decode cX1_firstFault 19 = .ok (.invokestatic 25, 3) := by decide +kernel
theorem dX1_firstFault_22 : decode cX1_firstFault 22 = .ok (.istore_n 1, 1) := by decide +kernel
theorem dX1_firstFault_23 : decode cX1_firstFault 23 = .ok (.iload_n 1, 1) := by decide +kernel
theorem dX1_firstFault_24 : decode cX1_firstFault 24 = .ok (.iconst 4, 1) := by decide +kernel
theorem dX1_firstFault_25 : decode cX1_firstFault 25 = .ok (.if_icmp .ne 5, 3) := by decide +kernel
theorem dX1_firstFault_28 : decode cX1_firstFault 28 = .ok (.iload_n 2, 1) := by decide +kernel
theorem dX1_firstFault_29 : decode cX1_firstFault 29 = .ok (.ireturn, 1) := by decide +kernel
theorem dX1_firstFault_30 : decode cX1_firstFault 30 = .ok (.iinc 2 1, 3) := by decide +kernel
theorem dX1_firstFault_33 : decode cX1_firstFault 33 = .ok (.goto (-29), 3) := by decide +kernel
theorem dX1_firstFault_36 : decode cX1_firstFault 36 = .ok (.iload_n 1, 1) := by decide +kernel
theorem dX1_firstFault_37 : decode cX1_firstFault 37 = .ok (.ifCond .ne 10, 3) := by decide +kernel
theorem dX1_firstFault_40 : decode cX1_firstFault 40 = .ok (.aload_n 0, 1) := by decide +kernel
theorem dX1_firstFault_41 : decode cX1_firstFault 41 = .ok (.getfield 21, 3) := by decide +kernel
theorem dX1_firstFault_44 : decode cX1_firstFault 44 = .ok (.goto 5, 3) := by decide +kernel
theorem dX1_firstFault_47 : decode cX1_firstFault 47 = .ok (.bipush (-6), 2) := by decide +kernel
theorem dX1_firstFault_49 : decode cX1_firstFault 49 = .ok (.ireturn, 1) := by decide +kernel
theorem dX1_placeBehind_0 : decode cX1_placeBehind 0 = .ok (.iload_n 1, 1) := by decide +kernel
theorem dX1_placeBehind_1 : decode cX1_placeBehind 1 = .ok (.invokestatic 29, 3) := by decide +kernel
theorem dX1_placeBehind_4 : decode cX1_placeBehind 4 = .ok (.ifCond .eq 5, 3) := by decide +kernel
theorem dX1_placeBehind_7 : decode cX1_placeBehind 7 = .ok (.iconst 1, 1) := by decide +kernel
theorem dX1_placeBehind_8 : decode cX1_placeBehind 8 = .ok (.ireturn, 1) := by decide +kernel
theorem dX1_placeBehind_9 : decode cX1_placeBehind 9 = .ok (.iload_n 0, 1) := by decide +kernel
theorem dX1_placeBehind_10 : decode cX1_placeBehind 10 = .ok (.ifCond .ne 5, 3) := by decide +kernel
theorem dX1_placeBehind_13 : decode cX1_placeBehind 13 = .ok (.iconst 4, 1) := by decide +kernel
theorem dX1_placeBehind_14 : decode cX1_placeBehind 14 = .ok (.ireturn, 1) := by decide +kernel
theorem dX1_placeBehind_15 : decode cX1_placeBehind 15 = .ok (.iload_n 1, 1) := by decide +kernel
theorem dX1_placeBehind_16 : decode cX1_placeBehind 16 = .ok (.bipush 47, 2) := by decide +kernel
theorem dX1_placeBehind_18 : decode cX1_placeBehind 18 = .ok (.if_icmp .ne 5, 3) := by decide +kernel
theorem dX1_placeBehind_21 : decode cX1_placeBehind 21 = .ok (.iconst 0, 1) := by decide +kernel
theorem dX1_placeBehind_22 : decode cX1_placeBehind 22 = .ok (.ireturn, 1) := by decide +kernel
theorem dX1_placeBehind_23 : decode cX1_placeBehind 23 = .ok (.iload_n 0, 1) := by decide +kernel
theorem dX1_placeBehind_24 : decode cX1_placeBehind 24 = .ok (.iconst 1, 1) := by decide +kernel
theorem dX1_placeBehind_25 : decode cX1_placeBehind 25 = .ok (.if_icmp .ne 16, 3) := by decide +kernel
theorem dX1_placeBehind_28 : decode cX1_placeBehind 28 = .ok (.iload_n 1, 1) := by decide +kernel
theorem dX1_placeBehind_29 : decode cX1_placeBehind 29 = .ok (.bipush 49, 2) := by decide +kernel
theorem dX1_placeBehind_31 : decode cX1_placeBehind 31 = .ok (.bipush 57, 2) := by decide +kernel
theorem dX1_placeBehind_33 : decode cX1_placeBehind 33 = .ok (.invokestatic 17, 3) := by decide +kernel
theorem dX1_placeBehind_36 : decode cX1_placeBehind 36 = .ok (.ifCond .eq 5, 3) := by decide +kernel
theorem dX1_placeBehind_39 : decode cX1_placeBehind 39 = .ok (.iconst 2, 1) := by decide +kernel
theorem dX1_placeBehind_40 : decode cX1_placeBehind 40 = .ok (.ireturn, 1) := by decide +kernel
theorem dX1_placeBehind_41 : decode cX1_placeBehind 41 = .ok (.iload_n 0, 1) := by decide +kernel
theorem dX1_placeBehind_42 : decode cX1_placeBehind 42 = .ok (.iconst 2, 1) := by decide +kernel
theorem dX1_placeBehind_43 : decode cX1_placeBehind 43 = .ok (.if_icmp .ne 16, 3) := by decide +kernel
theorem dX1_placeBehind_46 : decode cX1_placeBehind 46 = .ok (.iload_n 1, 1) := by decide +kernel
theorem dX1_placeBehind_47 : decode cX1_placeBehind 47 = .ok (.bipush 48, 2) := by decide +kernel
theorem dX1_placeBehind_49 : decode cX1_placeBehind 49 = .ok (.bipush 57, 2) := by decide +kernel
theorem dX1_placeBehind_51 : decode cX1_placeBehind 51 = .ok (.invokestatic 17, 3) := by decide +kernel
theorem dX1_placeBehind_54 : decode cX1_placeBehind 54 = .ok (.ifCond .eq 5, 3) := by decide +kernel
theorem dX1_placeBehind_57 : decode cX1_placeBehind 57 = .ok (.iconst 3, 1) := by decide +kernel
theorem dX1_placeBehind_58 : decode cX1_placeBehind 58 = .ok (.ireturn, 1) := by decide +kernel
theorem dX1_placeBehind_59 : decode cX1_placeBehind 59 = .ok (.iconst 4, 1) := by decide +kernel
theorem dX1_placeBehind_60 : decode cX1_placeBehind 60 = .ok (.ireturn, 1) := by decide +kernel
theorem dX1_isWord_0 : decode cX1_isWord 0 = .ok (.iload_n 0, 1) := by decide +kernel
theorem dX1_isWord_1 : decode cX1_isWord 1 = .ok (.bipush 97, 2) := by decide +kernel
theorem dX1_isWord_3 : decode cX1_isWord 3 = .ok (.bipush 122, 2) := by decide +kernel
theorem dX1_isWord_5 : decode cX1_isWord 5 = .ok (.invokestatic 17, 3) := by decide +kernel
theorem dX1_isWord_8 : decode cX1_isWord 8 = .ok (.ireturn, 1) := by decide +kernel
theorem dX1_storiesIn_0 : decode cX1_storiesIn 0 = .ok (.iconst 1, 1) := by decide +kernel
theorem dX1_storiesIn_1 : decode cX1_storiesIn 1 = .ok (.istore_n 1, 1) := by decide +kernel
theorem dX1_storiesIn_2 : decode cX1_storiesIn 2 = .ok (.iconst 0, 1) := by decide +kernel
theorem dX1_storiesIn_3 : decode cX1_storiesIn 3 = .ok (.istore_n 2, 1) := by decide +kernel
theorem dX1_storiesIn_4 : decode cX1_storiesIn 4 = .ok (.iload_n 2, 1) := by decide +kernel
theorem dX1_storiesIn_5 : decode cX1_storiesIn 5 = .ok (.aload_n 0, 1) := by decide +kernel
theorem dX1_storiesIn_6 : decode cX1_storiesIn 6 = .ok (.getfield 21, 3) := by decide +kernel
theorem dX1_storiesIn_9 : decode cX1_storiesIn 9 = .ok (.if_icmp .ge 28, 3) := by decide +kernel
theorem dX1_storiesIn_12 : decode cX1_storiesIn 12 = .ok (.iload_n 1, 1) := by decide +kernel
theorem dX1_storiesIn_13 : decode cX1_storiesIn 13 = .ok (.aload_n 0, 1) := by decide +kernel
theorem dX1_storiesIn_14 : decode cX1_storiesIn 14 = .ok (.getfield 11, 3) := by decide +kernel
theorem dX1_storiesIn_17 : decode cX1_storiesIn 17 = .ok (.iload_n 2, 1) := by decide +kernel
theorem dX1_storiesIn_18 : decode cX1_storiesIn 18 = .ok (.caload, 1) := by decide +kernel
theorem dX1_storiesIn_19 : decode cX1_storiesIn 19 = .ok (.bipush 47, 2) := by decide +kernel
theorem dX1_storiesIn_21 : decode cX1_storiesIn 21 = .ok (.if_icmp .ne 7, 3) := by decide +kernel
theorem dX1_storiesIn_24 : decode cX1_storiesIn 24 = .ok (.iconst 1, 1) := by decide +kernel
theorem dX1_storiesIn_25 : decode cX1_storiesIn 25 = .ok (.goto 4, 3) := by decide +kernel
theorem dX1_storiesIn_28 : decode cX1_storiesIn 28 = .ok (.iconst 0, 1) := by decide +kernel
theorem dX1_storiesIn_29 : decode cX1_storiesIn 29 = .ok (.iadd, 1) := by decide +kernel
theorem dX1_storiesIn_30 : decode cX1_storiesIn 30 = .ok (.istore_n 1, 1) := by decide +kernel
theorem dX1_storiesIn_31 : decode cX1_storiesIn 31 = .ok (.iinc 2 1, 3) := by decide +kernel
theorem dX1_storiesIn_34 : decode cX1_storiesIn 34 = .ok (.goto (-30), 3) := by decide +kernel
theorem dX1_storiesIn_37 : decode cX1_storiesIn 37 = .ok (.iload_n 1, 1) := by decide +kernel
theorem dX1_storiesIn_38 : decode cX1_storiesIn 38 = .ok (.ireturn, 1) := by decide +kernel
theorem dX1_wordsIn_0 : decode cX1_wordsIn 0 = .ok (.iconst 0, 1) := by decide +kernel
theorem dX1_wordsIn_1 : decode cX1_wordsIn 1 = .ok (.istore_n 1, 1) := by decide +kernel
theorem dX1_wordsIn_2 : decode cX1_wordsIn 2 = .ok (.iconst 0, 1) := by decide +kernel
theorem dX1_wordsIn_3 : decode cX1_wordsIn 3 = .ok (.istore_n 2, 1) := by decide +kernel
theorem dX1_wordsIn_4 : decode cX1_wordsIn 4 = .ok (.iload_n 2, 1) := by decide +kernel
theorem dX1_wordsIn_5 : decode cX1_wordsIn 5 = .ok (.aload_n 0, 1) := by decide +kernel
theorem dX1_wordsIn_6 : decode cX1_wordsIn 6 = .ok (.getfield 21, 3) := by decide +kernel
theorem dX1_wordsIn_9 : decode cX1_wordsIn 9 = .ok (.if_icmp .ge 29, 3) := by decide +kernel
theorem dX1_wordsIn_12 : decode cX1_wordsIn 12 = .ok (.iload_n 1, 1) := by decide +kernel
theorem dX1_wordsIn_13 : decode cX1_wordsIn 13 = .ok (.aload_n 0, 1) := by decide +kernel
theorem dX1_wordsIn_14 : decode cX1_wordsIn 14 = .ok (.getfield 11, 3) := by decide +kernel
theorem dX1_wordsIn_17 : decode cX1_wordsIn 17 = .ok (.iload_n 2, 1) := by decide +kernel
theorem dX1_wordsIn_18 : decode cX1_wordsIn 18 = .ok (.caload, 1) := by decide +kernel
theorem dX1_wordsIn_19 : decode cX1_wordsIn 19 = .ok (.invokestatic 29, 3) := by decide +kernel
theorem dX1_wordsIn_22 : decode cX1_wordsIn 22 = .ok (.ifCond .eq 7, 3) := by decide +kernel
theorem dX1_wordsIn_25 : decode cX1_wordsIn 25 = .ok (.iconst 1, 1) := by decide +kernel
theorem dX1_wordsIn_26 : decode cX1_wordsIn 26 = .ok (.goto 4, 3) := by decide +kernel
theorem dX1_wordsIn_29 : decode cX1_wordsIn 29 = .ok (.iconst 0, 1) := by decide +kernel
theorem dX1_wordsIn_30 : decode cX1_wordsIn 30 = .ok (.iadd, 1) := by decide +kernel
theorem dX1_wordsIn_31 : decode cX1_wordsIn 31 = .ok (.istore_n 1, 1) := by decide +kernel
theorem dX1_wordsIn_32 : decode cX1_wordsIn 32 = .ok (.iinc 2 1, 3) := by decide +kernel
theorem dX1_wordsIn_35 : decode cX1_wordsIn 35 = .ok (.goto (-31), 3) := by decide +kernel
theorem dX1_wordsIn_38 : decode cX1_wordsIn 38 = .ok (.iload_n 1, 1) := by decide +kernel
theorem dX1_wordsIn_39 : decode cX1_wordsIn 39 = .ok (.ireturn, 1) := by decide +kernel
theorem dX1_writeTo_0 : decode cX1_writeTo 0 = .ok (.aload_n 1, 1) := by decide +kernel
theorem dX1_writeTo_1 : decode cX1_writeTo 1 = .ok (.invokevirtual 33, 3) := by decide +kernel
theorem dX1_writeTo_4 : decode cX1_writeTo 4 = .ok (.iconst 0, 1) := by decide +kernel
theorem dX1_writeTo_5 : decode cX1_writeTo 5 = .ok (.istore_n 2, 1) := by decide +kernel
theorem dX1_writeTo_6 : decode cX1_writeTo 6 = .ok (.iload_n 2, 1) := by decide +kernel
theorem dX1_writeTo_7 : decode cX1_writeTo 7 = .ok (.aload_n 0, 1) := by decide +kernel
theorem dX1_writeTo_8 : decode cX1_writeTo 8 = .ok (.getfield 21, 3) := by decide +kernel
theorem dX1_writeTo_11 : decode cX1_writeTo 11 = .ok (.if_icmp .ge 55, 3) := by decide +kernel
theorem dX1_writeTo_14 : decode cX1_writeTo 14 = .ok (.aload_n 0, 1) := by decide +kernel
theorem dX1_writeTo_15 : decode cX1_writeTo 15 = .ok (.getfield 11, 3) := by decide +kernel
theorem dX1_writeTo_18 : decode cX1_writeTo 18 = .ok (.iload_n 2, 1) := by decide +kernel
theorem dX1_writeTo_19 : decode cX1_writeTo 19 = .ok (.caload, 1) := by decide +kernel
theorem dX1_writeTo_20 : decode cX1_writeTo 20 = .ok (.istore_n 3, 1) := by decide +kernel
theorem dX1_writeTo_21 : decode cX1_writeTo 21 = .ok (.iload_n 3, 1) := by decide +kernel
theorem dX1_writeTo_22 : decode cX1_writeTo 22 = .ok (.bipush 47, 2) := by decide +kernel
theorem dX1_writeTo_24 : decode cX1_writeTo 24 = .ok (.if_icmp .ne 10, 3) := by decide +kernel
theorem dX1_writeTo_27 : decode cX1_writeTo 27 = .ok (.aload_n 1, 1) := by decide +kernel
theorem dX1_writeTo_28 : decode cX1_writeTo 28 = .ok (.invokevirtual 33, 3) := by decide +kernel
theorem dX1_writeTo_31 : decode cX1_writeTo 31 = .ok (.goto 29, 3) := by decide +kernel
theorem dX1_writeTo_34 : decode cX1_writeTo 34 = .ok (.iload_n 3, 1) := by decide +kernel
theorem dX1_writeTo_35 : decode cX1_writeTo 35 = .ok (.invokestatic 29, 3) := by decide +kernel
theorem dX1_writeTo_38 : decode cX1_writeTo 38 = .ok (.ifCond .eq 14, 3) := by decide +kernel
theorem dX1_writeTo_41 : decode cX1_writeTo 41 = .ok (.aload_n 1, 1) := by decide +kernel
theorem dX1_writeTo_42 : decode cX1_writeTo 42 = .ok (.iload_n 3, 1) := by decide +kernel
theorem dX1_writeTo_43 : decode cX1_writeTo 43 = .ok (.bipush 97, 2) := by decide +kernel
theorem dX1_writeTo_45 : decode cX1_writeTo 45 = .ok (.isub, 1) := by decide +kernel
theorem dX1_writeTo_46 : decode cX1_writeTo 46 = .ok (.invokevirtual 38, 3) := by decide +kernel
theorem dX1_writeTo_49 : decode cX1_writeTo 49 = .ok (.goto 11, 3) := by decide +kernel
theorem dX1_writeTo_52 : decode cX1_writeTo 52 = .ok (.aload_n 1, 1) := by decide +kernel
theorem dX1_writeTo_53 : decode cX1_writeTo 53 = .ok (.iload_n 3, 1) := by decide +kernel
theorem dX1_writeTo_54 : decode cX1_writeTo 54 = .ok (.bipush 48, 2) := by decide +kernel
theorem dX1_writeTo_56 : decode cX1_writeTo 56 = .ok (.isub, 1) := by decide +kernel
theorem dX1_writeTo_57 : decode cX1_writeTo 57 = .ok (.invokevirtual 42, 3) := by decide +kernel
theorem dX1_writeTo_60 : decode cX1_writeTo 60 = .ok (.iinc 2 1, 3) := by decide +kernel
theorem dX1_writeTo_63 : decode cX1_writeTo 63 = .ok (.goto (-57), 3) := by decide +kernel
theorem dX1_writeTo_66 : decode cX1_writeTo 66 = .ok (.return_, 1) := by decide +kernel
theorem dX2_copyFrom_0 : decode cX2_copyFrom 0 = .ok (.aload_n 1, 1) := by decide +kernel
theorem dX2_copyFrom_1 : decode cX2_copyFrom 1 = .ok (.invokevirtual 33, 3) := by decide +kernel
theorem dX2_copyFrom_4 : decode cX2_copyFrom 4 = .ok (.istore_n 2, 1) := by decide +kernel
theorem dX2_copyFrom_5 : decode cX2_copyFrom 5 = .ok (.aload_n 1, 1) := by decide +kernel
theorem dX2_copyFrom_6 : decode cX2_copyFrom 6 = .ok (.getfield 9, 3) := by decide +kernel
theorem dX2_copyFrom_9 : decode cX2_copyFrom 9 = .ok (.iconst 0, 1) := by decide +kernel
theorem dX2_copyFrom_10 : decode cX2_copyFrom 10 = .ok (.aload_n 0, 1) := by decide +kernel
theorem dX2_copyFrom_11 : decode cX2_copyFrom 11 = .ok (.getfield 9, 3) := by decide +kernel
theorem dX2_copyFrom_14 : decode cX2_copyFrom 14 = .ok (.iconst 0, 1) := by decide +kernel
theorem dX2_copyFrom_15 : decode cX2_copyFrom 15 = .ok (.iconst 3, 1) := by decide +kernel
theorem dX2_copyFrom_16 : decode cX2_copyFrom 16 = .ok (.invokestatic 37, 3) := by decide +kernel
theorem dX2_copyFrom_19 : decode cX2_copyFrom 19 = .ok (.aload_n 1, 1) := by decide +kernel
theorem dX2_copyFrom_20 : decode cX2_copyFrom 20 = .ok (.getfield 15, 3) := by decide +kernel
theorem dX2_copyFrom_23 : decode cX2_copyFrom 23 = .ok (.iconst 0, 1) := by decide +kernel
theorem dX2_copyFrom_24 : decode cX2_copyFrom 24 = .ok (.aload_n 0, 1) := by decide +kernel
theorem dX2_copyFrom_25 : decode cX2_copyFrom 25 = .ok (.getfield 15, 3) := by decide +kernel
theorem dX2_copyFrom_28 : decode cX2_copyFrom 28 = .ok (.iconst 0, 1) := by decide +kernel
theorem dX2_copyFrom_29 : decode cX2_copyFrom 29 = .ok (.iload_n 2, 1) := by decide +kernel
theorem dX2_copyFrom_30 : decode cX2_copyFrom 30 = .ok (.invokestatic 37, 3) := by decide +kernel
theorem dX2_copyFrom_33 : decode cX2_copyFrom 33 = .ok (.aload_n 1, 1) := by decide +kernel
theorem dX2_copyFrom_34 : decode cX2_copyFrom 34 = .ok (.getfield 18, 3) := by decide +kernel
theorem dX2_copyFrom_37 : decode cX2_copyFrom 37 = .ok (.iconst 0, 1) := by decide +kernel
theorem dX2_copyFrom_38 : decode cX2_copyFrom 38 = .ok (.aload_n 0, 1) := by decide +kernel
theorem dX2_copyFrom_39 : decode cX2_copyFrom 39 = .ok (.getfield 18, 3) := by decide +kernel
theorem dX2_copyFrom_42 : decode cX2_copyFrom 42 = .ok (.iconst 0, 1) := by decide +kernel
theorem dX2_copyFrom_43 : decode cX2_copyFrom 43 = .ok (.iload_n 2, 1) := by decide +kernel
theorem dX2_copyFrom_44 : decode cX2_copyFrom 44 = .ok (.invokestatic 37, 3) := by decide +kernel
theorem dX2_copyFrom_47 : decode cX2_copyFrom 47 = .ok (.aload_n 1, 1) := by decide +kernel
theorem dX2_copyFrom_48 : decode cX2_copyFrom 48 = .ok (.getfield 21, 3) := by decide +kernel
theorem dX2_copyFrom_51 : decode cX2_copyFrom 51 = .ok (.iconst 0, 1) := by decide +kernel
theorem dX2_copyFrom_52 : decode cX2_copyFrom 52 = .ok (.aload_n 0, 1) := by decide +kernel
theorem dX2_copyFrom_53 : decode cX2_copyFrom 53 = .ok (.getfield 21, 3) := by decide +kernel
theorem dX2_copyFrom_56 : decode cX2_copyFrom 56 = .ok (.iconst 0, 1) := by decide +kernel
theorem dX2_copyFrom_57 : decode cX2_copyFrom 57 = .ok (.aload_n 1, 1) := by decide +kernel
theorem dX2_copyFrom_58 : decode cX2_copyFrom 58 = .ok (.getfield 43, 3) := by decide +kernel
theorem dX2_copyFrom_61 : decode cX2_copyFrom 61 = .ok (.iconst 1, 1) := by decide +kernel
theorem dX2_copyFrom_62 : decode cX2_copyFrom 62 = .ok (.iadd, 1) := by decide +kernel
theorem dX2_copyFrom_63 : decode cX2_copyFrom 63 = .ok (.invokestatic 37, 3) := by decide +kernel
theorem dX2_copyFrom_66 : decode cX2_copyFrom 66 = .ok (.aload_n 1, 1) := by decide +kernel
theorem dX2_copyFrom_67 : decode cX2_copyFrom 67 = .ok (.getfield 24, 3) := by decide +kernel
theorem dX2_copyFrom_70 : decode cX2_copyFrom 70 = .ok (.iconst 0, 1) := by decide +kernel
theorem dX2_copyFrom_71 : decode cX2_copyFrom 71 = .ok (.aload_n 0, 1) := by decide +kernel
theorem dX2_copyFrom_72 : decode cX2_copyFrom 72 = .ok (.getfield 24, 3) := by decide +kernel
theorem dX2_copyFrom_75 : decode cX2_copyFrom 75 = .ok (.iconst 0, 1) := by decide +kernel
theorem dX2_copyFrom_76 : decode cX2_copyFrom 76 = .ok (.aload_n 1, 1) := by decide +kernel
theorem dX2_copyFrom_77 : decode cX2_copyFrom 77 = .ok (.getfield 43, 3) := by decide +kernel
theorem dX2_copyFrom_80 : decode cX2_copyFrom 80 = .ok (.invokestatic 37, 3) := by decide +kernel
theorem dX2_copyFrom_83 : decode cX2_copyFrom 83 = .ok (.aload_n 1, 1) := by decide +kernel
theorem dX2_copyFrom_84 : decode cX2_copyFrom 84 = .ok (.getfield 27, 3) := by decide +kernel
theorem dX2_copyFrom_87 : decode cX2_copyFrom 87 = .ok (.iconst 0, 1) := by decide +kernel
theorem dX2_copyFrom_88 : decode cX2_copyFrom 88 = .ok (.aload_n 0, 1) := by decide +kernel
theorem dX2_copyFrom_89 : decode cX2_copyFrom 89 = .ok (.getfield 27, 3) := by decide +kernel
theorem dX2_copyFrom_92 : decode cX2_copyFrom 92 = .ok (.iconst 0, 1) := by decide +kernel
theorem dX2_copyFrom_93 : decode cX2_copyFrom 93 = .ok (.aload_n 1, 1) := by decide +kernel
theorem dX2_copyFrom_94 : decode cX2_copyFrom 94 = .ok (.getfield 43, 3) := by decide +kernel
theorem dX2_copyFrom_97 : decode cX2_copyFrom 97 = .ok (.invokestatic 37, 3) := by decide +kernel
theorem dX2_copyFrom_100 : decode cX2_copyFrom 100 = .ok (.aload_n 0, 1) := by decide +kernel
theorem dX2_copyFrom_101 : decode cX2_copyFrom 101 = .ok (.aload_n 1, 1) := by decide +kernel
theorem dX2_copyFrom_102 : decode cX2_copyFrom 102 = .ok (.getfield 43, 3) := by decide +kernel
theorem dX2_copyFrom_105 : decode cX2_copyFrom 105 = .ok (.putfield 43, 3) := by decide +kernel
theorem dX2_copyFrom_108 : decode cX2_copyFrom 108 = .ok (.aload_n 0, 1) := by decide +kernel
theorem dX2_copyFrom_109 : decode cX2_copyFrom 109 = .ok (.aload_n 1, 1) := by decide +kernel
theorem dX2_copyFrom_110 : decode cX2_copyFrom 110 = .ok (.getfield 47, 3) := by decide +kernel
theorem dX2_copyFrom_113 : decode cX2_copyFrom 113 = .ok (.putfield 47, 3) := by decide +kernel
theorem dX2_copyFrom_116 : decode cX2_copyFrom 116 = .ok (.aload_n 0, 1) := by decide +kernel
theorem dX2_copyFrom_117 : decode cX2_copyFrom 117 = .ok (.aload_n 1, 1) := by decide +kernel
theorem dX2_copyFrom_118 : decode cX2_copyFrom 118 = .ok (.getfield 50, 3) := by decide +kernel
theorem dX2_copyFrom_121 : decode cX2_copyFrom 121 = .ok (.putfield 50, 3) := by decide +kernel
theorem dX2_copyFrom_124 : decode cX2_copyFrom 124 = .ok (.aload_n 0, 1) := by decide +kernel
theorem dX2_copyFrom_125 : decode cX2_copyFrom 125 = .ok (.aload_n 1, 1) := by decide +kernel
theorem dX2_copyFrom_126 : decode cX2_copyFrom 126 = .ok (.getfield 53, 3) := by decide +kernel
theorem dX2_copyFrom_129 : decode cX2_copyFrom 129 = .ok (.putfield 53, 3) := by decide +kernel
theorem dX2_copyFrom_132 : decode cX2_copyFrom 132 = .ok (.aload_n 0, 1) := by decide +kernel
theorem dX2_copyFrom_133 : decode cX2_copyFrom 133 = .ok (.aload_n 1, 1) := by decide +kernel
theorem dX2_copyFrom_134 : decode cX2_copyFrom 134 = .ok (.getfield 56, 3) := by decide +kernel
theorem dX2_copyFrom_137 : decode cX2_copyFrom 137 = .ok (.putfield 56, 3) := by decide +kernel
theorem dX2_copyFrom_140 : decode cX2_copyFrom 140 = .ok (.return_, 1) := by decide +kernel
theorem dX2_words_0 : decode cX2_words 0 = .ok (.aload_n 0, 1) := by decide +kernel
theorem dX2_words_1 : decode cX2_words 1 = .ok (.getfield 21, 3) := by decide +kernel
theorem dX2_words_4 : decode cX2_words 4 = .ok (.aload_n 0, 1) := by decide +kernel
theorem dX2_words_5 : decode cX2_words 5 = .ok (.getfield 43, 3) := by decide +kernel
theorem dX2_words_8 : decode cX2_words 8 = .ok (.iaload, 1) := by decide +kernel
theorem dX2_words_9 : decode cX2_words 9 = .ok (.ireturn, 1) := by decide +kernel
theorem dX2_hasStory_0 : decode cX2_hasStory 0 = .ok (.iload_n 1, 1) := by decide +kernel
theorem dX2_hasStory_1 : decode cX2_hasStory 1 = .ok (.iconst 0, 1) := by decide +kernel
theorem dX2_hasStory_2 : decode cX2_hasStory 2 = .ok (.aload_n 0, 1) := by decide +kernel
theorem dX2_hasStory_3 : decode cX2_hasStory 3 = .ok (.getfield 43, 3) := by decide +kernel
theorem dX2_hasStory_6 : decode cX2_hasStory 6 = .ok (.iconst 1, 1) := by decide +kernel
theorem dX2_hasStory_7 : decode cX2_hasStory 7 = .ok (.isub, 1) := by decide +kernel
theorem dX2_hasStory_8 : decode cX2_hasStory 8 = .ok (.invokestatic 59, 3) := by decide +kernel
theorem dX2_hasStory_11 : decode cX2_hasStory 11 = .ok (.ireturn, 1) := by decide +kernel
theorem dX2_hasWord_0 : decode cX2_hasWord 0 = .ok (.aload_n 0, 1) := by decide +kernel
theorem dX2_hasWord_1 : decode cX2_hasWord 1 = .ok (.iload_n 1, 1) := by decide +kernel
theorem dX2_hasWord_2 : decode cX2_hasWord 2 = .ok (.invokevirtual 63, 3) := by decide +kernel
theorem dX2_hasWord_5 : decode cX2_hasWord 5 = .ok (.ifCond .eq 22, 3) := by decide +kernel
theorem dX2_hasWord_8 : decode cX2_hasWord 8 = .ok (.iload_n 2, 1) := by decide +kernel
theorem dX2_hasWord_9 : decode cX2_hasWord 9 = .ok (.iconst 0, 1) := by decide +kernel
theorem dX2_hasWord_10 : decode cX2_hasWord 10 = .ok (.aload_n 0, 1) := by decide +kernel
theorem dX2_hasWord_11 : decode cX2_hasWord 11 = .ok (.iload_n 1, 1) := by decide +kernel
theorem dX2_hasWord_12 : decode cX2_hasWord 12 = .ok (.invokevirtual 67, 3) := by decide +kernel
theorem dX2_hasWord_15 : decode cX2_hasWord 15 = .ok (.iconst 1, 1) := by decide +kernel
theorem dX2_hasWord_16 : decode cX2_hasWord 16 = .ok (.isub, 1) := by decide +kernel
theorem dX2_hasWord_17 : decode cX2_hasWord 17 = .ok (.invokestatic 59, 3) := by decide +kernel
theorem dX2_hasWord_20 : decode cX2_hasWord 20 = .ok (.ifCond .eq 7, 3) := by decide +kernel
theorem dX2_hasWord_23 : decode cX2_hasWord 23 = .ok (.iconst 1, 1) := by decide +kernel
theorem dX2_hasWord_24 : decode cX2_hasWord 24 = .ok (.goto 4, 3) := by decide +kernel
theorem dX2_hasWord_27 : decode cX2_hasWord 27 = .ok (.iconst 0, 1) := by decide +kernel
theorem dX2_hasWord_28 : decode cX2_hasWord 28 = .ok (.ireturn, 1) := by decide +kernel
theorem dX2_sizeOf_0 : decode cX2_sizeOf 0 = .ok (.aload_n 0, 1) := by decide +kernel
theorem dX2_sizeOf_1 : decode cX2_sizeOf 1 = .ok (.getfield 21, 3) := by decide +kernel
theorem dX2_sizeOf_4 : decode cX2_sizeOf 4 = .ok (.iload_n 1, 1) := by decide +kernel
theorem dX2_sizeOf_5 : decode cX2_sizeOf 5 = .ok (.iconst 1, 1) := by decide +kernel
theorem dX2_sizeOf_6 : decode cX2_sizeOf 6 = .ok (.iadd, 1) := by decide +kernel
theorem dX2_sizeOf_7 : decode cX2_sizeOf 7 = .ok (.iaload, 1) := by decide +kernel
theorem dX2_sizeOf_8 : decode cX2_sizeOf 8 = .ok (.aload_n 0, 1) := by decide +kernel
theorem dX2_sizeOf_9 : decode cX2_sizeOf 9 = .ok (.getfield 21, 3) := by decide +kernel
theorem dX2_sizeOf_12 : decode cX2_sizeOf 12 = .ok (.iload_n 1, 1) := by decide +kernel
theorem dX2_sizeOf_13 : decode cX2_sizeOf 13 = .ok (.iaload, 1) := by decide +kernel
theorem dX2_sizeOf_14 : decode cX2_sizeOf 14 = .ok (.isub, 1) := by decide +kernel
theorem dX2_sizeOf_15 : decode cX2_sizeOf 15 = .ok (.ireturn, 1) := by decide +kernel
theorem dX2_storyAt_0 : decode cX2_storyAt 0 = .ok (.iconst 0, 1) := by decide +kernel
theorem dX2_storyAt_1 : decode cX2_storyAt 1 = .ok (.istore_n 2, 1) := by decide +kernel
theorem dX2_storyAt_2 : decode cX2_storyAt 2 = .ok (.iload_n 2, 1) := by decide +kernel
theorem dX2_storyAt_3 : decode cX2_storyAt 3 = .ok (.iconst 1, 1) := by decide +kernel
theorem dX2_storyAt_4 : decode cX2_storyAt 4 = .ok (.iadd, 1) := by decide +kernel
theorem dX2_storyAt_5 : decode cX2_storyAt 5 = .ok (.aload_n 0, 1) := by decide +kernel
theorem dX2_storyAt_6 : decode cX2_storyAt 6 = .ok (.getfield 43, 3) := by decide +kernel
theorem dX2_storyAt_9 : decode cX2_storyAt 9 = .ok (.if_icmp .ge 21, 3) := by decide +kernel
theorem dX2_storyAt_12 : decode cX2_storyAt 12 = .ok (.aload_n 0, 1) := by decide +kernel
theorem dX2_storyAt_13 : decode cX2_storyAt 13 = .ok (.getfield 21, 3) := by decide +kernel
theorem dX2_storyAt_16 : decode cX2_storyAt 16 = .ok (.iload_n 2, 1) := by decide +kernel
theorem dX2_storyAt_17 : decode cX2_storyAt 17 = .ok (.iconst 1, 1) := by decide +kernel
theorem dX2_storyAt_18 : decode cX2_storyAt 18 = .ok (.iadd, 1) := by decide +kernel
theorem dX2_storyAt_19 : decode cX2_storyAt 19 = .ok (.iaload, 1) := by decide +kernel
theorem dX2_storyAt_20 : decode cX2_storyAt 20 = .ok (.iload_n 1, 1) := by decide +kernel
theorem dX2_storyAt_21 : decode cX2_storyAt 21 = .ok (.if_icmp .gt 9, 3) := by decide +kernel
theorem dX2_storyAt_24 : decode cX2_storyAt 24 = .ok (.iinc 2 1, 3) := by decide +kernel
theorem dX2_storyAt_27 : decode cX2_storyAt 27 = .ok (.goto (-25), 3) := by decide +kernel
theorem dX2_storyAt_30 : decode cX2_storyAt 30 = .ok (.iload_n 2, 1) := by decide +kernel
theorem dX2_storyAt_31 : decode cX2_storyAt 31 = .ok (.ireturn, 1) := by decide +kernel
theorem dX2_placeOf_0 : decode cX2_placeOf 0 = .ok (.iload_n 1, 1) := by decide +kernel
theorem dX2_placeOf_1 : decode cX2_placeOf 1 = .ok (.aload_n 0, 1) := by decide +kernel
theorem dX2_placeOf_2 : decode cX2_placeOf 2 = .ok (.getfield 21, 3) := by decide +kernel
theorem dX2_placeOf_5 : decode cX2_placeOf 5 = .ok (.aload_n 0, 1) := by decide +kernel
theorem dX2_placeOf_6 : decode cX2_placeOf 6 = .ok (.iload_n 1, 1) := by decide +kernel
theorem dX2_placeOf_7 : decode cX2_placeOf 7 = .ok (.invokevirtual 71, 3) := by decide +kernel
theorem dX2_placeOf_10 : decode cX2_placeOf 10 = .ok (.iaload, 1) := by decide +kernel
theorem dX2_placeOf_11 : decode cX2_placeOf 11 = .ok (.isub, 1) := by decide +kernel
theorem dX2_placeOf_12 : decode cX2_placeOf 12 = .ok (.ireturn, 1) := by decide +kernel
theorem dX2_addStory_0 : decode cX2_addStory 0 = .ok (.aload_n 0, 1) := by decide +kernel
theorem dX2_addStory_1 : decode cX2_addStory 1 = .ok (.getfield 24, 3) := by decide +kernel
theorem dX2_addStory_4 : decode cX2_addStory 4 = .ok (.aload_n 0, 1) := by decide +kernel
theorem dX2_addStory_5 : decode cX2_addStory 5 = .ok (.getfield 43, 3) := by decide +kernel
theorem dX2_addStory_8 : decode cX2_addStory 8 = .ok (.aload_n 0, 1) := by decide +kernel
theorem dX2_addStory_9 : decode cX2_addStory 9 = .ok (.getfield 47, 3) := by decide +kernel
theorem dX2_addStory_12 : decode cX2_addStory 12 = .ok (.iastore, 1) := by decide +kernel
theorem dX2_addStory_13 : decode cX2_addStory 13 = .ok (.aload_n 0, 1) := by decide +kernel
theorem dX2_addStory_14 : decode cX2_addStory 14 = .ok (.getfield 27, 3) := by decide +kernel
theorem dX2_addStory_17 : decode cX2_addStory 17 = .ok (.aload_n 0, 1) := by decide +kernel
theorem dX2_addStory_18 : decode cX2_addStory 18 = .ok (.getfield 43, 3) := by decide +kernel
theorem dX2_addStory_21 : decode cX2_addStory 21 = .ok (.iconst 0, 1) := by decide +kernel
theorem dX2_addStory_22 : decode cX2_addStory 22 = .ok (.iastore, 1) := by decide +kernel
theorem dX2_addStory_23 : decode cX2_addStory 23 = .ok (.aload_n 0, 1) := by decide +kernel
theorem dX2_addStory_24 : decode cX2_addStory 24 = .ok (.getfield 21, 3) := by decide +kernel
theorem dX2_addStory_27 : decode cX2_addStory 27 = .ok (.aload_n 0, 1) := by decide +kernel
theorem dX2_addStory_28 : decode cX2_addStory 28 = .ok (.getfield 43, 3) := by decide +kernel
theorem dX2_addStory_31 : decode cX2_addStory 31 = .ok (.iconst 1, 1) := by decide +kernel
theorem dX2_addStory_32 : decode cX2_addStory 32 = .ok (.iadd, 1) := by decide +kernel
theorem dX2_addStory_33 : decode cX2_addStory 33 = .ok (.aload_n 0, 1) := by decide +kernel
theorem dX2_addStory_34 : decode cX2_addStory 34 = .ok (.getfield 21, 3) := by decide +kernel
theorem dX2_addStory_37 : decode cX2_addStory 37 = .ok (.aload_n 0, 1) := by decide +kernel
theorem dX2_addStory_38 : decode cX2_addStory 38 = .ok (.getfield 43, 3) := by decide +kernel
theorem dX2_addStory_41 : decode cX2_addStory 41 = .ok (.iaload, 1) := by decide +kernel
theorem dX2_addStory_42 : decode cX2_addStory 42 = .ok (.iastore, 1) := by decide +kernel
theorem dX2_addStory_43 : decode cX2_addStory 43 = .ok (.aload_n 0, 1) := by decide +kernel
theorem dX2_addStory_44 : decode cX2_addStory 44 = .ok (.dup, 1) := by decide +kernel
theorem dX2_addStory_45 : decode cX2_addStory 45 = .ok (.getfield 47, 3) := by decide +kernel
theorem dX2_addStory_48 : decode cX2_addStory 48 = .ok (.iconst 1, 1) := by decide +kernel
theorem dX2_addStory_49 : decode cX2_addStory 49 = .ok (.iadd, 1) := by decide +kernel
theorem dX2_addStory_50 : decode cX2_addStory 50 = .ok (.putfield 47, 3) := by decide +kernel
theorem dX2_addStory_53 : decode cX2_addStory 53 = .ok (.aload_n 0, 1) := by decide +kernel
theorem dX2_addStory_54 : decode cX2_addStory 54 = .ok (.dup, 1) := by decide +kernel
theorem dX2_addStory_55 : decode cX2_addStory 55 = .ok (.getfield 43, 3) := by decide +kernel
theorem dX2_addStory_58 : decode cX2_addStory 58 = .ok (.iconst 1, 1) := by decide +kernel
theorem dX2_addStory_59 : decode cX2_addStory 59 = .ok (.iadd, 1) := by decide +kernel
theorem dX2_addStory_60 : decode cX2_addStory 60 = .ok (.putfield 43, 3) := by decide +kernel
theorem dX2_addStory_63 : decode cX2_addStory 63 = .ok (.return_, 1) := by decide +kernel
theorem dX2_addWord_0 : decode cX2_addWord 0 = .ok (.aload_n 0, 1) := by decide +kernel
theorem dX2_addWord_1 : decode cX2_addWord 1 = .ok (.invokevirtual 33, 3) := by decide +kernel
theorem dX2_addWord_4 : decode cX2_addWord 4 = .ok (.istore_n 2, 1) := by decide +kernel
theorem dX2_addWord_5 : decode cX2_addWord 5 = .ok (.aload_n 0, 1) := by decide +kernel
theorem dX2_addWord_6 : decode cX2_addWord 6 = .ok (.getfield 15, 3) := by decide +kernel
theorem dX2_addWord_9 : decode cX2_addWord 9 = .ok (.iload_n 2, 1) := by decide +kernel
theorem dX2_addWord_10 : decode cX2_addWord 10 = .ok (.iload_n 1, 1) := by decide +kernel
theorem dX2_addWord_11 : decode cX2_addWord 11 = .ok (.iastore, 1) := by decide +kernel
theorem dX2_addWord_12 : decode cX2_addWord 12 = .ok (.aload_n 0, 1) := by decide +kernel
theorem dX2_addWord_13 : decode cX2_addWord 13 = .ok (.getfield 18, 3) := by decide +kernel
theorem dX2_addWord_16 : decode cX2_addWord 16 = .ok (.iload_n 2, 1) := by decide +kernel
theorem dX2_addWord_17 : decode cX2_addWord 17 = .ok (.iconst 0, 1) := by decide +kernel
theorem dX2_addWord_18 : decode cX2_addWord 18 = .ok (.iastore, 1) := by decide +kernel
theorem dX2_addWord_19 : decode cX2_addWord 19 = .ok (.aload_n 0, 1) := by decide +kernel
theorem dX2_addWord_20 : decode cX2_addWord 20 = .ok (.getfield 21, 3) := by decide +kernel
theorem dX2_addWord_23 : decode cX2_addWord 23 = .ok (.aload_n 0, 1) := by decide +kernel
theorem dX2_addWord_24 : decode cX2_addWord 24 = .ok (.getfield 43, 3) := by decide +kernel
theorem dX2_addWord_27 : decode cX2_addWord 27 = .ok (.iload_n 2, 1) := by decide +kernel
theorem dX2_addWord_28 : decode cX2_addWord 28 = .ok (.iconst 1, 1) := by decide +kernel
theorem dX2_addWord_29 : decode cX2_addWord 29 = .ok (.iadd, 1) := by decide +kernel
theorem dX2_addWord_30 : decode cX2_addWord 30 = .ok (.iastore, 1) := by decide +kernel
theorem dX2_addWord_31 : decode cX2_addWord 31 = .ok (.return_, 1) := by decide +kernel
theorem dX2_addDigit_0 : decode cX2_addDigit 0 = .ok (.aload_n 0, 1) := by decide +kernel
theorem dX2_addDigit_1 : decode cX2_addDigit 1 = .ok (.invokevirtual 33, 3) := by decide +kernel
theorem dX2_addDigit_4 : decode cX2_addDigit 4 = .ok (.iconst 1, 1) := by decide +kernel
theorem dX2_addDigit_5 : decode cX2_addDigit 5 = .ok (.isub, 1) := by decide +kernel
theorem dX2_addDigit_6 : decode cX2_addDigit 6 = .ok (.istore_n 2, 1) := by decide +kernel
theorem dX2_addDigit_7 : decode cX2_addDigit 7 = .ok (.aload_n 0, 1) := by decide +kernel
theorem dX2_addDigit_8 : decode cX2_addDigit 8 = .ok (.getfield 18, 3) := by decide +kernel
theorem dX2_addDigit_11 : decode cX2_addDigit 11 = .ok (.iload_n 2, 1) := by decide +kernel
theorem dX2_addDigit_12 : decode cX2_addDigit 12 = .ok (.aload_n 0, 1) := by decide +kernel
theorem dX2_addDigit_13 : decode cX2_addDigit 13 = .ok (.getfield 18, 3) := by decide +kernel
theorem dX2_addDigit_16 : decode cX2_addDigit 16 = .ok (.iload_n 2, 1) := by decide +kernel
theorem dX2_addDigit_17 : decode cX2_addDigit 17 = .ok (.iaload, 1) := by decide +kernel
theorem dX2_addDigit_18 : decode cX2_addDigit 18 = .ok (.bipush 10, 2) := by decide +kernel
theorem dX2_addDigit_20 : decode cX2_addDigit 20 = .ok (.imul, 1) := by decide +kernel
theorem dX2_addDigit_21 : decode cX2_addDigit 21 = .ok (.iload_n 1, 1) := by decide +kernel
theorem dX2_addDigit_22 : decode cX2_addDigit 22 = .ok (.iadd, 1) := by decide +kernel
theorem dX2_addDigit_23 : decode cX2_addDigit 23 = .ok (.iastore, 1) := by decide +kernel
theorem dX2_addDigit_24 : decode cX2_addDigit 24 = .ok (.return_, 1) := by decide +kernel
theorem dX2_warm_0 : decode cX2_warm 0 = .ok (.aload_n 0, 1) := by decide +kernel
theorem dX2_warm_1 : decode cX2_warm 1 = .ok (.getfield 18, 3) := by decide +kernel
theorem dX2_warm_4 : decode cX2_warm 4 = .ok (.iload_n 1, 1) := by decide +kernel
theorem dX2_warm_5 : decode cX2_warm 5 = .ok (.sipush 999, 3) := by decide +kernel
theorem dX2_warm_8 : decode cX2_warm 8 = .ok (.aload_n 0, 1) := by decide +kernel
theorem dX2_warm_9 : decode cX2_warm 9 = .ok (.getfield 18, 3) := by decide +kernel
theorem dX2_warm_12 : decode cX2_warm 12 = .ok (.iload_n 1, 1) := by decide +kernel
theorem dX2_warm_13 : decode cX2_warm 13 = .ok (.iaload, 1) := by decide +kernel
theorem dX2_warm_14 : decode cX2_warm 14 = .ok (.iload_n 2, 1) := by decide +kernel
theorem dX2_warm_15 : decode cX2_warm 15 = .ok (.iadd, 1) := by decide +kernel
theorem dX2_warm_16 : decode cX2_warm 16 = .ok (.invokestatic 74, 3) := by decide +kernel
theorem dX2_warm_19 : decode cX2_warm 19 = .ok (.iastore, 1) := by decide +kernel
theorem dX2_warm_20 : decode cX2_warm 20 = .ok (.return_, 1) := by decide +kernel
theorem dX2_remove_0 : decode cX2_remove 0 = .ok (.aload_n 0, 1) := by decide +kernel
theorem dX2_remove_1 : decode cX2_remove 1 = .ok (.getfield 21, 3) := by decide +kernel
theorem dX2_remove_4 : decode cX2_remove 4 = .ok (.iload_n 1, 1) := by decide +kernel
theorem dX2_remove_5 : decode cX2_remove 5 = .ok (.iaload, 1) := by decide +kernel
theorem dX2_remove_6 : decode cX2_remove 6 = .ok (.istore_n 2, 1) := by decide +kernel
theorem dX2_remove_7 : decode cX2_remove 7 = .ok (.aload_n 0, 1) := by decide +kernel
theorem dX2_remove_8 : decode cX2_remove 8 = .ok (.getfield 21, 3) := by decide +kernel
theorem dX2_remove_11 : decode cX2_remove 11 = .ok (.iload_n 1, 1) := by decide +kernel
theorem dX2_remove_12 : decode cX2_remove 12 = .ok (.iconst 1, 1) := by decide +kernel
theorem dX2_remove_13 : decode cX2_remove 13 = .ok (.iadd, 1) := by decide +kernel
theorem dX2_remove_14 : decode cX2_remove 14 = .ok (.iaload, 1) := by decide +kernel
theorem dX2_remove_15 : decode cX2_remove 15 = .ok (.istore_n 3, 1) := by decide +kernel
theorem dX2_remove_16 : decode cX2_remove 16 = .ok (.aload_n 0, 1) := by decide +kernel
theorem dX2_remove_17 : decode cX2_remove 17 = .ok (.invokevirtual 33, 3) := by decide +kernel
theorem dX2_remove_20 : decode cX2_remove 20 = .ok (.iload_n 3, 1) := by decide +kernel
theorem dX2_remove_21 : decode cX2_remove 21 = .ok (.isub, 1) := by decide +kernel
theorem dX2_remove_22 : decode cX2_remove 22 = .ok (.istore 4, 2) := by decide +kernel
theorem dX2_remove_24 : decode cX2_remove 24 = .ok (.aload_n 0, 1) := by decide +kernel
theorem dX2_remove_25 : decode cX2_remove 25 = .ok (.getfield 43, 3) := by decide +kernel
theorem dX2_remove_28 : decode cX2_remove 28 = .ok (.iconst 1, 1) := by decide +kernel
theorem dX2_remove_29 : decode cX2_remove 29 = .ok (.isub, 1) := by decide +kernel
theorem dX2_remove_30 : decode cX2_remove 30 = .ok (.iload_n 1, 1) := by decide +kernel
theorem dX2_remove_31 : decode cX2_remove 31 = .ok (.isub, 1) := by decide +kernel
theorem dX2_remove_32 : decode cX2_remove 32 = .ok (.istore 5, 2) := by decide +kernel
theorem dX2_remove_34 : decode cX2_remove 34 = .ok (.aload_n 0, 1) := by decide +kernel
theorem dX2_remove_35 : decode cX2_remove 35 = .ok (.getfield 15, 3) := by decide +kernel
theorem dX2_remove_38 : decode cX2_remove 38 = .ok (.iload_n 3, 1) := by decide +kernel
theorem dX2_remove_39 : decode cX2_remove 39 = .ok (.aload_n 0, 1) := by decide +kernel
theorem dX2_remove_40 : decode cX2_remove 40 = .ok (.getfield 15, 3) := by decide +kernel
theorem dX2_remove_43 : decode cX2_remove 43 = .ok (.iload_n 2, 1) := by decide +kernel
theorem dX2_remove_44 : decode cX2_remove 44 = .ok (.iload 4, 2) := by decide +kernel
theorem dX2_remove_46 : decode cX2_remove 46 = .ok (.invokestatic 37, 3) := by decide +kernel
theorem dX2_remove_49 : decode cX2_remove 49 = .ok (.aload_n 0, 1) := by decide +kernel
theorem dX2_remove_50 : decode cX2_remove 50 = .ok (.getfield 18, 3) := by decide +kernel
theorem dX2_remove_53 : decode cX2_remove 53 = .ok (.iload_n 3, 1) := by decide +kernel
theorem dX2_remove_54 : decode cX2_remove 54 = .ok (.aload_n 0, 1) := by decide +kernel
theorem dX2_remove_55 : decode cX2_remove 55 = .ok (.getfield 18, 3) := by decide +kernel
theorem dX2_remove_58 : decode cX2_remove 58 = .ok (.iload_n 2, 1) := by decide +kernel
theorem dX2_remove_59 : decode cX2_remove 59 = .ok (.iload 4, 2) := by decide +kernel
theorem dX2_remove_61 : decode cX2_remove 61 = .ok (.invokestatic 37, 3) := by decide +kernel
theorem dX2_remove_64 : decode cX2_remove 64 = .ok (.aload_n 0, 1) := by decide +kernel
theorem dX2_remove_65 : decode cX2_remove 65 = .ok (.getfield 24, 3) := by decide +kernel
theorem dX2_remove_68 : decode cX2_remove 68 = .ok (.iload_n 1, 1) := by decide +kernel
theorem dX2_remove_69 : decode cX2_remove 69 = .ok (.iconst 1, 1) := by decide +kernel
theorem dX2_remove_70 : decode cX2_remove 70 = .ok (.iadd, 1) := by decide +kernel
theorem dX2_remove_71 : decode cX2_remove 71 = .ok (.aload_n 0, 1) := by decide +kernel
theorem dX2_remove_72 : decode cX2_remove 72 = .ok (.getfield 24, 3) := by decide +kernel
theorem dX2_remove_75 : decode cX2_remove 75 = .ok (.iload_n 1, 1) := by decide +kernel
theorem dX2_remove_76 : decode cX2_remove 76 = .ok (.iload 5, 2) := by decide +kernel
theorem dX2_remove_78 : decode cX2_remove 78 = .ok (.invokestatic 37, 3) := by decide +kernel
theorem dX2_remove_81 : decode cX2_remove 81 = .ok (.aload_n 0, 1) := by decide +kernel
theorem dX2_remove_82 : decode cX2_remove 82 = .ok (.getfield 27, 3) := by decide +kernel
theorem dX2_remove_85 : decode cX2_remove 85 = .ok (.iload_n 1, 1) := by decide +kernel
theorem dX2_remove_86 : decode cX2_remove 86 = .ok (.iconst 1, 1) := by decide +kernel
theorem dX2_remove_87 : decode cX2_remove 87 = .ok (.iadd, 1) := by decide +kernel
theorem dX2_remove_88 : decode cX2_remove 88 = .ok (.aload_n 0, 1) := by decide +kernel
theorem dX2_remove_89 : decode cX2_remove 89 = .ok (.getfield 27, 3) := by decide +kernel
theorem dX2_remove_92 : decode cX2_remove 92 = .ok (.iload_n 1, 1) := by decide +kernel
theorem dX2_remove_93 : decode cX2_remove 93 = .ok (.iload 5, 2) := by decide +kernel
theorem dX2_remove_95 : decode cX2_remove 95 = .ok (.invokestatic 37, 3) := by decide +kernel
theorem dX2_remove_98 : decode cX2_remove 98 = .ok (.iload_n 1, 1) := by decide +kernel
theorem dX2_remove_99 : decode cX2_remove 99 = .ok (.istore 6, 2) := by decide +kernel
theorem dX2_remove_101 : decode cX2_remove 101 = .ok (.iload 6, 2) := by decide +kernel
theorem dX2_remove_103 : decode cX2_remove 103 = .ok (.aload_n 0, 1) := by decide +kernel
theorem dX2_remove_104 : decode cX2_remove 104 = .ok (.getfield 43, 3) := by decide +kernel
theorem dX2_remove_107 : decode cX2_remove 107 = .ok (.if_icmp .ge 29, 3) := by decide +kernel
theorem dX2_remove_110 : decode cX2_remove 110 = .ok (.aload_n 0, 1) := by decide +kernel
theorem dX2_remove_111 : decode cX2_remove 111 = .ok (.getfield 21, 3) := by decide +kernel
theorem dX2_remove_114 : decode cX2_remove 114 = .ok (.iload 6, 2) := by decide +kernel
theorem dX2_remove_116 : decode cX2_remove 116 = .ok (.aload_n 0, 1) := by decide +kernel
theorem dX2_remove_117 : decode cX2_remove 117 = .ok (.getfield 21, 3) := by decide +kernel
theorem dX2_remove_120 : decode cX2_remove 120 = .ok (.iload 6, 2) := by decide +kernel
theorem dX2_remove_122 : decode cX2_remove 122 = .ok (.iconst 1, 1) := by decide +kernel
theorem dX2_remove_123 : decode cX2_remove 123 = .ok (.iadd, 1) := by decide +kernel
theorem dX2_remove_124 : decode cX2_remove 124 = .ok (.iaload, 1) := by decide +kernel
theorem dX2_remove_125 : decode cX2_remove 125 = .ok (.iload_n 3, 1) := by decide +kernel
theorem dX2_remove_126 : decode cX2_remove 126 = .ok (.iload_n 2, 1) := by decide +kernel
theorem dX2_remove_127 : decode cX2_remove 127 = .ok (.isub, 1) := by decide +kernel
theorem dX2_remove_128 : decode cX2_remove 128 = .ok (.isub, 1) := by decide +kernel
theorem dX2_remove_129 : decode cX2_remove 129 = .ok (.iastore, 1) := by decide +kernel
theorem dX2_remove_130 : decode cX2_remove 130 = .ok (.iinc 6 1, 3) := by decide +kernel
theorem dX2_remove_133 : decode cX2_remove 133 = .ok (.goto (-32), 3) := by decide +kernel
theorem dX2_remove_136 : decode cX2_remove 136 = .ok (.aload_n 0, 1) := by decide +kernel
theorem dX2_remove_137 : decode cX2_remove 137 = .ok (.dup, 1) := by decide +kernel
theorem dX2_remove_138 : decode cX2_remove 138 = .ok (.getfield 43, 3) := by decide +kernel
theorem dX2_remove_141 : decode cX2_remove 141 = .ok (.iconst 1, 1) := by decide +kernel
theorem dX2_remove_142 : decode cX2_remove 142 = .ok (.isub, 1) := by decide +kernel
theorem dX2_remove_143 : decode cX2_remove 143 = .ok (.putfield 43, 3) := by decide +kernel
theorem dX2_remove_146 : decode cX2_remove 146 = .ok (.return_, 1) := by decide +kernel
theorem dX2_append_0 : decode cX2_append 0 = .ok (.aload_n 0, 1) := by decide +kernel
theorem dX2_append_1 : decode cX2_append 1 = .ok (.getfield 21, 3) := by decide +kernel
theorem dX2_append_4 : decode cX2_append 4 = .ok (.iload_n 1, 1) := by decide +kernel
theorem dX2_append_5 : decode cX2_append 5 = .ok (.iconst 1, 1) := by decide +kernel
theorem dX2_append_6 : decode cX2_append 6 = .ok (.iadd, 1) := by decide +kernel
theorem dX2_append_7 : decode cX2_append 7 = .ok (.iaload, 1) := by decide +kernel
theorem dX2_append_8 : decode cX2_append 8 = .ok (.istore 4, 2) := by decide +kernel
theorem dX2_append_10 : decode cX2_append 10 = .ok (.aload_n 2, 1) := by decide +kernel
theorem dX2_append_11 : decode cX2_append 11 = .ok (.getfield 21, 3) := by decide +kernel
theorem dX2_append_14 : decode cX2_append 14 = .ok (.iload_n 3, 1) := by decide +kernel
theorem dX2_append_15 : decode cX2_append 15 = .ok (.iaload, 1) := by decide +kernel
theorem dX2_append_16 : decode cX2_append 16 = .ok (.istore 5, 2) := by decide +kernel
theorem dX2_append_18 : decode cX2_append 18 = .ok (.aload_n 2, 1) := by decide +kernel
theorem dX2_append_19 : decode cX2_append 19 = .ok (.iload_n 3, 1) := by decide +kernel
theorem dX2_append_20 : decode cX2_append 20 = .ok (.invokevirtual 67, 3) := by decide +kernel
theorem dX2_append_23 : decode cX2_append 23 = .ok (.istore 6, 2) := by decide +kernel
theorem dX2_append_25 : decode cX2_append 25 = .ok (.aload_n 0, 1) := by decide +kernel
theorem dX2_append_26 : decode cX2_append 26 = .ok (.invokevirtual 33, 3) := by decide +kernel
theorem dX2_append_29 : decode cX2_append 29 = .ok (.iload 4, 2) := by decide +kernel
theorem dX2_append_31 : decode cX2_append 31 = .ok (.isub, 1) := by decide +kernel
theorem dX2_append_32 : decode cX2_append 32 = .ok (.istore 7, 2) := by decide +kernel
theorem dX2_append_34 : decode cX2_append 34 = .ok (.aload_n 0, 1) := by decide +kernel
theorem dX2_append_35 : decode cX2_append 35 = .ok (.getfield 15, 3) := by decide +kernel
theorem dX2_append_38 : decode cX2_append 38 = .ok (.iload 4, 2) := by decide +kernel
theorem dX2_append_40 : decode cX2_append 40 = .ok (.aload_n 0, 1) := by decide +kernel
theorem dX2_append_41 : decode cX2_append 41 = .ok (.getfield 15, 3) := by decide +kernel
theorem dX2_append_44 : decode cX2_append 44 = .ok (.iload 4, 2) := by decide +kernel
theorem dX2_append_46 : decode cX2_append 46 = .ok (.iload 6, 2) := by decide +kernel
theorem dX2_append_48 : decode cX2_append 48 = .ok (.iadd, 1) := by decide +kernel
theorem dX2_append_49 : decode cX2_append 49 = .ok (.iload 7, 2) := by decide +kernel
theorem dX2_append_51 : decode cX2_append 51 = .ok (.invokestatic 37, 3) := by decide +kernel
theorem dX2_append_54 : decode cX2_append 54 = .ok (.aload_n 0, 1) := by decide +kernel
theorem dX2_append_55 : decode cX2_append 55 = .ok (.getfield 18, 3) := by decide +kernel
theorem dX2_append_58 : decode cX2_append 58 = .ok (.iload 4, 2) := by decide +kernel
theorem dX2_append_60 : decode cX2_append 60 = .ok (.aload_n 0, 1) := by decide +kernel
theorem dX2_append_61 : decode cX2_append 61 = .ok (.getfield 18, 3) := by decide +kernel
theorem dX2_append_64 : decode cX2_append 64 = .ok (.iload 4, 2) := by decide +kernel
theorem dX2_append_66 : decode cX2_append 66 = .ok (.iload 6, 2) := by decide +kernel
theorem dX2_append_68 : decode cX2_append 68 = .ok (.iadd, 1) := by decide +kernel
theorem dX2_append_69 : decode cX2_append 69 = .ok (.iload 7, 2) := by decide +kernel
theorem dX2_append_71 : decode cX2_append 71 = .ok (.invokestatic 37, 3) := by decide +kernel
theorem dX2_append_74 : decode cX2_append 74 = .ok (.aload_n 2, 1) := by decide +kernel
theorem dX2_append_75 : decode cX2_append 75 = .ok (.getfield 15, 3) := by decide +kernel
theorem dX2_append_78 : decode cX2_append 78 = .ok (.iload 5, 2) := by decide +kernel
theorem dX2_append_80 : decode cX2_append 80 = .ok (.aload_n 0, 1) := by decide +kernel
theorem dX2_append_81 : decode cX2_append 81 = .ok (.getfield 15, 3) := by decide +kernel
theorem dX2_append_84 : decode cX2_append 84 = .ok (.iload 4, 2) := by decide +kernel
theorem dX2_append_86 : decode cX2_append 86 = .ok (.iload 6, 2) := by decide +kernel
theorem dX2_append_88 : decode cX2_append 88 = .ok (.invokestatic 37, 3) := by decide +kernel
theorem dX2_append_91 : decode cX2_append 91 = .ok (.aload_n 2, 1) := by decide +kernel
theorem dX2_append_92 : decode cX2_append 92 = .ok (.getfield 18, 3) := by decide +kernel
theorem dX2_append_95 : decode cX2_append 95 = .ok (.iload 5, 2) := by decide +kernel
theorem dX2_append_97 : decode cX2_append 97 = .ok (.aload_n 0, 1) := by decide +kernel
theorem dX2_append_98 : decode cX2_append 98 = .ok (.getfield 18, 3) := by decide +kernel
theorem dX2_append_101 : decode cX2_append 101 = .ok (.iload 4, 2) := by decide +kernel
theorem dX2_append_103 : decode cX2_append 103 = .ok (.iload 6, 2) := by decide +kernel
theorem dX2_append_105 : decode cX2_append 105 = .ok (.invokestatic 37, 3) := by decide +kernel
theorem dX2_append_108 : decode cX2_append 108 = .ok (.iload_n 1, 1) := by decide +kernel
theorem dX2_append_109 : decode cX2_append 109 = .ok (.iconst 1, 1) := by decide +kernel
theorem dX2_append_110 : decode cX2_append 110 = .ok (.iadd, 1) := by decide +kernel
theorem dX2_append_111 : decode cX2_append 111 = .ok (.istore 8, 2) := by decide +kernel
theorem dX2_append_113 : decode cX2_append 113 = .ok (.iload 8, 2) := by decide +kernel
theorem dX2_append_115 : decode cX2_append 115 = .ok (.aload_n 0, 1) := by decide +kernel
theorem dX2_append_116 : decode cX2_append 116 = .ok (.getfield 43, 3) := by decide +kernel
theorem dX2_append_119 : decode cX2_append 119 = .ok (.if_icmp .gt 21, 3) := by decide +kernel
theorem dX2_append_122 : decode cX2_append 122 = .ok (.aload_n 0, 1) := by decide +kernel
theorem dX2_append_123 : decode cX2_append 123 = .ok (.getfield 21, 3) := by decide +kernel
theorem dX2_append_126 : decode cX2_append 126 = .ok (.iload 8, 2) := by decide +kernel
theorem dX2_append_128 : decode cX2_append 128 = .ok (.dup2, 1) := by decide +kernel
theorem dX2_append_129 : decode cX2_append 129 = .ok (.iaload, 1) := by decide +kernel
theorem dX2_append_130 : decode cX2_append 130 = .ok (.iload 6, 2) := by decide +kernel
theorem dX2_append_132 : decode cX2_append 132 = .ok (.iadd, 1) := by decide +kernel
theorem dX2_append_133 : decode cX2_append 133 = .ok (.iastore, 1) := by decide +kernel
theorem dX2_append_134 : decode cX2_append 134 = .ok (.iinc 8 1, 3) := by decide +kernel
theorem dX2_append_137 : decode cX2_append 137 = .ok (.goto (-24), 3) := by decide +kernel
theorem dX2_append_140 : decode cX2_append 140 = .ok (.return_, 1) := by decide +kernel
theorem dX2_isCalm_0 : decode cX2_isCalm 0 = .ok (.iconst 0, 1) := by decide +kernel
theorem dX2_isCalm_1 : decode cX2_isCalm 1 = .ok (.istore_n 1, 1) := by decide +kernel
theorem dX2_isCalm_2 : decode cX2_isCalm 2 = .ok (.iload_n 1, 1) := by decide +kernel
theorem dX2_isCalm_3 : decode cX2_isCalm 3 = .ok (.aload_n 0, 1) := by decide +kernel
theorem dX2_isCalm_4 : decode cX2_isCalm 4 = .ok (.invokevirtual 33, 3) := by decide +kernel
theorem dX2_isCalm_7 : decode cX2_isCalm 7 = .ok (.if_icmp .ge 26, 3) := by decide +kernel
theorem dX2_isCalm_10 : decode cX2_isCalm 10 = .ok (.aload_n 0, 1) := by decide +kernel
theorem dX2_isCalm_11 : decode cX2_isCalm 11 = .ok (.getfield 18, 3) := by decide +kernel
theorem dX2_isCalm_14 : decode cX2_isCalm 14 = .ok (.iload_n 1, 1) := by decide +kernel
theorem dX2_isCalm_15 : decode cX2_isCalm 15 = .ok (.iaload, 1) := by decide +kernel
theorem dX2_isCalm_16 : decode cX2_isCalm 16 = .ok (.aload_n 0, 1) := by decide +kernel
theorem dX2_isCalm_17 : decode cX2_isCalm 17 = .ok (.getfield 9, 3) := by decide +kernel
theorem dX2_isCalm_20 : decode cX2_isCalm 20 = .ok (.iconst 0, 1) := by decide +kernel
theorem dX2_isCalm_21 : decode cX2_isCalm 21 = .ok (.iaload, 1) := by decide +kernel
theorem dX2_isCalm_22 : decode cX2_isCalm 22 = .ok (.if_icmp .lt 5, 3) := by decide +kernel
theorem dX2_isCalm_25 : decode cX2_isCalm 25 = .ok (.iconst 0, 1) := by decide +kernel
theorem dX2_isCalm_26 : decode cX2_isCalm 26 = .ok (.ireturn, 1) := by decide +kernel
theorem dX2_isCalm_27 : decode cX2_isCalm 27 = .ok (.iinc 1 1, 3) := by decide +kernel
theorem dX2_isCalm_30 : decode cX2_isCalm 30 = .ok (.goto (-28), 3) := by decide +kernel
theorem dX2_isCalm_33 : decode cX2_isCalm 33 = .ok (.iconst 1, 1) := by decide +kernel
theorem dX2_isCalm_34 : decode cX2_isCalm 34 = .ok (.ireturn, 1) := by decide +kernel
theorem dX3_isWithin_0 : decode cX3_isWithin 0 = .ok (.iload_n 0, 1) := by decide +kernel
theorem dX3_isWithin_1 : decode cX3_isWithin 1 = .ok (.iload_n 1, 1) := by decide +kernel
theorem dX3_isWithin_2 : decode cX3_isWithin 2 = .ok (.if_icmp .lt 12, 3) := by decide +kernel
theorem dX3_isWithin_5 : decode cX3_isWithin 5 = .ok (.iload_n 0, 1) := by decide +kernel
theorem dX3_isWithin_6 : decode cX3_isWithin 6 = .ok (.iload_n 2, 1) := by decide +kernel
theorem dX3_isWithin_7 : decode cX3_isWithin 7 = .ok (.if_icmp .gt 7, 3) := by decide +kernel
theorem dX3_isWithin_10 : decode cX3_isWithin 10 = .ok (.iconst 1, 1) := by decide +kernel
theorem dX3_isWithin_11 : decode cX3_isWithin 11 = .ok (.goto 4, 3) := by decide +kernel
theorem dX3_isWithin_14 : decode cX3_isWithin 14 = .ok (.iconst 0, 1) := by decide +kernel
theorem dX3_isWithin_15 : decode cX3_isWithin 15 = .ok (.ireturn, 1) := by decide +kernel
theorem ggX0_record_X2_copyFrom : GoodIn wsX0_record wsX2_copyFrom := goodIn_r _ [8, 9, 10, 11, 12, 13, 14, 15, 16, 17, 18, 19, 20, 21, 22, 23, 24, 25, 26, 7, 27, 31, 32, 33, 34, 35, 36, 37, 38, 39, 40, 41, 42] rfl (by decide +kernel)
theorem gX0_record_X2_copyFrom : GoodIn wsX0_record (wsV RX0 25 RX2 yX2_copyFrom wsX2_copyFrom) := goodIn_app (goodIn_r _ [4, 5, 6, 7] rfl (by decide +kernel)) ggX0_record_X2_copyFrom
theorem ggX0_takeBack_X2_copyFrom : GoodIn wsX0_takeBack wsX2_copyFrom := goodIn_r _ [8, 9, 10, 11, 12, 13, 14, 15, 16, 17, 18, 19, 20, 21, 22, 23, 24, 25, 26, 7, 27, 31, 32, 33, 34, 35, 36, 37, 38, 39, 40, 41, 42] rfl (by decide +kernel)
theorem gX0_takeBack_X2_copyFrom : GoodIn wsX0_takeBack (wsV RX0 25 RX2 yX2_copyFrom wsX2_copyFrom) := goodIn_app (goodIn_r _ [4, 5, 6, 7] rfl (by decide +kernel)) ggX0_takeBack_X2_copyFrom
theorem ggX1_charactersIn_X3_isWithin : GoodIn wsX1_charactersIn wsX3_isWithin := goodIn_r _ [4] rfl (by decide +kernel)
theorem gX1_charactersIn_X3_isWithin_n17 : GoodIn wsX1_charactersIn (wsX3_isWithin) := ggX1_charactersIn_X3_isWithin
theorem ggX1_firstFault_X1_placeBehind : GoodIn wsX1_firstFault wsX1_placeBehind := goodIn_r _ [6, 7, 8, 5, 9, 10, 11, 12] rfl (by decide +kernel)
theorem gX1_firstFault_X1_placeBehind : GoodIn wsX1_firstFault (va_wsS RX1 25 yX1_placeBehind wsX1_placeBehind) := goodIn_app (goodIn_r _ [3, 4, 5] rfl (by decide +kernel)) ggX1_firstFault_X1_placeBehind
theorem ggX1_placeBehind_X1_isWord : GoodIn wsX1_placeBehind wsX1_isWord := goodIn_r _ [4, 5, 6, 7] rfl (by decide +kernel)
theorem gX1_placeBehind_X1_isWord : GoodIn wsX1_placeBehind (va_wsS RX1 29 yX1_isWord wsX1_isWord) := goodIn_app (goodIn_r _ [1, 2, 3] rfl (by decide +kernel)) ggX1_placeBehind_X1_isWord
theorem ggX1_placeBehind_X3_isWithin : GoodIn wsX1_placeBehind wsX3_isWithin := goodIn_r _ [7] rfl (by decide +kernel)
theorem gX1_placeBehind_X3_isWithin_n17 : GoodIn wsX1_placeBehind (wsX3_isWithin) := ggX1_placeBehind_X3_isWithin
theorem ggX1_isWord_X3_isWithin : GoodIn wsX1_isWord wsX3_isWithin := goodIn_r _ [3] rfl (by decide +kernel)
theorem gX1_isWord_X3_isWithin_n17 : GoodIn wsX1_isWord (wsX3_isWithin) := ggX1_isWord_X3_isWithin
theorem ggX1_wordsIn_X1_isWord : GoodIn wsX1_wordsIn wsX1_isWord := goodIn_r _ [6, 7, 8, 9] rfl (by decide +kernel)
theorem gX1_wordsIn_X1_isWord : GoodIn wsX1_wordsIn (va_wsS RX1 29 yX1_isWord wsX1_isWord) := goodIn_app (goodIn_r _ [3, 4, 5] rfl (by decide +kernel)) ggX1_wordsIn_X1_isWord
theorem ggX1_writeTo_X2_addStory : GoodIn wsX1_writeTo wsX2_addStory := goodIn_r _ [7, 8, 9, 10, 11, 12, 36, 37, 38, 39, 40, 41, 42, 43, 44, 45, 46, 47] rfl (by decide +kernel)
theorem gX1_writeTo_X2_addStory : GoodIn wsX1_writeTo (wsV RX1 33 RX2 yX2_addStory wsX2_addStory) := goodIn_app (goodIn_r _ [3, 4, 5, 6] rfl (by decide +kernel)) ggX1_writeTo_X2_addStory
theorem ggX1_writeTo_X1_isWord : GoodIn wsX1_writeTo wsX1_isWord := goodIn_r _ [16, 17, 18, 19] rfl (by decide +kernel)
theorem gX1_writeTo_X1_isWord : GoodIn wsX1_writeTo (va_wsS RX1 29 yX1_isWord wsX1_isWord) := goodIn_app (goodIn_r _ [13, 14, 15] rfl (by decide +kernel)) ggX1_writeTo_X1_isWord
theorem ggX1_writeTo_X2_addWord : GoodIn wsX1_writeTo wsX2_addWord := goodIn_r _ [23, 24, 25, 12, 9, 26, 27, 28, 6, 29, 36, 37, 38, 39, 40, 41, 42, 43, 44, 45, 46, 47] rfl (by decide +kernel)
theorem gX1_writeTo_X2_addWord : GoodIn wsX1_writeTo (wsV RX1 38 RX2 yX2_addWord wsX2_addWord) := goodIn_app (goodIn_r _ [20, 21, 22, 6] rfl (by decide +kernel)) ggX1_writeTo_X2_addWord
theorem ggX1_writeTo_X2_addDigit : GoodIn wsX1_writeTo wsX2_addDigit := goodIn_r _ [33, 25, 26, 27, 28, 6, 29, 12, 9, 36, 37, 38, 39, 40, 41, 42, 43, 44, 45, 46, 47] rfl (by decide +kernel)
theorem gX1_writeTo_X2_addDigit : GoodIn wsX1_writeTo (wsV RX1 42 RX2 yX2_addDigit wsX2_addDigit) := goodIn_app (goodIn_r _ [30, 31, 32, 6] rfl (by decide +kernel)) ggX1_writeTo_X2_addDigit
theorem ggX2_copyFrom_X2_words : GoodIn wsX2_copyFrom wsX2_words := goodIn_r _ [20, 8, 9, 21, 22, 23, 24, 25, 26, 27, 28, 29, 30, 31, 32] rfl (by decide +kernel)
theorem gX2_copyFrom_X2_words : GoodIn wsX2_copyFrom (wsV RX2 33 RX2 yX2_words wsX2_words) := goodIn_app (goodIn_r _ [16, 17, 18, 19] rfl (by decide +kernel)) ggX2_copyFrom_X2_words
theorem ggX2_hasStory_X3_isWithin : GoodIn wsX2_hasStory wsX3_isWithin := goodIn_r _ [4] rfl (by decide +kernel)
theorem gX2_hasStory_X3_isWithin_n59 : GoodIn wsX2_hasStory (wsX3_isWithin) := ggX2_hasStory_X3_isWithin
theorem ggX2_hasWord_X2_hasStory : GoodIn wsX2_hasWord wsX2_hasStory := goodIn_r _ [5, 6, 7, 8, 9, 15, 16, 17, 18, 19, 20, 21, 22, 23, 24, 25, 26] rfl (by decide +kernel)
theorem gX2_hasWord_X2_hasStory : GoodIn wsX2_hasWord (wsV RX2 63 RX2 yX2_hasStory wsX2_hasStory) := goodIn_app (goodIn_r _ [1, 2, 3, 4] rfl (by decide +kernel)) ggX2_hasWord_X2_hasStory
theorem ggX2_hasWord_X2_sizeOf : GoodIn wsX2_hasWord wsX2_sizeOf := goodIn_r _ [13, 14, 15, 16, 17, 18, 19, 20, 21, 22, 23, 24, 25, 26] rfl (by decide +kernel)
theorem gX2_hasWord_X2_sizeOf : GoodIn wsX2_hasWord (wsV RX2 67 RX2 yX2_sizeOf wsX2_sizeOf) := goodIn_app (goodIn_r _ [10, 11, 12, 4] rfl (by decide +kernel)) ggX2_hasWord_X2_sizeOf
theorem ggX2_hasWord_X3_isWithin : GoodIn wsX2_hasWord wsX3_isWithin := goodIn_r _ [9] rfl (by decide +kernel)
theorem gX2_hasWord_X3_isWithin_n59 : GoodIn wsX2_hasWord (wsX3_isWithin) := ggX2_hasWord_X3_isWithin
theorem ggX2_placeOf_X2_storyAt : GoodIn wsX2_placeOf wsX2_storyAt := goodIn_r _ [6, 7, 1, 8, 9, 10, 11, 12, 13, 14, 15, 16, 17, 18, 19] rfl (by decide +kernel)
theorem gX2_placeOf_X2_storyAt : GoodIn wsX2_placeOf (wsV RX2 71 RX2 yX2_storyAt wsX2_storyAt) := goodIn_app (goodIn_r _ [2, 3, 4, 5] rfl (by decide +kernel)) ggX2_placeOf_X2_storyAt
theorem ggX2_addWord_X2_words : GoodIn wsX2_addWord wsX2_words := goodIn_r _ [9, 3, 4, 10, 11, 12, 13, 14, 15, 16, 17, 18, 19, 20, 21] rfl (by decide +kernel)
theorem gX2_addWord_X2_words : GoodIn wsX2_addWord (wsV RX2 33 RX2 yX2_words wsX2_words) := goodIn_app (goodIn_r _ [5, 6, 7, 8] rfl (by decide +kernel)) ggX2_addWord_X2_words
theorem ggX2_addDigit_X2_words : GoodIn wsX2_addDigit wsX2_words := goodIn_r _ [6, 7, 8, 9, 10, 11, 12, 13, 14, 15, 16, 17, 18, 19, 20] rfl (by decide +kernel)
theorem gX2_addDigit_X2_words : GoodIn wsX2_addDigit (wsV RX2 33 RX2 yX2_words wsX2_words) := goodIn_app (goodIn_r _ [2, 3, 4, 5] rfl (by decide +kernel)) ggX2_addDigit_X2_words
theorem ggX2_remove_X2_words : GoodIn wsX2_remove wsX2_words := goodIn_r _ [15, 1, 2, 16, 17, 18, 19, 20, 21, 22, 23, 24, 25, 26, 27] rfl (by decide +kernel)
theorem gX2_remove_X2_words : GoodIn wsX2_remove (wsV RX2 33 RX2 yX2_words wsX2_words) := goodIn_app (goodIn_r _ [11, 12, 13, 14] rfl (by decide +kernel)) ggX2_remove_X2_words
theorem ggX2_append_X2_sizeOf : GoodIn wsX2_append wsX2_sizeOf := goodIn_r _ [13, 1, 18, 19, 20, 21, 22, 23, 24, 25, 26, 27, 28, 29] rfl (by decide +kernel)
theorem gX2_append_X2_sizeOf : GoodIn wsX2_append (wsV RX2 67 RX2 yX2_sizeOf wsX2_sizeOf) := goodIn_app (goodIn_r _ [9, 10, 11, 12] rfl (by decide +kernel)) ggX2_append_X2_sizeOf
theorem ggX2_append_X2_words : GoodIn wsX2_append wsX2_words := goodIn_r _ [17, 1, 8, 18, 19, 20, 21, 22, 23, 24, 25, 26, 27, 28, 29] rfl (by decide +kernel)
theorem gX2_append_X2_words : GoodIn wsX2_append (wsV RX2 33 RX2 yX2_words wsX2_words) := goodIn_app (goodIn_r _ [14, 15, 16, 12] rfl (by decide +kernel)) ggX2_append_X2_words
theorem ggX2_isCalm_X2_words : GoodIn wsX2_isCalm wsX2_words := goodIn_r _ [7, 8, 9, 10, 11, 12, 13, 14, 15, 16, 17, 18, 19, 20, 21] rfl (by decide +kernel)
theorem gX2_isCalm_X2_words : GoodIn wsX2_isCalm (wsV RX2 33 RX2 yX2_words wsX2_words) := goodIn_app (goodIn_r _ [3, 4, 5, 6] rfl (by decide +kernel)) ggX2_isCalm_X2_words
