theorem dX0_type_0 : decode cX0_type 0 = .ok (.lload_n 0, 1) := by decide +kernel
theorem dX0_type_1 : decode cX0_type 1 = .ok (.l2i, 1) := by decide +kernel
theorem dX0_type_2 : decode cX0_type 2 = .ok (.iconst 3, 1) := by decide +kernel
theorem dX0_type_3 : decode cX0_type 3 = .ok (.iand, 1) := by decide +kernel
theorem dX0_type_4 : decode cX0_type 4 = .ok (.ireturn, 1) := by decide +kernel
theorem dX0_isStructOrList_0 : decode cX0_isStructOrList 0 = .ok (.lload_n 0, 1) := by decide +kernel
theorem dX0_isStructOrList_1 : decode cX0_isStructOrList 1 = .ok (.lconst 0, 1) := by decide +kernel
theorem dX0_isStructOrList_2 : decode cX0_isStructOrList 2 = .ok (.lcmp, 1) := by decide +kernel
theorem dX0_isStructOrList_3 : decode cX0_isStructOrList 3 = .ok (.ifCond .eq 17, 3) := by decide +kernel
theorem dX0_isStructOrList_6 : decode cX0_isStructOrList 6 = .ok (.lload_n 0, 1) := by decide +kernel
theorem dX0_isStructOrList_7 : decode cX0_isStructOrList 7 = .ok (.ldc2_w 9, 3) := by decide +kernel
theorem dX0_isStructOrList_10 : decode cX0_isStructOrList 10 = .ok (.land, 1) := by decide +kernel
theorem dX0_isStructOrList_11 : decode cX0_isStructOrList 11 = .ok (.lconst 0, 1) := by decide +kernel
theorem dX0_isStructOrList_12 : decode cX0_isStructOrList 12 = .ok (.lcmp, 1) := by decide +kernel
theorem dX0_isStructOrList_13 : decode cX0_isStructOrList 13 = .ok (.ifCond .ne 7, 3) := by decide +kernel
theorem dX0_isStructOrList_16 : decode cX0_isStructOrList 16 = .ok (.iconst 1, 1) := by decide +kernel
theorem dX0_isStructOrList_17 : decode cX0_isStructOrList 17 = .ok (.goto 4, 3) := by decide +kernel
theorem dX0_isStructOrList_20 : decode cX0_isStructOrList 20 = .ok (.iconst 0, 1) := by decide +kernel
theorem dX0_isStructOrList_21 : decode cX0_isStructOrList 21 = .ok (.ireturn, 1) := by decide +kernel
theorem dX0_offset_0 : decode cX0_offset 0 = .ok (.lload_n 0, 1) := by decide +kernel
theorem dX0_offset_1 : decode cX0_offset 1 = .ok (.l2i, 1) := by decide +kernel
theorem dX0_offset_2 : decode cX0_offset 2 = .ok (.iconst 2, 1) := by decide +kernel
theorem dX0_offset_3 : decode cX0_offset 3 = .ok (.ishr, 1) := by decide +kernel
theorem dX0_offset_4 : decode cX0_offset 4 = .ok (.ireturn, 1) := by decide +kernel
theorem dX0_tagCount_0 : decode cX0_tagCount 0 = .ok (.lload_n 0, 1) := by decide +kernel
theorem dX0_tagCount_1 : decode cX0_tagCount 1 = .ok (.l2i, 1) := by decide +kernel
theorem dX0_tagCount_2 : decode cX0_tagCount 2 = .ok (.iconst 2, 1) := by decide +kernel
theorem dX0_tagCount_3 : decode cX0_tagCount 3 = .ok (.iushr, 1) := by decide +kernel
theorem dX0_tagCount_4 : decode cX0_tagCount 4 = .ok (.ireturn, 1) := by decide +kernel
theorem dX0_dataWords_0 : decode cX0_dataWords 0 = .ok (.lload_n 0, 1) := by decide +kernel
theorem dX0_dataWords_1 : decode cX0_dataWords 1 = .ok (.bipush 32, 2) := by decide +kernel
theorem dX0_dataWords_3 : decode cX0_dataWords 3 = .ok (.lushr, 1) := by decide +kernel
theorem dX0_dataWords_4 : decode cX0_dataWords 4 = .ok (.l2i, 1) := by decide +kernel
theorem dX0_dataWords_5 : decode cX0_dataWords 5 = .ok (.ldc 11, 2) := by decide +kernel
theorem dX0_dataWords_7 : decode cX0_dataWords 7 = .ok (.iand, 1) := by decide +kernel
theorem dX0_dataWords_8 : decode cX0_dataWords 8 = .ok (.ireturn, 1) := by decide +kernel
theorem dX0_pointers_0 : decode cX0_pointers 0 = .ok (.lload_n 0, 1) := by decide +kernel
theorem dX0_pointers_1 : decode cX0_pointers 1 = .ok (.bipush 48, 2) := by decide +kernel
theorem dX0_pointers_3 : decode cX0_pointers 3 = .ok (.lushr, 1) := by decide +kernel
theorem dX0_pointers_4 : decode cX0_pointers 4 = .ok (.l2i, 1) := by decide +kernel
theorem dX0_pointers_5 : decode cX0_pointers 5 = .ok (.ireturn, 1) := by decide +kernel
theorem dX0_listKind_0 : decode cX0_listKind 0 = .ok (.lload_n 0, 1) := by decide +kernel
theorem dX0_listKind_1 : decode cX0_listKind 1 = .ok (.bipush 32, 2) := by decide +kernel
theorem dX0_listKind_3 : decode cX0_listKind 3 = .ok (.lushr, 1) := by decide +kernel
theorem dX0_listKind_4 : decode cX0_listKind 4 = .ok (.l2i, 1) := by decide +kernel
theorem dX0_listKind_5 : decode cX0_listKind 5 = .ok (.bipush 7, 2) := by decide +kernel
theorem dX0_listKind_7 : decode cX0_listKind 7 = .ok (.iand, 1) := by decide +kernel
theorem dX0_listKind_8 : decode cX0_listKind 8 = .ok (.ireturn, 1) := by decide +kernel
theorem dX0_listNumber_0 : decode cX0_listNumber 0 = .ok (.lload_n 0, 1) := by decide +kernel
theorem dX0_listNumber_1 : decode cX0_listNumber 1 = .ok (.bipush 35, 2) := by decide +kernel
theorem dX0_listNumber_3 : decode cX0_listNumber 3 = .ok (.lushr, 1) := by decide +kernel
theorem dX0_listNumber_4 : decode cX0_listNumber 4 = .ok (.l2i, 1) := by decide +kernel
theorem dX0_listNumber_5 : decode cX0_listNumber 5 = .ok (.ireturn, 1) := by decide +kernel
theorem dX0_hasTwoWordPad_0 : decode cX0_hasTwoWordPad 0 = .ok (.lload_n 0, 1) := by decide +kernel
theorem dX0_hasTwoWordPad_1 : decode cX0_hasTwoWordPad 1 = .ok (.ldc2_w 12, 3) := by decide +kernel
theorem dX0_hasTwoWordPad_4 : decode cX0_hasTwoWordPad 4 = .ok (.land, 1) := by decide +kernel
theorem dX0_hasTwoWordPad_5 : decode cX0_hasTwoWordPad 5 = .ok (.lconst 0, 1) := by decide +kernel
theorem dX0_hasTwoWordPad_6 : decode cX0_hasTwoWordPad 6 = .ok (.lcmp, 1) := by decide +kernel
theorem dX0_hasTwoWordPad_7 : decode cX0_hasTwoWordPad 7 = .ok (.ifCond .eq 7, 3) := by decide +kernel
theorem dX0_hasTwoWordPad_10 : decode cX0_hasTwoWordPad 10 = .ok (.iconst 1, 1) := by decide +kernel
theorem dX0_hasTwoWordPad_11 : decode cX0_hasTwoWordPad 11 = .ok (.goto 4, 3) := by decide +kernel
theorem dX0_hasTwoWordPad_14 : decode cX0_hasTwoWordPad 14 = .ok (.iconst 0, 1) := by decide +kernel
theorem dX0_hasTwoWordPad_15 : decode cX0_hasTwoWordPad 15 = .ok (.ireturn, 1) := by decide +kernel
theorem dX0_farSegment_0 : decode cX0_farSegment 0 = .ok (.lload_n 0, 1) := by decide +kernel
theorem dX0_farSegment_1 : decode cX0_farSegment 1 = .ok (.bipush 32, 2) := by decide +kernel
theorem dX0_farSegment_3 : decode cX0_farSegment 3 = .ok (.lushr, 1) := by decide +kernel
theorem dX0_farSegment_4 : decode cX0_farSegment 4 = .ok (.lstore_n 2, 1) := by decide +kernel
theorem dX0_farSegment_5 : decode cX0_farSegment 5 = .ok (.lload_n 2, 1) := by decide +kernel
theorem dX0_farSegment_6 : decode cX0_farSegment 6 = .ok (.ldc2_w 12, 3) := by decide +kernel
theorem dX0_farSegment_9 : decode cX0_farSegment 9 = .ok (.lcmp, 1) := by decide +kernel
theorem dX0_farSegment_10 : decode cX0_farSegment 10 = .ok (.ifCond .ge 8, 3) := by decide +kernel
theorem dX0_farSegment_13 : decode cX0_farSegment 13 = .ok (.lload_n 2, 1) := by decide +kernel
theorem dX0_farSegment_14 : decode cX0_farSegment 14 = .ok (.l2i, 1) := by decide +kernel
theorem dX0_farSegment_15 : decode cX0_farSegment 15 = .ok (.goto 4, 3) := by decide +kernel
theorem dX0_farSegment_18 : decode cX0_farSegment 18 = .ok (.iconst (-1), 1) := by decide +kernel
theorem dX0_farSegment_19 : decode cX0_farSegment 19 = .ok (.ireturn, 1) := by decide +kernel
theorem dX0_farWord_0 : decode cX0_farWord 0 = .ok (.lload_n 0, 1) := by decide +kernel
theorem dX0_farWord_1 : decode cX0_farWord 1 = .ok (.l2i, 1) := by decide +kernel
theorem dX0_farWord_2 : decode cX0_farWord 2 = .ok (.iconst 3, 1) := by decide +kernel
theorem dX0_farWord_3 : decode cX0_farWord 3 = .ok (.iushr, 1) := by decide +kernel
theorem dX0_farWord_4 : decode cX0_farWord 4 = .ok (.ireturn, 1) := by decide +kernel
theorem dX0_structPointer_0 : decode cX0_structPointer 0 = .ok (.iload_n 2, 1) := by decide +kernel
theorem dX0_structPointer_1 : decode cX0_structPointer 1 = .ok (.i2l, 1) := by decide +kernel
theorem dX0_structPointer_2 : decode cX0_structPointer 2 = .ok (.bipush 48, 2) := by decide +kernel
theorem dX0_structPointer_4 : decode cX0_structPointer 4 = .ok (.lshl, 1) := by decide +kernel
theorem dX0_structPointer_5 : decode cX0_structPointer 5 = .ok (.iload_n 1, 1) := by decide +kernel
theorem dX0_structPointer_6 : decode cX0_structPointer 6 = .ok (.i2l, 1) := by decide +kernel
theorem dX0_structPointer_7 : decode cX0_structPointer 7 = .ok (.bipush 32, 2) := by decide +kernel
theorem dX0_structPointer_9 : decode cX0_structPointer 9 = .ok (.lshl, 1) := by decide +kernel
theorem dX0_structPointer_10 : decode cX0_structPointer 10 = .ok (.lor, 1) := by decide +kernel
theorem dX0_structPointer_11 : decode cX0_structPointer 11 = .ok (.iload_n 0, 1) := by decide +kernel
theorem dX0_structPointer_12 : decode cX0_structPointer 12 = .ok (.i2l, 1) := by decide +kernel
theorem dX0_structPointer_13 : decode cX0_structPointer 13 = .ok (.iconst 2, 1) := by decide +kernel
theorem dX0_structPointer_14 : decode cX0_structPointer 14 = .ok (.lshl, 1) := by decide +kernel
theorem dX0_structPointer_15 : decode cX0_structPointer 15 = .ok (.ldc2_w 16, 3) := by decide +kernel
theorem dX0_structPointer_18 : decode cX0_structPointer 18 = .ok (.land, 1) := by decide +kernel
theorem dX0_structPointer_19 : decode cX0_structPointer 19 = .ok (.lor, 1) := by decide +kernel
theorem dX0_structPointer_20 : decode cX0_structPointer 20 = .ok (.lreturn, 1) := by decide +kernel
theorem dX0_listPointer_0 : decode cX0_listPointer 0 = .ok (.iload_n 2, 1) := by decide +kernel
theorem dX0_listPointer_1 : decode cX0_listPointer 1 = .ok (.i2l, 1) := by decide +kernel
theorem dX0_listPointer_2 : decode cX0_listPointer 2 = .ok (.bipush 35, 2) := by decide +kernel
theorem dX0_listPointer_4 : decode cX0_listPointer 4 = .ok (.lshl, 1) := by decide +kernel
theorem dX0_listPointer_5 : decode cX0_listPointer 5 = .ok (.iload_n 1, 1) := by decide +kernel
theorem dX0_listPointer_6 : decode cX0_listPointer 6 = .ok (.i2l, 1) := by decide +kernel
theorem dX0_listPointer_7 : decode cX0_listPointer 7 = .ok (.bipush 32, 2) := by decide +kernel
theorem dX0_listPointer_9 : decode cX0_listPointer 9 = .ok (.lshl, 1) := by decide +kernel
theorem dX0_listPointer_10 : decode cX0_listPointer 10 = .ok (.lor, 1) := by decide +kernel
theorem dX0_listPointer_11 : decode cX0_listPointer 11 = .ok (.iload_n 0, 1) := by decide +kernel
theorem dX0_listPointer_12 : decode cX0_listPointer 12 = .ok (.i2l, 1) := by decide +kernel
theorem dX0_listPointer_13 : decode cX0_listPointer 13 = .ok (.iconst 2, 1) := by decide +kernel
theorem dX0_listPointer_14 : decode cX0_listPointer 14 = .ok (.lshl, 1) := by decide +kernel
theorem dX0_listPointer_15 : decode cX0_listPointer 15 = .ok (.ldc2_w 16, 3) := by decide +kernel
theorem dX0_listPointer_18 : decode cX0_listPointer 18 = .ok (.land, 1) := by decide +kernel
theorem dX0_listPointer_19 : decode cX0_listPointer 19 = .ok (.lor, 1) := by decide +kernel
theorem dX0_listPointer_20 : decode cX0_listPointer 20 = .ok (.lconst 1, 1) := by decide +kernel
theorem dX0_listPointer_21 : decode cX0_listPointer 21 = .ok (.lor, 1) := by decide +kernel
theorem dX0_listPointer_22 : decode cX0_listPointer 22 = .ok (.lreturn, 1) := by decide +kernel
theorem dX0_elementBits_0 : decode cX0_elementBits 0 = .ok (.iload_n 0, 1) := by decide +kernel
theorem dX0_elementBits_1 : decode cX0_elementBits 1 = .ok (.ifCond .lt 19, 3) := by decide +kernel
theorem dX0_elementBits_4 : decode cX0_elementBits 4 = .ok (.iload_n 0, 1) := by decide +kernel
theorem dX0_elementBits_5 : decode cX0_elementBits 5 = .ok (.getstatic 18, 3) := by decide +kernel
theorem dX0_elementBits_8 : decode cX0_elementBits 8 = .ok (.arraylength, 1) := by decide +kernel
theorem dX0_elementBits_9 : decode cX0_elementBits 9 = .ok (.if_icmp .ge 11, 3) := by decide +kernel
theorem dX0_elementBits_12 : decode cX0_elementBits 12 = .ok (.getstatic 18, 3) := by decide +kernel
theorem dX0_elementBits_15 : decode cX0_elementBits 15 = .ok (.iload_n 0, 1) := by decide +kernel
theorem dX0_elementBits_16 : decode cX0_elementBits 16 = .ok (.iaload, 1) := by decide +kernel
theorem dX0_elementBits_17 : decode cX0_elementBits 17 = .ok (.goto 4, 3) := by decide +kernel
theorem dX0_elementBits_20 : decode cX0_elementBits 20 = .ok (.iconst 0, 1) := by decide +kernel
theorem dX0_elementBits_21 : decode cX0_elementBits 21 = .ok (.ireturn, 1) := by decide +kernel
theorem dX0_wordsFor_0 : decode cX0_wordsFor 0 = .ok (.iload_n 0, 1) := by decide +kernel
theorem dX0_wordsFor_1 : decode cX0_wordsFor 1 = .ok (.i2l, 1) := by decide +kernel
theorem dX0_wordsFor_2 : decode cX0_wordsFor 2 = .ok (.iload_n 1, 1) := by decide +kernel
theorem dX0_wordsFor_3 : decode cX0_wordsFor 3 = .ok (.i2l, 1) := by decide +kernel
theorem dX0_wordsFor_4 : decode cX0_wordsFor 4 = .ok (.lmul, 1) := by decide +kernel
theorem dX0_wordsFor_5 : decode cX0_wordsFor 5 = .ok (.ldc2_w 22, 3) := by decide +kernel
theorem dX0_wordsFor_8 : decode cX0_wordsFor 8 = .ok (.ladd, 1) := by decide +kernel
theorem dX0_wordsFor_9 : decode cX0_wordsFor 9 = .ok (.ldc2_w 24, 3) := by decide +kernel
theorem dX0_wordsFor_12 : decode cX0_wordsFor 12 = .ok (.ldiv, 1) := by decide +kernel
theorem dX0_wordsFor_13 : decode cX0_wordsFor 13 = .ok (.l2i, 1) := by decide +kernel
theorem dX0_wordsFor_14 : decode cX0_wordsFor 14 = .ok (.ireturn, 1) := by decide +kernel
theorem dX0_lowest_0 : decode cX0_lowest 0 = .ok (.iload_n 0, 1) := by decide +kernel
theorem dX0_lowest_1 : decode cX0_lowest 1 = .ok (.bipush 64, 2) := by decide +kernel
theorem dX0_lowest_3 : decode cX0_lowest 3 = .ok (.if_icmp .lt 9, 3) := by decide +kernel
theorem dX0_lowest_6 : decode cX0_lowest 6 = .ok (.ldc2_w 26, 3) := by decide +kernel
theorem dX0_lowest_9 : decode cX0_lowest 9 = .ok (.goto 8, 3) := by decide +kernel
theorem dX0_lowest_12 : decode cX0_lowest 12 = .ok (.lconst 1, 1) := by decide +kernel
theorem dX0_lowest_13 : decode cX0_lowest 13 = .ok (.iload_n 0, 1) := by decide +kernel
theorem dX0_lowest_14 : decode cX0_lowest 14 = .ok (.lshl, 1) := by decide +kernel
theorem dX0_lowest_15 : decode cX0_lowest 15 = .ok (.lconst 1, 1) := by decide +kernel
theorem dX0_lowest_16 : decode cX0_lowest 16 = .ok (.lsub, 1) := by decide +kernel
theorem dX0_lowest_17 : decode cX0_lowest 17 = .ok (.lreturn, 1) := by decide +kernel
theorem dX1_init_0 : decode cX1_init 0 = .ok (.aload_n 0, 1) := by decide +kernel
theorem dX1_init_1 : decode cX1_init 1 = .ok (.invokespecial 3, 3) := by decide +kernel
theorem dX1_init_4 : decode cX1_init 4 = .ok (.aload_n 0, 1) := by decide +kernel
theorem dX1_init_5 : decode cX1_init 5 = .ok (.new 9, 3) := by decide +kernel
theorem dX1_init_8 : decode cX1_init 8 = .ok (.dup, 1) := by decide +kernel
theorem dX1_init_9 : decode cX1_init 9 = .ok (.invokespecial 11, 3) := by decide +kernel
theorem dX1_init_12 : decode cX1_init 12 = .ok (.putfield 12, 3) := by decide +kernel
theorem dX1_init_15 : decode cX1_init 15 = .ok (.aload_n 0, 1) := by decide +kernel
theorem dX1_init_16 : decode cX1_init 16 = .ok (.iconst 0, 1) := by decide +kernel
theorem dX1_init_17 : decode cX1_init 17 = .ok (.putfield 18, 3) := by decide +kernel
theorem dX1_init_20 : decode cX1_init 20 = .ok (.aload_n 0, 1) := by decide +kernel
theorem dX1_init_21 : decode cX1_init 21 = .ok (.bipush 10, 2) := by decide +kernel
theorem dX1_init_23 : decode cX1_init 23 = .ok (.anewarray 22, 3) := by decide +kernel
theorem dX1_init_26 : decode cX1_init 26 = .ok (.putfield 24, 3) := by decide +kernel
theorem dX1_init_29 : decode cX1_init 29 = .ok (.iconst 0, 1) := by decide +kernel
theorem dX1_init_30 : decode cX1_init 30 = .ok (.istore_n 1, 1) := by decide +kernel
theorem dX1_init_31 : decode cX1_init 31 = .ok (.iload_n 1, 1) := by decide +kernel
theorem dX1_init_32 : decode cX1_init 32 = .ok (.aload_n 0, 1) := by decide +kernel
theorem dX1_init_33 : decode cX1_init 33 = .ok (.getfield 24, 3) := by decide +kernel
theorem dX1_init_36 : decode cX1_init 36 = .ok (.arraylength, 1) := by decide +kernel
theorem dX1_init_37 : decode cX1_init 37 = .ok (.if_icmp .ge 22, 3) := by decide +kernel
theorem dX1_init_40 : decode cX1_init 40 = .ok (.aload_n 0, 1) := by decide +kernel
theorem dX1_init_41 : decode cX1_init 41 = .ok (.getfield 24, 3) := by decide +kernel
theorem dX1_init_44 : decode cX1_init 44 = .ok (.iload_n 1, 1) := by decide +kernel
theorem dX1_init_45 : decode cX1_init 45 = .ok (.new 22, 3) := by decide +kernel
theorem dX1_init_48 : decode cX1_init 48 = .ok (.dup, 1) := by decide +kernel
theorem dX1_init_49 : decode cX1_init 49 = .ok (.invokespecial 28, 3) := by decide +kernel
theorem dX1_init_52 : decode cX1_init 52 = .ok (.aastore, 1) := by decide +kernel
theorem dX1_init_53 : decode cX1_init 53 = .ok (.iinc 1 1, 3) := by decide +kernel
theorem dX1_init_56 : decode cX1_init 56 = .ok (.goto (-25), 3) := by decide +kernel
theorem dX1_init_59 : decode cX1_init 59 = .ok (.return_, 1) := by decide +kernel
theorem dX1_writeRoot_0 : decode cX1_writeRoot 0 = .ok (.aload_n 0, 1) := by decide +kernel
theorem dX1_writeRoot_1 : decode cX1_writeRoot 1 = .ok (.getfield 24, 3) := by decide +kernel
theorem dX1_writeRoot_4 : decode cX1_writeRoot 4 = .ok (.iconst 1, 1) := by decide +kernel
theorem dX1_writeRoot_5 : decode cX1_writeRoot 5 = .ok (.aaload, 1) := by decide +kernel
theorem dX1_writeRoot_6 : decode cX1_writeRoot 6 = .ok (.astore_n 3, 1) := by decide +kernel
theorem dX1_writeRoot_7 : decode cX1_writeRoot 7 = .ok (.aload_n 0, 1) := by decide +kernel
theorem dX1_writeRoot_8 : decode cX1_writeRoot 8 = .ok (.iload_n 2, 1) := by decide +kernel
theorem dX1_writeRoot_9 : decode cX1_writeRoot 9 = .ok (.aload_n 1, 1) := by decide +kernel
theorem dX1_writeRoot_10 : decode cX1_writeRoot 10 = .ok (.iload_n 2, 1) := by decide +kernel
theorem dX1_writeRoot_11 : decode cX1_writeRoot 11 = .ok (.aload_n 3, 1) := by decide +kernel
theorem dX1_writeRoot_12 : decode cX1_writeRoot 12 = .ok (.invokevirtual 29, 3) := by decide +kernel
theorem dX1_writeRoot_15 : decode cX1_writeRoot 15 = .ok (.isub, 1) := by decide +kernel
theorem dX1_writeRoot_16 : decode cX1_writeRoot 16 = .ok (.putfield 18, 3) := by decide +kernel
theorem dX1_writeRoot_19 : decode cX1_writeRoot 19 = .ok (.aload_n 0, 1) := by decide +kernel
theorem dX1_writeRoot_20 : decode cX1_writeRoot 20 = .ok (.getfield 12, 3) := by decide +kernel
theorem dX1_writeRoot_23 : decode cX1_writeRoot 23 = .ok (.iconst 0, 1) := by decide +kernel
theorem dX1_writeRoot_24 : decode cX1_writeRoot 24 = .ok (.putfield 35, 3) := by decide +kernel
theorem dX1_writeRoot_27 : decode cX1_writeRoot 27 = .ok (.aload_n 0, 1) := by decide +kernel
theorem dX1_writeRoot_28 : decode cX1_writeRoot 28 = .ok (.getfield 12, 3) := by decide +kernel
theorem dX1_writeRoot_31 : decode cX1_writeRoot 31 = .ok (.lconst 0, 1) := by decide +kernel
theorem dX1_writeRoot_32 : decode cX1_writeRoot 32 = .ok (.invokevirtual 38, 3) := by decide +kernel
theorem dX1_writeRoot_35 : decode cX1_writeRoot 35 = .ok (.pop, 1) := by decide +kernel
theorem dX1_writeRoot_36 : decode cX1_writeRoot 36 = .ok (.aload_n 0, 1) := by decide +kernel
theorem dX1_writeRoot_37 : decode cX1_writeRoot 37 = .ok (.aload_n 1, 1) := by decide +kernel
theorem dX1_writeRoot_38 : decode cX1_writeRoot 38 = .ok (.aload_n 3, 1) := by decide +kernel
theorem dX1_writeRoot_39 : decode cX1_writeRoot 39 = .ok (.iconst 0, 1) := by decide +kernel
theorem dX1_writeRoot_40 : decode cX1_writeRoot 40 = .ok (.invokevirtual 42, 3) := by decide +kernel
theorem dX1_writeRoot_43 : decode cX1_writeRoot 43 = .ok (.return_, 1) := by decide +kernel
theorem dX1_writePointers_0 : decode cX1_writePointers 0 = .ok (.iconst 0, 1) := by decide +kernel
theorem dX1_writePointers_1 : decode cX1_writePointers 1 = .ok (.istore 6, 2) := by decide +kernel
theorem dX1_writePointers_3 : decode cX1_writePointers 3 = .ok (.iload 6, 2) := by decide +kernel
theorem dX1_writePointers_5 : decode cX1_writePointers 5 = .ok (.iload 4, 2) := by decide +kernel
theorem dX1_writePointers_7 : decode cX1_writePointers 7 = .ok (.if_icmp .ge 75, 3) := by decide +kernel
theorem dX1_writePointers_10 : decode cX1_writePointers 10 = .ok (.aload_n 1, 1) := by decide +kernel
theorem dX1_writePointers_11 : decode cX1_writePointers 11 = .ok (.aload_n 2, 1) := by decide +kernel
theorem dX1_writePointers_12 : decode cX1_writePointers 12 = .ok (.getfield 46, 3) := by decide +kernel
theorem dX1_writePointers_15 : decode cX1_writePointers 15 = .ok (.iload_n 3, 1) := by decide +kernel
theorem dX1_writePointers_16 : decode cX1_writePointers 16 = .ok (.iload 6, 2) := by decide +kernel
theorem dX1_writePointers_18 : decode cX1_writePointers 18 = .ok (.iadd, 1) := by decide +kernel
theorem dX1_writePointers_19 : decode cX1_writePointers 19 = .ok (.invokevirtual 49, 3) := by decide +kernel
theorem dX1_writePointers_22 : decode cX1_writePointers 22 = .ok (.lconst 0, 1) := by decide +kernel
theorem dX1_writePointers_23 : decode cX1_writePointers 23 = .ok (.lcmp, 1) := by decide +kernel
theorem dX1_writePointers_24 : decode cX1_writePointers 24 = .ok (.ifCond .eq 52, 3) := by decide +kernel
theorem dX1_writePointers_27 : decode cX1_writePointers 27 = .ok (.aload_n 0, 1) := by decide +kernel
theorem dX1_writePointers_28 : decode cX1_writePointers 28 = .ok (.getfield 24, 3) := by decide +kernel
theorem dX1_writePointers_31 : decode cX1_writePointers 31 = .ok (.aload_n 2, 1) := by decide +kernel
theorem dX1_writePointers_32 : decode cX1_writePointers 32 = .ok (.getfield 53, 3) := by decide +kernel
theorem dX1_writePointers_35 : decode cX1_writePointers 35 = .ok (.iconst 1, 1) := by decide +kernel
theorem dX1_writePointers_36 : decode cX1_writePointers 36 = .ok (.iadd, 1) := by decide +kernel
theorem dX1_writePointers_37 : decode cX1_writePointers 37 = .ok (.aaload, 1) := by decide +kernel
theorem dX1_writePointers_38 : decode cX1_writePointers 38 = .ok (.astore 7, 2) := by decide +kernel
theorem dX1_writePointers_40 : decode cX1_writePointers 40 = .ok (.aload_n 0, 1) := by decide +kernel
theorem dX1_writePointers_41 : decode cX1_writePointers 41 = .ok (.dup, 1) := by decide +kernel
theorem dX1_writePointers_42 : decode cX1_writePointers 42 = .ok (.getfield 18, 3) := by decide +kernel
theorem dX1_writePointers_45 : decode cX1_writePointers 45 = .ok (.aload_n 1, 1) := by decide +kernel
theorem dX1_writePointers_46 : decode cX1_writePointers 46 = .ok (.aload_n 2, 1) := by decide +kernel
theorem dX1_writePointers_47 : decode cX1_writePointers 47 = .ok (.iload_n 3, 1) := by decide +kernel
theorem dX1_writePointers_48 : decode cX1_writePointers 48 = .ok (.iload 6, 2) := by decide +kernel
theorem dX1_writePointers_50 : decode cX1_writePointers 50 = .ok (.iadd, 1) := by decide +kernel
theorem dX1_writePointers_51 : decode cX1_writePointers 51 = .ok (.aload_n 0, 1) := by decide +kernel
theorem dX1_writePointers_52 : decode cX1_writePointers 52 = .ok (.getfield 18, 3) := by decide +kernel
theorem dX1_writePointers_55 : decode cX1_writePointers 55 = .ok (.aload 7, 2) := by decide +kernel
theorem dX1_writePointers_57 : decode cX1_writePointers 57 = .ok (.invokevirtual 56, 3) := by decide +kernel
theorem dX1_writePointers_60 : decode cX1_writePointers 60 = .ok (.isub, 1) := by decide +kernel
theorem dX1_writePointers_61 : decode cX1_writePointers 61 = .ok (.putfield 18, 3) := by decide +kernel
theorem dX1_writePointers_64 : decode cX1_writePointers 64 = .ok (.aload_n 0, 1) := by decide +kernel
theorem dX1_writePointers_65 : decode cX1_writePointers 65 = .ok (.aload_n 1, 1) := by decide +kernel
theorem dX1_writePointers_66 : decode cX1_writePointers 66 = .ok (.aload 7, 2) := by decide +kernel
theorem dX1_writePointers_68 : decode cX1_writePointers 68 = .ok (.iload 5, 2) := by decide +kernel
theorem dX1_writePointers_70 : decode cX1_writePointers 70 = .ok (.iload 6, 2) := by decide +kernel
theorem dX1_writePointers_72 : decode cX1_writePointers 72 = .ok (.iadd, 1) := by decide +kernel
theorem dX1_writePointers_73 : decode cX1_writePointers 73 = .ok (.invokevirtual 60, 3) := by decide +kernel
theorem dX1_writePointers_76 : decode cX1_writePointers 76 = .ok (.iinc 6 1, 3) := by decide +kernel
theorem dX1_writePointers_79 : decode cX1_writePointers 79 = .ok (.goto (-76), 3) := by decide +kernel
theorem dX1_writePointers_82 : decode cX1_writePointers 82 = .ok (.return_, 1) := by decide +kernel
theorem dX1_writeObject_0 : decode cX1_writeObject 0 = .ok (.aload_n 2, 1) := by decide +kernel
theorem dX1_writeObject_1 : decode cX1_writeObject 1 = .ok (.getfield 63, 3) := by decide +kernel
theorem dX1_writeObject_4 : decode cX1_writeObject 4 = .ok (.lookupswitch 66 #[(0, 36), (7, 46), (8, 56)], 36) := by decide +kernel
theorem dX1_writeObject_40 : decode cX1_writeObject 40 = .ok (.aload_n 0, 1) := by decide +kernel
theorem dX1_writeObject_41 : decode cX1_writeObject 41 = .ok (.aload_n 1, 1) := by decide +kernel
theorem dX1_writeObject_42 : decode cX1_writeObject 42 = .ok (.aload_n 2, 1) := by decide +kernel
theorem dX1_writeObject_43 : decode cX1_writeObject 43 = .ok (.iload_n 3, 1) := by decide +kernel
theorem dX1_writeObject_44 : decode cX1_writeObject 44 = .ok (.invokevirtual 42, 3) := by decide +kernel
theorem dX1_writeObject_47 : decode cX1_writeObject 47 = .ok (.goto 30, 3) := by decide +kernel
theorem dX1_writeObject_50 : decode cX1_writeObject 50 = .ok (.aload_n 0, 1) := by decide +kernel
theorem dX1_writeObject_51 : decode cX1_writeObject 51 = .ok (.aload_n 1, 1) := by decide +kernel
theorem dX1_writeObject_52 : decode cX1_writeObject 52 = .ok (.aload_n 2, 1) := by decide +kernel
theorem dX1_writeObject_53 : decode cX1_writeObject 53 = .ok (.iload_n 3, 1) := by decide +kernel
theorem dX1_writeObject_54 : decode cX1_writeObject 54 = .ok (.invokevirtual 66, 3) := by decide +kernel
theorem dX1_writeObject_57 : decode cX1_writeObject 57 = .ok (.goto 20, 3) := by decide +kernel
theorem dX1_writeObject_60 : decode cX1_writeObject 60 = .ok (.aload_n 0, 1) := by decide +kernel
theorem dX1_writeObject_61 : decode cX1_writeObject 61 = .ok (.aload_n 1, 1) := by decide +kernel
theorem dX1_writeObject_62 : decode cX1_writeObject 62 = .ok (.aload_n 2, 1) := by decide +kernel
theorem dX1_writeObject_63 : decode cX1_writeObject 63 = .ok (.iload_n 3, 1) := by decide +kernel
theorem dX1_writeObject_64 : decode cX1_writeObject 64 = .ok (.invokevirtual 69, 3) := by decide +kernel
theorem dX1_writeObject_67 : decode cX1_writeObject 67 = .ok (.goto 10, 3) := by decide +kernel
theorem dX1_writeObject_70 : decode cX1_writeObject 70 = .ok (.aload_n 0, 1) := by decide +kernel
theorem dX1_writeObject_71 : decode cX1_writeObject 71 = .ok (.aload_n 1, 1) := by decide +kernel
theorem dX1_writeObject_72 : decode cX1_writeObject 72 = .ok (.aload_n 2, 1) := by decide +kernel
theorem dX1_writeObject_73 : decode cX1_writeObject 73 = .ok (.iload_n 3, 1) := by decide +kernel
theorem dX1_writeObject_74 : decode cX1_writeObject 74 = .ok (.invokevirtual 72, 3) := by decide +kernel
theorem dX1_writeObject_77 : decode cX1_writeObject 77 = .ok (.return_, 1) := by decide +kernel
theorem dX1_writeStruct_0 : decode cX1_writeStruct 0 = .ok (.aload_n 2, 1) := by decide +kernel
theorem dX1_writeStruct_1 : decode cX1_writeStruct 1 = .ok (.invokevirtual 75, 3) := by decide +kernel
theorem dX1_writeStruct_4 : decode cX1_writeStruct 4 = .ok (.istore 4, 2) := by decide +kernel
theorem dX1_writeStruct_6 : decode cX1_writeStruct 6 = .ok (.aload_n 1, 1) := by decide +kernel
theorem dX1_writeStruct_7 : decode cX1_writeStruct 7 = .ok (.aload_n 2, 1) := by decide +kernel
theorem dX1_writeStruct_8 : decode cX1_writeStruct 8 = .ok (.getfield 46, 3) := by decide +kernel
theorem dX1_writeStruct_11 : decode cX1_writeStruct 11 = .ok (.aload_n 2, 1) := by decide +kernel
theorem dX1_writeStruct_12 : decode cX1_writeStruct 12 = .ok (.getfield 79, 3) := by decide +kernel
theorem dX1_writeStruct_15 : decode cX1_writeStruct 15 = .ok (.aload_n 2, 1) := by decide +kernel
theorem dX1_writeStruct_16 : decode cX1_writeStruct 16 = .ok (.getfield 82, 3) := by decide +kernel
theorem dX1_writeStruct_19 : decode cX1_writeStruct 19 = .ok (.invokevirtual 85, 3) := by decide +kernel
theorem dX1_writeStruct_22 : decode cX1_writeStruct 22 = .ok (.istore 5, 2) := by decide +kernel
theorem dX1_writeStruct_24 : decode cX1_writeStruct 24 = .ok (.aload_n 1, 1) := by decide +kernel
theorem dX1_writeStruct_25 : decode cX1_writeStruct 25 = .ok (.aload_n 2, 1) := by decide +kernel
theorem dX1_writeStruct_26 : decode cX1_writeStruct 26 = .ok (.getfield 46, 3) := by decide +kernel
theorem dX1_writeStruct_29 : decode cX1_writeStruct 29 = .ok (.iload 4, 2) := by decide +kernel
theorem dX1_writeStruct_31 : decode cX1_writeStruct 31 = .ok (.aload_n 2, 1) := by decide +kernel
theorem dX1_writeStruct_32 : decode cX1_writeStruct 32 = .ok (.getfield 89, 3) := by decide +kernel
theorem dX1_writeStruct_35 : decode cX1_writeStruct 35 = .ok (.invokevirtual 85, 3) := by decide +kernel
theorem dX1_writeStruct_38 : decode cX1_writeStruct 38 = .ok (.istore 6, 2) := by decide +kernel
theorem dX1_writeStruct_40 : decode cX1_writeStruct 40 = .ok (.aload_n 0, 1) := by decide +kernel
theorem dX1_writeStruct_41 : decode cX1_writeStruct 41 = .ok (.iload 5, 2) := by decide +kernel
theorem dX1_writeStruct_43 : decode cX1_writeStruct 43 = .ok (.iload 6, 2) := by decide +kernel
theorem dX1_writeStruct_45 : decode cX1_writeStruct 45 = .ok (.iadd, 1) := by decide +kernel
theorem dX1_writeStruct_46 : decode cX1_writeStruct 46 = .ok (.invokevirtual 92, 3) := by decide +kernel
theorem dX1_writeStruct_49 : decode cX1_writeStruct 49 = .ok (.istore 7, 2) := by decide +kernel
theorem dX1_writeStruct_51 : decode cX1_writeStruct 51 = .ok (.iload 5, 2) := by decide +kernel
theorem dX1_writeStruct_53 : decode cX1_writeStruct 53 = .ok (.iload 6, 2) := by decide +kernel
theorem dX1_writeStruct_55 : decode cX1_writeStruct 55 = .ok (.iadd, 1) := by decide +kernel
theorem dX1_writeStruct_56 : decode cX1_writeStruct 56 = .ok (.ifCond .ne 7, 3) := by decide +kernel
theorem dX1_writeStruct_59 : decode cX1_writeStruct 59 = .ok (.iconst (-1), 1) := by decide +kernel
theorem dX1_writeStruct_60 : decode cX1_writeStruct 60 = .ok (.goto 9, 3) := by decide +kernel
theorem dX1_writeStruct_63 : decode cX1_writeStruct 63 = .ok (.iload 7, 2) := by decide +kernel
theorem dX1_writeStruct_65 : decode cX1_writeStruct 65 = .ok (.iload_n 3, 1) := by decide +kernel
theorem dX1_writeStruct_66 : decode cX1_writeStruct 66 = .ok (.isub, 1) := by decide +kernel
theorem dX1_writeStruct_67 : decode cX1_writeStruct 67 = .ok (.iconst 1, 1) := by decide +kernel
theorem dX1_writeStruct_68 : decode cX1_writeStruct 68 = .ok (.isub, 1) := by decide +kernel
theorem dX1_writeStruct_69 : decode cX1_writeStruct 69 = .ok (.istore 8, 2) := by decide +kernel
theorem dX1_writeStruct_71 : decode cX1_writeStruct 71 = .ok (.aload_n 0, 1) := by decide +kernel
theorem dX1_writeStruct_72 : decode cX1_writeStruct 72 = .ok (.getfield 12, 3) := by decide +kernel
theorem dX1_writeStruct_75 : decode cX1_writeStruct 75 = .ok (.iload_n 3, 1) := by decide +kernel
theorem dX1_writeStruct_76 : decode cX1_writeStruct 76 = .ok (.iload 8, 2) := by decide +kernel
theorem dX1_writeStruct_78 : decode cX1_writeStruct 78 = .ok (.iload 5, 2) := by decide +kernel
theorem dX1_writeStruct_80 : decode cX1_writeStruct 80 = .ok (.iload 6, 2) := by decide +kernel
theorem dX1_writeStruct_82 : decode cX1_writeStruct 82 = .ok (.invokestatic 96, 3) := by decide +kernel
theorem dX1_writeStruct_85 : decode cX1_writeStruct 85 = .ok (.invokevirtual 102, 3) := by decide +kernel
theorem dX1_writeStruct_88 : decode cX1_writeStruct 88 = .ok (.aload_n 0, 1) := by decide +kernel
theorem dX1_writeStruct_89 : decode cX1_writeStruct 89 = .ok (.aload_n 1, 1) := by decide +kernel
theorem dX1_writeStruct_90 : decode cX1_writeStruct 90 = .ok (.aload_n 2, 1) := by decide +kernel
theorem dX1_writeStruct_91 : decode cX1_writeStruct 91 = .ok (.aload_n 2, 1) := by decide +kernel
theorem dX1_writeStruct_92 : decode cX1_writeStruct 92 = .ok (.getfield 79, 3) := by decide +kernel
theorem dX1_writeStruct_95 : decode cX1_writeStruct 95 = .ok (.iload 5, 2) := by decide +kernel
theorem dX1_writeStruct_97 : decode cX1_writeStruct 97 = .ok (.iload 7, 2) := by decide +kernel
theorem dX1_writeStruct_99 : decode cX1_writeStruct 99 = .ok (.invokevirtual 106, 3) := by decide +kernel
theorem dX1_writeStruct_102 : decode cX1_writeStruct 102 = .ok (.aload_n 0, 1) := by decide +kernel
theorem dX1_writeStruct_103 : decode cX1_writeStruct 103 = .ok (.aload_n 1, 1) := by decide +kernel
theorem dX1_writeStruct_104 : decode cX1_writeStruct 104 = .ok (.aload_n 2, 1) := by decide +kernel
theorem dX1_writeStruct_105 : decode cX1_writeStruct 105 = .ok (.iload 4, 2) := by decide +kernel
theorem dX1_writeStruct_107 : decode cX1_writeStruct 107 = .ok (.iload 6, 2) := by decide +kernel
theorem dX1_writeStruct_109 : decode cX1_writeStruct 109 = .ok (.iload 7, 2) := by decide +kernel
theorem dX1_writeStruct_111 : decode cX1_writeStruct 111 = .ok (.iload 5, 2) := by decide +kernel
theorem dX1_writeStruct_113 : decode cX1_writeStruct 113 = .ok (.iadd, 1) := by decide +kernel
theorem dX1_writeStruct_114 : decode cX1_writeStruct 114 = .ok (.invokevirtual 110, 3) := by decide +kernel
theorem dX1_writeStruct_117 : decode cX1_writeStruct 117 = .ok (.return_, 1) := by decide +kernel
theorem dX1_writePointerList_0 : decode cX1_writePointerList 0 = .ok (.aload_n 0, 1) := by decide +kernel
theorem dX1_writePointerList_1 : decode cX1_writePointerList 1 = .ok (.aload_n 2, 1) := by decide +kernel
theorem dX1_writePointerList_2 : decode cX1_writePointerList 2 = .ok (.getfield 82, 3) := by decide +kernel
theorem dX1_writePointerList_5 : decode cX1_writePointerList 5 = .ok (.invokevirtual 92, 3) := by decide +kernel
theorem dX1_writePointerList_8 : decode cX1_writePointerList 8 = .ok (.istore 4, 2) := by decide +kernel
theorem dX1_writePointerList_10 : decode cX1_writePointerList 10 = .ok (.bipush 6, 2) := by decide +kernel
theorem dX1_writePointerList_12 : decode cX1_writePointerList 12 = .ok (.istore 5, 2) := by decide +kernel
theorem dX1_writePointerList_14 : decode cX1_writePointerList 14 = .ok (.aload_n 0, 1) := by decide +kernel
theorem dX1_writePointerList_15 : decode cX1_writePointerList 15 = .ok (.getfield 12, 3) := by decide +kernel
theorem dX1_writePointerList_18 : decode cX1_writePointerList 18 = .ok (.iload_n 3, 1) := by decide +kernel
theorem dX1_writePointerList_19 : decode cX1_writePointerList 19 = .ok (.iload 4, 2) := by decide +kernel
theorem dX1_writePointerList_21 : decode cX1_writePointerList 21 = .ok (.iload_n 3, 1) := by decide +kernel
theorem dX1_writePointerList_22 : decode cX1_writePointerList 22 = .ok (.isub, 1) := by decide +kernel
theorem dX1_writePointerList_23 : decode cX1_writePointerList 23 = .ok (.iconst 1, 1) := by decide +kernel
theorem dX1_writePointerList_24 : decode cX1_writePointerList 24 = .ok (.isub, 1) := by decide +kernel
theorem dX1_writePointerList_25 : decode cX1_writePointerList 25 = .ok (.iload 5, 2) := by decide +kernel
theorem dX1_writePointerList_27 : decode cX1_writePointerList 27 = .ok (.aload_n 2, 1) := by decide +kernel
theorem dX1_writePointerList_28 : decode cX1_writePointerList 28 = .ok (.getfield 82, 3) := by decide +kernel
theorem dX1_writePointerList_31 : decode cX1_writePointerList 31 = .ok (.invokestatic 113, 3) := by decide +kernel
theorem dX1_writePointerList_34 : decode cX1_writePointerList 34 = .ok (.invokevirtual 102, 3) := by decide +kernel
theorem dX1_writePointerList_37 : decode cX1_writePointerList 37 = .ok (.aload_n 0, 1) := by decide +kernel
theorem dX1_writePointerList_38 : decode cX1_writePointerList 38 = .ok (.aload_n 1, 1) := by decide +kernel
theorem dX1_writePointerList_39 : decode cX1_writePointerList 39 = .ok (.aload_n 2, 1) := by decide +kernel
theorem dX1_writePointerList_40 : decode cX1_writePointerList 40 = .ok (.aload_n 2, 1) := by decide +kernel
theorem dX1_writePointerList_41 : decode cX1_writePointerList 41 = .ok (.getfield 79, 3) := by decide +kernel
theorem dX1_writePointerList_44 : decode cX1_writePointerList 44 = .ok (.aload_n 2, 1) := by decide +kernel
theorem dX1_writePointerList_45 : decode cX1_writePointerList 45 = .ok (.getfield 82, 3) := by decide +kernel
theorem dX1_writePointerList_48 : decode cX1_writePointerList 48 = .ok (.iload 4, 2) := by decide +kernel
theorem dX1_writePointerList_50 : decode cX1_writePointerList 50 = .ok (.invokevirtual 110, 3) := by decide +kernel
theorem dX1_writePointerList_53 : decode cX1_writePointerList 53 = .ok (.return_, 1) := by decide +kernel
theorem dX1_writeStructList_0 : decode cX1_writeStructList 0 = .ok (.iconst 0, 1) := by decide +kernel
theorem dX1_writeStructList_1 : decode cX1_writeStructList 1 = .ok (.istore 4, 2) := by decide +kernel
theorem dX1_writeStructList_3 : decode cX1_writeStructList 3 = .ok (.iconst 0, 1) := by decide +kernel
theorem dX1_writeStructList_4 : decode cX1_writeStructList 4 = .ok (.istore 5, 2) := by decide +kernel
theorem dX1_writeStructList_6 : decode cX1_writeStructList 6 = .ok (.iconst 0, 1) := by decide +kernel
theorem dX1_writeStructList_7 : decode cX1_writeStructList 7 = .ok (.istore 6, 2) := by decide +kernel
theorem dX1_writeStructList_9 : decode cX1_writeStructList 9 = .ok (.iload 6, 2) := by decide +kernel
theorem dX1_writeStructList_11 : decode cX1_writeStructList 11 = .ok (.aload_n 2, 1) := by decide +kernel
theorem dX1_writeStructList_12 : decode cX1_writeStructList 12 = .ok (.getfield 82, 3) := by decide +kernel
theorem dX1_writeStructList_15 : decode cX1_writeStructList 15 = .ok (.if_icmp .ge 68, 3) := by decide +kernel
theorem dX1_writeStructList_18 : decode cX1_writeStructList 18 = .ok (.aload_n 2, 1) := by decide +kernel
theorem dX1_writeStructList_19 : decode cX1_writeStructList 19 = .ok (.iload 6, 2) := by decide +kernel
theorem dX1_writeStructList_21 : decode cX1_writeStructList 21 = .ok (.invokevirtual 116, 3) := by decide +kernel
theorem dX1_writeStructList_24 : decode cX1_writeStructList 24 = .ok (.istore 7, 2) := by decide +kernel
theorem dX1_writeStructList_26 : decode cX1_writeStructList 26 = .ok (.iload 7, 2) := by decide +kernel
theorem dX1_writeStructList_28 : decode cX1_writeStructList 28 = .ok (.aload_n 2, 1) := by decide +kernel
theorem dX1_writeStructList_29 : decode cX1_writeStructList 29 = .ok (.getfield 119, 3) := by decide +kernel
theorem dX1_writeStructList_32 : decode cX1_writeStructList 32 = .ok (.iadd, 1) := by decide +kernel
theorem dX1_writeStructList_33 : decode cX1_writeStructList 33 = .ok (.istore 8, 2) := by decide +kernel
theorem dX1_writeStructList_35 : decode cX1_writeStructList 35 = .ok (.iload 4, 2) := by decide +kernel
theorem dX1_writeStructList_37 : decode cX1_writeStructList 37 = .ok (.aload_n 1, 1) := by decide +kernel
theorem dX1_writeStructList_38 : decode cX1_writeStructList 38 = .ok (.aload_n 2, 1) := by decide +kernel
theorem dX1_writeStructList_39 : decode cX1_writeStructList 39 = .ok (.getfield 46, 3) := by decide +kernel
theorem dX1_writeStructList_42 : decode cX1_writeStructList 42 = .ok (.iload 7, 2) := by decide +kernel
theorem dX1_writeStructList_44 : decode cX1_writeStructList 44 = .ok (.aload_n 2, 1) := by decide +kernel
theorem dX1_writeStructList_45 : decode cX1_writeStructList 45 = .ok (.getfield 119, 3) := by decide +kernel
theorem dX1_writeStructList_48 : decode cX1_writeStructList 48 = .ok (.invokevirtual 85, 3) := by decide +kernel
theorem dX1_writeStructList_51 : decode cX1_writeStructList 51 = .ok (.invokestatic 122, 3) := by decide +kernel
theorem dX1_writeStructList_54 : decode cX1_writeStructList 54 = .ok (.istore 4, 2) := by decide +kernel
theorem dX1_writeStructList_56 : decode cX1_writeStructList 56 = .ok (.iload 5, 2) := by decide +kernel
theorem dX1_writeStructList_58 : decode cX1_writeStructList 58 = .ok (.aload_n 1, 1) := by decide +kernel
theorem dX1_writeStructList_59 : decode cX1_writeStructList 59 = .ok (.aload_n 2, 1) := by decide +kernel
theorem dX1_writeStructList_60 : decode cX1_writeStructList 60 = .ok (.getfield 46, 3) := by decide +kernel
theorem dX1_writeStructList_63 : decode cX1_writeStructList 63 = .ok (.iload 8, 2) := by decide +kernel
theorem dX1_writeStructList_65 : decode cX1_writeStructList 65 = .ok (.aload_n 2, 1) := by decide +kernel
theorem dX1_writeStructList_66 : decode cX1_writeStructList 66 = .ok (.getfield 89, 3) := by decide +kernel
theorem dX1_writeStructList_69 : decode cX1_writeStructList 69 = .ok (.invokevirtual 85, 3) := by decide +kernel
theorem dX1_writeStructList_72 : decode cX1_writeStructList 72 = .ok (.invokestatic 122, 3) := by decide +kernel
theorem dX1_writeStructList_75 : decode cX1_writeStructList 75 = .ok (.istore 5, 2) := by decide +kernel
theorem dX1_writeStructList_77 : decode cX1_writeStructList 77 = .ok (.iinc 6 1, 3) := by decide +kernel
theorem dX1_writeStructList_80 : decode cX1_writeStructList 80 = .ok (.goto (-71), 3) := by decide +kernel
theorem dX1_writeStructList_83 : decode cX1_writeStructList 83 = .ok (.aload_n 2, 1) := by decide +kernel
theorem dX1_writeStructList_84 : decode cX1_writeStructList 84 = .ok (.getfield 82, 3) := by decide +kernel
theorem dX1_writeStructList_87 : decode cX1_writeStructList 87 = .ok (.iload 4, 2) := by decide +kernel
theorem dX1_writeStructList_89 : decode cX1_writeStructList 89 = .ok (.iload 5, 2) := by decide +kernel
theorem dX1_writeStructList_91 : decode cX1_writeStructList 91 = .ok (.iadd, 1) := by decide +kernel
theorem dX1_writeStructList_92 : decode cX1_writeStructList 92 = .ok (.imul, 1) := by decide +kernel
theorem dX1_writeStructList_93 : decode cX1_writeStructList 93 = .ok (.istore 6, 2) := by decide +kernel
theorem dX1_writeStructList_95 : decode cX1_writeStructList 95 = .ok (.aload_n 0, 1) := by decide +kernel
theorem dX1_writeStructList_96 : decode cX1_writeStructList 96 = .ok (.iconst 1, 1) := by decide +kernel
theorem dX1_writeStructList_97 : decode cX1_writeStructList 97 = .ok (.iload 6, 2) := by decide +kernel
theorem dX1_writeStructList_99 : decode cX1_writeStructList 99 = .ok (.iadd, 1) := by decide +kernel
theorem dX1_writeStructList_100 : decode cX1_writeStructList 100 = .ok (.invokevirtual 92, 3) := by decide +kernel
theorem dX1_writeStructList_103 : decode cX1_writeStructList 103 = .ok (.istore 7, 2) := by decide +kernel
theorem dX1_writeStructList_105 : decode cX1_writeStructList 105 = .ok (.bipush 7, 2) := by decide +kernel
theorem dX1_writeStructList_107 : decode cX1_writeStructList 107 = .ok (.istore 8, 2) := by decide +kernel
theorem dX1_writeStructList_109 : decode cX1_writeStructList 109 = .ok (.aload_n 0, 1) := by decide +kernel
theorem dX1_writeStructList_110 : decode cX1_writeStructList 110 = .ok (.getfield 12, 3) := by decide +kernel
theorem dX1_writeStructList_113 : decode cX1_writeStructList 113 = .ok (.iload_n 3, 1) := by decide +kernel
theorem dX1_writeStructList_114 : decode cX1_writeStructList 114 = .ok (.iload 7, 2) := by decide +kernel
theorem dX1_writeStructList_116 : decode cX1_writeStructList 116 = .ok (.iload_n 3, 1) := by decide +kernel
theorem dX1_writeStructList_117 : decode cX1_writeStructList 117 = .ok (.isub, 1) := by decide +kernel
theorem dX1_writeStructList_118 : decode cX1_writeStructList 118 = .ok (.iconst 1, 1) := by decide +kernel
theorem dX1_writeStructList_119 : decode cX1_writeStructList 119 = .ok (.isub, 1) := by decide +kernel
theorem dX1_writeStructList_120 : decode cX1_writeStructList 120 = .ok (.iload 8, 2) := by decide +kernel
theorem dX1_writeStructList_122 : decode cX1_writeStructList 122 = .ok (.iload 6, 2) := by decide +kernel
theorem dX1_writeStructList_124 : decode cX1_writeStructList 124 = .ok (.invokestatic 113, 3) := by decide +kernel
theorem dX1_writeStructList_127 : decode cX1_writeStructList 127 = .ok (.invokevirtual 102, 3) := by decide +kernel
theorem dX1_writeStructList_130 : decode cX1_writeStructList 130 = .ok (.aload_n 0, 1) := by decide +kernel
theorem dX1_writeStructList_131 : decode cX1_writeStructList 131 = .ok (.getfield 12, 3) := by decide +kernel
theorem dX1_writeStructList_134 : decode cX1_writeStructList 134 = .ok (.iload 7, 2) := by decide +kernel
theorem dX1_writeStructList_136 : decode cX1_writeStructList 136 = .ok (.aload_n 2, 1) := by decide +kernel
theorem dX1_writeStructList_137 : decode cX1_writeStructList 137 = .ok (.getfield 82, 3) := by decide +kernel
theorem dX1_writeStructList_140 : decode cX1_writeStructList 140 = .ok (.iload 4, 2) := by decide +kernel
theorem dX1_writeStructList_142 : decode cX1_writeStructList 142 = .ok (.iload 5, 2) := by decide +kernel
theorem dX1_writeStructList_144 : decode cX1_writeStructList 144 = .ok (.invokestatic 96, 3) := by decide +kernel
theorem dX1_writeStructList_147 : decode cX1_writeStructList 147 = .ok (.invokevirtual 102, 3) := by decide +kernel
theorem dX1_writeStructList_150 : decode cX1_writeStructList 150 = .ok (.iconst 0, 1) := by decide +kernel
theorem dX1_writeStructList_151 : decode cX1_writeStructList 151 = .ok (.istore 9, 2) := by decide +kernel
theorem dX1_writeStructList_153 : decode cX1_writeStructList 153 = .ok (.iload 9, 2) := by decide +kernel
theorem dX1_writeStructList_155 : decode cX1_writeStructList 155 = .ok (.aload_n 2, 1) := by decide +kernel
theorem dX1_writeStructList_156 : decode cX1_writeStructList 156 = .ok (.getfield 82, 3) := by decide +kernel
theorem dX1_writeStructList_159 : decode cX1_writeStructList 159 = .ok (.if_icmp .ge 64, 3) := by decide +kernel
theorem dX1_writeStructList_162 : decode cX1_writeStructList 162 = .ok (.aload_n 2, 1) := by decide +kernel
theorem dX1_writeStructList_163 : decode cX1_writeStructList 163 = .ok (.iload 9, 2) := by decide +kernel
theorem dX1_writeStructList_165 : decode cX1_writeStructList 165 = .ok (.invokevirtual 116, 3) := by decide +kernel
theorem dX1_writeStructList_168 : decode cX1_writeStructList 168 = .ok (.istore 10, 2) := by decide +kernel
theorem dX1_writeStructList_170 : decode cX1_writeStructList 170 = .ok (.iload 7, 2) := by decide +kernel
theorem dX1_writeStructList_172 : decode cX1_writeStructList 172 = .ok (.iconst 1, 1) := by decide +kernel
theorem dX1_writeStructList_173 : decode cX1_writeStructList 173 = .ok (.iadd, 1) := by decide +kernel
theorem dX1_writeStructList_174 : decode cX1_writeStructList 174 = .ok (.iload 9, 2) := by decide +kernel
theorem dX1_writeStructList_176 : decode cX1_writeStructList 176 = .ok (.iload 4, 2) := by decide +kernel
theorem dX1_writeStructList_178 : decode cX1_writeStructList 178 = .ok (.iload 5, 2) := by decide +kernel
theorem dX1_writeStructList_180 : decode cX1_writeStructList 180 = .ok (.iadd, 1) := by decide +kernel
theorem dX1_writeStructList_181 : decode cX1_writeStructList 181 = .ok (.imul, 1) := by decide +kernel
theorem dX1_writeStructList_182 : decode cX1_writeStructList 182 = .ok (.iadd, 1) := by decide +kernel
theorem dX1_writeStructList_183 : decode cX1_writeStructList 183 = .ok (.istore 11, 2) := by decide +kernel
theorem dX1_writeStructList_185 : decode cX1_writeStructList 185 = .ok (.aload_n 0, 1) := by decide +kernel
theorem dX1_writeStructList_186 : decode cX1_writeStructList 186 = .ok (.aload_n 1, 1) := by decide +kernel
theorem dX1_writeStructList_187 : decode cX1_writeStructList 187 = .ok (.aload_n 2, 1) := by decide +kernel
theorem dX1_writeStructList_188 : decode cX1_writeStructList 188 = .ok (.iload 10, 2) := by decide +kernel
theorem dX1_writeStructList_190 : decode cX1_writeStructList 190 = .ok (.iload 4, 2) := by decide +kernel
theorem dX1_writeStructList_192 : decode cX1_writeStructList 192 = .ok (.iload 11, 2) := by decide +kernel
theorem dX1_writeStructList_194 : decode cX1_writeStructList 194 = .ok (.invokevirtual 106, 3) := by decide +kernel
theorem dX1_writeStructList_197 : decode cX1_writeStructList 197 = .ok (.aload_n 0, 1) := by decide +kernel
theorem dX1_writeStructList_198 : decode cX1_writeStructList 198 = .ok (.aload_n 1, 1) := by decide +kernel
theorem dX1_writeStructList_199 : decode cX1_writeStructList 199 = .ok (.aload_n 2, 1) := by decide +kernel
theorem dX1_writeStructList_200 : decode cX1_writeStructList 200 = .ok (.iload 10, 2) := by decide +kernel
theorem dX1_writeStructList_202 : decode cX1_writeStructList 202 = .ok (.aload_n 2, 1) := by decide +kernel
theorem dX1_writeStructList_203 : decode cX1_writeStructList 203 = .ok (.getfield 119, 3) := by decide +kernel
theorem dX1_writeStructList_206 : decode cX1_writeStructList 206 = .ok (.iadd, 1) := by decide +kernel
theorem dX1_writeStructList_207 : decode cX1_writeStructList 207 = .ok (.iload 5, 2) := by decide +kernel
theorem dX1_writeStructList_209 : decode cX1_writeStructList 209 = .ok (.iload 11, 2) := by decide +kernel
theorem dX1_writeStructList_211 : decode cX1_writeStructList 211 = .ok (.iload 4, 2) := by decide +kernel
theorem dX1_writeStructList_213 : decode cX1_writeStructList 213 = .ok (.iadd, 1) := by decide +kernel
theorem dX1_writeStructList_214 : decode cX1_writeStructList 214 = .ok (.invokevirtual 110, 3) := by decide +kernel
theorem dX1_writeStructList_217 : decode cX1_writeStructList 217 = .ok (.iinc 9 1, 3) := by decide +kernel
theorem dX1_writeStructList_220 : decode cX1_writeStructList 220 = .ok (.goto (-67), 3) := by decide +kernel
theorem dX1_writeStructList_223 : decode cX1_writeStructList 223 = .ok (.return_, 1) := by decide +kernel
theorem dX1_writeFlatList_0 : decode cX1_writeFlatList 0 = .ok (.aload_n 2, 1) := by decide +kernel
theorem dX1_writeFlatList_1 : decode cX1_writeFlatList 1 = .ok (.getfield 63, 3) := by decide +kernel
theorem dX1_writeFlatList_4 : decode cX1_writeFlatList 4 = .ok (.iconst 1, 1) := by decide +kernel
theorem dX1_writeFlatList_5 : decode cX1_writeFlatList 5 = .ok (.isub, 1) := by decide +kernel
theorem dX1_writeFlatList_6 : decode cX1_writeFlatList 6 = .ok (.istore 4, 2) := by decide +kernel
theorem dX1_writeFlatList_8 : decode cX1_writeFlatList 8 = .ok (.iload 4, 2) := by decide +kernel
theorem dX1_writeFlatList_10 : decode cX1_writeFlatList 10 = .ok (.invokestatic 128, 3) := by decide +kernel
theorem dX1_writeFlatList_13 : decode cX1_writeFlatList 13 = .ok (.istore 5, 2) := by decide +kernel
theorem dX1_writeFlatList_15 : decode cX1_writeFlatList 15 = .ok (.aload_n 2, 1) := by decide +kernel
theorem dX1_writeFlatList_16 : decode cX1_writeFlatList 16 = .ok (.getfield 82, 3) := by decide +kernel
theorem dX1_writeFlatList_19 : decode cX1_writeFlatList 19 = .ok (.iload 5, 2) := by decide +kernel
theorem dX1_writeFlatList_21 : decode cX1_writeFlatList 21 = .ok (.invokestatic 131, 3) := by decide +kernel
theorem dX1_writeFlatList_24 : decode cX1_writeFlatList 24 = .ok (.istore 6, 2) := by decide +kernel
theorem dX1_writeFlatList_26 : decode cX1_writeFlatList 26 = .ok (.aload_n 0, 1) := by decide +kernel
theorem dX1_writeFlatList_27 : decode cX1_writeFlatList 27 = .ok (.iload 6, 2) := by decide +kernel
theorem dX1_writeFlatList_29 : decode cX1_writeFlatList 29 = .ok (.invokevirtual 92, 3) := by decide +kernel
theorem dX1_writeFlatList_32 : decode cX1_writeFlatList 32 = .ok (.istore 7, 2) := by decide +kernel
theorem dX1_writeFlatList_34 : decode cX1_writeFlatList 34 = .ok (.aload_n 0, 1) := by decide +kernel
theorem dX1_writeFlatList_35 : decode cX1_writeFlatList 35 = .ok (.getfield 12, 3) := by decide +kernel
theorem dX1_writeFlatList_38 : decode cX1_writeFlatList 38 = .ok (.iload_n 3, 1) := by decide +kernel
theorem dX1_writeFlatList_39 : decode cX1_writeFlatList 39 = .ok (.iload 7, 2) := by decide +kernel
theorem dX1_writeFlatList_41 : decode cX1_writeFlatList 41 = .ok (.iload_n 3, 1) := by decide +kernel
theorem dX1_writeFlatList_42 : decode cX1_writeFlatList 42 = .ok (.isub, 1) := by decide +kernel
theorem dX1_writeFlatList_43 : decode cX1_writeFlatList 43 = .ok (.iconst 1, 1) := by decide +kernel
theorem dX1_writeFlatList_44 : decode cX1_writeFlatList 44 = .ok (.isub, 1) := by decide +kernel
theorem dX1_writeFlatList_45 : decode cX1_writeFlatList 45 = .ok (.iload 4, 2) := by decide +kernel
theorem dX1_writeFlatList_47 : decode cX1_writeFlatList 47 = .ok (.aload_n 2, 1) := by decide +kernel
theorem dX1_writeFlatList_48 : decode cX1_writeFlatList 48 = .ok (.getfield 82, 3) := by decide +kernel
theorem dX1_writeFlatList_51 : decode cX1_writeFlatList 51 = .ok (.invokestatic 113, 3) := by decide +kernel
theorem dX1_writeFlatList_54 : decode cX1_writeFlatList 54 = .ok (.invokevirtual 102, 3) := by decide +kernel
theorem dX1_writeFlatList_57 : decode cX1_writeFlatList 57 = .ok (.aload_n 0, 1) := by decide +kernel
theorem dX1_writeFlatList_58 : decode cX1_writeFlatList 58 = .ok (.aload_n 1, 1) := by decide +kernel
theorem dX1_writeFlatList_59 : decode cX1_writeFlatList 59 = .ok (.aload_n 2, 1) := by decide +kernel
theorem dX1_writeFlatList_60 : decode cX1_writeFlatList 60 = .ok (.aload_n 2, 1) := by decide +kernel
theorem dX1_writeFlatList_61 : decode cX1_writeFlatList 61 = .ok (.getfield 79, 3) := by decide +kernel
theorem dX1_writeFlatList_64 : decode cX1_writeFlatList 64 = .ok (.iload 6, 2) := by decide +kernel
theorem dX1_writeFlatList_66 : decode cX1_writeFlatList 66 = .ok (.iload 7, 2) := by decide +kernel
theorem dX1_writeFlatList_68 : decode cX1_writeFlatList 68 = .ok (.invokevirtual 106, 3) := by decide +kernel
theorem dX1_writeFlatList_71 : decode cX1_writeFlatList 71 = .ok (.aload_n 2, 1) := by decide +kernel
theorem dX1_writeFlatList_72 : decode cX1_writeFlatList 72 = .ok (.getfield 82, 3) := by decide +kernel
theorem dX1_writeFlatList_75 : decode cX1_writeFlatList 75 = .ok (.iload 5, 2) := by decide +kernel
theorem dX1_writeFlatList_77 : decode cX1_writeFlatList 77 = .ok (.imul, 1) := by decide +kernel
theorem dX1_writeFlatList_78 : decode cX1_writeFlatList 78 = .ok (.bipush 64, 2) := by decide +kernel
theorem dX1_writeFlatList_80 : decode cX1_writeFlatList 80 = .ok (.irem, 1) := by decide +kernel
theorem dX1_writeFlatList_81 : decode cX1_writeFlatList 81 = .ok (.istore 8, 2) := by decide +kernel
theorem dX1_writeFlatList_83 : decode cX1_writeFlatList 83 = .ok (.iload 8, 2) := by decide +kernel
theorem dX1_writeFlatList_85 : decode cX1_writeFlatList 85 = .ok (.ifCond .eq 36, 3) := by decide +kernel
theorem dX1_writeFlatList_88 : decode cX1_writeFlatList 88 = .ok (.iload 7, 2) := by decide +kernel
theorem dX1_writeFlatList_90 : decode cX1_writeFlatList 90 = .ok (.iload 6, 2) := by decide +kernel
theorem dX1_writeFlatList_92 : decode cX1_writeFlatList 92 = .ok (.iadd, 1) := by decide +kernel
theorem dX1_writeFlatList_93 : decode cX1_writeFlatList 93 = .ok (.iconst 1, 1) := by decide +kernel
theorem dX1_writeFlatList_94 : decode cX1_writeFlatList 94 = .ok (.isub, 1) := by decide +kernel
theorem dX1_writeFlatList_95 : decode cX1_writeFlatList 95 = .ok (.istore 9, 2) := by decide +kernel
theorem dX1_writeFlatList_97 : decode cX1_writeFlatList 97 = .ok (.aload_n 0, 1) := by decide +kernel
theorem dX1_writeFlatList_98 : decode cX1_writeFlatList 98 = .ok (.getfield 12, 3) := by decide +kernel
theorem dX1_writeFlatList_101 : decode cX1_writeFlatList 101 = .ok (.iload 9, 2) := by decide +kernel
theorem dX1_writeFlatList_103 : decode cX1_writeFlatList 103 = .ok (.aload_n 0, 1) := by decide +kernel
theorem dX1_writeFlatList_104 : decode cX1_writeFlatList 104 = .ok (.getfield 12, 3) := by decide +kernel
theorem dX1_writeFlatList_107 : decode cX1_writeFlatList 107 = .ok (.iload 9, 2) := by decide +kernel
theorem dX1_writeFlatList_109 : decode cX1_writeFlatList 109 = .ok (.invokevirtual 134, 3) := by decide +kernel
theorem dX1_writeFlatList_112 : decode cX1_writeFlatList 112 = .ok (.iload 8, 2) := by decide +kernel
theorem dX1_writeFlatList_114 : decode cX1_writeFlatList 114 = .ok (.invokestatic 137, 3) := by decide +kernel
theorem dX1_writeFlatList_117 : decode cX1_writeFlatList 117 = .ok (.land, 1) := by decide +kernel
theorem dX1_writeFlatList_118 : decode cX1_writeFlatList 118 = .ok (.invokevirtual 102, 3) := by decide +kernel
theorem dX1_writeFlatList_121 : decode cX1_writeFlatList 121 = .ok (.return_, 1) := by decide +kernel
theorem dX1_grow_0 : decode cX1_grow 0 = .ok (.aload_n 0, 1) := by decide +kernel
theorem dX1_grow_1 : decode cX1_grow 1 = .ok (.getfield 12, 3) := by decide +kernel
theorem dX1_grow_4 : decode cX1_grow 4 = .ok (.getfield 35, 3) := by decide +kernel
theorem dX1_grow_7 : decode cX1_grow 7 = .ok (.istore_n 2, 1) := by decide +kernel
theorem dX1_grow_8 : decode cX1_grow 8 = .ok (.iconst 0, 1) := by decide +kernel
theorem dX1_grow_9 : decode cX1_grow 9 = .ok (.istore_n 3, 1) := by decide +kernel
theorem dX1_grow_10 : decode cX1_grow 10 = .ok (.iload_n 3, 1) := by decide +kernel
theorem dX1_grow_11 : decode cX1_grow 11 = .ok (.iload_n 1, 1) := by decide +kernel
theorem dX1_grow_12 : decode cX1_grow 12 = .ok (.if_icmp .ge 18, 3) := by decide +kernel
theorem dX1_grow_15 : decode cX1_grow 15 = .ok (.aload_n 0, 1) := by decide +kernel
theorem dX1_grow_16 : decode cX1_grow 16 = .ok (.getfield 12, 3) := by decide +kernel
theorem dX1_grow_19 : decode cX1_grow 19 = .ok (.lconst 0, 1) := by decide +kernel
theorem dX1_grow_20 : decode cX1_grow 20 = .ok (.invokevirtual 38, 3) := by decide +kernel
theorem dX1_grow_23 : decode cX1_grow 23 = .ok (.pop, 1) := by decide +kernel
theorem dX1_grow_24 : decode cX1_grow 24 = .ok (.iinc 3 1, 3) := by decide +kernel
theorem dX1_grow_27 : decode cX1_grow 27 = .ok (.goto (-17), 3) := by decide +kernel
theorem dX1_grow_30 : decode cX1_grow 30 = .ok (.iload_n 2, 1) := by decide +kernel
theorem dX1_grow_31 : decode cX1_grow 31 = .ok (.ireturn, 1) := by decide +kernel
theorem dX1_copyWords_0 : decode cX1_copyWords 0 = .ok (.iconst 0, 1) := by decide +kernel
theorem dX1_copyWords_1 : decode cX1_copyWords 1 = .ok (.istore 6, 2) := by decide +kernel
theorem dX1_copyWords_3 : decode cX1_copyWords 3 = .ok (.iload 6, 2) := by decide +kernel
theorem dX1_copyWords_5 : decode cX1_copyWords 5 = .ok (.iload 4, 2) := by decide +kernel
theorem dX1_copyWords_7 : decode cX1_copyWords 7 = .ok (.if_icmp .ge 33, 3) := by decide +kernel
theorem dX1_copyWords_10 : decode cX1_copyWords 10 = .ok (.aload_n 0, 1) := by decide +kernel
theorem dX1_copyWords_11 : decode cX1_copyWords 11 = .ok (.getfield 12, 3) := by decide +kernel
theorem dX1_copyWords_14 : decode cX1_copyWords 14 = .ok (.iload 5, 2) := by decide +kernel
theorem dX1_copyWords_16 : decode cX1_copyWords 16 = .ok (.iload 6, 2) := by decide +kernel
theorem dX1_copyWords_18 : decode cX1_copyWords 18 = .ok (.iadd, 1) := by decide +kernel
theorem dX1_copyWords_19 : decode cX1_copyWords 19 = .ok (.aload_n 1, 1) := by decide +kernel
theorem dX1_copyWords_20 : decode cX1_copyWords 20 = .ok (.aload_n 2, 1) := by decide +kernel
theorem dX1_copyWords_21 : decode cX1_copyWords 21 = .ok (.getfield 46, 3) := by decide +kernel
theorem dX1_copyWords_24 : decode cX1_copyWords 24 = .ok (.iload_n 3, 1) := by decide +kernel
theorem dX1_copyWords_25 : decode cX1_copyWords 25 = .ok (.iload 6, 2) := by decide +kernel
theorem dX1_copyWords_27 : decode cX1_copyWords 27 = .ok (.iadd, 1) := by decide +kernel
theorem dX1_copyWords_28 : decode cX1_copyWords 28 = .ok (.invokevirtual 49, 3) := by decide +kernel
theorem dX1_copyWords_31 : decode cX1_copyWords 31 = .ok (.invokevirtual 102, 3) := by decide +kernel
theorem dX1_copyWords_34 : decode cX1_copyWords 34 = .ok (.iinc 6 1, 3) := by decide +kernel
theorem dX1_copyWords_37 : decode cX1_copyWords 37 = .ok (.goto (-34), 3) := by decide +kernel
theorem dX1_copyWords_40 : decode cX1_copyWords 40 = .ok (.return_, 1) := by decide +kernel
theorem dX2_init_0 : decode cX2_init 0 = .ok (.aload_n 0, 1) := by decide +kernel
theorem dX2_init_1 : decode cX2_init 1 = .ok (.invokespecial 3, 3) := by decide +kernel
theorem dX2_init_4 : decode cX2_init 4 = .ok (.return_, 1) := by decide +kernel
theorem dX2_pointerCount_0 : decode cX2_pointerCount 0 = .ok (.aload_n 0, 1) := by decide +kernel
theorem dX2_pointerCount_1 : decode cX2_pointerCount 1 = .ok (.getfield 9, 3) := by decide +kernel
theorem dX2_pointerCount_4 : decode cX2_pointerCount 4 = .ok (.bipush 7, 2) := by decide +kernel
theorem dX2_pointerCount_6 : decode cX2_pointerCount 6 = .ok (.if_icmp .ne 10, 3) := by decide +kernel
theorem dX2_pointerCount_9 : decode cX2_pointerCount 9 = .ok (.aload_n 0, 1) := by decide +kernel
theorem dX2_pointerCount_10 : decode cX2_pointerCount 10 = .ok (.getfield 15, 3) := by decide +kernel
theorem dX2_pointerCount_13 : decode cX2_pointerCount 13 = .ok (.goto 7, 3) := by decide +kernel
theorem dX2_pointerCount_16 : decode cX2_pointerCount 16 = .ok (.aload_n 0, 1) := by decide +kernel
theorem dX2_pointerCount_17 : decode cX2_pointerCount 17 = .ok (.getfield 18, 3) := by decide +kernel
theorem dX2_pointerCount_20 : decode cX2_pointerCount 20 = .ok (.ireturn, 1) := by decide +kernel
theorem dX2_firstPointer_0 : decode cX2_firstPointer 0 = .ok (.aload_n 0, 1) := by decide +kernel
theorem dX2_firstPointer_1 : decode cX2_firstPointer 1 = .ok (.getfield 9, 3) := by decide +kernel
theorem dX2_firstPointer_4 : decode cX2_firstPointer 4 = .ok (.ifCond .ne 15, 3) := by decide +kernel
theorem dX2_firstPointer_7 : decode cX2_firstPointer 7 = .ok (.aload_n 0, 1) := by decide +kernel
theorem dX2_firstPointer_8 : decode cX2_firstPointer 8 = .ok (.getfield 21, 3) := by decide +kernel
theorem dX2_firstPointer_11 : decode cX2_firstPointer 11 = .ok (.aload_n 0, 1) := by decide +kernel
theorem dX2_firstPointer_12 : decode cX2_firstPointer 12 = .ok (.getfield 15, 3) := by decide +kernel
theorem dX2_firstPointer_15 : decode cX2_firstPointer 15 = .ok (.iadd, 1) := by decide +kernel
theorem dX2_firstPointer_16 : decode cX2_firstPointer 16 = .ok (.goto 7, 3) := by decide +kernel
theorem dX2_firstPointer_19 : decode cX2_firstPointer 19 = .ok (.aload_n 0, 1) := by decide +kernel
theorem dX2_firstPointer_20 : decode cX2_firstPointer 20 = .ok (.getfield 21, 3) := by decide +kernel
theorem dX2_firstPointer_23 : decode cX2_firstPointer 23 = .ok (.ireturn, 1) := by decide +kernel
theorem dX2_become_0 : decode cX2_become 0 = .ok (.aload_n 0, 1) := by decide +kernel
theorem dX2_become_1 : decode cX2_become 1 = .ok (.aload_n 1, 1) := by decide +kernel
theorem dX2_become_2 : decode cX2_become 2 = .ok (.getfield 9, 3) := by decide +kernel
theorem dX2_become_5 : decode cX2_become 5 = .ok (.putfield 9, 3) := by decide +kernel
theorem dX2_become_8 : decode cX2_become 8 = .ok (.aload_n 0, 1) := by decide +kernel
theorem dX2_become_9 : decode cX2_become 9 = .ok (.aload_n 1, 1) := by decide +kernel
theorem dX2_become_10 : decode cX2_become 10 = .ok (.getfield 15, 3) := by decide +kernel
theorem dX2_become_13 : decode cX2_become 13 = .ok (.putfield 15, 3) := by decide +kernel
theorem dX2_become_16 : decode cX2_become 16 = .ok (.aload_n 0, 1) := by decide +kernel
theorem dX2_become_17 : decode cX2_become 17 = .ok (.aload_n 1, 1) := by decide +kernel
theorem dX2_become_18 : decode cX2_become 18 = .ok (.getfield 18, 3) := by decide +kernel
theorem dX2_become_21 : decode cX2_become 21 = .ok (.putfield 18, 3) := by decide +kernel
theorem dX2_become_24 : decode cX2_become 24 = .ok (.aload_n 0, 1) := by decide +kernel
theorem dX2_become_25 : decode cX2_become 25 = .ok (.aload_n 1, 1) := by decide +kernel
theorem dX2_become_26 : decode cX2_become 26 = .ok (.getfield 24, 3) := by decide +kernel
theorem dX2_become_29 : decode cX2_become 29 = .ok (.putfield 24, 3) := by decide +kernel
theorem dX2_become_32 : decode cX2_become 32 = .ok (.aload_n 0, 1) := by decide +kernel
theorem dX2_become_33 : decode cX2_become 33 = .ok (.aload_n 1, 1) := by decide +kernel
theorem dX2_become_34 : decode cX2_become 34 = .ok (.getfield 27, 3) := by decide +kernel
theorem dX2_become_37 : decode cX2_become 37 = .ok (.putfield 27, 3) := by decide +kernel
theorem dX2_become_40 : decode cX2_become 40 = .ok (.aload_n 0, 1) := by decide +kernel
theorem dX2_become_41 : decode cX2_become 41 = .ok (.aload_n 1, 1) := by decide +kernel
theorem dX2_become_42 : decode cX2_become 42 = .ok (.getfield 21, 3) := by decide +kernel
theorem dX2_become_45 : decode cX2_become 45 = .ok (.putfield 21, 3) := by decide +kernel
theorem dX2_become_48 : decode cX2_become 48 = .ok (.aload_n 0, 1) := by decide +kernel
theorem dX2_become_49 : decode cX2_become 49 = .ok (.aload_n 1, 1) := by decide +kernel
theorem dX2_become_50 : decode cX2_become 50 = .ok (.getfield 30, 3) := by decide +kernel
theorem dX2_become_53 : decode cX2_become 53 = .ok (.putfield 30, 3) := by decide +kernel
theorem dX2_become_56 : decode cX2_become 56 = .ok (.return_, 1) := by decide +kernel
theorem dX2_becomeElement_0 : decode cX2_becomeElement 0 = .ok (.aload_n 0, 1) := by decide +kernel
theorem dX2_becomeElement_1 : decode cX2_becomeElement 1 = .ok (.iconst 0, 1) := by decide +kernel
theorem dX2_becomeElement_2 : decode cX2_becomeElement 2 = .ok (.putfield 9, 3) := by decide +kernel
theorem dX2_becomeElement_5 : decode cX2_becomeElement 5 = .ok (.aload_n 0, 1) := by decide +kernel
theorem dX2_becomeElement_6 : decode cX2_becomeElement 6 = .ok (.aload_n 1, 1) := by decide +kernel
theorem dX2_becomeElement_7 : decode cX2_becomeElement 7 = .ok (.getfield 24, 3) := by decide +kernel
theorem dX2_becomeElement_10 : decode cX2_becomeElement 10 = .ok (.putfield 15, 3) := by decide +kernel
theorem dX2_becomeElement_13 : decode cX2_becomeElement 13 = .ok (.aload_n 0, 1) := by decide +kernel
theorem dX2_becomeElement_14 : decode cX2_becomeElement 14 = .ok (.aload_n 1, 1) := by decide +kernel
theorem dX2_becomeElement_15 : decode cX2_becomeElement 15 = .ok (.getfield 18, 3) := by decide +kernel
theorem dX2_becomeElement_18 : decode cX2_becomeElement 18 = .ok (.putfield 18, 3) := by decide +kernel
theorem dX2_becomeElement_21 : decode cX2_becomeElement 21 = .ok (.aload_n 0, 1) := by decide +kernel
theorem dX2_becomeElement_22 : decode cX2_becomeElement 22 = .ok (.iconst 0, 1) := by decide +kernel
theorem dX2_becomeElement_23 : decode cX2_becomeElement 23 = .ok (.putfield 24, 3) := by decide +kernel
theorem dX2_becomeElement_26 : decode cX2_becomeElement 26 = .ok (.aload_n 0, 1) := by decide +kernel
theorem dX2_becomeElement_27 : decode cX2_becomeElement 27 = .ok (.aload_n 1, 1) := by decide +kernel
theorem dX2_becomeElement_28 : decode cX2_becomeElement 28 = .ok (.getfield 27, 3) := by decide +kernel
theorem dX2_becomeElement_31 : decode cX2_becomeElement 31 = .ok (.putfield 27, 3) := by decide +kernel
theorem dX2_becomeElement_34 : decode cX2_becomeElement 34 = .ok (.aload_n 0, 1) := by decide +kernel
theorem dX2_becomeElement_35 : decode cX2_becomeElement 35 = .ok (.aload_n 1, 1) := by decide +kernel
theorem dX2_becomeElement_36 : decode cX2_becomeElement 36 = .ok (.iload_n 2, 1) := by decide +kernel
theorem dX2_becomeElement_37 : decode cX2_becomeElement 37 = .ok (.invokevirtual 33, 3) := by decide +kernel
theorem dX2_becomeElement_40 : decode cX2_becomeElement 40 = .ok (.putfield 21, 3) := by decide +kernel
theorem dX2_becomeElement_43 : decode cX2_becomeElement 43 = .ok (.aload_n 0, 1) := by decide +kernel
theorem dX2_becomeElement_44 : decode cX2_becomeElement 44 = .ok (.aload_n 1, 1) := by decide +kernel
theorem dX2_becomeElement_45 : decode cX2_becomeElement 45 = .ok (.getfield 30, 3) := by decide +kernel
theorem dX2_becomeElement_48 : decode cX2_becomeElement 48 = .ok (.putfield 30, 3) := by decide +kernel
theorem dX2_becomeElement_51 : decode cX2_becomeElement 51 = .ok (.return_, 1) := by decide +kernel
theorem dX2_elementBegin_0 : decode cX2_elementBegin 0 = .ok (.aload_n 0, 1) := by decide +kernel
theorem dX2_elementBegin_1 : decode cX2_elementBegin 1 = .ok (.getfield 21, 3) := by decide +kernel
theorem dX2_elementBegin_4 : decode cX2_elementBegin 4 = .ok (.iload_n 1, 1) := by decide +kernel
theorem dX2_elementBegin_5 : decode cX2_elementBegin 5 = .ok (.aload_n 0, 1) := by decide +kernel
theorem dX2_elementBegin_6 : decode cX2_elementBegin 6 = .ok (.getfield 24, 3) := by decide +kernel
theorem dX2_elementBegin_9 : decode cX2_elementBegin 9 = .ok (.aload_n 0, 1) := by decide +kernel
theorem dX2_elementBegin_10 : decode cX2_elementBegin 10 = .ok (.getfield 18, 3) := by decide +kernel
theorem dX2_elementBegin_13 : decode cX2_elementBegin 13 = .ok (.iadd, 1) := by decide +kernel
theorem dX2_elementBegin_14 : decode cX2_elementBegin 14 = .ok (.imul, 1) := by decide +kernel
theorem dX2_elementBegin_15 : decode cX2_elementBegin 15 = .ok (.iadd, 1) := by decide +kernel
theorem dX2_elementBegin_16 : decode cX2_elementBegin 16 = .ok (.ireturn, 1) := by decide +kernel
theorem dX3_init_0 : decode cX3_init 0 = .ok (.aload_n 0, 1) := by decide +kernel
theorem dX3_init_1 : decode cX3_init 1 = .ok (.invokespecial 3, 3) := by decide +kernel
theorem dX3_init_4 : decode cX3_init 4 = .ok (.aload_n 0, 1) := by decide +kernel
theorem dX3_init_5 : decode cX3_init 5 = .ok (.iconst 4, 1) := by decide +kernel
theorem dX3_init_6 : decode cX3_init 6 = .ok (.anewarray 9, 3) := by decide +kernel
theorem dX3_init_9 : decode cX3_init 9 = .ok (.putfield 11, 3) := by decide +kernel
theorem dX3_init_12 : decode cX3_init 12 = .ok (.iconst 0, 1) := by decide +kernel
theorem dX3_init_13 : decode cX3_init 13 = .ok (.istore_n 1, 1) := by decide +kernel
theorem dX3_init_14 : decode cX3_init 14 = .ok (.iload_n 1, 1) := by decide +kernel
theorem dX3_init_15 : decode cX3_init 15 = .ok (.iconst 4, 1) := by decide +kernel
theorem dX3_init_16 : decode cX3_init 16 = .ok (.if_icmp .ge 22, 3) := by decide +kernel
theorem dX3_init_19 : decode cX3_init 19 = .ok (.aload_n 0, 1) := by decide +kernel
theorem dX3_init_20 : decode cX3_init 20 = .ok (.getfield 11, 3) := by decide +kernel
theorem dX3_init_23 : decode cX3_init 23 = .ok (.iload_n 1, 1) := by decide +kernel
theorem dX3_init_24 : decode cX3_init 24 = .ok (.new 9, 3) := by decide +kernel
theorem dX3_init_27 : decode cX3_init 27 = .ok (.dup, 1) := by decide +kernel
theorem dX3_init_28 : decode cX3_init 28 = .ok (.invokespecial 17, 3) := by decide +kernel
theorem dX3_init_31 : decode cX3_init 31 = .ok (.aastore, 1) := by decide +kernel
theorem dX3_init_32 : decode cX3_init 32 = .ok (.iinc 1 1, 3) := by decide +kernel
theorem dX3_init_35 : decode cX3_init 35 = .ok (.goto (-21), 3) := by decide +kernel
theorem dX3_init_38 : decode cX3_init 38 = .ok (.return_, 1) := by decide +kernel
theorem dX3_hasSegment_0 : decode cX3_hasSegment 0 = .ok (.iload_n 1, 1) := by decide +kernel
theorem dX3_hasSegment_1 : decode cX3_hasSegment 1 = .ok (.ifCond .lt 12, 3) := by decide +kernel
theorem dX3_hasSegment_4 : decode cX3_hasSegment 4 = .ok (.iload_n 1, 1) := by decide +kernel
theorem dX3_hasSegment_5 : decode cX3_hasSegment 5 = .ok (.iconst 4, 1) := by decide +kernel
theorem dX3_hasSegment_6 : decode cX3_hasSegment 6 = .ok (.if_icmp .ge 7, 3) := by decide +kernel
theorem dX3_hasSegment_9 : decode cX3_hasSegment 9 = .ok (.iconst 1, 1) := by decide +kernel
theorem dX3_hasSegment_10 : decode cX3_hasSegment 10 = .ok (.goto 4, 3) := by decide +kernel
theorem dX3_hasSegment_13 : decode cX3_hasSegment 13 = .ok (.iconst 0, 1) := by decide +kernel
theorem dX3_hasSegment_14 : decode cX3_hasSegment 14 = .ok (.ireturn, 1) := by decide +kernel
theorem dX3_row_0 : decode cX3_row 0 = .ok (.aload_n 0, 1) := by decide +kernel
theorem dX3_row_1 : decode cX3_row 1 = .ok (.getfield 11, 3) := by decide +kernel
theorem dX3_row_4 : decode cX3_row 4 = .ok (.iload_n 1, 1) := by decide +kernel
theorem dX3_row_5 : decode cX3_row 5 = .ok (.aaload, 1) := by decide +kernel
theorem dX3_row_6 : decode cX3_row 6 = .ok (.areturn, 1) := by decide +kernel
theorem dX3_hasWords_0 : decode cX3_hasWords 0 = .ok (.iload_n 1, 1) := by decide +kernel
theorem dX3_hasWords_1 : decode cX3_hasWords 1 = .ok (.ifCond .lt 8, 3) := by decide +kernel
theorem dX3_hasWords_4 : decode cX3_hasWords 4 = .ok (.iload_n 1, 1) := by decide +kernel
theorem dX3_hasWords_5 : decode cX3_hasWords 5 = .ok (.iconst 4, 1) := by decide +kernel
theorem dX3_hasWords_6 : decode cX3_hasWords 6 = .ok (.if_icmp .lt 5, 3) := by decide +kernel
theorem dX3_hasWords_9 : decode cX3_hasWords 9 = .ok (.iconst 0, 1) := by decide +kernel
theorem dX3_hasWords_10 : decode cX3_hasWords 10 = .ok (.ireturn, 1) := by decide +kernel
theorem dX3_hasWords_11 : decode cX3_hasWords 11 = .ok (.aload_n 0, 1) := by decide +kernel
theorem dX3_hasWords_12 : decode cX3_hasWords 12 = .ok (.getfield 11, 3) := by decide +kernel
theorem dX3_hasWords_15 : decode cX3_hasWords 15 = .ok (.iload_n 1, 1) := by decide +kernel
theorem dX3_hasWords_16 : decode cX3_hasWords 16 = .ok (.aaload, 1) := by decide +kernel
theorem dX3_hasWords_17 : decode cX3_hasWords 17 = .ok (.getfield 18, 3) := by decide +kernel
theorem dX3_hasWords_20 : decode cX3_hasWords 20 = .ok (.istore 4, 2) := by decide +kernel
theorem dX3_hasWords_22 : decode cX3_hasWords 22 = .ok (.iload_n 2, 1) := by decide +kernel
theorem dX3_hasWords_23 : decode cX3_hasWords 23 = .ok (.ifCond .lt 21, 3) := by decide +kernel
theorem dX3_hasWords_26 : decode cX3_hasWords 26 = .ok (.iload_n 2, 1) := by decide +kernel
theorem dX3_hasWords_27 : decode cX3_hasWords 27 = .ok (.iload 4, 2) := by decide +kernel
theorem dX3_hasWords_29 : decode cX3_hasWords 29 = .ok (.if_icmp .gt 15, 3) := by decide +kernel
theorem dX3_hasWords_32 : decode cX3_hasWords 32 = .ok (.iload_n 3, 1) := by decide +kernel
theorem dX3_hasWords_33 : decode cX3_hasWords 33 = .ok (.iload 4, 2) := by decide +kernel
theorem dX3_hasWords_35 : decode cX3_hasWords 35 = .ok (.iload_n 2, 1) := by decide +kernel
theorem dX3_hasWords_36 : decode cX3_hasWords 36 = .ok (.isub, 1) := by decide +kernel
theorem dX3_hasWords_37 : decode cX3_hasWords 37 = .ok (.if_icmp .gt 7, 3) := by decide +kernel
theorem dX3_hasWords_40 : decode cX3_hasWords 40 = .ok (.iconst 1, 1) := by decide +kernel
theorem dX3_hasWords_41 : decode cX3_hasWords 41 = .ok (.goto 4, 3) := by decide +kernel
theorem dX3_hasWords_44 : decode cX3_hasWords 44 = .ok (.iconst 0, 1) := by decide +kernel
theorem dX3_hasWords_45 : decode cX3_hasWords 45 = .ok (.ireturn, 1) := by decide +kernel
theorem dX3_at_0 : decode cX3_at 0 = .ok (.iload_n 1, 1) := by decide +kernel
theorem dX3_at_1 : decode cX3_at 1 = .ok (.ifCond .lt 8, 3) := by decide +kernel
theorem dX3_at_4 : decode cX3_at 4 = .ok (.iload_n 1, 1) := by decide +kernel
theorem dX3_at_5 : decode cX3_at 5 = .ok (.iconst 4, 1) := by decide +kernel
theorem dX3_at_6 : decode cX3_at 6 = .ok (.if_icmp .lt 5, 3) := by decide +kernel
theorem dX3_at_9 : decode cX3_at 9 = .ok (.lconst 0, 1) := by decide +kernel
theorem dX3_at_10 : decode cX3_at 10 = .ok (.lreturn, 1) := by decide +kernel
theorem dX3_at_11 : decode cX3_at 11 = .ok (.aload_n 0, 1) := by decide +kernel
theorem dX3_at_12 : decode cX3_at 12 = .ok (.getfield 11, 3) := by decide +kernel
theorem dX3_at_15 : decode cX3_at 15 = .ok (.iload_n 1, 1) := by decide +kernel
theorem dX3_at_16 : decode cX3_at 16 = .ok (.aaload, 1) := by decide +kernel
theorem dX3_at_17 : decode cX3_at 17 = .ok (.astore_n 3, 1) := by decide +kernel
theorem dX3_at_18 : decode cX3_at 18 = .ok (.iload_n 2, 1) := by decide +kernel
theorem dX3_at_19 : decode cX3_at 19 = .ok (.ifCond .lt 20, 3) := by decide +kernel
theorem dX3_at_22 : decode cX3_at 22 = .ok (.iload_n 2, 1) := by decide +kernel
theorem dX3_at_23 : decode cX3_at 23 = .ok (.aload_n 3, 1) := by decide +kernel
theorem dX3_at_24 : decode cX3_at 24 = .ok (.getfield 18, 3) := by decide +kernel
theorem dX3_at_27 : decode cX3_at 27 = .ok (.if_icmp .ge 12, 3) := by decide +kernel
theorem dX3_at_30 : decode cX3_at 30 = .ok (.aload_n 3, 1) := by decide +kernel
theorem dX3_at_31 : decode cX3_at 31 = .ok (.getfield 22, 3) := by decide +kernel
theorem dX3_at_34 : decode cX3_at 34 = .ok (.iload_n 2, 1) := by decide +kernel
theorem dX3_at_35 : decode cX3_at 35 = .ok (.laload, 1) := by decide +kernel
theorem dX3_at_36 : decode cX3_at 36 = .ok (.goto 4, 3) := by decide +kernel
theorem dX3_at_39 : decode cX3_at 39 = .ok (.lconst 0, 1) := by decide +kernel
theorem dX3_at_40 : decode cX3_at 40 = .ok (.lreturn, 1) := by decide +kernel
theorem dX3_flatElement_0 : decode cX3_flatElement 0 = .ok (.aload_n 1, 1) := by decide +kernel
theorem dX3_flatElement_1 : decode cX3_flatElement 1 = .ok (.getfield 26, 3) := by decide +kernel
theorem dX3_flatElement_4 : decode cX3_flatElement 4 = .ok (.iconst 1, 1) := by decide +kernel
theorem dX3_flatElement_5 : decode cX3_flatElement 5 = .ok (.isub, 1) := by decide +kernel
theorem dX3_flatElement_6 : decode cX3_flatElement 6 = .ok (.invokestatic 31, 3) := by decide +kernel
theorem dX3_flatElement_9 : decode cX3_flatElement 9 = .ok (.istore_n 3, 1) := by decide +kernel
theorem dX3_flatElement_10 : decode cX3_flatElement 10 = .ok (.iload_n 2, 1) := by decide +kernel
theorem dX3_flatElement_11 : decode cX3_flatElement 11 = .ok (.i2l, 1) := by decide +kernel
theorem dX3_flatElement_12 : decode cX3_flatElement 12 = .ok (.iload_n 3, 1) := by decide +kernel
theorem dX3_flatElement_13 : decode cX3_flatElement 13 = .ok (.i2l, 1) := by decide +kernel
theorem dX3_flatElement_14 : decode cX3_flatElement 14 = .ok (.lmul, 1) := by decide +kernel
theorem dX3_flatElement_15 : decode cX3_flatElement 15 = .ok (.lstore 4, 2) := by decide +kernel
theorem dX3_flatElement_17 : decode cX3_flatElement 17 = .ok (.aload_n 0, 1) := by decide +kernel
theorem dX3_flatElement_18 : decode cX3_flatElement 18 = .ok (.aload_n 1, 1) := by decide +kernel
theorem dX3_flatElement_19 : decode cX3_flatElement 19 = .ok (.getfield 37, 3) := by decide +kernel
theorem dX3_flatElement_22 : decode cX3_flatElement 22 = .ok (.aload_n 1, 1) := by decide +kernel
theorem dX3_flatElement_23 : decode cX3_flatElement 23 = .ok (.getfield 40, 3) := by decide +kernel
theorem dX3_flatElement_26 : decode cX3_flatElement 26 = .ok (.lload 4, 2) := by decide +kernel
theorem dX3_flatElement_28 : decode cX3_flatElement 28 = .ok (.ldc2_w 43, 3) := by decide +kernel
theorem dX3_flatElement_31 : decode cX3_flatElement 31 = .ok (.ldiv, 1) := by decide +kernel
theorem dX3_flatElement_32 : decode cX3_flatElement 32 = .ok (.l2i, 1) := by decide +kernel
theorem dX3_flatElement_33 : decode cX3_flatElement 33 = .ok (.iadd, 1) := by decide +kernel
theorem dX3_flatElement_34 : decode cX3_flatElement 34 = .ok (.invokevirtual 45, 3) := by decide +kernel
theorem dX3_flatElement_37 : decode cX3_flatElement 37 = .ok (.lstore 6, 2) := by decide +kernel
theorem dX3_flatElement_39 : decode cX3_flatElement 39 = .ok (.lload 6, 2) := by decide +kernel
theorem dX3_flatElement_41 : decode cX3_flatElement 41 = .ok (.lload 4, 2) := by decide +kernel
theorem dX3_flatElement_43 : decode cX3_flatElement 43 = .ok (.ldc2_w 43, 3) := by decide +kernel
theorem dX3_flatElement_46 : decode cX3_flatElement 46 = .ok (.lrem, 1) := by decide +kernel
theorem dX3_flatElement_47 : decode cX3_flatElement 47 = .ok (.l2i, 1) := by decide +kernel
theorem dX3_flatElement_48 : decode cX3_flatElement 48 = .ok (.lushr, 1) := by decide +kernel
theorem dX3_flatElement_49 : decode cX3_flatElement 49 = .ok (.iload_n 3, 1) := by decide +kernel
theorem dX3_flatElement_50 : decode cX3_flatElement 50 = .ok (.invokestatic 49, 3) := by decide +kernel
theorem dX3_flatElement_53 : decode cX3_flatElement 53 = .ok (.land, 1) := by decide +kernel
theorem dX3_flatElement_54 : decode cX3_flatElement 54 = .ok (.lreturn, 1) := by decide +kernel
theorem dX3_usedWords_0 : decode cX3_usedWords 0 = .ok (.iload_n 3, 1) := by decide +kernel
theorem dX3_usedWords_1 : decode cX3_usedWords 1 = .ok (.istore 4, 2) := by decide +kernel
theorem dX3_usedWords_3 : decode cX3_usedWords 3 = .ok (.iload 4, 2) := by decide +kernel
theorem dX3_usedWords_5 : decode cX3_usedWords 5 = .ok (.ifCond .le 25, 3) := by decide +kernel
theorem dX3_usedWords_8 : decode cX3_usedWords 8 = .ok (.aload_n 0, 1) := by decide +kernel
theorem dX3_usedWords_9 : decode cX3_usedWords 9 = .ok (.iload_n 1, 1) := by decide +kernel
theorem dX3_usedWords_10 : decode cX3_usedWords 10 = .ok (.iload_n 2, 1) := by decide +kernel
theorem dX3_usedWords_11 : decode cX3_usedWords 11 = .ok (.iload 4, 2) := by decide +kernel
theorem dX3_usedWords_13 : decode cX3_usedWords 13 = .ok (.iadd, 1) := by decide +kernel
theorem dX3_usedWords_14 : decode cX3_usedWords 14 = .ok (.iconst 1, 1) := by decide +kernel
theorem dX3_usedWords_15 : decode cX3_usedWords 15 = .ok (.isub, 1) := by decide +kernel
theorem dX3_usedWords_16 : decode cX3_usedWords 16 = .ok (.invokevirtual 45, 3) := by decide +kernel
theorem dX3_usedWords_19 : decode cX3_usedWords 19 = .ok (.lconst 0, 1) := by decide +kernel
theorem dX3_usedWords_20 : decode cX3_usedWords 20 = .ok (.lcmp, 1) := by decide +kernel
theorem dX3_usedWords_21 : decode cX3_usedWords 21 = .ok (.ifCond .ne 9, 3) := by decide +kernel
theorem dX3_usedWords_24 : decode cX3_usedWords 24 = .ok (.iinc 4 (-1), 3) := by decide +kernel
theorem dX3_usedWords_27 : decode cX3_usedWords 27 = .ok (.goto (-24), 3) := by decide +kernel
theorem dX3_usedWords_30 : decode cX3_usedWords 30 = .ok (.iload 4, 2) := by decide +kernel
theorem dX3_usedWords_32 : decode cX3_usedWords 32 = .ok (.ireturn, 1) := by decide +kernel
theorem dX3_findRoot_0 : decode cX3_findRoot 0 = .ok (.aload_n 0, 1) := by decide +kernel
theorem dX3_findRoot_1 : decode cX3_findRoot 1 = .ok (.iconst 0, 1) := by decide +kernel
theorem dX3_findRoot_2 : decode cX3_findRoot 2 = .ok (.iconst 0, 1) := by decide +kernel
theorem dX3_findRoot_3 : decode cX3_findRoot 3 = .ok (.iconst 1, 1) := by decide +kernel
theorem dX3_findRoot_4 : decode cX3_findRoot 4 = .ok (.invokevirtual 53, 3) := by decide +kernel
theorem dX3_findRoot_7 : decode cX3_findRoot 7 = .ok (.ifCond .ne 13, 3) := by decide +kernel
theorem dX3_findRoot_10 : decode cX3_findRoot 10 = .ok (.new 57, 3) := by decide +kernel
theorem dX3_findRoot_13 : decode cX3_findRoot 13 = .ok (.dup, 1) := by decide +kernel
theorem dX3_findRoot_14 : decode cX3_findRoot 14 = .ok (.ldc 59, 2) := by decide +kernel
theorem dX3_findRoot_16 : decode cX3_findRoot 16 = .ok (.invokespecial 61, 3) := by decide +kernel
theorem dX3_findRoot_19 : decode cX3_findRoot 19 = .ok (.athrow, 1) := by decide +kernel
theorem dX3_findRoot_20 : decode cX3_findRoot 20 = .ok (.aload_n 0, 1) := by decide +kernel
theorem dX3_findRoot_21 : decode cX3_findRoot 21 = .ok (.iconst 0, 1) := by decide +kernel
theorem dX3_findRoot_22 : decode cX3_findRoot 22 = .ok (.iconst 0, 1) := by decide +kernel
theorem dX3_findRoot_23 : decode cX3_findRoot 23 = .ok (.invokevirtual 45, 3) := by decide +kernel
theorem dX3_findRoot_26 : decode cX3_findRoot 26 = .ok (.lconst 0, 1) := by decide +kernel
theorem dX3_findRoot_27 : decode cX3_findRoot 27 = .ok (.lcmp, 1) := by decide +kernel
theorem dX3_findRoot_28 : decode cX3_findRoot 28 = .ok (.ifCond .ne 13, 3) := by decide +kernel
theorem dX3_findRoot_31 : decode cX3_findRoot 31 = .ok (.new 64, 3) := by decide +kernel
theorem dX3_findRoot_34 : decode cX3_findRoot 34 = .ok (.dup, 1) := by decide +kernel
theorem dX3_findRoot_35 : decode cX3_findRoot 35 = .ok (.ldc 66, 2) := by decide +kernel
theorem dX3_findRoot_37 : decode cX3_findRoot 37 = .ok (.invokespecial 68, 3) := by decide +kernel
theorem dX3_findRoot_40 : decode cX3_findRoot 40 = .ok (.athrow, 1) := by decide +kernel
theorem dX3_findRoot_41 : decode cX3_findRoot 41 = .ok (.aload_n 0, 1) := by decide +kernel
theorem dX3_findRoot_42 : decode cX3_findRoot 42 = .ok (.iconst 0, 1) := by decide +kernel
theorem dX3_findRoot_43 : decode cX3_findRoot 43 = .ok (.iconst 0, 1) := by decide +kernel
theorem dX3_findRoot_44 : decode cX3_findRoot 44 = .ok (.aload_n 2, 1) := by decide +kernel
theorem dX3_findRoot_45 : decode cX3_findRoot 45 = .ok (.invokevirtual 69, 3) := by decide +kernel
theorem dX3_findRoot_48 : decode cX3_findRoot 48 = .ok (.lstore_n 3, 1) := by decide +kernel
theorem dX3_findRoot_49 : decode cX3_findRoot 49 = .ok (.aload_n 0, 1) := by decide +kernel
theorem dX3_findRoot_50 : decode cX3_findRoot 50 = .ok (.lload_n 3, 1) := by decide +kernel
theorem dX3_findRoot_51 : decode cX3_findRoot 51 = .ok (.aload_n 2, 1) := by decide +kernel
theorem dX3_findRoot_52 : decode cX3_findRoot 52 = .ok (.invokevirtual 73, 3) := by decide +kernel
theorem dX3_findRoot_55 : decode cX3_findRoot 55 = .ok (.istore 5, 2) := by decide +kernel
theorem dX3_findRoot_57 : decode cX3_findRoot 57 = .ok (.aload_n 2, 1) := by decide +kernel
theorem dX3_findRoot_58 : decode cX3_findRoot 58 = .ok (.getfield 26, 3) := by decide +kernel
theorem dX3_findRoot_61 : decode cX3_findRoot 61 = .ok (.ifCond .eq 13, 3) := by decide +kernel
theorem dX3_findRoot_64 : decode cX3_findRoot 64 = .ok (.new 77, 3) := by decide +kernel
theorem dX3_findRoot_67 : decode cX3_findRoot 67 = .ok (.dup, 1) := by decide +kernel
theorem dX3_findRoot_68 : decode cX3_findRoot 68 = .ok (.ldc 79, 2) := by decide +kernel
theorem dX3_findRoot_70 : decode cX3_findRoot 70 = .ok (.invokespecial 81, 3) := by decide +kernel
theorem dX3_findRoot_73 : decode cX3_findRoot 73 = .ok (.athrow, 1) := by decide +kernel
theorem dX3_findRoot_74 : decode cX3_findRoot 74 = .ok (.aload_n 2, 1) := by decide +kernel
theorem dX3_findRoot_75 : decode cX3_findRoot 75 = .ok (.iconst 1, 1) := by decide +kernel
theorem dX3_findRoot_76 : decode cX3_findRoot 76 = .ok (.putfield 82, 3) := by decide +kernel
theorem dX3_findRoot_79 : decode cX3_findRoot 79 = .ok (.aload_n 2, 1) := by decide +kernel
theorem dX3_findRoot_80 : decode cX3_findRoot 80 = .ok (.iload 5, 2) := by decide +kernel
theorem dX3_findRoot_82 : decode cX3_findRoot 82 = .ok (.iload_n 1, 1) := by decide +kernel
theorem dX3_findRoot_83 : decode cX3_findRoot 83 = .ok (.invokestatic 85, 3) := by decide +kernel
theorem dX3_findRoot_86 : decode cX3_findRoot 86 = .ok (.iload 5, 2) := by decide +kernel
theorem dX3_findRoot_88 : decode cX3_findRoot 88 = .ok (.ireturn, 1) := by decide +kernel
theorem dX3_find_0 : decode cX3_find 0 = .ok (.aload_n 0, 1) := by decide +kernel
theorem dX3_find_1 : decode cX3_find 1 = .ok (.aload_n 1, 1) := by decide +kernel
theorem dX3_find_2 : decode cX3_find 2 = .ok (.getfield 37, 3) := by decide +kernel
theorem dX3_find_5 : decode cX3_find 5 = .ok (.iload_n 2, 1) := by decide +kernel
theorem dX3_find_6 : decode cX3_find 6 = .ok (.aload 4, 2) := by decide +kernel
theorem dX3_find_8 : decode cX3_find 8 = .ok (.invokevirtual 69, 3) := by decide +kernel
theorem dX3_find_11 : decode cX3_find 11 = .ok (.lstore 5, 2) := by decide +kernel
theorem dX3_find_13 : decode cX3_find 13 = .ok (.aload_n 0, 1) := by decide +kernel
theorem dX3_find_14 : decode cX3_find 14 = .ok (.lload 5, 2) := by decide +kernel
theorem dX3_find_16 : decode cX3_find 16 = .ok (.aload 4, 2) := by decide +kernel
theorem dX3_find_18 : decode cX3_find 18 = .ok (.invokevirtual 73, 3) := by decide +kernel
theorem dX3_find_21 : decode cX3_find 21 = .ok (.istore 7, 2) := by decide +kernel
theorem dX3_find_23 : decode cX3_find 23 = .ok (.aload 4, 2) := by decide +kernel
theorem dX3_find_25 : decode cX3_find 25 = .ok (.aload_n 1, 1) := by decide +kernel
theorem dX3_find_26 : decode cX3_find 26 = .ok (.getfield 82, 3) := by decide +kernel
theorem dX3_find_29 : decode cX3_find 29 = .ok (.iconst 1, 1) := by decide +kernel
theorem dX3_find_30 : decode cX3_find 30 = .ok (.iadd, 1) := by decide +kernel
theorem dX3_find_31 : decode cX3_find 31 = .ok (.putfield 82, 3) := by decide +kernel
theorem dX3_find_34 : decode cX3_find 34 = .ok (.aload 4, 2) := by decide +kernel
theorem dX3_find_36 : decode cX3_find 36 = .ok (.iload 7, 2) := by decide +kernel
theorem dX3_find_38 : decode cX3_find 38 = .ok (.iload_n 3, 1) := by decide +kernel
theorem dX3_find_39 : decode cX3_find 39 = .ok (.invokestatic 85, 3) := by decide +kernel
theorem dX3_find_42 : decode cX3_find 42 = .ok (.iload 7, 2) := by decide +kernel
theorem dX3_find_44 : decode cX3_find 44 = .ok (.ireturn, 1) := by decide +kernel
theorem dX3_requireLimits_0 : decode cX3_requireLimits 0 = .ok (.aload_n 0, 1) := by decide +kernel
theorem dX3_requireLimits_1 : decode cX3_requireLimits 1 = .ok (.getfield 82, 3) := by decide +kernel
theorem dX3_requireLimits_4 : decode cX3_requireLimits 4 = .ok (.bipush 8, 2) := by decide +kernel
theorem dX3_requireLimits_6 : decode cX3_requireLimits 6 = .ok (.if_icmp .le 13, 3) := by decide +kernel
theorem dX3_requireLimits_9 : decode cX3_requireLimits 9 = .ok (.new 89, 3) := by decide +kernel
theorem dX3_requireLimits_12 : decode cX3_requireLimits 12 = .ok (.dup, 1) := by decide +kernel
theorem dX3_requireLimits_13 : decode cX3_requireLimits 13 = .ok (.ldc 91, 2) := by decide +kernel
theorem dX3_requireLimits_15 : decode cX3_requireLimits 15 = .ok (.invokespecial 93, 3) := by decide +kernel
theorem dX3_requireLimits_18 : decode cX3_requireLimits 18 = .ok (.athrow, 1) := by decide +kernel
theorem dX3_requireLimits_19 : decode cX3_requireLimits 19 = .ok (.iload_n 1, 1) := by decide +kernel
theorem dX3_requireLimits_20 : decode cX3_requireLimits 20 = .ok (.iload_n 2, 1) := by decide +kernel
theorem dX3_requireLimits_21 : decode cX3_requireLimits 21 = .ok (.if_icmp .le 13, 3) := by decide +kernel
theorem dX3_requireLimits_24 : decode cX3_requireLimits 24 = .ok (.new 89, 3) := by decide +kernel
theorem dX3_requireLimits_27 : decode cX3_requireLimits 27 = .ok (.dup, 1) := by decide +kernel
theorem dX3_requireLimits_28 : decode cX3_requireLimits 28 = .ok (.ldc 94, 2) := by decide +kernel
theorem dX3_requireLimits_30 : decode cX3_requireLimits 30 = .ok (.invokespecial 93, 3) := by decide +kernel
theorem dX3_requireLimits_33 : decode cX3_requireLimits 33 = .ok (.athrow, 1) := by decide +kernel
theorem dX3_requireLimits_34 : decode cX3_requireLimits 34 = .ok (.return_, 1) := by decide +kernel
theorem dX3_locate_0 : decode cX3_locate 0 = .ok (.aload_n 0, 1) := by decide +kernel
theorem dX3_locate_1 : decode cX3_locate 1 = .ok (.iload_n 1, 1) := by decide +kernel
theorem dX3_locate_2 : decode cX3_locate 2 = .ok (.iload_n 2, 1) := by decide +kernel
theorem dX3_locate_3 : decode cX3_locate 3 = .ok (.invokevirtual 45, 3) := by decide +kernel
theorem dX3_locate_6 : decode cX3_locate 6 = .ok (.lstore 4, 2) := by decide +kernel
theorem dX3_locate_8 : decode cX3_locate 8 = .ok (.lload 4, 2) := by decide +kernel
theorem dX3_locate_10 : decode cX3_locate 10 = .ok (.invokestatic 96, 3) := by decide +kernel
theorem dX3_locate_13 : decode cX3_locate 13 = .ok (.iconst 2, 1) := by decide +kernel
theorem dX3_locate_14 : decode cX3_locate 14 = .ok (.if_icmp .eq 12, 3) := by decide +kernel
theorem dX3_locate_17 : decode cX3_locate 17 = .ok (.lload 4, 2) := by decide +kernel
theorem dX3_locate_19 : decode cX3_locate 19 = .ok (.iload_n 1, 1) := by decide +kernel
theorem dX3_locate_20 : decode cX3_locate 20 = .ok (.iload_n 2, 1) := by decide +kernel
theorem dX3_locate_21 : decode cX3_locate 21 = .ok (.aload_n 3, 1) := by decide +kernel
theorem dX3_locate_22 : decode cX3_locate 22 = .ok (.invokestatic 100, 3) := by decide +kernel
theorem dX3_locate_25 : decode cX3_locate 25 = .ok (.lreturn, 1) := by decide +kernel
theorem dX3_locate_26 : decode cX3_locate 26 = .ok (.lload 4, 2) := by decide +kernel
theorem dX3_locate_28 : decode cX3_locate 28 = .ok (.invokestatic 104, 3) := by decide +kernel
theorem dX3_locate_31 : decode cX3_locate 31 = .ok (.istore 6, 2) := by decide +kernel
theorem dX3_locate_33 : decode cX3_locate 33 = .ok (.lload 4, 2) := by decide +kernel
theorem dX3_locate_35 : decode cX3_locate 35 = .ok (.invokestatic 107, 3) := by decide +kernel
theorem dX3_locate_38 : decode cX3_locate 38 = .ok (.istore 7, 2) := by decide +kernel
theorem dX3_locate_40 : decode cX3_locate 40 = .ok (.lload 4, 2) := by decide +kernel
theorem dX3_locate_42 : decode cX3_locate 42 = .ok (.invokestatic 110, 3) := by decide +kernel
theorem dX3_locate_45 : decode cX3_locate 45 = .ok (.istore 8, 2) := by decide +kernel
theorem dX3_locate_47 : decode cX3_locate 47 = .ok (.aload_n 0, 1) := by decide +kernel
theorem dX3_locate_48 : decode cX3_locate 48 = .ok (.iload 6, 2) := by decide +kernel
theorem dX3_locate_50 : decode cX3_locate 50 = .ok (.iload 7, 2) := by decide +kernel
theorem dX3_locate_52 : decode cX3_locate 52 = .ok (.iload 8, 2) := by decide +kernel
theorem dX3_locate_54 : decode cX3_locate 54 = .ok (.ifCond .eq 7, 3) := by decide +kernel
theorem dX3_locate_57 : decode cX3_locate 57 = .ok (.iconst 2, 1) := by decide +kernel
theorem dX3_locate_58 : decode cX3_locate 58 = .ok (.goto 4, 3) := by decide +kernel
theorem dX3_locate_61 : decode cX3_locate 61 = .ok (.iconst 1, 1) := by decide +kernel
theorem dX3_locate_62 : decode cX3_locate 62 = .ok (.invokevirtual 53, 3) := by decide +kernel
theorem dX3_locate_65 : decode cX3_locate 65 = .ok (.ifCond .ne 13, 3) := by decide +kernel
theorem dX3_locate_68 : decode cX3_locate 68 = .ok (.new 57, 3) := by decide +kernel
theorem dX3_locate_71 : decode cX3_locate 71 = .ok (.dup, 1) := by decide +kernel
theorem dX3_locate_72 : decode cX3_locate 72 = .ok (.ldc 114, 2) := by decide +kernel
theorem dX3_locate_74 : decode cX3_locate 74 = .ok (.invokespecial 61, 3) := by decide +kernel
theorem dX3_locate_77 : decode cX3_locate 77 = .ok (.athrow, 1) := by decide +kernel
theorem dX3_locate_78 : decode cX3_locate 78 = .ok (.aload_n 0, 1) := by decide +kernel
theorem dX3_locate_79 : decode cX3_locate 79 = .ok (.iload 6, 2) := by decide +kernel
theorem dX3_locate_81 : decode cX3_locate 81 = .ok (.iload 7, 2) := by decide +kernel
theorem dX3_locate_83 : decode cX3_locate 83 = .ok (.invokevirtual 45, 3) := by decide +kernel
theorem dX3_locate_86 : decode cX3_locate 86 = .ok (.lstore 9, 2) := by decide +kernel
theorem dX3_locate_88 : decode cX3_locate 88 = .ok (.iload 8, 2) := by decide +kernel
theorem dX3_locate_90 : decode cX3_locate 90 = .ok (.ifCond .ne 14, 3) := by decide +kernel
theorem dX3_locate_93 : decode cX3_locate 93 = .ok (.lload 9, 2) := by decide +kernel
theorem dX3_locate_95 : decode cX3_locate 95 = .ok (.iload 6, 2) := by decide +kernel
theorem dX3_locate_97 : decode cX3_locate 97 = .ok (.iload 7, 2) := by decide +kernel
theorem dX3_locate_99 : decode cX3_locate 99 = .ok (.aload_n 3, 1) := by decide +kernel
theorem dX3_locate_100 : decode cX3_locate 100 = .ok (.invokestatic 100, 3) := by decide +kernel
theorem dX3_locate_103 : decode cX3_locate 103 = .ok (.lreturn, 1) := by decide +kernel
theorem dX3_locate_104 : decode cX3_locate 104 = .ok (.lload 9, 2) := by decide +kernel
theorem dX3_locate_106 : decode cX3_locate 106 = .ok (.aload_n 0, 1) := by decide +kernel
theorem dX3_locate_107 : decode cX3_locate 107 = .ok (.iload 6, 2) := by decide +kernel
theorem dX3_locate_109 : decode cX3_locate 109 = .ok (.iload 7, 2) := by decide +kernel
theorem dX3_locate_111 : decode cX3_locate 111 = .ok (.iconst 1, 1) := by decide +kernel
theorem dX3_locate_112 : decode cX3_locate 112 = .ok (.iadd, 1) := by decide +kernel
theorem dX3_locate_113 : decode cX3_locate 113 = .ok (.invokevirtual 45, 3) := by decide +kernel
theorem dX3_locate_116 : decode cX3_locate 116 = .ok (.aload_n 3, 1) := by decide +kernel
theorem dX3_locate_117 : decode cX3_locate 117 = .ok (.invokestatic 116, 3) := by decide +kernel
theorem dX3_locate_120 : decode cX3_locate 120 = .ok (.lreturn, 1) := by decide +kernel
theorem dX3_locateNear_0 : decode cX3_locateNear 0 = .ok (.lload_n 0, 1) := by decide +kernel
theorem dX3_locateNear_1 : decode cX3_locateNear 1 = .ok (.invokestatic 120, 3) := by decide +kernel
theorem dX3_locateNear_4 : decode cX3_locateNear 4 = .ok (.ifCond .ne 13, 3) := by decide +kernel
theorem dX3_locateNear_7 : decode cX3_locateNear 7 = .ok (.new 77, 3) := by decide +kernel
theorem dX3_locateNear_10 : decode cX3_locateNear 10 = .ok (.dup, 1) := by decide +kernel
theorem dX3_locateNear_11 : decode cX3_locateNear 11 = .ok (.ldc 123, 2) := by decide +kernel
theorem dX3_locateNear_13 : decode cX3_locateNear 13 = .ok (.invokespecial 81, 3) := by decide +kernel
theorem dX3_locateNear_16 : decode cX3_locateNear 16 = .ok (.athrow, 1) := by decide +kernel
theorem dX3_locateNear_17 : decode cX3_locateNear 17 = .ok (.aload 4, 2) := by decide +kernel
theorem dX3_locateNear_19 : decode cX3_locateNear 19 = .ok (.iload_n 2, 1) := by decide +kernel
theorem dX3_locateNear_20 : decode cX3_locateNear 20 = .ok (.putfield 37, 3) := by decide +kernel
theorem dX3_locateNear_23 : decode cX3_locateNear 23 = .ok (.aload 4, 2) := by decide +kernel
theorem dX3_locateNear_25 : decode cX3_locateNear 25 = .ok (.iload_n 3, 1) := by decide +kernel
theorem dX3_locateNear_26 : decode cX3_locateNear 26 = .ok (.iconst 1, 1) := by decide +kernel
theorem dX3_locateNear_27 : decode cX3_locateNear 27 = .ok (.iadd, 1) := by decide +kernel
theorem dX3_locateNear_28 : decode cX3_locateNear 28 = .ok (.lload_n 0, 1) := by decide +kernel
theorem dX3_locateNear_29 : decode cX3_locateNear 29 = .ok (.invokestatic 125, 3) := by decide +kernel
theorem dX3_locateNear_32 : decode cX3_locateNear 32 = .ok (.iadd, 1) := by decide +kernel
theorem dX3_locateNear_33 : decode cX3_locateNear 33 = .ok (.putfield 40, 3) := by decide +kernel
theorem dX3_locateNear_36 : decode cX3_locateNear 36 = .ok (.lload_n 0, 1) := by decide +kernel
theorem dX3_locateNear_37 : decode cX3_locateNear 37 = .ok (.lreturn, 1) := by decide +kernel
theorem dX3_locateFar_0 : decode cX3_locateFar 0 = .ok (.lload_n 0, 1) := by decide +kernel
theorem dX3_locateFar_1 : decode cX3_locateFar 1 = .ok (.invokestatic 96, 3) := by decide +kernel
theorem dX3_locateFar_4 : decode cX3_locateFar 4 = .ok (.iconst 2, 1) := by decide +kernel
theorem dX3_locateFar_5 : decode cX3_locateFar 5 = .ok (.if_icmp .ne 17, 3) := by decide +kernel
theorem dX3_locateFar_8 : decode cX3_locateFar 8 = .ok (.lload_n 0, 1) := by decide +kernel
theorem dX3_locateFar_9 : decode cX3_locateFar 9 = .ok (.invokestatic 110, 3) := by decide +kernel
theorem dX3_locateFar_12 : decode cX3_locateFar 12 = .ok (.ifCond .ne 10, 3) := by decide +kernel
theorem dX3_locateFar_15 : decode cX3_locateFar 15 = .ok (.lload_n 2, 1) := by decide +kernel
theorem dX3_locateFar_16 : decode cX3_locateFar 16 = .ok (.invokestatic 120, 3) := by decide +kernel
theorem dX3_locateFar_19 : decode cX3_locateFar 19 = .ok (.ifCond .ne 13, 3) := by decide +kernel
theorem dX3_locateFar_22 : decode cX3_locateFar 22 = .ok (.new 77, 3) := by decide +kernel
theorem dX3_locateFar_25 : decode cX3_locateFar 25 = .ok (.dup, 1) := by decide +kernel
theorem dX3_locateFar_26 : decode cX3_locateFar 26 = .ok (.ldc 128, 2) := by decide +kernel
theorem dX3_locateFar_28 : decode cX3_locateFar 28 = .ok (.invokespecial 81, 3) := by decide +kernel
theorem dX3_locateFar_31 : decode cX3_locateFar 31 = .ok (.athrow, 1) := by decide +kernel
theorem dX3_locateFar_32 : decode cX3_locateFar 32 = .ok (.aload 4, 2) := by decide +kernel
theorem dX3_locateFar_34 : decode cX3_locateFar 34 = .ok (.lload_n 0, 1) := by decide +kernel
theorem dX3_locateFar_35 : decode cX3_locateFar 35 = .ok (.invokestatic 104, 3) := by decide +kernel
theorem dX3_locateFar_38 : decode cX3_locateFar 38 = .ok (.putfield 37, 3) := by decide +kernel
theorem dX3_locateFar_41 : decode cX3_locateFar 41 = .ok (.aload 4, 2) := by decide +kernel
theorem dX3_locateFar_43 : decode cX3_locateFar 43 = .ok (.lload_n 0, 1) := by decide +kernel
theorem dX3_locateFar_44 : decode cX3_locateFar 44 = .ok (.invokestatic 107, 3) := by decide +kernel
theorem dX3_locateFar_47 : decode cX3_locateFar 47 = .ok (.putfield 40, 3) := by decide +kernel
theorem dX3_locateFar_50 : decode cX3_locateFar 50 = .ok (.lload_n 2, 1) := by decide +kernel
theorem dX3_locateFar_51 : decode cX3_locateFar 51 = .ok (.lreturn, 1) := by decide +kernel
theorem dX3_measure_0 : decode cX3_measure 0 = .ok (.lload_n 1, 1) := by decide +kernel
theorem dX3_measure_1 : decode cX3_measure 1 = .ok (.invokestatic 96, 3) := by decide +kernel
theorem dX3_measure_4 : decode cX3_measure 4 = .ok (.ifCond .ne 10, 3) := by decide +kernel
theorem dX3_measure_7 : decode cX3_measure 7 = .ok (.aload_n 0, 1) := by decide +kernel
theorem dX3_measure_8 : decode cX3_measure 8 = .ok (.lload_n 1, 1) := by decide +kernel
theorem dX3_measure_9 : decode cX3_measure 9 = .ok (.aload_n 3, 1) := by decide +kernel
theorem dX3_measure_10 : decode cX3_measure 10 = .ok (.invokevirtual 130, 3) := by decide +kernel
theorem dX3_measure_13 : decode cX3_measure 13 = .ok (.ireturn, 1) := by decide +kernel
theorem dX3_measure_14 : decode cX3_measure 14 = .ok (.aload_n 3, 1) := by decide +kernel
theorem dX3_measure_15 : decode cX3_measure 15 = .ok (.iconst 1, 1) := by decide +kernel
theorem dX3_measure_16 : decode cX3_measure 16 = .ok (.lload_n 1, 1) := by decide +kernel
theorem dX3_measure_17 : decode cX3_measure 17 = .ok (.invokestatic 133, 3) := by decide +kernel
theorem dX3_measure_20 : decode cX3_measure 20 = .ok (.iadd, 1) := by decide +kernel
theorem dX3_measure_21 : decode cX3_measure 21 = .ok (.putfield 26, 3) := by decide +kernel
theorem dX3_measure_24 : decode cX3_measure 24 = .ok (.aload_n 3, 1) := by decide +kernel
theorem dX3_measure_25 : decode cX3_measure 25 = .ok (.getfield 26, 3) := by decide +kernel
theorem dX3_measure_28 : decode cX3_measure 28 = .ok (.bipush 8, 2) := by decide +kernel
theorem dX3_measure_30 : decode cX3_measure 30 = .ok (.if_icmp .ne 13, 3) := by decide +kernel
theorem dX3_measure_33 : decode cX3_measure 33 = .ok (.aload_n 0, 1) := by decide +kernel
theorem dX3_measure_34 : decode cX3_measure 34 = .ok (.lload_n 1, 1) := by decide +kernel
theorem dX3_measure_35 : decode cX3_measure 35 = .ok (.invokestatic 136, 3) := by decide +kernel
theorem dX3_measure_38 : decode cX3_measure 38 = .ok (.aload_n 3, 1) := by decide +kernel
theorem dX3_measure_39 : decode cX3_measure 39 = .ok (.invokevirtual 139, 3) := by decide +kernel
theorem dX3_measure_42 : decode cX3_measure 42 = .ok (.ireturn, 1) := by decide +kernel
theorem dX3_measure_43 : decode cX3_measure 43 = .ok (.aload_n 0, 1) := by decide +kernel
theorem dX3_measure_44 : decode cX3_measure 44 = .ok (.lload_n 1, 1) := by decide +kernel
theorem dX3_measure_45 : decode cX3_measure 45 = .ok (.invokestatic 136, 3) := by decide +kernel
theorem dX3_measure_48 : decode cX3_measure 48 = .ok (.aload_n 3, 1) := by decide +kernel
theorem dX3_measure_49 : decode cX3_measure 49 = .ok (.invokevirtual 143, 3) := by decide +kernel
theorem dX3_measure_52 : decode cX3_measure 52 = .ok (.ireturn, 1) := by decide +kernel
theorem dX3_measureStruct_0 : decode cX3_measureStruct 0 = .ok (.aload_n 3, 1) := by decide +kernel
theorem dX3_measureStruct_1 : decode cX3_measureStruct 1 = .ok (.iconst 0, 1) := by decide +kernel
theorem dX3_measureStruct_2 : decode cX3_measureStruct 2 = .ok (.putfield 26, 3) := by decide +kernel
theorem dX3_measureStruct_5 : decode cX3_measureStruct 5 = .ok (.aload_n 3, 1) := by decide +kernel
theorem dX3_measureStruct_6 : decode cX3_measureStruct 6 = .ok (.lload_n 1, 1) := by decide +kernel
theorem dX3_measureStruct_7 : decode cX3_measureStruct 7 = .ok (.invokestatic 146, 3) := by decide +kernel
theorem dX3_measureStruct_10 : decode cX3_measureStruct 10 = .ok (.putfield 149, 3) := by decide +kernel
theorem dX3_measureStruct_13 : decode cX3_measureStruct 13 = .ok (.aload_n 3, 1) := by decide +kernel
theorem dX3_measureStruct_14 : decode cX3_measureStruct 14 = .ok (.lload_n 1, 1) := by decide +kernel
theorem dX3_measureStruct_15 : decode cX3_measureStruct 15 = .ok (.invokestatic 152, 3) := by decide +kernel
theorem dX3_measureStruct_18 : decode cX3_measureStruct 18 = .ok (.putfield 155, 3) := by decide +kernel
theorem dX3_measureStruct_21 : decode cX3_measureStruct 21 = .ok (.aload_n 3, 1) := by decide +kernel
theorem dX3_measureStruct_22 : decode cX3_measureStruct 22 = .ok (.iconst 0, 1) := by decide +kernel
theorem dX3_measureStruct_23 : decode cX3_measureStruct 23 = .ok (.putfield 157, 3) := by decide +kernel
theorem dX3_measureStruct_26 : decode cX3_measureStruct 26 = .ok (.aload_n 3, 1) := by decide +kernel
theorem dX3_measureStruct_27 : decode cX3_measureStruct 27 = .ok (.getfield 149, 3) := by decide +kernel
theorem dX3_measureStruct_30 : decode cX3_measureStruct 30 = .ok (.aload_n 3, 1) := by decide +kernel
theorem dX3_measureStruct_31 : decode cX3_measureStruct 31 = .ok (.getfield 155, 3) := by decide +kernel
theorem dX3_measureStruct_34 : decode cX3_measureStruct 34 = .ok (.iadd, 1) := by decide +kernel
theorem dX3_measureStruct_35 : decode cX3_measureStruct 35 = .ok (.istore 4, 2) := by decide +kernel
theorem dX3_measureStruct_37 : decode cX3_measureStruct 37 = .ok (.aload_n 0, 1) := by decide +kernel
theorem dX3_measureStruct_38 : decode cX3_measureStruct 38 = .ok (.aload_n 3, 1) := by decide +kernel
theorem dX3_measureStruct_39 : decode cX3_measureStruct 39 = .ok (.getfield 37, 3) := by decide +kernel
theorem dX3_measureStruct_42 : decode cX3_measureStruct 42 = .ok (.aload_n 3, 1) := by decide +kernel
theorem dX3_measureStruct_43 : decode cX3_measureStruct 43 = .ok (.getfield 40, 3) := by decide +kernel
theorem dX3_measureStruct_46 : decode cX3_measureStruct 46 = .ok (.iload 4, 2) := by decide +kernel
theorem dX3_measureStruct_48 : decode cX3_measureStruct 48 = .ok (.invokevirtual 53, 3) := by decide +kernel
theorem dX3_measureStruct_51 : decode cX3_measureStruct 51 = .ok (.ifCond .ne 13, 3) := by decide +kernel
theorem dX3_measureStruct_54 : decode cX3_measureStruct 54 = .ok (.new 57, 3) := by decide +kernel
theorem dX3_measureStruct_57 : decode cX3_measureStruct 57 = .ok (.dup, 1) := by decide +kernel
theorem dX3_measureStruct_58 : decode cX3_measureStruct 58 = .ok (.ldc 160, 2) := by decide +kernel
theorem dX3_measureStruct_60 : decode cX3_measureStruct 60 = .ok (.invokespecial 61, 3) := by decide +kernel
theorem dX3_measureStruct_63 : decode cX3_measureStruct 63 = .ok (.athrow, 1) := by decide +kernel
theorem dX3_measureStruct_64 : decode cX3_measureStruct 64 = .ok (.iload 4, 2) := by decide +kernel
theorem dX3_measureStruct_66 : decode cX3_measureStruct 66 = .ok (.iconst 1, 1) := by decide +kernel
theorem dX3_measureStruct_67 : decode cX3_measureStruct 67 = .ok (.invokestatic 162, 3) := by decide +kernel
theorem dX3_measureStruct_70 : decode cX3_measureStruct 70 = .ok (.ireturn, 1) := by decide +kernel
theorem dX3_measurePlainList_0 : decode cX3_measurePlainList 0 = .ok (.aload_n 2, 1) := by decide +kernel
theorem dX3_measurePlainList_1 : decode cX3_measurePlainList 1 = .ok (.iload_n 1, 1) := by decide +kernel
theorem dX3_measurePlainList_2 : decode cX3_measurePlainList 2 = .ok (.putfield 149, 3) := by decide +kernel
theorem dX3_measurePlainList_5 : decode cX3_measurePlainList 5 = .ok (.aload_n 2, 1) := by decide +kernel
theorem dX3_measurePlainList_6 : decode cX3_measurePlainList 6 = .ok (.iconst 0, 1) := by decide +kernel
theorem dX3_measurePlainList_7 : decode cX3_measurePlainList 7 = .ok (.putfield 155, 3) := by decide +kernel
theorem dX3_measurePlainList_10 : decode cX3_measurePlainList 10 = .ok (.aload_n 2, 1) := by decide +kernel
theorem dX3_measurePlainList_11 : decode cX3_measurePlainList 11 = .ok (.iconst 0, 1) := by decide +kernel
theorem dX3_measurePlainList_12 : decode cX3_measurePlainList 12 = .ok (.putfield 157, 3) := by decide +kernel
theorem dX3_measurePlainList_15 : decode cX3_measurePlainList 15 = .ok (.aload_n 2, 1) := by decide +kernel
theorem dX3_measurePlainList_16 : decode cX3_measurePlainList 16 = .ok (.getfield 26, 3) := by decide +kernel
theorem dX3_measurePlainList_19 : decode cX3_measurePlainList 19 = .ok (.iconst 1, 1) := by decide +kernel
theorem dX3_measurePlainList_20 : decode cX3_measurePlainList 20 = .ok (.isub, 1) := by decide +kernel
theorem dX3_measurePlainList_21 : decode cX3_measurePlainList 21 = .ok (.invokestatic 31, 3) := by decide +kernel
theorem dX3_measurePlainList_24 : decode cX3_measurePlainList 24 = .ok (.istore_n 3, 1) := by decide +kernel
theorem dX3_measurePlainList_25 : decode cX3_measurePlainList 25 = .ok (.iload_n 1, 1) := by decide +kernel
theorem dX3_measurePlainList_26 : decode cX3_measurePlainList 26 = .ok (.iload_n 3, 1) := by decide +kernel
theorem dX3_measurePlainList_27 : decode cX3_measurePlainList 27 = .ok (.invokestatic 168, 3) := by decide +kernel
theorem dX3_measurePlainList_30 : decode cX3_measurePlainList 30 = .ok (.istore 4, 2) := by decide +kernel
theorem dX3_measurePlainList_32 : decode cX3_measurePlainList 32 = .ok (.aload_n 0, 1) := by decide +kernel
theorem dX3_measurePlainList_33 : decode cX3_measurePlainList 33 = .ok (.aload_n 2, 1) := by decide +kernel
theorem dX3_measurePlainList_34 : decode cX3_measurePlainList 34 = .ok (.getfield 37, 3) := by decide +kernel
theorem dX3_measurePlainList_37 : decode cX3_measurePlainList 37 = .ok (.aload_n 2, 1) := by decide +kernel
theorem dX3_measurePlainList_38 : decode cX3_measurePlainList 38 = .ok (.getfield 40, 3) := by decide +kernel
theorem dX3_measurePlainList_41 : decode cX3_measurePlainList 41 = .ok (.iload 4, 2) := by decide +kernel
theorem dX3_measurePlainList_43 : decode cX3_measurePlainList 43 = .ok (.invokevirtual 53, 3) := by decide +kernel
theorem dX3_measurePlainList_46 : decode cX3_measurePlainList 46 = .ok (.ifCond .ne 13, 3) := by decide +kernel
theorem dX3_measurePlainList_49 : decode cX3_measurePlainList 49 = .ok (.new 57, 3) := by decide +kernel
theorem dX3_measurePlainList_52 : decode cX3_measurePlainList 52 = .ok (.dup, 1) := by decide +kernel
theorem dX3_measurePlainList_53 : decode cX3_measurePlainList 53 = .ok (.ldc 171, 2) := by decide +kernel
theorem dX3_measurePlainList_55 : decode cX3_measurePlainList 55 = .ok (.invokespecial 61, 3) := by decide +kernel
theorem dX3_measurePlainList_58 : decode cX3_measurePlainList 58 = .ok (.athrow, 1) := by decide +kernel
theorem dX3_measurePlainList_59 : decode cX3_measurePlainList 59 = .ok (.iload_n 3, 1) := by decide +kernel
theorem dX3_measurePlainList_60 : decode cX3_measurePlainList 60 = .ok (.ifCond .ne 7, 3) := by decide +kernel
theorem dX3_measurePlainList_63 : decode cX3_measurePlainList 63 = .ok (.iload_n 1, 1) := by decide +kernel
theorem dX3_measurePlainList_64 : decode cX3_measurePlainList 64 = .ok (.goto 5, 3) := by decide +kernel
theorem dX3_measurePlainList_67 : decode cX3_measurePlainList 67 = .ok (.iload 4, 2) := by decide +kernel
theorem dX3_measurePlainList_69 : decode cX3_measurePlainList 69 = .ok (.iconst 1, 1) := by decide +kernel
theorem dX3_measurePlainList_70 : decode cX3_measurePlainList 70 = .ok (.invokestatic 162, 3) := by decide +kernel
theorem dX3_measurePlainList_73 : decode cX3_measurePlainList 73 = .ok (.ireturn, 1) := by decide +kernel
theorem dX3_measureStructList_0 : decode cX3_measureStructList 0 = .ok (.aload_n 0, 1) := by decide +kernel
theorem dX3_measureStructList_1 : decode cX3_measureStructList 1 = .ok (.aload_n 2, 1) := by decide +kernel
theorem dX3_measureStructList_2 : decode cX3_measureStructList 2 = .ok (.getfield 37, 3) := by decide +kernel
theorem dX3_measureStructList_5 : decode cX3_measureStructList 5 = .ok (.aload_n 2, 1) := by decide +kernel
theorem dX3_measureStructList_6 : decode cX3_measureStructList 6 = .ok (.getfield 40, 3) := by decide +kernel
theorem dX3_measureStructList_9 : decode cX3_measureStructList 9 = .ok (.iload_n 1, 1) := by decide +kernel
theorem dX3_measureStructList_10 : decode cX3_measureStructList 10 = .ok (.iconst 1, 1) := by decide +kernel
theorem dX3_measureStructList_11 : decode cX3_measureStructList 11 = .ok (.iadd, 1) := by decide +kernel
theorem dX3_measureStructList_12 : decode cX3_measureStructList 12 = .ok (.invokevirtual 53, 3) := by decide +kernel
theorem dX3_measureStructList_15 : decode cX3_measureStructList 15 = .ok (.ifCond .ne 13, 3) := by decide +kernel
theorem dX3_measureStructList_18 : decode cX3_measureStructList 18 = .ok (.new 57, 3) := by decide +kernel
theorem dX3_measureStructList_21 : decode cX3_measureStructList 21 = .ok (.dup, 1) := by decide +kernel
theorem dX3_measureStructList_22 : decode cX3_measureStructList 22 = .ok (.ldc 171, 2) := by decide +kernel
theorem dX3_measureStructList_24 : decode cX3_measureStructList 24 = .ok (.invokespecial 61, 3) := by decide +kernel
theorem dX3_measureStructList_27 : decode cX3_measureStructList 27 = .ok (.athrow, 1) := by decide +kernel
theorem dX3_measureStructList_28 : decode cX3_measureStructList 28 = .ok (.aload_n 0, 1) := by decide +kernel
theorem dX3_measureStructList_29 : decode cX3_measureStructList 29 = .ok (.aload_n 2, 1) := by decide +kernel
theorem dX3_measureStructList_30 : decode cX3_measureStructList 30 = .ok (.getfield 37, 3) := by decide +kernel
theorem dX3_measureStructList_33 : decode cX3_measureStructList 33 = .ok (.aload_n 2, 1) := by decide +kernel
theorem dX3_measureStructList_34 : decode cX3_measureStructList 34 = .ok (.getfield 40, 3) := by decide +kernel
theorem dX3_measureStructList_37 : decode cX3_measureStructList 37 = .ok (.invokevirtual 45, 3) := by decide +kernel
theorem dX3_measureStructList_40 : decode cX3_measureStructList 40 = .ok (.lstore_n 3, 1) := by decide +kernel
theorem dX3_measureStructList_41 : decode cX3_measureStructList 41 = .ok (.lload_n 3, 1) := by decide +kernel
theorem dX3_measureStructList_42 : decode cX3_measureStructList 42 = .ok (.invokestatic 96, 3) := by decide +kernel
theorem dX3_measureStructList_45 : decode cX3_measureStructList 45 = .ok (.ifCond .eq 13, 3) := by decide +kernel
theorem dX3_measureStructList_48 : decode cX3_measureStructList 48 = .ok (.new 77, 3) := by decide +kernel
theorem dX3_measureStructList_51 : decode cX3_measureStructList 51 = .ok (.dup, 1) := by decide +kernel
theorem dX3_measureStructList_52 : decode cX3_measureStructList 52 = .ok (.ldc 173, 2) := by decide +kernel
theorem dX3_measureStructList_54 : decode cX3_measureStructList 54 = .ok (.invokespecial 81, 3) := by decide +kernel
theorem dX3_measureStructList_57 : decode cX3_measureStructList 57 = .ok (.athrow, 1) := by decide +kernel
theorem dX3_measureStructList_58 : decode cX3_measureStructList 58 = .ok (.aload_n 2, 1) := by decide +kernel
theorem dX3_measureStructList_59 : decode cX3_measureStructList 59 = .ok (.dup, 1) := by decide +kernel
theorem dX3_measureStructList_60 : decode cX3_measureStructList 60 = .ok (.getfield 40, 3) := by decide +kernel
theorem dX3_measureStructList_63 : decode cX3_measureStructList 63 = .ok (.iconst 1, 1) := by decide +kernel
theorem dX3_measureStructList_64 : decode cX3_measureStructList 64 = .ok (.iadd, 1) := by decide +kernel
theorem dX3_measureStructList_65 : decode cX3_measureStructList 65 = .ok (.putfield 40, 3) := by decide +kernel
theorem dX3_measureStructList_68 : decode cX3_measureStructList 68 = .ok (.aload_n 2, 1) := by decide +kernel
theorem dX3_measureStructList_69 : decode cX3_measureStructList 69 = .ok (.lload_n 3, 1) := by decide +kernel
theorem dX3_measureStructList_70 : decode cX3_measureStructList 70 = .ok (.invokestatic 175, 3) := by decide +kernel
theorem dX3_measureStructList_73 : decode cX3_measureStructList 73 = .ok (.putfield 149, 3) := by decide +kernel
theorem dX3_measureStructList_76 : decode cX3_measureStructList 76 = .ok (.aload_n 2, 1) := by decide +kernel
theorem dX3_measureStructList_77 : decode cX3_measureStructList 77 = .ok (.lload_n 3, 1) := by decide +kernel
theorem dX3_measureStructList_78 : decode cX3_measureStructList 78 = .ok (.invokestatic 146, 3) := by decide +kernel
theorem dX3_measureStructList_81 : decode cX3_measureStructList 81 = .ok (.putfield 157, 3) := by decide +kernel
theorem dX3_measureStructList_84 : decode cX3_measureStructList 84 = .ok (.aload_n 2, 1) := by decide +kernel
theorem dX3_measureStructList_85 : decode cX3_measureStructList 85 = .ok (.lload_n 3, 1) := by decide +kernel
theorem dX3_measureStructList_86 : decode cX3_measureStructList 86 = .ok (.invokestatic 152, 3) := by decide +kernel
theorem dX3_measureStructList_89 : decode cX3_measureStructList 89 = .ok (.putfield 155, 3) := by decide +kernel
theorem dX3_measureStructList_92 : decode cX3_measureStructList 92 = .ok (.aload_n 2, 1) := by decide +kernel
theorem dX3_measureStructList_93 : decode cX3_measureStructList 93 = .ok (.getfield 149, 3) := by decide +kernel
theorem dX3_measureStructList_96 : decode cX3_measureStructList 96 = .ok (.i2l, 1) := by decide +kernel
theorem dX3_measureStructList_97 : decode cX3_measureStructList 97 = .ok (.aload_n 2, 1) := by decide +kernel
theorem dX3_measureStructList_98 : decode cX3_measureStructList 98 = .ok (.getfield 157, 3) := by decide +kernel
theorem dX3_measureStructList_101 : decode cX3_measureStructList 101 = .ok (.aload_n 2, 1) := by decide +kernel
theorem dX3_measureStructList_102 : decode cX3_measureStructList 102 = .ok (.getfield 155, 3) := by decide +kernel
theorem dX3_measureStructList_105 : decode cX3_measureStructList 105 = .ok (.iadd, 1) := by decide +kernel
theorem dX3_measureStructList_106 : decode cX3_measureStructList 106 = .ok (.i2l, 1) := by decide +kernel
theorem dX3_measureStructList_107 : decode cX3_measureStructList 107 = .ok (.lmul, 1) := by decide +kernel
theorem dX3_measureStructList_108 : decode cX3_measureStructList 108 = .ok (.iload_n 1, 1) := by decide +kernel
theorem dX3_measureStructList_109 : decode cX3_measureStructList 109 = .ok (.i2l, 1) := by decide +kernel
theorem dX3_measureStructList_110 : decode cX3_measureStructList 110 = .ok (.lcmp, 1) := by decide +kernel
theorem dX3_measureStructList_111 : decode cX3_measureStructList 111 = .ok (.ifCond .le 13, 3) := by decide +kernel
theorem dX3_measureStructList_114 : decode cX3_measureStructList 114 = .ok (.new 77, 3) := by decide +kernel
theorem dX3_measureStructList_117 : decode cX3_measureStructList 117 = .ok (.dup, 1) := by decide +kernel
theorem dX3_measureStructList_118 : decode cX3_measureStructList 118 = .ok (.ldc 178, 2) := by decide +kernel
theorem dX3_measureStructList_120 : decode cX3_measureStructList 120 = .ok (.invokespecial 81, 3) := by decide +kernel
theorem dX3_measureStructList_123 : decode cX3_measureStructList 123 = .ok (.athrow, 1) := by decide +kernel
theorem dX3_measureStructList_124 : decode cX3_measureStructList 124 = .ok (.iload_n 1, 1) := by decide +kernel
theorem dX3_measureStructList_125 : decode cX3_measureStructList 125 = .ok (.aload_n 2, 1) := by decide +kernel
theorem dX3_measureStructList_126 : decode cX3_measureStructList 126 = .ok (.getfield 149, 3) := by decide +kernel
theorem dX3_measureStructList_129 : decode cX3_measureStructList 129 = .ok (.invokestatic 162, 3) := by decide +kernel
theorem dX3_measureStructList_132 : decode cX3_measureStructList 132 = .ok (.iconst 1, 1) := by decide +kernel
theorem dX3_measureStructList_133 : decode cX3_measureStructList 133 = .ok (.iadd, 1) := by decide +kernel
theorem dX3_measureStructList_134 : decode cX3_measureStructList 134 = .ok (.ireturn, 1) := by decide +kernel
theorem dX4_init_0 : decode cX4_init 0 = .ok (.aload_n 0, 1) := by decide +kernel
theorem dX4_init_1 : decode cX4_init 1 = .ok (.invokespecial 3, 3) := by decide +kernel
theorem dX4_init_4 : decode cX4_init 4 = .ok (.aload_n 0, 1) := by decide +kernel
theorem dX4_init_5 : decode cX4_init 5 = .ok (.bipush 64, 2) := by decide +kernel
theorem dX4_init_7 : decode cX4_init 7 = .ok (.newarray .long, 2) := by decide +kernel
theorem dX4_init_9 : decode cX4_init 9 = .ok (.putfield 9, 3) := by decide +kernel
theorem dX4_init_12 : decode cX4_init 12 = .ok (.aload_n 0, 1) := by decide +kernel
theorem dX4_init_13 : decode cX4_init 13 = .ok (.iconst 0, 1) := by decide +kernel
theorem dX4_init_14 : decode cX4_init 14 = .ok (.putfield 15, 3) := by decide +kernel
theorem dX4_init_17 : decode cX4_init 17 = .ok (.return_, 1) := by decide +kernel
theorem dX4_at_0 : decode cX4_at 0 = .ok (.iload_n 1, 1) := by decide +kernel
theorem dX4_at_1 : decode cX4_at 1 = .ok (.ifCond .lt 20, 3) := by decide +kernel
theorem dX4_at_4 : decode cX4_at 4 = .ok (.iload_n 1, 1) := by decide +kernel
theorem dX4_at_5 : decode cX4_at 5 = .ok (.aload_n 0, 1) := by decide +kernel
theorem dX4_at_6 : decode cX4_at 6 = .ok (.getfield 15, 3) := by decide +kernel
theorem dX4_at_9 : decode cX4_at 9 = .ok (.if_icmp .ge 12, 3) := by decide +kernel
theorem dX4_at_12 : decode cX4_at 12 = .ok (.aload_n 0, 1) := by decide +kernel
theorem dX4_at_13 : decode cX4_at 13 = .ok (.getfield 9, 3) := by decide +kernel
theorem dX4_at_16 : decode cX4_at 16 = .ok (.iload_n 1, 1) := by decide +kernel
theorem dX4_at_17 : decode cX4_at 17 = .ok (.laload, 1) := by decide +kernel
theorem dX4_at_18 : decode cX4_at 18 = .ok (.goto 4, 3) := by decide +kernel
theorem dX4_at_21 : decode cX4_at 21 = .ok (.lconst 0, 1) := by decide +kernel
theorem dX4_at_22 : decode cX4_at 22 = .ok (.lreturn, 1) := by decide +kernel
theorem dX4_put_0 : decode cX4_put 0 = .ok (.iload_n 1, 1) := by decide +kernel
theorem dX4_put_1 : decode cX4_put 1 = .ok (.ifCond .lt 18, 3) := by decide +kernel
theorem dX4_put_4 : decode cX4_put 4 = .ok (.iload_n 1, 1) := by decide +kernel
theorem dX4_put_5 : decode cX4_put 5 = .ok (.aload_n 0, 1) := by decide +kernel
theorem dX4_put_6 : decode cX4_put 6 = .ok (.getfield 15, 3) := by decide +kernel
theorem dX4_put_9 : decode cX4_put 9 = .ok (.if_icmp .ge 10, 3) := by decide +kernel
theorem dX4_put_12 : decode cX4_put 12 = .ok (.aload_n 0, 1) := by decide +kernel
theorem dX4_put_13 : decode cX4_put 13 = .ok (.getfield 9, 3) := by decide +kernel
theorem dX4_put_16 : decode cX4_put 16 = .ok (.iload_n 1, 1) := by decide +kernel
theorem dX4_put_17 : decode cX4_put 17 = .ok (.lload_n 2, 1) := by decide +kernel
theorem dX4_put_18 : decode cX4_put 18 = .ok (.lastore, 1) := by decide +kernel
theorem dX4_put_19 : decode cX4_put 19 = .ok (.return_, 1) := by decide +kernel
theorem dX4_append_0 : decode cX4_append 0 = .ok (.aload_n 0, 1) := by decide +kernel
theorem dX4_append_1 : decode cX4_append 1 = .ok (.getfield 15, 3) := by decide +kernel
theorem dX4_append_4 : decode cX4_append 4 = .ok (.bipush 64, 2) := by decide +kernel
theorem dX4_append_6 : decode cX4_append 6 = .ok (.if_icmp .lt 5, 3) := by decide +kernel
theorem dX4_append_9 : decode cX4_append 9 = .ok (.iconst 0, 1) := by decide +kernel
theorem dX4_append_10 : decode cX4_append 10 = .ok (.ireturn, 1) := by decide +kernel
theorem dX4_append_11 : decode cX4_append 11 = .ok (.aload_n 0, 1) := by decide +kernel
theorem dX4_append_12 : decode cX4_append 12 = .ok (.getfield 9, 3) := by decide +kernel
theorem dX4_append_15 : decode cX4_append 15 = .ok (.aload_n 0, 1) := by decide +kernel
theorem dX4_append_16 : decode cX4_append 16 = .ok (.getfield 15, 3) := by decide +kernel
theorem dX4_append_19 : decode cX4_append 19 = .ok (.lload_n 1, 1) := by decide +kernel
theorem dX4_append_20 : decode cX4_append 20 = .ok (.lastore, 1) := by decide +kernel
theorem dX4_append_21 : decode cX4_append 21 = .ok (.aload_n 0, 1) := by decide +kernel
theorem dX4_append_22 : decode cX4_append 22 = .ok (.dup, 1) := by decide +kernel
theorem dX4_append_23 : decode cX4_append 23 = .ok (.getfield 15, 3) := by decide +kernel
theorem dX4_append_26 : decode cX4_append 26 = .ok (.iconst 1, 1) := by decide +kernel
theorem dX4_append_27 : decode cX4_append 27 = .ok (.iadd, 1) := by decide +kernel
theorem dX4_append_28 : decode cX4_append 28 = .ok (.putfield 15, 3) := by decide +kernel
theorem dX4_append_31 : decode cX4_append 31 = .ok (.iconst 1, 1) := by decide +kernel
theorem dX4_append_32 : decode cX4_append 32 = .ok (.ireturn, 1) := by decide +kernel
theorem dX4_become_0 : decode cX4_become 0 = .ok (.aload_n 1, 1) := by decide +kernel
theorem dX4_become_1 : decode cX4_become 1 = .ok (.getfield 9, 3) := by decide +kernel
theorem dX4_become_4 : decode cX4_become 4 = .ok (.iconst 0, 1) := by decide +kernel
theorem dX4_become_5 : decode cX4_become 5 = .ok (.aload_n 0, 1) := by decide +kernel
theorem dX4_become_6 : decode cX4_become 6 = .ok (.getfield 9, 3) := by decide +kernel
theorem dX4_become_9 : decode cX4_become 9 = .ok (.iconst 0, 1) := by decide +kernel
theorem dX4_become_10 : decode cX4_become 10 = .ok (.aload_n 1, 1) := by decide +kernel
theorem dX4_become_11 : decode cX4_become 11 = .ok (.getfield 15, 3) := by decide +kernel
theorem dX4_become_14 : decode cX4_become 14 = .ok (.invokestatic 19, 3) := by decide +kernel
theorem dX4_become_17 : decode cX4_become 17 = .ok (.aload_n 0, 1) := by decide +kernel
theorem dX4_become_18 : decode cX4_become 18 = .ok (.aload_n 1, 1) := by decide +kernel
theorem dX4_become_19 : decode cX4_become 19 = .ok (.getfield 15, 3) := by decide +kernel
theorem dX4_become_22 : decode cX4_become 22 = .ok (.putfield 15, 3) := by decide +kernel
theorem dX4_become_25 : decode cX4_become 25 = .ok (.return_, 1) := by decide +kernel
theorem dX4_hasSameWords_0 : decode cX4_hasSameWords 0 = .ok (.aload_n 0, 1) := by decide +kernel
theorem dX4_hasSameWords_1 : decode cX4_hasSameWords 1 = .ok (.getfield 15, 3) := by decide +kernel
theorem dX4_hasSameWords_4 : decode cX4_hasSameWords 4 = .ok (.aload_n 1, 1) := by decide +kernel
theorem dX4_hasSameWords_5 : decode cX4_hasSameWords 5 = .ok (.getfield 15, 3) := by decide +kernel
theorem dX4_hasSameWords_8 : decode cX4_hasSameWords 8 = .ok (.if_icmp .eq 5, 3) := by decide +kernel
theorem dX4_hasSameWords_11 : decode cX4_hasSameWords 11 = .ok (.iconst 0, 1) := by decide +kernel
theorem dX4_hasSameWords_12 : decode cX4_hasSameWords 12 = .ok (.ireturn, 1) := by decide +kernel
theorem dX4_hasSameWords_13 : decode cX4_hasSameWords 13 = .ok (.iconst 0, 1) := by decide +kernel
theorem dX4_hasSameWords_14 : decode cX4_hasSameWords 14 = .ok (.istore_n 2, 1) := by decide +kernel
theorem dX4_hasSameWords_15 : decode cX4_hasSameWords 15 = .ok (.iload_n 2, 1) := by decide +kernel
theorem dX4_hasSameWords_16 : decode cX4_hasSameWords 16 = .ok (.aload_n 0, 1) := by decide +kernel
theorem dX4_hasSameWords_17 : decode cX4_hasSameWords 17 = .ok (.getfield 15, 3) := by decide +kernel
theorem dX4_hasSameWords_20 : decode cX4_hasSameWords 20 = .ok (.if_icmp .ge 27, 3) := by decide +kernel
theorem dX4_hasSameWords_23 : decode cX4_hasSameWords 23 = .ok (.aload_n 0, 1) := by decide +kernel
theorem dX4_hasSameWords_24 : decode cX4_hasSameWords 24 = .ok (.getfield 9, 3) := by decide +kernel
theorem dX4_hasSameWords_27 : decode cX4_hasSameWords 27 = .ok (.iload_n 2, 1) := by decide +kernel
theorem dX4_hasSameWords_28 : decode cX4_hasSameWords 28 = .ok (.laload, 1) := by decide +kernel
theorem dX4_hasSameWords_29 : decode cX4_hasSameWords 29 = .ok (.aload_n 1, 1) := by decide +kernel
theorem dX4_hasSameWords_30 : decode cX4_hasSameWords 30 = .ok (.getfield 9, 3) := by decide +kernel
theorem dX4_hasSameWords_33 : decode cX4_hasSameWords 33 = .ok (.iload_n 2, 1) := by decide +kernel
theorem dX4_hasSameWords_34 : decode cX4_hasSameWords 34 = .ok (.laload, 1) := by decide +kernel
theorem dX4_hasSameWords_35 : decode cX4_hasSameWords 35 = .ok (.lcmp, 1) := by decide +kernel
theorem dX4_hasSameWords_36 : decode cX4_hasSameWords 36 = .ok (.ifCond .eq 5, 3) := by decide +kernel
theorem dX4_hasSameWords_39 : decode cX4_hasSameWords 39 = .ok (.iconst 0, 1) := by decide +kernel
theorem dX4_hasSameWords_40 : decode cX4_hasSameWords 40 = .ok (.ireturn, 1) := by decide +kernel
theorem dX4_hasSameWords_41 : decode cX4_hasSameWords 41 = .ok (.iinc 2 1, 3) := by decide +kernel
theorem dX4_hasSameWords_44 : decode cX4_hasSameWords 44 = .ok (.goto (-29), 3) := by decide +kernel
theorem dX4_hasSameWords_47 : decode cX4_hasSameWords 47 = .ok (.iconst 1, 1) := by decide +kernel
theorem dX4_hasSameWords_48 : decode cX4_hasSameWords 48 = .ok (.ireturn, 1) := by decide +kernel
theorem dX5_init_0 : decode cX5_init 0 = .ok (.aload_n 0, 1) := by decide +kernel
theorem dX5_init_1 : decode cX5_init 1 = .ok (.invokespecial 1, 3) := by decide +kernel
theorem dX5_init_4 : decode cX5_init 4 = .ok (.aload_n 0, 1) := by decide +kernel
theorem dX5_init_5 : decode cX5_init 5 = .ok (.new 7, 3) := by decide +kernel
theorem dX5_init_8 : decode cX5_init 8 = .ok (.dup, 1) := by decide +kernel
theorem dX5_init_9 : decode cX5_init 9 = .ok (.invokespecial 9, 3) := by decide +kernel
theorem dX5_init_12 : decode cX5_init 12 = .ok (.putfield 10, 3) := by decide +kernel
theorem dX5_init_15 : decode cX5_init 15 = .ok (.aload_n 0, 1) := by decide +kernel
theorem dX5_init_16 : decode cX5_init 16 = .ok (.new 16, 3) := by decide +kernel
theorem dX5_init_19 : decode cX5_init 19 = .ok (.dup, 1) := by decide +kernel
theorem dX5_init_20 : decode cX5_init 20 = .ok (.invokespecial 18, 3) := by decide +kernel
theorem dX5_init_23 : decode cX5_init 23 = .ok (.putfield 19, 3) := by decide +kernel
theorem dX5_init_26 : decode cX5_init 26 = .ok (.aload_n 0, 1) := by decide +kernel
theorem dX5_init_27 : decode cX5_init 27 = .ok (.bipush 16, 2) := by decide +kernel
theorem dX5_init_29 : decode cX5_init 29 = .ok (.anewarray 23, 3) := by decide +kernel
theorem dX5_init_32 : decode cX5_init 32 = .ok (.putfield 25, 3) := by decide +kernel
theorem dX5_init_35 : decode cX5_init 35 = .ok (.iconst 0, 1) := by decide +kernel
theorem dX5_init_36 : decode cX5_init 36 = .ok (.istore_n 1, 1) := by decide +kernel
theorem dX5_init_37 : decode cX5_init 37 = .ok (.iload_n 1, 1) := by decide +kernel
theorem dX5_init_38 : decode cX5_init 38 = .ok (.bipush 16, 2) := by decide +kernel
theorem dX5_init_40 : decode cX5_init 40 = .ok (.if_icmp .ge 22, 3) := by decide +kernel
theorem dX5_init_43 : decode cX5_init 43 = .ok (.aload_n 0, 1) := by decide +kernel
theorem dX5_init_44 : decode cX5_init 44 = .ok (.getfield 25, 3) := by decide +kernel
theorem dX5_init_47 : decode cX5_init 47 = .ok (.iload_n 1, 1) := by decide +kernel
theorem dX5_init_48 : decode cX5_init 48 = .ok (.new 23, 3) := by decide +kernel
theorem dX5_init_51 : decode cX5_init 51 = .ok (.dup, 1) := by decide +kernel
theorem dX5_init_52 : decode cX5_init 52 = .ok (.invokespecial 29, 3) := by decide +kernel
theorem dX5_init_55 : decode cX5_init 55 = .ok (.aastore, 1) := by decide +kernel
theorem dX5_init_56 : decode cX5_init 56 = .ok (.iinc 1 1, 3) := by decide +kernel
theorem dX5_init_59 : decode cX5_init 59 = .ok (.goto (-22), 3) := by decide +kernel
theorem dX5_init_62 : decode cX5_init 62 = .ok (.aload_n 0, 1) := by decide +kernel
theorem dX5_init_63 : decode cX5_init 63 = .ok (.new 23, 3) := by decide +kernel
theorem dX5_init_66 : decode cX5_init 66 = .ok (.dup, 1) := by decide +kernel
theorem dX5_init_67 : decode cX5_init 67 = .ok (.invokespecial 29, 3) := by decide +kernel
theorem dX5_init_70 : decode cX5_init 70 = .ok (.putfield 30, 3) := by decide +kernel
theorem dX5_init_73 : decode cX5_init 73 = .ok (.aload_n 0, 1) := by decide +kernel
theorem dX5_init_74 : decode cX5_init 74 = .ok (.new 34, 3) := by decide +kernel
theorem dX5_init_77 : decode cX5_init 77 = .ok (.dup, 1) := by decide +kernel
theorem dX5_init_78 : decode cX5_init 78 = .ok (.invokespecial 36, 3) := by decide +kernel
theorem dX5_init_81 : decode cX5_init 81 = .ok (.putfield 37, 3) := by decide +kernel
theorem dX5_init_84 : decode cX5_init 84 = .ok (.aload_n 0, 1) := by decide +kernel
theorem dX5_init_85 : decode cX5_init 85 = .ok (.new 34, 3) := by decide +kernel
theorem dX5_init_88 : decode cX5_init 88 = .ok (.dup, 1) := by decide +kernel
theorem dX5_init_89 : decode cX5_init 89 = .ok (.invokespecial 36, 3) := by decide +kernel
theorem dX5_init_92 : decode cX5_init 92 = .ok (.putfield 41, 3) := by decide +kernel
theorem dX5_init_95 : decode cX5_init 95 = .ok (.aload_n 0, 1) := by decide +kernel
theorem dX5_init_96 : decode cX5_init 96 = .ok (.iconst 0, 1) := by decide +kernel
theorem dX5_init_97 : decode cX5_init 97 = .ok (.putfield 44, 3) := by decide +kernel
theorem dX5_init_100 : decode cX5_init 100 = .ok (.aload_n 0, 1) := by decide +kernel
theorem dX5_init_101 : decode cX5_init 101 = .ok (.iconst 0, 1) := by decide +kernel
theorem dX5_init_102 : decode cX5_init 102 = .ok (.putfield 48, 3) := by decide +kernel
theorem dX5_init_105 : decode cX5_init 105 = .ok (.aload_n 0, 1) := by decide +kernel
theorem dX5_init_106 : decode cX5_init 106 = .ok (.bipush 63, 2) := by decide +kernel
theorem dX5_init_108 : decode cX5_init 108 = .ok (.putfield 51, 3) := by decide +kernel
theorem dX5_init_111 : decode cX5_init 111 = .ok (.return_, 1) := by decide +kernel
theorem dX5_add_0 : decode cX5_add 0 = .ok (.aload_n 0, 1) := by decide +kernel
theorem dX5_add_1 : decode cX5_add 1 = .ok (.getfield 10, 3) := by decide +kernel
theorem dX5_add_4 : decode cX5_add 4 = .ok (.iload_n 1, 1) := by decide +kernel
theorem dX5_add_5 : decode cX5_add 5 = .ok (.invokevirtual 54, 3) := by decide +kernel
theorem dX5_add_8 : decode cX5_add 8 = .ok (.ifCond .eq 18, 3) := by decide +kernel
theorem dX5_add_11 : decode cX5_add 11 = .ok (.aload_n 0, 1) := by decide +kernel
theorem dX5_add_12 : decode cX5_add 12 = .ok (.getfield 10, 3) := by decide +kernel
theorem dX5_add_15 : decode cX5_add 15 = .ok (.iload_n 1, 1) := by decide +kernel
theorem dX5_add_16 : decode cX5_add 16 = .ok (.invokevirtual 58, 3) := by decide +kernel
theorem dX5_add_19 : decode cX5_add 19 = .ok (.lload_n 2, 1) := by decide +kernel
theorem dX5_add_20 : decode cX5_add 20 = .ok (.invokevirtual 62, 3) := by decide +kernel
theorem dX5_add_23 : decode cX5_add 23 = .ok (.ifCond .ne 5, 3) := by decide +kernel
theorem dX5_add_26 : decode cX5_add 26 = .ok (.iconst (-1), 1) := by decide +kernel
theorem dX5_add_27 : decode cX5_add 27 = .ok (.ireturn, 1) := by decide +kernel
theorem dX5_add_28 : decode cX5_add 28 = .ok (.aload_n 0, 1) := by decide +kernel
theorem dX5_add_29 : decode cX5_add 29 = .ok (.invokevirtual 66, 3) := by decide +kernel
theorem dX5_add_32 : decode cX5_add 32 = .ok (.aload_n 0, 1) := by decide +kernel
theorem dX5_add_33 : decode cX5_add 33 = .ok (.getfield 10, 3) := by decide +kernel
theorem dX5_add_36 : decode cX5_add 36 = .ok (.iload_n 1, 1) := by decide +kernel
theorem dX5_add_37 : decode cX5_add 37 = .ok (.invokevirtual 58, 3) := by decide +kernel
theorem dX5_add_40 : decode cX5_add 40 = .ok (.getfield 69, 3) := by decide +kernel
theorem dX5_add_43 : decode cX5_add 43 = .ok (.iconst 1, 1) := by decide +kernel
theorem dX5_add_44 : decode cX5_add 44 = .ok (.isub, 1) := by decide +kernel
theorem dX5_add_45 : decode cX5_add 45 = .ok (.ireturn, 1) := by decide +kernel
theorem dX5_change_0 : decode cX5_change 0 = .ok (.aload_n 0, 1) := by decide +kernel
theorem dX5_change_1 : decode cX5_change 1 = .ok (.getfield 10, 3) := by decide +kernel
theorem dX5_change_4 : decode cX5_change 4 = .ok (.iload_n 1, 1) := by decide +kernel
theorem dX5_change_5 : decode cX5_change 5 = .ok (.iload_n 2, 1) := by decide +kernel
theorem dX5_change_6 : decode cX5_change 6 = .ok (.iconst 1, 1) := by decide +kernel
theorem dX5_change_7 : decode cX5_change 7 = .ok (.invokevirtual 72, 3) := by decide +kernel
theorem dX5_change_10 : decode cX5_change 10 = .ok (.ifCond .ne 5, 3) := by decide +kernel
theorem dX5_change_13 : decode cX5_change 13 = .ok (.iconst 0, 1) := by decide +kernel
theorem dX5_change_14 : decode cX5_change 14 = .ok (.ireturn, 1) := by decide +kernel
theorem dX5_change_15 : decode cX5_change 15 = .ok (.aload_n 0, 1) := by decide +kernel
theorem dX5_change_16 : decode cX5_change 16 = .ok (.getfield 10, 3) := by decide +kernel
theorem dX5_change_19 : decode cX5_change 19 = .ok (.iload_n 1, 1) := by decide +kernel
theorem dX5_change_20 : decode cX5_change 20 = .ok (.invokevirtual 58, 3) := by decide +kernel
theorem dX5_change_23 : decode cX5_change 23 = .ok (.iload_n 2, 1) := by decide +kernel
theorem dX5_change_24 : decode cX5_change 24 = .ok (.lload_n 3, 1) := by decide +kernel
theorem dX5_change_25 : decode cX5_change 25 = .ok (.invokevirtual 76, 3) := by decide +kernel
theorem dX5_change_28 : decode cX5_change 28 = .ok (.aload_n 0, 1) := by decide +kernel
theorem dX5_change_29 : decode cX5_change 29 = .ok (.invokevirtual 66, 3) := by decide +kernel
theorem dX5_change_32 : decode cX5_change 32 = .ok (.iconst 1, 1) := by decide +kernel
theorem dX5_change_33 : decode cX5_change 33 = .ok (.ireturn, 1) := by decide +kernel
theorem dX5_cut_0 : decode cX5_cut 0 = .ok (.iload_n 2, 1) := by decide +kernel
theorem dX5_cut_1 : decode cX5_cut 1 = .ok (.ifCond .lt 16, 3) := by decide +kernel
theorem dX5_cut_4 : decode cX5_cut 4 = .ok (.aload_n 0, 1) := by decide +kernel
theorem dX5_cut_5 : decode cX5_cut 5 = .ok (.getfield 10, 3) := by decide +kernel
theorem dX5_cut_8 : decode cX5_cut 8 = .ok (.iload_n 1, 1) := by decide +kernel
theorem dX5_cut_9 : decode cX5_cut 9 = .ok (.iconst 0, 1) := by decide +kernel
theorem dX5_cut_10 : decode cX5_cut 10 = .ok (.iload_n 2, 1) := by decide +kernel
theorem dX5_cut_11 : decode cX5_cut 11 = .ok (.invokevirtual 72, 3) := by decide +kernel
theorem dX5_cut_14 : decode cX5_cut 14 = .ok (.ifCond .ne 5, 3) := by decide +kernel
theorem dX5_cut_17 : decode cX5_cut 17 = .ok (.iconst 0, 1) := by decide +kernel
theorem dX5_cut_18 : decode cX5_cut 18 = .ok (.ireturn, 1) := by decide +kernel
theorem dX5_cut_19 : decode cX5_cut 19 = .ok (.aload_n 0, 1) := by decide +kernel
theorem dX5_cut_20 : decode cX5_cut 20 = .ok (.getfield 10, 3) := by decide +kernel
theorem dX5_cut_23 : decode cX5_cut 23 = .ok (.iload_n 1, 1) := by decide +kernel
theorem dX5_cut_24 : decode cX5_cut 24 = .ok (.invokevirtual 58, 3) := by decide +kernel
theorem dX5_cut_27 : decode cX5_cut 27 = .ok (.iload_n 2, 1) := by decide +kernel
theorem dX5_cut_28 : decode cX5_cut 28 = .ok (.putfield 69, 3) := by decide +kernel
theorem dX5_cut_31 : decode cX5_cut 31 = .ok (.aload_n 0, 1) := by decide +kernel
theorem dX5_cut_32 : decode cX5_cut 32 = .ok (.invokevirtual 66, 3) := by decide +kernel
theorem dX5_cut_35 : decode cX5_cut 35 = .ok (.iconst 1, 1) := by decide +kernel
theorem dX5_cut_36 : decode cX5_cut 36 = .ok (.ireturn, 1) := by decide +kernel
theorem dX5_words_0 : decode cX5_words 0 = .ok (.aload_n 0, 1) := by decide +kernel
theorem dX5_words_1 : decode cX5_words 1 = .ok (.getfield 10, 3) := by decide +kernel
theorem dX5_words_4 : decode cX5_words 4 = .ok (.iload_n 1, 1) := by decide +kernel
theorem dX5_words_5 : decode cX5_words 5 = .ok (.invokevirtual 54, 3) := by decide +kernel
theorem dX5_words_8 : decode cX5_words 8 = .ok (.ifCond .eq 17, 3) := by decide +kernel
theorem dX5_words_11 : decode cX5_words 11 = .ok (.aload_n 0, 1) := by decide +kernel
theorem dX5_words_12 : decode cX5_words 12 = .ok (.getfield 10, 3) := by decide +kernel
theorem dX5_words_15 : decode cX5_words 15 = .ok (.iload_n 1, 1) := by decide +kernel
theorem dX5_words_16 : decode cX5_words 16 = .ok (.invokevirtual 58, 3) := by decide +kernel
theorem dX5_words_19 : decode cX5_words 19 = .ok (.getfield 69, 3) := by decide +kernel
theorem dX5_words_22 : decode cX5_words 22 = .ok (.goto 4, 3) := by decide +kernel
theorem dX5_words_25 : decode cX5_words 25 = .ok (.iconst (-1), 1) := by decide +kernel
theorem dX5_words_26 : decode cX5_words 26 = .ok (.ireturn, 1) := by decide +kernel
theorem dX5_word_0 : decode cX5_word 0 = .ok (.aload_n 0, 1) := by decide +kernel
theorem dX5_word_1 : decode cX5_word 1 = .ok (.getfield 10, 3) := by decide +kernel
theorem dX5_word_4 : decode cX5_word 4 = .ok (.iload_n 1, 1) := by decide +kernel
theorem dX5_word_5 : decode cX5_word 5 = .ok (.iload_n 2, 1) := by decide +kernel
theorem dX5_word_6 : decode cX5_word 6 = .ok (.invokevirtual 80, 3) := by decide +kernel
theorem dX5_word_9 : decode cX5_word 9 = .ok (.lreturn, 1) := by decide +kernel
theorem dX5_budget_0 : decode cX5_budget 0 = .ok (.iload_n 1, 1) := by decide +kernel
theorem dX5_budget_1 : decode cX5_budget 1 = .ok (.ifCond .lt 9, 3) := by decide +kernel
theorem dX5_budget_4 : decode cX5_budget 4 = .ok (.iload_n 1, 1) := by decide +kernel
theorem dX5_budget_5 : decode cX5_budget 5 = .ok (.bipush 63, 2) := by decide +kernel
theorem dX5_budget_7 : decode cX5_budget 7 = .ok (.if_icmp .le 5, 3) := by decide +kernel
theorem dX5_budget_10 : decode cX5_budget 10 = .ok (.iconst 0, 1) := by decide +kernel
theorem dX5_budget_11 : decode cX5_budget 11 = .ok (.ireturn, 1) := by decide +kernel
theorem dX5_budget_12 : decode cX5_budget 12 = .ok (.aload_n 0, 1) := by decide +kernel
theorem dX5_budget_13 : decode cX5_budget 13 = .ok (.iload_n 1, 1) := by decide +kernel
theorem dX5_budget_14 : decode cX5_budget 14 = .ok (.putfield 51, 3) := by decide +kernel
theorem dX5_budget_17 : decode cX5_budget 17 = .ok (.iconst 1, 1) := by decide +kernel
theorem dX5_budget_18 : decode cX5_budget 18 = .ok (.ireturn, 1) := by decide +kernel
theorem dX5_open_0 : decode cX5_open 0 = .ok (.aload_n 0, 1) := by decide +kernel
theorem dX5_open_1 : decode cX5_open 1 = .ok (.getfield 10, 3) := by decide +kernel
theorem dX5_open_4 : decode cX5_open 4 = .ok (.aload_n 0, 1) := by decide +kernel
theorem dX5_open_5 : decode cX5_open 5 = .ok (.getfield 51, 3) := by decide +kernel
theorem dX5_open_8 : decode cX5_open 8 = .ok (.aload_n 0, 1) := by decide +kernel
theorem dX5_open_9 : decode cX5_open 9 = .ok (.getfield 30, 3) := by decide +kernel
theorem dX5_open_12 : decode cX5_open 12 = .ok (.invokevirtual 84, 3) := by decide +kernel
theorem dX5_open_15 : decode cX5_open 15 = .ok (.istore_n 1, 1) := by decide +kernel
theorem dX5_open_16 : decode cX5_open 16 = .ok (.aload_n 0, 1) := by decide +kernel
theorem dX5_open_17 : decode cX5_open 17 = .ok (.getfield 25, 3) := by decide +kernel
theorem dX5_open_20 : decode cX5_open 20 = .ok (.iconst 0, 1) := by decide +kernel
theorem dX5_open_21 : decode cX5_open 21 = .ok (.aaload, 1) := by decide +kernel
theorem dX5_open_22 : decode cX5_open 22 = .ok (.aload_n 0, 1) := by decide +kernel
theorem dX5_open_23 : decode cX5_open 23 = .ok (.getfield 30, 3) := by decide +kernel
theorem dX5_open_26 : decode cX5_open 26 = .ok (.invokevirtual 88, 3) := by decide +kernel
theorem dX5_open_29 : decode cX5_open 29 = .ok (.aload_n 0, 1) := by decide +kernel
theorem dX5_open_30 : decode cX5_open 30 = .ok (.iconst 1, 1) := by decide +kernel
theorem dX5_open_31 : decode cX5_open 31 = .ok (.putfield 44, 3) := by decide +kernel
theorem dX5_open_34 : decode cX5_open 34 = .ok (.aload_n 0, 1) := by decide +kernel
theorem dX5_open_35 : decode cX5_open 35 = .ok (.aload_n 0, 1) := by decide +kernel
theorem dX5_open_36 : decode cX5_open 36 = .ok (.getfield 51, 3) := by decide +kernel
theorem dX5_open_39 : decode cX5_open 39 = .ok (.iload_n 1, 1) := by decide +kernel
theorem dX5_open_40 : decode cX5_open 40 = .ok (.isub, 1) := by decide +kernel
theorem dX5_open_41 : decode cX5_open 41 = .ok (.putfield 48, 3) := by decide +kernel
theorem dX5_open_44 : decode cX5_open 44 = .ok (.aload_n 0, 1) := by decide +kernel
theorem dX5_open_45 : decode cX5_open 45 = .ok (.getfield 30, 3) := by decide +kernel
theorem dX5_open_48 : decode cX5_open 48 = .ok (.getfield 92, 3) := by decide +kernel
theorem dX5_open_51 : decode cX5_open 51 = .ok (.aload_n 0, 1) := by decide +kernel
theorem dX5_open_52 : decode cX5_open 52 = .ok (.getfield 30, 3) := by decide +kernel
theorem dX5_open_55 : decode cX5_open 55 = .ok (.getfield 95, 3) := by decide +kernel
theorem dX5_open_58 : decode cX5_open 58 = .ok (.iadd, 1) := by decide +kernel
theorem dX5_open_59 : decode cX5_open 59 = .ok (.ireturn, 1) := by decide +kernel
theorem dX5_left_0 : decode cX5_left 0 = .ok (.aload_n 0, 1) := by decide +kernel
theorem dX5_left_1 : decode cX5_left 1 = .ok (.getfield 48, 3) := by decide +kernel
theorem dX5_left_4 : decode cX5_left 4 = .ok (.ireturn, 1) := by decide +kernel
theorem dX5_go_0 : decode cX5_go 0 = .ok (.aload_n 0, 1) := by decide +kernel
theorem dX5_go_1 : decode cX5_go 1 = .ok (.iload_n 1, 1) := by decide +kernel
theorem dX5_go_2 : decode cX5_go 2 = .ok (.invokevirtual 98, 3) := by decide +kernel
theorem dX5_go_5 : decode cX5_go 5 = .ok (.astore_n 3, 1) := by decide +kernel
theorem dX5_go_6 : decode cX5_go 6 = .ok (.aload_n 3, 1) := by decide +kernel
theorem dX5_go_7 : decode cX5_go 7 = .ok (.getfield 102, 3) := by decide +kernel
theorem dX5_go_10 : decode cX5_go 10 = .ok (.ifCond .eq 22, 3) := by decide +kernel
theorem dX5_go_13 : decode cX5_go 13 = .ok (.aload_n 3, 1) := by decide +kernel
theorem dX5_go_14 : decode cX5_go 14 = .ok (.getfield 102, 3) := by decide +kernel
theorem dX5_go_17 : decode cX5_go 17 = .ok (.bipush 7, 2) := by decide +kernel
theorem dX5_go_19 : decode cX5_go 19 = .ok (.if_icmp .eq 13, 3) := by decide +kernel
theorem dX5_go_22 : decode cX5_go 22 = .ok (.new 105, 3) := by decide +kernel
theorem dX5_go_25 : decode cX5_go 25 = .ok (.dup, 1) := by decide +kernel
theorem dX5_go_26 : decode cX5_go 26 = .ok (.ldc 107, 2) := by decide +kernel
theorem dX5_go_28 : decode cX5_go 28 = .ok (.invokespecial 109, 3) := by decide +kernel
theorem dX5_go_31 : decode cX5_go 31 = .ok (.athrow, 1) := by decide +kernel
theorem dX5_go_32 : decode cX5_go 32 = .ok (.aload_n 3, 1) := by decide +kernel
theorem dX5_go_33 : decode cX5_go 33 = .ok (.iload_n 2, 1) := by decide +kernel
theorem dX5_go_34 : decode cX5_go 34 = .ok (.invokestatic 112, 3) := by decide +kernel
theorem dX5_go_37 : decode cX5_go 37 = .ok (.iload_n 2, 1) := by decide +kernel
theorem dX5_go_38 : decode cX5_go 38 = .ok (.aload_n 3, 1) := by decide +kernel
theorem dX5_go_39 : decode cX5_go 39 = .ok (.invokevirtual 116, 3) := by decide +kernel
theorem dX5_go_42 : decode cX5_go 42 = .ok (.if_icmp .lt 5, 3) := by decide +kernel
theorem dX5_go_45 : decode cX5_go 45 = .ok (.iconst (-1), 1) := by decide +kernel
theorem dX5_go_46 : decode cX5_go 46 = .ok (.ireturn, 1) := by decide +kernel
theorem dX5_go_47 : decode cX5_go 47 = .ok (.aload_n 3, 1) := by decide +kernel
theorem dX5_go_48 : decode cX5_go 48 = .ok (.invokevirtual 120, 3) := by decide +kernel
theorem dX5_go_51 : decode cX5_go 51 = .ok (.iload_n 2, 1) := by decide +kernel
theorem dX5_go_52 : decode cX5_go 52 = .ok (.iadd, 1) := by decide +kernel
theorem dX5_go_53 : decode cX5_go 53 = .ok (.istore 4, 2) := by decide +kernel
theorem dX5_go_55 : decode cX5_go 55 = .ok (.aload_n 0, 1) := by decide +kernel
theorem dX5_go_56 : decode cX5_go 56 = .ok (.getfield 10, 3) := by decide +kernel
theorem dX5_go_59 : decode cX5_go 59 = .ok (.aload_n 3, 1) := by decide +kernel
theorem dX5_go_60 : decode cX5_go 60 = .ok (.getfield 123, 3) := by decide +kernel
theorem dX5_go_63 : decode cX5_go 63 = .ok (.iload 4, 2) := by decide +kernel
theorem dX5_go_65 : decode cX5_go 65 = .ok (.invokevirtual 80, 3) := by decide +kernel
theorem dX5_go_68 : decode cX5_go 68 = .ok (.lconst 0, 1) := by decide +kernel
theorem dX5_go_69 : decode cX5_go 69 = .ok (.lcmp, 1) := by decide +kernel
theorem dX5_go_70 : decode cX5_go 70 = .ok (.ifCond .ne 5, 3) := by decide +kernel
theorem dX5_go_73 : decode cX5_go 73 = .ok (.iconst (-1), 1) := by decide +kernel
theorem dX5_go_74 : decode cX5_go 74 = .ok (.ireturn, 1) := by decide +kernel
theorem dX5_go_75 : decode cX5_go 75 = .ok (.aload_n 0, 1) := by decide +kernel
theorem dX5_go_76 : decode cX5_go 76 = .ok (.invokevirtual 126, 3) := by decide +kernel
theorem dX5_go_79 : decode cX5_go 79 = .ok (.aload_n 0, 1) := by decide +kernel
theorem dX5_go_80 : decode cX5_go 80 = .ok (.getfield 10, 3) := by decide +kernel
theorem dX5_go_83 : decode cX5_go 83 = .ok (.aload_n 3, 1) := by decide +kernel
theorem dX5_go_84 : decode cX5_go 84 = .ok (.iload 4, 2) := by decide +kernel
theorem dX5_go_86 : decode cX5_go 86 = .ok (.aload_n 0, 1) := by decide +kernel
theorem dX5_go_87 : decode cX5_go 87 = .ok (.getfield 48, 3) := by decide +kernel
theorem dX5_go_90 : decode cX5_go 90 = .ok (.aload_n 0, 1) := by decide +kernel
theorem dX5_go_91 : decode cX5_go 91 = .ok (.getfield 25, 3) := by decide +kernel
theorem dX5_go_94 : decode cX5_go 94 = .ok (.aload_n 0, 1) := by decide +kernel
theorem dX5_go_95 : decode cX5_go 95 = .ok (.getfield 44, 3) := by decide +kernel
theorem dX5_go_98 : decode cX5_go 98 = .ok (.aaload, 1) := by decide +kernel
theorem dX5_go_99 : decode cX5_go 99 = .ok (.invokevirtual 129, 3) := by decide +kernel
theorem dX5_go_102 : decode cX5_go 102 = .ok (.istore 5, 2) := by decide +kernel
theorem dX5_go_104 : decode cX5_go 104 = .ok (.aload_n 0, 1) := by decide +kernel
theorem dX5_go_105 : decode cX5_go 105 = .ok (.dup, 1) := by decide +kernel
theorem dX5_go_106 : decode cX5_go 106 = .ok (.getfield 48, 3) := by decide +kernel
theorem dX5_go_109 : decode cX5_go 109 = .ok (.iload 5, 2) := by decide +kernel
theorem dX5_go_111 : decode cX5_go 111 = .ok (.isub, 1) := by decide +kernel
theorem dX5_go_112 : decode cX5_go 112 = .ok (.putfield 48, 3) := by decide +kernel
theorem dX5_go_115 : decode cX5_go 115 = .ok (.aload_n 0, 1) := by decide +kernel
theorem dX5_go_116 : decode cX5_go 116 = .ok (.dup, 1) := by decide +kernel
theorem dX5_go_117 : decode cX5_go 117 = .ok (.getfield 44, 3) := by decide +kernel
theorem dX5_go_120 : decode cX5_go 120 = .ok (.iconst 1, 1) := by decide +kernel
theorem dX5_go_121 : decode cX5_go 121 = .ok (.iadd, 1) := by decide +kernel
theorem dX5_go_122 : decode cX5_go 122 = .ok (.putfield 44, 3) := by decide +kernel
theorem dX5_go_125 : decode cX5_go 125 = .ok (.aload_n 0, 1) := by decide +kernel
theorem dX5_go_126 : decode cX5_go 126 = .ok (.getfield 44, 3) := by decide +kernel
theorem dX5_go_129 : decode cX5_go 129 = .ok (.iconst 1, 1) := by decide +kernel
theorem dX5_go_130 : decode cX5_go 130 = .ok (.isub, 1) := by decide +kernel
theorem dX5_go_131 : decode cX5_go 131 = .ok (.ireturn, 1) := by decide +kernel
theorem dX5_element_0 : decode cX5_element 0 = .ok (.aload_n 0, 1) := by decide +kernel
theorem dX5_element_1 : decode cX5_element 1 = .ok (.iload_n 1, 1) := by decide +kernel
theorem dX5_element_2 : decode cX5_element 2 = .ok (.invokevirtual 98, 3) := by decide +kernel
theorem dX5_element_5 : decode cX5_element 5 = .ok (.astore_n 3, 1) := by decide +kernel
theorem dX5_element_6 : decode cX5_element 6 = .ok (.aload_n 3, 1) := by decide +kernel
theorem dX5_element_7 : decode cX5_element 7 = .ok (.getfield 102, 3) := by decide +kernel
theorem dX5_element_10 : decode cX5_element 10 = .ok (.bipush 8, 2) := by decide +kernel
theorem dX5_element_12 : decode cX5_element 12 = .ok (.if_icmp .eq 13, 3) := by decide +kernel
theorem dX5_element_15 : decode cX5_element 15 = .ok (.new 105, 3) := by decide +kernel
theorem dX5_element_18 : decode cX5_element 18 = .ok (.dup, 1) := by decide +kernel
theorem dX5_element_19 : decode cX5_element 19 = .ok (.ldc 133, 2) := by decide +kernel
theorem dX5_element_21 : decode cX5_element 21 = .ok (.invokespecial 109, 3) := by decide +kernel
theorem dX5_element_24 : decode cX5_element 24 = .ok (.athrow, 1) := by decide +kernel
theorem dX5_element_25 : decode cX5_element 25 = .ok (.aload_n 3, 1) := by decide +kernel
theorem dX5_element_26 : decode cX5_element 26 = .ok (.iload_n 2, 1) := by decide +kernel
theorem dX5_element_27 : decode cX5_element 27 = .ok (.invokestatic 112, 3) := by decide +kernel
theorem dX5_element_30 : decode cX5_element 30 = .ok (.aload_n 0, 1) := by decide +kernel
theorem dX5_element_31 : decode cX5_element 31 = .ok (.invokevirtual 126, 3) := by decide +kernel
theorem dX5_element_34 : decode cX5_element 34 = .ok (.aload_n 0, 1) := by decide +kernel
theorem dX5_element_35 : decode cX5_element 35 = .ok (.getfield 25, 3) := by decide +kernel
theorem dX5_element_38 : decode cX5_element 38 = .ok (.aload_n 0, 1) := by decide +kernel
theorem dX5_element_39 : decode cX5_element 39 = .ok (.getfield 44, 3) := by decide +kernel
theorem dX5_element_42 : decode cX5_element 42 = .ok (.aaload, 1) := by decide +kernel
theorem dX5_element_43 : decode cX5_element 43 = .ok (.aload_n 3, 1) := by decide +kernel
theorem dX5_element_44 : decode cX5_element 44 = .ok (.iload_n 2, 1) := by decide +kernel
theorem dX5_element_45 : decode cX5_element 45 = .ok (.invokevirtual 135, 3) := by decide +kernel
theorem dX5_element_48 : decode cX5_element 48 = .ok (.aload_n 0, 1) := by decide +kernel
theorem dX5_element_49 : decode cX5_element 49 = .ok (.dup, 1) := by decide +kernel
theorem dX5_element_50 : decode cX5_element 50 = .ok (.getfield 44, 3) := by decide +kernel
theorem dX5_element_53 : decode cX5_element 53 = .ok (.iconst 1, 1) := by decide +kernel
theorem dX5_element_54 : decode cX5_element 54 = .ok (.iadd, 1) := by decide +kernel
theorem dX5_element_55 : decode cX5_element 55 = .ok (.putfield 44, 3) := by decide +kernel
theorem dX5_element_58 : decode cX5_element 58 = .ok (.aload_n 0, 1) := by decide +kernel
theorem dX5_element_59 : decode cX5_element 59 = .ok (.getfield 44, 3) := by decide +kernel
theorem dX5_element_62 : decode cX5_element 62 = .ok (.iconst 1, 1) := by decide +kernel
theorem dX5_element_63 : decode cX5_element 63 = .ok (.isub, 1) := by decide +kernel
theorem dX5_element_64 : decode cX5_element 64 = .ok (.ireturn, 1) := by decide +kernel
theorem dX5_about_0 : decode cX5_about 0 = .ok (.aload_n 0, 1) := by decide +kernel
theorem dX5_about_1 : decode cX5_about 1 = .ok (.iload_n 1, 1) := by decide +kernel
theorem dX5_about_2 : decode cX5_about 2 = .ok (.invokevirtual 98, 3) := by decide +kernel
theorem dX5_about_5 : decode cX5_about 5 = .ok (.astore_n 3, 1) := by decide +kernel
theorem dX5_about_6 : decode cX5_about 6 = .ok (.iload_n 2, 1) := by decide +kernel
theorem dX5_about_7 : decode cX5_about 7 = .ok (.tableswitch 76 0 6 #[41, 46, 51, 56, 61, 66, 71], 41) := by decide +kernel
theorem dX5_about_48 : decode cX5_about 48 = .ok (.aload_n 3, 1) := by decide +kernel
theorem dX5_about_49 : decode cX5_about 49 = .ok (.getfield 102, 3) := by decide +kernel
theorem dX5_about_52 : decode cX5_about 52 = .ok (.ireturn, 1) := by decide +kernel
theorem dX5_about_53 : decode cX5_about 53 = .ok (.aload_n 3, 1) := by decide +kernel
theorem dX5_about_54 : decode cX5_about 54 = .ok (.getfield 92, 3) := by decide +kernel
theorem dX5_about_57 : decode cX5_about 57 = .ok (.ireturn, 1) := by decide +kernel
theorem dX5_about_58 : decode cX5_about 58 = .ok (.aload_n 3, 1) := by decide +kernel
theorem dX5_about_59 : decode cX5_about 59 = .ok (.getfield 95, 3) := by decide +kernel
theorem dX5_about_62 : decode cX5_about 62 = .ok (.ireturn, 1) := by decide +kernel
theorem dX5_about_63 : decode cX5_about 63 = .ok (.aload_n 3, 1) := by decide +kernel
theorem dX5_about_64 : decode cX5_about 64 = .ok (.getfield 138, 3) := by decide +kernel
theorem dX5_about_67 : decode cX5_about 67 = .ok (.ireturn, 1) := by decide +kernel
theorem dX5_about_68 : decode cX5_about 68 = .ok (.aload_n 3, 1) := by decide +kernel
theorem dX5_about_69 : decode cX5_about 69 = .ok (.getfield 123, 3) := by decide +kernel
theorem dX5_about_72 : decode cX5_about 72 = .ok (.ireturn, 1) := by decide +kernel
theorem dX5_about_73 : decode cX5_about 73 = .ok (.aload_n 3, 1) := by decide +kernel
theorem dX5_about_74 : decode cX5_about 74 = .ok (.getfield 141, 3) := by decide +kernel
theorem dX5_about_77 : decode cX5_about 77 = .ok (.ireturn, 1) := by decide +kernel
theorem dX5_about_78 : decode cX5_about 78 = .ok (.aload_n 3, 1) := by decide +kernel
theorem dX5_about_79 : decode cX5_about 79 = .ok (.getfield 144, 3) := by decide +kernel
theorem dX5_about_82 : decode cX5_about 82 = .ok (.ireturn, 1) := by decide +kernel
theorem dX5_about_83 : decode cX5_about 83 = .ok (.new 147, 3) := by decide +kernel
theorem dX5_about_86 : decode cX5_about 86 = .ok (.dup, 1) := by decide +kernel
theorem dX5_about_87 : decode cX5_about 87 = .ok (.ldc 149, 2) := by decide +kernel
theorem dX5_about_89 : decode cX5_about 89 = .ok (.invokespecial 151, 3) := by decide +kernel
theorem dX5_about_92 : decode cX5_about 92 = .ok (.athrow, 1) := by decide +kernel
theorem dX5_data_0 : decode cX5_data 0 = .ok (.aload_n 0, 1) := by decide +kernel
theorem dX5_data_1 : decode cX5_data 1 = .ok (.iload_n 1, 1) := by decide +kernel
theorem dX5_data_2 : decode cX5_data 2 = .ok (.invokevirtual 98, 3) := by decide +kernel
theorem dX5_data_5 : decode cX5_data 5 = .ok (.astore_n 3, 1) := by decide +kernel
theorem dX5_data_6 : decode cX5_data 6 = .ok (.aload_n 3, 1) := by decide +kernel
theorem dX5_data_7 : decode cX5_data 7 = .ok (.getfield 102, 3) := by decide +kernel
theorem dX5_data_10 : decode cX5_data 10 = .ok (.bipush 7, 2) := by decide +kernel
theorem dX5_data_12 : decode cX5_data 12 = .ok (.if_icmp .eq 12, 3) := by decide +kernel
theorem dX5_data_15 : decode cX5_data 15 = .ok (.aload_n 3, 1) := by decide +kernel
theorem dX5_data_16 : decode cX5_data 16 = .ok (.getfield 102, 3) := by decide +kernel
theorem dX5_data_19 : decode cX5_data 19 = .ok (.bipush 8, 2) := by decide +kernel
theorem dX5_data_21 : decode cX5_data 21 = .ok (.if_icmp .ne 13, 3) := by decide +kernel
theorem dX5_data_24 : decode cX5_data 24 = .ok (.new 105, 3) := by decide +kernel
theorem dX5_data_27 : decode cX5_data 27 = .ok (.dup, 1) := by decide +kernel
theorem dX5_data_28 : decode cX5_data 28 = .ok (.ldc 152, 2) := by decide +kernel
theorem dX5_data_30 : decode cX5_data 30 = .ok (.invokespecial 109, 3) := by decide +kernel
theorem dX5_data_33 : decode cX5_data 33 = .ok (.athrow, 1) := by decide +kernel
theorem dX5_data_34 : decode cX5_data 34 = .ok (.aload_n 3, 1) := by decide +kernel
theorem dX5_data_35 : decode cX5_data 35 = .ok (.iload_n 2, 1) := by decide +kernel
theorem dX5_data_36 : decode cX5_data 36 = .ok (.invokestatic 112, 3) := by decide +kernel
theorem dX5_data_39 : decode cX5_data 39 = .ok (.aload_n 3, 1) := by decide +kernel
theorem dX5_data_40 : decode cX5_data 40 = .ok (.getfield 102, 3) := by decide +kernel
theorem dX5_data_43 : decode cX5_data 43 = .ok (.ifCond .eq 13, 3) := by decide +kernel
theorem dX5_data_46 : decode cX5_data 46 = .ok (.aload_n 0, 1) := by decide +kernel
theorem dX5_data_47 : decode cX5_data 47 = .ok (.getfield 10, 3) := by decide +kernel
theorem dX5_data_50 : decode cX5_data 50 = .ok (.aload_n 3, 1) := by decide +kernel
theorem dX5_data_51 : decode cX5_data 51 = .ok (.iload_n 2, 1) := by decide +kernel
theorem dX5_data_52 : decode cX5_data 52 = .ok (.invokevirtual 154, 3) := by decide +kernel
theorem dX5_data_55 : decode cX5_data 55 = .ok (.lreturn, 1) := by decide +kernel
theorem dX5_data_56 : decode cX5_data 56 = .ok (.iload_n 2, 1) := by decide +kernel
theorem dX5_data_57 : decode cX5_data 57 = .ok (.aload_n 3, 1) := by decide +kernel
theorem dX5_data_58 : decode cX5_data 58 = .ok (.getfield 92, 3) := by decide +kernel
theorem dX5_data_61 : decode cX5_data 61 = .ok (.if_icmp .ge 23, 3) := by decide +kernel
theorem dX5_data_64 : decode cX5_data 64 = .ok (.aload_n 0, 1) := by decide +kernel
theorem dX5_data_65 : decode cX5_data 65 = .ok (.getfield 10, 3) := by decide +kernel
theorem dX5_data_68 : decode cX5_data 68 = .ok (.aload_n 3, 1) := by decide +kernel
theorem dX5_data_69 : decode cX5_data 69 = .ok (.getfield 123, 3) := by decide +kernel
theorem dX5_data_72 : decode cX5_data 72 = .ok (.aload_n 3, 1) := by decide +kernel
theorem dX5_data_73 : decode cX5_data 73 = .ok (.getfield 141, 3) := by decide +kernel
theorem dX5_data_76 : decode cX5_data 76 = .ok (.iload_n 2, 1) := by decide +kernel
theorem dX5_data_77 : decode cX5_data 77 = .ok (.iadd, 1) := by decide +kernel
theorem dX5_data_78 : decode cX5_data 78 = .ok (.invokevirtual 80, 3) := by decide +kernel
theorem dX5_data_81 : decode cX5_data 81 = .ok (.goto 4, 3) := by decide +kernel
theorem dX5_data_84 : decode cX5_data 84 = .ok (.lconst 0, 1) := by decide +kernel
theorem dX5_data_85 : decode cX5_data 85 = .ok (.lreturn, 1) := by decide +kernel
theorem dX5_form_0 : decode cX5_form 0 = .ok (.aload_n 0, 1) := by decide +kernel
theorem dX5_form_1 : decode cX5_form 1 = .ok (.getfield 19, 3) := by decide +kernel
theorem dX5_form_4 : decode cX5_form 4 = .ok (.aload_n 0, 1) := by decide +kernel
theorem dX5_form_5 : decode cX5_form 5 = .ok (.getfield 10, 3) := by decide +kernel
theorem dX5_form_8 : decode cX5_form 8 = .ok (.aload_n 0, 1) := by decide +kernel
theorem dX5_form_9 : decode cX5_form 9 = .ok (.getfield 51, 3) := by decide +kernel
theorem dX5_form_12 : decode cX5_form 12 = .ok (.invokevirtual 158, 3) := by decide +kernel
theorem dX5_form_15 : decode cX5_form 15 = .ok (.aload_n 0, 1) := by decide +kernel
theorem dX5_form_16 : decode cX5_form 16 = .ok (.getfield 37, 3) := by decide +kernel
theorem dX5_form_19 : decode cX5_form 19 = .ok (.aload_n 0, 1) := by decide +kernel
theorem dX5_form_20 : decode cX5_form 20 = .ok (.getfield 19, 3) := by decide +kernel
theorem dX5_form_23 : decode cX5_form 23 = .ok (.getfield 162, 3) := by decide +kernel
theorem dX5_form_26 : decode cX5_form 26 = .ok (.invokevirtual 165, 3) := by decide +kernel
theorem dX5_form_29 : decode cX5_form 29 = .ok (.aload_n 0, 1) := by decide +kernel
theorem dX5_form_30 : decode cX5_form 30 = .ok (.getfield 37, 3) := by decide +kernel
theorem dX5_form_33 : decode cX5_form 33 = .ok (.getfield 69, 3) := by decide +kernel
theorem dX5_form_36 : decode cX5_form 36 = .ok (.ireturn, 1) := by decide +kernel
theorem dX5_formed_0 : decode cX5_formed 0 = .ok (.aload_n 0, 1) := by decide +kernel
theorem dX5_formed_1 : decode cX5_formed 1 = .ok (.getfield 37, 3) := by decide +kernel
theorem dX5_formed_4 : decode cX5_formed 4 = .ok (.iload_n 1, 1) := by decide +kernel
theorem dX5_formed_5 : decode cX5_formed 5 = .ok (.invokevirtual 168, 3) := by decide +kernel
theorem dX5_formed_8 : decode cX5_formed 8 = .ok (.lreturn, 1) := by decide +kernel
theorem dX5_adopt_0 : decode cX5_adopt 0 = .ok (.aload_n 0, 1) := by decide +kernel
theorem dX5_adopt_1 : decode cX5_adopt 1 = .ok (.getfield 37, 3) := by decide +kernel
theorem dX5_adopt_4 : decode cX5_adopt 4 = .ok (.getfield 69, 3) := by decide +kernel
theorem dX5_adopt_7 : decode cX5_adopt 7 = .ok (.ifCond .ne 5, 3) := by decide +kernel
theorem dX5_adopt_10 : decode cX5_adopt 10 = .ok (.iconst 0, 1) := by decide +kernel
theorem dX5_adopt_11 : decode cX5_adopt 11 = .ok (.ireturn, 1) := by decide +kernel
theorem dX5_adopt_12 : decode cX5_adopt 12 = .ok (.aload_n 0, 1) := by decide +kernel
theorem dX5_adopt_13 : decode cX5_adopt 13 = .ok (.getfield 10, 3) := by decide +kernel
theorem dX5_adopt_16 : decode cX5_adopt 16 = .ok (.iconst 0, 1) := by decide +kernel
theorem dX5_adopt_17 : decode cX5_adopt 17 = .ok (.invokevirtual 58, 3) := by decide +kernel
theorem dX5_adopt_20 : decode cX5_adopt 20 = .ok (.aload_n 0, 1) := by decide +kernel
theorem dX5_adopt_21 : decode cX5_adopt 21 = .ok (.getfield 37, 3) := by decide +kernel
theorem dX5_adopt_24 : decode cX5_adopt 24 = .ok (.invokevirtual 165, 3) := by decide +kernel
theorem dX5_adopt_27 : decode cX5_adopt 27 = .ok (.iconst 1, 1) := by decide +kernel
theorem dX5_adopt_28 : decode cX5_adopt 28 = .ok (.istore_n 1, 1) := by decide +kernel
theorem dX5_adopt_29 : decode cX5_adopt 29 = .ok (.iload_n 1, 1) := by decide +kernel
theorem dX5_adopt_30 : decode cX5_adopt 30 = .ok (.iconst 4, 1) := by decide +kernel
theorem dX5_adopt_31 : decode cX5_adopt 31 = .ok (.if_icmp .ge 21, 3) := by decide +kernel
theorem dX5_adopt_34 : decode cX5_adopt 34 = .ok (.aload_n 0, 1) := by decide +kernel
theorem dX5_adopt_35 : decode cX5_adopt 35 = .ok (.getfield 10, 3) := by decide +kernel
theorem dX5_adopt_38 : decode cX5_adopt 38 = .ok (.iload_n 1, 1) := by decide +kernel
theorem dX5_adopt_39 : decode cX5_adopt 39 = .ok (.invokevirtual 58, 3) := by decide +kernel
theorem dX5_adopt_42 : decode cX5_adopt 42 = .ok (.iconst 0, 1) := by decide +kernel
theorem dX5_adopt_43 : decode cX5_adopt 43 = .ok (.putfield 69, 3) := by decide +kernel
theorem dX5_adopt_46 : decode cX5_adopt 46 = .ok (.iinc 1 1, 3) := by decide +kernel
theorem dX5_adopt_49 : decode cX5_adopt 49 = .ok (.goto (-20), 3) := by decide +kernel
theorem dX5_adopt_52 : decode cX5_adopt 52 = .ok (.aload_n 0, 1) := by decide +kernel
theorem dX5_adopt_53 : decode cX5_adopt 53 = .ok (.invokevirtual 66, 3) := by decide +kernel
theorem dX5_adopt_56 : decode cX5_adopt 56 = .ok (.iconst 1, 1) := by decide +kernel
theorem dX5_adopt_57 : decode cX5_adopt 57 = .ok (.ireturn, 1) := by decide +kernel
theorem dX5_keep_0 : decode cX5_keep 0 = .ok (.aload_n 0, 1) := by decide +kernel
theorem dX5_keep_1 : decode cX5_keep 1 = .ok (.getfield 37, 3) := by decide +kernel
theorem dX5_keep_4 : decode cX5_keep 4 = .ok (.getfield 69, 3) := by decide +kernel
theorem dX5_keep_7 : decode cX5_keep 7 = .ok (.ifCond .ne 5, 3) := by decide +kernel
theorem dX5_keep_10 : decode cX5_keep 10 = .ok (.iconst 0, 1) := by decide +kernel
theorem dX5_keep_11 : decode cX5_keep 11 = .ok (.ireturn, 1) := by decide +kernel
theorem dX5_keep_12 : decode cX5_keep 12 = .ok (.aload_n 0, 1) := by decide +kernel
theorem dX5_keep_13 : decode cX5_keep 13 = .ok (.getfield 41, 3) := by decide +kernel
theorem dX5_keep_16 : decode cX5_keep 16 = .ok (.aload_n 0, 1) := by decide +kernel
theorem dX5_keep_17 : decode cX5_keep 17 = .ok (.getfield 37, 3) := by decide +kernel
theorem dX5_keep_20 : decode cX5_keep 20 = .ok (.invokevirtual 165, 3) := by decide +kernel
theorem dX5_keep_23 : decode cX5_keep 23 = .ok (.iconst 1, 1) := by decide +kernel
theorem dX5_keep_24 : decode cX5_keep 24 = .ok (.ireturn, 1) := by decide +kernel
theorem dX5_same_0 : decode cX5_same 0 = .ok (.aload_n 0, 1) := by decide +kernel
theorem dX5_same_1 : decode cX5_same 1 = .ok (.getfield 37, 3) := by decide +kernel
theorem dX5_same_4 : decode cX5_same 4 = .ok (.getfield 69, 3) := by decide +kernel
theorem dX5_same_7 : decode cX5_same 7 = .ok (.ifCond .le 21, 3) := by decide +kernel
theorem dX5_same_10 : decode cX5_same 10 = .ok (.aload_n 0, 1) := by decide +kernel
theorem dX5_same_11 : decode cX5_same 11 = .ok (.getfield 37, 3) := by decide +kernel
theorem dX5_same_14 : decode cX5_same 14 = .ok (.aload_n 0, 1) := by decide +kernel
theorem dX5_same_15 : decode cX5_same 15 = .ok (.getfield 41, 3) := by decide +kernel
theorem dX5_same_18 : decode cX5_same 18 = .ok (.invokevirtual 171, 3) := by decide +kernel
theorem dX5_same_21 : decode cX5_same 21 = .ok (.ifCond .eq 7, 3) := by decide +kernel
theorem dX5_same_24 : decode cX5_same 24 = .ok (.iconst 1, 1) := by decide +kernel
theorem dX5_same_25 : decode cX5_same 25 = .ok (.goto 4, 3) := by decide +kernel
theorem dX5_same_28 : decode cX5_same 28 = .ok (.iconst 0, 1) := by decide +kernel
theorem dX5_same_29 : decode cX5_same 29 = .ok (.ireturn, 1) := by decide +kernel
theorem dX5_endHandles_0 : decode cX5_endHandles 0 = .ok (.aload_n 0, 1) := by decide +kernel
theorem dX5_endHandles_1 : decode cX5_endHandles 1 = .ok (.iconst 0, 1) := by decide +kernel
theorem dX5_endHandles_2 : decode cX5_endHandles 2 = .ok (.putfield 44, 3) := by decide +kernel
theorem dX5_endHandles_5 : decode cX5_endHandles 5 = .ok (.aload_n 0, 1) := by decide +kernel
theorem dX5_endHandles_6 : decode cX5_endHandles 6 = .ok (.iconst 0, 1) := by decide +kernel
theorem dX5_endHandles_7 : decode cX5_endHandles 7 = .ok (.putfield 48, 3) := by decide +kernel
theorem dX5_endHandles_10 : decode cX5_endHandles 10 = .ok (.return_, 1) := by decide +kernel
theorem dX5_requireHandle_0 : decode cX5_requireHandle 0 = .ok (.iload_n 1, 1) := by decide +kernel
theorem dX5_requireHandle_1 : decode cX5_requireHandle 1 = .ok (.ifCond .lt 11, 3) := by decide +kernel
theorem dX5_requireHandle_4 : decode cX5_requireHandle 4 = .ok (.iload_n 1, 1) := by decide +kernel
theorem dX5_requireHandle_5 : decode cX5_requireHandle 5 = .ok (.aload_n 0, 1) := by decide +kernel
theorem dX5_requireHandle_6 : decode cX5_requireHandle 6 = .ok (.getfield 44, 3) := by decide +kernel
theorem dX5_requireHandle_9 : decode cX5_requireHandle 9 = .ok (.if_icmp .lt 13, 3) := by decide +kernel
theorem dX5_requireHandle_12 : decode cX5_requireHandle 12 = .ok (.new 175, 3) := by decide +kernel
theorem dX5_requireHandle_15 : decode cX5_requireHandle 15 = .ok (.dup, 1) := by decide +kernel
theorem dX5_requireHandle_16 : decode cX5_requireHandle 16 = .ok (.ldc 177, 2) := by decide +kernel
theorem dX5_requireHandle_18 : decode cX5_requireHandle 18 = .ok (.invokespecial 179, 3) := by decide +kernel
theorem dX5_requireHandle_21 : decode cX5_requireHandle 21 = .ok (.athrow, 1) := by decide +kernel
theorem dX5_requireHandle_22 : decode cX5_requireHandle 22 = .ok (.aload_n 0, 1) := by decide +kernel
theorem dX5_requireHandle_23 : decode cX5_requireHandle 23 = .ok (.getfield 25, 3) := by decide +kernel
theorem dX5_requireHandle_26 : decode cX5_requireHandle 26 = .ok (.iload_n 1, 1) := by decide +kernel
theorem dX5_requireHandle_27 : decode cX5_requireHandle 27 = .ok (.aaload, 1) := by decide +kernel
theorem dX5_requireHandle_28 : decode cX5_requireHandle 28 = .ok (.areturn, 1) := by decide +kernel
theorem dX5_requireFreeHandle_0 : decode cX5_requireFreeHandle 0 = .ok (.aload_n 0, 1) := by decide +kernel
theorem dX5_requireFreeHandle_1 : decode cX5_requireFreeHandle 1 = .ok (.getfield 44, 3) := by decide +kernel
theorem dX5_requireFreeHandle_4 : decode cX5_requireFreeHandle 4 = .ok (.bipush 16, 2) := by decide +kernel
theorem dX5_requireFreeHandle_6 : decode cX5_requireFreeHandle 6 = .ok (.if_icmp .lt 13, 3) := by decide +kernel
theorem dX5_requireFreeHandle_9 : decode cX5_requireFreeHandle 9 = .ok (.new 180, 3) := by decide +kernel
theorem dX5_requireFreeHandle_12 : decode cX5_requireFreeHandle 12 = .ok (.dup, 1) := by decide +kernel
theorem dX5_requireFreeHandle_13 : decode cX5_requireFreeHandle 13 = .ok (.ldc 182, 2) := by decide +kernel
theorem dX5_requireFreeHandle_15 : decode cX5_requireFreeHandle 15 = .ok (.invokespecial 184, 3) := by decide +kernel
theorem dX5_requireFreeHandle_18 : decode cX5_requireFreeHandle 18 = .ok (.athrow, 1) := by decide +kernel
theorem dX5_requireFreeHandle_19 : decode cX5_requireFreeHandle 19 = .ok (.return_, 1) := by decide +kernel
theorem dX5_requireElement_0 : decode cX5_requireElement 0 = .ok (.iload_n 1, 1) := by decide +kernel
theorem dX5_requireElement_1 : decode cX5_requireElement 1 = .ok (.ifCond .lt 18, 3) := by decide +kernel
theorem dX5_requireElement_4 : decode cX5_requireElement 4 = .ok (.aload_n 0, 1) := by decide +kernel
theorem dX5_requireElement_5 : decode cX5_requireElement 5 = .ok (.getfield 102, 3) := by decide +kernel
theorem dX5_requireElement_8 : decode cX5_requireElement 8 = .ok (.ifCond .eq 21, 3) := by decide +kernel
theorem dX5_requireElement_11 : decode cX5_requireElement 11 = .ok (.iload_n 1, 1) := by decide +kernel
theorem dX5_requireElement_12 : decode cX5_requireElement 12 = .ok (.aload_n 0, 1) := by decide +kernel
theorem dX5_requireElement_13 : decode cX5_requireElement 13 = .ok (.getfield 92, 3) := by decide +kernel
theorem dX5_requireElement_16 : decode cX5_requireElement 16 = .ok (.if_icmp .lt 13, 3) := by decide +kernel
theorem dX5_requireElement_19 : decode cX5_requireElement 19 = .ok (.new 147, 3) := by decide +kernel
theorem dX5_requireElement_22 : decode cX5_requireElement 22 = .ok (.dup, 1) := by decide +kernel
theorem dX5_requireElement_23 : decode cX5_requireElement 23 = .ok (.ldc 185, 2) := by decide +kernel
theorem dX5_requireElement_25 : decode cX5_requireElement 25 = .ok (.invokespecial 151, 3) := by decide +kernel
theorem dX5_requireElement_28 : decode cX5_requireElement 28 = .ok (.athrow, 1) := by decide +kernel
theorem dX5_requireElement_29 : decode cX5_requireElement 29 = .ok (.return_, 1) := by decide +kernel
theorem dX6_init_0 : decode cX6_init 0 = .ok (.aload_n 0, 1) := by decide +kernel
theorem dX6_init_1 : decode cX6_init 1 = .ok (.invokespecial 1, 3) := by decide +kernel
theorem dX6_init_4 : decode cX6_init 4 = .ok (.aload_n 0, 1) := by decide +kernel
theorem dX6_init_5 : decode cX6_init 5 = .ok (.sipush 256, 3) := by decide +kernel
theorem dX6_init_8 : decode cX6_init 8 = .ok (.newarray .long, 2) := by decide +kernel
theorem dX6_init_10 : decode cX6_init 10 = .ok (.putfield 7, 3) := by decide +kernel
theorem dX6_init_13 : decode cX6_init 13 = .ok (.aload_n 0, 1) := by decide +kernel
theorem dX6_init_14 : decode cX6_init 14 = .ok (.iconst 4, 1) := by decide +kernel
theorem dX6_init_15 : decode cX6_init 15 = .ok (.newarray .int, 2) := by decide +kernel
theorem dX6_init_17 : decode cX6_init 17 = .ok (.putfield 13, 3) := by decide +kernel
theorem dX6_init_20 : decode cX6_init 20 = .ok (.aload_n 0, 1) := by decide +kernel
theorem dX6_init_21 : decode cX6_init 21 = .ok (.bipush 63, 2) := by decide +kernel
theorem dX6_init_23 : decode cX6_init 23 = .ok (.putfield 17, 3) := by decide +kernel
theorem dX6_init_26 : decode cX6_init 26 = .ok (.aload_n 0, 1) := by decide +kernel
theorem dX6_init_27 : decode cX6_init 27 = .ok (.bipush 16, 2) := by decide +kernel
theorem dX6_init_29 : decode cX6_init 29 = .ok (.newarray .int, 2) := by decide +kernel
theorem dX6_init_31 : decode cX6_init 31 = .ok (.putfield 21, 3) := by decide +kernel
theorem dX6_init_34 : decode cX6_init 34 = .ok (.aload_n 0, 1) := by decide +kernel
theorem dX6_init_35 : decode cX6_init 35 = .ok (.bipush 16, 2) := by decide +kernel
theorem dX6_init_37 : decode cX6_init 37 = .ok (.newarray .int, 2) := by decide +kernel
theorem dX6_init_39 : decode cX6_init 39 = .ok (.putfield 24, 3) := by decide +kernel
theorem dX6_init_42 : decode cX6_init 42 = .ok (.aload_n 0, 1) := by decide +kernel
theorem dX6_init_43 : decode cX6_init 43 = .ok (.bipush 16, 2) := by decide +kernel
theorem dX6_init_45 : decode cX6_init 45 = .ok (.newarray .int, 2) := by decide +kernel
theorem dX6_init_47 : decode cX6_init 47 = .ok (.putfield 27, 3) := by decide +kernel
theorem dX6_init_50 : decode cX6_init 50 = .ok (.aload_n 0, 1) := by decide +kernel
theorem dX6_init_51 : decode cX6_init 51 = .ok (.bipush 16, 2) := by decide +kernel
theorem dX6_init_53 : decode cX6_init 53 = .ok (.newarray .int, 2) := by decide +kernel
theorem dX6_init_55 : decode cX6_init 55 = .ok (.putfield 30, 3) := by decide +kernel
theorem dX6_init_58 : decode cX6_init 58 = .ok (.aload_n 0, 1) := by decide +kernel
theorem dX6_init_59 : decode cX6_init 59 = .ok (.bipush 16, 2) := by decide +kernel
theorem dX6_init_61 : decode cX6_init 61 = .ok (.newarray .int, 2) := by decide +kernel
theorem dX6_init_63 : decode cX6_init 63 = .ok (.putfield 33, 3) := by decide +kernel
theorem dX6_init_66 : decode cX6_init 66 = .ok (.aload_n 0, 1) := by decide +kernel
theorem dX6_init_67 : decode cX6_init 67 = .ok (.bipush 16, 2) := by decide +kernel
theorem dX6_init_69 : decode cX6_init 69 = .ok (.newarray .int, 2) := by decide +kernel
theorem dX6_init_71 : decode cX6_init 71 = .ok (.putfield 36, 3) := by decide +kernel
theorem dX6_init_74 : decode cX6_init 74 = .ok (.aload_n 0, 1) := by decide +kernel
theorem dX6_init_75 : decode cX6_init 75 = .ok (.bipush 16, 2) := by decide +kernel
theorem dX6_init_77 : decode cX6_init 77 = .ok (.newarray .int, 2) := by decide +kernel
theorem dX6_init_79 : decode cX6_init 79 = .ok (.putfield 39, 3) := by decide +kernel
theorem dX6_init_82 : decode cX6_init 82 = .ok (.aload_n 0, 1) := by decide +kernel
theorem dX6_init_83 : decode cX6_init 83 = .ok (.sipush 160, 3) := by decide +kernel
theorem dX6_init_86 : decode cX6_init 86 = .ok (.newarray .long, 2) := by decide +kernel
theorem dX6_init_88 : decode cX6_init 88 = .ok (.putfield 42, 3) := by decide +kernel
theorem dX6_init_91 : decode cX6_init 91 = .ok (.aload_n 0, 1) := by decide +kernel
theorem dX6_init_92 : decode cX6_init 92 = .ok (.iconst (-1), 1) := by decide +kernel
theorem dX6_init_93 : decode cX6_init 93 = .ok (.putfield 45, 3) := by decide +kernel
theorem dX6_init_96 : decode cX6_init 96 = .ok (.aload_n 0, 1) := by decide +kernel
theorem dX6_init_97 : decode cX6_init 97 = .ok (.sipush 160, 3) := by decide +kernel
theorem dX6_init_100 : decode cX6_init 100 = .ok (.newarray .long, 2) := by decide +kernel
theorem dX6_init_102 : decode cX6_init 102 = .ok (.putfield 48, 3) := by decide +kernel
theorem dX6_init_105 : decode cX6_init 105 = .ok (.aload_n 0, 1) := by decide +kernel
theorem dX6_init_106 : decode cX6_init 106 = .ok (.iconst (-1), 1) := by decide +kernel
theorem dX6_init_107 : decode cX6_init 107 = .ok (.putfield 51, 3) := by decide +kernel
theorem dX6_init_110 : decode cX6_init 110 = .ok (.aload_n 0, 1) := by decide +kernel
theorem dX6_init_111 : decode cX6_init 111 = .ok (.sipush 160, 3) := by decide +kernel
theorem dX6_init_114 : decode cX6_init 114 = .ok (.newarray .long, 2) := by decide +kernel
theorem dX6_init_116 : decode cX6_init 116 = .ok (.putfield 54, 3) := by decide +kernel
theorem dX6_init_119 : decode cX6_init 119 = .ok (.aload_n 0, 1) := by decide +kernel
theorem dX6_init_120 : decode cX6_init 120 = .ok (.sipush 200, 3) := by decide +kernel
theorem dX6_init_123 : decode cX6_init 123 = .ok (.newarray .int, 2) := by decide +kernel
theorem dX6_init_125 : decode cX6_init 125 = .ok (.putfield 57, 3) := by decide +kernel
theorem dX6_init_128 : decode cX6_init 128 = .ok (.aload_n 0, 1) := by decide +kernel
theorem dX6_init_129 : decode cX6_init 129 = .ok (.sipush 200, 3) := by decide +kernel
theorem dX6_init_132 : decode cX6_init 132 = .ok (.newarray .int, 2) := by decide +kernel
theorem dX6_init_134 : decode cX6_init 134 = .ok (.putfield 60, 3) := by decide +kernel
theorem dX6_init_137 : decode cX6_init 137 = .ok (.aload_n 0, 1) := by decide +kernel
theorem dX6_init_138 : decode cX6_init 138 = .ok (.sipush 200, 3) := by decide +kernel
theorem dX6_init_141 : decode cX6_init 141 = .ok (.newarray .int, 2) := by decide +kernel
theorem dX6_init_143 : decode cX6_init 143 = .ok (.putfield 63, 3) := by decide +kernel
theorem dX6_init_146 : decode cX6_init 146 = .ok (.aload_n 0, 1) := by decide +kernel
theorem dX6_init_147 : decode cX6_init 147 = .ok (.sipush 200, 3) := by decide +kernel
theorem dX6_init_150 : decode cX6_init 150 = .ok (.newarray .int, 2) := by decide +kernel
theorem dX6_init_152 : decode cX6_init 152 = .ok (.putfield 66, 3) := by decide +kernel
theorem dX6_init_155 : decode cX6_init 155 = .ok (.return_, 1) := by decide +kernel
theorem dX6_thrown_0 : decode cX6_thrown 0 = .ok (.aload_n 0, 1) := by decide +kernel
theorem dX6_thrown_1 : decode cX6_thrown 1 = .ok (.getfield 69, 3) := by decide +kernel
theorem dX6_thrown_4 : decode cX6_thrown 4 = .ok (.ireturn, 1) := by decide +kernel
theorem dX6_fail_0 : decode cX6_fail 0 = .ok (.aload_n 0, 1) := by decide +kernel
theorem dX6_fail_1 : decode cX6_fail 1 = .ok (.iload_n 1, 1) := by decide +kernel
theorem dX6_fail_2 : decode cX6_fail 2 = .ok (.putfield 69, 3) := by decide +kernel
theorem dX6_fail_5 : decode cX6_fail 5 = .ok (.iconst 0, 1) := by decide +kernel
theorem dX6_fail_6 : decode cX6_fail 6 = .ok (.ireturn, 1) := by decide +kernel
theorem dX6_add_0 : decode cX6_add 0 = .ok (.aload_n 0, 1) := by decide +kernel
theorem dX6_add_1 : decode cX6_add 1 = .ok (.iconst 0, 1) := by decide +kernel
theorem dX6_add_2 : decode cX6_add 2 = .ok (.putfield 69, 3) := by decide +kernel
theorem dX6_add_5 : decode cX6_add 5 = .ok (.iload_n 1, 1) := by decide +kernel
theorem dX6_add_6 : decode cX6_add 6 = .ok (.ifCond .lt 19, 3) := by decide +kernel
theorem dX6_add_9 : decode cX6_add 9 = .ok (.iload_n 1, 1) := by decide +kernel
theorem dX6_add_10 : decode cX6_add 10 = .ok (.iconst 3, 1) := by decide +kernel
theorem dX6_add_11 : decode cX6_add 11 = .ok (.if_icmp .gt 14, 3) := by decide +kernel
theorem dX6_add_14 : decode cX6_add 14 = .ok (.aload_n 0, 1) := by decide +kernel
theorem dX6_add_15 : decode cX6_add 15 = .ok (.getfield 13, 3) := by decide +kernel
theorem dX6_add_18 : decode cX6_add 18 = .ok (.iload_n 1, 1) := by decide +kernel
theorem dX6_add_19 : decode cX6_add 19 = .ok (.iaload, 1) := by decide +kernel
theorem dX6_add_20 : decode cX6_add 20 = .ok (.bipush 64, 2) := by decide +kernel
theorem dX6_add_22 : decode cX6_add 22 = .ok (.if_icmp .ne 5, 3) := by decide +kernel
theorem dX6_add_25 : decode cX6_add 25 = .ok (.iconst (-1), 1) := by decide +kernel
theorem dX6_add_26 : decode cX6_add 26 = .ok (.ireturn, 1) := by decide +kernel
theorem dX6_add_27 : decode cX6_add 27 = .ok (.aload_n 0, 1) := by decide +kernel
theorem dX6_add_28 : decode cX6_add 28 = .ok (.getfield 7, 3) := by decide +kernel
theorem dX6_add_31 : decode cX6_add 31 = .ok (.bipush 64, 2) := by decide +kernel
theorem dX6_add_33 : decode cX6_add 33 = .ok (.iload_n 1, 1) := by decide +kernel
theorem dX6_add_34 : decode cX6_add 34 = .ok (.imul, 1) := by decide +kernel
theorem dX6_add_35 : decode cX6_add 35 = .ok (.aload_n 0, 1) := by decide +kernel
theorem dX6_add_36 : decode cX6_add 36 = .ok (.getfield 13, 3) := by decide +kernel
theorem dX6_add_39 : decode cX6_add 39 = .ok (.iload_n 1, 1) := by decide +kernel
theorem dX6_add_40 : decode cX6_add 40 = .ok (.iaload, 1) := by decide +kernel
theorem dX6_add_41 : decode cX6_add 41 = .ok (.iadd, 1) := by decide +kernel
theorem dX6_add_42 : decode cX6_add 42 = .ok (.lload_n 2, 1) := by decide +kernel
theorem dX6_add_43 : decode cX6_add 43 = .ok (.lastore, 1) := by decide +kernel
theorem dX6_add_44 : decode cX6_add 44 = .ok (.aload_n 0, 1) := by decide +kernel
theorem dX6_add_45 : decode cX6_add 45 = .ok (.getfield 13, 3) := by decide +kernel
theorem dX6_add_48 : decode cX6_add 48 = .ok (.iload_n 1, 1) := by decide +kernel
theorem dX6_add_49 : decode cX6_add 49 = .ok (.dup2, 1) := by decide +kernel
theorem dX6_add_50 : decode cX6_add 50 = .ok (.iaload, 1) := by decide +kernel
theorem dX6_add_51 : decode cX6_add 51 = .ok (.iconst 1, 1) := by decide +kernel
theorem dX6_add_52 : decode cX6_add 52 = .ok (.iadd, 1) := by decide +kernel
theorem dX6_add_53 : decode cX6_add 53 = .ok (.iastore, 1) := by decide +kernel
theorem dX6_add_54 : decode cX6_add 54 = .ok (.aload_n 0, 1) := by decide +kernel
theorem dX6_add_55 : decode cX6_add 55 = .ok (.iconst 0, 1) := by decide +kernel
theorem dX6_add_56 : decode cX6_add 56 = .ok (.putfield 72, 3) := by decide +kernel
theorem dX6_add_59 : decode cX6_add 59 = .ok (.aload_n 0, 1) := by decide +kernel
theorem dX6_add_60 : decode cX6_add 60 = .ok (.getfield 13, 3) := by decide +kernel
theorem dX6_add_63 : decode cX6_add 63 = .ok (.iload_n 1, 1) := by decide +kernel
theorem dX6_add_64 : decode cX6_add 64 = .ok (.iaload, 1) := by decide +kernel
theorem dX6_add_65 : decode cX6_add 65 = .ok (.iconst 1, 1) := by decide +kernel
theorem dX6_add_66 : decode cX6_add 66 = .ok (.isub, 1) := by decide +kernel
theorem dX6_add_67 : decode cX6_add 67 = .ok (.ireturn, 1) := by decide +kernel
theorem dX6_isWord_0 : decode cX6_isWord 0 = .ok (.iload_n 1, 1) := by decide +kernel
theorem dX6_isWord_1 : decode cX6_isWord 1 = .ok (.ifCond .lt 26, 3) := by decide +kernel
theorem dX6_isWord_4 : decode cX6_isWord 4 = .ok (.iload_n 1, 1) := by decide +kernel
theorem dX6_isWord_5 : decode cX6_isWord 5 = .ok (.iconst 4, 1) := by decide +kernel
theorem dX6_isWord_6 : decode cX6_isWord 6 = .ok (.if_icmp .ge 21, 3) := by decide +kernel
theorem dX6_isWord_9 : decode cX6_isWord 9 = .ok (.iload_n 2, 1) := by decide +kernel
theorem dX6_isWord_10 : decode cX6_isWord 10 = .ok (.ifCond .lt 17, 3) := by decide +kernel
theorem dX6_isWord_13 : decode cX6_isWord 13 = .ok (.iload_n 2, 1) := by decide +kernel
theorem dX6_isWord_14 : decode cX6_isWord 14 = .ok (.aload_n 0, 1) := by decide +kernel
theorem dX6_isWord_15 : decode cX6_isWord 15 = .ok (.getfield 13, 3) := by decide +kernel
theorem dX6_isWord_18 : decode cX6_isWord 18 = .ok (.iload_n 1, 1) := by decide +kernel
theorem dX6_isWord_19 : decode cX6_isWord 19 = .ok (.iaload, 1) := by decide +kernel
theorem dX6_isWord_20 : decode cX6_isWord 20 = .ok (.if_icmp .ge 7, 3) := by decide +kernel
theorem dX6_isWord_23 : decode cX6_isWord 23 = .ok (.iconst 1, 1) := by decide +kernel
theorem dX6_isWord_24 : decode cX6_isWord 24 = .ok (.goto 4, 3) := by decide +kernel
theorem dX6_isWord_27 : decode cX6_isWord 27 = .ok (.iconst 0, 1) := by decide +kernel
theorem dX6_isWord_28 : decode cX6_isWord 28 = .ok (.ireturn, 1) := by decide +kernel
theorem dX6_change_0 : decode cX6_change 0 = .ok (.aload_n 0, 1) := by decide +kernel
theorem dX6_change_1 : decode cX6_change 1 = .ok (.iconst 0, 1) := by decide +kernel
theorem dX6_change_2 : decode cX6_change 2 = .ok (.putfield 69, 3) := by decide +kernel
theorem dX6_change_5 : decode cX6_change 5 = .ok (.aload_n 0, 1) := by decide +kernel
theorem dX6_change_6 : decode cX6_change 6 = .ok (.iload_n 1, 1) := by decide +kernel
theorem dX6_change_7 : decode cX6_change 7 = .ok (.iload_n 2, 1) := by decide +kernel
theorem dX6_change_8 : decode cX6_change 8 = .ok (.invokevirtual 75, 3) := by decide +kernel
theorem dX6_change_11 : decode cX6_change 11 = .ok (.ifCond .ne 5, 3) := by decide +kernel
theorem dX6_change_14 : decode cX6_change 14 = .ok (.iconst 0, 1) := by decide +kernel
theorem dX6_change_15 : decode cX6_change 15 = .ok (.ireturn, 1) := by decide +kernel
theorem dX6_change_16 : decode cX6_change 16 = .ok (.aload_n 0, 1) := by decide +kernel
theorem dX6_change_17 : decode cX6_change 17 = .ok (.getfield 7, 3) := by decide +kernel
theorem dX6_change_20 : decode cX6_change 20 = .ok (.bipush 64, 2) := by decide +kernel
theorem dX6_change_22 : decode cX6_change 22 = .ok (.iload_n 1, 1) := by decide +kernel
theorem dX6_change_23 : decode cX6_change 23 = .ok (.imul, 1) := by decide +kernel
theorem dX6_change_24 : decode cX6_change 24 = .ok (.iload_n 2, 1) := by decide +kernel
theorem dX6_change_25 : decode cX6_change 25 = .ok (.iadd, 1) := by decide +kernel
theorem dX6_change_26 : decode cX6_change 26 = .ok (.lload_n 3, 1) := by decide +kernel
theorem dX6_change_27 : decode cX6_change 27 = .ok (.lastore, 1) := by decide +kernel
theorem dX6_change_28 : decode cX6_change 28 = .ok (.aload_n 0, 1) := by decide +kernel
theorem dX6_change_29 : decode cX6_change 29 = .ok (.iconst 0, 1) := by decide +kernel
theorem dX6_change_30 : decode cX6_change 30 = .ok (.putfield 72, 3) := by decide +kernel
theorem dX6_change_33 : decode cX6_change 33 = .ok (.iconst 1, 1) := by decide +kernel
theorem dX6_change_34 : decode cX6_change 34 = .ok (.ireturn, 1) := by decide +kernel
theorem dX6_cut_0 : decode cX6_cut 0 = .ok (.aload_n 0, 1) := by decide +kernel
theorem dX6_cut_1 : decode cX6_cut 1 = .ok (.iconst 0, 1) := by decide +kernel
theorem dX6_cut_2 : decode cX6_cut 2 = .ok (.putfield 69, 3) := by decide +kernel
theorem dX6_cut_5 : decode cX6_cut 5 = .ok (.iload_n 1, 1) := by decide +kernel
theorem dX6_cut_6 : decode cX6_cut 6 = .ok (.ifCond .lt 22, 3) := by decide +kernel
theorem dX6_cut_9 : decode cX6_cut 9 = .ok (.iload_n 1, 1) := by decide +kernel
theorem dX6_cut_10 : decode cX6_cut 10 = .ok (.iconst 3, 1) := by decide +kernel
theorem dX6_cut_11 : decode cX6_cut 11 = .ok (.if_icmp .gt 17, 3) := by decide +kernel
theorem dX6_cut_14 : decode cX6_cut 14 = .ok (.iload_n 2, 1) := by decide +kernel
theorem dX6_cut_15 : decode cX6_cut 15 = .ok (.ifCond .lt 13, 3) := by decide +kernel
theorem dX6_cut_18 : decode cX6_cut 18 = .ok (.iload_n 2, 1) := by decide +kernel
theorem dX6_cut_19 : decode cX6_cut 19 = .ok (.aload_n 0, 1) := by decide +kernel
theorem dX6_cut_20 : decode cX6_cut 20 = .ok (.getfield 13, 3) := by decide +kernel
theorem dX6_cut_23 : decode cX6_cut 23 = .ok (.iload_n 1, 1) := by decide +kernel
theorem dX6_cut_24 : decode cX6_cut 24 = .ok (.iaload, 1) := by decide +kernel
theorem dX6_cut_25 : decode cX6_cut 25 = .ok (.if_icmp .le 5, 3) := by decide +kernel
theorem dX6_cut_28 : decode cX6_cut 28 = .ok (.iconst 0, 1) := by decide +kernel
theorem dX6_cut_29 : decode cX6_cut 29 = .ok (.ireturn, 1) := by decide +kernel
theorem dX6_cut_30 : decode cX6_cut 30 = .ok (.aload_n 0, 1) := by decide +kernel
theorem dX6_cut_31 : decode cX6_cut 31 = .ok (.getfield 13, 3) := by decide +kernel
theorem dX6_cut_34 : decode cX6_cut 34 = .ok (.iload_n 1, 1) := by decide +kernel
theorem dX6_cut_35 : decode cX6_cut 35 = .ok (.iload_n 2, 1) := by decide +kernel
theorem dX6_cut_36 : decode cX6_cut 36 = .ok (.iastore, 1) := by decide +kernel
theorem dX6_cut_37 : decode cX6_cut 37 = .ok (.aload_n 0, 1) := by decide +kernel
theorem dX6_cut_38 : decode cX6_cut 38 = .ok (.iconst 0, 1) := by decide +kernel
theorem dX6_cut_39 : decode cX6_cut 39 = .ok (.putfield 72, 3) := by decide +kernel
theorem dX6_cut_42 : decode cX6_cut 42 = .ok (.iconst 1, 1) := by decide +kernel
theorem dX6_cut_43 : decode cX6_cut 43 = .ok (.ireturn, 1) := by decide +kernel
theorem dX6_words_0 : decode cX6_words 0 = .ok (.aload_n 0, 1) := by decide +kernel
theorem dX6_words_1 : decode cX6_words 1 = .ok (.iconst 0, 1) := by decide +kernel
theorem dX6_words_2 : decode cX6_words 2 = .ok (.putfield 69, 3) := by decide +kernel
theorem dX6_words_5 : decode cX6_words 5 = .ok (.iload_n 1, 1) := by decide +kernel
theorem dX6_words_6 : decode cX6_words 6 = .ok (.ifCond .lt 8, 3) := by decide +kernel
theorem dX6_words_9 : decode cX6_words 9 = .ok (.iload_n 1, 1) := by decide +kernel
theorem dX6_words_10 : decode cX6_words 10 = .ok (.iconst 3, 1) := by decide +kernel
theorem dX6_words_11 : decode cX6_words 11 = .ok (.if_icmp .le 7, 3) := by decide +kernel
theorem dX6_words_14 : decode cX6_words 14 = .ok (.iconst (-1), 1) := by decide +kernel
theorem dX6_words_15 : decode cX6_words 15 = .ok (.goto 9, 3) := by decide +kernel
theorem dX6_words_18 : decode cX6_words 18 = .ok (.aload_n 0, 1) := by decide +kernel
theorem dX6_words_19 : decode cX6_words 19 = .ok (.getfield 13, 3) := by decide +kernel
theorem dX6_words_22 : decode cX6_words 22 = .ok (.iload_n 1, 1) := by decide +kernel
theorem dX6_words_23 : decode cX6_words 23 = .ok (.iaload, 1) := by decide +kernel
theorem dX6_words_24 : decode cX6_words 24 = .ok (.ireturn, 1) := by decide +kernel
theorem dX6_word_0 : decode cX6_word 0 = .ok (.aload_n 0, 1) := by decide +kernel
theorem dX6_word_1 : decode cX6_word 1 = .ok (.iconst 0, 1) := by decide +kernel
theorem dX6_word_2 : decode cX6_word 2 = .ok (.putfield 69, 3) := by decide +kernel
theorem dX6_word_5 : decode cX6_word 5 = .ok (.aload_n 0, 1) := by decide +kernel
theorem dX6_word_6 : decode cX6_word 6 = .ok (.iload_n 1, 1) := by decide +kernel
theorem dX6_word_7 : decode cX6_word 7 = .ok (.iload_n 2, 1) := by decide +kernel
theorem dX6_word_8 : decode cX6_word 8 = .ok (.invokevirtual 75, 3) := by decide +kernel
theorem dX6_word_11 : decode cX6_word 11 = .ok (.ifCond .eq 17, 3) := by decide +kernel
theorem dX6_word_14 : decode cX6_word 14 = .ok (.aload_n 0, 1) := by decide +kernel
theorem dX6_word_15 : decode cX6_word 15 = .ok (.getfield 7, 3) := by decide +kernel
theorem dX6_word_18 : decode cX6_word 18 = .ok (.bipush 64, 2) := by decide +kernel
theorem dX6_word_20 : decode cX6_word 20 = .ok (.iload_n 1, 1) := by decide +kernel
theorem dX6_word_21 : decode cX6_word 21 = .ok (.imul, 1) := by decide +kernel
theorem dX6_word_22 : decode cX6_word 22 = .ok (.iload_n 2, 1) := by decide +kernel
theorem dX6_word_23 : decode cX6_word 23 = .ok (.iadd, 1) := by decide +kernel
theorem dX6_word_24 : decode cX6_word 24 = .ok (.laload, 1) := by decide +kernel
theorem dX6_word_25 : decode cX6_word 25 = .ok (.goto 4, 3) := by decide +kernel
theorem dX6_word_28 : decode cX6_word 28 = .ok (.lconst 0, 1) := by decide +kernel
theorem dX6_word_29 : decode cX6_word 29 = .ok (.lreturn, 1) := by decide +kernel
theorem dX6_budget_0 : decode cX6_budget 0 = .ok (.aload_n 0, 1) := by decide +kernel
theorem dX6_budget_1 : decode cX6_budget 1 = .ok (.iconst 0, 1) := by decide +kernel
theorem dX6_budget_2 : decode cX6_budget 2 = .ok (.putfield 69, 3) := by decide +kernel
theorem dX6_budget_5 : decode cX6_budget 5 = .ok (.iload_n 1, 1) := by decide +kernel
theorem dX6_budget_6 : decode cX6_budget 6 = .ok (.ifCond .lt 9, 3) := by decide +kernel
theorem dX6_budget_9 : decode cX6_budget 9 = .ok (.iload_n 1, 1) := by decide +kernel
theorem dX6_budget_10 : decode cX6_budget 10 = .ok (.bipush 63, 2) := by decide +kernel
theorem dX6_budget_12 : decode cX6_budget 12 = .ok (.if_icmp .le 5, 3) := by decide +kernel
theorem dX6_budget_15 : decode cX6_budget 15 = .ok (.iconst 0, 1) := by decide +kernel
theorem dX6_budget_16 : decode cX6_budget 16 = .ok (.ireturn, 1) := by decide +kernel
theorem dX6_budget_17 : decode cX6_budget 17 = .ok (.aload_n 0, 1) := by decide +kernel
theorem dX6_budget_18 : decode cX6_budget 18 = .ok (.iload_n 1, 1) := by decide +kernel
theorem dX6_budget_19 : decode cX6_budget 19 = .ok (.putfield 17, 3) := by decide +kernel
theorem dX6_budget_22 : decode cX6_budget 22 = .ok (.iconst 1, 1) := by decide +kernel
theorem dX6_budget_23 : decode cX6_budget 23 = .ok (.ireturn, 1) := by decide +kernel
theorem dX6_offset_0 : decode cX6_offset 0 = .ok (.lload_n 0, 1) := by decide +kernel
theorem dX6_offset_1 : decode cX6_offset 1 = .ok (.l2i, 1) := by decide +kernel
theorem dX6_offset_2 : decode cX6_offset 2 = .ok (.iconst 2, 1) := by decide +kernel
theorem dX6_offset_3 : decode cX6_offset 3 = .ok (.ishr, 1) := by decide +kernel
theorem dX6_offset_4 : decode cX6_offset 4 = .ok (.ireturn, 1) := by decide +kernel
theorem dX6_isPad_0 : decode cX6_isPad 0 = .ok (.lload_n 0, 1) := by decide +kernel
theorem dX6_isPad_1 : decode cX6_isPad 1 = .ok (.lconst 0, 1) := by decide +kernel
theorem dX6_isPad_2 : decode cX6_isPad 2 = .ok (.lcmp, 1) := by decide +kernel
theorem dX6_isPad_3 : decode cX6_isPad 3 = .ok (.ifCond .eq 19, 3) := by decide +kernel
theorem dX6_isPad_6 : decode cX6_isPad 6 = .ok (.lload_n 0, 1) := by decide +kernel
theorem dX6_isPad_7 : decode cX6_isPad 7 = .ok (.ldc2_w 79, 3) := by decide +kernel
theorem dX6_isPad_10 : decode cX6_isPad 10 = .ok (.land, 1) := by decide +kernel
theorem dX6_isPad_11 : decode cX6_isPad 11 = .ok (.ldc2_w 81, 3) := by decide +kernel
theorem dX6_isPad_14 : decode cX6_isPad 14 = .ok (.lcmp, 1) := by decide +kernel
theorem dX6_isPad_15 : decode cX6_isPad 15 = .ok (.ifCond .ge 7, 3) := by decide +kernel
theorem dX6_isPad_18 : decode cX6_isPad 18 = .ok (.iconst 1, 1) := by decide +kernel
theorem dX6_isPad_19 : decode cX6_isPad 19 = .ok (.goto 4, 3) := by decide +kernel
theorem dX6_isPad_22 : decode cX6_isPad 22 = .ok (.iconst 0, 1) := by decide +kernel
theorem dX6_isPad_23 : decode cX6_isPad 23 = .ok (.ireturn, 1) := by decide +kernel
theorem dX6_bits_0 : decode cX6_bits 0 = .ok (.iload_n 0, 1) := by decide +kernel
theorem dX6_bits_1 : decode cX6_bits 1 = .ok (.ifCond .ne 7, 3) := by decide +kernel
theorem dX6_bits_4 : decode cX6_bits 4 = .ok (.iconst 0, 1) := by decide +kernel
theorem dX6_bits_5 : decode cX6_bits 5 = .ok (.goto 44, 3) := by decide +kernel
theorem dX6_bits_8 : decode cX6_bits 8 = .ok (.iload_n 0, 1) := by decide +kernel
theorem dX6_bits_9 : decode cX6_bits 9 = .ok (.iconst 1, 1) := by decide +kernel
theorem dX6_bits_10 : decode cX6_bits 10 = .ok (.if_icmp .ne 7, 3) := by decide +kernel
theorem dX6_bits_13 : decode cX6_bits 13 = .ok (.iconst 1, 1) := by decide +kernel
theorem dX6_bits_14 : decode cX6_bits 14 = .ok (.goto 35, 3) := by decide +kernel
theorem dX6_bits_17 : decode cX6_bits 17 = .ok (.iload_n 0, 1) := by decide +kernel
theorem dX6_bits_18 : decode cX6_bits 18 = .ok (.iconst 2, 1) := by decide +kernel
theorem dX6_bits_19 : decode cX6_bits 19 = .ok (.if_icmp .ne 8, 3) := by decide +kernel
theorem dX6_bits_22 : decode cX6_bits 22 = .ok (.bipush 8, 2) := by decide +kernel
theorem dX6_bits_24 : decode cX6_bits 24 = .ok (.goto 25, 3) := by decide +kernel
theorem dX6_bits_27 : decode cX6_bits 27 = .ok (.iload_n 0, 1) := by decide +kernel
theorem dX6_bits_28 : decode cX6_bits 28 = .ok (.iconst 3, 1) := by decide +kernel
theorem dX6_bits_29 : decode cX6_bits 29 = .ok (.if_icmp .ne 8, 3) := by decide +kernel
theorem dX6_bits_32 : decode cX6_bits 32 = .ok (.bipush 16, 2) := by decide +kernel
theorem dX6_bits_34 : decode cX6_bits 34 = .ok (.goto 15, 3) := by decide +kernel
theorem dX6_bits_37 : decode cX6_bits 37 = .ok (.iload_n 0, 1) := by decide +kernel
theorem dX6_bits_38 : decode cX6_bits 38 = .ok (.iconst 4, 1) := by decide +kernel
theorem dX6_bits_39 : decode cX6_bits 39 = .ok (.if_icmp .ne 8, 3) := by decide +kernel
theorem dX6_bits_42 : decode cX6_bits 42 = .ok (.bipush 32, 2) := by decide +kernel
theorem dX6_bits_44 : decode cX6_bits 44 = .ok (.goto 5, 3) := by decide +kernel
theorem dX6_bits_47 : decode cX6_bits 47 = .ok (.bipush 64, 2) := by decide +kernel
theorem dX6_bits_49 : decode cX6_bits 49 = .ok (.ireturn, 1) := by decide +kernel
theorem dX6_follow_0 : decode cX6_follow 0 = .ok (.aload_n 0, 1) := by decide +kernel
theorem dX6_follow_1 : decode cX6_follow 1 = .ok (.getfield 7, 3) := by decide +kernel
theorem dX6_follow_4 : decode cX6_follow 4 = .ok (.bipush 64, 2) := by decide +kernel
theorem dX6_follow_6 : decode cX6_follow 6 = .ok (.iload_n 1, 1) := by decide +kernel
theorem dX6_follow_7 : decode cX6_follow 7 = .ok (.imul, 1) := by decide +kernel
theorem dX6_follow_8 : decode cX6_follow 8 = .ok (.iload_n 2, 1) := by decide +kernel
theorem dX6_follow_9 : decode cX6_follow 9 = .ok (.iadd, 1) := by decide +kernel
theorem dX6_follow_10 : decode cX6_follow 10 = .ok (.laload, 1) := by decide +kernel
theorem dX6_follow_11 : decode cX6_follow 11 = .ok (.lstore_n 3, 1) := by decide +kernel
theorem dX6_follow_12 : decode cX6_follow 12 = .ok (.aload_n 0, 1) := by decide +kernel
theorem dX6_follow_13 : decode cX6_follow 13 = .ok (.iload_n 1, 1) := by decide +kernel
theorem dX6_follow_14 : decode cX6_follow 14 = .ok (.putfield 83, 3) := by decide +kernel
theorem dX6_follow_17 : decode cX6_follow 17 = .ok (.aload_n 0, 1) := by decide +kernel
theorem dX6_follow_18 : decode cX6_follow 18 = .ok (.iload_n 2, 1) := by decide +kernel
theorem dX6_follow_19 : decode cX6_follow 19 = .ok (.iconst 1, 1) := by decide +kernel
theorem dX6_follow_20 : decode cX6_follow 20 = .ok (.iadd, 1) := by decide +kernel
theorem dX6_follow_21 : decode cX6_follow 21 = .ok (.lload_n 3, 1) := by decide +kernel
theorem dX6_follow_22 : decode cX6_follow 22 = .ok (.invokestatic 86, 3) := by decide +kernel
theorem dX6_follow_25 : decode cX6_follow 25 = .ok (.iadd, 1) := by decide +kernel
theorem dX6_follow_26 : decode cX6_follow 26 = .ok (.putfield 90, 3) := by decide +kernel
theorem dX6_follow_29 : decode cX6_follow 29 = .ok (.aload_n 0, 1) := by decide +kernel
theorem dX6_follow_30 : decode cX6_follow 30 = .ok (.lload_n 3, 1) := by decide +kernel
theorem dX6_follow_31 : decode cX6_follow 31 = .ok (.putfield 93, 3) := by decide +kernel
theorem dX6_follow_34 : decode cX6_follow 34 = .ok (.lload_n 3, 1) := by decide +kernel
theorem dX6_follow_35 : decode cX6_follow 35 = .ok (.ldc2_w 79, 3) := by decide +kernel
theorem dX6_follow_38 : decode cX6_follow 38 = .ok (.land, 1) := by decide +kernel
theorem dX6_follow_39 : decode cX6_follow 39 = .ok (.ldc2_w 81, 3) := by decide +kernel
theorem dX6_follow_42 : decode cX6_follow 42 = .ok (.lcmp, 1) := by decide +kernel
theorem dX6_follow_43 : decode cX6_follow 43 = .ok (.ifCond .ge 5, 3) := by decide +kernel
theorem dX6_follow_46 : decode cX6_follow 46 = .ok (.iconst 0, 1) := by decide +kernel
theorem dX6_follow_47 : decode cX6_follow 47 = .ok (.ireturn, 1) := by decide +kernel
theorem dX6_follow_48 : decode cX6_follow 48 = .ok (.lload_n 3, 1) := by decide +kernel
theorem dX6_follow_49 : decode cX6_follow 49 = .ok (.bipush 32, 2) := by decide +kernel
theorem dX6_follow_51 : decode cX6_follow 51 = .ok (.lushr, 1) := by decide +kernel
theorem dX6_follow_52 : decode cX6_follow 52 = .ok (.lstore 5, 2) := by decide +kernel
theorem dX6_follow_54 : decode cX6_follow 54 = .ok (.lload_n 3, 1) := by decide +kernel
theorem dX6_follow_55 : decode cX6_follow 55 = .ok (.iconst 3, 1) := by decide +kernel
theorem dX6_follow_56 : decode cX6_follow 56 = .ok (.lushr, 1) := by decide +kernel
theorem dX6_follow_57 : decode cX6_follow 57 = .ok (.ldc2_w 97, 3) := by decide +kernel
theorem dX6_follow_60 : decode cX6_follow 60 = .ok (.land, 1) := by decide +kernel
theorem dX6_follow_61 : decode cX6_follow 61 = .ok (.lstore 7, 2) := by decide +kernel
theorem dX6_follow_63 : decode cX6_follow 63 = .ok (.lload_n 3, 1) := by decide +kernel
theorem dX6_follow_64 : decode cX6_follow 64 = .ok (.ldc2_w 99, 3) := by decide +kernel
theorem dX6_follow_67 : decode cX6_follow 67 = .ok (.land, 1) := by decide +kernel
theorem dX6_follow_68 : decode cX6_follow 68 = .ok (.lconst 0, 1) := by decide +kernel
theorem dX6_follow_69 : decode cX6_follow 69 = .ok (.lcmp, 1) := by decide +kernel
theorem dX6_follow_70 : decode cX6_follow 70 = .ok (.ifCond .eq 7, 3) := by decide +kernel
theorem dX6_follow_73 : decode cX6_follow 73 = .ok (.iconst 1, 1) := by decide +kernel
theorem dX6_follow_74 : decode cX6_follow 74 = .ok (.goto 4, 3) := by decide +kernel
theorem dX6_follow_77 : decode cX6_follow 77 = .ok (.iconst 0, 1) := by decide +kernel
theorem dX6_follow_78 : decode cX6_follow 78 = .ok (.istore 9, 2) := by decide +kernel
theorem dX6_follow_80 : decode cX6_follow 80 = .ok (.lload_n 3, 1) := by decide +kernel
theorem dX6_follow_81 : decode cX6_follow 81 = .ok (.ldc2_w 79, 3) := by decide +kernel
theorem dX6_follow_84 : decode cX6_follow 84 = .ok (.land, 1) := by decide +kernel
theorem dX6_follow_85 : decode cX6_follow 85 = .ok (.ldc2_w 81, 3) := by decide +kernel
theorem dX6_follow_88 : decode cX6_follow 88 = .ok (.lcmp, 1) := by decide +kernel
theorem dX6_follow_89 : decode cX6_follow 89 = .ok (.ifCond .ne 7, 3) := by decide +kernel
theorem dX6_follow_92 : decode cX6_follow 92 = .ok (.iconst 1, 1) := by decide +kernel
theorem dX6_follow_93 : decode cX6_follow 93 = .ok (.goto 4, 3) := by decide +kernel
theorem dX6_follow_96 : decode cX6_follow 96 = .ok (.iconst 0, 1) := by decide +kernel
theorem dX6_follow_97 : decode cX6_follow 97 = .ok (.istore 10, 2) := by decide +kernel
theorem dX6_follow_99 : decode cX6_follow 99 = .ok (.iload 10, 2) := by decide +kernel
theorem dX6_follow_101 : decode cX6_follow 101 = .ok (.ifCond .eq 40, 3) := by decide +kernel
theorem dX6_follow_104 : decode cX6_follow 104 = .ok (.lload 5, 2) := by decide +kernel
theorem dX6_follow_106 : decode cX6_follow 106 = .ok (.ldc2_w 79, 3) := by decide +kernel
theorem dX6_follow_109 : decode cX6_follow 109 = .ok (.lcmp, 1) := by decide +kernel
theorem dX6_follow_110 : decode cX6_follow 110 = .ok (.ifCond .gt 29, 3) := by decide +kernel
theorem dX6_follow_113 : decode cX6_follow 113 = .ok (.lload 7, 2) := by decide +kernel
theorem dX6_follow_115 : decode cX6_follow 115 = .ok (.iload 9, 2) := by decide +kernel
theorem dX6_follow_117 : decode cX6_follow 117 = .ok (.ifCond .eq 7, 3) := by decide +kernel
theorem dX6_follow_120 : decode cX6_follow 120 = .ok (.lconst 1, 1) := by decide +kernel
theorem dX6_follow_121 : decode cX6_follow 121 = .ok (.goto 4, 3) := by decide +kernel
theorem dX6_follow_124 : decode cX6_follow 124 = .ok (.lconst 0, 1) := by decide +kernel
theorem dX6_follow_125 : decode cX6_follow 125 = .ok (.ladd, 1) := by decide +kernel
theorem dX6_follow_126 : decode cX6_follow 126 = .ok (.aload_n 0, 1) := by decide +kernel
theorem dX6_follow_127 : decode cX6_follow 127 = .ok (.getfield 13, 3) := by decide +kernel
theorem dX6_follow_130 : decode cX6_follow 130 = .ok (.lload 5, 2) := by decide +kernel
theorem dX6_follow_132 : decode cX6_follow 132 = .ok (.l2i, 1) := by decide +kernel
theorem dX6_follow_133 : decode cX6_follow 133 = .ok (.iaload, 1) := by decide +kernel
theorem dX6_follow_134 : decode cX6_follow 134 = .ok (.i2l, 1) := by decide +kernel
theorem dX6_follow_135 : decode cX6_follow 135 = .ok (.lcmp, 1) := by decide +kernel
theorem dX6_follow_136 : decode cX6_follow 136 = .ok (.ifCond .lt 5, 3) := by decide +kernel
theorem dX6_follow_139 : decode cX6_follow 139 = .ok (.iconst 1, 1) := by decide +kernel
theorem dX6_follow_140 : decode cX6_follow 140 = .ok (.ireturn, 1) := by decide +kernel
theorem dX6_follow_141 : decode cX6_follow 141 = .ok (.iload 10, 2) := by decide +kernel
theorem dX6_follow_143 : decode cX6_follow 143 = .ok (.ifCond .ne 5, 3) := by decide +kernel
theorem dX6_follow_146 : decode cX6_follow 146 = .ok (.iconst 2, 1) := by decide +kernel
theorem dX6_follow_147 : decode cX6_follow 147 = .ok (.ireturn, 1) := by decide +kernel
theorem dX6_follow_148 : decode cX6_follow 148 = .ok (.aload_n 0, 1) := by decide +kernel
theorem dX6_follow_149 : decode cX6_follow 149 = .ok (.getfield 7, 3) := by decide +kernel
theorem dX6_follow_152 : decode cX6_follow 152 = .ok (.bipush 64, 2) := by decide +kernel
theorem dX6_follow_154 : decode cX6_follow 154 = .ok (.lload 5, 2) := by decide +kernel
theorem dX6_follow_156 : decode cX6_follow 156 = .ok (.l2i, 1) := by decide +kernel
theorem dX6_follow_157 : decode cX6_follow 157 = .ok (.imul, 1) := by decide +kernel
theorem dX6_follow_158 : decode cX6_follow 158 = .ok (.lload 7, 2) := by decide +kernel
theorem dX6_follow_160 : decode cX6_follow 160 = .ok (.l2i, 1) := by decide +kernel
theorem dX6_follow_161 : decode cX6_follow 161 = .ok (.iadd, 1) := by decide +kernel
theorem dX6_follow_162 : decode cX6_follow 162 = .ok (.laload, 1) := by decide +kernel
theorem dX6_follow_163 : decode cX6_follow 163 = .ok (.lstore 11, 2) := by decide +kernel
theorem dX6_follow_165 : decode cX6_follow 165 = .ok (.iload 9, 2) := by decide +kernel
theorem dX6_follow_167 : decode cX6_follow 167 = .ok (.ifCond .ne 45, 3) := by decide +kernel
theorem dX6_follow_170 : decode cX6_follow 170 = .ok (.aload_n 0, 1) := by decide +kernel
theorem dX6_follow_171 : decode cX6_follow 171 = .ok (.lload 5, 2) := by decide +kernel
theorem dX6_follow_173 : decode cX6_follow 173 = .ok (.l2i, 1) := by decide +kernel
theorem dX6_follow_174 : decode cX6_follow 174 = .ok (.putfield 83, 3) := by decide +kernel
theorem dX6_follow_177 : decode cX6_follow 177 = .ok (.aload_n 0, 1) := by decide +kernel
theorem dX6_follow_178 : decode cX6_follow 178 = .ok (.lload 7, 2) := by decide +kernel
theorem dX6_follow_180 : decode cX6_follow 180 = .ok (.l2i, 1) := by decide +kernel
theorem dX6_follow_181 : decode cX6_follow 181 = .ok (.iconst 1, 1) := by decide +kernel
theorem dX6_follow_182 : decode cX6_follow 182 = .ok (.iadd, 1) := by decide +kernel
theorem dX6_follow_183 : decode cX6_follow 183 = .ok (.lload 11, 2) := by decide +kernel
theorem dX6_follow_185 : decode cX6_follow 185 = .ok (.invokestatic 86, 3) := by decide +kernel
theorem dX6_follow_188 : decode cX6_follow 188 = .ok (.iadd, 1) := by decide +kernel
theorem dX6_follow_189 : decode cX6_follow 189 = .ok (.putfield 90, 3) := by decide +kernel
theorem dX6_follow_192 : decode cX6_follow 192 = .ok (.aload_n 0, 1) := by decide +kernel
theorem dX6_follow_193 : decode cX6_follow 193 = .ok (.lload 11, 2) := by decide +kernel
theorem dX6_follow_195 : decode cX6_follow 195 = .ok (.putfield 93, 3) := by decide +kernel
theorem dX6_follow_198 : decode cX6_follow 198 = .ok (.lload 11, 2) := by decide +kernel
theorem dX6_follow_200 : decode cX6_follow 200 = .ok (.invokestatic 101, 3) := by decide +kernel
theorem dX6_follow_203 : decode cX6_follow 203 = .ok (.ifCond .eq 7, 3) := by decide +kernel
theorem dX6_follow_206 : decode cX6_follow 206 = .ok (.iconst 0, 1) := by decide +kernel
theorem dX6_follow_207 : decode cX6_follow 207 = .ok (.goto 4, 3) := by decide +kernel
theorem dX6_follow_210 : decode cX6_follow 210 = .ok (.iconst 2, 1) := by decide +kernel
theorem dX6_follow_211 : decode cX6_follow 211 = .ok (.ireturn, 1) := by decide +kernel
theorem dX6_follow_212 : decode cX6_follow 212 = .ok (.aload_n 0, 1) := by decide +kernel
theorem dX6_follow_213 : decode cX6_follow 213 = .ok (.aload_n 0, 1) := by decide +kernel
theorem dX6_follow_214 : decode cX6_follow 214 = .ok (.getfield 7, 3) := by decide +kernel
theorem dX6_follow_217 : decode cX6_follow 217 = .ok (.bipush 64, 2) := by decide +kernel
theorem dX6_follow_219 : decode cX6_follow 219 = .ok (.lload 5, 2) := by decide +kernel
theorem dX6_follow_221 : decode cX6_follow 221 = .ok (.l2i, 1) := by decide +kernel
theorem dX6_follow_222 : decode cX6_follow 222 = .ok (.imul, 1) := by decide +kernel
theorem dX6_follow_223 : decode cX6_follow 223 = .ok (.lload 7, 2) := by decide +kernel
theorem dX6_follow_225 : decode cX6_follow 225 = .ok (.l2i, 1) := by decide +kernel
theorem dX6_follow_226 : decode cX6_follow 226 = .ok (.iadd, 1) := by decide +kernel
theorem dX6_follow_227 : decode cX6_follow 227 = .ok (.iconst 1, 1) := by decide +kernel
theorem dX6_follow_228 : decode cX6_follow 228 = .ok (.iadd, 1) := by decide +kernel
theorem dX6_follow_229 : decode cX6_follow 229 = .ok (.laload, 1) := by decide +kernel
theorem dX6_follow_230 : decode cX6_follow 230 = .ok (.putfield 93, 3) := by decide +kernel
theorem dX6_follow_233 : decode cX6_follow 233 = .ok (.lload 11, 2) := by decide +kernel
theorem dX6_follow_235 : decode cX6_follow 235 = .ok (.ldc2_w 105, 3) := by decide +kernel
theorem dX6_follow_238 : decode cX6_follow 238 = .ok (.land, 1) := by decide +kernel
theorem dX6_follow_239 : decode cX6_follow 239 = .ok (.ldc2_w 81, 3) := by decide +kernel
theorem dX6_follow_242 : decode cX6_follow 242 = .ok (.lcmp, 1) := by decide +kernel
theorem dX6_follow_243 : decode cX6_follow 243 = .ok (.ifCond .ne 13, 3) := by decide +kernel
theorem dX6_follow_246 : decode cX6_follow 246 = .ok (.aload_n 0, 1) := by decide +kernel
theorem dX6_follow_247 : decode cX6_follow 247 = .ok (.getfield 93, 3) := by decide +kernel
theorem dX6_follow_250 : decode cX6_follow 250 = .ok (.invokestatic 101, 3) := by decide +kernel
theorem dX6_follow_253 : decode cX6_follow 253 = .ok (.ifCond .ne 5, 3) := by decide +kernel
theorem dX6_follow_256 : decode cX6_follow 256 = .ok (.iconst 2, 1) := by decide +kernel
theorem dX6_follow_257 : decode cX6_follow 257 = .ok (.ireturn, 1) := by decide +kernel
theorem dX6_follow_258 : decode cX6_follow 258 = .ok (.lload 11, 2) := by decide +kernel
theorem dX6_follow_260 : decode cX6_follow 260 = .ok (.bipush 32, 2) := by decide +kernel
theorem dX6_follow_262 : decode cX6_follow 262 = .ok (.lushr, 1) := by decide +kernel
theorem dX6_follow_263 : decode cX6_follow 263 = .ok (.ldc2_w 79, 3) := by decide +kernel
theorem dX6_follow_266 : decode cX6_follow 266 = .ok (.lcmp, 1) := by decide +kernel
theorem dX6_follow_267 : decode cX6_follow 267 = .ok (.ifCond .le 5, 3) := by decide +kernel
theorem dX6_follow_270 : decode cX6_follow 270 = .ok (.iconst 1, 1) := by decide +kernel
theorem dX6_follow_271 : decode cX6_follow 271 = .ok (.ireturn, 1) := by decide +kernel
theorem dX6_follow_272 : decode cX6_follow 272 = .ok (.aload_n 0, 1) := by decide +kernel
theorem dX6_follow_273 : decode cX6_follow 273 = .ok (.lload 11, 2) := by decide +kernel
theorem dX6_follow_275 : decode cX6_follow 275 = .ok (.bipush 32, 2) := by decide +kernel
theorem dX6_follow_277 : decode cX6_follow 277 = .ok (.lushr, 1) := by decide +kernel
theorem dX6_follow_278 : decode cX6_follow 278 = .ok (.l2i, 1) := by decide +kernel
theorem dX6_follow_279 : decode cX6_follow 279 = .ok (.putfield 83, 3) := by decide +kernel
theorem dX6_follow_282 : decode cX6_follow 282 = .ok (.aload_n 0, 1) := by decide +kernel
theorem dX6_follow_283 : decode cX6_follow 283 = .ok (.lload 11, 2) := by decide +kernel
theorem dX6_follow_285 : decode cX6_follow 285 = .ok (.iconst 3, 1) := by decide +kernel
theorem dX6_follow_286 : decode cX6_follow 286 = .ok (.lushr, 1) := by decide +kernel
theorem dX6_follow_287 : decode cX6_follow 287 = .ok (.ldc2_w 97, 3) := by decide +kernel
theorem dX6_follow_290 : decode cX6_follow 290 = .ok (.land, 1) := by decide +kernel
theorem dX6_follow_291 : decode cX6_follow 291 = .ok (.l2i, 1) := by decide +kernel
theorem dX6_follow_292 : decode cX6_follow 292 = .ok (.putfield 90, 3) := by decide +kernel
theorem dX6_follow_295 : decode cX6_follow 295 = .ok (.iconst 0, 1) := by decide +kernel
theorem dX6_follow_296 : decode cX6_follow 296 = .ok (.ireturn, 1) := by decide +kernel
theorem dX6_measure_0 : decode cX6_measure 0 = .ok (.aload_n 0, 1) := by decide +kernel
theorem dX6_measure_1 : decode cX6_measure 1 = .ok (.getfield 13, 3) := by decide +kernel
theorem dX6_measure_4 : decode cX6_measure 4 = .ok (.aload_n 0, 1) := by decide +kernel
theorem dX6_measure_5 : decode cX6_measure 5 = .ok (.getfield 83, 3) := by decide +kernel
theorem dX6_measure_8 : decode cX6_measure 8 = .ok (.iaload, 1) := by decide +kernel
theorem dX6_measure_9 : decode cX6_measure 9 = .ok (.aload_n 0, 1) := by decide +kernel
theorem dX6_measure_10 : decode cX6_measure 10 = .ok (.getfield 90, 3) := by decide +kernel
theorem dX6_measure_13 : decode cX6_measure 13 = .ok (.isub, 1) := by decide +kernel
theorem dX6_measure_14 : decode cX6_measure 14 = .ok (.istore_n 3, 1) := by decide +kernel
theorem dX6_measure_15 : decode cX6_measure 15 = .ok (.aload_n 0, 1) := by decide +kernel
theorem dX6_measure_16 : decode cX6_measure 16 = .ok (.getfield 90, 3) := by decide +kernel
theorem dX6_measure_19 : decode cX6_measure 19 = .ok (.ifCond .lt 7, 3) := by decide +kernel
theorem dX6_measure_22 : decode cX6_measure 22 = .ok (.iload_n 3, 1) := by decide +kernel
theorem dX6_measure_23 : decode cX6_measure 23 = .ok (.ifCond .ge 5, 3) := by decide +kernel
theorem dX6_measure_26 : decode cX6_measure 26 = .ok (.iconst 1, 1) := by decide +kernel
theorem dX6_measure_27 : decode cX6_measure 27 = .ok (.ireturn, 1) := by decide +kernel
theorem dX6_measure_28 : decode cX6_measure 28 = .ok (.aload_n 0, 1) := by decide +kernel
theorem dX6_measure_29 : decode cX6_measure 29 = .ok (.iconst 0, 1) := by decide +kernel
theorem dX6_measure_30 : decode cX6_measure 30 = .ok (.putfield 107, 3) := by decide +kernel
theorem dX6_measure_33 : decode cX6_measure 33 = .ok (.aload_n 0, 1) := by decide +kernel
theorem dX6_measure_34 : decode cX6_measure 34 = .ok (.iconst 0, 1) := by decide +kernel
theorem dX6_measure_35 : decode cX6_measure 35 = .ok (.putfield 110, 3) := by decide +kernel
theorem dX6_measure_38 : decode cX6_measure 38 = .ok (.lload_n 1, 1) := by decide +kernel
theorem dX6_measure_39 : decode cX6_measure 39 = .ok (.ldc2_w 79, 3) := by decide +kernel
theorem dX6_measure_42 : decode cX6_measure 42 = .ok (.land, 1) := by decide +kernel
theorem dX6_measure_43 : decode cX6_measure 43 = .ok (.lconst 0, 1) := by decide +kernel
theorem dX6_measure_44 : decode cX6_measure 44 = .ok (.lcmp, 1) := by decide +kernel
theorem dX6_measure_45 : decode cX6_measure 45 = .ok (.ifCond .ne 67, 3) := by decide +kernel
theorem dX6_measure_48 : decode cX6_measure 48 = .ok (.aload_n 0, 1) := by decide +kernel
theorem dX6_measure_49 : decode cX6_measure 49 = .ok (.iconst 0, 1) := by decide +kernel
theorem dX6_measure_50 : decode cX6_measure 50 = .ok (.putfield 113, 3) := by decide +kernel
theorem dX6_measure_53 : decode cX6_measure 53 = .ok (.aload_n 0, 1) := by decide +kernel
theorem dX6_measure_54 : decode cX6_measure 54 = .ok (.lload_n 1, 1) := by decide +kernel
theorem dX6_measure_55 : decode cX6_measure 55 = .ok (.bipush 32, 2) := by decide +kernel
theorem dX6_measure_57 : decode cX6_measure 57 = .ok (.lushr, 1) := by decide +kernel
theorem dX6_measure_58 : decode cX6_measure 58 = .ok (.ldc2_w 116, 3) := by decide +kernel
theorem dX6_measure_61 : decode cX6_measure 61 = .ok (.land, 1) := by decide +kernel
theorem dX6_measure_62 : decode cX6_measure 62 = .ok (.putfield 118, 3) := by decide +kernel
theorem dX6_measure_65 : decode cX6_measure 65 = .ok (.aload_n 0, 1) := by decide +kernel
theorem dX6_measure_66 : decode cX6_measure 66 = .ok (.lload_n 1, 1) := by decide +kernel
theorem dX6_measure_67 : decode cX6_measure 67 = .ok (.bipush 48, 2) := by decide +kernel
theorem dX6_measure_69 : decode cX6_measure 69 = .ok (.lushr, 1) := by decide +kernel
theorem dX6_measure_70 : decode cX6_measure 70 = .ok (.l2i, 1) := by decide +kernel
theorem dX6_measure_71 : decode cX6_measure 71 = .ok (.putfield 110, 3) := by decide +kernel
theorem dX6_measure_74 : decode cX6_measure 74 = .ok (.aload_n 0, 1) := by decide +kernel
theorem dX6_measure_75 : decode cX6_measure 75 = .ok (.aload_n 0, 1) := by decide +kernel
theorem dX6_measure_76 : decode cX6_measure 76 = .ok (.getfield 118, 3) := by decide +kernel
theorem dX6_measure_79 : decode cX6_measure 79 = .ok (.aload_n 0, 1) := by decide +kernel
theorem dX6_measure_80 : decode cX6_measure 80 = .ok (.getfield 110, 3) := by decide +kernel
theorem dX6_measure_83 : decode cX6_measure 83 = .ok (.i2l, 1) := by decide +kernel
theorem dX6_measure_84 : decode cX6_measure 84 = .ok (.ladd, 1) := by decide +kernel
theorem dX6_measure_85 : decode cX6_measure 85 = .ok (.putfield 93, 3) := by decide +kernel
theorem dX6_measure_88 : decode cX6_measure 88 = .ok (.aload_n 0, 1) := by decide +kernel
theorem dX6_measure_89 : decode cX6_measure 89 = .ok (.aload_n 0, 1) := by decide +kernel
theorem dX6_measure_90 : decode cX6_measure 90 = .ok (.getfield 93, 3) := by decide +kernel
theorem dX6_measure_93 : decode cX6_measure 93 = .ok (.putfield 121, 3) := by decide +kernel
theorem dX6_measure_96 : decode cX6_measure 96 = .ok (.aload_n 0, 1) := by decide +kernel
theorem dX6_measure_97 : decode cX6_measure 97 = .ok (.getfield 93, 3) := by decide +kernel
theorem dX6_measure_100 : decode cX6_measure 100 = .ok (.iload_n 3, 1) := by decide +kernel
theorem dX6_measure_101 : decode cX6_measure 101 = .ok (.i2l, 1) := by decide +kernel
theorem dX6_measure_102 : decode cX6_measure 102 = .ok (.lcmp, 1) := by decide +kernel
theorem dX6_measure_103 : decode cX6_measure 103 = .ok (.ifCond .le 7, 3) := by decide +kernel
theorem dX6_measure_106 : decode cX6_measure 106 = .ok (.iconst 1, 1) := by decide +kernel
theorem dX6_measure_107 : decode cX6_measure 107 = .ok (.goto 4, 3) := by decide +kernel
theorem dX6_measure_110 : decode cX6_measure 110 = .ok (.iconst 0, 1) := by decide +kernel
theorem dX6_measure_111 : decode cX6_measure 111 = .ok (.ireturn, 1) := by decide +kernel
theorem dX6_measure_112 : decode cX6_measure 112 = .ok (.lload_n 1, 1) := by decide +kernel
theorem dX6_measure_113 : decode cX6_measure 113 = .ok (.bipush 32, 2) := by decide +kernel
theorem dX6_measure_115 : decode cX6_measure 115 = .ok (.lushr, 1) := by decide +kernel
theorem dX6_measure_116 : decode cX6_measure 116 = .ok (.ldc2_w 105, 3) := by decide +kernel
theorem dX6_measure_119 : decode cX6_measure 119 = .ok (.land, 1) := by decide +kernel
theorem dX6_measure_120 : decode cX6_measure 120 = .ok (.l2i, 1) := by decide +kernel
theorem dX6_measure_121 : decode cX6_measure 121 = .ok (.istore 4, 2) := by decide +kernel
theorem dX6_measure_123 : decode cX6_measure 123 = .ok (.aload_n 0, 1) := by decide +kernel
theorem dX6_measure_124 : decode cX6_measure 124 = .ok (.iconst 1, 1) := by decide +kernel
theorem dX6_measure_125 : decode cX6_measure 125 = .ok (.iload 4, 2) := by decide +kernel
theorem dX6_measure_127 : decode cX6_measure 127 = .ok (.iadd, 1) := by decide +kernel
theorem dX6_measure_128 : decode cX6_measure 128 = .ok (.putfield 113, 3) := by decide +kernel
theorem dX6_measure_131 : decode cX6_measure 131 = .ok (.aload_n 0, 1) := by decide +kernel
theorem dX6_measure_132 : decode cX6_measure 132 = .ok (.lload_n 1, 1) := by decide +kernel
theorem dX6_measure_133 : decode cX6_measure 133 = .ok (.bipush 35, 2) := by decide +kernel
theorem dX6_measure_135 : decode cX6_measure 135 = .ok (.lushr, 1) := by decide +kernel
theorem dX6_measure_136 : decode cX6_measure 136 = .ok (.putfield 118, 3) := by decide +kernel
theorem dX6_measure_139 : decode cX6_measure 139 = .ok (.aload_n 0, 1) := by decide +kernel
theorem dX6_measure_140 : decode cX6_measure 140 = .ok (.iload 4, 2) := by decide +kernel
theorem dX6_measure_142 : decode cX6_measure 142 = .ok (.bipush 6, 2) := by decide +kernel
theorem dX6_measure_144 : decode cX6_measure 144 = .ok (.if_icmp .ge 25, 3) := by decide +kernel
theorem dX6_measure_147 : decode cX6_measure 147 = .ok (.aload_n 0, 1) := by decide +kernel
theorem dX6_measure_148 : decode cX6_measure 148 = .ok (.getfield 118, 3) := by decide +kernel
theorem dX6_measure_151 : decode cX6_measure 151 = .ok (.iload 4, 2) := by decide +kernel
theorem dX6_measure_153 : decode cX6_measure 153 = .ok (.invokestatic 124, 3) := by decide +kernel
theorem dX6_measure_156 : decode cX6_measure 156 = .ok (.i2l, 1) := by decide +kernel
theorem dX6_measure_157 : decode cX6_measure 157 = .ok (.lmul, 1) := by decide +kernel
theorem dX6_measure_158 : decode cX6_measure 158 = .ok (.ldc2_w 128, 3) := by decide +kernel
theorem dX6_measure_161 : decode cX6_measure 161 = .ok (.ladd, 1) := by decide +kernel
theorem dX6_measure_162 : decode cX6_measure 162 = .ok (.ldc2_w 130, 3) := by decide +kernel
theorem dX6_measure_165 : decode cX6_measure 165 = .ok (.ldiv, 1) := by decide +kernel
theorem dX6_measure_166 : decode cX6_measure 166 = .ok (.goto 7, 3) := by decide +kernel
theorem dX6_measure_169 : decode cX6_measure 169 = .ok (.aload_n 0, 1) := by decide +kernel
theorem dX6_measure_170 : decode cX6_measure 170 = .ok (.getfield 118, 3) := by decide +kernel
theorem dX6_measure_173 : decode cX6_measure 173 = .ok (.putfield 93, 3) := by decide +kernel
theorem dX6_measure_176 : decode cX6_measure 176 = .ok (.aload_n 0, 1) := by decide +kernel
theorem dX6_measure_177 : decode cX6_measure 177 = .ok (.iload 4, 2) := by decide +kernel
theorem dX6_measure_179 : decode cX6_measure 179 = .ok (.ifCond .ne 10, 3) := by decide +kernel
theorem dX6_measure_182 : decode cX6_measure 182 = .ok (.aload_n 0, 1) := by decide +kernel
theorem dX6_measure_183 : decode cX6_measure 183 = .ok (.getfield 118, 3) := by decide +kernel
theorem dX6_measure_186 : decode cX6_measure 186 = .ok (.goto 7, 3) := by decide +kernel
theorem dX6_measure_189 : decode cX6_measure 189 = .ok (.aload_n 0, 1) := by decide +kernel
theorem dX6_measure_190 : decode cX6_measure 190 = .ok (.getfield 93, 3) := by decide +kernel
theorem dX6_measure_193 : decode cX6_measure 193 = .ok (.putfield 121, 3) := by decide +kernel
theorem dX6_measure_196 : decode cX6_measure 196 = .ok (.aload_n 0, 1) := by decide +kernel
theorem dX6_measure_197 : decode cX6_measure 197 = .ok (.getfield 93, 3) := by decide +kernel
theorem dX6_measure_200 : decode cX6_measure 200 = .ok (.iload 4, 2) := by decide +kernel
theorem dX6_measure_202 : decode cX6_measure 202 = .ok (.bipush 7, 2) := by decide +kernel
theorem dX6_measure_204 : decode cX6_measure 204 = .ok (.if_icmp .ne 7, 3) := by decide +kernel
theorem dX6_measure_207 : decode cX6_measure 207 = .ok (.lconst 1, 1) := by decide +kernel
theorem dX6_measure_208 : decode cX6_measure 208 = .ok (.goto 4, 3) := by decide +kernel
theorem dX6_measure_211 : decode cX6_measure 211 = .ok (.lconst 0, 1) := by decide +kernel
theorem dX6_measure_212 : decode cX6_measure 212 = .ok (.ladd, 1) := by decide +kernel
theorem dX6_measure_213 : decode cX6_measure 213 = .ok (.iload_n 3, 1) := by decide +kernel
theorem dX6_measure_214 : decode cX6_measure 214 = .ok (.i2l, 1) := by decide +kernel
theorem dX6_measure_215 : decode cX6_measure 215 = .ok (.lcmp, 1) := by decide +kernel
theorem dX6_measure_216 : decode cX6_measure 216 = .ok (.ifCond .le 5, 3) := by decide +kernel
theorem dX6_measure_219 : decode cX6_measure 219 = .ok (.iconst 1, 1) := by decide +kernel
theorem dX6_measure_220 : decode cX6_measure 220 = .ok (.ireturn, 1) := by decide +kernel
theorem dX6_measure_221 : decode cX6_measure 221 = .ok (.iload 4, 2) := by decide +kernel
theorem dX6_measure_223 : decode cX6_measure 223 = .ok (.bipush 7, 2) := by decide +kernel
theorem dX6_measure_225 : decode cX6_measure 225 = .ok (.if_icmp .ne 10, 3) := by decide +kernel
theorem dX6_measure_228 : decode cX6_measure 228 = .ok (.aload_n 0, 1) := by decide +kernel
theorem dX6_measure_229 : decode cX6_measure 229 = .ok (.invokevirtual 132, 3) := by decide +kernel
theorem dX6_measure_232 : decode cX6_measure 232 = .ok (.goto 4, 3) := by decide +kernel
theorem dX6_measure_235 : decode cX6_measure 235 = .ok (.iconst 0, 1) := by decide +kernel
theorem dX6_measure_236 : decode cX6_measure 236 = .ok (.ireturn, 1) := by decide +kernel
theorem dX6_measureTag_0 : decode cX6_measureTag 0 = .ok (.aload_n 0, 1) := by decide +kernel
theorem dX6_measureTag_1 : decode cX6_measureTag 1 = .ok (.getfield 7, 3) := by decide +kernel
theorem dX6_measureTag_4 : decode cX6_measureTag 4 = .ok (.bipush 64, 2) := by decide +kernel
theorem dX6_measureTag_6 : decode cX6_measureTag 6 = .ok (.aload_n 0, 1) := by decide +kernel
theorem dX6_measureTag_7 : decode cX6_measureTag 7 = .ok (.getfield 83, 3) := by decide +kernel
theorem dX6_measureTag_10 : decode cX6_measureTag 10 = .ok (.imul, 1) := by decide +kernel
theorem dX6_measureTag_11 : decode cX6_measureTag 11 = .ok (.aload_n 0, 1) := by decide +kernel
theorem dX6_measureTag_12 : decode cX6_measureTag 12 = .ok (.getfield 90, 3) := by decide +kernel
theorem dX6_measureTag_15 : decode cX6_measureTag 15 = .ok (.iadd, 1) := by decide +kernel
theorem dX6_measureTag_16 : decode cX6_measureTag 16 = .ok (.laload, 1) := by decide +kernel
theorem dX6_measureTag_17 : decode cX6_measureTag 17 = .ok (.lstore_n 1, 1) := by decide +kernel
theorem dX6_measureTag_18 : decode cX6_measureTag 18 = .ok (.aload_n 0, 1) := by decide +kernel
theorem dX6_measureTag_19 : decode cX6_measureTag 19 = .ok (.dup, 1) := by decide +kernel
theorem dX6_measureTag_20 : decode cX6_measureTag 20 = .ok (.getfield 90, 3) := by decide +kernel
theorem dX6_measureTag_23 : decode cX6_measureTag 23 = .ok (.iconst 1, 1) := by decide +kernel
theorem dX6_measureTag_24 : decode cX6_measureTag 24 = .ok (.iadd, 1) := by decide +kernel
theorem dX6_measureTag_25 : decode cX6_measureTag 25 = .ok (.putfield 90, 3) := by decide +kernel
theorem dX6_measureTag_28 : decode cX6_measureTag 28 = .ok (.aload_n 0, 1) := by decide +kernel
theorem dX6_measureTag_29 : decode cX6_measureTag 29 = .ok (.lload_n 1, 1) := by decide +kernel
theorem dX6_measureTag_30 : decode cX6_measureTag 30 = .ok (.iconst 2, 1) := by decide +kernel
theorem dX6_measureTag_31 : decode cX6_measureTag 31 = .ok (.lushr, 1) := by decide +kernel
theorem dX6_measureTag_32 : decode cX6_measureTag 32 = .ok (.ldc2_w 136, 3) := by decide +kernel
theorem dX6_measureTag_35 : decode cX6_measureTag 35 = .ok (.land, 1) := by decide +kernel
theorem dX6_measureTag_36 : decode cX6_measureTag 36 = .ok (.putfield 118, 3) := by decide +kernel
theorem dX6_measureTag_39 : decode cX6_measureTag 39 = .ok (.aload_n 0, 1) := by decide +kernel
theorem dX6_measureTag_40 : decode cX6_measureTag 40 = .ok (.lload_n 1, 1) := by decide +kernel
theorem dX6_measureTag_41 : decode cX6_measureTag 41 = .ok (.bipush 32, 2) := by decide +kernel
theorem dX6_measureTag_43 : decode cX6_measureTag 43 = .ok (.lushr, 1) := by decide +kernel
theorem dX6_measureTag_44 : decode cX6_measureTag 44 = .ok (.ldc2_w 116, 3) := by decide +kernel
theorem dX6_measureTag_47 : decode cX6_measureTag 47 = .ok (.land, 1) := by decide +kernel
theorem dX6_measureTag_48 : decode cX6_measureTag 48 = .ok (.l2i, 1) := by decide +kernel
theorem dX6_measureTag_49 : decode cX6_measureTag 49 = .ok (.putfield 107, 3) := by decide +kernel
theorem dX6_measureTag_52 : decode cX6_measureTag 52 = .ok (.aload_n 0, 1) := by decide +kernel
theorem dX6_measureTag_53 : decode cX6_measureTag 53 = .ok (.lload_n 1, 1) := by decide +kernel
theorem dX6_measureTag_54 : decode cX6_measureTag 54 = .ok (.bipush 48, 2) := by decide +kernel
theorem dX6_measureTag_56 : decode cX6_measureTag 56 = .ok (.lushr, 1) := by decide +kernel
theorem dX6_measureTag_57 : decode cX6_measureTag 57 = .ok (.l2i, 1) := by decide +kernel
theorem dX6_measureTag_58 : decode cX6_measureTag 58 = .ok (.putfield 110, 3) := by decide +kernel
theorem dX6_measureTag_61 : decode cX6_measureTag 61 = .ok (.aload_n 0, 1) := by decide +kernel
theorem dX6_measureTag_62 : decode cX6_measureTag 62 = .ok (.aload_n 0, 1) := by decide +kernel
theorem dX6_measureTag_63 : decode cX6_measureTag 63 = .ok (.getfield 118, 3) := by decide +kernel
theorem dX6_measureTag_66 : decode cX6_measureTag 66 = .ok (.aload_n 0, 1) := by decide +kernel
theorem dX6_measureTag_67 : decode cX6_measureTag 67 = .ok (.getfield 93, 3) := by decide +kernel
theorem dX6_measureTag_70 : decode cX6_measureTag 70 = .ok (.lcmp, 1) := by decide +kernel
theorem dX6_measureTag_71 : decode cX6_measureTag 71 = .ok (.ifCond .le 10, 3) := by decide +kernel
theorem dX6_measureTag_74 : decode cX6_measureTag 74 = .ok (.aload_n 0, 1) := by decide +kernel
theorem dX6_measureTag_75 : decode cX6_measureTag 75 = .ok (.getfield 118, 3) := by decide +kernel
theorem dX6_measureTag_78 : decode cX6_measureTag 78 = .ok (.goto 7, 3) := by decide +kernel
theorem dX6_measureTag_81 : decode cX6_measureTag 81 = .ok (.aload_n 0, 1) := by decide +kernel
theorem dX6_measureTag_82 : decode cX6_measureTag 82 = .ok (.getfield 93, 3) := by decide +kernel
theorem dX6_measureTag_85 : decode cX6_measureTag 85 = .ok (.lconst 1, 1) := by decide +kernel
theorem dX6_measureTag_86 : decode cX6_measureTag 86 = .ok (.ladd, 1) := by decide +kernel
theorem dX6_measureTag_87 : decode cX6_measureTag 87 = .ok (.putfield 121, 3) := by decide +kernel
theorem dX6_measureTag_90 : decode cX6_measureTag 90 = .ok (.lload_n 1, 1) := by decide +kernel
theorem dX6_measureTag_91 : decode cX6_measureTag 91 = .ok (.ldc2_w 79, 3) := by decide +kernel
theorem dX6_measureTag_94 : decode cX6_measureTag 94 = .ok (.land, 1) := by decide +kernel
theorem dX6_measureTag_95 : decode cX6_measureTag 95 = .ok (.lconst 0, 1) := by decide +kernel
theorem dX6_measureTag_96 : decode cX6_measureTag 96 = .ok (.lcmp, 1) := by decide +kernel
theorem dX6_measureTag_97 : decode cX6_measureTag 97 = .ok (.ifCond .ne 26, 3) := by decide +kernel
theorem dX6_measureTag_100 : decode cX6_measureTag 100 = .ok (.aload_n 0, 1) := by decide +kernel
theorem dX6_measureTag_101 : decode cX6_measureTag 101 = .ok (.getfield 118, 3) := by decide +kernel
theorem dX6_measureTag_104 : decode cX6_measureTag 104 = .ok (.aload_n 0, 1) := by decide +kernel
theorem dX6_measureTag_105 : decode cX6_measureTag 105 = .ok (.getfield 107, 3) := by decide +kernel
theorem dX6_measureTag_108 : decode cX6_measureTag 108 = .ok (.aload_n 0, 1) := by decide +kernel
theorem dX6_measureTag_109 : decode cX6_measureTag 109 = .ok (.getfield 110, 3) := by decide +kernel
theorem dX6_measureTag_112 : decode cX6_measureTag 112 = .ok (.iadd, 1) := by decide +kernel
theorem dX6_measureTag_113 : decode cX6_measureTag 113 = .ok (.i2l, 1) := by decide +kernel
theorem dX6_measureTag_114 : decode cX6_measureTag 114 = .ok (.lmul, 1) := by decide +kernel
theorem dX6_measureTag_115 : decode cX6_measureTag 115 = .ok (.aload_n 0, 1) := by decide +kernel
theorem dX6_measureTag_116 : decode cX6_measureTag 116 = .ok (.getfield 93, 3) := by decide +kernel
theorem dX6_measureTag_119 : decode cX6_measureTag 119 = .ok (.lcmp, 1) := by decide +kernel
theorem dX6_measureTag_120 : decode cX6_measureTag 120 = .ok (.ifCond .le 7, 3) := by decide +kernel
theorem dX6_measureTag_123 : decode cX6_measureTag 123 = .ok (.iconst 2, 1) := by decide +kernel
theorem dX6_measureTag_124 : decode cX6_measureTag 124 = .ok (.goto 4, 3) := by decide +kernel
theorem dX6_measureTag_127 : decode cX6_measureTag 127 = .ok (.iconst 0, 1) := by decide +kernel
theorem dX6_measureTag_128 : decode cX6_measureTag 128 = .ok (.ireturn, 1) := by decide +kernel
theorem dX6_locate_0 : decode cX6_locate 0 = .ok (.aload_n 0, 1) := by decide +kernel
theorem dX6_locate_1 : decode cX6_locate 1 = .ok (.iload_n 1, 1) := by decide +kernel
theorem dX6_locate_2 : decode cX6_locate 2 = .ok (.iload_n 2, 1) := by decide +kernel
theorem dX6_locate_3 : decode cX6_locate 3 = .ok (.invokevirtual 138, 3) := by decide +kernel
theorem dX6_locate_6 : decode cX6_locate 6 = .ok (.istore_n 3, 1) := by decide +kernel
theorem dX6_locate_7 : decode cX6_locate 7 = .ok (.iload_n 3, 1) := by decide +kernel
theorem dX6_locate_8 : decode cX6_locate 8 = .ok (.ifCond .ne 14, 3) := by decide +kernel
theorem dX6_locate_11 : decode cX6_locate 11 = .ok (.aload_n 0, 1) := by decide +kernel
theorem dX6_locate_12 : decode cX6_locate 12 = .ok (.aload_n 0, 1) := by decide +kernel
theorem dX6_locate_13 : decode cX6_locate 13 = .ok (.getfield 93, 3) := by decide +kernel
theorem dX6_locate_16 : decode cX6_locate 16 = .ok (.invokevirtual 142, 3) := by decide +kernel
theorem dX6_locate_19 : decode cX6_locate 19 = .ok (.goto 4, 3) := by decide +kernel
theorem dX6_locate_22 : decode cX6_locate 22 = .ok (.iload_n 3, 1) := by decide +kernel
theorem dX6_locate_23 : decode cX6_locate 23 = .ok (.istore_n 3, 1) := by decide +kernel
theorem dX6_locate_24 : decode cX6_locate 24 = .ok (.aload_n 0, 1) := by decide +kernel
theorem dX6_locate_25 : decode cX6_locate 25 = .ok (.aload_n 0, 1) := by decide +kernel
theorem dX6_locate_26 : decode cX6_locate 26 = .ok (.getfield 121, 3) := by decide +kernel
theorem dX6_locate_29 : decode cX6_locate 29 = .ok (.lconst 1, 1) := by decide +kernel
theorem dX6_locate_30 : decode cX6_locate 30 = .ok (.lcmp, 1) := by decide +kernel
theorem dX6_locate_31 : decode cX6_locate 31 = .ok (.ifCond .ge 7, 3) := by decide +kernel
theorem dX6_locate_34 : decode cX6_locate 34 = .ok (.lconst 1, 1) := by decide +kernel
theorem dX6_locate_35 : decode cX6_locate 35 = .ok (.goto 7, 3) := by decide +kernel
theorem dX6_locate_38 : decode cX6_locate 38 = .ok (.aload_n 0, 1) := by decide +kernel
theorem dX6_locate_39 : decode cX6_locate 39 = .ok (.getfield 121, 3) := by decide +kernel
theorem dX6_locate_42 : decode cX6_locate 42 = .ok (.putfield 121, 3) := by decide +kernel
theorem dX6_locate_45 : decode cX6_locate 45 = .ok (.iload_n 3, 1) := by decide +kernel
theorem dX6_locate_46 : decode cX6_locate 46 = .ok (.ireturn, 1) := by decide +kernel
theorem dX6_find_0 : decode cX6_find 0 = .ok (.aload_n 0, 1) := by decide +kernel
theorem dX6_find_1 : decode cX6_find 1 = .ok (.iload_n 1, 1) := by decide +kernel
theorem dX6_find_2 : decode cX6_find 2 = .ok (.iload_n 2, 1) := by decide +kernel
theorem dX6_find_3 : decode cX6_find 3 = .ok (.invokevirtual 145, 3) := by decide +kernel
theorem dX6_find_6 : decode cX6_find 6 = .ok (.istore 5, 2) := by decide +kernel
theorem dX6_find_8 : decode cX6_find 8 = .ok (.iload 5, 2) := by decide +kernel
theorem dX6_find_10 : decode cX6_find 10 = .ok (.ifCond .eq 8, 3) := by decide +kernel
theorem dX6_find_13 : decode cX6_find 13 = .ok (.iload 5, 2) := by decide +kernel
theorem dX6_find_15 : decode cX6_find 15 = .ok (.goto 25, 3) := by decide +kernel
theorem dX6_find_18 : decode cX6_find 18 = .ok (.iload_n 3, 1) := by decide +kernel
theorem dX6_find_19 : decode cX6_find 19 = .ok (.bipush 8, 2) := by decide +kernel
theorem dX6_find_21 : decode cX6_find 21 = .ok (.if_icmp .gt 14, 3) := by decide +kernel
theorem dX6_find_24 : decode cX6_find 24 = .ok (.aload_n 0, 1) := by decide +kernel
theorem dX6_find_25 : decode cX6_find 25 = .ok (.getfield 121, 3) := by decide +kernel
theorem dX6_find_28 : decode cX6_find 28 = .ok (.iload 4, 2) := by decide +kernel
theorem dX6_find_30 : decode cX6_find 30 = .ok (.i2l, 1) := by decide +kernel
theorem dX6_find_31 : decode cX6_find 31 = .ok (.lcmp, 1) := by decide +kernel
theorem dX6_find_32 : decode cX6_find 32 = .ok (.ifCond .le 7, 3) := by decide +kernel
theorem dX6_find_35 : decode cX6_find 35 = .ok (.iconst 3, 1) := by decide +kernel
theorem dX6_find_36 : decode cX6_find 36 = .ok (.goto 4, 3) := by decide +kernel
theorem dX6_find_39 : decode cX6_find 39 = .ok (.iconst 0, 1) := by decide +kernel
theorem dX6_find_40 : decode cX6_find 40 = .ok (.ireturn, 1) := by decide +kernel
theorem dX6_findRoot_0 : decode cX6_findRoot 0 = .ok (.aload_n 0, 1) := by decide +kernel
theorem dX6_findRoot_1 : decode cX6_findRoot 1 = .ok (.getfield 13, 3) := by decide +kernel
theorem dX6_findRoot_4 : decode cX6_findRoot 4 = .ok (.iconst 0, 1) := by decide +kernel
theorem dX6_findRoot_5 : decode cX6_findRoot 5 = .ok (.iaload, 1) := by decide +kernel
theorem dX6_findRoot_6 : decode cX6_findRoot 6 = .ok (.ifCond .ne 5, 3) := by decide +kernel
theorem dX6_findRoot_9 : decode cX6_findRoot 9 = .ok (.iconst 1, 1) := by decide +kernel
theorem dX6_findRoot_10 : decode cX6_findRoot 10 = .ok (.ireturn, 1) := by decide +kernel
theorem dX6_findRoot_11 : decode cX6_findRoot 11 = .ok (.aload_n 0, 1) := by decide +kernel
theorem dX6_findRoot_12 : decode cX6_findRoot 12 = .ok (.getfield 7, 3) := by decide +kernel
theorem dX6_findRoot_15 : decode cX6_findRoot 15 = .ok (.iconst 0, 1) := by decide +kernel
theorem dX6_findRoot_16 : decode cX6_findRoot 16 = .ok (.laload, 1) := by decide +kernel
theorem dX6_findRoot_17 : decode cX6_findRoot 17 = .ok (.lconst 0, 1) := by decide +kernel
theorem dX6_findRoot_18 : decode cX6_findRoot 18 = .ok (.lcmp, 1) := by decide +kernel
theorem dX6_findRoot_19 : decode cX6_findRoot 19 = .ok (.ifCond .ne 5, 3) := by decide +kernel
theorem dX6_findRoot_22 : decode cX6_findRoot 22 = .ok (.iconst 2, 1) := by decide +kernel
theorem dX6_findRoot_23 : decode cX6_findRoot 23 = .ok (.ireturn, 1) := by decide +kernel
theorem dX6_findRoot_24 : decode cX6_findRoot 24 = .ok (.aload_n 0, 1) := by decide +kernel
theorem dX6_findRoot_25 : decode cX6_findRoot 25 = .ok (.iconst 0, 1) := by decide +kernel
theorem dX6_findRoot_26 : decode cX6_findRoot 26 = .ok (.iconst 0, 1) := by decide +kernel
theorem dX6_findRoot_27 : decode cX6_findRoot 27 = .ok (.invokevirtual 145, 3) := by decide +kernel
theorem dX6_findRoot_30 : decode cX6_findRoot 30 = .ok (.istore_n 1, 1) := by decide +kernel
theorem dX6_findRoot_31 : decode cX6_findRoot 31 = .ok (.iload_n 1, 1) := by decide +kernel
theorem dX6_findRoot_32 : decode cX6_findRoot 32 = .ok (.iconst 1, 1) := by decide +kernel
theorem dX6_findRoot_33 : decode cX6_findRoot 33 = .ok (.if_icmp .ne 7, 3) := by decide +kernel
theorem dX6_findRoot_36 : decode cX6_findRoot 36 = .ok (.iconst 1, 1) := by decide +kernel
theorem dX6_findRoot_37 : decode cX6_findRoot 37 = .ok (.goto 37, 3) := by decide +kernel
theorem dX6_findRoot_40 : decode cX6_findRoot 40 = .ok (.iload_n 1, 1) := by decide +kernel
theorem dX6_findRoot_41 : decode cX6_findRoot 41 = .ok (.iconst 2, 1) := by decide +kernel
theorem dX6_findRoot_42 : decode cX6_findRoot 42 = .ok (.if_icmp .eq 10, 3) := by decide +kernel
theorem dX6_findRoot_45 : decode cX6_findRoot 45 = .ok (.aload_n 0, 1) := by decide +kernel
theorem dX6_findRoot_46 : decode cX6_findRoot 46 = .ok (.getfield 113, 3) := by decide +kernel
theorem dX6_findRoot_49 : decode cX6_findRoot 49 = .ok (.ifCond .eq 7, 3) := by decide +kernel
theorem dX6_findRoot_52 : decode cX6_findRoot 52 = .ok (.iconst 3, 1) := by decide +kernel
theorem dX6_findRoot_53 : decode cX6_findRoot 53 = .ok (.goto 21, 3) := by decide +kernel
theorem dX6_findRoot_56 : decode cX6_findRoot 56 = .ok (.aload_n 0, 1) := by decide +kernel
theorem dX6_findRoot_57 : decode cX6_findRoot 57 = .ok (.getfield 121, 3) := by decide +kernel
theorem dX6_findRoot_60 : decode cX6_findRoot 60 = .ok (.aload_n 0, 1) := by decide +kernel
theorem dX6_findRoot_61 : decode cX6_findRoot 61 = .ok (.getfield 17, 3) := by decide +kernel
theorem dX6_findRoot_64 : decode cX6_findRoot 64 = .ok (.i2l, 1) := by decide +kernel
theorem dX6_findRoot_65 : decode cX6_findRoot 65 = .ok (.lcmp, 1) := by decide +kernel
theorem dX6_findRoot_66 : decode cX6_findRoot 66 = .ok (.ifCond .le 7, 3) := by decide +kernel
theorem dX6_findRoot_69 : decode cX6_findRoot 69 = .ok (.iconst 4, 1) := by decide +kernel
theorem dX6_findRoot_70 : decode cX6_findRoot 70 = .ok (.goto 4, 3) := by decide +kernel
theorem dX6_findRoot_73 : decode cX6_findRoot 73 = .ok (.iconst 0, 1) := by decide +kernel
theorem dX6_findRoot_74 : decode cX6_findRoot 74 = .ok (.ireturn, 1) := by decide +kernel
theorem dX6_hold_0 : decode cX6_hold 0 = .ok (.aload_n 0, 1) := by decide +kernel
theorem dX6_hold_1 : decode cX6_hold 1 = .ok (.getfield 21, 3) := by decide +kernel
theorem dX6_hold_4 : decode cX6_hold 4 = .ok (.aload_n 0, 1) := by decide +kernel
theorem dX6_hold_5 : decode cX6_hold 5 = .ok (.getfield 72, 3) := by decide +kernel
theorem dX6_hold_8 : decode cX6_hold 8 = .ok (.aload_n 0, 1) := by decide +kernel
theorem dX6_hold_9 : decode cX6_hold 9 = .ok (.getfield 113, 3) := by decide +kernel
theorem dX6_hold_12 : decode cX6_hold 12 = .ok (.iastore, 1) := by decide +kernel
theorem dX6_hold_13 : decode cX6_hold 13 = .ok (.aload_n 0, 1) := by decide +kernel
theorem dX6_hold_14 : decode cX6_hold 14 = .ok (.getfield 24, 3) := by decide +kernel
theorem dX6_hold_17 : decode cX6_hold 17 = .ok (.aload_n 0, 1) := by decide +kernel
theorem dX6_hold_18 : decode cX6_hold 18 = .ok (.getfield 72, 3) := by decide +kernel
theorem dX6_hold_21 : decode cX6_hold 21 = .ok (.aload_n 0, 1) := by decide +kernel
theorem dX6_hold_22 : decode cX6_hold 22 = .ok (.getfield 83, 3) := by decide +kernel
theorem dX6_hold_25 : decode cX6_hold 25 = .ok (.iastore, 1) := by decide +kernel
theorem dX6_hold_26 : decode cX6_hold 26 = .ok (.aload_n 0, 1) := by decide +kernel
theorem dX6_hold_27 : decode cX6_hold 27 = .ok (.getfield 27, 3) := by decide +kernel
theorem dX6_hold_30 : decode cX6_hold 30 = .ok (.aload_n 0, 1) := by decide +kernel
theorem dX6_hold_31 : decode cX6_hold 31 = .ok (.getfield 72, 3) := by decide +kernel
theorem dX6_hold_34 : decode cX6_hold 34 = .ok (.aload_n 0, 1) := by decide +kernel
theorem dX6_hold_35 : decode cX6_hold 35 = .ok (.getfield 90, 3) := by decide +kernel
theorem dX6_hold_38 : decode cX6_hold 38 = .ok (.iastore, 1) := by decide +kernel
theorem dX6_hold_39 : decode cX6_hold 39 = .ok (.aload_n 0, 1) := by decide +kernel
theorem dX6_hold_40 : decode cX6_hold 40 = .ok (.getfield 30, 3) := by decide +kernel
theorem dX6_hold_43 : decode cX6_hold 43 = .ok (.aload_n 0, 1) := by decide +kernel
theorem dX6_hold_44 : decode cX6_hold 44 = .ok (.getfield 72, 3) := by decide +kernel
theorem dX6_hold_47 : decode cX6_hold 47 = .ok (.aload_n 0, 1) := by decide +kernel
theorem dX6_hold_48 : decode cX6_hold 48 = .ok (.getfield 118, 3) := by decide +kernel
theorem dX6_hold_51 : decode cX6_hold 51 = .ok (.l2i, 1) := by decide +kernel
theorem dX6_hold_52 : decode cX6_hold 52 = .ok (.iastore, 1) := by decide +kernel
theorem dX6_hold_53 : decode cX6_hold 53 = .ok (.aload_n 0, 1) := by decide +kernel
theorem dX6_hold_54 : decode cX6_hold 54 = .ok (.getfield 33, 3) := by decide +kernel
theorem dX6_hold_57 : decode cX6_hold 57 = .ok (.aload_n 0, 1) := by decide +kernel
theorem dX6_hold_58 : decode cX6_hold 58 = .ok (.getfield 72, 3) := by decide +kernel
theorem dX6_hold_61 : decode cX6_hold 61 = .ok (.aload_n 0, 1) := by decide +kernel
theorem dX6_hold_62 : decode cX6_hold 62 = .ok (.getfield 107, 3) := by decide +kernel
theorem dX6_hold_65 : decode cX6_hold 65 = .ok (.iastore, 1) := by decide +kernel
theorem dX6_hold_66 : decode cX6_hold 66 = .ok (.aload_n 0, 1) := by decide +kernel
theorem dX6_hold_67 : decode cX6_hold 67 = .ok (.getfield 36, 3) := by decide +kernel
theorem dX6_hold_70 : decode cX6_hold 70 = .ok (.aload_n 0, 1) := by decide +kernel
theorem dX6_hold_71 : decode cX6_hold 71 = .ok (.getfield 72, 3) := by decide +kernel
theorem dX6_hold_74 : decode cX6_hold 74 = .ok (.aload_n 0, 1) := by decide +kernel
theorem dX6_hold_75 : decode cX6_hold 75 = .ok (.getfield 110, 3) := by decide +kernel
theorem dX6_hold_78 : decode cX6_hold 78 = .ok (.iastore, 1) := by decide +kernel
theorem dX6_hold_79 : decode cX6_hold 79 = .ok (.aload_n 0, 1) := by decide +kernel
theorem dX6_hold_80 : decode cX6_hold 80 = .ok (.getfield 39, 3) := by decide +kernel
theorem dX6_hold_83 : decode cX6_hold 83 = .ok (.aload_n 0, 1) := by decide +kernel
theorem dX6_hold_84 : decode cX6_hold 84 = .ok (.getfield 72, 3) := by decide +kernel
theorem dX6_hold_87 : decode cX6_hold 87 = .ok (.iload_n 1, 1) := by decide +kernel
theorem dX6_hold_88 : decode cX6_hold 88 = .ok (.iastore, 1) := by decide +kernel
theorem dX6_hold_89 : decode cX6_hold 89 = .ok (.aload_n 0, 1) := by decide +kernel
theorem dX6_hold_90 : decode cX6_hold 90 = .ok (.dup, 1) := by decide +kernel
theorem dX6_hold_91 : decode cX6_hold 91 = .ok (.getfield 72, 3) := by decide +kernel
theorem dX6_hold_94 : decode cX6_hold 94 = .ok (.iconst 1, 1) := by decide +kernel
theorem dX6_hold_95 : decode cX6_hold 95 = .ok (.iadd, 1) := by decide +kernel
theorem dX6_hold_96 : decode cX6_hold 96 = .ok (.putfield 72, 3) := by decide +kernel
theorem dX6_hold_99 : decode cX6_hold 99 = .ok (.aload_n 0, 1) := by decide +kernel
theorem dX6_hold_100 : decode cX6_hold 100 = .ok (.getfield 72, 3) := by decide +kernel
theorem dX6_hold_103 : decode cX6_hold 103 = .ok (.iconst 1, 1) := by decide +kernel
theorem dX6_hold_104 : decode cX6_hold 104 = .ok (.isub, 1) := by decide +kernel
theorem dX6_hold_105 : decode cX6_hold 105 = .ok (.ireturn, 1) := by decide +kernel
theorem dX6_open_0 : decode cX6_open 0 = .ok (.aload_n 0, 1) := by decide +kernel
theorem dX6_open_1 : decode cX6_open 1 = .ok (.aload_n 0, 1) := by decide +kernel
theorem dX6_open_2 : decode cX6_open 2 = .ok (.invokevirtual 148, 3) := by decide +kernel
theorem dX6_open_5 : decode cX6_open 5 = .ok (.putfield 69, 3) := by decide +kernel
theorem dX6_open_8 : decode cX6_open 8 = .ok (.aload_n 0, 1) := by decide +kernel
theorem dX6_open_9 : decode cX6_open 9 = .ok (.getfield 69, 3) := by decide +kernel
theorem dX6_open_12 : decode cX6_open 12 = .ok (.ifCond .eq 5, 3) := by decide +kernel
theorem dX6_open_15 : decode cX6_open 15 = .ok (.iconst 0, 1) := by decide +kernel
theorem dX6_open_16 : decode cX6_open 16 = .ok (.ireturn, 1) := by decide +kernel
theorem dX6_open_17 : decode cX6_open 17 = .ok (.aload_n 0, 1) := by decide +kernel
theorem dX6_open_18 : decode cX6_open 18 = .ok (.iconst 0, 1) := by decide +kernel
theorem dX6_open_19 : decode cX6_open 19 = .ok (.putfield 72, 3) := by decide +kernel
theorem dX6_open_22 : decode cX6_open 22 = .ok (.aload_n 0, 1) := by decide +kernel
theorem dX6_open_23 : decode cX6_open 23 = .ok (.aload_n 0, 1) := by decide +kernel
theorem dX6_open_24 : decode cX6_open 24 = .ok (.getfield 17, 3) := by decide +kernel
theorem dX6_open_27 : decode cX6_open 27 = .ok (.aload_n 0, 1) := by decide +kernel
theorem dX6_open_28 : decode cX6_open 28 = .ok (.getfield 121, 3) := by decide +kernel
theorem dX6_open_31 : decode cX6_open 31 = .ok (.l2i, 1) := by decide +kernel
theorem dX6_open_32 : decode cX6_open 32 = .ok (.isub, 1) := by decide +kernel
theorem dX6_open_33 : decode cX6_open 33 = .ok (.putfield 151, 3) := by decide +kernel
theorem dX6_open_36 : decode cX6_open 36 = .ok (.aload_n 0, 1) := by decide +kernel
theorem dX6_open_37 : decode cX6_open 37 = .ok (.iconst 1, 1) := by decide +kernel
theorem dX6_open_38 : decode cX6_open 38 = .ok (.invokevirtual 154, 3) := by decide +kernel
theorem dX6_open_41 : decode cX6_open 41 = .ok (.istore_n 1, 1) := by decide +kernel
theorem dX6_open_42 : decode cX6_open 42 = .ok (.iload_n 1, 1) := by decide +kernel
theorem dX6_open_43 : decode cX6_open 43 = .ok (.aload_n 0, 1) := by decide +kernel
theorem dX6_open_44 : decode cX6_open 44 = .ok (.getfield 93, 3) := by decide +kernel
theorem dX6_open_47 : decode cX6_open 47 = .ok (.l2i, 1) := by decide +kernel
theorem dX6_open_48 : decode cX6_open 48 = .ok (.iadd, 1) := by decide +kernel
theorem dX6_open_49 : decode cX6_open 49 = .ok (.ireturn, 1) := by decide +kernel
theorem dX6_left_0 : decode cX6_left 0 = .ok (.aload_n 0, 1) := by decide +kernel
theorem dX6_left_1 : decode cX6_left 1 = .ok (.iconst 0, 1) := by decide +kernel
theorem dX6_left_2 : decode cX6_left 2 = .ok (.putfield 69, 3) := by decide +kernel
theorem dX6_left_5 : decode cX6_left 5 = .ok (.aload_n 0, 1) := by decide +kernel
theorem dX6_left_6 : decode cX6_left 6 = .ok (.getfield 72, 3) := by decide +kernel
theorem dX6_left_9 : decode cX6_left 9 = .ok (.ifCond .ne 7, 3) := by decide +kernel
theorem dX6_left_12 : decode cX6_left 12 = .ok (.iconst 0, 1) := by decide +kernel
theorem dX6_left_13 : decode cX6_left 13 = .ok (.goto 7, 3) := by decide +kernel
theorem dX6_left_16 : decode cX6_left 16 = .ok (.aload_n 0, 1) := by decide +kernel
theorem dX6_left_17 : decode cX6_left 17 = .ok (.getfield 151, 3) := by decide +kernel
theorem dX6_left_20 : decode cX6_left 20 = .ok (.ireturn, 1) := by decide +kernel
theorem dX6_isHandle_0 : decode cX6_isHandle 0 = .ok (.iload_n 1, 1) := by decide +kernel
theorem dX6_isHandle_1 : decode cX6_isHandle 1 = .ok (.ifCond .lt 15, 3) := by decide +kernel
theorem dX6_isHandle_4 : decode cX6_isHandle 4 = .ok (.iload_n 1, 1) := by decide +kernel
theorem dX6_isHandle_5 : decode cX6_isHandle 5 = .ok (.aload_n 0, 1) := by decide +kernel
theorem dX6_isHandle_6 : decode cX6_isHandle 6 = .ok (.getfield 72, 3) := by decide +kernel
theorem dX6_isHandle_9 : decode cX6_isHandle 9 = .ok (.if_icmp .ge 7, 3) := by decide +kernel
theorem dX6_isHandle_12 : decode cX6_isHandle 12 = .ok (.iconst 1, 1) := by decide +kernel
theorem dX6_isHandle_13 : decode cX6_isHandle 13 = .ok (.goto 4, 3) := by decide +kernel
theorem dX6_isHandle_16 : decode cX6_isHandle 16 = .ok (.iconst 0, 1) := by decide +kernel
theorem dX6_isHandle_17 : decode cX6_isHandle 17 = .ok (.ireturn, 1) := by decide +kernel
theorem dX6_go_0 : decode cX6_go 0 = .ok (.aload_n 0, 1) := by decide +kernel
theorem dX6_go_1 : decode cX6_go 1 = .ok (.iconst 0, 1) := by decide +kernel
theorem dX6_go_2 : decode cX6_go 2 = .ok (.putfield 69, 3) := by decide +kernel
theorem dX6_go_5 : decode cX6_go 5 = .ok (.aload_n 0, 1) := by decide +kernel
theorem dX6_go_6 : decode cX6_go 6 = .ok (.iload_n 1, 1) := by decide +kernel
theorem dX6_go_7 : decode cX6_go 7 = .ok (.invokevirtual 157, 3) := by decide +kernel
theorem dX6_go_10 : decode cX6_go 10 = .ok (.ifCond .ne 9, 3) := by decide +kernel
theorem dX6_go_13 : decode cX6_go 13 = .ok (.aload_n 0, 1) := by decide +kernel
theorem dX6_go_14 : decode cX6_go 14 = .ok (.iconst 1, 1) := by decide +kernel
theorem dX6_go_15 : decode cX6_go 15 = .ok (.invokevirtual 161, 3) := by decide +kernel
theorem dX6_go_18 : decode cX6_go 18 = .ok (.ireturn, 1) := by decide +kernel
theorem dX6_go_19 : decode cX6_go 19 = .ok (.aload_n 0, 1) := by decide +kernel
theorem dX6_go_20 : decode cX6_go 20 = .ok (.getfield 21, 3) := by decide +kernel
theorem dX6_go_23 : decode cX6_go 23 = .ok (.iload_n 1, 1) := by decide +kernel
theorem dX6_go_24 : decode cX6_go 24 = .ok (.iaload, 1) := by decide +kernel
theorem dX6_go_25 : decode cX6_go 25 = .ok (.ifCond .eq 20, 3) := by decide +kernel
theorem dX6_go_28 : decode cX6_go 28 = .ok (.aload_n 0, 1) := by decide +kernel
theorem dX6_go_29 : decode cX6_go 29 = .ok (.getfield 21, 3) := by decide +kernel
theorem dX6_go_32 : decode cX6_go 32 = .ok (.iload_n 1, 1) := by decide +kernel
theorem dX6_go_33 : decode cX6_go 33 = .ok (.iaload, 1) := by decide +kernel
theorem dX6_go_34 : decode cX6_go 34 = .ok (.bipush 7, 2) := by decide +kernel
theorem dX6_go_36 : decode cX6_go 36 = .ok (.if_icmp .eq 9, 3) := by decide +kernel
theorem dX6_go_39 : decode cX6_go 39 = .ok (.aload_n 0, 1) := by decide +kernel
theorem dX6_go_40 : decode cX6_go 40 = .ok (.iconst 2, 1) := by decide +kernel
theorem dX6_go_41 : decode cX6_go 41 = .ok (.invokevirtual 161, 3) := by decide +kernel
theorem dX6_go_44 : decode cX6_go 44 = .ok (.ireturn, 1) := by decide +kernel
theorem dX6_go_45 : decode cX6_go 45 = .ok (.iload_n 2, 1) := by decide +kernel
theorem dX6_go_46 : decode cX6_go 46 = .ok (.ifCond .lt 24, 3) := by decide +kernel
theorem dX6_go_49 : decode cX6_go 49 = .ok (.aload_n 0, 1) := by decide +kernel
theorem dX6_go_50 : decode cX6_go 50 = .ok (.getfield 21, 3) := by decide +kernel
theorem dX6_go_53 : decode cX6_go 53 = .ok (.iload_n 1, 1) := by decide +kernel
theorem dX6_go_54 : decode cX6_go 54 = .ok (.iaload, 1) := by decide +kernel
theorem dX6_go_55 : decode cX6_go 55 = .ok (.bipush 7, 2) := by decide +kernel
theorem dX6_go_57 : decode cX6_go 57 = .ok (.if_icmp .ne 19, 3) := by decide +kernel
theorem dX6_go_60 : decode cX6_go 60 = .ok (.iload_n 2, 1) := by decide +kernel
theorem dX6_go_61 : decode cX6_go 61 = .ok (.aload_n 0, 1) := by decide +kernel
theorem dX6_go_62 : decode cX6_go 62 = .ok (.getfield 30, 3) := by decide +kernel
theorem dX6_go_65 : decode cX6_go 65 = .ok (.iload_n 1, 1) := by decide +kernel
theorem dX6_go_66 : decode cX6_go 66 = .ok (.iaload, 1) := by decide +kernel
theorem dX6_go_67 : decode cX6_go 67 = .ok (.if_icmp .lt 9, 3) := by decide +kernel
theorem dX6_go_70 : decode cX6_go 70 = .ok (.aload_n 0, 1) := by decide +kernel
theorem dX6_go_71 : decode cX6_go 71 = .ok (.iconst 3, 1) := by decide +kernel
theorem dX6_go_72 : decode cX6_go 72 = .ok (.invokevirtual 161, 3) := by decide +kernel
theorem dX6_go_75 : decode cX6_go 75 = .ok (.ireturn, 1) := by decide +kernel
theorem dX6_go_76 : decode cX6_go 76 = .ok (.aload_n 0, 1) := by decide +kernel
theorem dX6_go_77 : decode cX6_go 77 = .ok (.getfield 21, 3) := by decide +kernel
theorem dX6_go_80 : decode cX6_go 80 = .ok (.iload_n 1, 1) := by decide +kernel
theorem dX6_go_81 : decode cX6_go 81 = .ok (.iaload, 1) := by decide +kernel
theorem dX6_go_82 : decode cX6_go 82 = .ok (.ifCond .ne 15, 3) := by decide +kernel
theorem dX6_go_85 : decode cX6_go 85 = .ok (.iload_n 2, 1) := by decide +kernel
theorem dX6_go_86 : decode cX6_go 86 = .ok (.aload_n 0, 1) := by decide +kernel
theorem dX6_go_87 : decode cX6_go 87 = .ok (.getfield 36, 3) := by decide +kernel
theorem dX6_go_90 : decode cX6_go 90 = .ok (.iload_n 1, 1) := by decide +kernel
theorem dX6_go_91 : decode cX6_go 91 = .ok (.iaload, 1) := by decide +kernel
theorem dX6_go_92 : decode cX6_go 92 = .ok (.if_icmp .lt 5, 3) := by decide +kernel
theorem dX6_go_95 : decode cX6_go 95 = .ok (.iconst (-1), 1) := by decide +kernel
theorem dX6_go_96 : decode cX6_go 96 = .ok (.ireturn, 1) := by decide +kernel
theorem dX6_go_97 : decode cX6_go 97 = .ok (.aload_n 0, 1) := by decide +kernel
theorem dX6_go_98 : decode cX6_go 98 = .ok (.getfield 27, 3) := by decide +kernel
theorem dX6_go_101 : decode cX6_go 101 = .ok (.iload_n 1, 1) := by decide +kernel
theorem dX6_go_102 : decode cX6_go 102 = .ok (.iaload, 1) := by decide +kernel
theorem dX6_go_103 : decode cX6_go 103 = .ok (.aload_n 0, 1) := by decide +kernel
theorem dX6_go_104 : decode cX6_go 104 = .ok (.getfield 21, 3) := by decide +kernel
theorem dX6_go_107 : decode cX6_go 107 = .ok (.iload_n 1, 1) := by decide +kernel
theorem dX6_go_108 : decode cX6_go 108 = .ok (.iaload, 1) := by decide +kernel
theorem dX6_go_109 : decode cX6_go 109 = .ok (.ifCond .ne 12, 3) := by decide +kernel
theorem dX6_go_112 : decode cX6_go 112 = .ok (.aload_n 0, 1) := by decide +kernel
theorem dX6_go_113 : decode cX6_go 113 = .ok (.getfield 30, 3) := by decide +kernel
theorem dX6_go_116 : decode cX6_go 116 = .ok (.iload_n 1, 1) := by decide +kernel
theorem dX6_go_117 : decode cX6_go 117 = .ok (.iaload, 1) := by decide +kernel
theorem dX6_go_118 : decode cX6_go 118 = .ok (.goto 4, 3) := by decide +kernel
theorem dX6_go_121 : decode cX6_go 121 = .ok (.iconst 0, 1) := by decide +kernel
theorem dX6_go_122 : decode cX6_go 122 = .ok (.iadd, 1) := by decide +kernel
theorem dX6_go_123 : decode cX6_go 123 = .ok (.iload_n 2, 1) := by decide +kernel
theorem dX6_go_124 : decode cX6_go 124 = .ok (.iadd, 1) := by decide +kernel
theorem dX6_go_125 : decode cX6_go 125 = .ok (.istore_n 3, 1) := by decide +kernel
theorem dX6_go_126 : decode cX6_go 126 = .ok (.aload_n 0, 1) := by decide +kernel
theorem dX6_go_127 : decode cX6_go 127 = .ok (.getfield 7, 3) := by decide +kernel
theorem dX6_go_130 : decode cX6_go 130 = .ok (.bipush 64, 2) := by decide +kernel
theorem dX6_go_132 : decode cX6_go 132 = .ok (.aload_n 0, 1) := by decide +kernel
theorem dX6_go_133 : decode cX6_go 133 = .ok (.getfield 24, 3) := by decide +kernel
theorem dX6_go_136 : decode cX6_go 136 = .ok (.iload_n 1, 1) := by decide +kernel
theorem dX6_go_137 : decode cX6_go 137 = .ok (.iaload, 1) := by decide +kernel
theorem dX6_go_138 : decode cX6_go 138 = .ok (.imul, 1) := by decide +kernel
theorem dX6_go_139 : decode cX6_go 139 = .ok (.iload_n 3, 1) := by decide +kernel
theorem dX6_go_140 : decode cX6_go 140 = .ok (.iadd, 1) := by decide +kernel
theorem dX6_go_141 : decode cX6_go 141 = .ok (.laload, 1) := by decide +kernel
theorem dX6_go_142 : decode cX6_go 142 = .ok (.lconst 0, 1) := by decide +kernel
theorem dX6_go_143 : decode cX6_go 143 = .ok (.lcmp, 1) := by decide +kernel
theorem dX6_go_144 : decode cX6_go 144 = .ok (.ifCond .ne 5, 3) := by decide +kernel
theorem dX6_go_147 : decode cX6_go 147 = .ok (.iconst (-1), 1) := by decide +kernel
theorem dX6_go_148 : decode cX6_go 148 = .ok (.ireturn, 1) := by decide +kernel
theorem dX6_go_149 : decode cX6_go 149 = .ok (.aload_n 0, 1) := by decide +kernel
theorem dX6_go_150 : decode cX6_go 150 = .ok (.getfield 72, 3) := by decide +kernel
theorem dX6_go_153 : decode cX6_go 153 = .ok (.bipush 16, 2) := by decide +kernel
theorem dX6_go_155 : decode cX6_go 155 = .ok (.if_icmp .ne 9, 3) := by decide +kernel
theorem dX6_go_158 : decode cX6_go 158 = .ok (.aload_n 0, 1) := by decide +kernel
theorem dX6_go_159 : decode cX6_go 159 = .ok (.iconst 4, 1) := by decide +kernel
theorem dX6_go_160 : decode cX6_go 160 = .ok (.invokevirtual 161, 3) := by decide +kernel
theorem dX6_go_163 : decode cX6_go 163 = .ok (.ireturn, 1) := by decide +kernel
theorem dX6_go_164 : decode cX6_go 164 = .ok (.aload_n 0, 1) := by decide +kernel
theorem dX6_go_165 : decode cX6_go 165 = .ok (.aload_n 0, 1) := by decide +kernel
theorem dX6_go_166 : decode cX6_go 166 = .ok (.getfield 24, 3) := by decide +kernel
theorem dX6_go_169 : decode cX6_go 169 = .ok (.iload_n 1, 1) := by decide +kernel
theorem dX6_go_170 : decode cX6_go 170 = .ok (.iaload, 1) := by decide +kernel
theorem dX6_go_171 : decode cX6_go 171 = .ok (.iload_n 3, 1) := by decide +kernel
theorem dX6_go_172 : decode cX6_go 172 = .ok (.aload_n 0, 1) := by decide +kernel
theorem dX6_go_173 : decode cX6_go 173 = .ok (.getfield 39, 3) := by decide +kernel
theorem dX6_go_176 : decode cX6_go 176 = .ok (.iload_n 1, 1) := by decide +kernel
theorem dX6_go_177 : decode cX6_go 177 = .ok (.iaload, 1) := by decide +kernel
theorem dX6_go_178 : decode cX6_go 178 = .ok (.iconst 1, 1) := by decide +kernel
theorem dX6_go_179 : decode cX6_go 179 = .ok (.iadd, 1) := by decide +kernel
theorem dX6_go_180 : decode cX6_go 180 = .ok (.aload_n 0, 1) := by decide +kernel
theorem dX6_go_181 : decode cX6_go 181 = .ok (.getfield 151, 3) := by decide +kernel
theorem dX6_go_184 : decode cX6_go 184 = .ok (.invokevirtual 164, 3) := by decide +kernel
theorem dX6_go_187 : decode cX6_go 187 = .ok (.istore 4, 2) := by decide +kernel
theorem dX6_go_189 : decode cX6_go 189 = .ok (.iload 4, 2) := by decide +kernel
theorem dX6_go_191 : decode cX6_go 191 = .ok (.ifCond .eq 29, 3) := by decide +kernel
theorem dX6_go_194 : decode cX6_go 194 = .ok (.aload_n 0, 1) := by decide +kernel
theorem dX6_go_195 : decode cX6_go 195 = .ok (.iload 4, 2) := by decide +kernel
theorem dX6_go_197 : decode cX6_go 197 = .ok (.iconst 1, 1) := by decide +kernel
theorem dX6_go_198 : decode cX6_go 198 = .ok (.if_icmp .ne 7, 3) := by decide +kernel
theorem dX6_go_201 : decode cX6_go 201 = .ok (.iconst 3, 1) := by decide +kernel
theorem dX6_go_202 : decode cX6_go 202 = .ok (.goto 14, 3) := by decide +kernel
theorem dX6_go_205 : decode cX6_go 205 = .ok (.iload 4, 2) := by decide +kernel
theorem dX6_go_207 : decode cX6_go 207 = .ok (.iconst 2, 1) := by decide +kernel
theorem dX6_go_208 : decode cX6_go 208 = .ok (.if_icmp .ne 7, 3) := by decide +kernel
theorem dX6_go_211 : decode cX6_go 211 = .ok (.iconst 5, 1) := by decide +kernel
theorem dX6_go_212 : decode cX6_go 212 = .ok (.goto 4, 3) := by decide +kernel
theorem dX6_go_215 : decode cX6_go 215 = .ok (.iconst 4, 1) := by decide +kernel
theorem dX6_go_216 : decode cX6_go 216 = .ok (.invokevirtual 161, 3) := by decide +kernel
theorem dX6_go_219 : decode cX6_go 219 = .ok (.ireturn, 1) := by decide +kernel
theorem dX6_go_220 : decode cX6_go 220 = .ok (.aload_n 0, 1) := by decide +kernel
theorem dX6_go_221 : decode cX6_go 221 = .ok (.aload_n 0, 1) := by decide +kernel
theorem dX6_go_222 : decode cX6_go 222 = .ok (.getfield 151, 3) := by decide +kernel
theorem dX6_go_225 : decode cX6_go 225 = .ok (.aload_n 0, 1) := by decide +kernel
theorem dX6_go_226 : decode cX6_go 226 = .ok (.getfield 121, 3) := by decide +kernel
theorem dX6_go_229 : decode cX6_go 229 = .ok (.l2i, 1) := by decide +kernel
theorem dX6_go_230 : decode cX6_go 230 = .ok (.isub, 1) := by decide +kernel
theorem dX6_go_231 : decode cX6_go 231 = .ok (.putfield 151, 3) := by decide +kernel
theorem dX6_go_234 : decode cX6_go 234 = .ok (.aload_n 0, 1) := by decide +kernel
theorem dX6_go_235 : decode cX6_go 235 = .ok (.aload_n 0, 1) := by decide +kernel
theorem dX6_go_236 : decode cX6_go 236 = .ok (.getfield 39, 3) := by decide +kernel
theorem dX6_go_239 : decode cX6_go 239 = .ok (.iload_n 1, 1) := by decide +kernel
theorem dX6_go_240 : decode cX6_go 240 = .ok (.iaload, 1) := by decide +kernel
theorem dX6_go_241 : decode cX6_go 241 = .ok (.iconst 1, 1) := by decide +kernel
theorem dX6_go_242 : decode cX6_go 242 = .ok (.iadd, 1) := by decide +kernel
theorem dX6_go_243 : decode cX6_go 243 = .ok (.invokevirtual 154, 3) := by decide +kernel
theorem dX6_go_246 : decode cX6_go 246 = .ok (.ireturn, 1) := by decide +kernel
theorem dX6_element_0 : decode cX6_element 0 = .ok (.aload_n 0, 1) := by decide +kernel
theorem dX6_element_1 : decode cX6_element 1 = .ok (.aload_n 0, 1) := by decide +kernel
theorem dX6_element_2 : decode cX6_element 2 = .ok (.iload_n 1, 1) := by decide +kernel
theorem dX6_element_3 : decode cX6_element 3 = .ok (.invokevirtual 157, 3) := by decide +kernel
theorem dX6_element_6 : decode cX6_element 6 = .ok (.ifCond .ne 7, 3) := by decide +kernel
theorem dX6_element_9 : decode cX6_element 9 = .ok (.iconst 1, 1) := by decide +kernel
theorem dX6_element_10 : decode cX6_element 10 = .ok (.goto 50, 3) := by decide +kernel
theorem dX6_element_13 : decode cX6_element 13 = .ok (.aload_n 0, 1) := by decide +kernel
theorem dX6_element_14 : decode cX6_element 14 = .ok (.getfield 21, 3) := by decide +kernel
theorem dX6_element_17 : decode cX6_element 17 = .ok (.iload_n 1, 1) := by decide +kernel
theorem dX6_element_18 : decode cX6_element 18 = .ok (.iaload, 1) := by decide +kernel
theorem dX6_element_19 : decode cX6_element 19 = .ok (.bipush 8, 2) := by decide +kernel
theorem dX6_element_21 : decode cX6_element 21 = .ok (.if_icmp .eq 7, 3) := by decide +kernel
theorem dX6_element_24 : decode cX6_element 24 = .ok (.iconst 2, 1) := by decide +kernel
theorem dX6_element_25 : decode cX6_element 25 = .ok (.goto 35, 3) := by decide +kernel
theorem dX6_element_28 : decode cX6_element 28 = .ok (.iload_n 2, 1) := by decide +kernel
theorem dX6_element_29 : decode cX6_element 29 = .ok (.ifCond .lt 13, 3) := by decide +kernel
theorem dX6_element_32 : decode cX6_element 32 = .ok (.iload_n 2, 1) := by decide +kernel
theorem dX6_element_33 : decode cX6_element 33 = .ok (.aload_n 0, 1) := by decide +kernel
theorem dX6_element_34 : decode cX6_element 34 = .ok (.getfield 30, 3) := by decide +kernel
theorem dX6_element_37 : decode cX6_element 37 = .ok (.iload_n 1, 1) := by decide +kernel
theorem dX6_element_38 : decode cX6_element 38 = .ok (.iaload, 1) := by decide +kernel
theorem dX6_element_39 : decode cX6_element 39 = .ok (.if_icmp .lt 7, 3) := by decide +kernel
theorem dX6_element_42 : decode cX6_element 42 = .ok (.iconst 3, 1) := by decide +kernel
theorem dX6_element_43 : decode cX6_element 43 = .ok (.goto 17, 3) := by decide +kernel
theorem dX6_element_46 : decode cX6_element 46 = .ok (.aload_n 0, 1) := by decide +kernel
theorem dX6_element_47 : decode cX6_element 47 = .ok (.getfield 72, 3) := by decide +kernel
theorem dX6_element_50 : decode cX6_element 50 = .ok (.bipush 16, 2) := by decide +kernel
theorem dX6_element_52 : decode cX6_element 52 = .ok (.if_icmp .ne 7, 3) := by decide +kernel
theorem dX6_element_55 : decode cX6_element 55 = .ok (.iconst 4, 1) := by decide +kernel
theorem dX6_element_56 : decode cX6_element 56 = .ok (.goto 4, 3) := by decide +kernel
theorem dX6_element_59 : decode cX6_element 59 = .ok (.iconst 0, 1) := by decide +kernel
theorem dX6_element_60 : decode cX6_element 60 = .ok (.putfield 69, 3) := by decide +kernel
theorem dX6_element_63 : decode cX6_element 63 = .ok (.aload_n 0, 1) := by decide +kernel
theorem dX6_element_64 : decode cX6_element 64 = .ok (.getfield 69, 3) := by decide +kernel
theorem dX6_element_67 : decode cX6_element 67 = .ok (.ifCond .eq 5, 3) := by decide +kernel
theorem dX6_element_70 : decode cX6_element 70 = .ok (.iconst 0, 1) := by decide +kernel
theorem dX6_element_71 : decode cX6_element 71 = .ok (.ireturn, 1) := by decide +kernel
theorem dX6_element_72 : decode cX6_element 72 = .ok (.aload_n 0, 1) := by decide +kernel
theorem dX6_element_73 : decode cX6_element 73 = .ok (.iconst 0, 1) := by decide +kernel
theorem dX6_element_74 : decode cX6_element 74 = .ok (.putfield 113, 3) := by decide +kernel
theorem dX6_element_77 : decode cX6_element 77 = .ok (.aload_n 0, 1) := by decide +kernel
theorem dX6_element_78 : decode cX6_element 78 = .ok (.aload_n 0, 1) := by decide +kernel
theorem dX6_element_79 : decode cX6_element 79 = .ok (.getfield 24, 3) := by decide +kernel
theorem dX6_element_82 : decode cX6_element 82 = .ok (.iload_n 1, 1) := by decide +kernel
theorem dX6_element_83 : decode cX6_element 83 = .ok (.iaload, 1) := by decide +kernel
theorem dX6_element_84 : decode cX6_element 84 = .ok (.putfield 83, 3) := by decide +kernel
theorem dX6_element_87 : decode cX6_element 87 = .ok (.aload_n 0, 1) := by decide +kernel
theorem dX6_element_88 : decode cX6_element 88 = .ok (.aload_n 0, 1) := by decide +kernel
theorem dX6_element_89 : decode cX6_element 89 = .ok (.getfield 27, 3) := by decide +kernel
theorem dX6_element_92 : decode cX6_element 92 = .ok (.iload_n 1, 1) := by decide +kernel
theorem dX6_element_93 : decode cX6_element 93 = .ok (.iaload, 1) := by decide +kernel
theorem dX6_element_94 : decode cX6_element 94 = .ok (.iload_n 2, 1) := by decide +kernel
theorem dX6_element_95 : decode cX6_element 95 = .ok (.aload_n 0, 1) := by decide +kernel
theorem dX6_element_96 : decode cX6_element 96 = .ok (.getfield 33, 3) := by decide +kernel
theorem dX6_element_99 : decode cX6_element 99 = .ok (.iload_n 1, 1) := by decide +kernel
theorem dX6_element_100 : decode cX6_element 100 = .ok (.iaload, 1) := by decide +kernel
theorem dX6_element_101 : decode cX6_element 101 = .ok (.aload_n 0, 1) := by decide +kernel
theorem dX6_element_102 : decode cX6_element 102 = .ok (.getfield 36, 3) := by decide +kernel
theorem dX6_element_105 : decode cX6_element 105 = .ok (.iload_n 1, 1) := by decide +kernel
theorem dX6_element_106 : decode cX6_element 106 = .ok (.iaload, 1) := by decide +kernel
theorem dX6_element_107 : decode cX6_element 107 = .ok (.iadd, 1) := by decide +kernel
theorem dX6_element_108 : decode cX6_element 108 = .ok (.imul, 1) := by decide +kernel
theorem dX6_element_109 : decode cX6_element 109 = .ok (.iadd, 1) := by decide +kernel
theorem dX6_element_110 : decode cX6_element 110 = .ok (.putfield 90, 3) := by decide +kernel
theorem dX6_element_113 : decode cX6_element 113 = .ok (.aload_n 0, 1) := by decide +kernel
theorem dX6_element_114 : decode cX6_element 114 = .ok (.aload_n 0, 1) := by decide +kernel
theorem dX6_element_115 : decode cX6_element 115 = .ok (.getfield 33, 3) := by decide +kernel
theorem dX6_element_118 : decode cX6_element 118 = .ok (.iload_n 1, 1) := by decide +kernel
theorem dX6_element_119 : decode cX6_element 119 = .ok (.iaload, 1) := by decide +kernel
theorem dX6_element_120 : decode cX6_element 120 = .ok (.i2l, 1) := by decide +kernel
theorem dX6_element_121 : decode cX6_element 121 = .ok (.putfield 118, 3) := by decide +kernel
theorem dX6_element_124 : decode cX6_element 124 = .ok (.aload_n 0, 1) := by decide +kernel
theorem dX6_element_125 : decode cX6_element 125 = .ok (.iconst 0, 1) := by decide +kernel
theorem dX6_element_126 : decode cX6_element 126 = .ok (.putfield 107, 3) := by decide +kernel
theorem dX6_element_129 : decode cX6_element 129 = .ok (.aload_n 0, 1) := by decide +kernel
theorem dX6_element_130 : decode cX6_element 130 = .ok (.aload_n 0, 1) := by decide +kernel
theorem dX6_element_131 : decode cX6_element 131 = .ok (.getfield 36, 3) := by decide +kernel
theorem dX6_element_134 : decode cX6_element 134 = .ok (.iload_n 1, 1) := by decide +kernel
theorem dX6_element_135 : decode cX6_element 135 = .ok (.iaload, 1) := by decide +kernel
theorem dX6_element_136 : decode cX6_element 136 = .ok (.putfield 110, 3) := by decide +kernel
theorem dX6_element_139 : decode cX6_element 139 = .ok (.aload_n 0, 1) := by decide +kernel
theorem dX6_element_140 : decode cX6_element 140 = .ok (.aload_n 0, 1) := by decide +kernel
theorem dX6_element_141 : decode cX6_element 141 = .ok (.getfield 39, 3) := by decide +kernel
theorem dX6_element_144 : decode cX6_element 144 = .ok (.iload_n 1, 1) := by decide +kernel
theorem dX6_element_145 : decode cX6_element 145 = .ok (.iaload, 1) := by decide +kernel
theorem dX6_element_146 : decode cX6_element 146 = .ok (.invokevirtual 154, 3) := by decide +kernel
theorem dX6_element_149 : decode cX6_element 149 = .ok (.ireturn, 1) := by decide +kernel
theorem dX6_about_0 : decode cX6_about 0 = .ok (.aload_n 0, 1) := by decide +kernel
theorem dX6_about_1 : decode cX6_about 1 = .ok (.aload_n 0, 1) := by decide +kernel
theorem dX6_about_2 : decode cX6_about 2 = .ok (.iload_n 1, 1) := by decide +kernel
theorem dX6_about_3 : decode cX6_about 3 = .ok (.invokevirtual 157, 3) := by decide +kernel
theorem dX6_about_6 : decode cX6_about 6 = .ok (.ifCond .ne 7, 3) := by decide +kernel
theorem dX6_about_9 : decode cX6_about 9 = .ok (.iconst 1, 1) := by decide +kernel
theorem dX6_about_10 : decode cX6_about 10 = .ok (.goto 18, 3) := by decide +kernel
theorem dX6_about_13 : decode cX6_about 13 = .ok (.iload_n 2, 1) := by decide +kernel
theorem dX6_about_14 : decode cX6_about 14 = .ok (.ifCond .lt 9, 3) := by decide +kernel
theorem dX6_about_17 : decode cX6_about 17 = .ok (.iload_n 2, 1) := by decide +kernel
theorem dX6_about_18 : decode cX6_about 18 = .ok (.bipush 6, 2) := by decide +kernel
theorem dX6_about_20 : decode cX6_about 20 = .ok (.if_icmp .le 7, 3) := by decide +kernel
theorem dX6_about_23 : decode cX6_about 23 = .ok (.iconst 2, 1) := by decide +kernel
theorem dX6_about_24 : decode cX6_about 24 = .ok (.goto 4, 3) := by decide +kernel
theorem dX6_about_27 : decode cX6_about 27 = .ok (.iconst 0, 1) := by decide +kernel
theorem dX6_about_28 : decode cX6_about 28 = .ok (.putfield 69, 3) := by decide +kernel
theorem dX6_about_31 : decode cX6_about 31 = .ok (.aload_n 0, 1) := by decide +kernel
theorem dX6_about_32 : decode cX6_about 32 = .ok (.getfield 69, 3) := by decide +kernel
theorem dX6_about_35 : decode cX6_about 35 = .ok (.ifCond .eq 5, 3) := by decide +kernel
theorem dX6_about_38 : decode cX6_about 38 = .ok (.iconst 0, 1) := by decide +kernel
theorem dX6_about_39 : decode cX6_about 39 = .ok (.ireturn, 1) := by decide +kernel
theorem dX6_about_40 : decode cX6_about 40 = .ok (.iload_n 2, 1) := by decide +kernel
theorem dX6_about_41 : decode cX6_about 41 = .ok (.ifCond .ne 12, 3) := by decide +kernel
theorem dX6_about_44 : decode cX6_about 44 = .ok (.aload_n 0, 1) := by decide +kernel
theorem dX6_about_45 : decode cX6_about 45 = .ok (.getfield 21, 3) := by decide +kernel
theorem dX6_about_48 : decode cX6_about 48 = .ok (.iload_n 1, 1) := by decide +kernel
theorem dX6_about_49 : decode cX6_about 49 = .ok (.iaload, 1) := by decide +kernel
theorem dX6_about_50 : decode cX6_about 50 = .ok (.goto 79, 3) := by decide +kernel
theorem dX6_about_53 : decode cX6_about 53 = .ok (.iload_n 2, 1) := by decide +kernel
theorem dX6_about_54 : decode cX6_about 54 = .ok (.iconst 1, 1) := by decide +kernel
theorem dX6_about_55 : decode cX6_about 55 = .ok (.if_icmp .ne 12, 3) := by decide +kernel
theorem dX6_about_58 : decode cX6_about 58 = .ok (.aload_n 0, 1) := by decide +kernel
theorem dX6_about_59 : decode cX6_about 59 = .ok (.getfield 30, 3) := by decide +kernel
theorem dX6_about_62 : decode cX6_about 62 = .ok (.iload_n 1, 1) := by decide +kernel
theorem dX6_about_63 : decode cX6_about 63 = .ok (.iaload, 1) := by decide +kernel
theorem dX6_about_64 : decode cX6_about 64 = .ok (.goto 65, 3) := by decide +kernel
theorem dX6_about_67 : decode cX6_about 67 = .ok (.iload_n 2, 1) := by decide +kernel
theorem dX6_about_68 : decode cX6_about 68 = .ok (.iconst 2, 1) := by decide +kernel
theorem dX6_about_69 : decode cX6_about 69 = .ok (.if_icmp .ne 12, 3) := by decide +kernel
theorem dX6_about_72 : decode cX6_about 72 = .ok (.aload_n 0, 1) := by decide +kernel
theorem dX6_about_73 : decode cX6_about 73 = .ok (.getfield 36, 3) := by decide +kernel
theorem dX6_about_76 : decode cX6_about 76 = .ok (.iload_n 1, 1) := by decide +kernel
theorem dX6_about_77 : decode cX6_about 77 = .ok (.iaload, 1) := by decide +kernel
theorem dX6_about_78 : decode cX6_about 78 = .ok (.goto 51, 3) := by decide +kernel
theorem dX6_about_81 : decode cX6_about 81 = .ok (.iload_n 2, 1) := by decide +kernel
theorem dX6_about_82 : decode cX6_about 82 = .ok (.iconst 3, 1) := by decide +kernel
theorem dX6_about_83 : decode cX6_about 83 = .ok (.if_icmp .ne 12, 3) := by decide +kernel
theorem dX6_about_86 : decode cX6_about 86 = .ok (.aload_n 0, 1) := by decide +kernel
theorem dX6_about_87 : decode cX6_about 87 = .ok (.getfield 33, 3) := by decide +kernel
theorem dX6_about_90 : decode cX6_about 90 = .ok (.iload_n 1, 1) := by decide +kernel
theorem dX6_about_91 : decode cX6_about 91 = .ok (.iaload, 1) := by decide +kernel
theorem dX6_about_92 : decode cX6_about 92 = .ok (.goto 37, 3) := by decide +kernel
theorem dX6_about_95 : decode cX6_about 95 = .ok (.iload_n 2, 1) := by decide +kernel
theorem dX6_about_96 : decode cX6_about 96 = .ok (.iconst 4, 1) := by decide +kernel
theorem dX6_about_97 : decode cX6_about 97 = .ok (.if_icmp .ne 12, 3) := by decide +kernel
theorem dX6_about_100 : decode cX6_about 100 = .ok (.aload_n 0, 1) := by decide +kernel
theorem dX6_about_101 : decode cX6_about 101 = .ok (.getfield 24, 3) := by decide +kernel
theorem dX6_about_104 : decode cX6_about 104 = .ok (.iload_n 1, 1) := by decide +kernel
theorem dX6_about_105 : decode cX6_about 105 = .ok (.iaload, 1) := by decide +kernel
theorem dX6_about_106 : decode cX6_about 106 = .ok (.goto 23, 3) := by decide +kernel
theorem dX6_about_109 : decode cX6_about 109 = .ok (.iload_n 2, 1) := by decide +kernel
theorem dX6_about_110 : decode cX6_about 110 = .ok (.iconst 5, 1) := by decide +kernel
theorem dX6_about_111 : decode cX6_about 111 = .ok (.if_icmp .ne 12, 3) := by decide +kernel
theorem dX6_about_114 : decode cX6_about 114 = .ok (.aload_n 0, 1) := by decide +kernel
theorem dX6_about_115 : decode cX6_about 115 = .ok (.getfield 27, 3) := by decide +kernel
theorem dX6_about_118 : decode cX6_about 118 = .ok (.iload_n 1, 1) := by decide +kernel
theorem dX6_about_119 : decode cX6_about 119 = .ok (.iaload, 1) := by decide +kernel
theorem dX6_about_120 : decode cX6_about 120 = .ok (.goto 9, 3) := by decide +kernel
theorem dX6_about_123 : decode cX6_about 123 = .ok (.aload_n 0, 1) := by decide +kernel
theorem dX6_about_124 : decode cX6_about 124 = .ok (.getfield 39, 3) := by decide +kernel
theorem dX6_about_127 : decode cX6_about 127 = .ok (.iload_n 1, 1) := by decide +kernel
theorem dX6_about_128 : decode cX6_about 128 = .ok (.iaload, 1) := by decide +kernel
theorem dX6_about_129 : decode cX6_about 129 = .ok (.ireturn, 1) := by decide +kernel
theorem dX6_data_0 : decode cX6_data 0 = .ok (.aload_n 0, 1) := by decide +kernel
theorem dX6_data_1 : decode cX6_data 1 = .ok (.aload_n 0, 1) := by decide +kernel
theorem dX6_data_2 : decode cX6_data 2 = .ok (.iload_n 1, 1) := by decide +kernel
theorem dX6_data_3 : decode cX6_data 3 = .ok (.invokevirtual 157, 3) := by decide +kernel
theorem dX6_data_6 : decode cX6_data 6 = .ok (.ifCond .ne 7, 3) := by decide +kernel
theorem dX6_data_9 : decode cX6_data 9 = .ok (.iconst 1, 1) := by decide +kernel
theorem dX6_data_10 : decode cX6_data 10 = .ok (.goto 46, 3) := by decide +kernel
theorem dX6_data_13 : decode cX6_data 13 = .ok (.aload_n 0, 1) := by decide +kernel
theorem dX6_data_14 : decode cX6_data 14 = .ok (.getfield 21, 3) := by decide +kernel
theorem dX6_data_17 : decode cX6_data 17 = .ok (.iload_n 1, 1) := by decide +kernel
theorem dX6_data_18 : decode cX6_data 18 = .ok (.iaload, 1) := by decide +kernel
theorem dX6_data_19 : decode cX6_data 19 = .ok (.bipush 6, 2) := by decide +kernel
theorem dX6_data_21 : decode cX6_data 21 = .ok (.if_icmp .le 7, 3) := by decide +kernel
theorem dX6_data_24 : decode cX6_data 24 = .ok (.iconst 2, 1) := by decide +kernel
theorem dX6_data_25 : decode cX6_data 25 = .ok (.goto 31, 3) := by decide +kernel
theorem dX6_data_28 : decode cX6_data 28 = .ok (.iload_n 2, 1) := by decide +kernel
theorem dX6_data_29 : decode cX6_data 29 = .ok (.ifCond .lt 22, 3) := by decide +kernel
theorem dX6_data_32 : decode cX6_data 32 = .ok (.aload_n 0, 1) := by decide +kernel
theorem dX6_data_33 : decode cX6_data 33 = .ok (.getfield 21, 3) := by decide +kernel
theorem dX6_data_36 : decode cX6_data 36 = .ok (.iload_n 1, 1) := by decide +kernel
theorem dX6_data_37 : decode cX6_data 37 = .ok (.iaload, 1) := by decide +kernel
theorem dX6_data_38 : decode cX6_data 38 = .ok (.ifCond .le 17, 3) := by decide +kernel
theorem dX6_data_41 : decode cX6_data 41 = .ok (.iload_n 2, 1) := by decide +kernel
theorem dX6_data_42 : decode cX6_data 42 = .ok (.aload_n 0, 1) := by decide +kernel
theorem dX6_data_43 : decode cX6_data 43 = .ok (.getfield 30, 3) := by decide +kernel
theorem dX6_data_46 : decode cX6_data 46 = .ok (.iload_n 1, 1) := by decide +kernel
theorem dX6_data_47 : decode cX6_data 47 = .ok (.iaload, 1) := by decide +kernel
theorem dX6_data_48 : decode cX6_data 48 = .ok (.if_icmp .lt 7, 3) := by decide +kernel
theorem dX6_data_51 : decode cX6_data 51 = .ok (.iconst 3, 1) := by decide +kernel
theorem dX6_data_52 : decode cX6_data 52 = .ok (.goto 4, 3) := by decide +kernel
theorem dX6_data_55 : decode cX6_data 55 = .ok (.iconst 0, 1) := by decide +kernel
theorem dX6_data_56 : decode cX6_data 56 = .ok (.putfield 69, 3) := by decide +kernel
theorem dX6_data_59 : decode cX6_data 59 = .ok (.aload_n 0, 1) := by decide +kernel
theorem dX6_data_60 : decode cX6_data 60 = .ok (.getfield 69, 3) := by decide +kernel
theorem dX6_data_63 : decode cX6_data 63 = .ok (.ifCond .ne 23, 3) := by decide +kernel
theorem dX6_data_66 : decode cX6_data 66 = .ok (.aload_n 0, 1) := by decide +kernel
theorem dX6_data_67 : decode cX6_data 67 = .ok (.getfield 21, 3) := by decide +kernel
theorem dX6_data_70 : decode cX6_data 70 = .ok (.iload_n 1, 1) := by decide +kernel
theorem dX6_data_71 : decode cX6_data 71 = .ok (.iaload, 1) := by decide +kernel
theorem dX6_data_72 : decode cX6_data 72 = .ok (.iconst 1, 1) := by decide +kernel
theorem dX6_data_73 : decode cX6_data 73 = .ok (.if_icmp .eq 13, 3) := by decide +kernel
theorem dX6_data_76 : decode cX6_data 76 = .ok (.iload_n 2, 1) := by decide +kernel
theorem dX6_data_77 : decode cX6_data 77 = .ok (.aload_n 0, 1) := by decide +kernel
theorem dX6_data_78 : decode cX6_data 78 = .ok (.getfield 30, 3) := by decide +kernel
theorem dX6_data_81 : decode cX6_data 81 = .ok (.iload_n 1, 1) := by decide +kernel
theorem dX6_data_82 : decode cX6_data 82 = .ok (.iaload, 1) := by decide +kernel
theorem dX6_data_83 : decode cX6_data 83 = .ok (.if_icmp .lt 5, 3) := by decide +kernel
theorem dX6_data_86 : decode cX6_data 86 = .ok (.lconst 0, 1) := by decide +kernel
theorem dX6_data_87 : decode cX6_data 87 = .ok (.lreturn, 1) := by decide +kernel
theorem dX6_data_88 : decode cX6_data 88 = .ok (.bipush 64, 2) := by decide +kernel
theorem dX6_data_90 : decode cX6_data 90 = .ok (.aload_n 0, 1) := by decide +kernel
theorem dX6_data_91 : decode cX6_data 91 = .ok (.getfield 24, 3) := by decide +kernel
theorem dX6_data_94 : decode cX6_data 94 = .ok (.iload_n 1, 1) := by decide +kernel
theorem dX6_data_95 : decode cX6_data 95 = .ok (.iaload, 1) := by decide +kernel
theorem dX6_data_96 : decode cX6_data 96 = .ok (.imul, 1) := by decide +kernel
theorem dX6_data_97 : decode cX6_data 97 = .ok (.aload_n 0, 1) := by decide +kernel
theorem dX6_data_98 : decode cX6_data 98 = .ok (.getfield 27, 3) := by decide +kernel
theorem dX6_data_101 : decode cX6_data 101 = .ok (.iload_n 1, 1) := by decide +kernel
theorem dX6_data_102 : decode cX6_data 102 = .ok (.iaload, 1) := by decide +kernel
theorem dX6_data_103 : decode cX6_data 103 = .ok (.iadd, 1) := by decide +kernel
theorem dX6_data_104 : decode cX6_data 104 = .ok (.istore_n 3, 1) := by decide +kernel
theorem dX6_data_105 : decode cX6_data 105 = .ok (.aload_n 0, 1) := by decide +kernel
theorem dX6_data_106 : decode cX6_data 106 = .ok (.getfield 21, 3) := by decide +kernel
theorem dX6_data_109 : decode cX6_data 109 = .ok (.iload_n 1, 1) := by decide +kernel
theorem dX6_data_110 : decode cX6_data 110 = .ok (.iaload, 1) := by decide +kernel
theorem dX6_data_111 : decode cX6_data 111 = .ok (.ifCond .ne 12, 3) := by decide +kernel
theorem dX6_data_114 : decode cX6_data 114 = .ok (.aload_n 0, 1) := by decide +kernel
theorem dX6_data_115 : decode cX6_data 115 = .ok (.getfield 7, 3) := by decide +kernel
theorem dX6_data_118 : decode cX6_data 118 = .ok (.iload_n 3, 1) := by decide +kernel
theorem dX6_data_119 : decode cX6_data 119 = .ok (.iload_n 2, 1) := by decide +kernel
theorem dX6_data_120 : decode cX6_data 120 = .ok (.iadd, 1) := by decide +kernel
theorem dX6_data_121 : decode cX6_data 121 = .ok (.laload, 1) := by decide +kernel
theorem dX6_data_122 : decode cX6_data 122 = .ok (.lreturn, 1) := by decide +kernel
theorem dX6_data_123 : decode cX6_data 123 = .ok (.aload_n 0, 1) := by decide +kernel
theorem dX6_data_124 : decode cX6_data 124 = .ok (.getfield 21, 3) := by decide +kernel
theorem dX6_data_127 : decode cX6_data 127 = .ok (.iload_n 1, 1) := by decide +kernel
theorem dX6_data_128 : decode cX6_data 128 = .ok (.iaload, 1) := by decide +kernel
theorem dX6_data_129 : decode cX6_data 129 = .ok (.iconst 1, 1) := by decide +kernel
theorem dX6_data_130 : decode cX6_data 130 = .ok (.isub, 1) := by decide +kernel
theorem dX6_data_131 : decode cX6_data 131 = .ok (.invokestatic 124, 3) := by decide +kernel
theorem dX6_data_134 : decode cX6_data 134 = .ok (.istore 4, 2) := by decide +kernel
theorem dX6_data_136 : decode cX6_data 136 = .ok (.iload_n 2, 1) := by decide +kernel
theorem dX6_data_137 : decode cX6_data 137 = .ok (.i2l, 1) := by decide +kernel
theorem dX6_data_138 : decode cX6_data 138 = .ok (.iload 4, 2) := by decide +kernel
theorem dX6_data_140 : decode cX6_data 140 = .ok (.i2l, 1) := by decide +kernel
theorem dX6_data_141 : decode cX6_data 141 = .ok (.lmul, 1) := by decide +kernel
theorem dX6_data_142 : decode cX6_data 142 = .ok (.lstore 5, 2) := by decide +kernel
theorem dX6_data_144 : decode cX6_data 144 = .ok (.aload_n 0, 1) := by decide +kernel
theorem dX6_data_145 : decode cX6_data 145 = .ok (.getfield 7, 3) := by decide +kernel
theorem dX6_data_148 : decode cX6_data 148 = .ok (.iload_n 3, 1) := by decide +kernel
theorem dX6_data_149 : decode cX6_data 149 = .ok (.lload 5, 2) := by decide +kernel
theorem dX6_data_151 : decode cX6_data 151 = .ok (.ldc2_w 130, 3) := by decide +kernel
theorem dX6_data_154 : decode cX6_data 154 = .ok (.ldiv, 1) := by decide +kernel
theorem dX6_data_155 : decode cX6_data 155 = .ok (.l2i, 1) := by decide +kernel
theorem dX6_data_156 : decode cX6_data 156 = .ok (.iadd, 1) := by decide +kernel
theorem dX6_data_157 : decode cX6_data 157 = .ok (.laload, 1) := by decide +kernel
theorem dX6_data_158 : decode cX6_data 158 = .ok (.lload 5, 2) := by decide +kernel
theorem dX6_data_160 : decode cX6_data 160 = .ok (.ldc2_w 130, 3) := by decide +kernel
theorem dX6_data_163 : decode cX6_data 163 = .ok (.lrem, 1) := by decide +kernel
theorem dX6_data_164 : decode cX6_data 164 = .ok (.l2i, 1) := by decide +kernel
theorem dX6_data_165 : decode cX6_data 165 = .ok (.lushr, 1) := by decide +kernel
theorem dX6_data_166 : decode cX6_data 166 = .ok (.lstore 7, 2) := by decide +kernel
theorem dX6_data_168 : decode cX6_data 168 = .ok (.iload 4, 2) := by decide +kernel
theorem dX6_data_170 : decode cX6_data 170 = .ok (.bipush 64, 2) := by decide +kernel
theorem dX6_data_172 : decode cX6_data 172 = .ok (.if_icmp .ne 8, 3) := by decide +kernel
theorem dX6_data_175 : decode cX6_data 175 = .ok (.lload 7, 2) := by decide +kernel
theorem dX6_data_177 : decode cX6_data 177 = .ok (.goto 12, 3) := by decide +kernel
theorem dX6_data_180 : decode cX6_data 180 = .ok (.lload 7, 2) := by decide +kernel
theorem dX6_data_182 : decode cX6_data 182 = .ok (.lconst 1, 1) := by decide +kernel
theorem dX6_data_183 : decode cX6_data 183 = .ok (.iload 4, 2) := by decide +kernel
theorem dX6_data_185 : decode cX6_data 185 = .ok (.lshl, 1) := by decide +kernel
theorem dX6_data_186 : decode cX6_data 186 = .ok (.lconst 1, 1) := by decide +kernel
theorem dX6_data_187 : decode cX6_data 187 = .ok (.lsub, 1) := by decide +kernel
theorem dX6_data_188 : decode cX6_data 188 = .ok (.land, 1) := by decide +kernel
theorem dX6_data_189 : decode cX6_data 189 = .ok (.lreturn, 1) := by decide +kernel
theorem dX6_await_0 : decode cX6_await 0 = .ok (.aload_n 0, 1) := by decide +kernel
theorem dX6_await_1 : decode cX6_await 1 = .ok (.getfield 57, 3) := by decide +kernel
theorem dX6_await_4 : decode cX6_await 4 = .ok (.aload_n 0, 1) := by decide +kernel
theorem dX6_await_5 : decode cX6_await 5 = .ok (.getfield 168, 3) := by decide +kernel
theorem dX6_await_8 : decode cX6_await 8 = .ok (.iload_n 1, 1) := by decide +kernel
theorem dX6_await_9 : decode cX6_await 9 = .ok (.iastore, 1) := by decide +kernel
theorem dX6_await_10 : decode cX6_await 10 = .ok (.aload_n 0, 1) := by decide +kernel
theorem dX6_await_11 : decode cX6_await 11 = .ok (.getfield 60, 3) := by decide +kernel
theorem dX6_await_14 : decode cX6_await 14 = .ok (.aload_n 0, 1) := by decide +kernel
theorem dX6_await_15 : decode cX6_await 15 = .ok (.getfield 168, 3) := by decide +kernel
theorem dX6_await_18 : decode cX6_await 18 = .ok (.iload_n 2, 1) := by decide +kernel
theorem dX6_await_19 : decode cX6_await 19 = .ok (.iastore, 1) := by decide +kernel
theorem dX6_await_20 : decode cX6_await 20 = .ok (.aload_n 0, 1) := by decide +kernel
theorem dX6_await_21 : decode cX6_await 21 = .ok (.getfield 63, 3) := by decide +kernel
theorem dX6_await_24 : decode cX6_await 24 = .ok (.aload_n 0, 1) := by decide +kernel
theorem dX6_await_25 : decode cX6_await 25 = .ok (.getfield 168, 3) := by decide +kernel
theorem dX6_await_28 : decode cX6_await 28 = .ok (.iload_n 3, 1) := by decide +kernel
theorem dX6_await_29 : decode cX6_await 29 = .ok (.iastore, 1) := by decide +kernel
theorem dX6_await_30 : decode cX6_await 30 = .ok (.aload_n 0, 1) := by decide +kernel
theorem dX6_await_31 : decode cX6_await 31 = .ok (.getfield 66, 3) := by decide +kernel
theorem dX6_await_34 : decode cX6_await 34 = .ok (.aload_n 0, 1) := by decide +kernel
theorem dX6_await_35 : decode cX6_await 35 = .ok (.getfield 168, 3) := by decide +kernel
theorem dX6_await_38 : decode cX6_await 38 = .ok (.iload 4, 2) := by decide +kernel
theorem dX6_await_40 : decode cX6_await 40 = .ok (.iastore, 1) := by decide +kernel
theorem dX6_await_41 : decode cX6_await 41 = .ok (.aload_n 0, 1) := by decide +kernel
theorem dX6_await_42 : decode cX6_await 42 = .ok (.dup, 1) := by decide +kernel
theorem dX6_await_43 : decode cX6_await 43 = .ok (.getfield 168, 3) := by decide +kernel
theorem dX6_await_46 : decode cX6_await 46 = .ok (.iconst 1, 1) := by decide +kernel
theorem dX6_await_47 : decode cX6_await 47 = .ok (.iadd, 1) := by decide +kernel
theorem dX6_await_48 : decode cX6_await 48 = .ok (.putfield 168, 3) := by decide +kernel
theorem dX6_await_51 : decode cX6_await 51 = .ok (.return_, 1) := by decide +kernel
theorem dX6_put_0 : decode cX6_put 0 = .ok (.aload_n 0, 1) := by decide +kernel
theorem dX6_put_1 : decode cX6_put 1 = .ok (.getfield 42, 3) := by decide +kernel
theorem dX6_put_4 : decode cX6_put 4 = .ok (.aload_n 0, 1) := by decide +kernel
theorem dX6_put_5 : decode cX6_put 5 = .ok (.getfield 171, 3) := by decide +kernel
theorem dX6_put_8 : decode cX6_put 8 = .ok (.lload_n 1, 1) := by decide +kernel
theorem dX6_put_9 : decode cX6_put 9 = .ok (.lastore, 1) := by decide +kernel
theorem dX6_put_10 : decode cX6_put 10 = .ok (.aload_n 0, 1) := by decide +kernel
theorem dX6_put_11 : decode cX6_put 11 = .ok (.dup, 1) := by decide +kernel
theorem dX6_put_12 : decode cX6_put 12 = .ok (.getfield 171, 3) := by decide +kernel
theorem dX6_put_15 : decode cX6_put 15 = .ok (.iconst 1, 1) := by decide +kernel
theorem dX6_put_16 : decode cX6_put 16 = .ok (.iadd, 1) := by decide +kernel
theorem dX6_put_17 : decode cX6_put 17 = .ok (.putfield 171, 3) := by decide +kernel
theorem dX6_put_20 : decode cX6_put 20 = .ok (.return_, 1) := by decide +kernel
theorem dX6_without_0 : decode cX6_without 0 = .ok (.iload_n 2, 1) := by decide +kernel
theorem dX6_without_1 : decode cX6_without 1 = .ok (.istore_n 3, 1) := by decide +kernel
theorem dX6_without_2 : decode cX6_without 2 = .ok (.iload_n 3, 1) := by decide +kernel
theorem dX6_without_3 : decode cX6_without 3 = .ok (.ifCond .le 24, 3) := by decide +kernel
theorem dX6_without_6 : decode cX6_without 6 = .ok (.aload_n 0, 1) := by decide +kernel
theorem dX6_without_7 : decode cX6_without 7 = .ok (.getfield 7, 3) := by decide +kernel
theorem dX6_without_10 : decode cX6_without 10 = .ok (.iload_n 1, 1) := by decide +kernel
theorem dX6_without_11 : decode cX6_without 11 = .ok (.iload_n 3, 1) := by decide +kernel
theorem dX6_without_12 : decode cX6_without 12 = .ok (.iadd, 1) := by decide +kernel
theorem dX6_without_13 : decode cX6_without 13 = .ok (.iconst 1, 1) := by decide +kernel
theorem dX6_without_14 : decode cX6_without 14 = .ok (.isub, 1) := by decide +kernel
theorem dX6_without_15 : decode cX6_without 15 = .ok (.laload, 1) := by decide +kernel
theorem dX6_without_16 : decode cX6_without 16 = .ok (.lconst 0, 1) := by decide +kernel
theorem dX6_without_17 : decode cX6_without 17 = .ok (.lcmp, 1) := by decide +kernel
theorem dX6_without_18 : decode cX6_without 18 = .ok (.ifCond .ne 9, 3) := by decide +kernel
theorem dX6_without_21 : decode cX6_without 21 = .ok (.iinc 3 (-1), 3) := by decide +kernel
theorem dX6_without_24 : decode cX6_without 24 = .ok (.goto (-22), 3) := by decide +kernel
theorem dX6_without_27 : decode cX6_without 27 = .ok (.iload_n 3, 1) := by decide +kernel
theorem dX6_without_28 : decode cX6_without 28 = .ok (.ireturn, 1) := by decide +kernel
theorem dX6_pointer_0 : decode cX6_pointer 0 = .ok (.iload_n 1, 1) := by decide +kernel
theorem dX6_pointer_1 : decode cX6_pointer 1 = .ok (.iload_n 0, 1) := by decide +kernel
theorem dX6_pointer_2 : decode cX6_pointer 2 = .ok (.isub, 1) := by decide +kernel
theorem dX6_pointer_3 : decode cX6_pointer 3 = .ok (.iconst 1, 1) := by decide +kernel
theorem dX6_pointer_4 : decode cX6_pointer 4 = .ok (.isub, 1) := by decide +kernel
theorem dX6_pointer_5 : decode cX6_pointer 5 = .ok (.i2l, 1) := by decide +kernel
theorem dX6_pointer_6 : decode cX6_pointer 6 = .ok (.lstore 4, 2) := by decide +kernel
theorem dX6_pointer_8 : decode cX6_pointer 8 = .ok (.lload 4, 2) := by decide +kernel
theorem dX6_pointer_10 : decode cX6_pointer 10 = .ok (.iconst 2, 1) := by decide +kernel
theorem dX6_pointer_11 : decode cX6_pointer 11 = .ok (.lshl, 1) := by decide +kernel
theorem dX6_pointer_12 : decode cX6_pointer 12 = .ok (.ldc2_w 174, 3) := by decide +kernel
theorem dX6_pointer_15 : decode cX6_pointer 15 = .ok (.land, 1) := by decide +kernel
theorem dX6_pointer_16 : decode cX6_pointer 16 = .ok (.lload_n 2, 1) := by decide +kernel
theorem dX6_pointer_17 : decode cX6_pointer 17 = .ok (.lor, 1) := by decide +kernel
theorem dX6_pointer_18 : decode cX6_pointer 18 = .ok (.lreturn, 1) := by decide +kernel
theorem dX6_writeStruct_0 : decode cX6_writeStruct 0 = .ok (.bipush 64, 2) := by decide +kernel
theorem dX6_writeStruct_2 : decode cX6_writeStruct 2 = .ok (.aload_n 0, 1) := by decide +kernel
theorem dX6_writeStruct_3 : decode cX6_writeStruct 3 = .ok (.getfield 83, 3) := by decide +kernel
theorem dX6_writeStruct_6 : decode cX6_writeStruct 6 = .ok (.imul, 1) := by decide +kernel
theorem dX6_writeStruct_7 : decode cX6_writeStruct 7 = .ok (.aload_n 0, 1) := by decide +kernel
theorem dX6_writeStruct_8 : decode cX6_writeStruct 8 = .ok (.getfield 90, 3) := by decide +kernel
theorem dX6_writeStruct_11 : decode cX6_writeStruct 11 = .ok (.iadd, 1) := by decide +kernel
theorem dX6_writeStruct_12 : decode cX6_writeStruct 12 = .ok (.istore_n 3, 1) := by decide +kernel
theorem dX6_writeStruct_13 : decode cX6_writeStruct 13 = .ok (.aload_n 0, 1) := by decide +kernel
theorem dX6_writeStruct_14 : decode cX6_writeStruct 14 = .ok (.iload_n 3, 1) := by decide +kernel
theorem dX6_writeStruct_15 : decode cX6_writeStruct 15 = .ok (.aload_n 0, 1) := by decide +kernel
theorem dX6_writeStruct_16 : decode cX6_writeStruct 16 = .ok (.getfield 118, 3) := by decide +kernel
theorem dX6_writeStruct_19 : decode cX6_writeStruct 19 = .ok (.l2i, 1) := by decide +kernel
theorem dX6_writeStruct_20 : decode cX6_writeStruct 20 = .ok (.invokevirtual 176, 3) := by decide +kernel
theorem dX6_writeStruct_23 : decode cX6_writeStruct 23 = .ok (.istore 4, 2) := by decide +kernel
theorem dX6_writeStruct_25 : decode cX6_writeStruct 25 = .ok (.aload_n 0, 1) := by decide +kernel
theorem dX6_writeStruct_26 : decode cX6_writeStruct 26 = .ok (.iload_n 3, 1) := by decide +kernel
theorem dX6_writeStruct_27 : decode cX6_writeStruct 27 = .ok (.aload_n 0, 1) := by decide +kernel
theorem dX6_writeStruct_28 : decode cX6_writeStruct 28 = .ok (.getfield 118, 3) := by decide +kernel
theorem dX6_writeStruct_31 : decode cX6_writeStruct 31 = .ok (.l2i, 1) := by decide +kernel
theorem dX6_writeStruct_32 : decode cX6_writeStruct 32 = .ok (.iadd, 1) := by decide +kernel
theorem dX6_writeStruct_33 : decode cX6_writeStruct 33 = .ok (.aload_n 0, 1) := by decide +kernel
theorem dX6_writeStruct_34 : decode cX6_writeStruct 34 = .ok (.getfield 110, 3) := by decide +kernel
theorem dX6_writeStruct_37 : decode cX6_writeStruct 37 = .ok (.invokevirtual 176, 3) := by decide +kernel
theorem dX6_writeStruct_40 : decode cX6_writeStruct 40 = .ok (.istore 5, 2) := by decide +kernel
theorem dX6_writeStruct_42 : decode cX6_writeStruct 42 = .ok (.aload_n 0, 1) := by decide +kernel
theorem dX6_writeStruct_43 : decode cX6_writeStruct 43 = .ok (.getfield 171, 3) := by decide +kernel
theorem dX6_writeStruct_46 : decode cX6_writeStruct 46 = .ok (.istore 6, 2) := by decide +kernel
theorem dX6_writeStruct_48 : decode cX6_writeStruct 48 = .ok (.aload_n 0, 1) := by decide +kernel
theorem dX6_writeStruct_49 : decode cX6_writeStruct 49 = .ok (.getfield 42, 3) := by decide +kernel
theorem dX6_writeStruct_52 : decode cX6_writeStruct 52 = .ok (.iload_n 1, 1) := by decide +kernel
theorem dX6_writeStruct_53 : decode cX6_writeStruct 53 = .ok (.iload 4, 2) := by decide +kernel
theorem dX6_writeStruct_55 : decode cX6_writeStruct 55 = .ok (.iload 5, 2) := by decide +kernel
theorem dX6_writeStruct_57 : decode cX6_writeStruct 57 = .ok (.iadd, 1) := by decide +kernel
theorem dX6_writeStruct_58 : decode cX6_writeStruct 58 = .ok (.ifCond .ne 9, 3) := by decide +kernel
theorem dX6_writeStruct_61 : decode cX6_writeStruct 61 = .ok (.ldc2_w 179, 3) := by decide +kernel
theorem dX6_writeStruct_64 : decode cX6_writeStruct 64 = .ok (.goto 22, 3) := by decide +kernel
theorem dX6_writeStruct_67 : decode cX6_writeStruct 67 = .ok (.iload_n 1, 1) := by decide +kernel
theorem dX6_writeStruct_68 : decode cX6_writeStruct 68 = .ok (.iload 6, 2) := by decide +kernel
theorem dX6_writeStruct_70 : decode cX6_writeStruct 70 = .ok (.iload 4, 2) := by decide +kernel
theorem dX6_writeStruct_72 : decode cX6_writeStruct 72 = .ok (.i2l, 1) := by decide +kernel
theorem dX6_writeStruct_73 : decode cX6_writeStruct 73 = .ok (.bipush 32, 2) := by decide +kernel
theorem dX6_writeStruct_75 : decode cX6_writeStruct 75 = .ok (.lshl, 1) := by decide +kernel
theorem dX6_writeStruct_76 : decode cX6_writeStruct 76 = .ok (.iload 5, 2) := by decide +kernel
theorem dX6_writeStruct_78 : decode cX6_writeStruct 78 = .ok (.i2l, 1) := by decide +kernel
theorem dX6_writeStruct_79 : decode cX6_writeStruct 79 = .ok (.bipush 48, 2) := by decide +kernel
theorem dX6_writeStruct_81 : decode cX6_writeStruct 81 = .ok (.lshl, 1) := by decide +kernel
theorem dX6_writeStruct_82 : decode cX6_writeStruct 82 = .ok (.lor, 1) := by decide +kernel
theorem dX6_writeStruct_83 : decode cX6_writeStruct 83 = .ok (.invokestatic 181, 3) := by decide +kernel
theorem dX6_writeStruct_86 : decode cX6_writeStruct 86 = .ok (.lastore, 1) := by decide +kernel
theorem dX6_writeStruct_87 : decode cX6_writeStruct 87 = .ok (.iconst 0, 1) := by decide +kernel
theorem dX6_writeStruct_88 : decode cX6_writeStruct 88 = .ok (.istore 7, 2) := by decide +kernel
theorem dX6_writeStruct_90 : decode cX6_writeStruct 90 = .ok (.iload 7, 2) := by decide +kernel
theorem dX6_writeStruct_92 : decode cX6_writeStruct 92 = .ok (.iload 4, 2) := by decide +kernel
theorem dX6_writeStruct_94 : decode cX6_writeStruct 94 = .ok (.if_icmp .ge 22, 3) := by decide +kernel
theorem dX6_writeStruct_97 : decode cX6_writeStruct 97 = .ok (.aload_n 0, 1) := by decide +kernel
theorem dX6_writeStruct_98 : decode cX6_writeStruct 98 = .ok (.aload_n 0, 1) := by decide +kernel
theorem dX6_writeStruct_99 : decode cX6_writeStruct 99 = .ok (.getfield 7, 3) := by decide +kernel
theorem dX6_writeStruct_102 : decode cX6_writeStruct 102 = .ok (.iload_n 3, 1) := by decide +kernel
theorem dX6_writeStruct_103 : decode cX6_writeStruct 103 = .ok (.iload 7, 2) := by decide +kernel
theorem dX6_writeStruct_105 : decode cX6_writeStruct 105 = .ok (.iadd, 1) := by decide +kernel
theorem dX6_writeStruct_106 : decode cX6_writeStruct 106 = .ok (.laload, 1) := by decide +kernel
theorem dX6_writeStruct_107 : decode cX6_writeStruct 107 = .ok (.invokevirtual 185, 3) := by decide +kernel
theorem dX6_writeStruct_110 : decode cX6_writeStruct 110 = .ok (.iinc 7 1, 3) := by decide +kernel
theorem dX6_writeStruct_113 : decode cX6_writeStruct 113 = .ok (.goto (-23), 3) := by decide +kernel
theorem dX6_writeStruct_116 : decode cX6_writeStruct 116 = .ok (.aload_n 0, 1) := by decide +kernel
theorem dX6_writeStruct_117 : decode cX6_writeStruct 117 = .ok (.getfield 90, 3) := by decide +kernel
theorem dX6_writeStruct_120 : decode cX6_writeStruct 120 = .ok (.aload_n 0, 1) := by decide +kernel
theorem dX6_writeStruct_121 : decode cX6_writeStruct 121 = .ok (.getfield 118, 3) := by decide +kernel
theorem dX6_writeStruct_124 : decode cX6_writeStruct 124 = .ok (.l2i, 1) := by decide +kernel
theorem dX6_writeStruct_125 : decode cX6_writeStruct 125 = .ok (.iadd, 1) := by decide +kernel
theorem dX6_writeStruct_126 : decode cX6_writeStruct 126 = .ok (.istore 7, 2) := by decide +kernel
theorem dX6_writeStruct_128 : decode cX6_writeStruct 128 = .ok (.aload_n 0, 1) := by decide +kernel
theorem dX6_writeStruct_129 : decode cX6_writeStruct 129 = .ok (.getfield 83, 3) := by decide +kernel
theorem dX6_writeStruct_132 : decode cX6_writeStruct 132 = .ok (.istore 8, 2) := by decide +kernel
theorem dX6_writeStruct_134 : decode cX6_writeStruct 134 = .ok (.iconst 0, 1) := by decide +kernel
theorem dX6_writeStruct_135 : decode cX6_writeStruct 135 = .ok (.istore 9, 2) := by decide +kernel
theorem dX6_writeStruct_137 : decode cX6_writeStruct 137 = .ok (.iload 9, 2) := by decide +kernel
theorem dX6_writeStruct_139 : decode cX6_writeStruct 139 = .ok (.iload 5, 2) := by decide +kernel
theorem dX6_writeStruct_141 : decode cX6_writeStruct 141 = .ok (.if_icmp .ge 14, 3) := by decide +kernel
theorem dX6_writeStruct_144 : decode cX6_writeStruct 144 = .ok (.aload_n 0, 1) := by decide +kernel
theorem dX6_writeStruct_145 : decode cX6_writeStruct 145 = .ok (.lconst 0, 1) := by decide +kernel
theorem dX6_writeStruct_146 : decode cX6_writeStruct 146 = .ok (.invokevirtual 185, 3) := by decide +kernel
theorem dX6_writeStruct_149 : decode cX6_writeStruct 149 = .ok (.iinc 9 1, 3) := by decide +kernel
theorem dX6_writeStruct_152 : decode cX6_writeStruct 152 = .ok (.goto (-15), 3) := by decide +kernel
theorem dX6_writeStruct_155 : decode cX6_writeStruct 155 = .ok (.iload 5, 2) := by decide +kernel
theorem dX6_writeStruct_157 : decode cX6_writeStruct 157 = .ok (.iconst 1, 1) := by decide +kernel
theorem dX6_writeStruct_158 : decode cX6_writeStruct 158 = .ok (.isub, 1) := by decide +kernel
theorem dX6_writeStruct_159 : decode cX6_writeStruct 159 = .ok (.istore 9, 2) := by decide +kernel
theorem dX6_writeStruct_161 : decode cX6_writeStruct 161 = .ok (.iload 9, 2) := by decide +kernel
theorem dX6_writeStruct_163 : decode cX6_writeStruct 163 = .ok (.ifCond .lt 31, 3) := by decide +kernel
theorem dX6_writeStruct_166 : decode cX6_writeStruct 166 = .ok (.aload_n 0, 1) := by decide +kernel
theorem dX6_writeStruct_167 : decode cX6_writeStruct 167 = .ok (.iload 6, 2) := by decide +kernel
theorem dX6_writeStruct_169 : decode cX6_writeStruct 169 = .ok (.iload 4, 2) := by decide +kernel
theorem dX6_writeStruct_171 : decode cX6_writeStruct 171 = .ok (.iadd, 1) := by decide +kernel
theorem dX6_writeStruct_172 : decode cX6_writeStruct 172 = .ok (.iload 9, 2) := by decide +kernel
theorem dX6_writeStruct_174 : decode cX6_writeStruct 174 = .ok (.iadd, 1) := by decide +kernel
theorem dX6_writeStruct_175 : decode cX6_writeStruct 175 = .ok (.iload 8, 2) := by decide +kernel
theorem dX6_writeStruct_177 : decode cX6_writeStruct 177 = .ok (.iload 7, 2) := by decide +kernel
theorem dX6_writeStruct_179 : decode cX6_writeStruct 179 = .ok (.iload 9, 2) := by decide +kernel
theorem dX6_writeStruct_181 : decode cX6_writeStruct 181 = .ok (.iadd, 1) := by decide +kernel
theorem dX6_writeStruct_182 : decode cX6_writeStruct 182 = .ok (.iload_n 2, 1) := by decide +kernel
theorem dX6_writeStruct_183 : decode cX6_writeStruct 183 = .ok (.iconst 1, 1) := by decide +kernel
theorem dX6_writeStruct_184 : decode cX6_writeStruct 184 = .ok (.iadd, 1) := by decide +kernel
theorem dX6_writeStruct_185 : decode cX6_writeStruct 185 = .ok (.invokevirtual 189, 3) := by decide +kernel
theorem dX6_writeStruct_188 : decode cX6_writeStruct 188 = .ok (.iinc 9 (-1), 3) := by decide +kernel
theorem dX6_writeStruct_191 : decode cX6_writeStruct 191 = .ok (.goto (-30), 3) := by decide +kernel
theorem dX6_writeStruct_194 : decode cX6_writeStruct 194 = .ok (.return_, 1) := by decide +kernel
theorem dX6_writeList_0 : decode cX6_writeList 0 = .ok (.aload_n 0, 1) := by decide +kernel
theorem dX6_writeList_1 : decode cX6_writeList 1 = .ok (.getfield 113, 3) := by decide +kernel
theorem dX6_writeList_4 : decode cX6_writeList 4 = .ok (.iconst 1, 1) := by decide +kernel
theorem dX6_writeList_5 : decode cX6_writeList 5 = .ok (.isub, 1) := by decide +kernel
theorem dX6_writeList_6 : decode cX6_writeList 6 = .ok (.istore_n 3, 1) := by decide +kernel
theorem dX6_writeList_7 : decode cX6_writeList 7 = .ok (.bipush 64, 2) := by decide +kernel
theorem dX6_writeList_9 : decode cX6_writeList 9 = .ok (.aload_n 0, 1) := by decide +kernel
theorem dX6_writeList_10 : decode cX6_writeList 10 = .ok (.getfield 83, 3) := by decide +kernel
theorem dX6_writeList_13 : decode cX6_writeList 13 = .ok (.imul, 1) := by decide +kernel
theorem dX6_writeList_14 : decode cX6_writeList 14 = .ok (.aload_n 0, 1) := by decide +kernel
theorem dX6_writeList_15 : decode cX6_writeList 15 = .ok (.getfield 90, 3) := by decide +kernel
theorem dX6_writeList_18 : decode cX6_writeList 18 = .ok (.iadd, 1) := by decide +kernel
theorem dX6_writeList_19 : decode cX6_writeList 19 = .ok (.istore 4, 2) := by decide +kernel
theorem dX6_writeList_21 : decode cX6_writeList 21 = .ok (.aload_n 0, 1) := by decide +kernel
theorem dX6_writeList_22 : decode cX6_writeList 22 = .ok (.getfield 171, 3) := by decide +kernel
theorem dX6_writeList_25 : decode cX6_writeList 25 = .ok (.istore 5, 2) := by decide +kernel
theorem dX6_writeList_27 : decode cX6_writeList 27 = .ok (.aload_n 0, 1) := by decide +kernel
theorem dX6_writeList_28 : decode cX6_writeList 28 = .ok (.getfield 42, 3) := by decide +kernel
theorem dX6_writeList_31 : decode cX6_writeList 31 = .ok (.iload_n 1, 1) := by decide +kernel
theorem dX6_writeList_32 : decode cX6_writeList 32 = .ok (.iload_n 1, 1) := by decide +kernel
theorem dX6_writeList_33 : decode cX6_writeList 33 = .ok (.iload 5, 2) := by decide +kernel
theorem dX6_writeList_35 : decode cX6_writeList 35 = .ok (.lconst 1, 1) := by decide +kernel
theorem dX6_writeList_36 : decode cX6_writeList 36 = .ok (.iload_n 3, 1) := by decide +kernel
theorem dX6_writeList_37 : decode cX6_writeList 37 = .ok (.i2l, 1) := by decide +kernel
theorem dX6_writeList_38 : decode cX6_writeList 38 = .ok (.bipush 32, 2) := by decide +kernel
theorem dX6_writeList_40 : decode cX6_writeList 40 = .ok (.lshl, 1) := by decide +kernel
theorem dX6_writeList_41 : decode cX6_writeList 41 = .ok (.lor, 1) := by decide +kernel
theorem dX6_writeList_42 : decode cX6_writeList 42 = .ok (.aload_n 0, 1) := by decide +kernel
theorem dX6_writeList_43 : decode cX6_writeList 43 = .ok (.getfield 118, 3) := by decide +kernel
theorem dX6_writeList_46 : decode cX6_writeList 46 = .ok (.bipush 35, 2) := by decide +kernel
theorem dX6_writeList_48 : decode cX6_writeList 48 = .ok (.lshl, 1) := by decide +kernel
theorem dX6_writeList_49 : decode cX6_writeList 49 = .ok (.lor, 1) := by decide +kernel
theorem dX6_writeList_50 : decode cX6_writeList 50 = .ok (.invokestatic 181, 3) := by decide +kernel
theorem dX6_writeList_53 : decode cX6_writeList 53 = .ok (.lastore, 1) := by decide +kernel
theorem dX6_writeList_54 : decode cX6_writeList 54 = .ok (.iconst 0, 1) := by decide +kernel
theorem dX6_writeList_55 : decode cX6_writeList 55 = .ok (.istore 6, 2) := by decide +kernel
theorem dX6_writeList_57 : decode cX6_writeList 57 = .ok (.iload 6, 2) := by decide +kernel
theorem dX6_writeList_59 : decode cX6_writeList 59 = .ok (.i2l, 1) := by decide +kernel
theorem dX6_writeList_60 : decode cX6_writeList 60 = .ok (.aload_n 0, 1) := by decide +kernel
theorem dX6_writeList_61 : decode cX6_writeList 61 = .ok (.getfield 93, 3) := by decide +kernel
theorem dX6_writeList_64 : decode cX6_writeList 64 = .ok (.lcmp, 1) := by decide +kernel
theorem dX6_writeList_65 : decode cX6_writeList 65 = .ok (.ifCond .ge 33, 3) := by decide +kernel
theorem dX6_writeList_68 : decode cX6_writeList 68 = .ok (.aload_n 0, 1) := by decide +kernel
theorem dX6_writeList_69 : decode cX6_writeList 69 = .ok (.iload_n 3, 1) := by decide +kernel
theorem dX6_writeList_70 : decode cX6_writeList 70 = .ok (.bipush 6, 2) := by decide +kernel
theorem dX6_writeList_72 : decode cX6_writeList 72 = .ok (.if_icmp .ne 7, 3) := by decide +kernel
theorem dX6_writeList_75 : decode cX6_writeList 75 = .ok (.lconst 0, 1) := by decide +kernel
theorem dX6_writeList_76 : decode cX6_writeList 76 = .ok (.goto 13, 3) := by decide +kernel
theorem dX6_writeList_79 : decode cX6_writeList 79 = .ok (.aload_n 0, 1) := by decide +kernel
theorem dX6_writeList_80 : decode cX6_writeList 80 = .ok (.getfield 7, 3) := by decide +kernel
theorem dX6_writeList_83 : decode cX6_writeList 83 = .ok (.iload 4, 2) := by decide +kernel
theorem dX6_writeList_85 : decode cX6_writeList 85 = .ok (.iload 6, 2) := by decide +kernel
theorem dX6_writeList_87 : decode cX6_writeList 87 = .ok (.iadd, 1) := by decide +kernel
theorem dX6_writeList_88 : decode cX6_writeList 88 = .ok (.laload, 1) := by decide +kernel
theorem dX6_writeList_89 : decode cX6_writeList 89 = .ok (.invokevirtual 185, 3) := by decide +kernel
theorem dX6_writeList_92 : decode cX6_writeList 92 = .ok (.iinc 6 1, 3) := by decide +kernel
theorem dX6_writeList_95 : decode cX6_writeList 95 = .ok (.goto (-38), 3) := by decide +kernel
theorem dX6_writeList_98 : decode cX6_writeList 98 = .ok (.iload_n 3, 1) := by decide +kernel
theorem dX6_writeList_99 : decode cX6_writeList 99 = .ok (.bipush 6, 2) := by decide +kernel
theorem dX6_writeList_101 : decode cX6_writeList 101 = .ok (.if_icmp .ge 20, 3) := by decide +kernel
theorem dX6_writeList_104 : decode cX6_writeList 104 = .ok (.aload_n 0, 1) := by decide +kernel
theorem dX6_writeList_105 : decode cX6_writeList 105 = .ok (.getfield 118, 3) := by decide +kernel
theorem dX6_writeList_108 : decode cX6_writeList 108 = .ok (.iload_n 3, 1) := by decide +kernel
theorem dX6_writeList_109 : decode cX6_writeList 109 = .ok (.invokestatic 124, 3) := by decide +kernel
theorem dX6_writeList_112 : decode cX6_writeList 112 = .ok (.i2l, 1) := by decide +kernel
theorem dX6_writeList_113 : decode cX6_writeList 113 = .ok (.lmul, 1) := by decide +kernel
theorem dX6_writeList_114 : decode cX6_writeList 114 = .ok (.ldc2_w 130, 3) := by decide +kernel
theorem dX6_writeList_117 : decode cX6_writeList 117 = .ok (.lrem, 1) := by decide +kernel
theorem dX6_writeList_118 : decode cX6_writeList 118 = .ok (.goto 4, 3) := by decide +kernel
theorem dX6_writeList_121 : decode cX6_writeList 121 = .ok (.lconst 0, 1) := by decide +kernel
theorem dX6_writeList_122 : decode cX6_writeList 122 = .ok (.lstore 6, 2) := by decide +kernel
theorem dX6_writeList_124 : decode cX6_writeList 124 = .ok (.lload 6, 2) := by decide +kernel
theorem dX6_writeList_126 : decode cX6_writeList 126 = .ok (.lconst 0, 1) := by decide +kernel
theorem dX6_writeList_127 : decode cX6_writeList 127 = .ok (.lcmp, 1) := by decide +kernel
theorem dX6_writeList_128 : decode cX6_writeList 128 = .ok (.ifCond .le 33, 3) := by decide +kernel
theorem dX6_writeList_131 : decode cX6_writeList 131 = .ok (.aload_n 0, 1) := by decide +kernel
theorem dX6_writeList_132 : decode cX6_writeList 132 = .ok (.getfield 42, 3) := by decide +kernel
theorem dX6_writeList_135 : decode cX6_writeList 135 = .ok (.aload_n 0, 1) := by decide +kernel
theorem dX6_writeList_136 : decode cX6_writeList 136 = .ok (.getfield 171, 3) := by decide +kernel
theorem dX6_writeList_139 : decode cX6_writeList 139 = .ok (.iconst 1, 1) := by decide +kernel
theorem dX6_writeList_140 : decode cX6_writeList 140 = .ok (.isub, 1) := by decide +kernel
theorem dX6_writeList_141 : decode cX6_writeList 141 = .ok (.aload_n 0, 1) := by decide +kernel
theorem dX6_writeList_142 : decode cX6_writeList 142 = .ok (.getfield 42, 3) := by decide +kernel
theorem dX6_writeList_145 : decode cX6_writeList 145 = .ok (.aload_n 0, 1) := by decide +kernel
theorem dX6_writeList_146 : decode cX6_writeList 146 = .ok (.getfield 171, 3) := by decide +kernel
theorem dX6_writeList_149 : decode cX6_writeList 149 = .ok (.iconst 1, 1) := by decide +kernel
theorem dX6_writeList_150 : decode cX6_writeList 150 = .ok (.isub, 1) := by decide +kernel
theorem dX6_writeList_151 : decode cX6_writeList 151 = .ok (.laload, 1) := by decide +kernel
theorem dX6_writeList_152 : decode cX6_writeList 152 = .ok (.lconst 1, 1) := by decide +kernel
theorem dX6_writeList_153 : decode cX6_writeList 153 = .ok (.lload 6, 2) := by decide +kernel
theorem dX6_writeList_155 : decode cX6_writeList 155 = .ok (.l2i, 1) := by decide +kernel
theorem dX6_writeList_156 : decode cX6_writeList 156 = .ok (.lshl, 1) := by decide +kernel
theorem dX6_writeList_157 : decode cX6_writeList 157 = .ok (.lconst 1, 1) := by decide +kernel
theorem dX6_writeList_158 : decode cX6_writeList 158 = .ok (.lsub, 1) := by decide +kernel
theorem dX6_writeList_159 : decode cX6_writeList 159 = .ok (.land, 1) := by decide +kernel
theorem dX6_writeList_160 : decode cX6_writeList 160 = .ok (.lastore, 1) := by decide +kernel
theorem dX6_writeList_161 : decode cX6_writeList 161 = .ok (.aload_n 0, 1) := by decide +kernel
theorem dX6_writeList_162 : decode cX6_writeList 162 = .ok (.getfield 93, 3) := by decide +kernel
theorem dX6_writeList_165 : decode cX6_writeList 165 = .ok (.l2i, 1) := by decide +kernel
theorem dX6_writeList_166 : decode cX6_writeList 166 = .ok (.iconst 1, 1) := by decide +kernel
theorem dX6_writeList_167 : decode cX6_writeList 167 = .ok (.isub, 1) := by decide +kernel
theorem dX6_writeList_168 : decode cX6_writeList 168 = .ok (.istore 8, 2) := by decide +kernel
theorem dX6_writeList_170 : decode cX6_writeList 170 = .ok (.iload 8, 2) := by decide +kernel
theorem dX6_writeList_172 : decode cX6_writeList 172 = .ok (.ifCond .lt 38, 3) := by decide +kernel
theorem dX6_writeList_175 : decode cX6_writeList 175 = .ok (.iload_n 3, 1) := by decide +kernel
theorem dX6_writeList_176 : decode cX6_writeList 176 = .ok (.bipush 6, 2) := by decide +kernel
theorem dX6_writeList_178 : decode cX6_writeList 178 = .ok (.if_icmp .ne 32, 3) := by decide +kernel
theorem dX6_writeList_181 : decode cX6_writeList 181 = .ok (.aload_n 0, 1) := by decide +kernel
theorem dX6_writeList_182 : decode cX6_writeList 182 = .ok (.iload 5, 2) := by decide +kernel
theorem dX6_writeList_184 : decode cX6_writeList 184 = .ok (.iload 8, 2) := by decide +kernel
theorem dX6_writeList_186 : decode cX6_writeList 186 = .ok (.iadd, 1) := by decide +kernel
theorem dX6_writeList_187 : decode cX6_writeList 187 = .ok (.aload_n 0, 1) := by decide +kernel
theorem dX6_writeList_188 : decode cX6_writeList 188 = .ok (.getfield 83, 3) := by decide +kernel
theorem dX6_writeList_191 : decode cX6_writeList 191 = .ok (.aload_n 0, 1) := by decide +kernel
theorem dX6_writeList_192 : decode cX6_writeList 192 = .ok (.getfield 90, 3) := by decide +kernel
theorem dX6_writeList_195 : decode cX6_writeList 195 = .ok (.iload 8, 2) := by decide +kernel
theorem dX6_writeList_197 : decode cX6_writeList 197 = .ok (.iadd, 1) := by decide +kernel
theorem dX6_writeList_198 : decode cX6_writeList 198 = .ok (.iload_n 2, 1) := by decide +kernel
theorem dX6_writeList_199 : decode cX6_writeList 199 = .ok (.iconst 1, 1) := by decide +kernel
theorem dX6_writeList_200 : decode cX6_writeList 200 = .ok (.iadd, 1) := by decide +kernel
theorem dX6_writeList_201 : decode cX6_writeList 201 = .ok (.invokevirtual 189, 3) := by decide +kernel
theorem dX6_writeList_204 : decode cX6_writeList 204 = .ok (.iinc 8 (-1), 3) := by decide +kernel
theorem dX6_writeList_207 : decode cX6_writeList 207 = .ok (.goto (-37), 3) := by decide +kernel
theorem dX6_writeList_210 : decode cX6_writeList 210 = .ok (.return_, 1) := by decide +kernel
theorem dX6_writeElements_0 : decode cX6_writeElements 0 = .ok (.aload_n 0, 1) := by decide +kernel
theorem dX6_writeElements_1 : decode cX6_writeElements 1 = .ok (.getfield 118, 3) := by decide +kernel
theorem dX6_writeElements_4 : decode cX6_writeElements 4 = .ok (.l2i, 1) := by decide +kernel
theorem dX6_writeElements_5 : decode cX6_writeElements 5 = .ok (.istore_n 3, 1) := by decide +kernel
theorem dX6_writeElements_6 : decode cX6_writeElements 6 = .ok (.aload_n 0, 1) := by decide +kernel
theorem dX6_writeElements_7 : decode cX6_writeElements 7 = .ok (.getfield 107, 3) := by decide +kernel
theorem dX6_writeElements_10 : decode cX6_writeElements 10 = .ok (.aload_n 0, 1) := by decide +kernel
theorem dX6_writeElements_11 : decode cX6_writeElements 11 = .ok (.getfield 110, 3) := by decide +kernel
theorem dX6_writeElements_14 : decode cX6_writeElements 14 = .ok (.iadd, 1) := by decide +kernel
theorem dX6_writeElements_15 : decode cX6_writeElements 15 = .ok (.istore 4, 2) := by decide +kernel
theorem dX6_writeElements_17 : decode cX6_writeElements 17 = .ok (.iconst 0, 1) := by decide +kernel
theorem dX6_writeElements_18 : decode cX6_writeElements 18 = .ok (.istore 5, 2) := by decide +kernel
theorem dX6_writeElements_20 : decode cX6_writeElements 20 = .ok (.iconst 0, 1) := by decide +kernel
theorem dX6_writeElements_21 : decode cX6_writeElements 21 = .ok (.istore 6, 2) := by decide +kernel
theorem dX6_writeElements_23 : decode cX6_writeElements 23 = .ok (.iconst 0, 1) := by decide +kernel
theorem dX6_writeElements_24 : decode cX6_writeElements 24 = .ok (.istore 7, 2) := by decide +kernel
theorem dX6_writeElements_26 : decode cX6_writeElements 26 = .ok (.iload 7, 2) := by decide +kernel
theorem dX6_writeElements_28 : decode cX6_writeElements 28 = .ok (.iload_n 3, 1) := by decide +kernel
theorem dX6_writeElements_29 : decode cX6_writeElements 29 = .ok (.if_icmp .ge 103, 3) := by decide +kernel
theorem dX6_writeElements_32 : decode cX6_writeElements 32 = .ok (.bipush 64, 2) := by decide +kernel
theorem dX6_writeElements_34 : decode cX6_writeElements 34 = .ok (.aload_n 0, 1) := by decide +kernel
theorem dX6_writeElements_35 : decode cX6_writeElements 35 = .ok (.getfield 83, 3) := by decide +kernel
theorem dX6_writeElements_38 : decode cX6_writeElements 38 = .ok (.imul, 1) := by decide +kernel
theorem dX6_writeElements_39 : decode cX6_writeElements 39 = .ok (.aload_n 0, 1) := by decide +kernel
theorem dX6_writeElements_40 : decode cX6_writeElements 40 = .ok (.getfield 90, 3) := by decide +kernel
theorem dX6_writeElements_43 : decode cX6_writeElements 43 = .ok (.iadd, 1) := by decide +kernel
theorem dX6_writeElements_44 : decode cX6_writeElements 44 = .ok (.iload 7, 2) := by decide +kernel
theorem dX6_writeElements_46 : decode cX6_writeElements 46 = .ok (.iload 4, 2) := by decide +kernel
theorem dX6_writeElements_48 : decode cX6_writeElements 48 = .ok (.imul, 1) := by decide +kernel
theorem dX6_writeElements_49 : decode cX6_writeElements 49 = .ok (.iadd, 1) := by decide +kernel
theorem dX6_writeElements_50 : decode cX6_writeElements 50 = .ok (.istore 8, 2) := by decide +kernel
theorem dX6_writeElements_52 : decode cX6_writeElements 52 = .ok (.aload_n 0, 1) := by decide +kernel
theorem dX6_writeElements_53 : decode cX6_writeElements 53 = .ok (.iload 8, 2) := by decide +kernel
theorem dX6_writeElements_55 : decode cX6_writeElements 55 = .ok (.aload_n 0, 1) := by decide +kernel
theorem dX6_writeElements_56 : decode cX6_writeElements 56 = .ok (.getfield 107, 3) := by decide +kernel
theorem dX6_writeElements_59 : decode cX6_writeElements 59 = .ok (.invokevirtual 176, 3) := by decide +kernel
theorem dX6_writeElements_62 : decode cX6_writeElements 62 = .ok (.iload 5, 2) := by decide +kernel
theorem dX6_writeElements_64 : decode cX6_writeElements 64 = .ok (.if_icmp .le 16, 3) := by decide +kernel
theorem dX6_writeElements_67 : decode cX6_writeElements 67 = .ok (.aload_n 0, 1) := by decide +kernel
theorem dX6_writeElements_68 : decode cX6_writeElements 68 = .ok (.iload 8, 2) := by decide +kernel
theorem dX6_writeElements_70 : decode cX6_writeElements 70 = .ok (.aload_n 0, 1) := by decide +kernel
theorem dX6_writeElements_71 : decode cX6_writeElements 71 = .ok (.getfield 107, 3) := by decide +kernel
theorem dX6_writeElements_74 : decode cX6_writeElements 74 = .ok (.invokevirtual 176, 3) := by decide +kernel
theorem dX6_writeElements_77 : decode cX6_writeElements 77 = .ok (.goto 5, 3) := by decide +kernel
theorem dX6_writeElements_80 : decode cX6_writeElements 80 = .ok (.iload 5, 2) := by decide +kernel
theorem dX6_writeElements_82 : decode cX6_writeElements 82 = .ok (.istore 5, 2) := by decide +kernel
theorem dX6_writeElements_84 : decode cX6_writeElements 84 = .ok (.aload_n 0, 1) := by decide +kernel
theorem dX6_writeElements_85 : decode cX6_writeElements 85 = .ok (.iload 8, 2) := by decide +kernel
theorem dX6_writeElements_87 : decode cX6_writeElements 87 = .ok (.aload_n 0, 1) := by decide +kernel
theorem dX6_writeElements_88 : decode cX6_writeElements 88 = .ok (.getfield 107, 3) := by decide +kernel
theorem dX6_writeElements_91 : decode cX6_writeElements 91 = .ok (.iadd, 1) := by decide +kernel
theorem dX6_writeElements_92 : decode cX6_writeElements 92 = .ok (.aload_n 0, 1) := by decide +kernel
theorem dX6_writeElements_93 : decode cX6_writeElements 93 = .ok (.getfield 110, 3) := by decide +kernel
theorem dX6_writeElements_96 : decode cX6_writeElements 96 = .ok (.invokevirtual 176, 3) := by decide +kernel
theorem dX6_writeElements_99 : decode cX6_writeElements 99 = .ok (.iload 6, 2) := by decide +kernel
theorem dX6_writeElements_101 : decode cX6_writeElements 101 = .ok (.if_icmp .le 21, 3) := by decide +kernel
theorem dX6_writeElements_104 : decode cX6_writeElements 104 = .ok (.aload_n 0, 1) := by decide +kernel
theorem dX6_writeElements_105 : decode cX6_writeElements 105 = .ok (.iload 8, 2) := by decide +kernel
theorem dX6_writeElements_107 : decode cX6_writeElements 107 = .ok (.aload_n 0, 1) := by decide +kernel
theorem dX6_writeElements_108 : decode cX6_writeElements 108 = .ok (.getfield 107, 3) := by decide +kernel
theorem dX6_writeElements_111 : decode cX6_writeElements 111 = .ok (.iadd, 1) := by decide +kernel
theorem dX6_writeElements_112 : decode cX6_writeElements 112 = .ok (.aload_n 0, 1) := by decide +kernel
theorem dX6_writeElements_113 : decode cX6_writeElements 113 = .ok (.getfield 110, 3) := by decide +kernel
theorem dX6_writeElements_116 : decode cX6_writeElements 116 = .ok (.invokevirtual 176, 3) := by decide +kernel
theorem dX6_writeElements_119 : decode cX6_writeElements 119 = .ok (.goto 5, 3) := by decide +kernel
theorem dX6_writeElements_122 : decode cX6_writeElements 122 = .ok (.iload 6, 2) := by decide +kernel
theorem dX6_writeElements_124 : decode cX6_writeElements 124 = .ok (.istore 6, 2) := by decide +kernel
theorem dX6_writeElements_126 : decode cX6_writeElements 126 = .ok (.iinc 7 1, 3) := by decide +kernel
theorem dX6_writeElements_129 : decode cX6_writeElements 129 = .ok (.goto (-103), 3) := by decide +kernel
theorem dX6_writeElements_132 : decode cX6_writeElements 132 = .ok (.aload_n 0, 1) := by decide +kernel
theorem dX6_writeElements_133 : decode cX6_writeElements 133 = .ok (.getfield 171, 3) := by decide +kernel
theorem dX6_writeElements_136 : decode cX6_writeElements 136 = .ok (.istore 7, 2) := by decide +kernel
theorem dX6_writeElements_138 : decode cX6_writeElements 138 = .ok (.aload_n 0, 1) := by decide +kernel
theorem dX6_writeElements_139 : decode cX6_writeElements 139 = .ok (.getfield 42, 3) := by decide +kernel
theorem dX6_writeElements_142 : decode cX6_writeElements 142 = .ok (.iload_n 1, 1) := by decide +kernel
theorem dX6_writeElements_143 : decode cX6_writeElements 143 = .ok (.iload_n 1, 1) := by decide +kernel
theorem dX6_writeElements_144 : decode cX6_writeElements 144 = .ok (.iload 7, 2) := by decide +kernel
theorem dX6_writeElements_146 : decode cX6_writeElements 146 = .ok (.ldc2_w 193, 3) := by decide +kernel
theorem dX6_writeElements_149 : decode cX6_writeElements 149 = .ok (.iload_n 3, 1) := by decide +kernel
theorem dX6_writeElements_150 : decode cX6_writeElements 150 = .ok (.iload 5, 2) := by decide +kernel
theorem dX6_writeElements_152 : decode cX6_writeElements 152 = .ok (.iload 6, 2) := by decide +kernel
theorem dX6_writeElements_154 : decode cX6_writeElements 154 = .ok (.iadd, 1) := by decide +kernel
theorem dX6_writeElements_155 : decode cX6_writeElements 155 = .ok (.imul, 1) := by decide +kernel
theorem dX6_writeElements_156 : decode cX6_writeElements 156 = .ok (.i2l, 1) := by decide +kernel
theorem dX6_writeElements_157 : decode cX6_writeElements 157 = .ok (.bipush 35, 2) := by decide +kernel
theorem dX6_writeElements_159 : decode cX6_writeElements 159 = .ok (.lshl, 1) := by decide +kernel
theorem dX6_writeElements_160 : decode cX6_writeElements 160 = .ok (.lor, 1) := by decide +kernel
theorem dX6_writeElements_161 : decode cX6_writeElements 161 = .ok (.invokestatic 181, 3) := by decide +kernel
theorem dX6_writeElements_164 : decode cX6_writeElements 164 = .ok (.lastore, 1) := by decide +kernel
theorem dX6_writeElements_165 : decode cX6_writeElements 165 = .ok (.aload_n 0, 1) := by decide +kernel
theorem dX6_writeElements_166 : decode cX6_writeElements 166 = .ok (.iload_n 3, 1) := by decide +kernel
theorem dX6_writeElements_167 : decode cX6_writeElements 167 = .ok (.i2l, 1) := by decide +kernel
theorem dX6_writeElements_168 : decode cX6_writeElements 168 = .ok (.iconst 2, 1) := by decide +kernel
theorem dX6_writeElements_169 : decode cX6_writeElements 169 = .ok (.lshl, 1) := by decide +kernel
theorem dX6_writeElements_170 : decode cX6_writeElements 170 = .ok (.iload 5, 2) := by decide +kernel
theorem dX6_writeElements_172 : decode cX6_writeElements 172 = .ok (.i2l, 1) := by decide +kernel
theorem dX6_writeElements_173 : decode cX6_writeElements 173 = .ok (.bipush 32, 2) := by decide +kernel
theorem dX6_writeElements_175 : decode cX6_writeElements 175 = .ok (.lshl, 1) := by decide +kernel
theorem dX6_writeElements_176 : decode cX6_writeElements 176 = .ok (.lor, 1) := by decide +kernel
theorem dX6_writeElements_177 : decode cX6_writeElements 177 = .ok (.iload 6, 2) := by decide +kernel
theorem dX6_writeElements_179 : decode cX6_writeElements 179 = .ok (.i2l, 1) := by decide +kernel
theorem dX6_writeElements_180 : decode cX6_writeElements 180 = .ok (.bipush 48, 2) := by decide +kernel
theorem dX6_writeElements_182 : decode cX6_writeElements 182 = .ok (.lshl, 1) := by decide +kernel
theorem dX6_writeElements_183 : decode cX6_writeElements 183 = .ok (.lor, 1) := by decide +kernel
theorem dX6_writeElements_184 : decode cX6_writeElements 184 = .ok (.invokevirtual 185, 3) := by decide +kernel
theorem dX6_writeElements_187 : decode cX6_writeElements 187 = .ok (.iconst 0, 1) := by decide +kernel
theorem dX6_writeElements_188 : decode cX6_writeElements 188 = .ok (.istore 8, 2) := by decide +kernel
theorem dX6_writeElements_190 : decode cX6_writeElements 190 = .ok (.iload 8, 2) := by decide +kernel
theorem dX6_writeElements_192 : decode cX6_writeElements 192 = .ok (.iload_n 3, 1) := by decide +kernel
theorem dX6_writeElements_193 : decode cX6_writeElements 193 = .ok (.if_icmp .ge 69, 3) := by decide +kernel
theorem dX6_writeElements_196 : decode cX6_writeElements 196 = .ok (.iconst 0, 1) := by decide +kernel
theorem dX6_writeElements_197 : decode cX6_writeElements 197 = .ok (.istore 9, 2) := by decide +kernel
theorem dX6_writeElements_199 : decode cX6_writeElements 199 = .ok (.iload 9, 2) := by decide +kernel
theorem dX6_writeElements_201 : decode cX6_writeElements 201 = .ok (.iload 5, 2) := by decide +kernel
theorem dX6_writeElements_203 : decode cX6_writeElements 203 = .ok (.iload 6, 2) := by decide +kernel
theorem dX6_writeElements_205 : decode cX6_writeElements 205 = .ok (.iadd, 1) := by decide +kernel
theorem dX6_writeElements_206 : decode cX6_writeElements 206 = .ok (.if_icmp .ge 50, 3) := by decide +kernel
theorem dX6_writeElements_209 : decode cX6_writeElements 209 = .ok (.aload_n 0, 1) := by decide +kernel
theorem dX6_writeElements_210 : decode cX6_writeElements 210 = .ok (.iload 9, 2) := by decide +kernel
theorem dX6_writeElements_212 : decode cX6_writeElements 212 = .ok (.iload 5, 2) := by decide +kernel
theorem dX6_writeElements_214 : decode cX6_writeElements 214 = .ok (.if_icmp .ge 32, 3) := by decide +kernel
theorem dX6_writeElements_217 : decode cX6_writeElements 217 = .ok (.aload_n 0, 1) := by decide +kernel
theorem dX6_writeElements_218 : decode cX6_writeElements 218 = .ok (.getfield 7, 3) := by decide +kernel
theorem dX6_writeElements_221 : decode cX6_writeElements 221 = .ok (.bipush 64, 2) := by decide +kernel
theorem dX6_writeElements_223 : decode cX6_writeElements 223 = .ok (.aload_n 0, 1) := by decide +kernel
theorem dX6_writeElements_224 : decode cX6_writeElements 224 = .ok (.getfield 83, 3) := by decide +kernel
theorem dX6_writeElements_227 : decode cX6_writeElements 227 = .ok (.imul, 1) := by decide +kernel
theorem dX6_writeElements_228 : decode cX6_writeElements 228 = .ok (.aload_n 0, 1) := by decide +kernel
theorem dX6_writeElements_229 : decode cX6_writeElements 229 = .ok (.getfield 90, 3) := by decide +kernel
theorem dX6_writeElements_232 : decode cX6_writeElements 232 = .ok (.iadd, 1) := by decide +kernel
theorem dX6_writeElements_233 : decode cX6_writeElements 233 = .ok (.iload 8, 2) := by decide +kernel
theorem dX6_writeElements_235 : decode cX6_writeElements 235 = .ok (.iload 4, 2) := by decide +kernel
theorem dX6_writeElements_237 : decode cX6_writeElements 237 = .ok (.imul, 1) := by decide +kernel
theorem dX6_writeElements_238 : decode cX6_writeElements 238 = .ok (.iadd, 1) := by decide +kernel
theorem dX6_writeElements_239 : decode cX6_writeElements 239 = .ok (.iload 9, 2) := by decide +kernel
theorem dX6_writeElements_241 : decode cX6_writeElements 241 = .ok (.iadd, 1) := by decide +kernel
theorem dX6_writeElements_242 : decode cX6_writeElements 242 = .ok (.laload, 1) := by decide +kernel
theorem dX6_writeElements_243 : decode cX6_writeElements 243 = .ok (.goto 4, 3) := by decide +kernel
theorem dX6_writeElements_246 : decode cX6_writeElements 246 = .ok (.lconst 0, 1) := by decide +kernel
theorem dX6_writeElements_247 : decode cX6_writeElements 247 = .ok (.invokevirtual 185, 3) := by decide +kernel
theorem dX6_writeElements_250 : decode cX6_writeElements 250 = .ok (.iinc 9 1, 3) := by decide +kernel
theorem dX6_writeElements_253 : decode cX6_writeElements 253 = .ok (.goto (-54), 3) := by decide +kernel
theorem dX6_writeElements_256 : decode cX6_writeElements 256 = .ok (.iinc 8 1, 3) := by decide +kernel
theorem dX6_writeElements_259 : decode cX6_writeElements 259 = .ok (.goto (-69), 3) := by decide +kernel
theorem dX6_writeElements_262 : decode cX6_writeElements 262 = .ok (.iload_n 3, 1) := by decide +kernel
theorem dX6_writeElements_263 : decode cX6_writeElements 263 = .ok (.iconst 1, 1) := by decide +kernel
theorem dX6_writeElements_264 : decode cX6_writeElements 264 = .ok (.isub, 1) := by decide +kernel
theorem dX6_writeElements_265 : decode cX6_writeElements 265 = .ok (.istore 8, 2) := by decide +kernel
theorem dX6_writeElements_267 : decode cX6_writeElements 267 = .ok (.iload 8, 2) := by decide +kernel
theorem dX6_writeElements_269 : decode cX6_writeElements 269 = .ok (.ifCond .lt 74, 3) := by decide +kernel
theorem dX6_writeElements_272 : decode cX6_writeElements 272 = .ok (.iload 6, 2) := by decide +kernel
theorem dX6_writeElements_274 : decode cX6_writeElements 274 = .ok (.iconst 1, 1) := by decide +kernel
theorem dX6_writeElements_275 : decode cX6_writeElements 275 = .ok (.isub, 1) := by decide +kernel
theorem dX6_writeElements_276 : decode cX6_writeElements 276 = .ok (.istore 9, 2) := by decide +kernel
theorem dX6_writeElements_278 : decode cX6_writeElements 278 = .ok (.iload 9, 2) := by decide +kernel
theorem dX6_writeElements_280 : decode cX6_writeElements 280 = .ok (.ifCond .lt 57, 3) := by decide +kernel
theorem dX6_writeElements_283 : decode cX6_writeElements 283 = .ok (.aload_n 0, 1) := by decide +kernel
theorem dX6_writeElements_284 : decode cX6_writeElements 284 = .ok (.iload 7, 2) := by decide +kernel
theorem dX6_writeElements_286 : decode cX6_writeElements 286 = .ok (.iconst 1, 1) := by decide +kernel
theorem dX6_writeElements_287 : decode cX6_writeElements 287 = .ok (.iadd, 1) := by decide +kernel
theorem dX6_writeElements_288 : decode cX6_writeElements 288 = .ok (.iload 8, 2) := by decide +kernel
theorem dX6_writeElements_290 : decode cX6_writeElements 290 = .ok (.iload 5, 2) := by decide +kernel
theorem dX6_writeElements_292 : decode cX6_writeElements 292 = .ok (.iload 6, 2) := by decide +kernel
theorem dX6_writeElements_294 : decode cX6_writeElements 294 = .ok (.iadd, 1) := by decide +kernel
theorem dX6_writeElements_295 : decode cX6_writeElements 295 = .ok (.imul, 1) := by decide +kernel
theorem dX6_writeElements_296 : decode cX6_writeElements 296 = .ok (.iadd, 1) := by decide +kernel
theorem dX6_writeElements_297 : decode cX6_writeElements 297 = .ok (.iload 5, 2) := by decide +kernel
theorem dX6_writeElements_299 : decode cX6_writeElements 299 = .ok (.iadd, 1) := by decide +kernel
theorem dX6_writeElements_300 : decode cX6_writeElements 300 = .ok (.iload 9, 2) := by decide +kernel
theorem dX6_writeElements_302 : decode cX6_writeElements 302 = .ok (.iadd, 1) := by decide +kernel
theorem dX6_writeElements_303 : decode cX6_writeElements 303 = .ok (.aload_n 0, 1) := by decide +kernel
theorem dX6_writeElements_304 : decode cX6_writeElements 304 = .ok (.getfield 83, 3) := by decide +kernel
theorem dX6_writeElements_307 : decode cX6_writeElements 307 = .ok (.aload_n 0, 1) := by decide +kernel
theorem dX6_writeElements_308 : decode cX6_writeElements 308 = .ok (.getfield 90, 3) := by decide +kernel
theorem dX6_writeElements_311 : decode cX6_writeElements 311 = .ok (.iload 8, 2) := by decide +kernel
theorem dX6_writeElements_313 : decode cX6_writeElements 313 = .ok (.iload 4, 2) := by decide +kernel
theorem dX6_writeElements_315 : decode cX6_writeElements 315 = .ok (.imul, 1) := by decide +kernel
theorem dX6_writeElements_316 : decode cX6_writeElements 316 = .ok (.iadd, 1) := by decide +kernel
theorem dX6_writeElements_317 : decode cX6_writeElements 317 = .ok (.aload_n 0, 1) := by decide +kernel
theorem dX6_writeElements_318 : decode cX6_writeElements 318 = .ok (.getfield 107, 3) := by decide +kernel
theorem dX6_writeElements_321 : decode cX6_writeElements 321 = .ok (.iadd, 1) := by decide +kernel
theorem dX6_writeElements_322 : decode cX6_writeElements 322 = .ok (.iload 9, 2) := by decide +kernel
theorem dX6_writeElements_324 : decode cX6_writeElements 324 = .ok (.iadd, 1) := by decide +kernel
theorem dX6_writeElements_325 : decode cX6_writeElements 325 = .ok (.iload_n 2, 1) := by decide +kernel
theorem dX6_writeElements_326 : decode cX6_writeElements 326 = .ok (.iconst 1, 1) := by decide +kernel
theorem dX6_writeElements_327 : decode cX6_writeElements 327 = .ok (.iadd, 1) := by decide +kernel
theorem dX6_writeElements_328 : decode cX6_writeElements 328 = .ok (.invokevirtual 189, 3) := by decide +kernel
theorem dX6_writeElements_331 : decode cX6_writeElements 331 = .ok (.iinc 9 (-1), 3) := by decide +kernel
theorem dX6_writeElements_334 : decode cX6_writeElements 334 = .ok (.goto (-56), 3) := by decide +kernel
theorem dX6_writeElements_337 : decode cX6_writeElements 337 = .ok (.iinc 8 (-1), 3) := by decide +kernel
theorem dX6_writeElements_340 : decode cX6_writeElements 340 = .ok (.goto (-73), 3) := by decide +kernel
theorem dX6_writeElements_343 : decode cX6_writeElements 343 = .ok (.return_, 1) := by decide +kernel
theorem dX6_write_0 : decode cX6_write 0 = .ok (.aload_n 0, 1) := by decide +kernel
theorem dX6_write_1 : decode cX6_write 1 = .ok (.aload_n 0, 1) := by decide +kernel
theorem dX6_write_2 : decode cX6_write 2 = .ok (.getfield 195, 3) := by decide +kernel
theorem dX6_write_5 : decode cX6_write 5 = .ok (.aload_n 0, 1) := by decide +kernel
theorem dX6_write_6 : decode cX6_write 6 = .ok (.getfield 121, 3) := by decide +kernel
theorem dX6_write_9 : decode cX6_write 9 = .ok (.l2i, 1) := by decide +kernel
theorem dX6_write_10 : decode cX6_write 10 = .ok (.isub, 1) := by decide +kernel
theorem dX6_write_11 : decode cX6_write 11 = .ok (.putfield 195, 3) := by decide +kernel
theorem dX6_write_14 : decode cX6_write 14 = .ok (.aload_n 0, 1) := by decide +kernel
theorem dX6_write_15 : decode cX6_write 15 = .ok (.getfield 113, 3) := by decide +kernel
theorem dX6_write_18 : decode cX6_write 18 = .ok (.ifCond .ne 12, 3) := by decide +kernel
theorem dX6_write_21 : decode cX6_write 21 = .ok (.aload_n 0, 1) := by decide +kernel
theorem dX6_write_22 : decode cX6_write 22 = .ok (.iload_n 1, 1) := by decide +kernel
theorem dX6_write_23 : decode cX6_write 23 = .ok (.iload_n 2, 1) := by decide +kernel
theorem dX6_write_24 : decode cX6_write 24 = .ok (.invokevirtual 198, 3) := by decide +kernel
theorem dX6_write_27 : decode cX6_write 27 = .ok (.goto 27, 3) := by decide +kernel
theorem dX6_write_30 : decode cX6_write 30 = .ok (.aload_n 0, 1) := by decide +kernel
theorem dX6_write_31 : decode cX6_write 31 = .ok (.getfield 113, 3) := by decide +kernel
theorem dX6_write_34 : decode cX6_write 34 = .ok (.bipush 8, 2) := by decide +kernel
theorem dX6_write_36 : decode cX6_write 36 = .ok (.if_icmp .ge 12, 3) := by decide +kernel
theorem dX6_write_39 : decode cX6_write 39 = .ok (.aload_n 0, 1) := by decide +kernel
theorem dX6_write_40 : decode cX6_write 40 = .ok (.iload_n 1, 1) := by decide +kernel
theorem dX6_write_41 : decode cX6_write 41 = .ok (.iload_n 2, 1) := by decide +kernel
theorem dX6_write_42 : decode cX6_write 42 = .ok (.invokevirtual 202, 3) := by decide +kernel
theorem dX6_write_45 : decode cX6_write 45 = .ok (.goto 9, 3) := by decide +kernel
theorem dX6_write_48 : decode cX6_write 48 = .ok (.aload_n 0, 1) := by decide +kernel
theorem dX6_write_49 : decode cX6_write 49 = .ok (.iload_n 1, 1) := by decide +kernel
theorem dX6_write_50 : decode cX6_write 50 = .ok (.iload_n 2, 1) := by decide +kernel
theorem dX6_write_51 : decode cX6_write 51 = .ok (.invokevirtual 205, 3) := by decide +kernel
theorem dX6_write_54 : decode cX6_write 54 = .ok (.return_, 1) := by decide +kernel
theorem dX6_form_0 : decode cX6_form 0 = .ok (.aload_n 0, 1) := by decide +kernel
theorem dX6_form_1 : decode cX6_form 1 = .ok (.aload_n 0, 1) := by decide +kernel
theorem dX6_form_2 : decode cX6_form 2 = .ok (.invokevirtual 148, 3) := by decide +kernel
theorem dX6_form_5 : decode cX6_form 5 = .ok (.putfield 69, 3) := by decide +kernel
theorem dX6_form_8 : decode cX6_form 8 = .ok (.aload_n 0, 1) := by decide +kernel
theorem dX6_form_9 : decode cX6_form 9 = .ok (.getfield 69, 3) := by decide +kernel
theorem dX6_form_12 : decode cX6_form 12 = .ok (.ifCond .eq 5, 3) := by decide +kernel
theorem dX6_form_15 : decode cX6_form 15 = .ok (.iconst 0, 1) := by decide +kernel
theorem dX6_form_16 : decode cX6_form 16 = .ok (.ireturn, 1) := by decide +kernel
theorem dX6_form_17 : decode cX6_form 17 = .ok (.aload_n 0, 1) := by decide +kernel
theorem dX6_form_18 : decode cX6_form 18 = .ok (.aload_n 0, 1) := by decide +kernel
theorem dX6_form_19 : decode cX6_form 19 = .ok (.getfield 17, 3) := by decide +kernel
theorem dX6_form_22 : decode cX6_form 22 = .ok (.putfield 195, 3) := by decide +kernel
theorem dX6_form_25 : decode cX6_form 25 = .ok (.aload_n 0, 1) := by decide +kernel
theorem dX6_form_26 : decode cX6_form 26 = .ok (.iconst 0, 1) := by decide +kernel
theorem dX6_form_27 : decode cX6_form 27 = .ok (.putfield 168, 3) := by decide +kernel
theorem dX6_form_30 : decode cX6_form 30 = .ok (.aload_n 0, 1) := by decide +kernel
theorem dX6_form_31 : decode cX6_form 31 = .ok (.iconst 0, 1) := by decide +kernel
theorem dX6_form_32 : decode cX6_form 32 = .ok (.putfield 171, 3) := by decide +kernel
theorem dX6_form_35 : decode cX6_form 35 = .ok (.aload_n 0, 1) := by decide +kernel
theorem dX6_form_36 : decode cX6_form 36 = .ok (.lconst 0, 1) := by decide +kernel
theorem dX6_form_37 : decode cX6_form 37 = .ok (.invokevirtual 185, 3) := by decide +kernel
theorem dX6_form_40 : decode cX6_form 40 = .ok (.aload_n 0, 1) := by decide +kernel
theorem dX6_form_41 : decode cX6_form 41 = .ok (.iconst 0, 1) := by decide +kernel
theorem dX6_form_42 : decode cX6_form 42 = .ok (.iconst 1, 1) := by decide +kernel
theorem dX6_form_43 : decode cX6_form 43 = .ok (.invokevirtual 208, 3) := by decide +kernel
theorem dX6_form_46 : decode cX6_form 46 = .ok (.aload_n 0, 1) := by decide +kernel
theorem dX6_form_47 : decode cX6_form 47 = .ok (.getfield 168, 3) := by decide +kernel
theorem dX6_form_50 : decode cX6_form 50 = .ok (.ifCond .le 125, 3) := by decide +kernel
theorem dX6_form_53 : decode cX6_form 53 = .ok (.aload_n 0, 1) := by decide +kernel
theorem dX6_form_54 : decode cX6_form 54 = .ok (.dup, 1) := by decide +kernel
theorem dX6_form_55 : decode cX6_form 55 = .ok (.getfield 168, 3) := by decide +kernel
theorem dX6_form_58 : decode cX6_form 58 = .ok (.iconst 1, 1) := by decide +kernel
theorem dX6_form_59 : decode cX6_form 59 = .ok (.isub, 1) := by decide +kernel
theorem dX6_form_60 : decode cX6_form 60 = .ok (.putfield 168, 3) := by decide +kernel
theorem dX6_form_63 : decode cX6_form 63 = .ok (.aload_n 0, 1) := by decide +kernel
theorem dX6_form_64 : decode cX6_form 64 = .ok (.getfield 57, 3) := by decide +kernel
theorem dX6_form_67 : decode cX6_form 67 = .ok (.aload_n 0, 1) := by decide +kernel
theorem dX6_form_68 : decode cX6_form 68 = .ok (.getfield 168, 3) := by decide +kernel
theorem dX6_form_71 : decode cX6_form 71 = .ok (.iaload, 1) := by decide +kernel
theorem dX6_form_72 : decode cX6_form 72 = .ok (.istore_n 1, 1) := by decide +kernel
theorem dX6_form_73 : decode cX6_form 73 = .ok (.aload_n 0, 1) := by decide +kernel
theorem dX6_form_74 : decode cX6_form 74 = .ok (.getfield 60, 3) := by decide +kernel
theorem dX6_form_77 : decode cX6_form 77 = .ok (.aload_n 0, 1) := by decide +kernel
theorem dX6_form_78 : decode cX6_form 78 = .ok (.getfield 168, 3) := by decide +kernel
theorem dX6_form_81 : decode cX6_form 81 = .ok (.iaload, 1) := by decide +kernel
theorem dX6_form_82 : decode cX6_form 82 = .ok (.istore_n 2, 1) := by decide +kernel
theorem dX6_form_83 : decode cX6_form 83 = .ok (.aload_n 0, 1) := by decide +kernel
theorem dX6_form_84 : decode cX6_form 84 = .ok (.getfield 63, 3) := by decide +kernel
theorem dX6_form_87 : decode cX6_form 87 = .ok (.aload_n 0, 1) := by decide +kernel
theorem dX6_form_88 : decode cX6_form 88 = .ok (.getfield 168, 3) := by decide +kernel
theorem dX6_form_91 : decode cX6_form 91 = .ok (.iaload, 1) := by decide +kernel
theorem dX6_form_92 : decode cX6_form 92 = .ok (.istore_n 3, 1) := by decide +kernel
theorem dX6_form_93 : decode cX6_form 93 = .ok (.aload_n 0, 1) := by decide +kernel
theorem dX6_form_94 : decode cX6_form 94 = .ok (.getfield 66, 3) := by decide +kernel
theorem dX6_form_97 : decode cX6_form 97 = .ok (.aload_n 0, 1) := by decide +kernel
theorem dX6_form_98 : decode cX6_form 98 = .ok (.getfield 168, 3) := by decide +kernel
theorem dX6_form_101 : decode cX6_form 101 = .ok (.iaload, 1) := by decide +kernel
theorem dX6_form_102 : decode cX6_form 102 = .ok (.istore 4, 2) := by decide +kernel
theorem dX6_form_104 : decode cX6_form 104 = .ok (.aload_n 0, 1) := by decide +kernel
theorem dX6_form_105 : decode cX6_form 105 = .ok (.getfield 7, 3) := by decide +kernel
theorem dX6_form_108 : decode cX6_form 108 = .ok (.bipush 64, 2) := by decide +kernel
theorem dX6_form_110 : decode cX6_form 110 = .ok (.iload_n 2, 1) := by decide +kernel
theorem dX6_form_111 : decode cX6_form 111 = .ok (.imul, 1) := by decide +kernel
theorem dX6_form_112 : decode cX6_form 112 = .ok (.iload_n 3, 1) := by decide +kernel
theorem dX6_form_113 : decode cX6_form 113 = .ok (.iadd, 1) := by decide +kernel
theorem dX6_form_114 : decode cX6_form 114 = .ok (.laload, 1) := by decide +kernel
theorem dX6_form_115 : decode cX6_form 115 = .ok (.lconst 0, 1) := by decide +kernel
theorem dX6_form_116 : decode cX6_form 116 = .ok (.lcmp, 1) := by decide +kernel
theorem dX6_form_117 : decode cX6_form 117 = .ok (.ifCond .eq 55, 3) := by decide +kernel
theorem dX6_form_120 : decode cX6_form 120 = .ok (.aload_n 0, 1) := by decide +kernel
theorem dX6_form_121 : decode cX6_form 121 = .ok (.iload_n 2, 1) := by decide +kernel
theorem dX6_form_122 : decode cX6_form 122 = .ok (.iload_n 3, 1) := by decide +kernel
theorem dX6_form_123 : decode cX6_form 123 = .ok (.iload 4, 2) := by decide +kernel
theorem dX6_form_125 : decode cX6_form 125 = .ok (.aload_n 0, 1) := by decide +kernel
theorem dX6_form_126 : decode cX6_form 126 = .ok (.getfield 195, 3) := by decide +kernel
theorem dX6_form_129 : decode cX6_form 129 = .ok (.invokevirtual 164, 3) := by decide +kernel
theorem dX6_form_132 : decode cX6_form 132 = .ok (.istore 5, 2) := by decide +kernel
theorem dX6_form_134 : decode cX6_form 134 = .ok (.iload 5, 2) := by decide +kernel
theorem dX6_form_136 : decode cX6_form 136 = .ok (.ifCond .eq 29, 3) := by decide +kernel
theorem dX6_form_139 : decode cX6_form 139 = .ok (.aload_n 0, 1) := by decide +kernel
theorem dX6_form_140 : decode cX6_form 140 = .ok (.iload 5, 2) := by decide +kernel
theorem dX6_form_142 : decode cX6_form 142 = .ok (.iconst 1, 1) := by decide +kernel
theorem dX6_form_143 : decode cX6_form 143 = .ok (.if_icmp .ne 7, 3) := by decide +kernel
theorem dX6_form_146 : decode cX6_form 146 = .ok (.iconst 1, 1) := by decide +kernel
theorem dX6_form_147 : decode cX6_form 147 = .ok (.goto 14, 3) := by decide +kernel
theorem dX6_form_150 : decode cX6_form 150 = .ok (.iload 5, 2) := by decide +kernel
theorem dX6_form_152 : decode cX6_form 152 = .ok (.iconst 2, 1) := by decide +kernel
theorem dX6_form_153 : decode cX6_form 153 = .ok (.if_icmp .ne 7, 3) := by decide +kernel
theorem dX6_form_156 : decode cX6_form 156 = .ok (.iconst 3, 1) := by decide +kernel
theorem dX6_form_157 : decode cX6_form 157 = .ok (.goto 4, 3) := by decide +kernel
theorem dX6_form_160 : decode cX6_form 160 = .ok (.iconst 4, 1) := by decide +kernel
theorem dX6_form_161 : decode cX6_form 161 = .ok (.invokevirtual 161, 3) := by decide +kernel
theorem dX6_form_164 : decode cX6_form 164 = .ok (.ireturn, 1) := by decide +kernel
theorem dX6_form_165 : decode cX6_form 165 = .ok (.aload_n 0, 1) := by decide +kernel
theorem dX6_form_166 : decode cX6_form 166 = .ok (.iload_n 1, 1) := by decide +kernel
theorem dX6_form_167 : decode cX6_form 167 = .ok (.iload 4, 2) := by decide +kernel
theorem dX6_form_169 : decode cX6_form 169 = .ok (.invokevirtual 208, 3) := by decide +kernel
theorem dX6_form_172 : decode cX6_form 172 = .ok (.goto (-126), 3) := by decide +kernel
theorem dX6_form_175 : decode cX6_form 175 = .ok (.aload_n 0, 1) := by decide +kernel
theorem dX6_form_176 : decode cX6_form 176 = .ok (.aload_n 0, 1) := by decide +kernel
theorem dX6_form_177 : decode cX6_form 177 = .ok (.getfield 171, 3) := by decide +kernel
theorem dX6_form_180 : decode cX6_form 180 = .ok (.putfield 45, 3) := by decide +kernel
theorem dX6_form_183 : decode cX6_form 183 = .ok (.iconst 0, 1) := by decide +kernel
theorem dX6_form_184 : decode cX6_form 184 = .ok (.istore_n 1, 1) := by decide +kernel
theorem dX6_form_185 : decode cX6_form 185 = .ok (.iload_n 1, 1) := by decide +kernel
theorem dX6_form_186 : decode cX6_form 186 = .ok (.aload_n 0, 1) := by decide +kernel
theorem dX6_form_187 : decode cX6_form 187 = .ok (.getfield 171, 3) := by decide +kernel
theorem dX6_form_190 : decode cX6_form 190 = .ok (.if_icmp .ge 21, 3) := by decide +kernel
theorem dX6_form_193 : decode cX6_form 193 = .ok (.aload_n 0, 1) := by decide +kernel
theorem dX6_form_194 : decode cX6_form 194 = .ok (.getfield 48, 3) := by decide +kernel
theorem dX6_form_197 : decode cX6_form 197 = .ok (.iload_n 1, 1) := by decide +kernel
theorem dX6_form_198 : decode cX6_form 198 = .ok (.aload_n 0, 1) := by decide +kernel
theorem dX6_form_199 : decode cX6_form 199 = .ok (.getfield 42, 3) := by decide +kernel
theorem dX6_form_202 : decode cX6_form 202 = .ok (.iload_n 1, 1) := by decide +kernel
theorem dX6_form_203 : decode cX6_form 203 = .ok (.laload, 1) := by decide +kernel
theorem dX6_form_204 : decode cX6_form 204 = .ok (.lastore, 1) := by decide +kernel
theorem dX6_form_205 : decode cX6_form 205 = .ok (.iinc 1 1, 3) := by decide +kernel
theorem dX6_form_208 : decode cX6_form 208 = .ok (.goto (-23), 3) := by decide +kernel
theorem dX6_form_211 : decode cX6_form 211 = .ok (.aload_n 0, 1) := by decide +kernel
theorem dX6_form_212 : decode cX6_form 212 = .ok (.getfield 171, 3) := by decide +kernel
theorem dX6_form_215 : decode cX6_form 215 = .ok (.ireturn, 1) := by decide +kernel
theorem dX6_formed_0 : decode cX6_formed 0 = .ok (.aload_n 0, 1) := by decide +kernel
theorem dX6_formed_1 : decode cX6_formed 1 = .ok (.iconst 0, 1) := by decide +kernel
theorem dX6_formed_2 : decode cX6_formed 2 = .ok (.putfield 69, 3) := by decide +kernel
theorem dX6_formed_5 : decode cX6_formed 5 = .ok (.iload_n 1, 1) := by decide +kernel
theorem dX6_formed_6 : decode cX6_formed 6 = .ok (.ifCond .lt 11, 3) := by decide +kernel
theorem dX6_formed_9 : decode cX6_formed 9 = .ok (.iload_n 1, 1) := by decide +kernel
theorem dX6_formed_10 : decode cX6_formed 10 = .ok (.aload_n 0, 1) := by decide +kernel
theorem dX6_formed_11 : decode cX6_formed 11 = .ok (.getfield 45, 3) := by decide +kernel
theorem dX6_formed_14 : decode cX6_formed 14 = .ok (.if_icmp .lt 7, 3) := by decide +kernel
theorem dX6_formed_17 : decode cX6_formed 17 = .ok (.lconst 0, 1) := by decide +kernel
theorem dX6_formed_18 : decode cX6_formed 18 = .ok (.goto 9, 3) := by decide +kernel
theorem dX6_formed_21 : decode cX6_formed 21 = .ok (.aload_n 0, 1) := by decide +kernel
theorem dX6_formed_22 : decode cX6_formed 22 = .ok (.getfield 48, 3) := by decide +kernel
theorem dX6_formed_25 : decode cX6_formed 25 = .ok (.iload_n 1, 1) := by decide +kernel
theorem dX6_formed_26 : decode cX6_formed 26 = .ok (.laload, 1) := by decide +kernel
theorem dX6_formed_27 : decode cX6_formed 27 = .ok (.lreturn, 1) := by decide +kernel
theorem dX6_adopt_0 : decode cX6_adopt 0 = .ok (.aload_n 0, 1) := by decide +kernel
theorem dX6_adopt_1 : decode cX6_adopt 1 = .ok (.iconst 0, 1) := by decide +kernel
theorem dX6_adopt_2 : decode cX6_adopt 2 = .ok (.putfield 69, 3) := by decide +kernel
theorem dX6_adopt_5 : decode cX6_adopt 5 = .ok (.aload_n 0, 1) := by decide +kernel
theorem dX6_adopt_6 : decode cX6_adopt 6 = .ok (.getfield 45, 3) := by decide +kernel
theorem dX6_adopt_9 : decode cX6_adopt 9 = .ok (.ifCond .ge 5, 3) := by decide +kernel
theorem dX6_adopt_12 : decode cX6_adopt 12 = .ok (.iconst 0, 1) := by decide +kernel
theorem dX6_adopt_13 : decode cX6_adopt 13 = .ok (.ireturn, 1) := by decide +kernel
theorem dX6_adopt_14 : decode cX6_adopt 14 = .ok (.iconst 0, 1) := by decide +kernel
theorem dX6_adopt_15 : decode cX6_adopt 15 = .ok (.istore_n 1, 1) := by decide +kernel
theorem dX6_adopt_16 : decode cX6_adopt 16 = .ok (.iload_n 1, 1) := by decide +kernel
theorem dX6_adopt_17 : decode cX6_adopt 17 = .ok (.iconst 4, 1) := by decide +kernel
theorem dX6_adopt_18 : decode cX6_adopt 18 = .ok (.if_icmp .ge 16, 3) := by decide +kernel
theorem dX6_adopt_21 : decode cX6_adopt 21 = .ok (.aload_n 0, 1) := by decide +kernel
theorem dX6_adopt_22 : decode cX6_adopt 22 = .ok (.getfield 13, 3) := by decide +kernel
theorem dX6_adopt_25 : decode cX6_adopt 25 = .ok (.iload_n 1, 1) := by decide +kernel
theorem dX6_adopt_26 : decode cX6_adopt 26 = .ok (.iconst 0, 1) := by decide +kernel
theorem dX6_adopt_27 : decode cX6_adopt 27 = .ok (.iastore, 1) := by decide +kernel
theorem dX6_adopt_28 : decode cX6_adopt 28 = .ok (.iinc 1 1, 3) := by decide +kernel
theorem dX6_adopt_31 : decode cX6_adopt 31 = .ok (.goto (-15), 3) := by decide +kernel
theorem dX6_adopt_34 : decode cX6_adopt 34 = .ok (.iconst 0, 1) := by decide +kernel
theorem dX6_adopt_35 : decode cX6_adopt 35 = .ok (.istore_n 1, 1) := by decide +kernel
theorem dX6_adopt_36 : decode cX6_adopt 36 = .ok (.iload_n 1, 1) := by decide +kernel
theorem dX6_adopt_37 : decode cX6_adopt 37 = .ok (.aload_n 0, 1) := by decide +kernel
theorem dX6_adopt_38 : decode cX6_adopt 38 = .ok (.getfield 45, 3) := by decide +kernel
theorem dX6_adopt_41 : decode cX6_adopt 41 = .ok (.if_icmp .ge 21, 3) := by decide +kernel
theorem dX6_adopt_44 : decode cX6_adopt 44 = .ok (.aload_n 0, 1) := by decide +kernel
theorem dX6_adopt_45 : decode cX6_adopt 45 = .ok (.getfield 7, 3) := by decide +kernel
theorem dX6_adopt_48 : decode cX6_adopt 48 = .ok (.iload_n 1, 1) := by decide +kernel
theorem dX6_adopt_49 : decode cX6_adopt 49 = .ok (.aload_n 0, 1) := by decide +kernel
theorem dX6_adopt_50 : decode cX6_adopt 50 = .ok (.getfield 48, 3) := by decide +kernel
theorem dX6_adopt_53 : decode cX6_adopt 53 = .ok (.iload_n 1, 1) := by decide +kernel
theorem dX6_adopt_54 : decode cX6_adopt 54 = .ok (.laload, 1) := by decide +kernel
theorem dX6_adopt_55 : decode cX6_adopt 55 = .ok (.lastore, 1) := by decide +kernel
theorem dX6_adopt_56 : decode cX6_adopt 56 = .ok (.iinc 1 1, 3) := by decide +kernel
theorem dX6_adopt_59 : decode cX6_adopt 59 = .ok (.goto (-23), 3) := by decide +kernel
theorem dX6_adopt_62 : decode cX6_adopt 62 = .ok (.aload_n 0, 1) := by decide +kernel
theorem dX6_adopt_63 : decode cX6_adopt 63 = .ok (.getfield 13, 3) := by decide +kernel
theorem dX6_adopt_66 : decode cX6_adopt 66 = .ok (.iconst 0, 1) := by decide +kernel
theorem dX6_adopt_67 : decode cX6_adopt 67 = .ok (.aload_n 0, 1) := by decide +kernel
theorem dX6_adopt_68 : decode cX6_adopt 68 = .ok (.getfield 45, 3) := by decide +kernel
theorem dX6_adopt_71 : decode cX6_adopt 71 = .ok (.iastore, 1) := by decide +kernel
theorem dX6_adopt_72 : decode cX6_adopt 72 = .ok (.aload_n 0, 1) := by decide +kernel
theorem dX6_adopt_73 : decode cX6_adopt 73 = .ok (.iconst 0, 1) := by decide +kernel
theorem dX6_adopt_74 : decode cX6_adopt 74 = .ok (.putfield 72, 3) := by decide +kernel
theorem dX6_adopt_77 : decode cX6_adopt 77 = .ok (.iconst 1, 1) := by decide +kernel
theorem dX6_adopt_78 : decode cX6_adopt 78 = .ok (.ireturn, 1) := by decide +kernel
theorem dX6_keep_0 : decode cX6_keep 0 = .ok (.aload_n 0, 1) := by decide +kernel
theorem dX6_keep_1 : decode cX6_keep 1 = .ok (.iconst 0, 1) := by decide +kernel
theorem dX6_keep_2 : decode cX6_keep 2 = .ok (.putfield 69, 3) := by decide +kernel
theorem dX6_keep_5 : decode cX6_keep 5 = .ok (.aload_n 0, 1) := by decide +kernel
theorem dX6_keep_6 : decode cX6_keep 6 = .ok (.getfield 45, 3) := by decide +kernel
theorem dX6_keep_9 : decode cX6_keep 9 = .ok (.ifCond .ge 5, 3) := by decide +kernel
theorem dX6_keep_12 : decode cX6_keep 12 = .ok (.iconst 0, 1) := by decide +kernel
theorem dX6_keep_13 : decode cX6_keep 13 = .ok (.ireturn, 1) := by decide +kernel
theorem dX6_keep_14 : decode cX6_keep 14 = .ok (.aload_n 0, 1) := by decide +kernel
theorem dX6_keep_15 : decode cX6_keep 15 = .ok (.aload_n 0, 1) := by decide +kernel
theorem dX6_keep_16 : decode cX6_keep 16 = .ok (.getfield 45, 3) := by decide +kernel
theorem dX6_keep_19 : decode cX6_keep 19 = .ok (.putfield 51, 3) := by decide +kernel
theorem dX6_keep_22 : decode cX6_keep 22 = .ok (.iconst 0, 1) := by decide +kernel
theorem dX6_keep_23 : decode cX6_keep 23 = .ok (.istore_n 1, 1) := by decide +kernel
theorem dX6_keep_24 : decode cX6_keep 24 = .ok (.iload_n 1, 1) := by decide +kernel
theorem dX6_keep_25 : decode cX6_keep 25 = .ok (.aload_n 0, 1) := by decide +kernel
theorem dX6_keep_26 : decode cX6_keep 26 = .ok (.getfield 45, 3) := by decide +kernel
theorem dX6_keep_29 : decode cX6_keep 29 = .ok (.if_icmp .ge 21, 3) := by decide +kernel
theorem dX6_keep_32 : decode cX6_keep 32 = .ok (.aload_n 0, 1) := by decide +kernel
theorem dX6_keep_33 : decode cX6_keep 33 = .ok (.getfield 54, 3) := by decide +kernel
theorem dX6_keep_36 : decode cX6_keep 36 = .ok (.iload_n 1, 1) := by decide +kernel
theorem dX6_keep_37 : decode cX6_keep 37 = .ok (.aload_n 0, 1) := by decide +kernel
theorem dX6_keep_38 : decode cX6_keep 38 = .ok (.getfield 48, 3) := by decide +kernel
theorem dX6_keep_41 : decode cX6_keep 41 = .ok (.iload_n 1, 1) := by decide +kernel
theorem dX6_keep_42 : decode cX6_keep 42 = .ok (.laload, 1) := by decide +kernel
theorem dX6_keep_43 : decode cX6_keep 43 = .ok (.lastore, 1) := by decide +kernel
theorem dX6_keep_44 : decode cX6_keep 44 = .ok (.iinc 1 1, 3) := by decide +kernel
theorem dX6_keep_47 : decode cX6_keep 47 = .ok (.goto (-23), 3) := by decide +kernel
theorem dX6_keep_50 : decode cX6_keep 50 = .ok (.iconst 1, 1) := by decide +kernel
theorem dX6_keep_51 : decode cX6_keep 51 = .ok (.ireturn, 1) := by decide +kernel
theorem dX6_same_0 : decode cX6_same 0 = .ok (.aload_n 0, 1) := by decide +kernel
theorem dX6_same_1 : decode cX6_same 1 = .ok (.iconst 0, 1) := by decide +kernel
theorem dX6_same_2 : decode cX6_same 2 = .ok (.putfield 69, 3) := by decide +kernel
theorem dX6_same_5 : decode cX6_same 5 = .ok (.aload_n 0, 1) := by decide +kernel
theorem dX6_same_6 : decode cX6_same 6 = .ok (.getfield 45, 3) := by decide +kernel
theorem dX6_same_9 : decode cX6_same 9 = .ok (.ifCond .lt 18, 3) := by decide +kernel
theorem dX6_same_12 : decode cX6_same 12 = .ok (.aload_n 0, 1) := by decide +kernel
theorem dX6_same_13 : decode cX6_same 13 = .ok (.getfield 45, 3) := by decide +kernel
theorem dX6_same_16 : decode cX6_same 16 = .ok (.aload_n 0, 1) := by decide +kernel
theorem dX6_same_17 : decode cX6_same 17 = .ok (.getfield 51, 3) := by decide +kernel
theorem dX6_same_20 : decode cX6_same 20 = .ok (.if_icmp .ne 7, 3) := by decide +kernel
theorem dX6_same_23 : decode cX6_same 23 = .ok (.iconst 1, 1) := by decide +kernel
theorem dX6_same_24 : decode cX6_same 24 = .ok (.goto 4, 3) := by decide +kernel
theorem dX6_same_27 : decode cX6_same 27 = .ok (.iconst 0, 1) := by decide +kernel
theorem dX6_same_28 : decode cX6_same 28 = .ok (.istore_n 1, 1) := by decide +kernel
theorem dX6_same_29 : decode cX6_same 29 = .ok (.iconst 0, 1) := by decide +kernel
theorem dX6_same_30 : decode cX6_same 30 = .ok (.istore_n 2, 1) := by decide +kernel
theorem dX6_same_31 : decode cX6_same 31 = .ok (.iload_n 2, 1) := by decide +kernel
theorem dX6_same_32 : decode cX6_same 32 = .ok (.aload_n 0, 1) := by decide +kernel
theorem dX6_same_33 : decode cX6_same 33 = .ok (.getfield 45, 3) := by decide +kernel
theorem dX6_same_36 : decode cX6_same 36 = .ok (.if_icmp .ge 35, 3) := by decide +kernel
theorem dX6_same_39 : decode cX6_same 39 = .ok (.iload_n 1, 1) := by decide +kernel
theorem dX6_same_40 : decode cX6_same 40 = .ok (.ifCond .eq 23, 3) := by decide +kernel
theorem dX6_same_43 : decode cX6_same 43 = .ok (.aload_n 0, 1) := by decide +kernel
theorem dX6_same_44 : decode cX6_same 44 = .ok (.getfield 48, 3) := by decide +kernel
theorem dX6_same_47 : decode cX6_same 47 = .ok (.iload_n 2, 1) := by decide +kernel
theorem dX6_same_48 : decode cX6_same 48 = .ok (.laload, 1) := by decide +kernel
theorem dX6_same_49 : decode cX6_same 49 = .ok (.aload_n 0, 1) := by decide +kernel
theorem dX6_same_50 : decode cX6_same 50 = .ok (.getfield 54, 3) := by decide +kernel
theorem dX6_same_53 : decode cX6_same 53 = .ok (.iload_n 2, 1) := by decide +kernel
theorem dX6_same_54 : decode cX6_same 54 = .ok (.laload, 1) := by decide +kernel
theorem dX6_same_55 : decode cX6_same 55 = .ok (.lcmp, 1) := by decide +kernel
theorem dX6_same_56 : decode cX6_same 56 = .ok (.ifCond .ne 7, 3) := by decide +kernel
theorem dX6_same_59 : decode cX6_same 59 = .ok (.iconst 1, 1) := by decide +kernel
theorem dX6_same_60 : decode cX6_same 60 = .ok (.goto 4, 3) := by decide +kernel
theorem dX6_same_63 : decode cX6_same 63 = .ok (.iconst 0, 1) := by decide +kernel
theorem dX6_same_64 : decode cX6_same 64 = .ok (.istore_n 1, 1) := by decide +kernel
theorem dX6_same_65 : decode cX6_same 65 = .ok (.iinc 2 1, 3) := by decide +kernel
theorem dX6_same_68 : decode cX6_same 68 = .ok (.goto (-37), 3) := by decide +kernel
theorem dX6_same_71 : decode cX6_same 71 = .ok (.iload_n 1, 1) := by decide +kernel
theorem dX6_same_72 : decode cX6_same 72 = .ok (.ireturn, 1) := by decide +kernel
theorem dJ9_max_7cf53_0 : decode cJ9_max_7cf53 0 = .ok (.iload_n 0, 1) := by decide +kernel
theorem dJ9_max_7cf53_1 : decode cJ9_max_7cf53 1 = .ok (.iload_n 1, 1) := by decide +kernel
theorem dJ9_max_7cf53_2 : decode cJ9_max_7cf53 2 = .ok (.if_icmp .lt 7, 3) := by decide +kernel
theorem dJ9_max_7cf53_5 : decode cJ9_max_7cf53 5 = .ok (.iload_n 0, 1) := by decide +kernel
theorem dJ9_max_7cf53_6 : decode cJ9_max_7cf53 6 = .ok (.goto 4, 3) := by decide +kernel
theorem dJ9_max_7cf53_9 : decode cJ9_max_7cf53 9 = .ok (.iload_n 1, 1) := by decide +kernel
theorem dJ9_max_7cf53_10 : decode cJ9_max_7cf53 10 = .ok (.ireturn, 1) := by decide +kernel
theorem dL_open_0 : decode cL_open 0 = .ok (.aload_n 1, 1) := by decide +kernel
theorem dL_open_1 : decode cL_open 1 = .ok (.iconst 0, 1) := by decide +kernel
theorem dL_open_2 : decode cL_open 2 = .ok (.aload_n 0, 1) := by decide +kernel
theorem dL_open_3 : decode cL_open 3 = .ok (.invokevirtual 7, 3) := by decide +kernel
theorem dL_open_6 : decode cL_open 6 = .ok (.i2l, 1) := by decide +kernel
theorem dL_open_7 : decode cL_open 7 = .ok (.lastore, 1) := by decide +kernel
theorem dL_open_8 : decode cL_open 8 = .ok (.goto 15, 3) := by decide +kernel
theorem dL_open_11 : decode cL_open 11 = .ok (.astore_n 2, 1) := by decide +kernel
theorem dL_open_12 : decode cL_open 12 = .ok (.iconst 1, 1) := by decide +kernel
theorem dL_open_13 : decode cL_open 13 = .ok (.ireturn, 1) := by decide +kernel
theorem dL_open_14 : decode cL_open 14 = .ok (.astore_n 2, 1) := by decide +kernel
theorem dL_open_15 : decode cL_open 15 = .ok (.iconst 2, 1) := by decide +kernel
theorem dL_open_16 : decode cL_open 16 = .ok (.ireturn, 1) := by decide +kernel
theorem dL_open_17 : decode cL_open 17 = .ok (.astore_n 2, 1) := by decide +kernel
theorem dL_open_18 : decode cL_open 18 = .ok (.iconst 3, 1) := by decide +kernel
theorem dL_open_19 : decode cL_open 19 = .ok (.ireturn, 1) := by decide +kernel
theorem dL_open_20 : decode cL_open 20 = .ok (.astore_n 2, 1) := by decide +kernel
theorem dL_open_21 : decode cL_open 21 = .ok (.iconst 4, 1) := by decide +kernel
theorem dL_open_22 : decode cL_open 22 = .ok (.ireturn, 1) := by decide +kernel
theorem dL_open_23 : decode cL_open 23 = .ok (.iconst 0, 1) := by decide +kernel
theorem dL_open_24 : decode cL_open 24 = .ok (.ireturn, 1) := by decide +kernel
theorem dL_go_0 : decode cL_go 0 = .ok (.aload_n 3, 1) := by decide +kernel
theorem dL_go_1 : decode cL_go 1 = .ok (.iconst 0, 1) := by decide +kernel
theorem dL_go_2 : decode cL_go 2 = .ok (.aload_n 0, 1) := by decide +kernel
theorem dL_go_3 : decode cL_go 3 = .ok (.iload_n 1, 1) := by decide +kernel
theorem dL_go_4 : decode cL_go 4 = .ok (.iload_n 2, 1) := by decide +kernel
theorem dL_go_5 : decode cL_go 5 = .ok (.invokevirtual 21, 3) := by decide +kernel
theorem dL_go_8 : decode cL_go 8 = .ok (.i2l, 1) := by decide +kernel
theorem dL_go_9 : decode cL_go 9 = .ok (.lastore, 1) := by decide +kernel
theorem dL_go_10 : decode cL_go 10 = .ok (.goto 23, 3) := by decide +kernel
theorem dL_go_13 : decode cL_go 13 = .ok (.astore 4, 2) := by decide +kernel
theorem dL_go_15 : decode cL_go 15 = .ok (.iconst 1, 1) := by decide +kernel
theorem dL_go_16 : decode cL_go 16 = .ok (.ireturn, 1) := by decide +kernel
theorem dL_go_17 : decode cL_go 17 = .ok (.astore 4, 2) := by decide +kernel
theorem dL_go_19 : decode cL_go 19 = .ok (.iconst 2, 1) := by decide +kernel
theorem dL_go_20 : decode cL_go 20 = .ok (.ireturn, 1) := by decide +kernel
theorem dL_go_21 : decode cL_go 21 = .ok (.astore 4, 2) := by decide +kernel
theorem dL_go_23 : decode cL_go 23 = .ok (.iconst 3, 1) := by decide +kernel
theorem dL_go_24 : decode cL_go 24 = .ok (.ireturn, 1) := by decide +kernel
theorem dL_go_25 : decode cL_go 25 = .ok (.astore 4, 2) := by decide +kernel
theorem dL_go_27 : decode cL_go 27 = .ok (.iconst 4, 1) := by decide +kernel
theorem dL_go_28 : decode cL_go 28 = .ok (.ireturn, 1) := by decide +kernel
theorem dL_go_29 : decode cL_go 29 = .ok (.astore 4, 2) := by decide +kernel
theorem dL_go_31 : decode cL_go 31 = .ok (.iconst 5, 1) := by decide +kernel
theorem dL_go_32 : decode cL_go 32 = .ok (.ireturn, 1) := by decide +kernel
theorem dL_go_33 : decode cL_go 33 = .ok (.iconst 0, 1) := by decide +kernel
theorem dL_go_34 : decode cL_go 34 = .ok (.ireturn, 1) := by decide +kernel
theorem dL_element_0 : decode cL_element 0 = .ok (.aload_n 3, 1) := by decide +kernel
theorem dL_element_1 : decode cL_element 1 = .ok (.iconst 0, 1) := by decide +kernel
theorem dL_element_2 : decode cL_element 2 = .ok (.aload_n 0, 1) := by decide +kernel
theorem dL_element_3 : decode cL_element 3 = .ok (.iload_n 1, 1) := by decide +kernel
theorem dL_element_4 : decode cL_element 4 = .ok (.iload_n 2, 1) := by decide +kernel
theorem dL_element_5 : decode cL_element 5 = .ok (.invokevirtual 27, 3) := by decide +kernel
theorem dL_element_8 : decode cL_element 8 = .ok (.i2l, 1) := by decide +kernel
theorem dL_element_9 : decode cL_element 9 = .ok (.lastore, 1) := by decide +kernel
theorem dL_element_10 : decode cL_element 10 = .ok (.goto 19, 3) := by decide +kernel
theorem dL_element_13 : decode cL_element 13 = .ok (.astore 4, 2) := by decide +kernel
theorem dL_element_15 : decode cL_element 15 = .ok (.iconst 1, 1) := by decide +kernel
theorem dL_element_16 : decode cL_element 16 = .ok (.ireturn, 1) := by decide +kernel
theorem dL_element_17 : decode cL_element 17 = .ok (.astore 4, 2) := by decide +kernel
theorem dL_element_19 : decode cL_element 19 = .ok (.iconst 2, 1) := by decide +kernel
theorem dL_element_20 : decode cL_element 20 = .ok (.ireturn, 1) := by decide +kernel
theorem dL_element_21 : decode cL_element 21 = .ok (.astore 4, 2) := by decide +kernel
theorem dL_element_23 : decode cL_element 23 = .ok (.iconst 3, 1) := by decide +kernel
theorem dL_element_24 : decode cL_element 24 = .ok (.ireturn, 1) := by decide +kernel
theorem dL_element_25 : decode cL_element 25 = .ok (.astore 4, 2) := by decide +kernel
theorem dL_element_27 : decode cL_element 27 = .ok (.iconst 4, 1) := by decide +kernel
theorem dL_element_28 : decode cL_element 28 = .ok (.ireturn, 1) := by decide +kernel
theorem dL_element_29 : decode cL_element 29 = .ok (.iconst 0, 1) := by decide +kernel
theorem dL_element_30 : decode cL_element 30 = .ok (.ireturn, 1) := by decide +kernel
theorem dL_about_0 : decode cL_about 0 = .ok (.aload_n 3, 1) := by decide +kernel
theorem dL_about_1 : decode cL_about 1 = .ok (.iconst 0, 1) := by decide +kernel
theorem dL_about_2 : decode cL_about 2 = .ok (.aload_n 0, 1) := by decide +kernel
theorem dL_about_3 : decode cL_about 3 = .ok (.iload_n 1, 1) := by decide +kernel
theorem dL_about_4 : decode cL_about 4 = .ok (.iload_n 2, 1) := by decide +kernel
theorem dL_about_5 : decode cL_about 5 = .ok (.invokevirtual 30, 3) := by decide +kernel
theorem dL_about_8 : decode cL_about 8 = .ok (.i2l, 1) := by decide +kernel
theorem dL_about_9 : decode cL_about 9 = .ok (.lastore, 1) := by decide +kernel
theorem dL_about_10 : decode cL_about 10 = .ok (.goto 11, 3) := by decide +kernel
theorem dL_about_13 : decode cL_about 13 = .ok (.astore 4, 2) := by decide +kernel
theorem dL_about_15 : decode cL_about 15 = .ok (.iconst 1, 1) := by decide +kernel
theorem dL_about_16 : decode cL_about 16 = .ok (.ireturn, 1) := by decide +kernel
theorem dL_about_17 : decode cL_about 17 = .ok (.astore 4, 2) := by decide +kernel
theorem dL_about_19 : decode cL_about 19 = .ok (.iconst 2, 1) := by decide +kernel
theorem dL_about_20 : decode cL_about 20 = .ok (.ireturn, 1) := by decide +kernel
theorem dL_about_21 : decode cL_about 21 = .ok (.iconst 0, 1) := by decide +kernel
theorem dL_about_22 : decode cL_about 22 = .ok (.ireturn, 1) := by decide +kernel
theorem dL_data_0 : decode cL_data 0 = .ok (.aload_n 3, 1) := by decide +kernel
theorem dL_data_1 : decode cL_data 1 = .ok (.iconst 0, 1) := by decide +kernel
theorem dL_data_2 : decode cL_data 2 = .ok (.aload_n 0, 1) := by decide +kernel
theorem dL_data_3 : decode cL_data 3 = .ok (.iload_n 1, 1) := by decide +kernel
theorem dL_data_4 : decode cL_data 4 = .ok (.iload_n 2, 1) := by decide +kernel
theorem dL_data_5 : decode cL_data 5 = .ok (.invokevirtual 33, 3) := by decide +kernel
theorem dL_data_8 : decode cL_data 8 = .ok (.lastore, 1) := by decide +kernel
theorem dL_data_9 : decode cL_data 9 = .ok (.goto 15, 3) := by decide +kernel
theorem dL_data_12 : decode cL_data 12 = .ok (.astore 4, 2) := by decide +kernel
theorem dL_data_14 : decode cL_data 14 = .ok (.iconst 1, 1) := by decide +kernel
theorem dL_data_15 : decode cL_data 15 = .ok (.ireturn, 1) := by decide +kernel
theorem dL_data_16 : decode cL_data 16 = .ok (.astore 4, 2) := by decide +kernel
theorem dL_data_18 : decode cL_data 18 = .ok (.iconst 2, 1) := by decide +kernel
theorem dL_data_19 : decode cL_data 19 = .ok (.ireturn, 1) := by decide +kernel
theorem dL_data_20 : decode cL_data 20 = .ok (.astore 4, 2) := by decide +kernel
theorem dL_data_22 : decode cL_data 22 = .ok (.iconst 3, 1) := by decide +kernel
theorem dL_data_23 : decode cL_data 23 = .ok (.ireturn, 1) := by decide +kernel
theorem dL_data_24 : decode cL_data 24 = .ok (.iconst 0, 1) := by decide +kernel
theorem dL_data_25 : decode cL_data 25 = .ok (.ireturn, 1) := by decide +kernel
theorem dL_form_0 : decode cL_form 0 = .ok (.aload_n 1, 1) := by decide +kernel
theorem dL_form_1 : decode cL_form 1 = .ok (.iconst 0, 1) := by decide +kernel
theorem dL_form_2 : decode cL_form 2 = .ok (.aload_n 0, 1) := by decide +kernel
theorem dL_form_3 : decode cL_form 3 = .ok (.invokevirtual 37, 3) := by decide +kernel
theorem dL_form_6 : decode cL_form 6 = .ok (.i2l, 1) := by decide +kernel
theorem dL_form_7 : decode cL_form 7 = .ok (.lastore, 1) := by decide +kernel
theorem dL_form_8 : decode cL_form 8 = .ok (.goto 15, 3) := by decide +kernel
theorem dL_form_11 : decode cL_form 11 = .ok (.astore_n 2, 1) := by decide +kernel
theorem dL_form_12 : decode cL_form 12 = .ok (.iconst 1, 1) := by decide +kernel
theorem dL_form_13 : decode cL_form 13 = .ok (.ireturn, 1) := by decide +kernel
theorem dL_form_14 : decode cL_form 14 = .ok (.astore_n 2, 1) := by decide +kernel
theorem dL_form_15 : decode cL_form 15 = .ok (.iconst 2, 1) := by decide +kernel
theorem dL_form_16 : decode cL_form 16 = .ok (.ireturn, 1) := by decide +kernel
theorem dL_form_17 : decode cL_form 17 = .ok (.astore_n 2, 1) := by decide +kernel
theorem dL_form_18 : decode cL_form 18 = .ok (.iconst 3, 1) := by decide +kernel
theorem dL_form_19 : decode cL_form 19 = .ok (.ireturn, 1) := by decide +kernel
theorem dL_form_20 : decode cL_form 20 = .ok (.astore_n 2, 1) := by decide +kernel
theorem dL_form_21 : decode cL_form 21 = .ok (.iconst 4, 1) := by decide +kernel
theorem dL_form_22 : decode cL_form 22 = .ok (.ireturn, 1) := by decide +kernel
theorem dL_form_23 : decode cL_form 23 = .ok (.iconst 0, 1) := by decide +kernel
theorem dL_form_24 : decode cL_form 24 = .ok (.ireturn, 1) := by decide +kernel
theorem dL_law_0 : decode cL_law 0 = .ok (.new 8, 3) := by decide +kernel
theorem dL_law_3 : decode cL_law 3 = .ok (.dup, 1) := by decide +kernel
theorem dL_law_4 : decode cL_law 4 = .ok (.invokespecial 40, 3) := by decide +kernel
theorem dL_law_7 : decode cL_law 7 = .ok (.astore_n 1, 1) := by decide +kernel
theorem dL_law_8 : decode cL_law 8 = .ok (.new 41, 3) := by decide +kernel
theorem dL_law_11 : decode cL_law 11 = .ok (.dup, 1) := by decide +kernel
theorem dL_law_12 : decode cL_law 12 = .ok (.invokespecial 43, 3) := by decide +kernel
theorem dL_law_15 : decode cL_law 15 = .ok (.astore_n 2, 1) := by decide +kernel
theorem dL_law_16 : decode cL_law 16 = .ok (.iconst 1, 1) := by decide +kernel
theorem dL_law_17 : decode cL_law 17 = .ok (.newarray .long, 2) := by decide +kernel
theorem dL_law_19 : decode cL_law 19 = .ok (.astore_n 3, 1) := by decide +kernel
theorem dL_law_20 : decode cL_law 20 = .ok (.iconst 0, 1) := by decide +kernel
theorem dL_law_21 : decode cL_law 21 = .ok (.istore 4, 2) := by decide +kernel
theorem dL_law_23 : decode cL_law 23 = .ok (.iload 4, 2) := by decide +kernel
theorem dL_law_25 : decode cL_law 25 = .ok (.aload_n 0, 1) := by decide +kernel
theorem dL_law_26 : decode cL_law 26 = .ok (.arraylength, 1) := by decide +kernel
theorem dL_law_27 : decode cL_law 27 = .ok (.iconst 5, 1) := by decide +kernel
theorem dL_law_28 : decode cL_law 28 = .ok (.isub, 1) := by decide +kernel
theorem dL_law_29 : decode cL_law 29 = .ok (.if_icmp .gt 809, 3) := by decide +kernel
theorem dL_law_32 : decode cL_law 32 = .ok (.aload_n 0, 1) := by decide +kernel
theorem dL_law_33 : decode cL_law 33 = .ok (.iload 4, 2) := by decide +kernel
theorem dL_law_35 : decode cL_law 35 = .ok (.iaload, 1) := by decide +kernel
theorem dL_law_36 : decode cL_law 36 = .ok (.bipush 31, 2) := by decide +kernel
theorem dL_law_38 : decode cL_law 38 = .ok (.iand, 1) := by decide +kernel
theorem dL_law_39 : decode cL_law 39 = .ok (.tableswitch 793 0 16 #[81, 150, 231, 268, 293, 331, 356, 400, 413, 481, 549, 617, 684, 728, 754, 767, 780], 81) := by decide +kernel
theorem dL_law_120 : decode cL_law 120 = .ok (.aload_n 1, 1) := by decide +kernel
theorem dL_law_121 : decode cL_law 121 = .ok (.aload_n 0, 1) := by decide +kernel
theorem dL_law_122 : decode cL_law 122 = .ok (.iload 4, 2) := by decide +kernel
theorem dL_law_124 : decode cL_law 124 = .ok (.iconst 1, 1) := by decide +kernel
theorem dL_law_125 : decode cL_law 125 = .ok (.iadd, 1) := by decide +kernel
theorem dL_law_126 : decode cL_law 126 = .ok (.iaload, 1) := by decide +kernel
theorem dL_law_127 : decode cL_law 127 = .ok (.aload_n 0, 1) := by decide +kernel
theorem dL_law_128 : decode cL_law 128 = .ok (.iload 4, 2) := by decide +kernel
theorem dL_law_130 : decode cL_law 130 = .ok (.iconst 2, 1) := by decide +kernel
theorem dL_law_131 : decode cL_law 131 = .ok (.iadd, 1) := by decide +kernel
theorem dL_law_132 : decode cL_law 132 = .ok (.iaload, 1) := by decide +kernel
theorem dL_law_133 : decode cL_law 133 = .ok (.i2l, 1) := by decide +kernel
theorem dL_law_134 : decode cL_law 134 = .ok (.bipush 32, 2) := by decide +kernel
theorem dL_law_136 : decode cL_law 136 = .ok (.lshl, 1) := by decide +kernel
theorem dL_law_137 : decode cL_law 137 = .ok (.aload_n 0, 1) := by decide +kernel
theorem dL_law_138 : decode cL_law 138 = .ok (.iload 4, 2) := by decide +kernel
theorem dL_law_140 : decode cL_law 140 = .ok (.iconst 3, 1) := by decide +kernel
theorem dL_law_141 : decode cL_law 141 = .ok (.iadd, 1) := by decide +kernel
theorem dL_law_142 : decode cL_law 142 = .ok (.iaload, 1) := by decide +kernel
theorem dL_law_143 : decode cL_law 143 = .ok (.i2l, 1) := by decide +kernel
theorem dL_law_144 : decode cL_law 144 = .ok (.ldc2_w 44, 3) := by decide +kernel
theorem dL_law_147 : decode cL_law 147 = .ok (.land, 1) := by decide +kernel
theorem dL_law_148 : decode cL_law 148 = .ok (.lor, 1) := by decide +kernel
theorem dL_law_149 : decode cL_law 149 = .ok (.invokevirtual 46, 3) := by decide +kernel
theorem dL_law_152 : decode cL_law 152 = .ok (.aload_n 2, 1) := by decide +kernel
theorem dL_law_153 : decode cL_law 153 = .ok (.aload_n 0, 1) := by decide +kernel
theorem dL_law_154 : decode cL_law 154 = .ok (.iload 4, 2) := by decide +kernel
theorem dL_law_156 : decode cL_law 156 = .ok (.iconst 1, 1) := by decide +kernel
theorem dL_law_157 : decode cL_law 157 = .ok (.iadd, 1) := by decide +kernel
theorem dL_law_158 : decode cL_law 158 = .ok (.iaload, 1) := by decide +kernel
theorem dL_law_159 : decode cL_law 159 = .ok (.aload_n 0, 1) := by decide +kernel
theorem dL_law_160 : decode cL_law 160 = .ok (.iload 4, 2) := by decide +kernel
theorem dL_law_162 : decode cL_law 162 = .ok (.iconst 2, 1) := by decide +kernel
theorem dL_law_163 : decode cL_law 163 = .ok (.iadd, 1) := by decide +kernel
theorem dL_law_164 : decode cL_law 164 = .ok (.iaload, 1) := by decide +kernel
theorem dL_law_165 : decode cL_law 165 = .ok (.i2l, 1) := by decide +kernel
theorem dL_law_166 : decode cL_law 166 = .ok (.bipush 32, 2) := by decide +kernel
theorem dL_law_168 : decode cL_law 168 = .ok (.lshl, 1) := by decide +kernel
theorem dL_law_169 : decode cL_law 169 = .ok (.aload_n 0, 1) := by decide +kernel
theorem dL_law_170 : decode cL_law 170 = .ok (.iload 4, 2) := by decide +kernel
theorem dL_law_172 : decode cL_law 172 = .ok (.iconst 3, 1) := by decide +kernel
theorem dL_law_173 : decode cL_law 173 = .ok (.iadd, 1) := by decide +kernel
theorem dL_law_174 : decode cL_law 174 = .ok (.iaload, 1) := by decide +kernel
theorem dL_law_175 : decode cL_law 175 = .ok (.i2l, 1) := by decide +kernel
theorem dL_law_176 : decode cL_law 176 = .ok (.ldc2_w 44, 3) := by decide +kernel
theorem dL_law_179 : decode cL_law 179 = .ok (.land, 1) := by decide +kernel
theorem dL_law_180 : decode cL_law 180 = .ok (.lor, 1) := by decide +kernel
theorem dL_law_181 : decode cL_law 181 = .ok (.invokevirtual 50, 3) := by decide +kernel
theorem dL_law_184 : decode cL_law 184 = .ok (.if_icmp .eq 648, 3) := by decide +kernel
theorem dL_law_187 : decode cL_law 187 = .ok (.iconst 0, 1) := by decide +kernel
theorem dL_law_188 : decode cL_law 188 = .ok (.ireturn, 1) := by decide +kernel
theorem dL_law_189 : decode cL_law 189 = .ok (.aload_n 1, 1) := by decide +kernel
theorem dL_law_190 : decode cL_law 190 = .ok (.aload_n 0, 1) := by decide +kernel
theorem dL_law_191 : decode cL_law 191 = .ok (.iload 4, 2) := by decide +kernel
theorem dL_law_193 : decode cL_law 193 = .ok (.iconst 1, 1) := by decide +kernel
theorem dL_law_194 : decode cL_law 194 = .ok (.iadd, 1) := by decide +kernel
theorem dL_law_195 : decode cL_law 195 = .ok (.iaload, 1) := by decide +kernel
theorem dL_law_196 : decode cL_law 196 = .ok (.aload_n 0, 1) := by decide +kernel
theorem dL_law_197 : decode cL_law 197 = .ok (.iload 4, 2) := by decide +kernel
theorem dL_law_199 : decode cL_law 199 = .ok (.iconst 2, 1) := by decide +kernel
theorem dL_law_200 : decode cL_law 200 = .ok (.iadd, 1) := by decide +kernel
theorem dL_law_201 : decode cL_law 201 = .ok (.iaload, 1) := by decide +kernel
theorem dL_law_202 : decode cL_law 202 = .ok (.aload_n 0, 1) := by decide +kernel
theorem dL_law_203 : decode cL_law 203 = .ok (.iload 4, 2) := by decide +kernel
theorem dL_law_205 : decode cL_law 205 = .ok (.iconst 3, 1) := by decide +kernel
theorem dL_law_206 : decode cL_law 206 = .ok (.iadd, 1) := by decide +kernel
theorem dL_law_207 : decode cL_law 207 = .ok (.iaload, 1) := by decide +kernel
theorem dL_law_208 : decode cL_law 208 = .ok (.i2l, 1) := by decide +kernel
theorem dL_law_209 : decode cL_law 209 = .ok (.bipush 32, 2) := by decide +kernel
theorem dL_law_211 : decode cL_law 211 = .ok (.lshl, 1) := by decide +kernel
theorem dL_law_212 : decode cL_law 212 = .ok (.aload_n 0, 1) := by decide +kernel
theorem dL_law_213 : decode cL_law 213 = .ok (.iload 4, 2) := by decide +kernel
theorem dL_law_215 : decode cL_law 215 = .ok (.iconst 4, 1) := by decide +kernel
theorem dL_law_216 : decode cL_law 216 = .ok (.iadd, 1) := by decide +kernel
theorem dL_law_217 : decode cL_law 217 = .ok (.iaload, 1) := by decide +kernel
theorem dL_law_218 : decode cL_law 218 = .ok (.i2l, 1) := by decide +kernel
theorem dL_law_219 : decode cL_law 219 = .ok (.ldc2_w 44, 3) := by decide +kernel
theorem dL_law_222 : decode cL_law 222 = .ok (.land, 1) := by decide +kernel
theorem dL_law_223 : decode cL_law 223 = .ok (.lor, 1) := by decide +kernel
theorem dL_law_224 : decode cL_law 224 = .ok (.invokevirtual 51, 3) := by decide +kernel
theorem dL_law_227 : decode cL_law 227 = .ok (.aload_n 2, 1) := by decide +kernel
theorem dL_law_228 : decode cL_law 228 = .ok (.aload_n 0, 1) := by decide +kernel
theorem dL_law_229 : decode cL_law 229 = .ok (.iload 4, 2) := by decide +kernel
theorem dL_law_231 : decode cL_law 231 = .ok (.iconst 1, 1) := by decide +kernel
theorem dL_law_232 : decode cL_law 232 = .ok (.iadd, 1) := by decide +kernel
theorem dL_law_233 : decode cL_law 233 = .ok (.iaload, 1) := by decide +kernel
theorem dL_law_234 : decode cL_law 234 = .ok (.aload_n 0, 1) := by decide +kernel
theorem dL_law_235 : decode cL_law 235 = .ok (.iload 4, 2) := by decide +kernel
theorem dL_law_237 : decode cL_law 237 = .ok (.iconst 2, 1) := by decide +kernel
theorem dL_law_238 : decode cL_law 238 = .ok (.iadd, 1) := by decide +kernel
theorem dL_law_239 : decode cL_law 239 = .ok (.iaload, 1) := by decide +kernel
theorem dL_law_240 : decode cL_law 240 = .ok (.aload_n 0, 1) := by decide +kernel
theorem dL_law_241 : decode cL_law 241 = .ok (.iload 4, 2) := by decide +kernel
theorem dL_law_243 : decode cL_law 243 = .ok (.iconst 3, 1) := by decide +kernel
theorem dL_law_244 : decode cL_law 244 = .ok (.iadd, 1) := by decide +kernel
theorem dL_law_245 : decode cL_law 245 = .ok (.iaload, 1) := by decide +kernel
theorem dL_law_246 : decode cL_law 246 = .ok (.i2l, 1) := by decide +kernel
theorem dL_law_247 : decode cL_law 247 = .ok (.bipush 32, 2) := by decide +kernel
theorem dL_law_249 : decode cL_law 249 = .ok (.lshl, 1) := by decide +kernel
theorem dL_law_250 : decode cL_law 250 = .ok (.aload_n 0, 1) := by decide +kernel
theorem dL_law_251 : decode cL_law 251 = .ok (.iload 4, 2) := by decide +kernel
theorem dL_law_253 : decode cL_law 253 = .ok (.iconst 4, 1) := by decide +kernel
theorem dL_law_254 : decode cL_law 254 = .ok (.iadd, 1) := by decide +kernel
theorem dL_law_255 : decode cL_law 255 = .ok (.iaload, 1) := by decide +kernel
theorem dL_law_256 : decode cL_law 256 = .ok (.i2l, 1) := by decide +kernel
theorem dL_law_257 : decode cL_law 257 = .ok (.ldc2_w 44, 3) := by decide +kernel
theorem dL_law_260 : decode cL_law 260 = .ok (.land, 1) := by decide +kernel
theorem dL_law_261 : decode cL_law 261 = .ok (.lor, 1) := by decide +kernel
theorem dL_law_262 : decode cL_law 262 = .ok (.invokevirtual 55, 3) := by decide +kernel
theorem dL_law_265 : decode cL_law 265 = .ok (.if_icmp .eq 567, 3) := by decide +kernel
theorem dL_law_268 : decode cL_law 268 = .ok (.iconst 0, 1) := by decide +kernel
theorem dL_law_269 : decode cL_law 269 = .ok (.ireturn, 1) := by decide +kernel
theorem dL_law_270 : decode cL_law 270 = .ok (.aload_n 1, 1) := by decide +kernel
theorem dL_law_271 : decode cL_law 271 = .ok (.aload_n 0, 1) := by decide +kernel
theorem dL_law_272 : decode cL_law 272 = .ok (.iload 4, 2) := by decide +kernel
theorem dL_law_274 : decode cL_law 274 = .ok (.iconst 1, 1) := by decide +kernel
theorem dL_law_275 : decode cL_law 275 = .ok (.iadd, 1) := by decide +kernel
theorem dL_law_276 : decode cL_law 276 = .ok (.iaload, 1) := by decide +kernel
theorem dL_law_277 : decode cL_law 277 = .ok (.aload_n 0, 1) := by decide +kernel
theorem dL_law_278 : decode cL_law 278 = .ok (.iload 4, 2) := by decide +kernel
theorem dL_law_280 : decode cL_law 280 = .ok (.iconst 2, 1) := by decide +kernel
theorem dL_law_281 : decode cL_law 281 = .ok (.iadd, 1) := by decide +kernel
theorem dL_law_282 : decode cL_law 282 = .ok (.iaload, 1) := by decide +kernel
theorem dL_law_283 : decode cL_law 283 = .ok (.invokevirtual 56, 3) := by decide +kernel
theorem dL_law_286 : decode cL_law 286 = .ok (.aload_n 2, 1) := by decide +kernel
theorem dL_law_287 : decode cL_law 287 = .ok (.aload_n 0, 1) := by decide +kernel
theorem dL_law_288 : decode cL_law 288 = .ok (.iload 4, 2) := by decide +kernel
theorem dL_law_290 : decode cL_law 290 = .ok (.iconst 1, 1) := by decide +kernel
theorem dL_law_291 : decode cL_law 291 = .ok (.iadd, 1) := by decide +kernel
theorem dL_law_292 : decode cL_law 292 = .ok (.iaload, 1) := by decide +kernel
theorem dL_law_293 : decode cL_law 293 = .ok (.aload_n 0, 1) := by decide +kernel
theorem dL_law_294 : decode cL_law 294 = .ok (.iload 4, 2) := by decide +kernel
theorem dL_law_296 : decode cL_law 296 = .ok (.iconst 2, 1) := by decide +kernel
theorem dL_law_297 : decode cL_law 297 = .ok (.iadd, 1) := by decide +kernel
theorem dL_law_298 : decode cL_law 298 = .ok (.iaload, 1) := by decide +kernel
theorem dL_law_299 : decode cL_law 299 = .ok (.invokevirtual 60, 3) := by decide +kernel
theorem dL_law_302 : decode cL_law 302 = .ok (.if_icmp .eq 530, 3) := by decide +kernel
theorem dL_law_305 : decode cL_law 305 = .ok (.iconst 0, 1) := by decide +kernel
theorem dL_law_306 : decode cL_law 306 = .ok (.ireturn, 1) := by decide +kernel
theorem dL_law_307 : decode cL_law 307 = .ok (.aload_n 1, 1) := by decide +kernel
theorem dL_law_308 : decode cL_law 308 = .ok (.aload_n 0, 1) := by decide +kernel
theorem dL_law_309 : decode cL_law 309 = .ok (.iload 4, 2) := by decide +kernel
theorem dL_law_311 : decode cL_law 311 = .ok (.iconst 1, 1) := by decide +kernel
theorem dL_law_312 : decode cL_law 312 = .ok (.iadd, 1) := by decide +kernel
theorem dL_law_313 : decode cL_law 313 = .ok (.iaload, 1) := by decide +kernel
theorem dL_law_314 : decode cL_law 314 = .ok (.invokevirtual 61, 3) := by decide +kernel
theorem dL_law_317 : decode cL_law 317 = .ok (.aload_n 2, 1) := by decide +kernel
theorem dL_law_318 : decode cL_law 318 = .ok (.aload_n 0, 1) := by decide +kernel
theorem dL_law_319 : decode cL_law 319 = .ok (.iload 4, 2) := by decide +kernel
theorem dL_law_321 : decode cL_law 321 = .ok (.iconst 1, 1) := by decide +kernel
theorem dL_law_322 : decode cL_law 322 = .ok (.iadd, 1) := by decide +kernel
theorem dL_law_323 : decode cL_law 323 = .ok (.iaload, 1) := by decide +kernel
theorem dL_law_324 : decode cL_law 324 = .ok (.invokevirtual 65, 3) := by decide +kernel
theorem dL_law_327 : decode cL_law 327 = .ok (.if_icmp .eq 505, 3) := by decide +kernel
theorem dL_law_330 : decode cL_law 330 = .ok (.iconst 0, 1) := by decide +kernel
theorem dL_law_331 : decode cL_law 331 = .ok (.ireturn, 1) := by decide +kernel
theorem dL_law_332 : decode cL_law 332 = .ok (.aload_n 1, 1) := by decide +kernel
theorem dL_law_333 : decode cL_law 333 = .ok (.aload_n 0, 1) := by decide +kernel
theorem dL_law_334 : decode cL_law 334 = .ok (.iload 4, 2) := by decide +kernel
theorem dL_law_336 : decode cL_law 336 = .ok (.iconst 1, 1) := by decide +kernel
theorem dL_law_337 : decode cL_law 337 = .ok (.iadd, 1) := by decide +kernel
theorem dL_law_338 : decode cL_law 338 = .ok (.iaload, 1) := by decide +kernel
theorem dL_law_339 : decode cL_law 339 = .ok (.aload_n 0, 1) := by decide +kernel
theorem dL_law_340 : decode cL_law 340 = .ok (.iload 4, 2) := by decide +kernel
theorem dL_law_342 : decode cL_law 342 = .ok (.iconst 2, 1) := by decide +kernel
theorem dL_law_343 : decode cL_law 343 = .ok (.iadd, 1) := by decide +kernel
theorem dL_law_344 : decode cL_law 344 = .ok (.iaload, 1) := by decide +kernel
theorem dL_law_345 : decode cL_law 345 = .ok (.invokevirtual 66, 3) := by decide +kernel
theorem dL_law_348 : decode cL_law 348 = .ok (.aload_n 2, 1) := by decide +kernel
theorem dL_law_349 : decode cL_law 349 = .ok (.aload_n 0, 1) := by decide +kernel
theorem dL_law_350 : decode cL_law 350 = .ok (.iload 4, 2) := by decide +kernel
theorem dL_law_352 : decode cL_law 352 = .ok (.iconst 1, 1) := by decide +kernel
theorem dL_law_353 : decode cL_law 353 = .ok (.iadd, 1) := by decide +kernel
theorem dL_law_354 : decode cL_law 354 = .ok (.iaload, 1) := by decide +kernel
theorem dL_law_355 : decode cL_law 355 = .ok (.aload_n 0, 1) := by decide +kernel
theorem dL_law_356 : decode cL_law 356 = .ok (.iload 4, 2) := by decide +kernel
theorem dL_law_358 : decode cL_law 358 = .ok (.iconst 2, 1) := by decide +kernel
theorem dL_law_359 : decode cL_law 359 = .ok (.iadd, 1) := by decide +kernel
theorem dL_law_360 : decode cL_law 360 = .ok (.iaload, 1) := by decide +kernel
theorem dL_law_361 : decode cL_law 361 = .ok (.invokevirtual 69, 3) := by decide +kernel
theorem dL_law_364 : decode cL_law 364 = .ok (.lcmp, 1) := by decide +kernel
theorem dL_law_365 : decode cL_law 365 = .ok (.ifCond .eq 467, 3) := by decide +kernel
theorem dL_law_368 : decode cL_law 368 = .ok (.iconst 0, 1) := by decide +kernel
theorem dL_law_369 : decode cL_law 369 = .ok (.ireturn, 1) := by decide +kernel
theorem dL_law_370 : decode cL_law 370 = .ok (.aload_n 1, 1) := by decide +kernel
theorem dL_law_371 : decode cL_law 371 = .ok (.aload_n 0, 1) := by decide +kernel
theorem dL_law_372 : decode cL_law 372 = .ok (.iload 4, 2) := by decide +kernel
theorem dL_law_374 : decode cL_law 374 = .ok (.iconst 1, 1) := by decide +kernel
theorem dL_law_375 : decode cL_law 375 = .ok (.iadd, 1) := by decide +kernel
theorem dL_law_376 : decode cL_law 376 = .ok (.iaload, 1) := by decide +kernel
theorem dL_law_377 : decode cL_law 377 = .ok (.invokevirtual 70, 3) := by decide +kernel
theorem dL_law_380 : decode cL_law 380 = .ok (.aload_n 2, 1) := by decide +kernel
theorem dL_law_381 : decode cL_law 381 = .ok (.aload_n 0, 1) := by decide +kernel
theorem dL_law_382 : decode cL_law 382 = .ok (.iload 4, 2) := by decide +kernel
theorem dL_law_384 : decode cL_law 384 = .ok (.iconst 1, 1) := by decide +kernel
theorem dL_law_385 : decode cL_law 385 = .ok (.iadd, 1) := by decide +kernel
theorem dL_law_386 : decode cL_law 386 = .ok (.iaload, 1) := by decide +kernel
theorem dL_law_387 : decode cL_law 387 = .ok (.invokevirtual 74, 3) := by decide +kernel
theorem dL_law_390 : decode cL_law 390 = .ok (.if_icmp .eq 442, 3) := by decide +kernel
theorem dL_law_393 : decode cL_law 393 = .ok (.iconst 0, 1) := by decide +kernel
theorem dL_law_394 : decode cL_law 394 = .ok (.ireturn, 1) := by decide +kernel
theorem dL_law_395 : decode cL_law 395 = .ok (.aload_n 1, 1) := by decide +kernel
theorem dL_law_396 : decode cL_law 396 = .ok (.aload_n 3, 1) := by decide +kernel
theorem dL_law_397 : decode cL_law 397 = .ok (.invokestatic 75, 3) := by decide +kernel
theorem dL_law_400 : decode cL_law 400 = .ok (.istore 5, 2) := by decide +kernel
theorem dL_law_402 : decode cL_law 402 = .ok (.aload_n 2, 1) := by decide +kernel
theorem dL_law_403 : decode cL_law 403 = .ok (.invokevirtual 80, 3) := by decide +kernel
theorem dL_law_406 : decode cL_law 406 = .ok (.istore 6, 2) := by decide +kernel
theorem dL_law_408 : decode cL_law 408 = .ok (.aload_n 2, 1) := by decide +kernel
theorem dL_law_409 : decode cL_law 409 = .ok (.invokevirtual 81, 3) := by decide +kernel
theorem dL_law_412 : decode cL_law 412 = .ok (.iload 5, 2) := by decide +kernel
theorem dL_law_414 : decode cL_law 414 = .ok (.if_icmp .eq 5, 3) := by decide +kernel
theorem dL_law_417 : decode cL_law 417 = .ok (.iconst 0, 1) := by decide +kernel
theorem dL_law_418 : decode cL_law 418 = .ok (.ireturn, 1) := by decide +kernel
theorem dL_law_419 : decode cL_law 419 = .ok (.iload 5, 2) := by decide +kernel
theorem dL_law_421 : decode cL_law 421 = .ok (.ifCond .ne 15, 3) := by decide +kernel
theorem dL_law_424 : decode cL_law 424 = .ok (.aload_n 3, 1) := by decide +kernel
theorem dL_law_425 : decode cL_law 425 = .ok (.iconst 0, 1) := by decide +kernel
theorem dL_law_426 : decode cL_law 426 = .ok (.laload, 1) := by decide +kernel
theorem dL_law_427 : decode cL_law 427 = .ok (.iload 6, 2) := by decide +kernel
theorem dL_law_429 : decode cL_law 429 = .ok (.i2l, 1) := by decide +kernel
theorem dL_law_430 : decode cL_law 430 = .ok (.lcmp, 1) := by decide +kernel
theorem dL_law_431 : decode cL_law 431 = .ok (.ifCond .eq 5, 3) := by decide +kernel
theorem dL_law_434 : decode cL_law 434 = .ok (.iconst 0, 1) := by decide +kernel
theorem dL_law_435 : decode cL_law 435 = .ok (.ireturn, 1) := by decide +kernel
theorem dL_law_436 : decode cL_law 436 = .ok (.goto 396, 3) := by decide +kernel
theorem dL_law_439 : decode cL_law 439 = .ok (.aload_n 1, 1) := by decide +kernel
theorem dL_law_440 : decode cL_law 440 = .ok (.invokevirtual 84, 3) := by decide +kernel
theorem dL_law_443 : decode cL_law 443 = .ok (.aload_n 2, 1) := by decide +kernel
theorem dL_law_444 : decode cL_law 444 = .ok (.invokevirtual 87, 3) := by decide +kernel
theorem dL_law_447 : decode cL_law 447 = .ok (.if_icmp .eq 385, 3) := by decide +kernel
theorem dL_law_450 : decode cL_law 450 = .ok (.iconst 0, 1) := by decide +kernel
theorem dL_law_451 : decode cL_law 451 = .ok (.ireturn, 1) := by decide +kernel
theorem dL_law_452 : decode cL_law 452 = .ok (.aload_n 1, 1) := by decide +kernel
theorem dL_law_453 : decode cL_law 453 = .ok (.aload_n 0, 1) := by decide +kernel
theorem dL_law_454 : decode cL_law 454 = .ok (.iload 4, 2) := by decide +kernel
theorem dL_law_456 : decode cL_law 456 = .ok (.iconst 1, 1) := by decide +kernel
theorem dL_law_457 : decode cL_law 457 = .ok (.iadd, 1) := by decide +kernel
theorem dL_law_458 : decode cL_law 458 = .ok (.iaload, 1) := by decide +kernel
theorem dL_law_459 : decode cL_law 459 = .ok (.aload_n 0, 1) := by decide +kernel
theorem dL_law_460 : decode cL_law 460 = .ok (.iload 4, 2) := by decide +kernel
theorem dL_law_462 : decode cL_law 462 = .ok (.iconst 2, 1) := by decide +kernel
theorem dL_law_463 : decode cL_law 463 = .ok (.iadd, 1) := by decide +kernel
theorem dL_law_464 : decode cL_law 464 = .ok (.iaload, 1) := by decide +kernel
theorem dL_law_465 : decode cL_law 465 = .ok (.aload_n 3, 1) := by decide +kernel
theorem dL_law_466 : decode cL_law 466 = .ok (.invokestatic 88, 3) := by decide +kernel
theorem dL_law_469 : decode cL_law 469 = .ok (.istore 5, 2) := by decide +kernel
theorem dL_law_471 : decode cL_law 471 = .ok (.aload_n 2, 1) := by decide +kernel
theorem dL_law_472 : decode cL_law 472 = .ok (.aload_n 0, 1) := by decide +kernel
theorem dL_law_473 : decode cL_law 473 = .ok (.iload 4, 2) := by decide +kernel
theorem dL_law_475 : decode cL_law 475 = .ok (.iconst 1, 1) := by decide +kernel
theorem dL_law_476 : decode cL_law 476 = .ok (.iadd, 1) := by decide +kernel
theorem dL_law_477 : decode cL_law 477 = .ok (.iaload, 1) := by decide +kernel
theorem dL_law_478 : decode cL_law 478 = .ok (.aload_n 0, 1) := by decide +kernel
theorem dL_law_479 : decode cL_law 479 = .ok (.iload 4, 2) := by decide +kernel
theorem dL_law_481 : decode cL_law 481 = .ok (.iconst 2, 1) := by decide +kernel
theorem dL_law_482 : decode cL_law 482 = .ok (.iadd, 1) := by decide +kernel
theorem dL_law_483 : decode cL_law 483 = .ok (.iaload, 1) := by decide +kernel
theorem dL_law_484 : decode cL_law 484 = .ok (.invokevirtual 91, 3) := by decide +kernel
theorem dL_law_487 : decode cL_law 487 = .ok (.istore 6, 2) := by decide +kernel
theorem dL_law_489 : decode cL_law 489 = .ok (.aload_n 2, 1) := by decide +kernel
theorem dL_law_490 : decode cL_law 490 = .ok (.invokevirtual 81, 3) := by decide +kernel
theorem dL_law_493 : decode cL_law 493 = .ok (.iload 5, 2) := by decide +kernel
theorem dL_law_495 : decode cL_law 495 = .ok (.if_icmp .eq 5, 3) := by decide +kernel
theorem dL_law_498 : decode cL_law 498 = .ok (.iconst 0, 1) := by decide +kernel
theorem dL_law_499 : decode cL_law 499 = .ok (.ireturn, 1) := by decide +kernel
theorem dL_law_500 : decode cL_law 500 = .ok (.iload 5, 2) := by decide +kernel
theorem dL_law_502 : decode cL_law 502 = .ok (.ifCond .ne 15, 3) := by decide +kernel
theorem dL_law_505 : decode cL_law 505 = .ok (.aload_n 3, 1) := by decide +kernel
theorem dL_law_506 : decode cL_law 506 = .ok (.iconst 0, 1) := by decide +kernel
theorem dL_law_507 : decode cL_law 507 = .ok (.laload, 1) := by decide +kernel
theorem dL_law_508 : decode cL_law 508 = .ok (.iload 6, 2) := by decide +kernel
theorem dL_law_510 : decode cL_law 510 = .ok (.i2l, 1) := by decide +kernel
theorem dL_law_511 : decode cL_law 511 = .ok (.lcmp, 1) := by decide +kernel
theorem dL_law_512 : decode cL_law 512 = .ok (.ifCond .eq 5, 3) := by decide +kernel
theorem dL_law_515 : decode cL_law 515 = .ok (.iconst 0, 1) := by decide +kernel
theorem dL_law_516 : decode cL_law 516 = .ok (.ireturn, 1) := by decide +kernel
theorem dL_law_517 : decode cL_law 517 = .ok (.goto 315, 3) := by decide +kernel
theorem dL_law_520 : decode cL_law 520 = .ok (.aload_n 1, 1) := by decide +kernel
theorem dL_law_521 : decode cL_law 521 = .ok (.aload_n 0, 1) := by decide +kernel
theorem dL_law_522 : decode cL_law 522 = .ok (.iload 4, 2) := by decide +kernel
theorem dL_law_524 : decode cL_law 524 = .ok (.iconst 1, 1) := by decide +kernel
theorem dL_law_525 : decode cL_law 525 = .ok (.iadd, 1) := by decide +kernel
theorem dL_law_526 : decode cL_law 526 = .ok (.iaload, 1) := by decide +kernel
theorem dL_law_527 : decode cL_law 527 = .ok (.aload_n 0, 1) := by decide +kernel
theorem dL_law_528 : decode cL_law 528 = .ok (.iload 4, 2) := by decide +kernel
theorem dL_law_530 : decode cL_law 530 = .ok (.iconst 2, 1) := by decide +kernel
theorem dL_law_531 : decode cL_law 531 = .ok (.iadd, 1) := by decide +kernel
theorem dL_law_532 : decode cL_law 532 = .ok (.iaload, 1) := by decide +kernel
theorem dL_law_533 : decode cL_law 533 = .ok (.aload_n 3, 1) := by decide +kernel
theorem dL_law_534 : decode cL_law 534 = .ok (.invokestatic 92, 3) := by decide +kernel
theorem dL_law_537 : decode cL_law 537 = .ok (.istore 5, 2) := by decide +kernel
theorem dL_law_539 : decode cL_law 539 = .ok (.aload_n 2, 1) := by decide +kernel
theorem dL_law_540 : decode cL_law 540 = .ok (.aload_n 0, 1) := by decide +kernel
theorem dL_law_541 : decode cL_law 541 = .ok (.iload 4, 2) := by decide +kernel
theorem dL_law_543 : decode cL_law 543 = .ok (.iconst 1, 1) := by decide +kernel
theorem dL_law_544 : decode cL_law 544 = .ok (.iadd, 1) := by decide +kernel
theorem dL_law_545 : decode cL_law 545 = .ok (.iaload, 1) := by decide +kernel
theorem dL_law_546 : decode cL_law 546 = .ok (.aload_n 0, 1) := by decide +kernel
theorem dL_law_547 : decode cL_law 547 = .ok (.iload 4, 2) := by decide +kernel
theorem dL_law_549 : decode cL_law 549 = .ok (.iconst 2, 1) := by decide +kernel
theorem dL_law_550 : decode cL_law 550 = .ok (.iadd, 1) := by decide +kernel
theorem dL_law_551 : decode cL_law 551 = .ok (.iaload, 1) := by decide +kernel
theorem dL_law_552 : decode cL_law 552 = .ok (.invokevirtual 94, 3) := by decide +kernel
theorem dL_law_555 : decode cL_law 555 = .ok (.istore 6, 2) := by decide +kernel
theorem dL_law_557 : decode cL_law 557 = .ok (.aload_n 2, 1) := by decide +kernel
theorem dL_law_558 : decode cL_law 558 = .ok (.invokevirtual 81, 3) := by decide +kernel
theorem dL_law_561 : decode cL_law 561 = .ok (.iload 5, 2) := by decide +kernel
theorem dL_law_563 : decode cL_law 563 = .ok (.if_icmp .eq 5, 3) := by decide +kernel
theorem dL_law_566 : decode cL_law 566 = .ok (.iconst 0, 1) := by decide +kernel
theorem dL_law_567 : decode cL_law 567 = .ok (.ireturn, 1) := by decide +kernel
theorem dL_law_568 : decode cL_law 568 = .ok (.iload 5, 2) := by decide +kernel
theorem dL_law_570 : decode cL_law 570 = .ok (.ifCond .ne 15, 3) := by decide +kernel
theorem dL_law_573 : decode cL_law 573 = .ok (.aload_n 3, 1) := by decide +kernel
theorem dL_law_574 : decode cL_law 574 = .ok (.iconst 0, 1) := by decide +kernel
theorem dL_law_575 : decode cL_law 575 = .ok (.laload, 1) := by decide +kernel
theorem dL_law_576 : decode cL_law 576 = .ok (.iload 6, 2) := by decide +kernel
theorem dL_law_578 : decode cL_law 578 = .ok (.i2l, 1) := by decide +kernel
theorem dL_law_579 : decode cL_law 579 = .ok (.lcmp, 1) := by decide +kernel
theorem dL_law_580 : decode cL_law 580 = .ok (.ifCond .eq 5, 3) := by decide +kernel
theorem dL_law_583 : decode cL_law 583 = .ok (.iconst 0, 1) := by decide +kernel
theorem dL_law_584 : decode cL_law 584 = .ok (.ireturn, 1) := by decide +kernel
theorem dL_law_585 : decode cL_law 585 = .ok (.goto 247, 3) := by decide +kernel
theorem dL_law_588 : decode cL_law 588 = .ok (.aload_n 1, 1) := by decide +kernel
theorem dL_law_589 : decode cL_law 589 = .ok (.aload_n 0, 1) := by decide +kernel
theorem dL_law_590 : decode cL_law 590 = .ok (.iload 4, 2) := by decide +kernel
theorem dL_law_592 : decode cL_law 592 = .ok (.iconst 1, 1) := by decide +kernel
theorem dL_law_593 : decode cL_law 593 = .ok (.iadd, 1) := by decide +kernel
theorem dL_law_594 : decode cL_law 594 = .ok (.iaload, 1) := by decide +kernel
theorem dL_law_595 : decode cL_law 595 = .ok (.aload_n 0, 1) := by decide +kernel
theorem dL_law_596 : decode cL_law 596 = .ok (.iload 4, 2) := by decide +kernel
theorem dL_law_598 : decode cL_law 598 = .ok (.iconst 2, 1) := by decide +kernel
theorem dL_law_599 : decode cL_law 599 = .ok (.iadd, 1) := by decide +kernel
theorem dL_law_600 : decode cL_law 600 = .ok (.iaload, 1) := by decide +kernel
theorem dL_law_601 : decode cL_law 601 = .ok (.aload_n 3, 1) := by decide +kernel
theorem dL_law_602 : decode cL_law 602 = .ok (.invokestatic 95, 3) := by decide +kernel
theorem dL_law_605 : decode cL_law 605 = .ok (.istore 5, 2) := by decide +kernel
theorem dL_law_607 : decode cL_law 607 = .ok (.aload_n 2, 1) := by decide +kernel
theorem dL_law_608 : decode cL_law 608 = .ok (.aload_n 0, 1) := by decide +kernel
theorem dL_law_609 : decode cL_law 609 = .ok (.iload 4, 2) := by decide +kernel
theorem dL_law_611 : decode cL_law 611 = .ok (.iconst 1, 1) := by decide +kernel
theorem dL_law_612 : decode cL_law 612 = .ok (.iadd, 1) := by decide +kernel
theorem dL_law_613 : decode cL_law 613 = .ok (.iaload, 1) := by decide +kernel
theorem dL_law_614 : decode cL_law 614 = .ok (.aload_n 0, 1) := by decide +kernel
theorem dL_law_615 : decode cL_law 615 = .ok (.iload 4, 2) := by decide +kernel
theorem dL_law_617 : decode cL_law 617 = .ok (.iconst 2, 1) := by decide +kernel
theorem dL_law_618 : decode cL_law 618 = .ok (.iadd, 1) := by decide +kernel
theorem dL_law_619 : decode cL_law 619 = .ok (.iaload, 1) := by decide +kernel
theorem dL_law_620 : decode cL_law 620 = .ok (.invokevirtual 97, 3) := by decide +kernel
theorem dL_law_623 : decode cL_law 623 = .ok (.istore 6, 2) := by decide +kernel
theorem dL_law_625 : decode cL_law 625 = .ok (.aload_n 2, 1) := by decide +kernel
theorem dL_law_626 : decode cL_law 626 = .ok (.invokevirtual 81, 3) := by decide +kernel
theorem dL_law_629 : decode cL_law 629 = .ok (.iload 5, 2) := by decide +kernel
theorem dL_law_631 : decode cL_law 631 = .ok (.if_icmp .eq 5, 3) := by decide +kernel
theorem dL_law_634 : decode cL_law 634 = .ok (.iconst 0, 1) := by decide +kernel
theorem dL_law_635 : decode cL_law 635 = .ok (.ireturn, 1) := by decide +kernel
theorem dL_law_636 : decode cL_law 636 = .ok (.iload 5, 2) := by decide +kernel
theorem dL_law_638 : decode cL_law 638 = .ok (.ifCond .ne 15, 3) := by decide +kernel
theorem dL_law_641 : decode cL_law 641 = .ok (.aload_n 3, 1) := by decide +kernel
theorem dL_law_642 : decode cL_law 642 = .ok (.iconst 0, 1) := by decide +kernel
theorem dL_law_643 : decode cL_law 643 = .ok (.laload, 1) := by decide +kernel
theorem dL_law_644 : decode cL_law 644 = .ok (.iload 6, 2) := by decide +kernel
theorem dL_law_646 : decode cL_law 646 = .ok (.i2l, 1) := by decide +kernel
theorem dL_law_647 : decode cL_law 647 = .ok (.lcmp, 1) := by decide +kernel
theorem dL_law_648 : decode cL_law 648 = .ok (.ifCond .eq 5, 3) := by decide +kernel
theorem dL_law_651 : decode cL_law 651 = .ok (.iconst 0, 1) := by decide +kernel
theorem dL_law_652 : decode cL_law 652 = .ok (.ireturn, 1) := by decide +kernel
theorem dL_law_653 : decode cL_law 653 = .ok (.goto 179, 3) := by decide +kernel
theorem dL_law_656 : decode cL_law 656 = .ok (.aload_n 1, 1) := by decide +kernel
theorem dL_law_657 : decode cL_law 657 = .ok (.aload_n 0, 1) := by decide +kernel
theorem dL_law_658 : decode cL_law 658 = .ok (.iload 4, 2) := by decide +kernel
theorem dL_law_660 : decode cL_law 660 = .ok (.iconst 1, 1) := by decide +kernel
theorem dL_law_661 : decode cL_law 661 = .ok (.iadd, 1) := by decide +kernel
theorem dL_law_662 : decode cL_law 662 = .ok (.iaload, 1) := by decide +kernel
theorem dL_law_663 : decode cL_law 663 = .ok (.aload_n 0, 1) := by decide +kernel
theorem dL_law_664 : decode cL_law 664 = .ok (.iload 4, 2) := by decide +kernel
theorem dL_law_666 : decode cL_law 666 = .ok (.iconst 2, 1) := by decide +kernel
theorem dL_law_667 : decode cL_law 667 = .ok (.iadd, 1) := by decide +kernel
theorem dL_law_668 : decode cL_law 668 = .ok (.iaload, 1) := by decide +kernel
theorem dL_law_669 : decode cL_law 669 = .ok (.aload_n 3, 1) := by decide +kernel
theorem dL_law_670 : decode cL_law 670 = .ok (.invokestatic 98, 3) := by decide +kernel
theorem dL_law_673 : decode cL_law 673 = .ok (.istore 5, 2) := by decide +kernel
theorem dL_law_675 : decode cL_law 675 = .ok (.aload_n 2, 1) := by decide +kernel
theorem dL_law_676 : decode cL_law 676 = .ok (.aload_n 0, 1) := by decide +kernel
theorem dL_law_677 : decode cL_law 677 = .ok (.iload 4, 2) := by decide +kernel
theorem dL_law_679 : decode cL_law 679 = .ok (.iconst 1, 1) := by decide +kernel
theorem dL_law_680 : decode cL_law 680 = .ok (.iadd, 1) := by decide +kernel
theorem dL_law_681 : decode cL_law 681 = .ok (.iaload, 1) := by decide +kernel
theorem dL_law_682 : decode cL_law 682 = .ok (.aload_n 0, 1) := by decide +kernel
theorem dL_law_683 : decode cL_law 683 = .ok (.iload 4, 2) := by decide +kernel
theorem dL_law_685 : decode cL_law 685 = .ok (.iconst 2, 1) := by decide +kernel
theorem dL_law_686 : decode cL_law 686 = .ok (.iadd, 1) := by decide +kernel
theorem dL_law_687 : decode cL_law 687 = .ok (.iaload, 1) := by decide +kernel
theorem dL_law_688 : decode cL_law 688 = .ok (.invokevirtual 100, 3) := by decide +kernel
theorem dL_law_691 : decode cL_law 691 = .ok (.lstore 6, 2) := by decide +kernel
theorem dL_law_693 : decode cL_law 693 = .ok (.aload_n 2, 1) := by decide +kernel
theorem dL_law_694 : decode cL_law 694 = .ok (.invokevirtual 81, 3) := by decide +kernel
theorem dL_law_697 : decode cL_law 697 = .ok (.iload 5, 2) := by decide +kernel
theorem dL_law_699 : decode cL_law 699 = .ok (.if_icmp .eq 5, 3) := by decide +kernel
theorem dL_law_702 : decode cL_law 702 = .ok (.iconst 0, 1) := by decide +kernel
theorem dL_law_703 : decode cL_law 703 = .ok (.ireturn, 1) := by decide +kernel
theorem dL_law_704 : decode cL_law 704 = .ok (.iload 5, 2) := by decide +kernel
theorem dL_law_706 : decode cL_law 706 = .ok (.ifCond .ne 14, 3) := by decide +kernel
theorem dL_law_709 : decode cL_law 709 = .ok (.aload_n 3, 1) := by decide +kernel
theorem dL_law_710 : decode cL_law 710 = .ok (.iconst 0, 1) := by decide +kernel
theorem dL_law_711 : decode cL_law 711 = .ok (.laload, 1) := by decide +kernel
theorem dL_law_712 : decode cL_law 712 = .ok (.lload 6, 2) := by decide +kernel
theorem dL_law_714 : decode cL_law 714 = .ok (.lcmp, 1) := by decide +kernel
theorem dL_law_715 : decode cL_law 715 = .ok (.ifCond .eq 5, 3) := by decide +kernel
theorem dL_law_718 : decode cL_law 718 = .ok (.iconst 0, 1) := by decide +kernel
theorem dL_law_719 : decode cL_law 719 = .ok (.ireturn, 1) := by decide +kernel
theorem dL_law_720 : decode cL_law 720 = .ok (.goto 112, 3) := by decide +kernel
theorem dL_law_723 : decode cL_law 723 = .ok (.aload_n 1, 1) := by decide +kernel
theorem dL_law_724 : decode cL_law 724 = .ok (.aload_n 3, 1) := by decide +kernel
theorem dL_law_725 : decode cL_law 725 = .ok (.invokestatic 101, 3) := by decide +kernel
theorem dL_law_728 : decode cL_law 728 = .ok (.istore 5, 2) := by decide +kernel
theorem dL_law_730 : decode cL_law 730 = .ok (.aload_n 2, 1) := by decide +kernel
theorem dL_law_731 : decode cL_law 731 = .ok (.invokevirtual 103, 3) := by decide +kernel
theorem dL_law_734 : decode cL_law 734 = .ok (.istore 6, 2) := by decide +kernel
theorem dL_law_736 : decode cL_law 736 = .ok (.aload_n 2, 1) := by decide +kernel
theorem dL_law_737 : decode cL_law 737 = .ok (.invokevirtual 81, 3) := by decide +kernel
theorem dL_law_740 : decode cL_law 740 = .ok (.iload 5, 2) := by decide +kernel
theorem dL_law_742 : decode cL_law 742 = .ok (.if_icmp .eq 5, 3) := by decide +kernel
theorem dL_law_745 : decode cL_law 745 = .ok (.iconst 0, 1) := by decide +kernel
theorem dL_law_746 : decode cL_law 746 = .ok (.ireturn, 1) := by decide +kernel
theorem dL_law_747 : decode cL_law 747 = .ok (.iload 5, 2) := by decide +kernel
theorem dL_law_749 : decode cL_law 749 = .ok (.ifCond .ne 15, 3) := by decide +kernel
theorem dL_law_752 : decode cL_law 752 = .ok (.aload_n 3, 1) := by decide +kernel
theorem dL_law_753 : decode cL_law 753 = .ok (.iconst 0, 1) := by decide +kernel
theorem dL_law_754 : decode cL_law 754 = .ok (.laload, 1) := by decide +kernel
theorem dL_law_755 : decode cL_law 755 = .ok (.iload 6, 2) := by decide +kernel
theorem dL_law_757 : decode cL_law 757 = .ok (.i2l, 1) := by decide +kernel
theorem dL_law_758 : decode cL_law 758 = .ok (.lcmp, 1) := by decide +kernel
theorem dL_law_759 : decode cL_law 759 = .ok (.ifCond .eq 5, 3) := by decide +kernel
theorem dL_law_762 : decode cL_law 762 = .ok (.iconst 0, 1) := by decide +kernel
theorem dL_law_763 : decode cL_law 763 = .ok (.ireturn, 1) := by decide +kernel
theorem dL_law_764 : decode cL_law 764 = .ok (.goto 68, 3) := by decide +kernel
theorem dL_law_767 : decode cL_law 767 = .ok (.aload_n 1, 1) := by decide +kernel
theorem dL_law_768 : decode cL_law 768 = .ok (.aload_n 0, 1) := by decide +kernel
theorem dL_law_769 : decode cL_law 769 = .ok (.iload 4, 2) := by decide +kernel
theorem dL_law_771 : decode cL_law 771 = .ok (.iconst 1, 1) := by decide +kernel
theorem dL_law_772 : decode cL_law 772 = .ok (.iadd, 1) := by decide +kernel
theorem dL_law_773 : decode cL_law 773 = .ok (.iaload, 1) := by decide +kernel
theorem dL_law_774 : decode cL_law 774 = .ok (.invokevirtual 104, 3) := by decide +kernel
theorem dL_law_777 : decode cL_law 777 = .ok (.aload_n 2, 1) := by decide +kernel
theorem dL_law_778 : decode cL_law 778 = .ok (.aload_n 0, 1) := by decide +kernel
theorem dL_law_779 : decode cL_law 779 = .ok (.iload 4, 2) := by decide +kernel
theorem dL_law_781 : decode cL_law 781 = .ok (.iconst 1, 1) := by decide +kernel
theorem dL_law_782 : decode cL_law 782 = .ok (.iadd, 1) := by decide +kernel
theorem dL_law_783 : decode cL_law 783 = .ok (.iaload, 1) := by decide +kernel
theorem dL_law_784 : decode cL_law 784 = .ok (.invokevirtual 108, 3) := by decide +kernel
theorem dL_law_787 : decode cL_law 787 = .ok (.lcmp, 1) := by decide +kernel
theorem dL_law_788 : decode cL_law 788 = .ok (.ifCond .eq 44, 3) := by decide +kernel
theorem dL_law_791 : decode cL_law 791 = .ok (.iconst 0, 1) := by decide +kernel
theorem dL_law_792 : decode cL_law 792 = .ok (.ireturn, 1) := by decide +kernel
theorem dL_law_793 : decode cL_law 793 = .ok (.aload_n 1, 1) := by decide +kernel
theorem dL_law_794 : decode cL_law 794 = .ok (.invokevirtual 109, 3) := by decide +kernel
theorem dL_law_797 : decode cL_law 797 = .ok (.aload_n 2, 1) := by decide +kernel
theorem dL_law_798 : decode cL_law 798 = .ok (.invokevirtual 113, 3) := by decide +kernel
theorem dL_law_801 : decode cL_law 801 = .ok (.if_icmp .eq 31, 3) := by decide +kernel
theorem dL_law_804 : decode cL_law 804 = .ok (.iconst 0, 1) := by decide +kernel
theorem dL_law_805 : decode cL_law 805 = .ok (.ireturn, 1) := by decide +kernel
theorem dL_law_806 : decode cL_law 806 = .ok (.aload_n 1, 1) := by decide +kernel
theorem dL_law_807 : decode cL_law 807 = .ok (.invokevirtual 114, 3) := by decide +kernel
theorem dL_law_810 : decode cL_law 810 = .ok (.aload_n 2, 1) := by decide +kernel
theorem dL_law_811 : decode cL_law 811 = .ok (.invokevirtual 117, 3) := by decide +kernel
theorem dL_law_814 : decode cL_law 814 = .ok (.if_icmp .eq 18, 3) := by decide +kernel
theorem dL_law_817 : decode cL_law 817 = .ok (.iconst 0, 1) := by decide +kernel
theorem dL_law_818 : decode cL_law 818 = .ok (.ireturn, 1) := by decide +kernel
theorem dL_law_819 : decode cL_law 819 = .ok (.aload_n 1, 1) := by decide +kernel
theorem dL_law_820 : decode cL_law 820 = .ok (.invokevirtual 118, 3) := by decide +kernel
theorem dL_law_823 : decode cL_law 823 = .ok (.aload_n 2, 1) := by decide +kernel
theorem dL_law_824 : decode cL_law 824 = .ok (.invokevirtual 121, 3) := by decide +kernel
theorem dL_law_827 : decode cL_law 827 = .ok (.if_icmp .eq 5, 3) := by decide +kernel
theorem dL_law_830 : decode cL_law 830 = .ok (.iconst 0, 1) := by decide +kernel
theorem dL_law_831 : decode cL_law 831 = .ok (.ireturn, 1) := by decide +kernel
theorem dL_law_832 : decode cL_law 832 = .ok (.iinc 4 5, 3) := by decide +kernel
theorem dL_law_835 : decode cL_law 835 = .ok (.goto (-812), 3) := by decide +kernel
theorem dL_law_838 : decode cL_law 838 = .ok (.iconst 1, 1) := by decide +kernel
theorem dL_law_839 : decode cL_law 839 = .ok (.ireturn, 1) := by decide +kernel
