theorem dX0_init_0 : decode cX0_init 0 = .ok (.aload_n 0, 1) := by decide +kernel
theorem dX0_init_1 : decode cX0_init 1 = .ok (.invokespecial 3, 3) := by decide +kernel
theorem dX0_init_4 : decode cX0_init 4 = .ok (.aload_n 0, 1) := by decide +kernel
theorem dX0_init_5 : decode cX0_init 5 = .ok (.iconst (-1), 1) := by decide +kernel
theorem dX0_init_6 : decode cX0_init 6 = .ok (.putfield 9, 3) := by decide +kernel
theorem dX0_init_9 : decode cX0_init 9 = .ok (.aload_n 0, 1) := by decide +kernel
theorem dX0_init_10 : decode cX0_init 10 = .ok (.iconst (-1), 1) := by decide +kernel
theorem dX0_init_11 : decode cX0_init 11 = .ok (.putfield 15, 3) := by decide +kernel
theorem dX0_init_14 : decode cX0_init 14 = .ok (.aload_n 0, 1) := by decide +kernel
theorem dX0_init_15 : decode cX0_init 15 = .ok (.bipush 40, 2) := by decide +kernel
theorem dX0_init_17 : decode cX0_init 17 = .ok (.newarray .long, 2) := by decide +kernel
theorem dX0_init_19 : decode cX0_init 19 = .ok (.putfield 18, 3) := by decide +kernel
theorem dX0_init_22 : decode cX0_init 22 = .ok (.aload_n 0, 1) := by decide +kernel
theorem dX0_init_23 : decode cX0_init 23 = .ok (.bipush 40, 2) := by decide +kernel
theorem dX0_init_25 : decode cX0_init 25 = .ok (.newarray .double, 2) := by decide +kernel
theorem dX0_init_27 : decode cX0_init 27 = .ok (.putfield 22, 3) := by decide +kernel
theorem dX0_init_30 : decode cX0_init 30 = .ok (.return_, 1) := by decide +kernel
theorem dX0_isNone_0 : decode cX0_isNone 0 = .ok (.aload_n 0, 1) := by decide +kernel
theorem dX0_isNone_1 : decode cX0_isNone 1 = .ok (.getfield 9, 3) := by decide +kernel
theorem dX0_isNone_4 : decode cX0_isNone 4 = .ok (.iconst (-1), 1) := by decide +kernel
theorem dX0_isNone_5 : decode cX0_isNone 5 = .ok (.if_icmp .ne 7, 3) := by decide +kernel
theorem dX0_isNone_8 : decode cX0_isNone 8 = .ok (.iconst 1, 1) := by decide +kernel
theorem dX0_isNone_9 : decode cX0_isNone 9 = .ok (.goto 4, 3) := by decide +kernel
theorem dX0_isNone_12 : decode cX0_isNone 12 = .ok (.iconst 0, 1) := by decide +kernel
theorem dX0_isNone_13 : decode cX0_isNone 13 = .ok (.ireturn, 1) := by decide +kernel
theorem dX0_isGone_0 : decode cX0_isGone 0 = .ok (.aload_n 0, 1) := by decide +kernel
theorem dX0_isGone_1 : decode cX0_isGone 1 = .ok (.getfield 15, 3) := by decide +kernel
theorem dX0_isGone_4 : decode cX0_isGone 4 = .ok (.iconst (-1), 1) := by decide +kernel
theorem dX0_isGone_5 : decode cX0_isGone 5 = .ok (.if_icmp .ne 7, 3) := by decide +kernel
theorem dX0_isGone_8 : decode cX0_isGone 8 = .ok (.iconst 1, 1) := by decide +kernel
theorem dX0_isGone_9 : decode cX0_isGone 9 = .ok (.goto 4, 3) := by decide +kernel
theorem dX0_isGone_12 : decode cX0_isGone 12 = .ok (.iconst 0, 1) := by decide +kernel
theorem dX0_isGone_13 : decode cX0_isGone 13 = .ok (.ireturn, 1) := by decide +kernel
theorem dX0_isShelf_0 : decode cX0_isShelf 0 = .ok (.aload_n 0, 1) := by decide +kernel
theorem dX0_isShelf_1 : decode cX0_isShelf 1 = .ok (.getfield 9, 3) := by decide +kernel
theorem dX0_isShelf_4 : decode cX0_isShelf 4 = .ok (.bipush 7, 2) := by decide +kernel
theorem dX0_isShelf_6 : decode cX0_isShelf 6 = .ok (.if_icmp .lt 7, 3) := by decide +kernel
theorem dX0_isShelf_9 : decode cX0_isShelf 9 = .ok (.iconst 1, 1) := by decide +kernel
theorem dX0_isShelf_10 : decode cX0_isShelf 10 = .ok (.goto 4, 3) := by decide +kernel
theorem dX0_isShelf_13 : decode cX0_isShelf 13 = .ok (.iconst 0, 1) := by decide +kernel
theorem dX0_isShelf_14 : decode cX0_isShelf 14 = .ok (.ireturn, 1) := by decide +kernel
theorem dX0_isOfReals_0 : decode cX0_isOfReals 0 = .ok (.aload_n 0, 1) := by decide +kernel
theorem dX0_isOfReals_1 : decode cX0_isOfReals 1 = .ok (.getfield 9, 3) := by decide +kernel
theorem dX0_isOfReals_4 : decode cX0_isOfReals 4 = .ok (.invokestatic 26, 3) := by decide +kernel
theorem dX0_isOfReals_7 : decode cX0_isOfReals 7 = .ok (.ireturn, 1) := by decide +kernel
theorem dX0_hasCell_0 : decode cX0_hasCell 0 = .ok (.iload_n 1, 1) := by decide +kernel
theorem dX0_hasCell_1 : decode cX0_hasCell 1 = .ok (.ifCond .lt 15, 3) := by decide +kernel
theorem dX0_hasCell_4 : decode cX0_hasCell 4 = .ok (.iload_n 1, 1) := by decide +kernel
theorem dX0_hasCell_5 : decode cX0_hasCell 5 = .ok (.aload_n 0, 1) := by decide +kernel
theorem dX0_hasCell_6 : decode cX0_hasCell 6 = .ok (.getfield 15, 3) := by decide +kernel
theorem dX0_hasCell_9 : decode cX0_hasCell 9 = .ok (.if_icmp .ge 7, 3) := by decide +kernel
theorem dX0_hasCell_12 : decode cX0_hasCell 12 = .ok (.iconst 1, 1) := by decide +kernel
theorem dX0_hasCell_13 : decode cX0_hasCell 13 = .ok (.goto 4, 3) := by decide +kernel
theorem dX0_hasCell_16 : decode cX0_hasCell 16 = .ok (.iconst 0, 1) := by decide +kernel
theorem dX0_hasCell_17 : decode cX0_hasCell 17 = .ok (.ireturn, 1) := by decide +kernel
theorem dX0_hasCells_0 : decode cX0_hasCells 0 = .ok (.iload_n 1, 1) := by decide +kernel
theorem dX0_hasCells_1 : decode cX0_hasCells 1 = .ok (.ifCond .lt 21, 3) := by decide +kernel
theorem dX0_hasCells_4 : decode cX0_hasCells 4 = .ok (.iload_n 2, 1) := by decide +kernel
theorem dX0_hasCells_5 : decode cX0_hasCells 5 = .ok (.ifCond .lt 17, 3) := by decide +kernel
theorem dX0_hasCells_8 : decode cX0_hasCells 8 = .ok (.iload_n 2, 1) := by decide +kernel
theorem dX0_hasCells_9 : decode cX0_hasCells 9 = .ok (.aload_n 0, 1) := by decide +kernel
theorem dX0_hasCells_10 : decode cX0_hasCells 10 = .ok (.getfield 15, 3) := by decide +kernel
theorem dX0_hasCells_13 : decode cX0_hasCells 13 = .ok (.iload_n 1, 1) := by decide +kernel
theorem dX0_hasCells_14 : decode cX0_hasCells 14 = .ok (.isub, 1) := by decide +kernel
theorem dX0_hasCells_15 : decode cX0_hasCells 15 = .ok (.if_icmp .gt 7, 3) := by decide +kernel
theorem dX0_hasCells_18 : decode cX0_hasCells 18 = .ok (.iconst 1, 1) := by decide +kernel
theorem dX0_hasCells_19 : decode cX0_hasCells 19 = .ok (.goto 4, 3) := by decide +kernel
theorem dX0_hasCells_22 : decode cX0_hasCells 22 = .ok (.iconst 0, 1) := by decide +kernel
theorem dX0_hasCells_23 : decode cX0_hasCells 23 = .ok (.ireturn, 1) := by decide +kernel
theorem dX0_isForSort_0 : decode cX0_isForSort 0 = .ok (.aload_n 0, 1) := by decide +kernel
theorem dX0_isForSort_1 : decode cX0_isForSort 1 = .ok (.getfield 9, 3) := by decide +kernel
theorem dX0_isForSort_4 : decode cX0_isForSort 4 = .ok (.tableswitch 52 7 9 #[28, 30, 41], 28) := by decide +kernel
theorem dX0_isForSort_32 : decode cX0_isForSort 32 = .ok (.iconst 1, 1) := by decide +kernel
theorem dX0_isForSort_33 : decode cX0_isForSort 33 = .ok (.ireturn, 1) := by decide +kernel
theorem dX0_isForSort_34 : decode cX0_isForSort 34 = .ok (.iload_n 1, 1) := by decide +kernel
theorem dX0_isForSort_35 : decode cX0_isForSort 35 = .ok (.iconst 1, 1) := by decide +kernel
theorem dX0_isForSort_36 : decode cX0_isForSort 36 = .ok (.if_icmp .ne 7, 3) := by decide +kernel
theorem dX0_isForSort_39 : decode cX0_isForSort 39 = .ok (.iconst 1, 1) := by decide +kernel
theorem dX0_isForSort_40 : decode cX0_isForSort 40 = .ok (.goto 4, 3) := by decide +kernel
theorem dX0_isForSort_43 : decode cX0_isForSort 43 = .ok (.iconst 0, 1) := by decide +kernel
theorem dX0_isForSort_44 : decode cX0_isForSort 44 = .ok (.ireturn, 1) := by decide +kernel
theorem dX0_isForSort_45 : decode cX0_isForSort 45 = .ok (.iload_n 1, 1) := by decide +kernel
theorem dX0_isForSort_46 : decode cX0_isForSort 46 = .ok (.iconst 2, 1) := by decide +kernel
theorem dX0_isForSort_47 : decode cX0_isForSort 47 = .ok (.if_icmp .ne 7, 3) := by decide +kernel
theorem dX0_isForSort_50 : decode cX0_isForSort 50 = .ok (.iconst 1, 1) := by decide +kernel
theorem dX0_isForSort_51 : decode cX0_isForSort 51 = .ok (.goto 4, 3) := by decide +kernel
theorem dX0_isForSort_54 : decode cX0_isForSort 54 = .ok (.iconst 0, 1) := by decide +kernel
theorem dX0_isForSort_55 : decode cX0_isForSort 55 = .ok (.ireturn, 1) := by decide +kernel
theorem dX0_isForSort_56 : decode cX0_isForSort 56 = .ok (.iconst 0, 1) := by decide +kernel
theorem dX0_isForSort_57 : decode cX0_isForSort 57 = .ok (.ireturn, 1) := by decide +kernel
theorem dX0_begin_0 : decode cX0_begin 0 = .ok (.aload_n 0, 1) := by decide +kernel
theorem dX0_begin_1 : decode cX0_begin 1 = .ok (.iload_n 1, 1) := by decide +kernel
theorem dX0_begin_2 : decode cX0_begin 2 = .ok (.putfield 9, 3) := by decide +kernel
theorem dX0_begin_5 : decode cX0_begin 5 = .ok (.aload_n 0, 1) := by decide +kernel
theorem dX0_begin_6 : decode cX0_begin 6 = .ok (.iload_n 2, 1) := by decide +kernel
theorem dX0_begin_7 : decode cX0_begin 7 = .ok (.putfield 15, 3) := by decide +kernel
theorem dX0_begin_10 : decode cX0_begin 10 = .ok (.aload_n 0, 1) := by decide +kernel
theorem dX0_begin_11 : decode cX0_begin 11 = .ok (.getfield 18, 3) := by decide +kernel
theorem dX0_begin_14 : decode cX0_begin 14 = .ok (.aload_n 0, 1) := by decide +kernel
theorem dX0_begin_15 : decode cX0_begin 15 = .ok (.invokevirtual 30, 3) := by decide +kernel
theorem dX0_begin_18 : decode cX0_begin 18 = .ok (.ifCond .eq 9, 3) := by decide +kernel
theorem dX0_begin_21 : decode cX0_begin 21 = .ok (.ldc2_w 34, 3) := by decide +kernel
theorem dX0_begin_24 : decode cX0_begin 24 = .ok (.goto 4, 3) := by decide +kernel
theorem dX0_begin_27 : decode cX0_begin 27 = .ok (.lconst 0, 1) := by decide +kernel
theorem dX0_begin_28 : decode cX0_begin 28 = .ok (.invokestatic 36, 3) := by decide +kernel
theorem dX0_begin_31 : decode cX0_begin 31 = .ok (.aload_n 0, 1) := by decide +kernel
theorem dX0_begin_32 : decode cX0_begin 32 = .ok (.getfield 22, 3) := by decide +kernel
theorem dX0_begin_35 : decode cX0_begin 35 = .ok (.dconst 0, 1) := by decide +kernel
theorem dX0_begin_36 : decode cX0_begin 36 = .ok (.invokestatic 42, 3) := by decide +kernel
theorem dX0_begin_39 : decode cX0_begin 39 = .ok (.return_, 1) := by decide +kernel
theorem dX0_letGo_0 : decode cX0_letGo 0 = .ok (.aload_n 0, 1) := by decide +kernel
theorem dX0_letGo_1 : decode cX0_letGo 1 = .ok (.iconst (-1), 1) := by decide +kernel
theorem dX0_letGo_2 : decode cX0_letGo 2 = .ok (.putfield 15, 3) := by decide +kernel
theorem dX0_letGo_5 : decode cX0_letGo 5 = .ok (.return_, 1) := by decide +kernel
theorem dX0_end_0 : decode cX0_end 0 = .ok (.aload_n 0, 1) := by decide +kernel
theorem dX0_end_1 : decode cX0_end 1 = .ok (.iconst (-1), 1) := by decide +kernel
theorem dX0_end_2 : decode cX0_end 2 = .ok (.putfield 9, 3) := by decide +kernel
theorem dX0_end_5 : decode cX0_end 5 = .ok (.aload_n 0, 1) := by decide +kernel
theorem dX0_end_6 : decode cX0_end 6 = .ok (.iconst (-1), 1) := by decide +kernel
theorem dX0_end_7 : decode cX0_end 7 = .ok (.putfield 15, 3) := by decide +kernel
theorem dX0_end_10 : decode cX0_end 10 = .ok (.return_, 1) := by decide +kernel
theorem dX0_heldPart_0 : decode cX0_heldPart 0 = .ok (.aload_n 0, 1) := by decide +kernel
theorem dX0_heldPart_1 : decode cX0_heldPart 1 = .ok (.getfield 18, 3) := by decide +kernel
theorem dX0_heldPart_4 : decode cX0_heldPart 4 = .ok (.iload_n 1, 1) := by decide +kernel
theorem dX0_heldPart_5 : decode cX0_heldPart 5 = .ok (.laload, 1) := by decide +kernel
theorem dX0_heldPart_6 : decode cX0_heldPart 6 = .ok (.l2i, 1) := by decide +kernel
theorem dX0_heldPart_7 : decode cX0_heldPart 7 = .ok (.ireturn, 1) := by decide +kernel
theorem dX0_holdPart_0 : decode cX0_holdPart 0 = .ok (.aload_n 0, 1) := by decide +kernel
theorem dX0_holdPart_1 : decode cX0_holdPart 1 = .ok (.getfield 18, 3) := by decide +kernel
theorem dX0_holdPart_4 : decode cX0_holdPart 4 = .ok (.iload_n 1, 1) := by decide +kernel
theorem dX0_holdPart_5 : decode cX0_holdPart 5 = .ok (.iload_n 2, 1) := by decide +kernel
theorem dX0_holdPart_6 : decode cX0_holdPart 6 = .ok (.i2l, 1) := by decide +kernel
theorem dX0_holdPart_7 : decode cX0_holdPart 7 = .ok (.lastore, 1) := by decide +kernel
theorem dX0_holdPart_8 : decode cX0_holdPart 8 = .ok (.return_, 1) := by decide +kernel
theorem dX0_setNumber_0 : decode cX0_setNumber 0 = .ok (.aload_n 0, 1) := by decide +kernel
theorem dX0_setNumber_1 : decode cX0_setNumber 1 = .ok (.getfield 9, 3) := by decide +kernel
theorem dX0_setNumber_4 : decode cX0_setNumber 4 = .ok (.iconst 5, 1) := by decide +kernel
theorem dX0_setNumber_5 : decode cX0_setNumber 5 = .ok (.if_icmp .ne 18, 3) := by decide +kernel
theorem dX0_setNumber_8 : decode cX0_setNumber 8 = .ok (.aload_n 0, 1) := by decide +kernel
theorem dX0_setNumber_9 : decode cX0_setNumber 9 = .ok (.getfield 22, 3) := by decide +kernel
theorem dX0_setNumber_12 : decode cX0_setNumber 12 = .ok (.iload_n 1, 1) := by decide +kernel
theorem dX0_setNumber_13 : decode cX0_setNumber 13 = .ok (.lload_n 2, 1) := by decide +kernel
theorem dX0_setNumber_14 : decode cX0_setNumber 14 = .ok (.l2f, 1) := by decide +kernel
theorem dX0_setNumber_15 : decode cX0_setNumber 15 = .ok (.ldc 45, 2) := by decide +kernel
theorem dX0_setNumber_17 : decode cX0_setNumber 17 = .ok (.fdiv, 1) := by decide +kernel
theorem dX0_setNumber_18 : decode cX0_setNumber 18 = .ok (.f2d, 1) := by decide +kernel
theorem dX0_setNumber_19 : decode cX0_setNumber 19 = .ok (.dastore, 1) := by decide +kernel
theorem dX0_setNumber_20 : decode cX0_setNumber 20 = .ok (.goto 41, 3) := by decide +kernel
theorem dX0_setNumber_23 : decode cX0_setNumber 23 = .ok (.aload_n 0, 1) := by decide +kernel
theorem dX0_setNumber_24 : decode cX0_setNumber 24 = .ok (.getfield 9, 3) := by decide +kernel
theorem dX0_setNumber_27 : decode cX0_setNumber 27 = .ok (.bipush 6, 2) := by decide +kernel
theorem dX0_setNumber_29 : decode cX0_setNumber 29 = .ok (.if_icmp .ne 18, 3) := by decide +kernel
theorem dX0_setNumber_32 : decode cX0_setNumber 32 = .ok (.aload_n 0, 1) := by decide +kernel
theorem dX0_setNumber_33 : decode cX0_setNumber 33 = .ok (.getfield 22, 3) := by decide +kernel
theorem dX0_setNumber_36 : decode cX0_setNumber 36 = .ok (.iload_n 1, 1) := by decide +kernel
theorem dX0_setNumber_37 : decode cX0_setNumber 37 = .ok (.lload_n 2, 1) := by decide +kernel
theorem dX0_setNumber_38 : decode cX0_setNumber 38 = .ok (.l2d, 1) := by decide +kernel
theorem dX0_setNumber_39 : decode cX0_setNumber 39 = .ok (.ldc2_w 46, 3) := by decide +kernel
theorem dX0_setNumber_42 : decode cX0_setNumber 42 = .ok (.ddiv, 1) := by decide +kernel
theorem dX0_setNumber_43 : decode cX0_setNumber 43 = .ok (.dastore, 1) := by decide +kernel
theorem dX0_setNumber_44 : decode cX0_setNumber 44 = .ok (.goto 17, 3) := by decide +kernel
theorem dX0_setNumber_47 : decode cX0_setNumber 47 = .ok (.aload_n 0, 1) := by decide +kernel
theorem dX0_setNumber_48 : decode cX0_setNumber 48 = .ok (.getfield 18, 3) := by decide +kernel
theorem dX0_setNumber_51 : decode cX0_setNumber 51 = .ok (.iload_n 1, 1) := by decide +kernel
theorem dX0_setNumber_52 : decode cX0_setNumber 52 = .ok (.lload_n 2, 1) := by decide +kernel
theorem dX0_setNumber_53 : decode cX0_setNumber 53 = .ok (.aload_n 0, 1) := by decide +kernel
theorem dX0_setNumber_54 : decode cX0_setNumber 54 = .ok (.getfield 9, 3) := by decide +kernel
theorem dX0_setNumber_57 : decode cX0_setNumber 57 = .ok (.invokestatic 48, 3) := by decide +kernel
theorem dX0_setNumber_60 : decode cX0_setNumber 60 = .ok (.lastore, 1) := by decide +kernel
theorem dX0_setNumber_61 : decode cX0_setNumber 61 = .ok (.return_, 1) := by decide +kernel
theorem dX0_tells_0 : decode cX0_tells 0 = .ok (.aload_n 0, 1) := by decide +kernel
theorem dX0_tells_1 : decode cX0_tells 1 = .ok (.invokevirtual 52, 3) := by decide +kernel
theorem dX0_tells_4 : decode cX0_tells 4 = .ok (.ifCond .eq 17, 3) := by decide +kernel
theorem dX0_tells_7 : decode cX0_tells 7 = .ok (.aload_n 0, 1) := by decide +kernel
theorem dX0_tells_8 : decode cX0_tells 8 = .ok (.getfield 22, 3) := by decide +kernel
theorem dX0_tells_11 : decode cX0_tells 11 = .ok (.iload_n 1, 1) := by decide +kernel
theorem dX0_tells_12 : decode cX0_tells 12 = .ok (.daload, 1) := by decide +kernel
theorem dX0_tells_13 : decode cX0_tells 13 = .ok (.ldc2_w 46, 3) := by decide +kernel
theorem dX0_tells_16 : decode cX0_tells 16 = .ok (.dmul, 1) := by decide +kernel
theorem dX0_tells_17 : decode cX0_tells 17 = .ok (.d2l, 1) := by decide +kernel
theorem dX0_tells_18 : decode cX0_tells 18 = .ok (.goto 9, 3) := by decide +kernel
theorem dX0_tells_21 : decode cX0_tells 21 = .ok (.aload_n 0, 1) := by decide +kernel
theorem dX0_tells_22 : decode cX0_tells 22 = .ok (.getfield 18, 3) := by decide +kernel
theorem dX0_tells_25 : decode cX0_tells 25 = .ok (.iload_n 1, 1) := by decide +kernel
theorem dX0_tells_26 : decode cX0_tells 26 = .ok (.laload, 1) := by decide +kernel
theorem dX0_tells_27 : decode cX0_tells 27 = .ok (.lreturn, 1) := by decide +kernel
theorem dX0_total_0 : decode cX0_total 0 = .ok (.iconst 0, 1) := by decide +kernel
theorem dX0_total_1 : decode cX0_total 1 = .ok (.istore_n 1, 1) := by decide +kernel
theorem dX0_total_2 : decode cX0_total 2 = .ok (.iconst 0, 1) := by decide +kernel
theorem dX0_total_3 : decode cX0_total 3 = .ok (.istore_n 2, 1) := by decide +kernel
theorem dX0_total_4 : decode cX0_total 4 = .ok (.iload_n 2, 1) := by decide +kernel
theorem dX0_total_5 : decode cX0_total 5 = .ok (.aload_n 0, 1) := by decide +kernel
theorem dX0_total_6 : decode cX0_total 6 = .ok (.getfield 15, 3) := by decide +kernel
theorem dX0_total_9 : decode cX0_total 9 = .ok (.if_icmp .ge 18, 3) := by decide +kernel
theorem dX0_total_12 : decode cX0_total 12 = .ok (.iload_n 1, 1) := by decide +kernel
theorem dX0_total_13 : decode cX0_total 13 = .ok (.aload_n 0, 1) := by decide +kernel
theorem dX0_total_14 : decode cX0_total 14 = .ok (.iload_n 2, 1) := by decide +kernel
theorem dX0_total_15 : decode cX0_total 15 = .ok (.invokevirtual 55, 3) := by decide +kernel
theorem dX0_total_18 : decode cX0_total 18 = .ok (.l2i, 1) := by decide +kernel
theorem dX0_total_19 : decode cX0_total 19 = .ok (.iadd, 1) := by decide +kernel
theorem dX0_total_20 : decode cX0_total 20 = .ok (.istore_n 1, 1) := by decide +kernel
theorem dX0_total_21 : decode cX0_total 21 = .ok (.iinc 2 1, 3) := by decide +kernel
theorem dX0_total_24 : decode cX0_total 24 = .ok (.goto (-20), 3) := by decide +kernel
theorem dX0_total_27 : decode cX0_total 27 = .ok (.iload_n 1, 1) := by decide +kernel
theorem dX0_total_28 : decode cX0_total 28 = .ok (.ireturn, 1) := by decide +kernel
theorem dX0_firstNotIn_0 : decode cX0_firstNotIn 0 = .ok (.iconst 0, 1) := by decide +kernel
theorem dX0_firstNotIn_1 : decode cX0_firstNotIn 1 = .ok (.istore_n 2, 1) := by decide +kernel
theorem dX0_firstNotIn_2 : decode cX0_firstNotIn 2 = .ok (.iload_n 2, 1) := by decide +kernel
theorem dX0_firstNotIn_3 : decode cX0_firstNotIn 3 = .ok (.aload_n 0, 1) := by decide +kernel
theorem dX0_firstNotIn_4 : decode cX0_firstNotIn 4 = .ok (.getfield 15, 3) := by decide +kernel
theorem dX0_firstNotIn_7 : decode cX0_firstNotIn 7 = .ok (.if_icmp .ge 45, 3) := by decide +kernel
theorem dX0_firstNotIn_10 : decode cX0_firstNotIn 10 = .ok (.aload_n 0, 1) := by decide +kernel
theorem dX0_firstNotIn_11 : decode cX0_firstNotIn 11 = .ok (.invokevirtual 52, 3) := by decide +kernel
theorem dX0_firstNotIn_14 : decode cX0_firstNotIn 14 = .ok (.ifCond .eq 19, 3) := by decide +kernel
theorem dX0_firstNotIn_17 : decode cX0_firstNotIn 17 = .ok (.aload_n 0, 1) := by decide +kernel
theorem dX0_firstNotIn_18 : decode cX0_firstNotIn 18 = .ok (.getfield 22, 3) := by decide +kernel
theorem dX0_firstNotIn_21 : decode cX0_firstNotIn 21 = .ok (.iload_n 2, 1) := by decide +kernel
theorem dX0_firstNotIn_22 : decode cX0_firstNotIn 22 = .ok (.daload, 1) := by decide +kernel
theorem dX0_firstNotIn_23 : decode cX0_firstNotIn 23 = .ok (.iload_n 1, 1) := by decide +kernel
theorem dX0_firstNotIn_24 : decode cX0_firstNotIn 24 = .ok (.invokestatic 59, 3) := by decide +kernel
theorem dX0_firstNotIn_27 : decode cX0_firstNotIn 27 = .ok (.ifCond .eq 25, 3) := by decide +kernel
theorem dX0_firstNotIn_30 : decode cX0_firstNotIn 30 = .ok (.goto 16, 3) := by decide +kernel
theorem dX0_firstNotIn_33 : decode cX0_firstNotIn 33 = .ok (.aload_n 0, 1) := by decide +kernel
theorem dX0_firstNotIn_34 : decode cX0_firstNotIn 34 = .ok (.getfield 18, 3) := by decide +kernel
theorem dX0_firstNotIn_37 : decode cX0_firstNotIn 37 = .ok (.iload_n 2, 1) := by decide +kernel
theorem dX0_firstNotIn_38 : decode cX0_firstNotIn 38 = .ok (.laload, 1) := by decide +kernel
theorem dX0_firstNotIn_39 : decode cX0_firstNotIn 39 = .ok (.iload_n 1, 1) := by decide +kernel
theorem dX0_firstNotIn_40 : decode cX0_firstNotIn 40 = .ok (.invokestatic 63, 3) := by decide +kernel
theorem dX0_firstNotIn_43 : decode cX0_firstNotIn 43 = .ok (.ifCond .eq 9, 3) := by decide +kernel
theorem dX0_firstNotIn_46 : decode cX0_firstNotIn 46 = .ok (.iinc 2 1, 3) := by decide +kernel
theorem dX0_firstNotIn_49 : decode cX0_firstNotIn 49 = .ok (.goto (-47), 3) := by decide +kernel
theorem dX0_firstNotIn_52 : decode cX0_firstNotIn 52 = .ok (.iload_n 2, 1) := by decide +kernel
theorem dX0_firstNotIn_53 : decode cX0_firstNotIn 53 = .ok (.ireturn, 1) := by decide +kernel
theorem dX0_becomeKind_0 : decode cX0_becomeKind 0 = .ok (.iload_n 1, 1) := by decide +kernel
theorem dX0_becomeKind_1 : decode cX0_becomeKind 1 = .ok (.invokestatic 26, 3) := by decide +kernel
theorem dX0_becomeKind_4 : decode cX0_becomeKind 4 = .ok (.istore_n 2, 1) := by decide +kernel
theorem dX0_becomeKind_5 : decode cX0_becomeKind 5 = .ok (.iconst 0, 1) := by decide +kernel
theorem dX0_becomeKind_6 : decode cX0_becomeKind 6 = .ok (.istore_n 3, 1) := by decide +kernel
theorem dX0_becomeKind_7 : decode cX0_becomeKind 7 = .ok (.iload_n 3, 1) := by decide +kernel
theorem dX0_becomeKind_8 : decode cX0_becomeKind 8 = .ok (.aload_n 0, 1) := by decide +kernel
theorem dX0_becomeKind_9 : decode cX0_becomeKind 9 = .ok (.getfield 15, 3) := by decide +kernel
theorem dX0_becomeKind_12 : decode cX0_becomeKind 12 = .ok (.if_icmp .ge 60, 3) := by decide +kernel
theorem dX0_becomeKind_15 : decode cX0_becomeKind 15 = .ok (.aload_n 0, 1) := by decide +kernel
theorem dX0_becomeKind_16 : decode cX0_becomeKind 16 = .ok (.invokevirtual 52, 3) := by decide +kernel
theorem dX0_becomeKind_19 : decode cX0_becomeKind 19 = .ok (.ifCond .eq 23, 3) := by decide +kernel
theorem dX0_becomeKind_22 : decode cX0_becomeKind 22 = .ok (.iload_n 2, 1) := by decide +kernel
theorem dX0_becomeKind_23 : decode cX0_becomeKind 23 = .ok (.ifCond .ne 19, 3) := by decide +kernel
theorem dX0_becomeKind_26 : decode cX0_becomeKind 26 = .ok (.aload_n 0, 1) := by decide +kernel
theorem dX0_becomeKind_27 : decode cX0_becomeKind 27 = .ok (.getfield 18, 3) := by decide +kernel
theorem dX0_becomeKind_30 : decode cX0_becomeKind 30 = .ok (.iload_n 3, 1) := by decide +kernel
theorem dX0_becomeKind_31 : decode cX0_becomeKind 31 = .ok (.aload_n 0, 1) := by decide +kernel
theorem dX0_becomeKind_32 : decode cX0_becomeKind 32 = .ok (.getfield 22, 3) := by decide +kernel
theorem dX0_becomeKind_35 : decode cX0_becomeKind 35 = .ok (.iload_n 3, 1) := by decide +kernel
theorem dX0_becomeKind_36 : decode cX0_becomeKind 36 = .ok (.daload, 1) := by decide +kernel
theorem dX0_becomeKind_37 : decode cX0_becomeKind 37 = .ok (.d2l, 1) := by decide +kernel
theorem dX0_becomeKind_38 : decode cX0_becomeKind 38 = .ok (.lastore, 1) := by decide +kernel
theorem dX0_becomeKind_39 : decode cX0_becomeKind 39 = .ok (.goto 27, 3) := by decide +kernel
theorem dX0_becomeKind_42 : decode cX0_becomeKind 42 = .ok (.aload_n 0, 1) := by decide +kernel
theorem dX0_becomeKind_43 : decode cX0_becomeKind 43 = .ok (.invokevirtual 52, 3) := by decide +kernel
theorem dX0_becomeKind_46 : decode cX0_becomeKind 46 = .ok (.ifCond .ne 20, 3) := by decide +kernel
theorem dX0_becomeKind_49 : decode cX0_becomeKind 49 = .ok (.iload_n 2, 1) := by decide +kernel
theorem dX0_becomeKind_50 : decode cX0_becomeKind 50 = .ok (.ifCond .eq 16, 3) := by decide +kernel
theorem dX0_becomeKind_53 : decode cX0_becomeKind 53 = .ok (.aload_n 0, 1) := by decide +kernel
theorem dX0_becomeKind_54 : decode cX0_becomeKind 54 = .ok (.getfield 22, 3) := by decide +kernel
theorem dX0_becomeKind_57 : decode cX0_becomeKind 57 = .ok (.iload_n 3, 1) := by decide +kernel
theorem dX0_becomeKind_58 : decode cX0_becomeKind 58 = .ok (.aload_n 0, 1) := by decide +kernel
theorem dX0_becomeKind_59 : decode cX0_becomeKind 59 = .ok (.getfield 18, 3) := by decide +kernel
theorem dX0_becomeKind_62 : decode cX0_becomeKind 62 = .ok (.iload_n 3, 1) := by decide +kernel
theorem dX0_becomeKind_63 : decode cX0_becomeKind 63 = .ok (.laload, 1) := by decide +kernel
theorem dX0_becomeKind_64 : decode cX0_becomeKind 64 = .ok (.l2d, 1) := by decide +kernel
theorem dX0_becomeKind_65 : decode cX0_becomeKind 65 = .ok (.dastore, 1) := by decide +kernel
theorem dX0_becomeKind_66 : decode cX0_becomeKind 66 = .ok (.iinc 3 1, 3) := by decide +kernel
theorem dX0_becomeKind_69 : decode cX0_becomeKind 69 = .ok (.goto (-62), 3) := by decide +kernel
theorem dX0_becomeKind_72 : decode cX0_becomeKind 72 = .ok (.aload_n 0, 1) := by decide +kernel
theorem dX0_becomeKind_73 : decode cX0_becomeKind 73 = .ok (.iload_n 1, 1) := by decide +kernel
theorem dX0_becomeKind_74 : decode cX0_becomeKind 74 = .ok (.putfield 9, 3) := by decide +kernel
theorem dX0_becomeKind_77 : decode cX0_becomeKind 77 = .ok (.return_, 1) := by decide +kernel
theorem dX0_takeCells_0 : decode cX0_takeCells 0 = .ok (.aload_n 1, 1) := by decide +kernel
theorem dX0_takeCells_1 : decode cX0_takeCells 1 = .ok (.getfield 18, 3) := by decide +kernel
theorem dX0_takeCells_4 : decode cX0_takeCells 4 = .ok (.iload_n 2, 1) := by decide +kernel
theorem dX0_takeCells_5 : decode cX0_takeCells 5 = .ok (.aload_n 0, 1) := by decide +kernel
theorem dX0_takeCells_6 : decode cX0_takeCells 6 = .ok (.getfield 18, 3) := by decide +kernel
theorem dX0_takeCells_9 : decode cX0_takeCells 9 = .ok (.iload_n 3, 1) := by decide +kernel
theorem dX0_takeCells_10 : decode cX0_takeCells 10 = .ok (.iload 4, 2) := by decide +kernel
theorem dX0_takeCells_12 : decode cX0_takeCells 12 = .ok (.invokestatic 67, 3) := by decide +kernel
theorem dX0_takeCells_15 : decode cX0_takeCells 15 = .ok (.aload_n 1, 1) := by decide +kernel
theorem dX0_takeCells_16 : decode cX0_takeCells 16 = .ok (.getfield 22, 3) := by decide +kernel
theorem dX0_takeCells_19 : decode cX0_takeCells 19 = .ok (.iload_n 2, 1) := by decide +kernel
theorem dX0_takeCells_20 : decode cX0_takeCells 20 = .ok (.aload_n 0, 1) := by decide +kernel
theorem dX0_takeCells_21 : decode cX0_takeCells 21 = .ok (.getfield 22, 3) := by decide +kernel
theorem dX0_takeCells_24 : decode cX0_takeCells 24 = .ok (.iload_n 3, 1) := by decide +kernel
theorem dX0_takeCells_25 : decode cX0_takeCells 25 = .ok (.iload 4, 2) := by decide +kernel
theorem dX0_takeCells_27 : decode cX0_takeCells 27 = .ok (.invokestatic 67, 3) := by decide +kernel
theorem dX0_takeCells_30 : decode cX0_takeCells 30 = .ok (.return_, 1) := by decide +kernel
theorem dX0_becomeLike_0 : decode cX0_becomeLike 0 = .ok (.aload_n 0, 1) := by decide +kernel
theorem dX0_becomeLike_1 : decode cX0_becomeLike 1 = .ok (.aload_n 1, 1) := by decide +kernel
theorem dX0_becomeLike_2 : decode cX0_becomeLike 2 = .ok (.getfield 9, 3) := by decide +kernel
theorem dX0_becomeLike_5 : decode cX0_becomeLike 5 = .ok (.putfield 9, 3) := by decide +kernel
theorem dX0_becomeLike_8 : decode cX0_becomeLike 8 = .ok (.aload_n 0, 1) := by decide +kernel
theorem dX0_becomeLike_9 : decode cX0_becomeLike 9 = .ok (.aload_n 1, 1) := by decide +kernel
theorem dX0_becomeLike_10 : decode cX0_becomeLike 10 = .ok (.getfield 15, 3) := by decide +kernel
theorem dX0_becomeLike_13 : decode cX0_becomeLike 13 = .ok (.putfield 15, 3) := by decide +kernel
theorem dX0_becomeLike_16 : decode cX0_becomeLike 16 = .ok (.aload_n 0, 1) := by decide +kernel
theorem dX0_becomeLike_17 : decode cX0_becomeLike 17 = .ok (.aload_n 1, 1) := by decide +kernel
theorem dX0_becomeLike_18 : decode cX0_becomeLike 18 = .ok (.iconst 0, 1) := by decide +kernel
theorem dX0_becomeLike_19 : decode cX0_becomeLike 19 = .ok (.iconst 0, 1) := by decide +kernel
theorem dX0_becomeLike_20 : decode cX0_becomeLike 20 = .ok (.bipush 40, 2) := by decide +kernel
theorem dX0_becomeLike_22 : decode cX0_becomeLike 22 = .ok (.invokevirtual 73, 3) := by decide +kernel
theorem dX0_becomeLike_25 : decode cX0_becomeLike 25 = .ok (.return_, 1) := by decide +kernel
theorem dX0_isSameAs_0 : decode cX0_isSameAs 0 = .ok (.aload_n 0, 1) := by decide +kernel
theorem dX0_isSameAs_1 : decode cX0_isSameAs 1 = .ok (.getfield 9, 3) := by decide +kernel
theorem dX0_isSameAs_4 : decode cX0_isSameAs 4 = .ok (.aload_n 1, 1) := by decide +kernel
theorem dX0_isSameAs_5 : decode cX0_isSameAs 5 = .ok (.getfield 9, 3) := by decide +kernel
theorem dX0_isSameAs_8 : decode cX0_isSameAs 8 = .ok (.if_icmp .ne 14, 3) := by decide +kernel
theorem dX0_isSameAs_11 : decode cX0_isSameAs 11 = .ok (.aload_n 0, 1) := by decide +kernel
theorem dX0_isSameAs_12 : decode cX0_isSameAs 12 = .ok (.getfield 15, 3) := by decide +kernel
theorem dX0_isSameAs_15 : decode cX0_isSameAs 15 = .ok (.aload_n 1, 1) := by decide +kernel
theorem dX0_isSameAs_16 : decode cX0_isSameAs 16 = .ok (.getfield 15, 3) := by decide +kernel
theorem dX0_isSameAs_19 : decode cX0_isSameAs 19 = .ok (.if_icmp .eq 5, 3) := by decide +kernel
theorem dX0_isSameAs_22 : decode cX0_isSameAs 22 = .ok (.iconst 0, 1) := by decide +kernel
theorem dX0_isSameAs_23 : decode cX0_isSameAs 23 = .ok (.ireturn, 1) := by decide +kernel
theorem dX0_isSameAs_24 : decode cX0_isSameAs 24 = .ok (.iconst 0, 1) := by decide +kernel
theorem dX0_isSameAs_25 : decode cX0_isSameAs 25 = .ok (.istore_n 2, 1) := by decide +kernel
theorem dX0_isSameAs_26 : decode cX0_isSameAs 26 = .ok (.iload_n 2, 1) := by decide +kernel
theorem dX0_isSameAs_27 : decode cX0_isSameAs 27 = .ok (.aload_n 0, 1) := by decide +kernel
theorem dX0_isSameAs_28 : decode cX0_isSameAs 28 = .ok (.getfield 15, 3) := by decide +kernel
theorem dX0_isSameAs_31 : decode cX0_isSameAs 31 = .ok (.if_icmp .ge 53, 3) := by decide +kernel
theorem dX0_isSameAs_34 : decode cX0_isSameAs 34 = .ok (.aload_n 0, 1) := by decide +kernel
theorem dX0_isSameAs_35 : decode cX0_isSameAs 35 = .ok (.invokevirtual 52, 3) := by decide +kernel
theorem dX0_isSameAs_38 : decode cX0_isSameAs 38 = .ok (.ifCond .eq 22, 3) := by decide +kernel
theorem dX0_isSameAs_41 : decode cX0_isSameAs 41 = .ok (.aload_n 0, 1) := by decide +kernel
theorem dX0_isSameAs_42 : decode cX0_isSameAs 42 = .ok (.getfield 22, 3) := by decide +kernel
theorem dX0_isSameAs_45 : decode cX0_isSameAs 45 = .ok (.iload_n 2, 1) := by decide +kernel
theorem dX0_isSameAs_46 : decode cX0_isSameAs 46 = .ok (.daload, 1) := by decide +kernel
theorem dX0_isSameAs_47 : decode cX0_isSameAs 47 = .ok (.aload_n 1, 1) := by decide +kernel
theorem dX0_isSameAs_48 : decode cX0_isSameAs 48 = .ok (.getfield 22, 3) := by decide +kernel
theorem dX0_isSameAs_51 : decode cX0_isSameAs 51 = .ok (.iload_n 2, 1) := by decide +kernel
theorem dX0_isSameAs_52 : decode cX0_isSameAs 52 = .ok (.daload, 1) := by decide +kernel
theorem dX0_isSameAs_53 : decode cX0_isSameAs 53 = .ok (.dcmp .l, 1) := by decide +kernel
theorem dX0_isSameAs_54 : decode cX0_isSameAs 54 = .ok (.ifCond .eq 24, 3) := by decide +kernel
theorem dX0_isSameAs_57 : decode cX0_isSameAs 57 = .ok (.goto 19, 3) := by decide +kernel
theorem dX0_isSameAs_60 : decode cX0_isSameAs 60 = .ok (.aload_n 0, 1) := by decide +kernel
theorem dX0_isSameAs_61 : decode cX0_isSameAs 61 = .ok (.getfield 18, 3) := by decide +kernel
theorem dX0_isSameAs_64 : decode cX0_isSameAs 64 = .ok (.iload_n 2, 1) := by decide +kernel
theorem dX0_isSameAs_65 : decode cX0_isSameAs 65 = .ok (.laload, 1) := by decide +kernel
theorem dX0_isSameAs_66 : decode cX0_isSameAs 66 = .ok (.aload_n 1, 1) := by decide +kernel
theorem dX0_isSameAs_67 : decode cX0_isSameAs 67 = .ok (.getfield 18, 3) := by decide +kernel
theorem dX0_isSameAs_70 : decode cX0_isSameAs 70 = .ok (.iload_n 2, 1) := by decide +kernel
theorem dX0_isSameAs_71 : decode cX0_isSameAs 71 = .ok (.laload, 1) := by decide +kernel
theorem dX0_isSameAs_72 : decode cX0_isSameAs 72 = .ok (.lcmp, 1) := by decide +kernel
theorem dX0_isSameAs_73 : decode cX0_isSameAs 73 = .ok (.ifCond .eq 5, 3) := by decide +kernel
theorem dX0_isSameAs_76 : decode cX0_isSameAs 76 = .ok (.iconst 0, 1) := by decide +kernel
theorem dX0_isSameAs_77 : decode cX0_isSameAs 77 = .ok (.ireturn, 1) := by decide +kernel
theorem dX0_isSameAs_78 : decode cX0_isSameAs 78 = .ok (.iinc 2 1, 3) := by decide +kernel
theorem dX0_isSameAs_81 : decode cX0_isSameAs 81 = .ok (.goto (-55), 3) := by decide +kernel
theorem dX0_isSameAs_84 : decode cX0_isSameAs 84 = .ok (.iconst 1, 1) := by decide +kernel
theorem dX0_isSameAs_85 : decode cX0_isSameAs 85 = .ok (.ireturn, 1) := by decide +kernel
theorem dX0_countHeldHere_0 : decode cX0_countHeldHere 0 = .ok (.iconst 0, 1) := by decide +kernel
theorem dX0_countHeldHere_1 : decode cX0_countHeldHere 1 = .ok (.istore_n 1, 1) := by decide +kernel
theorem dX0_countHeldHere_2 : decode cX0_countHeldHere 2 = .ok (.aload_n 0, 1) := by decide +kernel
theorem dX0_countHeldHere_3 : decode cX0_countHeldHere 3 = .ok (.invokevirtual 30, 3) := by decide +kernel
theorem dX0_countHeldHere_6 : decode cX0_countHeldHere 6 = .ok (.ifCond .eq 36, 3) := by decide +kernel
theorem dX0_countHeldHere_9 : decode cX0_countHeldHere 9 = .ok (.iconst 0, 1) := by decide +kernel
theorem dX0_countHeldHere_10 : decode cX0_countHeldHere 10 = .ok (.istore_n 2, 1) := by decide +kernel
theorem dX0_countHeldHere_11 : decode cX0_countHeldHere 11 = .ok (.iload_n 2, 1) := by decide +kernel
theorem dX0_countHeldHere_12 : decode cX0_countHeldHere 12 = .ok (.aload_n 0, 1) := by decide +kernel
theorem dX0_countHeldHere_13 : decode cX0_countHeldHere 13 = .ok (.getfield 15, 3) := by decide +kernel
theorem dX0_countHeldHere_16 : decode cX0_countHeldHere 16 = .ok (.if_icmp .ge 26, 3) := by decide +kernel
theorem dX0_countHeldHere_19 : decode cX0_countHeldHere 19 = .ok (.iload_n 1, 1) := by decide +kernel
theorem dX0_countHeldHere_20 : decode cX0_countHeldHere 20 = .ok (.aload_n 0, 1) := by decide +kernel
theorem dX0_countHeldHere_21 : decode cX0_countHeldHere 21 = .ok (.iload_n 2, 1) := by decide +kernel
theorem dX0_countHeldHere_22 : decode cX0_countHeldHere 22 = .ok (.invokevirtual 77, 3) := by decide +kernel
theorem dX0_countHeldHere_25 : decode cX0_countHeldHere 25 = .ok (.iconst (-1), 1) := by decide +kernel
theorem dX0_countHeldHere_26 : decode cX0_countHeldHere 26 = .ok (.if_icmp .ne 7, 3) := by decide +kernel
theorem dX0_countHeldHere_29 : decode cX0_countHeldHere 29 = .ok (.iconst 0, 1) := by decide +kernel
theorem dX0_countHeldHere_30 : decode cX0_countHeldHere 30 = .ok (.goto 4, 3) := by decide +kernel
theorem dX0_countHeldHere_33 : decode cX0_countHeldHere 33 = .ok (.iconst 1, 1) := by decide +kernel
theorem dX0_countHeldHere_34 : decode cX0_countHeldHere 34 = .ok (.iadd, 1) := by decide +kernel
theorem dX0_countHeldHere_35 : decode cX0_countHeldHere 35 = .ok (.istore_n 1, 1) := by decide +kernel
theorem dX0_countHeldHere_36 : decode cX0_countHeldHere 36 = .ok (.iinc 2 1, 3) := by decide +kernel
theorem dX0_countHeldHere_39 : decode cX0_countHeldHere 39 = .ok (.goto (-28), 3) := by decide +kernel
theorem dX0_countHeldHere_42 : decode cX0_countHeldHere 42 = .ok (.iload_n 1, 1) := by decide +kernel
theorem dX0_countHeldHere_43 : decode cX0_countHeldHere 43 = .ok (.ireturn, 1) := by decide +kernel
theorem dX0_areReals_0 : decode cX0_areReals 0 = .ok (.iload_n 0, 1) := by decide +kernel
theorem dX0_areReals_1 : decode cX0_areReals 1 = .ok (.iconst 5, 1) := by decide +kernel
theorem dX0_areReals_2 : decode cX0_areReals 2 = .ok (.if_icmp .eq 9, 3) := by decide +kernel
theorem dX0_areReals_5 : decode cX0_areReals 5 = .ok (.iload_n 0, 1) := by decide +kernel
theorem dX0_areReals_6 : decode cX0_areReals 6 = .ok (.bipush 6, 2) := by decide +kernel
theorem dX0_areReals_8 : decode cX0_areReals 8 = .ok (.if_icmp .ne 7, 3) := by decide +kernel
theorem dX0_areReals_11 : decode cX0_areReals 11 = .ok (.iconst 1, 1) := by decide +kernel
theorem dX0_areReals_12 : decode cX0_areReals 12 = .ok (.goto 4, 3) := by decide +kernel
theorem dX0_areReals_15 : decode cX0_areReals 15 = .ok (.iconst 0, 1) := by decide +kernel
theorem dX0_areReals_16 : decode cX0_areReals 16 = .ok (.ireturn, 1) := by decide +kernel
theorem dX0_lowestBits_0 : decode cX0_lowestBits 0 = .ok (.iload_n 2, 1) := by decide +kernel
theorem dX0_lowestBits_1 : decode cX0_lowestBits 1 = .ok (.tableswitch 50 0 3 #[31, 36, 41, 46], 31) := by decide +kernel
theorem dX0_lowestBits_32 : decode cX0_lowestBits 32 = .ok (.lload_n 0, 1) := by decide +kernel
theorem dX0_lowestBits_33 : decode cX0_lowestBits 33 = .ok (.l2i, 1) := by decide +kernel
theorem dX0_lowestBits_34 : decode cX0_lowestBits 34 = .ok (.i2b, 1) := by decide +kernel
theorem dX0_lowestBits_35 : decode cX0_lowestBits 35 = .ok (.i2l, 1) := by decide +kernel
theorem dX0_lowestBits_36 : decode cX0_lowestBits 36 = .ok (.lreturn, 1) := by decide +kernel
theorem dX0_lowestBits_37 : decode cX0_lowestBits 37 = .ok (.lload_n 0, 1) := by decide +kernel
theorem dX0_lowestBits_38 : decode cX0_lowestBits 38 = .ok (.l2i, 1) := by decide +kernel
theorem dX0_lowestBits_39 : decode cX0_lowestBits 39 = .ok (.i2s, 1) := by decide +kernel
theorem dX0_lowestBits_40 : decode cX0_lowestBits 40 = .ok (.i2l, 1) := by decide +kernel
theorem dX0_lowestBits_41 : decode cX0_lowestBits 41 = .ok (.lreturn, 1) := by decide +kernel
theorem dX0_lowestBits_42 : decode cX0_lowestBits 42 = .ok (.lload_n 0, 1) := by decide +kernel
theorem dX0_lowestBits_43 : decode cX0_lowestBits 43 = .ok (.l2i, 1) := by decide +kernel
theorem dX0_lowestBits_44 : decode cX0_lowestBits 44 = .ok (.i2c, 1) := by decide +kernel
theorem dX0_lowestBits_45 : decode cX0_lowestBits 45 = .ok (.i2l, 1) := by decide +kernel
theorem dX0_lowestBits_46 : decode cX0_lowestBits 46 = .ok (.lreturn, 1) := by decide +kernel
theorem dX0_lowestBits_47 : decode cX0_lowestBits 47 = .ok (.lload_n 0, 1) := by decide +kernel
theorem dX0_lowestBits_48 : decode cX0_lowestBits 48 = .ok (.l2i, 1) := by decide +kernel
theorem dX0_lowestBits_49 : decode cX0_lowestBits 49 = .ok (.i2l, 1) := by decide +kernel
theorem dX0_lowestBits_50 : decode cX0_lowestBits 50 = .ok (.lreturn, 1) := by decide +kernel
theorem dX0_lowestBits_51 : decode cX0_lowestBits 51 = .ok (.lload_n 0, 1) := by decide +kernel
theorem dX0_lowestBits_52 : decode cX0_lowestBits 52 = .ok (.lreturn, 1) := by decide +kernel
theorem dX0_wholeFits_0 : decode cX0_wholeFits 0 = .ok (.iload_n 2, 1) := by decide +kernel
theorem dX0_wholeFits_1 : decode cX0_wholeFits 1 = .ok (.lookupswitch 42 #[(5, 27), (6, 35)], 27) := by decide +kernel
theorem dX0_wholeFits_28 : decode cX0_wholeFits 28 = .ok (.lload_n 0, 1) := by decide +kernel
theorem dX0_wholeFits_29 : decode cX0_wholeFits 29 = .ok (.l2f, 1) := by decide +kernel
theorem dX0_wholeFits_30 : decode cX0_wholeFits 30 = .ok (.f2d, 1) := by decide +kernel
theorem dX0_wholeFits_31 : decode cX0_wholeFits 31 = .ok (.lload_n 0, 1) := by decide +kernel
theorem dX0_wholeFits_32 : decode cX0_wholeFits 32 = .ok (.invokestatic 81, 3) := by decide +kernel
theorem dX0_wholeFits_35 : decode cX0_wholeFits 35 = .ok (.ireturn, 1) := by decide +kernel
theorem dX0_wholeFits_36 : decode cX0_wholeFits 36 = .ok (.lload_n 0, 1) := by decide +kernel
theorem dX0_wholeFits_37 : decode cX0_wholeFits 37 = .ok (.l2d, 1) := by decide +kernel
theorem dX0_wholeFits_38 : decode cX0_wholeFits 38 = .ok (.lload_n 0, 1) := by decide +kernel
theorem dX0_wholeFits_39 : decode cX0_wholeFits 39 = .ok (.invokestatic 81, 3) := by decide +kernel
theorem dX0_wholeFits_42 : decode cX0_wholeFits 42 = .ok (.ireturn, 1) := by decide +kernel
theorem dX0_wholeFits_43 : decode cX0_wholeFits 43 = .ok (.lload_n 0, 1) := by decide +kernel
theorem dX0_wholeFits_44 : decode cX0_wholeFits 44 = .ok (.iload_n 2, 1) := by decide +kernel
theorem dX0_wholeFits_45 : decode cX0_wholeFits 45 = .ok (.invokestatic 48, 3) := by decide +kernel
theorem dX0_wholeFits_48 : decode cX0_wholeFits 48 = .ok (.lload_n 0, 1) := by decide +kernel
theorem dX0_wholeFits_49 : decode cX0_wholeFits 49 = .ok (.lcmp, 1) := by decide +kernel
theorem dX0_wholeFits_50 : decode cX0_wholeFits 50 = .ok (.ifCond .ne 7, 3) := by decide +kernel
theorem dX0_wholeFits_53 : decode cX0_wholeFits 53 = .ok (.iconst 1, 1) := by decide +kernel
theorem dX0_wholeFits_54 : decode cX0_wholeFits 54 = .ok (.goto 4, 3) := by decide +kernel
theorem dX0_wholeFits_57 : decode cX0_wholeFits 57 = .ok (.iconst 0, 1) := by decide +kernel
theorem dX0_wholeFits_58 : decode cX0_wholeFits 58 = .ok (.ireturn, 1) := by decide +kernel
theorem dX0_realFits_0 : decode cX0_realFits 0 = .ok (.iload_n 2, 1) := by decide +kernel
theorem dX0_realFits_1 : decode cX0_realFits 1 = .ok (.lookupswitch 43 #[(5, 27), (6, 41)], 27) := by decide +kernel
theorem dX0_realFits_28 : decode cX0_realFits 28 = .ok (.dload_n 0, 1) := by decide +kernel
theorem dX0_realFits_29 : decode cX0_realFits 29 = .ok (.d2f, 1) := by decide +kernel
theorem dX0_realFits_30 : decode cX0_realFits 30 = .ok (.f2d, 1) := by decide +kernel
theorem dX0_realFits_31 : decode cX0_realFits 31 = .ok (.dload_n 0, 1) := by decide +kernel
theorem dX0_realFits_32 : decode cX0_realFits 32 = .ok (.dcmp .l, 1) := by decide +kernel
theorem dX0_realFits_33 : decode cX0_realFits 33 = .ok (.ifCond .ne 7, 3) := by decide +kernel
theorem dX0_realFits_36 : decode cX0_realFits 36 = .ok (.iconst 1, 1) := by decide +kernel
theorem dX0_realFits_37 : decode cX0_realFits 37 = .ok (.goto 4, 3) := by decide +kernel
theorem dX0_realFits_40 : decode cX0_realFits 40 = .ok (.iconst 0, 1) := by decide +kernel
theorem dX0_realFits_41 : decode cX0_realFits 41 = .ok (.ireturn, 1) := by decide +kernel
theorem dX0_realFits_42 : decode cX0_realFits 42 = .ok (.iconst 1, 1) := by decide +kernel
theorem dX0_realFits_43 : decode cX0_realFits 43 = .ok (.ireturn, 1) := by decide +kernel
theorem dX0_realFits_44 : decode cX0_realFits 44 = .ok (.dload_n 0, 1) := by decide +kernel
theorem dX0_realFits_45 : decode cX0_realFits 45 = .ok (.dload_n 0, 1) := by decide +kernel
theorem dX0_realFits_46 : decode cX0_realFits 46 = .ok (.d2l, 1) := by decide +kernel
theorem dX0_realFits_47 : decode cX0_realFits 47 = .ok (.invokestatic 81, 3) := by decide +kernel
theorem dX0_realFits_50 : decode cX0_realFits 50 = .ok (.ifCond .eq 16, 3) := by decide +kernel
theorem dX0_realFits_53 : decode cX0_realFits 53 = .ok (.dload_n 0, 1) := by decide +kernel
theorem dX0_realFits_54 : decode cX0_realFits 54 = .ok (.d2l, 1) := by decide +kernel
theorem dX0_realFits_55 : decode cX0_realFits 55 = .ok (.iload_n 2, 1) := by decide +kernel
theorem dX0_realFits_56 : decode cX0_realFits 56 = .ok (.invokestatic 63, 3) := by decide +kernel
theorem dX0_realFits_59 : decode cX0_realFits 59 = .ok (.ifCond .eq 7, 3) := by decide +kernel
theorem dX0_realFits_62 : decode cX0_realFits 62 = .ok (.iconst 1, 1) := by decide +kernel
theorem dX0_realFits_63 : decode cX0_realFits 63 = .ok (.goto 4, 3) := by decide +kernel
theorem dX0_realFits_66 : decode cX0_realFits 66 = .ok (.iconst 0, 1) := by decide +kernel
theorem dX0_realFits_67 : decode cX0_realFits 67 = .ok (.ireturn, 1) := by decide +kernel
theorem dX0_isJust_0 : decode cX0_isJust 0 = .ok (.dload_n 0, 1) := by decide +kernel
theorem dX0_isJust_1 : decode cX0_isJust 1 = .ok (.ldc2_w 85, 3) := by decide +kernel
theorem dX0_isJust_4 : decode cX0_isJust 4 = .ok (.dcmp .g, 1) := by decide +kernel
theorem dX0_isJust_5 : decode cX0_isJust 5 = .ok (.ifCond .ge 21, 3) := by decide +kernel
theorem dX0_isJust_8 : decode cX0_isJust 8 = .ok (.lload_n 2, 1) := by decide +kernel
theorem dX0_isJust_9 : decode cX0_isJust 9 = .ok (.l2d, 1) := by decide +kernel
theorem dX0_isJust_10 : decode cX0_isJust 10 = .ok (.dload_n 0, 1) := by decide +kernel
theorem dX0_isJust_11 : decode cX0_isJust 11 = .ok (.dcmp .l, 1) := by decide +kernel
theorem dX0_isJust_12 : decode cX0_isJust 12 = .ok (.ifCond .ne 14, 3) := by decide +kernel
theorem dX0_isJust_15 : decode cX0_isJust 15 = .ok (.dload_n 0, 1) := by decide +kernel
theorem dX0_isJust_16 : decode cX0_isJust 16 = .ok (.d2l, 1) := by decide +kernel
theorem dX0_isJust_17 : decode cX0_isJust 17 = .ok (.lload_n 2, 1) := by decide +kernel
theorem dX0_isJust_18 : decode cX0_isJust 18 = .ok (.lcmp, 1) := by decide +kernel
theorem dX0_isJust_19 : decode cX0_isJust 19 = .ok (.ifCond .ne 7, 3) := by decide +kernel
theorem dX0_isJust_22 : decode cX0_isJust 22 = .ok (.iconst 1, 1) := by decide +kernel
theorem dX0_isJust_23 : decode cX0_isJust 23 = .ok (.goto 4, 3) := by decide +kernel
theorem dX0_isJust_26 : decode cX0_isJust 26 = .ok (.iconst 0, 1) := by decide +kernel
theorem dX0_isJust_27 : decode cX0_isJust 27 = .ok (.ireturn, 1) := by decide +kernel
theorem dX1_init_0 : decode cX1_init 0 = .ok (.aload_n 0, 1) := by decide +kernel
theorem dX1_init_1 : decode cX1_init 1 = .ok (.invokespecial 3, 3) := by decide +kernel
theorem dX1_init_4 : decode cX1_init 4 = .ok (.aload_n 0, 1) := by decide +kernel
theorem dX1_init_5 : decode cX1_init 5 = .ok (.iconst 0, 1) := by decide +kernel
theorem dX1_init_6 : decode cX1_init 6 = .ok (.putfield 9, 3) := by decide +kernel
theorem dX1_init_9 : decode cX1_init 9 = .ok (.aload_n 0, 1) := by decide +kernel
theorem dX1_init_10 : decode cX1_init 10 = .ok (.iconst 0, 1) := by decide +kernel
theorem dX1_init_11 : decode cX1_init 11 = .ok (.putfield 15, 3) := by decide +kernel
theorem dX1_init_14 : decode cX1_init 14 = .ok (.aload_n 0, 1) := by decide +kernel
theorem dX1_init_15 : decode cX1_init 15 = .ok (.iconst 0, 1) := by decide +kernel
theorem dX1_init_16 : decode cX1_init 16 = .ok (.putfield 18, 3) := by decide +kernel
theorem dX1_init_19 : decode cX1_init 19 = .ok (.aload_n 0, 1) := by decide +kernel
theorem dX1_init_20 : decode cX1_init 20 = .ok (.iconst (-1), 1) := by decide +kernel
theorem dX1_init_21 : decode cX1_init 21 = .ok (.putfield 21, 3) := by decide +kernel
theorem dX1_init_24 : decode cX1_init 24 = .ok (.return_, 1) := by decide +kernel
theorem dX1_begin_0 : decode cX1_begin 0 = .ok (.aload_n 0, 1) := by decide +kernel
theorem dX1_begin_1 : decode cX1_begin 1 = .ok (.iload_n 1, 1) := by decide +kernel
theorem dX1_begin_2 : decode cX1_begin 2 = .ok (.putfield 9, 3) := by decide +kernel
theorem dX1_begin_5 : decode cX1_begin 5 = .ok (.aload_n 0, 1) := by decide +kernel
theorem dX1_begin_6 : decode cX1_begin 6 = .ok (.iload_n 2, 1) := by decide +kernel
theorem dX1_begin_7 : decode cX1_begin 7 = .ok (.putfield 15, 3) := by decide +kernel
theorem dX1_begin_10 : decode cX1_begin 10 = .ok (.return_, 1) := by decide +kernel
theorem dX1_weighed_0 : decode cX1_weighed 0 = .ok (.aload_n 0, 1) := by decide +kernel
theorem dX1_weighed_1 : decode cX1_weighed 1 = .ok (.getfield 9, 3) := by decide +kernel
theorem dX1_weighed_4 : decode cX1_weighed 4 = .ok (.lookupswitch 56 #[(1, 28), (2, 40)], 28) := by decide +kernel
theorem dX1_weighed_32 : decode cX1_weighed 32 = .ok (.aload_n 0, 1) := by decide +kernel
theorem dX1_weighed_33 : decode cX1_weighed 33 = .ok (.getfield 15, 3) := by decide +kernel
theorem dX1_weighed_36 : decode cX1_weighed 36 = .ok (.iconst 3, 1) := by decide +kernel
theorem dX1_weighed_37 : decode cX1_weighed 37 = .ok (.aload_n 0, 1) := by decide +kernel
theorem dX1_weighed_38 : decode cX1_weighed 38 = .ok (.getfield 18, 3) := by decide +kernel
theorem dX1_weighed_41 : decode cX1_weighed 41 = .ok (.imul, 1) := by decide +kernel
theorem dX1_weighed_42 : decode cX1_weighed 42 = .ok (.iadd, 1) := by decide +kernel
theorem dX1_weighed_43 : decode cX1_weighed 43 = .ok (.ireturn, 1) := by decide +kernel
theorem dX1_weighed_44 : decode cX1_weighed 44 = .ok (.aload_n 0, 1) := by decide +kernel
theorem dX1_weighed_45 : decode cX1_weighed 45 = .ok (.getfield 15, 3) := by decide +kernel
theorem dX1_weighed_48 : decode cX1_weighed 48 = .ok (.iconst 2, 1) := by decide +kernel
theorem dX1_weighed_49 : decode cX1_weighed 49 = .ok (.idiv, 1) := by decide +kernel
theorem dX1_weighed_50 : decode cX1_weighed 50 = .ok (.aload_n 0, 1) := by decide +kernel
theorem dX1_weighed_51 : decode cX1_weighed 51 = .ok (.getfield 18, 3) := by decide +kernel
theorem dX1_weighed_54 : decode cX1_weighed 54 = .ok (.iconst 1, 1) := by decide +kernel
theorem dX1_weighed_55 : decode cX1_weighed 55 = .ok (.iadd, 1) := by decide +kernel
theorem dX1_weighed_56 : decode cX1_weighed 56 = .ok (.iconst 2, 1) := by decide +kernel
theorem dX1_weighed_57 : decode cX1_weighed 57 = .ok (.idiv, 1) := by decide +kernel
theorem dX1_weighed_58 : decode cX1_weighed 58 = .ok (.iadd, 1) := by decide +kernel
theorem dX1_weighed_59 : decode cX1_weighed 59 = .ok (.ireturn, 1) := by decide +kernel
theorem dX1_weighed_60 : decode cX1_weighed 60 = .ok (.aload_n 0, 1) := by decide +kernel
theorem dX1_weighed_61 : decode cX1_weighed 61 = .ok (.getfield 15, 3) := by decide +kernel
theorem dX1_weighed_64 : decode cX1_weighed 64 = .ok (.ireturn, 1) := by decide +kernel
theorem dX2_init_0 : decode cX2_init 0 = .ok (.aload_n 0, 1) := by decide +kernel
theorem dX2_init_1 : decode cX2_init 1 = .ok (.invokespecial 3, 3) := by decide +kernel
theorem dX2_init_4 : decode cX2_init 4 = .ok (.aload_n 0, 1) := by decide +kernel
theorem dX2_init_5 : decode cX2_init 5 = .ok (.bipush 24, 2) := by decide +kernel
theorem dX2_init_7 : decode cX2_init 7 = .ok (.anewarray 9, 3) := by decide +kernel
theorem dX2_init_10 : decode cX2_init 10 = .ok (.putfield 11, 3) := by decide +kernel
theorem dX2_init_13 : decode cX2_init 13 = .ok (.aload_n 0, 1) := by decide +kernel
theorem dX2_init_14 : decode cX2_init 14 = .ok (.bipush 6, 2) := by decide +kernel
theorem dX2_init_16 : decode cX2_init 16 = .ok (.anewarray 9, 3) := by decide +kernel
theorem dX2_init_19 : decode cX2_init 19 = .ok (.putfield 15, 3) := by decide +kernel
theorem dX2_init_22 : decode cX2_init 22 = .ok (.aload_n 0, 1) := by decide +kernel
theorem dX2_init_23 : decode cX2_init 23 = .ok (.bipush 40, 2) := by decide +kernel
theorem dX2_init_25 : decode cX2_init 25 = .ok (.anewarray 18, 3) := by decide +kernel
theorem dX2_init_28 : decode cX2_init 28 = .ok (.putfield 20, 3) := by decide +kernel
theorem dX2_init_31 : decode cX2_init 31 = .ok (.aload_n 0, 1) := by decide +kernel
theorem dX2_init_32 : decode cX2_init 32 = .ok (.iconst 0, 1) := by decide +kernel
theorem dX2_init_33 : decode cX2_init 33 = .ok (.putfield 24, 3) := by decide +kernel
theorem dX2_init_36 : decode cX2_init 36 = .ok (.aload_n 0, 1) := by decide +kernel
theorem dX2_init_37 : decode cX2_init 37 = .ok (.iconst 0, 1) := by decide +kernel
theorem dX2_init_38 : decode cX2_init 38 = .ok (.putfield 28, 3) := by decide +kernel
theorem dX2_init_41 : decode cX2_init 41 = .ok (.iconst 0, 1) := by decide +kernel
theorem dX2_init_42 : decode cX2_init 42 = .ok (.istore_n 1, 1) := by decide +kernel
theorem dX2_init_43 : decode cX2_init 43 = .ok (.iload_n 1, 1) := by decide +kernel
theorem dX2_init_44 : decode cX2_init 44 = .ok (.bipush 24, 2) := by decide +kernel
theorem dX2_init_46 : decode cX2_init 46 = .ok (.if_icmp .ge 22, 3) := by decide +kernel
theorem dX2_init_49 : decode cX2_init 49 = .ok (.aload_n 0, 1) := by decide +kernel
theorem dX2_init_50 : decode cX2_init 50 = .ok (.getfield 11, 3) := by decide +kernel
theorem dX2_init_53 : decode cX2_init 53 = .ok (.iload_n 1, 1) := by decide +kernel
theorem dX2_init_54 : decode cX2_init 54 = .ok (.new 9, 3) := by decide +kernel
theorem dX2_init_57 : decode cX2_init 57 = .ok (.dup, 1) := by decide +kernel
theorem dX2_init_58 : decode cX2_init 58 = .ok (.invokespecial 31, 3) := by decide +kernel
theorem dX2_init_61 : decode cX2_init 61 = .ok (.aastore, 1) := by decide +kernel
theorem dX2_init_62 : decode cX2_init 62 = .ok (.iinc 1 1, 3) := by decide +kernel
theorem dX2_init_65 : decode cX2_init 65 = .ok (.goto (-22), 3) := by decide +kernel
theorem dX2_init_68 : decode cX2_init 68 = .ok (.iconst 0, 1) := by decide +kernel
theorem dX2_init_69 : decode cX2_init 69 = .ok (.istore_n 1, 1) := by decide +kernel
theorem dX2_init_70 : decode cX2_init 70 = .ok (.iload_n 1, 1) := by decide +kernel
theorem dX2_init_71 : decode cX2_init 71 = .ok (.bipush 6, 2) := by decide +kernel
theorem dX2_init_73 : decode cX2_init 73 = .ok (.if_icmp .ge 22, 3) := by decide +kernel
theorem dX2_init_76 : decode cX2_init 76 = .ok (.aload_n 0, 1) := by decide +kernel
theorem dX2_init_77 : decode cX2_init 77 = .ok (.getfield 15, 3) := by decide +kernel
theorem dX2_init_80 : decode cX2_init 80 = .ok (.iload_n 1, 1) := by decide +kernel
theorem dX2_init_81 : decode cX2_init 81 = .ok (.new 9, 3) := by decide +kernel
theorem dX2_init_84 : decode cX2_init 84 = .ok (.dup, 1) := by decide +kernel
theorem dX2_init_85 : decode cX2_init 85 = .ok (.invokespecial 31, 3) := by decide +kernel
theorem dX2_init_88 : decode cX2_init 88 = .ok (.aastore, 1) := by decide +kernel
theorem dX2_init_89 : decode cX2_init 89 = .ok (.iinc 1 1, 3) := by decide +kernel
theorem dX2_init_92 : decode cX2_init 92 = .ok (.goto (-22), 3) := by decide +kernel
theorem dX2_init_95 : decode cX2_init 95 = .ok (.iconst 0, 1) := by decide +kernel
theorem dX2_init_96 : decode cX2_init 96 = .ok (.istore_n 1, 1) := by decide +kernel
theorem dX2_init_97 : decode cX2_init 97 = .ok (.iload_n 1, 1) := by decide +kernel
theorem dX2_init_98 : decode cX2_init 98 = .ok (.bipush 40, 2) := by decide +kernel
theorem dX2_init_100 : decode cX2_init 100 = .ok (.if_icmp .ge 22, 3) := by decide +kernel
theorem dX2_init_103 : decode cX2_init 103 = .ok (.aload_n 0, 1) := by decide +kernel
theorem dX2_init_104 : decode cX2_init 104 = .ok (.getfield 20, 3) := by decide +kernel
theorem dX2_init_107 : decode cX2_init 107 = .ok (.iload_n 1, 1) := by decide +kernel
theorem dX2_init_108 : decode cX2_init 108 = .ok (.new 18, 3) := by decide +kernel
theorem dX2_init_111 : decode cX2_init 111 = .ok (.dup, 1) := by decide +kernel
theorem dX2_init_112 : decode cX2_init 112 = .ok (.invokespecial 32, 3) := by decide +kernel
theorem dX2_init_115 : decode cX2_init 115 = .ok (.aastore, 1) := by decide +kernel
theorem dX2_init_116 : decode cX2_init 116 = .ok (.iinc 1 1, 3) := by decide +kernel
theorem dX2_init_119 : decode cX2_init 119 = .ok (.goto (-22), 3) := by decide +kernel
theorem dX2_init_122 : decode cX2_init 122 = .ok (.return_, 1) := by decide +kernel
theorem dX2_make_0 : decode cX2_make 0 = .ok (.iload_n 1, 1) := by decide +kernel
theorem dX2_make_1 : decode cX2_make 1 = .ok (.invokestatic 33, 3) := by decide +kernel
theorem dX2_make_4 : decode cX2_make 4 = .ok (.ifCond .eq 19, 3) := by decide +kernel
theorem dX2_make_7 : decode cX2_make 7 = .ok (.iload_n 2, 1) := by decide +kernel
theorem dX2_make_8 : decode cX2_make 8 = .ok (.ifCond .lt 15, 3) := by decide +kernel
theorem dX2_make_11 : decode cX2_make 11 = .ok (.iload_n 2, 1) := by decide +kernel
theorem dX2_make_12 : decode cX2_make 12 = .ok (.bipush 9, 2) := by decide +kernel
theorem dX2_make_14 : decode cX2_make 14 = .ok (.if_icmp .gt 9, 3) := by decide +kernel
theorem dX2_make_17 : decode cX2_make 17 = .ok (.iload_n 3, 1) := by decide +kernel
theorem dX2_make_18 : decode cX2_make 18 = .ok (.bipush 40, 2) := by decide +kernel
theorem dX2_make_20 : decode cX2_make 20 = .ok (.if_icmp .le 5, 3) := by decide +kernel
theorem dX2_make_23 : decode cX2_make 23 = .ok (.iconst (-1), 1) := by decide +kernel
theorem dX2_make_24 : decode cX2_make 24 = .ok (.ireturn, 1) := by decide +kernel
theorem dX2_make_25 : decode cX2_make 25 = .ok (.iload_n 3, 1) := by decide +kernel
theorem dX2_make_26 : decode cX2_make 26 = .ok (.ifCond .ge 6, 3) := by decide +kernel
theorem dX2_make_29 : decode cX2_make 29 = .ok (.bipush (-16), 2) := by decide +kernel
theorem dX2_make_31 : decode cX2_make 31 = .ok (.ireturn, 1) := by decide +kernel
theorem dX2_make_32 : decode cX2_make 32 = .ok (.aload_n 0, 1) := by decide +kernel
theorem dX2_make_33 : decode cX2_make 33 = .ok (.getfield 11, 3) := by decide +kernel
theorem dX2_make_36 : decode cX2_make 36 = .ok (.iload_n 1, 1) := by decide +kernel
theorem dX2_make_37 : decode cX2_make 37 = .ok (.aaload, 1) := by decide +kernel
theorem dX2_make_38 : decode cX2_make 38 = .ok (.iload_n 2, 1) := by decide +kernel
theorem dX2_make_39 : decode cX2_make 39 = .ok (.iload_n 3, 1) := by decide +kernel
theorem dX2_make_40 : decode cX2_make 40 = .ok (.invokevirtual 37, 3) := by decide +kernel
theorem dX2_make_43 : decode cX2_make 43 = .ok (.iload_n 3, 1) := by decide +kernel
theorem dX2_make_44 : decode cX2_make 44 = .ok (.ireturn, 1) := by decide +kernel
theorem dX2_let_0 : decode cX2_let 0 = .ok (.iload_n 1, 1) := by decide +kernel
theorem dX2_let_1 : decode cX2_let 1 = .ok (.invokestatic 33, 3) := by decide +kernel
theorem dX2_let_4 : decode cX2_let 4 = .ok (.ifCond .ne 5, 3) := by decide +kernel
theorem dX2_let_7 : decode cX2_let 7 = .ok (.iconst (-1), 1) := by decide +kernel
theorem dX2_let_8 : decode cX2_let 8 = .ok (.ireturn, 1) := by decide +kernel
theorem dX2_let_9 : decode cX2_let 9 = .ok (.aload_n 0, 1) := by decide +kernel
theorem dX2_let_10 : decode cX2_let 10 = .ok (.getfield 11, 3) := by decide +kernel
theorem dX2_let_13 : decode cX2_let 13 = .ok (.iload_n 1, 1) := by decide +kernel
theorem dX2_let_14 : decode cX2_let 14 = .ok (.aaload, 1) := by decide +kernel
theorem dX2_let_15 : decode cX2_let 15 = .ok (.astore_n 2, 1) := by decide +kernel
theorem dX2_let_16 : decode cX2_let 16 = .ok (.aload_n 2, 1) := by decide +kernel
theorem dX2_let_17 : decode cX2_let 17 = .ok (.invokevirtual 41, 3) := by decide +kernel
theorem dX2_let_20 : decode cX2_let 20 = .ok (.ifCond .eq 6, 3) := by decide +kernel
theorem dX2_let_23 : decode cX2_let 23 = .ok (.bipush (-11), 2) := by decide +kernel
theorem dX2_let_25 : decode cX2_let 25 = .ok (.ireturn, 1) := by decide +kernel
theorem dX2_let_26 : decode cX2_let 26 = .ok (.aload_n 2, 1) := by decide +kernel
theorem dX2_let_27 : decode cX2_let 27 = .ok (.getfield 45, 3) := by decide +kernel
theorem dX2_let_30 : decode cX2_let 30 = .ok (.istore_n 3, 1) := by decide +kernel
theorem dX2_let_31 : decode cX2_let 31 = .ok (.aload_n 2, 1) := by decide +kernel
theorem dX2_let_32 : decode cX2_let 32 = .ok (.invokevirtual 48, 3) := by decide +kernel
theorem dX2_let_35 : decode cX2_let 35 = .ok (.iload_n 3, 1) := by decide +kernel
theorem dX2_let_36 : decode cX2_let 36 = .ok (.ireturn, 1) := by decide +kernel
theorem dX2_drop_0 : decode cX2_drop 0 = .ok (.iload_n 1, 1) := by decide +kernel
theorem dX2_drop_1 : decode cX2_drop 1 = .ok (.invokestatic 33, 3) := by decide +kernel
theorem dX2_drop_4 : decode cX2_drop 4 = .ok (.ifCond .ne 5, 3) := by decide +kernel
theorem dX2_drop_7 : decode cX2_drop 7 = .ok (.iconst (-1), 1) := by decide +kernel
theorem dX2_drop_8 : decode cX2_drop 8 = .ok (.ireturn, 1) := by decide +kernel
theorem dX2_drop_9 : decode cX2_drop 9 = .ok (.aload_n 0, 1) := by decide +kernel
theorem dX2_drop_10 : decode cX2_drop 10 = .ok (.getfield 11, 3) := by decide +kernel
theorem dX2_drop_13 : decode cX2_drop 13 = .ok (.iload_n 1, 1) := by decide +kernel
theorem dX2_drop_14 : decode cX2_drop 14 = .ok (.aaload, 1) := by decide +kernel
theorem dX2_drop_15 : decode cX2_drop 15 = .ok (.astore_n 2, 1) := by decide +kernel
theorem dX2_drop_16 : decode cX2_drop 16 = .ok (.aload_n 2, 1) := by decide +kernel
theorem dX2_drop_17 : decode cX2_drop 17 = .ok (.invokevirtual 51, 3) := by decide +kernel
theorem dX2_drop_20 : decode cX2_drop 20 = .ok (.ifCond .eq 5, 3) := by decide +kernel
theorem dX2_drop_23 : decode cX2_drop 23 = .ok (.iconst 0, 1) := by decide +kernel
theorem dX2_drop_24 : decode cX2_drop 24 = .ok (.ireturn, 1) := by decide +kernel
theorem dX2_drop_25 : decode cX2_drop 25 = .ok (.aload_n 2, 1) := by decide +kernel
theorem dX2_drop_26 : decode cX2_drop 26 = .ok (.invokevirtual 54, 3) := by decide +kernel
theorem dX2_drop_29 : decode cX2_drop 29 = .ok (.iconst 1, 1) := by decide +kernel
theorem dX2_drop_30 : decode cX2_drop 30 = .ok (.ireturn, 1) := by decide +kernel
theorem dX2_kind_0 : decode cX2_kind 0 = .ok (.iload_n 1, 1) := by decide +kernel
theorem dX2_kind_1 : decode cX2_kind 1 = .ok (.invokestatic 33, 3) := by decide +kernel
theorem dX2_kind_4 : decode cX2_kind 4 = .ok (.ifCond .ne 5, 3) := by decide +kernel
theorem dX2_kind_7 : decode cX2_kind 7 = .ok (.iconst (-1), 1) := by decide +kernel
theorem dX2_kind_8 : decode cX2_kind 8 = .ok (.ireturn, 1) := by decide +kernel
theorem dX2_kind_9 : decode cX2_kind 9 = .ok (.aload_n 0, 1) := by decide +kernel
theorem dX2_kind_10 : decode cX2_kind 10 = .ok (.getfield 11, 3) := by decide +kernel
theorem dX2_kind_13 : decode cX2_kind 13 = .ok (.iload_n 1, 1) := by decide +kernel
theorem dX2_kind_14 : decode cX2_kind 14 = .ok (.aaload, 1) := by decide +kernel
theorem dX2_kind_15 : decode cX2_kind 15 = .ok (.astore_n 2, 1) := by decide +kernel
theorem dX2_kind_16 : decode cX2_kind 16 = .ok (.aload_n 2, 1) := by decide +kernel
theorem dX2_kind_17 : decode cX2_kind 17 = .ok (.invokevirtual 51, 3) := by decide +kernel
theorem dX2_kind_20 : decode cX2_kind 20 = .ok (.ifCond .eq 8, 3) := by decide +kernel
theorem dX2_kind_23 : decode cX2_kind 23 = .ok (.bipush (-11), 2) := by decide +kernel
theorem dX2_kind_25 : decode cX2_kind 25 = .ok (.goto 7, 3) := by decide +kernel
theorem dX2_kind_28 : decode cX2_kind 28 = .ok (.aload_n 2, 1) := by decide +kernel
theorem dX2_kind_29 : decode cX2_kind 29 = .ok (.getfield 57, 3) := by decide +kernel
theorem dX2_kind_32 : decode cX2_kind 32 = .ok (.ireturn, 1) := by decide +kernel
theorem dX2_length_0 : decode cX2_length 0 = .ok (.iload_n 1, 1) := by decide +kernel
theorem dX2_length_1 : decode cX2_length 1 = .ok (.invokestatic 33, 3) := by decide +kernel
theorem dX2_length_4 : decode cX2_length 4 = .ok (.ifCond .ne 5, 3) := by decide +kernel
theorem dX2_length_7 : decode cX2_length 7 = .ok (.iconst (-1), 1) := by decide +kernel
theorem dX2_length_8 : decode cX2_length 8 = .ok (.ireturn, 1) := by decide +kernel
theorem dX2_length_9 : decode cX2_length 9 = .ok (.aload_n 0, 1) := by decide +kernel
theorem dX2_length_10 : decode cX2_length 10 = .ok (.getfield 11, 3) := by decide +kernel
theorem dX2_length_13 : decode cX2_length 13 = .ok (.iload_n 1, 1) := by decide +kernel
theorem dX2_length_14 : decode cX2_length 14 = .ok (.aaload, 1) := by decide +kernel
theorem dX2_length_15 : decode cX2_length 15 = .ok (.astore_n 2, 1) := by decide +kernel
theorem dX2_length_16 : decode cX2_length 16 = .ok (.aload_n 2, 1) := by decide +kernel
theorem dX2_length_17 : decode cX2_length 17 = .ok (.invokevirtual 41, 3) := by decide +kernel
theorem dX2_length_20 : decode cX2_length 20 = .ok (.ifCond .eq 8, 3) := by decide +kernel
theorem dX2_length_23 : decode cX2_length 23 = .ok (.bipush (-11), 2) := by decide +kernel
theorem dX2_length_25 : decode cX2_length 25 = .ok (.goto 7, 3) := by decide +kernel
theorem dX2_length_28 : decode cX2_length 28 = .ok (.aload_n 2, 1) := by decide +kernel
theorem dX2_length_29 : decode cX2_length 29 = .ok (.getfield 45, 3) := by decide +kernel
theorem dX2_length_32 : decode cX2_length 32 = .ok (.ireturn, 1) := by decide +kernel
theorem dX2_put_0 : decode cX2_put 0 = .ok (.aload_n 0, 1) := by decide +kernel
theorem dX2_put_1 : decode cX2_put 1 = .ok (.iload_n 1, 1) := by decide +kernel
theorem dX2_put_2 : decode cX2_put 2 = .ok (.iload_n 2, 1) := by decide +kernel
theorem dX2_put_3 : decode cX2_put 3 = .ok (.iconst 0, 1) := by decide +kernel
theorem dX2_put_4 : decode cX2_put 4 = .ok (.invokevirtual 60, 3) := by decide +kernel
theorem dX2_put_7 : decode cX2_put 7 = .ok (.istore 5, 2) := by decide +kernel
theorem dX2_put_9 : decode cX2_put 9 = .ok (.iload 5, 2) := by decide +kernel
theorem dX2_put_11 : decode cX2_put 11 = .ok (.ifCond .eq 6, 3) := by decide +kernel
theorem dX2_put_14 : decode cX2_put 14 = .ok (.iload 5, 2) := by decide +kernel
theorem dX2_put_16 : decode cX2_put 16 = .ok (.ireturn, 1) := by decide +kernel
theorem dX2_put_17 : decode cX2_put 17 = .ok (.aload_n 0, 1) := by decide +kernel
theorem dX2_put_18 : decode cX2_put 18 = .ok (.getfield 11, 3) := by decide +kernel
theorem dX2_put_21 : decode cX2_put 21 = .ok (.iload_n 1, 1) := by decide +kernel
theorem dX2_put_22 : decode cX2_put 22 = .ok (.aaload, 1) := by decide +kernel
theorem dX2_put_23 : decode cX2_put 23 = .ok (.iload_n 2, 1) := by decide +kernel
theorem dX2_put_24 : decode cX2_put 24 = .ok (.lload_n 3, 1) := by decide +kernel
theorem dX2_put_25 : decode cX2_put 25 = .ok (.invokevirtual 64, 3) := by decide +kernel
theorem dX2_put_28 : decode cX2_put 28 = .ok (.iconst 1, 1) := by decide +kernel
theorem dX2_put_29 : decode cX2_put 29 = .ok (.ireturn, 1) := by decide +kernel
theorem dX2_get_0 : decode cX2_get 0 = .ok (.iload_n 1, 1) := by decide +kernel
theorem dX2_get_1 : decode cX2_get 1 = .ok (.invokestatic 33, 3) := by decide +kernel
theorem dX2_get_4 : decode cX2_get 4 = .ok (.ifCond .ne 11, 3) := by decide +kernel
theorem dX2_get_7 : decode cX2_get 7 = .ok (.new 68, 3) := by decide +kernel
theorem dX2_get_10 : decode cX2_get 10 = .ok (.dup, 1) := by decide +kernel
theorem dX2_get_11 : decode cX2_get 11 = .ok (.invokespecial 70, 3) := by decide +kernel
theorem dX2_get_14 : decode cX2_get 14 = .ok (.athrow, 1) := by decide +kernel
theorem dX2_get_15 : decode cX2_get 15 = .ok (.aload_n 0, 1) := by decide +kernel
theorem dX2_get_16 : decode cX2_get 16 = .ok (.getfield 11, 3) := by decide +kernel
theorem dX2_get_19 : decode cX2_get 19 = .ok (.iload_n 1, 1) := by decide +kernel
theorem dX2_get_20 : decode cX2_get 20 = .ok (.aaload, 1) := by decide +kernel
theorem dX2_get_21 : decode cX2_get 21 = .ok (.astore_n 3, 1) := by decide +kernel
theorem dX2_get_22 : decode cX2_get 22 = .ok (.aload_n 3, 1) := by decide +kernel
theorem dX2_get_23 : decode cX2_get 23 = .ok (.invokevirtual 41, 3) := by decide +kernel
theorem dX2_get_26 : decode cX2_get 26 = .ok (.ifCond .eq 11, 3) := by decide +kernel
theorem dX2_get_29 : decode cX2_get 29 = .ok (.new 71, 3) := by decide +kernel
theorem dX2_get_32 : decode cX2_get 32 = .ok (.dup, 1) := by decide +kernel
theorem dX2_get_33 : decode cX2_get 33 = .ok (.invokespecial 73, 3) := by decide +kernel
theorem dX2_get_36 : decode cX2_get 36 = .ok (.athrow, 1) := by decide +kernel
theorem dX2_get_37 : decode cX2_get 37 = .ok (.aload_n 3, 1) := by decide +kernel
theorem dX2_get_38 : decode cX2_get 38 = .ok (.iload_n 2, 1) := by decide +kernel
theorem dX2_get_39 : decode cX2_get 39 = .ok (.invokevirtual 74, 3) := by decide +kernel
theorem dX2_get_42 : decode cX2_get 42 = .ok (.ifCond .ne 11, 3) := by decide +kernel
theorem dX2_get_45 : decode cX2_get 45 = .ok (.new 68, 3) := by decide +kernel
theorem dX2_get_48 : decode cX2_get 48 = .ok (.dup, 1) := by decide +kernel
theorem dX2_get_49 : decode cX2_get 49 = .ok (.invokespecial 70, 3) := by decide +kernel
theorem dX2_get_52 : decode cX2_get 52 = .ok (.athrow, 1) := by decide +kernel
theorem dX2_get_53 : decode cX2_get 53 = .ok (.aload_n 3, 1) := by decide +kernel
theorem dX2_get_54 : decode cX2_get 54 = .ok (.invokevirtual 77, 3) := by decide +kernel
theorem dX2_get_57 : decode cX2_get 57 = .ok (.ifCond .eq 20, 3) := by decide +kernel
theorem dX2_get_60 : decode cX2_get 60 = .ok (.aload_n 3, 1) := by decide +kernel
theorem dX2_get_61 : decode cX2_get 61 = .ok (.iload_n 2, 1) := by decide +kernel
theorem dX2_get_62 : decode cX2_get 62 = .ok (.invokevirtual 80, 3) := by decide +kernel
theorem dX2_get_65 : decode cX2_get 65 = .ok (.iconst (-1), 1) := by decide +kernel
theorem dX2_get_66 : decode cX2_get 66 = .ok (.if_icmp .ne 11, 3) := by decide +kernel
theorem dX2_get_69 : decode cX2_get 69 = .ok (.new 71, 3) := by decide +kernel
theorem dX2_get_72 : decode cX2_get 72 = .ok (.dup, 1) := by decide +kernel
theorem dX2_get_73 : decode cX2_get 73 = .ok (.invokespecial 73, 3) := by decide +kernel
theorem dX2_get_76 : decode cX2_get 76 = .ok (.athrow, 1) := by decide +kernel
theorem dX2_get_77 : decode cX2_get 77 = .ok (.aload_n 3, 1) := by decide +kernel
theorem dX2_get_78 : decode cX2_get 78 = .ok (.iload_n 2, 1) := by decide +kernel
theorem dX2_get_79 : decode cX2_get 79 = .ok (.invokevirtual 84, 3) := by decide +kernel
theorem dX2_get_82 : decode cX2_get 82 = .ok (.lreturn, 1) := by decide +kernel
theorem dX2_sum_0 : decode cX2_sum 0 = .ok (.iload_n 1, 1) := by decide +kernel
theorem dX2_sum_1 : decode cX2_sum 1 = .ok (.invokestatic 33, 3) := by decide +kernel
theorem dX2_sum_4 : decode cX2_sum 4 = .ok (.ifCond .eq 10, 3) := by decide +kernel
theorem dX2_sum_7 : decode cX2_sum 7 = .ok (.iload_n 2, 1) := by decide +kernel
theorem dX2_sum_8 : decode cX2_sum 8 = .ok (.invokestatic 88, 3) := by decide +kernel
theorem dX2_sum_11 : decode cX2_sum 11 = .ok (.ifCond .ne 5, 3) := by decide +kernel
theorem dX2_sum_14 : decode cX2_sum 14 = .ok (.iconst (-1), 1) := by decide +kernel
theorem dX2_sum_15 : decode cX2_sum 15 = .ok (.ireturn, 1) := by decide +kernel
theorem dX2_sum_16 : decode cX2_sum 16 = .ok (.aload_n 0, 1) := by decide +kernel
theorem dX2_sum_17 : decode cX2_sum 17 = .ok (.getfield 11, 3) := by decide +kernel
theorem dX2_sum_20 : decode cX2_sum 20 = .ok (.iload_n 1, 1) := by decide +kernel
theorem dX2_sum_21 : decode cX2_sum 21 = .ok (.aaload, 1) := by decide +kernel
theorem dX2_sum_22 : decode cX2_sum 22 = .ok (.astore_n 3, 1) := by decide +kernel
theorem dX2_sum_23 : decode cX2_sum 23 = .ok (.aload_n 3, 1) := by decide +kernel
theorem dX2_sum_24 : decode cX2_sum 24 = .ok (.invokevirtual 51, 3) := by decide +kernel
theorem dX2_sum_27 : decode cX2_sum 27 = .ok (.ifCond .eq 6, 3) := by decide +kernel
theorem dX2_sum_30 : decode cX2_sum 30 = .ok (.bipush (-11), 2) := by decide +kernel
theorem dX2_sum_32 : decode cX2_sum 32 = .ok (.ireturn, 1) := by decide +kernel
theorem dX2_sum_33 : decode cX2_sum 33 = .ok (.aload_n 3, 1) := by decide +kernel
theorem dX2_sum_34 : decode cX2_sum 34 = .ok (.getfield 57, 3) := by decide +kernel
theorem dX2_sum_37 : decode cX2_sum 37 = .ok (.iload_n 2, 1) := by decide +kernel
theorem dX2_sum_38 : decode cX2_sum 38 = .ok (.if_icmp .eq 6, 3) := by decide +kernel
theorem dX2_sum_41 : decode cX2_sum 41 = .ok (.bipush (-15), 2) := by decide +kernel
theorem dX2_sum_43 : decode cX2_sum 43 = .ok (.ireturn, 1) := by decide +kernel
theorem dX2_sum_44 : decode cX2_sum 44 = .ok (.aload_n 3, 1) := by decide +kernel
theorem dX2_sum_45 : decode cX2_sum 45 = .ok (.invokevirtual 41, 3) := by decide +kernel
theorem dX2_sum_48 : decode cX2_sum 48 = .ok (.ifCond .eq 8, 3) := by decide +kernel
theorem dX2_sum_51 : decode cX2_sum 51 = .ok (.bipush (-11), 2) := by decide +kernel
theorem dX2_sum_53 : decode cX2_sum 53 = .ok (.goto 7, 3) := by decide +kernel
theorem dX2_sum_56 : decode cX2_sum 56 = .ok (.aload_n 3, 1) := by decide +kernel
theorem dX2_sum_57 : decode cX2_sum 57 = .ok (.invokevirtual 91, 3) := by decide +kernel
theorem dX2_sum_60 : decode cX2_sum 60 = .ok (.ireturn, 1) := by decide +kernel
theorem dX2_turn_0 : decode cX2_turn 0 = .ok (.iload_n 1, 1) := by decide +kernel
theorem dX2_turn_1 : decode cX2_turn 1 = .ok (.invokestatic 33, 3) := by decide +kernel
theorem dX2_turn_4 : decode cX2_turn 4 = .ok (.ifCond .eq 10, 3) := by decide +kernel
theorem dX2_turn_7 : decode cX2_turn 7 = .ok (.iload_n 2, 1) := by decide +kernel
theorem dX2_turn_8 : decode cX2_turn 8 = .ok (.invokestatic 88, 3) := by decide +kernel
theorem dX2_turn_11 : decode cX2_turn 11 = .ok (.ifCond .ne 5, 3) := by decide +kernel
theorem dX2_turn_14 : decode cX2_turn 14 = .ok (.iconst (-1), 1) := by decide +kernel
theorem dX2_turn_15 : decode cX2_turn 15 = .ok (.ireturn, 1) := by decide +kernel
theorem dX2_turn_16 : decode cX2_turn 16 = .ok (.aload_n 0, 1) := by decide +kernel
theorem dX2_turn_17 : decode cX2_turn 17 = .ok (.getfield 11, 3) := by decide +kernel
theorem dX2_turn_20 : decode cX2_turn 20 = .ok (.iload_n 1, 1) := by decide +kernel
theorem dX2_turn_21 : decode cX2_turn 21 = .ok (.aaload, 1) := by decide +kernel
theorem dX2_turn_22 : decode cX2_turn 22 = .ok (.astore_n 3, 1) := by decide +kernel
theorem dX2_turn_23 : decode cX2_turn 23 = .ok (.aload_n 3, 1) := by decide +kernel
theorem dX2_turn_24 : decode cX2_turn 24 = .ok (.invokevirtual 51, 3) := by decide +kernel
theorem dX2_turn_27 : decode cX2_turn 27 = .ok (.ifCond .eq 6, 3) := by decide +kernel
theorem dX2_turn_30 : decode cX2_turn 30 = .ok (.bipush (-11), 2) := by decide +kernel
theorem dX2_turn_32 : decode cX2_turn 32 = .ok (.ireturn, 1) := by decide +kernel
theorem dX2_turn_33 : decode cX2_turn 33 = .ok (.aload_n 3, 1) := by decide +kernel
theorem dX2_turn_34 : decode cX2_turn 34 = .ok (.invokevirtual 77, 3) := by decide +kernel
theorem dX2_turn_37 : decode cX2_turn 37 = .ok (.ifCond .eq 6, 3) := by decide +kernel
theorem dX2_turn_40 : decode cX2_turn 40 = .ok (.bipush (-13), 2) := by decide +kernel
theorem dX2_turn_42 : decode cX2_turn 42 = .ok (.ireturn, 1) := by decide +kernel
theorem dX2_turn_43 : decode cX2_turn 43 = .ok (.aload_n 3, 1) := by decide +kernel
theorem dX2_turn_44 : decode cX2_turn 44 = .ok (.invokevirtual 41, 3) := by decide +kernel
theorem dX2_turn_47 : decode cX2_turn 47 = .ok (.ifCond .eq 6, 3) := by decide +kernel
theorem dX2_turn_50 : decode cX2_turn 50 = .ok (.bipush (-11), 2) := by decide +kernel
theorem dX2_turn_52 : decode cX2_turn 52 = .ok (.ireturn, 1) := by decide +kernel
theorem dX2_turn_53 : decode cX2_turn 53 = .ok (.aload_n 3, 1) := by decide +kernel
theorem dX2_turn_54 : decode cX2_turn 54 = .ok (.iload_n 2, 1) := by decide +kernel
theorem dX2_turn_55 : decode cX2_turn 55 = .ok (.invokevirtual 95, 3) := by decide +kernel
theorem dX2_turn_58 : decode cX2_turn 58 = .ok (.istore 4, 2) := by decide +kernel
theorem dX2_turn_60 : decode cX2_turn 60 = .ok (.iload 4, 2) := by decide +kernel
theorem dX2_turn_62 : decode cX2_turn 62 = .ok (.aload_n 3, 1) := by decide +kernel
theorem dX2_turn_63 : decode cX2_turn 63 = .ok (.getfield 45, 3) := by decide +kernel
theorem dX2_turn_66 : decode cX2_turn 66 = .ok (.if_icmp .ge 9, 3) := by decide +kernel
theorem dX2_turn_69 : decode cX2_turn 69 = .ok (.bipush (-20), 2) := by decide +kernel
theorem dX2_turn_71 : decode cX2_turn 71 = .ok (.iload 4, 2) := by decide +kernel
theorem dX2_turn_73 : decode cX2_turn 73 = .ok (.isub, 1) := by decide +kernel
theorem dX2_turn_74 : decode cX2_turn 74 = .ok (.ireturn, 1) := by decide +kernel
theorem dX2_turn_75 : decode cX2_turn 75 = .ok (.aload_n 3, 1) := by decide +kernel
theorem dX2_turn_76 : decode cX2_turn 76 = .ok (.iload_n 2, 1) := by decide +kernel
theorem dX2_turn_77 : decode cX2_turn 77 = .ok (.invokevirtual 98, 3) := by decide +kernel
theorem dX2_turn_80 : decode cX2_turn 80 = .ok (.iconst 1, 1) := by decide +kernel
theorem dX2_turn_81 : decode cX2_turn 81 = .ok (.ireturn, 1) := by decide +kernel
theorem dX2_part_0 : decode cX2_part 0 = .ok (.iload_n 1, 1) := by decide +kernel
theorem dX2_part_1 : decode cX2_part 1 = .ok (.ifCond .lt 19, 3) := by decide +kernel
theorem dX2_part_4 : decode cX2_part 4 = .ok (.iload_n 1, 1) := by decide +kernel
theorem dX2_part_5 : decode cX2_part 5 = .ok (.iconst 2, 1) := by decide +kernel
theorem dX2_part_6 : decode cX2_part 6 = .ok (.if_icmp .gt 14, 3) := by decide +kernel
theorem dX2_part_9 : decode cX2_part 9 = .ok (.iload_n 2, 1) := by decide +kernel
theorem dX2_part_10 : decode cX2_part 10 = .ok (.ifCond .lt 10, 3) := by decide +kernel
theorem dX2_part_13 : decode cX2_part 13 = .ok (.iload_n 2, 1) := by decide +kernel
theorem dX2_part_14 : decode cX2_part 14 = .ok (.sipush 1000, 3) := by decide +kernel
theorem dX2_part_17 : decode cX2_part 17 = .ok (.if_icmp .le 5, 3) := by decide +kernel
theorem dX2_part_20 : decode cX2_part 20 = .ok (.iconst (-1), 1) := by decide +kernel
theorem dX2_part_21 : decode cX2_part 21 = .ok (.ireturn, 1) := by decide +kernel
theorem dX2_part_22 : decode cX2_part 22 = .ok (.aload_n 0, 1) := by decide +kernel
theorem dX2_part_23 : decode cX2_part 23 = .ok (.getfield 24, 3) := by decide +kernel
theorem dX2_part_26 : decode cX2_part 26 = .ok (.bipush 40, 2) := by decide +kernel
theorem dX2_part_28 : decode cX2_part 28 = .ok (.if_icmp .lt 6, 3) := by decide +kernel
theorem dX2_part_31 : decode cX2_part 31 = .ok (.bipush (-2), 2) := by decide +kernel
theorem dX2_part_33 : decode cX2_part 33 = .ok (.ireturn, 1) := by decide +kernel
theorem dX2_part_34 : decode cX2_part 34 = .ok (.aload_n 0, 1) := by decide +kernel
theorem dX2_part_35 : decode cX2_part 35 = .ok (.getfield 24, 3) := by decide +kernel
theorem dX2_part_38 : decode cX2_part 38 = .ok (.istore_n 3, 1) := by decide +kernel
theorem dX2_part_39 : decode cX2_part 39 = .ok (.aload_n 0, 1) := by decide +kernel
theorem dX2_part_40 : decode cX2_part 40 = .ok (.getfield 20, 3) := by decide +kernel
theorem dX2_part_43 : decode cX2_part 43 = .ok (.iload_n 3, 1) := by decide +kernel
theorem dX2_part_44 : decode cX2_part 44 = .ok (.aaload, 1) := by decide +kernel
theorem dX2_part_45 : decode cX2_part 45 = .ok (.iload_n 1, 1) := by decide +kernel
theorem dX2_part_46 : decode cX2_part 46 = .ok (.iload_n 2, 1) := by decide +kernel
theorem dX2_part_47 : decode cX2_part 47 = .ok (.invokevirtual 102, 3) := by decide +kernel
theorem dX2_part_50 : decode cX2_part 50 = .ok (.aload_n 0, 1) := by decide +kernel
theorem dX2_part_51 : decode cX2_part 51 = .ok (.iload_n 3, 1) := by decide +kernel
theorem dX2_part_52 : decode cX2_part 52 = .ok (.iconst 1, 1) := by decide +kernel
theorem dX2_part_53 : decode cX2_part 53 = .ok (.iadd, 1) := by decide +kernel
theorem dX2_part_54 : decode cX2_part 54 = .ok (.putfield 24, 3) := by decide +kernel
theorem dX2_part_57 : decode cX2_part 57 = .ok (.iload_n 3, 1) := by decide +kernel
theorem dX2_part_58 : decode cX2_part 58 = .ok (.ireturn, 1) := by decide +kernel
theorem dX2_lay_0 : decode cX2_lay 0 = .ok (.iload_n 1, 1) := by decide +kernel
theorem dX2_lay_1 : decode cX2_lay 1 = .ok (.invokestatic 33, 3) := by decide +kernel
theorem dX2_lay_4 : decode cX2_lay 4 = .ok (.ifCond .eq 16, 3) := by decide +kernel
theorem dX2_lay_7 : decode cX2_lay 7 = .ok (.iload_n 3, 1) := by decide +kernel
theorem dX2_lay_8 : decode cX2_lay 8 = .ok (.iconst (-1), 1) := by decide +kernel
theorem dX2_lay_9 : decode cX2_lay 9 = .ok (.if_icmp .eq 13, 3) := by decide +kernel
theorem dX2_lay_12 : decode cX2_lay 12 = .ok (.aload_n 0, 1) := by decide +kernel
theorem dX2_lay_13 : decode cX2_lay 13 = .ok (.iload_n 3, 1) := by decide +kernel
theorem dX2_lay_14 : decode cX2_lay 14 = .ok (.invokevirtual 103, 3) := by decide +kernel
theorem dX2_lay_17 : decode cX2_lay 17 = .ok (.ifCond .ne 5, 3) := by decide +kernel
theorem dX2_lay_20 : decode cX2_lay 20 = .ok (.iconst (-1), 1) := by decide +kernel
theorem dX2_lay_21 : decode cX2_lay 21 = .ok (.ireturn, 1) := by decide +kernel
theorem dX2_lay_22 : decode cX2_lay 22 = .ok (.aload_n 0, 1) := by decide +kernel
theorem dX2_lay_23 : decode cX2_lay 23 = .ok (.iload_n 1, 1) := by decide +kernel
theorem dX2_lay_24 : decode cX2_lay 24 = .ok (.iload_n 2, 1) := by decide +kernel
theorem dX2_lay_25 : decode cX2_lay 25 = .ok (.iconst 1, 1) := by decide +kernel
theorem dX2_lay_26 : decode cX2_lay 26 = .ok (.invokevirtual 60, 3) := by decide +kernel
theorem dX2_lay_29 : decode cX2_lay 29 = .ok (.istore 4, 2) := by decide +kernel
theorem dX2_lay_31 : decode cX2_lay 31 = .ok (.iload 4, 2) := by decide +kernel
theorem dX2_lay_33 : decode cX2_lay 33 = .ok (.ifCond .eq 6, 3) := by decide +kernel
theorem dX2_lay_36 : decode cX2_lay 36 = .ok (.iload 4, 2) := by decide +kernel
theorem dX2_lay_38 : decode cX2_lay 38 = .ok (.ireturn, 1) := by decide +kernel
theorem dX2_lay_39 : decode cX2_lay 39 = .ok (.aload_n 0, 1) := by decide +kernel
theorem dX2_lay_40 : decode cX2_lay 40 = .ok (.getfield 11, 3) := by decide +kernel
theorem dX2_lay_43 : decode cX2_lay 43 = .ok (.iload_n 1, 1) := by decide +kernel
theorem dX2_lay_44 : decode cX2_lay 44 = .ok (.aaload, 1) := by decide +kernel
theorem dX2_lay_45 : decode cX2_lay 45 = .ok (.astore 5, 2) := by decide +kernel
theorem dX2_lay_47 : decode cX2_lay 47 = .ok (.aload_n 0, 1) := by decide +kernel
theorem dX2_lay_48 : decode cX2_lay 48 = .ok (.aload 5, 2) := by decide +kernel
theorem dX2_lay_50 : decode cX2_lay 50 = .ok (.iload_n 3, 1) := by decide +kernel
theorem dX2_lay_51 : decode cX2_lay 51 = .ok (.invokevirtual 106, 3) := by decide +kernel
theorem dX2_lay_54 : decode cX2_lay 54 = .ok (.ifCond .ne 6, 3) := by decide +kernel
theorem dX2_lay_57 : decode cX2_lay 57 = .ok (.bipush (-14), 2) := by decide +kernel
theorem dX2_lay_59 : decode cX2_lay 59 = .ok (.ireturn, 1) := by decide +kernel
theorem dX2_lay_60 : decode cX2_lay 60 = .ok (.aload 5, 2) := by decide +kernel
theorem dX2_lay_62 : decode cX2_lay 62 = .ok (.iload_n 2, 1) := by decide +kernel
theorem dX2_lay_63 : decode cX2_lay 63 = .ok (.iload_n 3, 1) := by decide +kernel
theorem dX2_lay_64 : decode cX2_lay 64 = .ok (.invokevirtual 110, 3) := by decide +kernel
theorem dX2_lay_67 : decode cX2_lay 67 = .ok (.aload_n 0, 1) := by decide +kernel
theorem dX2_lay_68 : decode cX2_lay 68 = .ok (.iload_n 3, 1) := by decide +kernel
theorem dX2_lay_69 : decode cX2_lay 69 = .ok (.invokevirtual 103, 3) := by decide +kernel
theorem dX2_lay_72 : decode cX2_lay 72 = .ok (.ifCond .eq 18, 3) := by decide +kernel
theorem dX2_lay_75 : decode cX2_lay 75 = .ok (.aload_n 0, 1) := by decide +kernel
theorem dX2_lay_76 : decode cX2_lay 76 = .ok (.getfield 20, 3) := by decide +kernel
theorem dX2_lay_79 : decode cX2_lay 79 = .ok (.iload_n 3, 1) := by decide +kernel
theorem dX2_lay_80 : decode cX2_lay 80 = .ok (.aaload, 1) := by decide +kernel
theorem dX2_lay_81 : decode cX2_lay 81 = .ok (.dup, 1) := by decide +kernel
theorem dX2_lay_82 : decode cX2_lay 82 = .ok (.getfield 113, 3) := by decide +kernel
theorem dX2_lay_85 : decode cX2_lay 85 = .ok (.iconst 1, 1) := by decide +kernel
theorem dX2_lay_86 : decode cX2_lay 86 = .ok (.iadd, 1) := by decide +kernel
theorem dX2_lay_87 : decode cX2_lay 87 = .ok (.putfield 113, 3) := by decide +kernel
theorem dX2_lay_90 : decode cX2_lay 90 = .ok (.iconst 1, 1) := by decide +kernel
theorem dX2_lay_91 : decode cX2_lay 91 = .ok (.ireturn, 1) := by decide +kernel
theorem dX2_weigh_0 : decode cX2_weigh 0 = .ok (.aload_n 0, 1) := by decide +kernel
theorem dX2_weigh_1 : decode cX2_weigh 1 = .ok (.iload_n 1, 1) := by decide +kernel
theorem dX2_weigh_2 : decode cX2_weigh 2 = .ok (.iload_n 2, 1) := by decide +kernel
theorem dX2_weigh_3 : decode cX2_weigh 3 = .ok (.invokevirtual 116, 3) := by decide +kernel
theorem dX2_weigh_6 : decode cX2_weigh 6 = .ok (.istore_n 3, 1) := by decide +kernel
theorem dX2_weigh_7 : decode cX2_weigh 7 = .ok (.aload_n 0, 1) := by decide +kernel
theorem dX2_weigh_8 : decode cX2_weigh 8 = .ok (.iload_n 3, 1) := by decide +kernel
theorem dX2_weigh_9 : decode cX2_weigh 9 = .ok (.invokevirtual 103, 3) := by decide +kernel
theorem dX2_weigh_12 : decode cX2_weigh 12 = .ok (.ifCond .eq 15, 3) := by decide +kernel
theorem dX2_weigh_15 : decode cX2_weigh 15 = .ok (.aload_n 0, 1) := by decide +kernel
theorem dX2_weigh_16 : decode cX2_weigh 16 = .ok (.getfield 20, 3) := by decide +kernel
theorem dX2_weigh_19 : decode cX2_weigh 19 = .ok (.iload_n 3, 1) := by decide +kernel
theorem dX2_weigh_20 : decode cX2_weigh 20 = .ok (.aaload, 1) := by decide +kernel
theorem dX2_weigh_21 : decode cX2_weigh 21 = .ok (.invokevirtual 120, 3) := by decide +kernel
theorem dX2_weigh_24 : decode cX2_weigh 24 = .ok (.goto 4, 3) := by decide +kernel
theorem dX2_weigh_27 : decode cX2_weigh 27 = .ok (.iload_n 3, 1) := by decide +kernel
theorem dX2_weigh_28 : decode cX2_weigh 28 = .ok (.ireturn, 1) := by decide +kernel
theorem dX2_rigid_0 : decode cX2_rigid 0 = .ok (.aload_n 0, 1) := by decide +kernel
theorem dX2_rigid_1 : decode cX2_rigid 1 = .ok (.iload_n 1, 1) := by decide +kernel
theorem dX2_rigid_2 : decode cX2_rigid 2 = .ok (.iload_n 2, 1) := by decide +kernel
theorem dX2_rigid_3 : decode cX2_rigid 3 = .ok (.invokevirtual 116, 3) := by decide +kernel
theorem dX2_rigid_6 : decode cX2_rigid 6 = .ok (.istore_n 3, 1) := by decide +kernel
theorem dX2_rigid_7 : decode cX2_rigid 7 = .ok (.aload_n 0, 1) := by decide +kernel
theorem dX2_rigid_8 : decode cX2_rigid 8 = .ok (.iload_n 3, 1) := by decide +kernel
theorem dX2_rigid_9 : decode cX2_rigid 9 = .ok (.invokevirtual 103, 3) := by decide +kernel
theorem dX2_rigid_12 : decode cX2_rigid 12 = .ok (.ifCond .ne 5, 3) := by decide +kernel
theorem dX2_rigid_15 : decode cX2_rigid 15 = .ok (.iload_n 3, 1) := by decide +kernel
theorem dX2_rigid_16 : decode cX2_rigid 16 = .ok (.ireturn, 1) := by decide +kernel
theorem dX2_rigid_17 : decode cX2_rigid 17 = .ok (.aload_n 0, 1) := by decide +kernel
theorem dX2_rigid_18 : decode cX2_rigid 18 = .ok (.getfield 20, 3) := by decide +kernel
theorem dX2_rigid_21 : decode cX2_rigid 21 = .ok (.iload_n 3, 1) := by decide +kernel
theorem dX2_rigid_22 : decode cX2_rigid 22 = .ok (.aaload, 1) := by decide +kernel
theorem dX2_rigid_23 : decode cX2_rigid 23 = .ok (.astore 4, 2) := by decide +kernel
theorem dX2_rigid_25 : decode cX2_rigid 25 = .ok (.aload 4, 2) := by decide +kernel
theorem dX2_rigid_27 : decode cX2_rigid 27 = .ok (.getfield 123, 3) := by decide +kernel
theorem dX2_rigid_30 : decode cX2_rigid 30 = .ok (.iconst 1, 1) := by decide +kernel
theorem dX2_rigid_31 : decode cX2_rigid 31 = .ok (.if_icmp .ne 11, 3) := by decide +kernel
theorem dX2_rigid_34 : decode cX2_rigid 34 = .ok (.aload 4, 2) := by decide +kernel
theorem dX2_rigid_36 : decode cX2_rigid 36 = .ok (.getfield 113, 3) := by decide +kernel
theorem dX2_rigid_39 : decode cX2_rigid 39 = .ok (.goto 5, 3) := by decide +kernel
theorem dX2_rigid_42 : decode cX2_rigid 42 = .ok (.bipush (-15), 2) := by decide +kernel
theorem dX2_rigid_44 : decode cX2_rigid 44 = .ok (.ireturn, 1) := by decide +kernel
theorem dX2_fault_0 : decode cX2_fault 0 = .ok (.aload_n 0, 1) := by decide +kernel
theorem dX2_fault_1 : decode cX2_fault 1 = .ok (.iload_n 1, 1) := by decide +kernel
theorem dX2_fault_2 : decode cX2_fault 2 = .ok (.invokevirtual 103, 3) := by decide +kernel
theorem dX2_fault_5 : decode cX2_fault 5 = .ok (.ifCond .eq 14, 3) := by decide +kernel
theorem dX2_fault_8 : decode cX2_fault 8 = .ok (.iload_n 2, 1) := by decide +kernel
theorem dX2_fault_9 : decode cX2_fault 9 = .ok (.iconst (-1), 1) := by decide +kernel
theorem dX2_fault_10 : decode cX2_fault 10 = .ok (.if_icmp .lt 9, 3) := by decide +kernel
theorem dX2_fault_13 : decode cX2_fault 13 = .ok (.iload_n 2, 1) := by decide +kernel
theorem dX2_fault_14 : decode cX2_fault 14 = .ok (.bipush 9, 2) := by decide +kernel
theorem dX2_fault_16 : decode cX2_fault 16 = .ok (.if_icmp .le 5, 3) := by decide +kernel
theorem dX2_fault_19 : decode cX2_fault 19 = .ok (.iconst (-1), 1) := by decide +kernel
theorem dX2_fault_20 : decode cX2_fault 20 = .ok (.ireturn, 1) := by decide +kernel
theorem dX2_fault_21 : decode cX2_fault 21 = .ok (.aload_n 0, 1) := by decide +kernel
theorem dX2_fault_22 : decode cX2_fault 22 = .ok (.getfield 20, 3) := by decide +kernel
theorem dX2_fault_25 : decode cX2_fault 25 = .ok (.iload_n 1, 1) := by decide +kernel
theorem dX2_fault_26 : decode cX2_fault 26 = .ok (.aaload, 1) := by decide +kernel
theorem dX2_fault_27 : decode cX2_fault 27 = .ok (.iload_n 2, 1) := by decide +kernel
theorem dX2_fault_28 : decode cX2_fault 28 = .ok (.putfield 126, 3) := by decide +kernel
theorem dX2_fault_31 : decode cX2_fault 31 = .ok (.iconst 1, 1) := by decide +kernel
theorem dX2_fault_32 : decode cX2_fault 32 = .ok (.ireturn, 1) := by decide +kernel
theorem dX2_raise_0 : decode cX2_raise 0 = .ok (.aload_n 0, 1) := by decide +kernel
theorem dX2_raise_1 : decode cX2_raise 1 = .ok (.iload_n 1, 1) := by decide +kernel
theorem dX2_raise_2 : decode cX2_raise 2 = .ok (.iload_n 2, 1) := by decide +kernel
theorem dX2_raise_3 : decode cX2_raise 3 = .ok (.invokevirtual 116, 3) := by decide +kernel
theorem dX2_raise_6 : decode cX2_raise 6 = .ok (.istore_n 3, 1) := by decide +kernel
theorem dX2_raise_7 : decode cX2_raise 7 = .ok (.aload_n 0, 1) := by decide +kernel
theorem dX2_raise_8 : decode cX2_raise 8 = .ok (.iload_n 3, 1) := by decide +kernel
theorem dX2_raise_9 : decode cX2_raise 9 = .ok (.invokevirtual 103, 3) := by decide +kernel
theorem dX2_raise_12 : decode cX2_raise 12 = .ok (.ifCond .ne 5, 3) := by decide +kernel
theorem dX2_raise_15 : decode cX2_raise 15 = .ok (.iload_n 3, 1) := by decide +kernel
theorem dX2_raise_16 : decode cX2_raise 16 = .ok (.ireturn, 1) := by decide +kernel
theorem dX2_raise_17 : decode cX2_raise 17 = .ok (.aload_n 0, 1) := by decide +kernel
