theorem dX0_init_0 : decode cX0_init 0 = .ok (.aload_n 0, 1) := by decide +kernel
theorem dX0_init_1 : decode cX0_init 1 = .ok (.invokespecial 3, 3) := by decide +kernel
theorem dX0_init_4 : decode cX0_init 4 = .ok (.aload_n 0, 1) := by decide +kernel
theorem dX0_init_5 : decode cX0_init 5 = .ok (.bipush 50, 2) := by decide +kernel
theorem dX0_init_7 : decode cX0_init 7 = .ok (.newarray .int, 2) := by decide +kernel
theorem dX0_init_9 : decode cX0_init 9 = .ok (.putfield 9, 3) := by decide +kernel
theorem dX0_init_12 : decode cX0_init 12 = .ok (.aload_n 0, 1) := by decide +kernel
theorem dX0_init_13 : decode cX0_init 13 = .ok (.sipush 400, 3) := by decide +kernel
theorem dX0_init_16 : decode cX0_init 16 = .ok (.newarray .int, 2) := by decide +kernel
theorem dX0_init_18 : decode cX0_init 18 = .ok (.putfield 15, 3) := by decide +kernel
theorem dX0_init_21 : decode cX0_init 21 = .ok (.aload_n 0, 1) := by decide +kernel
theorem dX0_init_22 : decode cX0_init 22 = .ok (.bipush 50, 2) := by decide +kernel
theorem dX0_init_24 : decode cX0_init 24 = .ok (.newarray .int, 2) := by decide +kernel
theorem dX0_init_26 : decode cX0_init 26 = .ok (.putfield 18, 3) := by decide +kernel
theorem dX0_init_29 : decode cX0_init 29 = .ok (.aload_n 0, 1) := by decide +kernel
theorem dX0_init_30 : decode cX0_init 30 = .ok (.aload_n 1, 1) := by decide +kernel
theorem dX0_init_31 : decode cX0_init 31 = .ok (.putfield 21, 3) := by decide +kernel
theorem dX0_init_34 : decode cX0_init 34 = .ok (.return_, 1) := by decide +kernel
theorem dX0_begin_0 : decode cX0_begin 0 = .ok (.aload_n 0, 1) := by decide +kernel
theorem dX0_begin_1 : decode cX0_begin 1 = .ok (.getfield 25, 3) := by decide +kernel
theorem dX0_begin_4 : decode cX0_begin 4 = .ok (.bipush 50, 2) := by decide +kernel
theorem dX0_begin_6 : decode cX0_begin 6 = .ok (.if_icmp .ge 33, 3) := by decide +kernel
theorem dX0_begin_9 : decode cX0_begin 9 = .ok (.aload_n 0, 1) := by decide +kernel
theorem dX0_begin_10 : decode cX0_begin 10 = .ok (.getfield 9, 3) := by decide +kernel
theorem dX0_begin_13 : decode cX0_begin 13 = .ok (.aload_n 0, 1) := by decide +kernel
theorem dX0_begin_14 : decode cX0_begin 14 = .ok (.getfield 25, 3) := by decide +kernel
theorem dX0_begin_17 : decode cX0_begin 17 = .ok (.iload_n 1, 1) := by decide +kernel
theorem dX0_begin_18 : decode cX0_begin 18 = .ok (.iastore, 1) := by decide +kernel
theorem dX0_begin_19 : decode cX0_begin 19 = .ok (.aload_n 0, 1) := by decide +kernel
theorem dX0_begin_20 : decode cX0_begin 20 = .ok (.getfield 18, 3) := by decide +kernel
theorem dX0_begin_23 : decode cX0_begin 23 = .ok (.aload_n 0, 1) := by decide +kernel
theorem dX0_begin_24 : decode cX0_begin 24 = .ok (.getfield 25, 3) := by decide +kernel
theorem dX0_begin_27 : decode cX0_begin 27 = .ok (.iconst 0, 1) := by decide +kernel
theorem dX0_begin_28 : decode cX0_begin 28 = .ok (.iastore, 1) := by decide +kernel
theorem dX0_begin_29 : decode cX0_begin 29 = .ok (.aload_n 0, 1) := by decide +kernel
theorem dX0_begin_30 : decode cX0_begin 30 = .ok (.dup, 1) := by decide +kernel
theorem dX0_begin_31 : decode cX0_begin 31 = .ok (.getfield 25, 3) := by decide +kernel
theorem dX0_begin_34 : decode cX0_begin 34 = .ok (.iconst 1, 1) := by decide +kernel
theorem dX0_begin_35 : decode cX0_begin 35 = .ok (.iadd, 1) := by decide +kernel
theorem dX0_begin_36 : decode cX0_begin 36 = .ok (.putfield 25, 3) := by decide +kernel
theorem dX0_begin_39 : decode cX0_begin 39 = .ok (.return_, 1) := by decide +kernel
theorem dX0_grow_0 : decode cX0_grow 0 = .ok (.aload_n 0, 1) := by decide +kernel
theorem dX0_grow_1 : decode cX0_grow 1 = .ok (.getfield 25, 3) := by decide +kernel
theorem dX0_grow_4 : decode cX0_grow 4 = .ok (.iconst 1, 1) := by decide +kernel
theorem dX0_grow_5 : decode cX0_grow 5 = .ok (.isub, 1) := by decide +kernel
theorem dX0_grow_6 : decode cX0_grow 6 = .ok (.istore_n 2, 1) := by decide +kernel
theorem dX0_grow_7 : decode cX0_grow 7 = .ok (.iload_n 2, 1) := by decide +kernel
theorem dX0_grow_8 : decode cX0_grow 8 = .ok (.ifCond .lt 28, 3) := by decide +kernel
theorem dX0_grow_11 : decode cX0_grow 11 = .ok (.iload_n 1, 1) := by decide +kernel
theorem dX0_grow_12 : decode cX0_grow 12 = .ok (.ifCond .lt 24, 3) := by decide +kernel
theorem dX0_grow_15 : decode cX0_grow 15 = .ok (.iload_n 1, 1) := by decide +kernel
theorem dX0_grow_16 : decode cX0_grow 16 = .ok (.bipush 16, 2) := by decide +kernel
theorem dX0_grow_18 : decode cX0_grow 18 = .ok (.if_icmp .ge 18, 3) := by decide +kernel
theorem dX0_grow_21 : decode cX0_grow 21 = .ok (.aload_n 0, 1) := by decide +kernel
theorem dX0_grow_22 : decode cX0_grow 22 = .ok (.getfield 21, 3) := by decide +kernel
theorem dX0_grow_25 : decode cX0_grow 25 = .ok (.getfield 29, 3) := by decide +kernel
theorem dX0_grow_28 : decode cX0_grow 28 = .ok (.iload_n 1, 1) := by decide +kernel
theorem dX0_grow_29 : decode cX0_grow 29 = .ok (.iaload, 1) := by decide +kernel
theorem dX0_grow_30 : decode cX0_grow 30 = .ok (.sipush 9999, 3) := by decide +kernel
theorem dX0_grow_33 : decode cX0_grow 33 = .ok (.if_icmp .lt 4, 3) := by decide +kernel
theorem dX0_grow_36 : decode cX0_grow 36 = .ok (.return_, 1) := by decide +kernel
theorem dX0_grow_37 : decode cX0_grow 37 = .ok (.aload_n 0, 1) := by decide +kernel
theorem dX0_grow_38 : decode cX0_grow 38 = .ok (.getfield 18, 3) := by decide +kernel
theorem dX0_grow_41 : decode cX0_grow 41 = .ok (.iload_n 2, 1) := by decide +kernel
theorem dX0_grow_42 : decode cX0_grow 42 = .ok (.iaload, 1) := by decide +kernel
theorem dX0_grow_43 : decode cX0_grow 43 = .ok (.istore_n 3, 1) := by decide +kernel
theorem dX0_grow_44 : decode cX0_grow 44 = .ok (.iload_n 3, 1) := by decide +kernel
theorem dX0_grow_45 : decode cX0_grow 45 = .ok (.bipush 8, 2) := by decide +kernel
theorem dX0_grow_47 : decode cX0_grow 47 = .ok (.if_icmp .ge 38, 3) := by decide +kernel
theorem dX0_grow_50 : decode cX0_grow 50 = .ok (.aload_n 0, 1) := by decide +kernel
theorem dX0_grow_51 : decode cX0_grow 51 = .ok (.getfield 21, 3) := by decide +kernel
theorem dX0_grow_54 : decode cX0_grow 54 = .ok (.getfield 29, 3) := by decide +kernel
theorem dX0_grow_57 : decode cX0_grow 57 = .ok (.iload_n 1, 1) := by decide +kernel
theorem dX0_grow_58 : decode cX0_grow 58 = .ok (.dup2, 1) := by decide +kernel
theorem dX0_grow_59 : decode cX0_grow 59 = .ok (.iaload, 1) := by decide +kernel
theorem dX0_grow_60 : decode cX0_grow 60 = .ok (.iconst 1, 1) := by decide +kernel
theorem dX0_grow_61 : decode cX0_grow 61 = .ok (.iadd, 1) := by decide +kernel
theorem dX0_grow_62 : decode cX0_grow 62 = .ok (.iastore, 1) := by decide +kernel
theorem dX0_grow_63 : decode cX0_grow 63 = .ok (.aload_n 0, 1) := by decide +kernel
theorem dX0_grow_64 : decode cX0_grow 64 = .ok (.getfield 15, 3) := by decide +kernel
theorem dX0_grow_67 : decode cX0_grow 67 = .ok (.iload_n 2, 1) := by decide +kernel
theorem dX0_grow_68 : decode cX0_grow 68 = .ok (.bipush 8, 2) := by decide +kernel
theorem dX0_grow_70 : decode cX0_grow 70 = .ok (.imul, 1) := by decide +kernel
theorem dX0_grow_71 : decode cX0_grow 71 = .ok (.iload_n 3, 1) := by decide +kernel
theorem dX0_grow_72 : decode cX0_grow 72 = .ok (.iadd, 1) := by decide +kernel
theorem dX0_grow_73 : decode cX0_grow 73 = .ok (.iload_n 1, 1) := by decide +kernel
theorem dX0_grow_74 : decode cX0_grow 74 = .ok (.iastore, 1) := by decide +kernel
theorem dX0_grow_75 : decode cX0_grow 75 = .ok (.aload_n 0, 1) := by decide +kernel
theorem dX0_grow_76 : decode cX0_grow 76 = .ok (.getfield 18, 3) := by decide +kernel
theorem dX0_grow_79 : decode cX0_grow 79 = .ok (.iload_n 2, 1) := by decide +kernel
theorem dX0_grow_80 : decode cX0_grow 80 = .ok (.dup2, 1) := by decide +kernel
theorem dX0_grow_81 : decode cX0_grow 81 = .ok (.iaload, 1) := by decide +kernel
theorem dX0_grow_82 : decode cX0_grow 82 = .ok (.iconst 1, 1) := by decide +kernel
theorem dX0_grow_83 : decode cX0_grow 83 = .ok (.iadd, 1) := by decide +kernel
theorem dX0_grow_84 : decode cX0_grow 84 = .ok (.iastore, 1) := by decide +kernel
theorem dX0_grow_85 : decode cX0_grow 85 = .ok (.return_, 1) := by decide +kernel
theorem dX0_takeBack_0 : decode cX0_takeBack 0 = .ok (.aload_n 0, 1) := by decide +kernel
theorem dX0_takeBack_1 : decode cX0_takeBack 1 = .ok (.getfield 25, 3) := by decide +kernel
theorem dX0_takeBack_4 : decode cX0_takeBack 4 = .ok (.ifCond .gt 5, 3) := by decide +kernel
theorem dX0_takeBack_7 : decode cX0_takeBack 7 = .ok (.iconst (-1), 1) := by decide +kernel
theorem dX0_takeBack_8 : decode cX0_takeBack 8 = .ok (.ireturn, 1) := by decide +kernel
theorem dX0_takeBack_9 : decode cX0_takeBack 9 = .ok (.aload_n 0, 1) := by decide +kernel
theorem dX0_takeBack_10 : decode cX0_takeBack 10 = .ok (.dup, 1) := by decide +kernel
theorem dX0_takeBack_11 : decode cX0_takeBack 11 = .ok (.getfield 25, 3) := by decide +kernel
theorem dX0_takeBack_14 : decode cX0_takeBack 14 = .ok (.iconst 1, 1) := by decide +kernel
theorem dX0_takeBack_15 : decode cX0_takeBack 15 = .ok (.isub, 1) := by decide +kernel
theorem dX0_takeBack_16 : decode cX0_takeBack 16 = .ok (.putfield 25, 3) := by decide +kernel
theorem dX0_takeBack_19 : decode cX0_takeBack 19 = .ok (.iconst 0, 1) := by decide +kernel
theorem dX0_takeBack_20 : decode cX0_takeBack 20 = .ok (.istore_n 1, 1) := by decide +kernel
theorem dX0_takeBack_21 : decode cX0_takeBack 21 = .ok (.iload_n 1, 1) := by decide +kernel
theorem dX0_takeBack_22 : decode cX0_takeBack 22 = .ok (.aload_n 0, 1) := by decide +kernel
theorem dX0_takeBack_23 : decode cX0_takeBack 23 = .ok (.getfield 18, 3) := by decide +kernel
theorem dX0_takeBack_26 : decode cX0_takeBack 26 = .ok (.aload_n 0, 1) := by decide +kernel
theorem dX0_takeBack_27 : decode cX0_takeBack 27 = .ok (.getfield 25, 3) := by decide +kernel
theorem dX0_takeBack_30 : decode cX0_takeBack 30 = .ok (.iaload, 1) := by decide +kernel
theorem dX0_takeBack_31 : decode cX0_takeBack 31 = .ok (.if_icmp .ge 35, 3) := by decide +kernel
theorem dX0_takeBack_34 : decode cX0_takeBack 34 = .ok (.aload_n 0, 1) := by decide +kernel
theorem dX0_takeBack_35 : decode cX0_takeBack 35 = .ok (.getfield 21, 3) := by decide +kernel
theorem dX0_takeBack_38 : decode cX0_takeBack 38 = .ok (.getfield 29, 3) := by decide +kernel
theorem dX0_takeBack_41 : decode cX0_takeBack 41 = .ok (.aload_n 0, 1) := by decide +kernel
theorem dX0_takeBack_42 : decode cX0_takeBack 42 = .ok (.getfield 15, 3) := by decide +kernel
theorem dX0_takeBack_45 : decode cX0_takeBack 45 = .ok (.aload_n 0, 1) := by decide +kernel
theorem dX0_takeBack_46 : decode cX0_takeBack 46 = .ok (.getfield 25, 3) := by decide +kernel
theorem dX0_takeBack_49 : decode cX0_takeBack 49 = .ok (.bipush 8, 2) := by decide +kernel
theorem dX0_takeBack_51 : decode cX0_takeBack 51 = .ok (.imul, 1) := by decide +kernel
theorem dX0_takeBack_52 : decode cX0_takeBack 52 = .ok (.iload_n 1, 1) := by decide +kernel
theorem dX0_takeBack_53 : decode cX0_takeBack 53 = .ok (.iadd, 1) := by decide +kernel
theorem dX0_takeBack_54 : decode cX0_takeBack 54 = .ok (.iaload, 1) := by decide +kernel
theorem dX0_takeBack_55 : decode cX0_takeBack 55 = .ok (.dup2, 1) := by decide +kernel
theorem dX0_takeBack_56 : decode cX0_takeBack 56 = .ok (.iaload, 1) := by decide +kernel
theorem dX0_takeBack_57 : decode cX0_takeBack 57 = .ok (.iconst 1, 1) := by decide +kernel
theorem dX0_takeBack_58 : decode cX0_takeBack 58 = .ok (.isub, 1) := by decide +kernel
theorem dX0_takeBack_59 : decode cX0_takeBack 59 = .ok (.iastore, 1) := by decide +kernel
theorem dX0_takeBack_60 : decode cX0_takeBack 60 = .ok (.iinc 1 1, 3) := by decide +kernel
theorem dX0_takeBack_63 : decode cX0_takeBack 63 = .ok (.goto (-42), 3) := by decide +kernel
theorem dX0_takeBack_66 : decode cX0_takeBack 66 = .ok (.aload_n 0, 1) := by decide +kernel
theorem dX0_takeBack_67 : decode cX0_takeBack 67 = .ok (.getfield 9, 3) := by decide +kernel
theorem dX0_takeBack_70 : decode cX0_takeBack 70 = .ok (.aload_n 0, 1) := by decide +kernel
theorem dX0_takeBack_71 : decode cX0_takeBack 71 = .ok (.getfield 25, 3) := by decide +kernel
theorem dX0_takeBack_74 : decode cX0_takeBack 74 = .ok (.iaload, 1) := by decide +kernel
theorem dX0_takeBack_75 : decode cX0_takeBack 75 = .ok (.ireturn, 1) := by decide +kernel
theorem dX1_init_0 : decode cX1_init 0 = .ok (.aload_n 0, 1) := by decide +kernel
theorem dX1_init_1 : decode cX1_init 1 = .ok (.invokespecial 3, 3) := by decide +kernel
theorem dX1_init_4 : decode cX1_init 4 = .ok (.aload_n 0, 1) := by decide +kernel
theorem dX1_init_5 : decode cX1_init 5 = .ok (.bipush 16, 2) := by decide +kernel
theorem dX1_init_7 : decode cX1_init 7 = .ok (.newarray .int, 2) := by decide +kernel
theorem dX1_init_9 : decode cX1_init 9 = .ok (.putfield 9, 3) := by decide +kernel
theorem dX1_init_12 : decode cX1_init 12 = .ok (.aload_n 0, 1) := by decide +kernel
theorem dX1_init_13 : decode cX1_init 13 = .ok (.bipush 16, 2) := by decide +kernel
theorem dX1_init_15 : decode cX1_init 15 = .ok (.newarray .int, 2) := by decide +kernel
theorem dX1_init_17 : decode cX1_init 17 = .ok (.putfield 15, 3) := by decide +kernel
theorem dX1_init_20 : decode cX1_init 20 = .ok (.aload_n 0, 1) := by decide +kernel
theorem dX1_init_21 : decode cX1_init 21 = .ok (.bipush 16, 2) := by decide +kernel
theorem dX1_init_23 : decode cX1_init 23 = .ok (.newarray .int, 2) := by decide +kernel
theorem dX1_init_25 : decode cX1_init 25 = .ok (.putfield 18, 3) := by decide +kernel
theorem dX1_init_28 : decode cX1_init 28 = .ok (.aload_n 0, 1) := by decide +kernel
theorem dX1_init_29 : decode cX1_init 29 = .ok (.bipush 6, 2) := by decide +kernel
theorem dX1_init_31 : decode cX1_init 31 = .ok (.newarray .int, 2) := by decide +kernel
theorem dX1_init_33 : decode cX1_init 33 = .ok (.putfield 21, 3) := by decide +kernel
theorem dX1_init_36 : decode cX1_init 36 = .ok (.aload_n 0, 1) := by decide +kernel
theorem dX1_init_37 : decode cX1_init 37 = .ok (.sipush 256, 3) := by decide +kernel
theorem dX1_init_40 : decode cX1_init 40 = .ok (.newarray .boolean, 2) := by decide +kernel
theorem dX1_init_42 : decode cX1_init 42 = .ok (.putfield 24, 3) := by decide +kernel
theorem dX1_init_45 : decode cX1_init 45 = .ok (.aload_n 0, 1) := by decide +kernel
theorem dX1_init_46 : decode cX1_init 46 = .ok (.bipush 96, 2) := by decide +kernel
theorem dX1_init_48 : decode cX1_init 48 = .ok (.newarray .boolean, 2) := by decide +kernel
theorem dX1_init_50 : decode cX1_init 50 = .ok (.putfield 28, 3) := by decide +kernel
theorem dX1_init_53 : decode cX1_init 53 = .ok (.aload_n 0, 1) := by decide +kernel
theorem dX1_init_54 : decode cX1_init 54 = .ok (.new 31, 3) := by decide +kernel
theorem dX1_init_57 : decode cX1_init 57 = .ok (.dup, 1) := by decide +kernel
theorem dX1_init_58 : decode cX1_init 58 = .ok (.invokespecial 33, 3) := by decide +kernel
theorem dX1_init_61 : decode cX1_init 61 = .ok (.putfield 34, 3) := by decide +kernel
theorem dX1_init_64 : decode cX1_init 64 = .ok (.return_, 1) := by decide +kernel
theorem dX1_enterPart_0 : decode cX1_enterPart 0 = .ok (.aload_n 0, 1) := by decide +kernel
theorem dX1_enterPart_1 : decode cX1_enterPart 1 = .ok (.getfield 38, 3) := by decide +kernel
theorem dX1_enterPart_4 : decode cX1_enterPart 4 = .ok (.bipush 16, 2) := by decide +kernel
theorem dX1_enterPart_6 : decode cX1_enterPart 6 = .ok (.if_icmp .lt 5, 3) := by decide +kernel
theorem dX1_enterPart_9 : decode cX1_enterPart 9 = .ok (.iconst (-1), 1) := by decide +kernel
theorem dX1_enterPart_10 : decode cX1_enterPart 10 = .ok (.ireturn, 1) := by decide +kernel
theorem dX1_enterPart_11 : decode cX1_enterPart 11 = .ok (.aload_n 0, 1) := by decide +kernel
theorem dX1_enterPart_12 : decode cX1_enterPart 12 = .ok (.getfield 38, 3) := by decide +kernel
theorem dX1_enterPart_15 : decode cX1_enterPart 15 = .ok (.istore 4, 2) := by decide +kernel
theorem dX1_enterPart_17 : decode cX1_enterPart 17 = .ok (.aload_n 0, 1) := by decide +kernel
theorem dX1_enterPart_18 : decode cX1_enterPart 18 = .ok (.getfield 9, 3) := by decide +kernel
theorem dX1_enterPart_21 : decode cX1_enterPart 21 = .ok (.iload 4, 2) := by decide +kernel
theorem dX1_enterPart_23 : decode cX1_enterPart 23 = .ok (.iload_n 1, 1) := by decide +kernel
theorem dX1_enterPart_24 : decode cX1_enterPart 24 = .ok (.iastore, 1) := by decide +kernel
theorem dX1_enterPart_25 : decode cX1_enterPart 25 = .ok (.aload_n 0, 1) := by decide +kernel
theorem dX1_enterPart_26 : decode cX1_enterPart 26 = .ok (.getfield 15, 3) := by decide +kernel
theorem dX1_enterPart_29 : decode cX1_enterPart 29 = .ok (.iload 4, 2) := by decide +kernel
theorem dX1_enterPart_31 : decode cX1_enterPart 31 = .ok (.iload_n 2, 1) := by decide +kernel
theorem dX1_enterPart_32 : decode cX1_enterPart 32 = .ok (.iastore, 1) := by decide +kernel
theorem dX1_enterPart_33 : decode cX1_enterPart 33 = .ok (.aload_n 0, 1) := by decide +kernel
theorem dX1_enterPart_34 : decode cX1_enterPart 34 = .ok (.getfield 18, 3) := by decide +kernel
theorem dX1_enterPart_37 : decode cX1_enterPart 37 = .ok (.iload 4, 2) := by decide +kernel
theorem dX1_enterPart_39 : decode cX1_enterPart 39 = .ok (.iload_n 3, 1) := by decide +kernel
theorem dX1_enterPart_40 : decode cX1_enterPart 40 = .ok (.iastore, 1) := by decide +kernel
theorem dX1_enterPart_41 : decode cX1_enterPart 41 = .ok (.aload_n 0, 1) := by decide +kernel
theorem dX1_enterPart_42 : decode cX1_enterPart 42 = .ok (.getfield 34, 3) := by decide +kernel
theorem dX1_enterPart_45 : decode cX1_enterPart 45 = .ok (.iload_n 1, 1) := by decide +kernel
theorem dX1_enterPart_46 : decode cX1_enterPart 46 = .ok (.invokevirtual 42, 3) := by decide +kernel
theorem dX1_enterPart_49 : decode cX1_enterPart 49 = .ok (.aload_n 0, 1) := by decide +kernel
theorem dX1_enterPart_50 : decode cX1_enterPart 50 = .ok (.dup, 1) := by decide +kernel
theorem dX1_enterPart_51 : decode cX1_enterPart 51 = .ok (.getfield 38, 3) := by decide +kernel
theorem dX1_enterPart_54 : decode cX1_enterPart 54 = .ok (.iconst 1, 1) := by decide +kernel
theorem dX1_enterPart_55 : decode cX1_enterPart 55 = .ok (.iadd, 1) := by decide +kernel
theorem dX1_enterPart_56 : decode cX1_enterPart 56 = .ok (.putfield 38, 3) := by decide +kernel
theorem dX1_enterPart_59 : decode cX1_enterPart 59 = .ok (.iload 4, 2) := by decide +kernel
theorem dX1_enterPart_61 : decode cX1_enterPart 61 = .ok (.ireturn, 1) := by decide +kernel
theorem dX1_enterLink_0 : decode cX1_enterLink 0 = .ok (.aload_n 0, 1) := by decide +kernel
theorem dX1_enterLink_1 : decode cX1_enterLink 1 = .ok (.getfield 46, 3) := by decide +kernel
theorem dX1_enterLink_4 : decode cX1_enterLink 4 = .ok (.bipush 6, 2) := by decide +kernel
theorem dX1_enterLink_6 : decode cX1_enterLink 6 = .ok (.if_icmp .lt 5, 3) := by decide +kernel
theorem dX1_enterLink_9 : decode cX1_enterLink 9 = .ok (.iconst (-1), 1) := by decide +kernel
theorem dX1_enterLink_10 : decode cX1_enterLink 10 = .ok (.ireturn, 1) := by decide +kernel
theorem dX1_enterLink_11 : decode cX1_enterLink 11 = .ok (.aload_n 0, 1) := by decide +kernel
theorem dX1_enterLink_12 : decode cX1_enterLink 12 = .ok (.getfield 46, 3) := by decide +kernel
theorem dX1_enterLink_15 : decode cX1_enterLink 15 = .ok (.istore_n 2, 1) := by decide +kernel
theorem dX1_enterLink_16 : decode cX1_enterLink 16 = .ok (.aload_n 0, 1) := by decide +kernel
theorem dX1_enterLink_17 : decode cX1_enterLink 17 = .ok (.getfield 21, 3) := by decide +kernel
theorem dX1_enterLink_20 : decode cX1_enterLink 20 = .ok (.iload_n 2, 1) := by decide +kernel
theorem dX1_enterLink_21 : decode cX1_enterLink 21 = .ok (.iload_n 1, 1) := by decide +kernel
theorem dX1_enterLink_22 : decode cX1_enterLink 22 = .ok (.iastore, 1) := by decide +kernel
theorem dX1_enterLink_23 : decode cX1_enterLink 23 = .ok (.aload_n 0, 1) := by decide +kernel
theorem dX1_enterLink_24 : decode cX1_enterLink 24 = .ok (.dup, 1) := by decide +kernel
theorem dX1_enterLink_25 : decode cX1_enterLink 25 = .ok (.getfield 46, 3) := by decide +kernel
theorem dX1_enterLink_28 : decode cX1_enterLink 28 = .ok (.iconst 1, 1) := by decide +kernel
theorem dX1_enterLink_29 : decode cX1_enterLink 29 = .ok (.iadd, 1) := by decide +kernel
theorem dX1_enterLink_30 : decode cX1_enterLink 30 = .ok (.putfield 46, 3) := by decide +kernel
theorem dX1_enterLink_33 : decode cX1_enterLink 33 = .ok (.iload_n 2, 1) := by decide +kernel
theorem dX1_enterLink_34 : decode cX1_enterLink 34 = .ok (.ireturn, 1) := by decide +kernel
theorem dX1_partWith_0 : decode cX1_partWith 0 = .ok (.iload_n 1, 1) := by decide +kernel
theorem dX1_partWith_1 : decode cX1_partWith 1 = .ok (.aload_n 0, 1) := by decide +kernel
theorem dX1_partWith_2 : decode cX1_partWith 2 = .ok (.getfield 9, 3) := by decide +kernel
theorem dX1_partWith_5 : decode cX1_partWith 5 = .ok (.aload_n 0, 1) := by decide +kernel
theorem dX1_partWith_6 : decode cX1_partWith 6 = .ok (.getfield 38, 3) := by decide +kernel
theorem dX1_partWith_9 : decode cX1_partWith 9 = .ok (.invokestatic 49, 3) := by decide +kernel
theorem dX1_partWith_12 : decode cX1_partWith 12 = .ok (.ireturn, 1) := by decide +kernel
theorem dX1_linkWith_0 : decode cX1_linkWith 0 = .ok (.iload_n 1, 1) := by decide +kernel
theorem dX1_linkWith_1 : decode cX1_linkWith 1 = .ok (.aload_n 0, 1) := by decide +kernel
theorem dX1_linkWith_2 : decode cX1_linkWith 2 = .ok (.getfield 21, 3) := by decide +kernel
theorem dX1_linkWith_5 : decode cX1_linkWith 5 = .ok (.aload_n 0, 1) := by decide +kernel
theorem dX1_linkWith_6 : decode cX1_linkWith 6 = .ok (.getfield 46, 3) := by decide +kernel
theorem dX1_linkWith_9 : decode cX1_linkWith 9 = .ok (.invokestatic 49, 3) := by decide +kernel
theorem dX1_linkWith_12 : decode cX1_linkWith 12 = .ok (.ireturn, 1) := by decide +kernel
theorem dX1_placeOf_0 : decode cX1_placeOf 0 = .ok (.iconst 0, 1) := by decide +kernel
theorem dX1_placeOf_1 : decode cX1_placeOf 1 = .ok (.istore_n 3, 1) := by decide +kernel
theorem dX1_placeOf_2 : decode cX1_placeOf 2 = .ok (.iload_n 3, 1) := by decide +kernel
theorem dX1_placeOf_3 : decode cX1_placeOf 3 = .ok (.iload_n 2, 1) := by decide +kernel
theorem dX1_placeOf_4 : decode cX1_placeOf 4 = .ok (.if_icmp .ge 24, 3) := by decide +kernel
theorem dX1_placeOf_7 : decode cX1_placeOf 7 = .ok (.iload_n 3, 1) := by decide +kernel
theorem dX1_placeOf_8 : decode cX1_placeOf 8 = .ok (.aload_n 1, 1) := by decide +kernel
theorem dX1_placeOf_9 : decode cX1_placeOf 9 = .ok (.arraylength, 1) := by decide +kernel
theorem dX1_placeOf_10 : decode cX1_placeOf 10 = .ok (.if_icmp .ge 18, 3) := by decide +kernel
theorem dX1_placeOf_13 : decode cX1_placeOf 13 = .ok (.aload_n 1, 1) := by decide +kernel
theorem dX1_placeOf_14 : decode cX1_placeOf 14 = .ok (.iload_n 3, 1) := by decide +kernel
theorem dX1_placeOf_15 : decode cX1_placeOf 15 = .ok (.iaload, 1) := by decide +kernel
theorem dX1_placeOf_16 : decode cX1_placeOf 16 = .ok (.iload_n 0, 1) := by decide +kernel
theorem dX1_placeOf_17 : decode cX1_placeOf 17 = .ok (.if_icmp .ne 5, 3) := by decide +kernel
theorem dX1_placeOf_20 : decode cX1_placeOf 20 = .ok (.iload_n 3, 1) := by decide +kernel
theorem dX1_placeOf_21 : decode cX1_placeOf 21 = .ok (.ireturn, 1) := by decide +kernel
theorem dX1_placeOf_22 : decode cX1_placeOf 22 = .ok (.iinc 3 1, 3) := by decide +kernel
theorem dX1_placeOf_25 : decode cX1_placeOf 25 = .ok (.goto (-23), 3) := by decide +kernel
theorem dX1_placeOf_28 : decode cX1_placeOf 28 = .ok (.iconst (-1), 1) := by decide +kernel
theorem dX1_placeOf_29 : decode cX1_placeOf 29 = .ok (.ireturn, 1) := by decide +kernel
theorem dX1_costOfCount_0 : decode cX1_costOfCount 0 = .ok (.bipush 10, 2) := by decide +kernel
theorem dX1_costOfCount_2 : decode cX1_costOfCount 2 = .ok (.istore_n 1, 1) := by decide +kernel
theorem dX1_costOfCount_3 : decode cX1_costOfCount 3 = .ok (.iconst 2, 1) := by decide +kernel
theorem dX1_costOfCount_4 : decode cX1_costOfCount 4 = .ok (.iload_n 0, 1) := by decide +kernel
theorem dX1_costOfCount_5 : decode cX1_costOfCount 5 = .ok (.imul, 1) := by decide +kernel
theorem dX1_costOfCount_6 : decode cX1_costOfCount 6 = .ok (.istore_n 2, 1) := by decide +kernel
theorem dX1_costOfCount_7 : decode cX1_costOfCount 7 = .ok (.iconst 0, 1) := by decide +kernel
theorem dX1_costOfCount_8 : decode cX1_costOfCount 8 = .ok (.istore_n 3, 1) := by decide +kernel
theorem dX1_costOfCount_9 : decode cX1_costOfCount 9 = .ok (.iload_n 3, 1) := by decide +kernel
theorem dX1_costOfCount_10 : decode cX1_costOfCount 10 = .ok (.bipush 13, 2) := by decide +kernel
theorem dX1_costOfCount_12 : decode cX1_costOfCount 12 = .ok (.if_icmp .ge 23, 3) := by decide +kernel
theorem dX1_costOfCount_15 : decode cX1_costOfCount 15 = .ok (.iload_n 2, 1) := by decide +kernel
theorem dX1_costOfCount_16 : decode cX1_costOfCount 16 = .ok (.sipush 10000, 3) := by decide +kernel
theorem dX1_costOfCount_19 : decode cX1_costOfCount 19 = .ok (.if_icmp .gt 16, 3) := by decide +kernel
theorem dX1_costOfCount_22 : decode cX1_costOfCount 22 = .ok (.iinc 1 10, 3) := by decide +kernel
theorem dX1_costOfCount_25 : decode cX1_costOfCount 25 = .ok (.iload_n 2, 1) := by decide +kernel
theorem dX1_costOfCount_26 : decode cX1_costOfCount 26 = .ok (.iconst 2, 1) := by decide +kernel
theorem dX1_costOfCount_27 : decode cX1_costOfCount 27 = .ok (.imul, 1) := by decide +kernel
theorem dX1_costOfCount_28 : decode cX1_costOfCount 28 = .ok (.istore_n 2, 1) := by decide +kernel
theorem dX1_costOfCount_29 : decode cX1_costOfCount 29 = .ok (.iinc 3 1, 3) := by decide +kernel
theorem dX1_costOfCount_32 : decode cX1_costOfCount 32 = .ok (.goto (-23), 3) := by decide +kernel
theorem dX1_costOfCount_35 : decode cX1_costOfCount 35 = .ok (.iload_n 1, 1) := by decide +kernel
theorem dX1_costOfCount_36 : decode cX1_costOfCount 36 = .ok (.ireturn, 1) := by decide +kernel
theorem dX1_lettersOfLink_0 : decode cX1_lettersOfLink 0 = .ok (.iload_n 1, 1) := by decide +kernel
theorem dX1_lettersOfLink_1 : decode cX1_lettersOfLink 1 = .ok (.ifCond .lt 11, 3) := by decide +kernel
theorem dX1_lettersOfLink_4 : decode cX1_lettersOfLink 4 = .ok (.iload_n 1, 1) := by decide +kernel
theorem dX1_lettersOfLink_5 : decode cX1_lettersOfLink 5 = .ok (.aload_n 0, 1) := by decide +kernel
theorem dX1_lettersOfLink_6 : decode cX1_lettersOfLink 6 = .ok (.getfield 46, 3) := by decide +kernel
theorem dX1_lettersOfLink_9 : decode cX1_lettersOfLink 9 = .ok (.if_icmp .lt 7, 3) := by decide +kernel
theorem dX1_lettersOfLink_12 : decode cX1_lettersOfLink 12 = .ok (.iconst 0, 1) := by decide +kernel
theorem dX1_lettersOfLink_13 : decode cX1_lettersOfLink 13 = .ok (.goto 12, 3) := by decide +kernel
theorem dX1_lettersOfLink_16 : decode cX1_lettersOfLink 16 = .ok (.aload_n 0, 1) := by decide +kernel
theorem dX1_lettersOfLink_17 : decode cX1_lettersOfLink 17 = .ok (.getfield 21, 3) := by decide +kernel
theorem dX1_lettersOfLink_20 : decode cX1_lettersOfLink 20 = .ok (.iload_n 1, 1) := by decide +kernel
theorem dX1_lettersOfLink_21 : decode cX1_lettersOfLink 21 = .ok (.iaload, 1) := by decide +kernel
theorem dX1_lettersOfLink_22 : decode cX1_lettersOfLink 22 = .ok (.invokestatic 53, 3) := by decide +kernel
theorem dX1_lettersOfLink_25 : decode cX1_lettersOfLink 25 = .ok (.ireturn, 1) := by decide +kernel
theorem dX1_mayStand_0 : decode cX1_mayStand 0 = .ok (.iload_n 2, 1) := by decide +kernel
theorem dX1_mayStand_1 : decode cX1_mayStand 1 = .ok (.ifCond .eq 7, 3) := by decide +kernel
theorem dX1_mayStand_4 : decode cX1_mayStand 4 = .ok (.iconst 1, 1) := by decide +kernel
theorem dX1_mayStand_5 : decode cX1_mayStand 5 = .ok (.goto 4, 3) := by decide +kernel
theorem dX1_mayStand_8 : decode cX1_mayStand 8 = .ok (.iconst 0, 1) := by decide +kernel
theorem dX1_mayStand_9 : decode cX1_mayStand 9 = .ok (.iload_n 3, 1) := by decide +kernel
theorem dX1_mayStand_10 : decode cX1_mayStand 10 = .ok (.ifCond .eq 7, 3) := by decide +kernel
theorem dX1_mayStand_13 : decode cX1_mayStand 13 = .ok (.iconst 4, 1) := by decide +kernel
theorem dX1_mayStand_14 : decode cX1_mayStand 14 = .ok (.goto 4, 3) := by decide +kernel
theorem dX1_mayStand_17 : decode cX1_mayStand 17 = .ok (.iconst 0, 1) := by decide +kernel
theorem dX1_mayStand_18 : decode cX1_mayStand 18 = .ok (.ior, 1) := by decide +kernel
theorem dX1_mayStand_19 : decode cX1_mayStand 19 = .ok (.istore 4, 2) := by decide +kernel
theorem dX1_mayStand_21 : decode cX1_mayStand 21 = .ok (.iload 4, 2) := by decide +kernel
theorem dX1_mayStand_23 : decode cX1_mayStand 23 = .ok (.ifCond .ne 6, 3) := by decide +kernel
theorem dX1_mayStand_26 : decode cX1_mayStand 26 = .ok (.iconst 2, 1) := by decide +kernel
theorem dX1_mayStand_27 : decode cX1_mayStand 27 = .ok (.istore 4, 2) := by decide +kernel
theorem dX1_mayStand_29 : decode cX1_mayStand 29 = .ok (.aload_n 0, 1) := by decide +kernel
theorem dX1_mayStand_30 : decode cX1_mayStand 30 = .ok (.getfield 18, 3) := by decide +kernel
theorem dX1_mayStand_33 : decode cX1_mayStand 33 = .ok (.iload_n 1, 1) := by decide +kernel
theorem dX1_mayStand_34 : decode cX1_mayStand 34 = .ok (.iaload, 1) := by decide +kernel
theorem dX1_mayStand_35 : decode cX1_mayStand 35 = .ok (.iload 4, 2) := by decide +kernel
theorem dX1_mayStand_37 : decode cX1_mayStand 37 = .ok (.iand, 1) := by decide +kernel
theorem dX1_mayStand_38 : decode cX1_mayStand 38 = .ok (.iload 4, 2) := by decide +kernel
theorem dX1_mayStand_40 : decode cX1_mayStand 40 = .ok (.if_icmp .ne 7, 3) := by decide +kernel
theorem dX1_mayStand_43 : decode cX1_mayStand 43 = .ok (.iconst 1, 1) := by decide +kernel
theorem dX1_mayStand_44 : decode cX1_mayStand 44 = .ok (.goto 4, 3) := by decide +kernel
theorem dX1_mayStand_47 : decode cX1_mayStand 47 = .ok (.iconst 0, 1) := by decide +kernel
theorem dX1_mayStand_48 : decode cX1_mayStand 48 = .ok (.ireturn, 1) := by decide +kernel
theorem dX2_init_0 : decode cX2_init 0 = .ok (.aload_n 0, 1) := by decide +kernel
theorem dX2_init_1 : decode cX2_init 1 = .ok (.invokespecial 5, 3) := by decide +kernel
theorem dX2_init_4 : decode cX2_init 4 = .ok (.aload_n 0, 1) := by decide +kernel
theorem dX2_init_5 : decode cX2_init 5 = .ok (.bipush 8, 2) := by decide +kernel
theorem dX2_init_7 : decode cX2_init 7 = .ok (.newarray .int, 2) := by decide +kernel
theorem dX2_init_9 : decode cX2_init 9 = .ok (.putfield 11, 3) := by decide +kernel
theorem dX2_init_12 : decode cX2_init 12 = .ok (.aload_n 0, 1) := by decide +kernel
theorem dX2_init_13 : decode cX2_init 13 = .ok (.bipush 32, 2) := by decide +kernel
theorem dX2_init_15 : decode cX2_init 15 = .ok (.newarray .int, 2) := by decide +kernel
theorem dX2_init_17 : decode cX2_init 17 = .ok (.putfield 15, 3) := by decide +kernel
theorem dX2_init_20 : decode cX2_init 20 = .ok (.aload_n 0, 1) := by decide +kernel
theorem dX2_init_21 : decode cX2_init 21 = .ok (.bipush 16, 2) := by decide +kernel
theorem dX2_init_23 : decode cX2_init 23 = .ok (.newarray .int, 2) := by decide +kernel
theorem dX2_init_25 : decode cX2_init 25 = .ok (.putfield 18, 3) := by decide +kernel
theorem dX2_init_28 : decode cX2_init 28 = .ok (.aload_n 0, 1) := by decide +kernel
theorem dX2_init_29 : decode cX2_init 29 = .ok (.sipush 513, 3) := by decide +kernel
theorem dX2_init_32 : decode cX2_init 32 = .ok (.newarray .long, 2) := by decide +kernel
theorem dX2_init_34 : decode cX2_init 34 = .ok (.putfield 21, 3) := by decide +kernel
theorem dX2_init_37 : decode cX2_init 37 = .ok (.aload_n 0, 1) := by decide +kernel
theorem dX2_init_38 : decode cX2_init 38 = .ok (.aload_n 1, 1) := by decide +kernel
theorem dX2_init_39 : decode cX2_init 39 = .ok (.putfield 25, 3) := by decide +kernel
theorem dX2_init_42 : decode cX2_init 42 = .ok (.return_, 1) := by decide +kernel
theorem dX2_gather_0 : decode cX2_gather 0 = .ok (.aload_n 0, 1) := by decide +kernel
theorem dX2_gather_1 : decode cX2_gather 1 = .ok (.iload_n 1, 1) := by decide +kernel
theorem dX2_gather_2 : decode cX2_gather 2 = .ok (.invokevirtual 29, 3) := by decide +kernel
theorem dX2_gather_5 : decode cX2_gather 5 = .ok (.iconst 0, 1) := by decide +kernel
theorem dX2_gather_6 : decode cX2_gather 6 = .ok (.istore_n 2, 1) := by decide +kernel
theorem dX2_gather_7 : decode cX2_gather 7 = .ok (.iload_n 2, 1) := by decide +kernel
theorem dX2_gather_8 : decode cX2_gather 8 = .ok (.aload_n 0, 1) := by decide +kernel
theorem dX2_gather_9 : decode cX2_gather 9 = .ok (.getfield 33, 3) := by decide +kernel
theorem dX2_gather_12 : decode cX2_gather 12 = .ok (.if_icmp .ge 14, 3) := by decide +kernel
theorem dX2_gather_15 : decode cX2_gather 15 = .ok (.aload_n 0, 1) := by decide +kernel
theorem dX2_gather_16 : decode cX2_gather 16 = .ok (.iload_n 2, 1) := by decide +kernel
theorem dX2_gather_17 : decode cX2_gather 17 = .ok (.invokevirtual 37, 3) := by decide +kernel
theorem dX2_gather_20 : decode cX2_gather 20 = .ok (.iinc 2 1, 3) := by decide +kernel
theorem dX2_gather_23 : decode cX2_gather 23 = .ok (.goto (-16), 3) := by decide +kernel
theorem dX2_gather_26 : decode cX2_gather 26 = .ok (.aload_n 0, 1) := by decide +kernel
theorem dX2_gather_27 : decode cX2_gather 27 = .ok (.iconst 0, 1) := by decide +kernel
theorem dX2_gather_28 : decode cX2_gather 28 = .ok (.putfield 40, 3) := by decide +kernel
theorem dX2_gather_31 : decode cX2_gather 31 = .ok (.aload_n 0, 1) := by decide +kernel
theorem dX2_gather_32 : decode cX2_gather 32 = .ok (.iconst 0, 1) := by decide +kernel
theorem dX2_gather_33 : decode cX2_gather 33 = .ok (.iconst (-1), 1) := by decide +kernel
theorem dX2_gather_34 : decode cX2_gather 34 = .ok (.iconst 0, 1) := by decide +kernel
theorem dX2_gather_35 : decode cX2_gather 35 = .ok (.iconst 0, 1) := by decide +kernel
theorem dX2_gather_36 : decode cX2_gather 36 = .ok (.lconst 0, 1) := by decide +kernel
theorem dX2_gather_37 : decode cX2_gather 37 = .ok (.invokevirtual 43, 3) := by decide +kernel
theorem dX2_gather_40 : decode cX2_gather 40 = .ok (.return_, 1) := by decide +kernel
theorem dX2_readLetters_0 : decode cX2_readLetters 0 = .ok (.aload_n 0, 1) := by decide +kernel
theorem dX2_readLetters_1 : decode cX2_readLetters 1 = .ok (.iload_n 1, 1) := by decide +kernel
theorem dX2_readLetters_2 : decode cX2_readLetters 2 = .ok (.invokestatic 47, 3) := by decide +kernel
theorem dX2_readLetters_5 : decode cX2_readLetters 5 = .ok (.putfield 33, 3) := by decide +kernel
theorem dX2_readLetters_8 : decode cX2_readLetters 8 = .ok (.iload_n 1, 1) := by decide +kernel
theorem dX2_readLetters_9 : decode cX2_readLetters 9 = .ok (.istore_n 2, 1) := by decide +kernel
theorem dX2_readLetters_10 : decode cX2_readLetters 10 = .ok (.aload_n 0, 1) := by decide +kernel
theorem dX2_readLetters_11 : decode cX2_readLetters 11 = .ok (.getfield 33, 3) := by decide +kernel
theorem dX2_readLetters_14 : decode cX2_readLetters 14 = .ok (.iconst 1, 1) := by decide +kernel
theorem dX2_readLetters_15 : decode cX2_readLetters 15 = .ok (.isub, 1) := by decide +kernel
theorem dX2_readLetters_16 : decode cX2_readLetters 16 = .ok (.istore_n 3, 1) := by decide +kernel
theorem dX2_readLetters_17 : decode cX2_readLetters 17 = .ok (.iload_n 3, 1) := by decide +kernel
theorem dX2_readLetters_18 : decode cX2_readLetters 18 = .ok (.ifCond .lt 24, 3) := by decide +kernel
theorem dX2_readLetters_21 : decode cX2_readLetters 21 = .ok (.aload_n 0, 1) := by decide +kernel
theorem dX2_readLetters_22 : decode cX2_readLetters 22 = .ok (.getfield 11, 3) := by decide +kernel
theorem dX2_readLetters_25 : decode cX2_readLetters 25 = .ok (.iload_n 3, 1) := by decide +kernel
theorem dX2_readLetters_26 : decode cX2_readLetters 26 = .ok (.iload_n 2, 1) := by decide +kernel
theorem dX2_readLetters_27 : decode cX2_readLetters 27 = .ok (.bipush 10, 2) := by decide +kernel
theorem dX2_readLetters_29 : decode cX2_readLetters 29 = .ok (.irem, 1) := by decide +kernel
theorem dX2_readLetters_30 : decode cX2_readLetters 30 = .ok (.iastore, 1) := by decide +kernel
theorem dX2_readLetters_31 : decode cX2_readLetters 31 = .ok (.iload_n 2, 1) := by decide +kernel
theorem dX2_readLetters_32 : decode cX2_readLetters 32 = .ok (.bipush 10, 2) := by decide +kernel
theorem dX2_readLetters_34 : decode cX2_readLetters 34 = .ok (.idiv, 1) := by decide +kernel
theorem dX2_readLetters_35 : decode cX2_readLetters 35 = .ok (.istore_n 2, 1) := by decide +kernel
theorem dX2_readLetters_36 : decode cX2_readLetters 36 = .ok (.iinc 3 (-1), 3) := by decide +kernel
theorem dX2_readLetters_39 : decode cX2_readLetters 39 = .ok (.goto (-22), 3) := by decide +kernel
theorem dX2_readLetters_42 : decode cX2_readLetters 42 = .ok (.return_, 1) := by decide +kernel
theorem dX2_findFrom_0 : decode cX2_findFrom 0 = .ok (.iconst 1, 1) := by decide +kernel
theorem dX2_findFrom_1 : decode cX2_findFrom 1 = .ok (.istore_n 2, 1) := by decide +kernel
theorem dX2_findFrom_2 : decode cX2_findFrom 2 = .ok (.iconst 1, 1) := by decide +kernel
theorem dX2_findFrom_3 : decode cX2_findFrom 3 = .ok (.istore_n 3, 1) := by decide +kernel
theorem dX2_findFrom_4 : decode cX2_findFrom 4 = .ok (.iload_n 3, 1) := by decide +kernel
theorem dX2_findFrom_5 : decode cX2_findFrom 5 = .ok (.iconst 4, 1) := by decide +kernel
theorem dX2_findFrom_6 : decode cX2_findFrom 6 = .ok (.if_icmp .gt 80, 3) := by decide +kernel
theorem dX2_findFrom_9 : decode cX2_findFrom 9 = .ok (.iload_n 1, 1) := by decide +kernel
theorem dX2_findFrom_10 : decode cX2_findFrom 10 = .ok (.iload_n 3, 1) := by decide +kernel
theorem dX2_findFrom_11 : decode cX2_findFrom 11 = .ok (.iadd, 1) := by decide +kernel
theorem dX2_findFrom_12 : decode cX2_findFrom 12 = .ok (.aload_n 0, 1) := by decide +kernel
theorem dX2_findFrom_13 : decode cX2_findFrom 13 = .ok (.getfield 33, 3) := by decide +kernel
theorem dX2_findFrom_16 : decode cX2_findFrom 16 = .ok (.if_icmp .gt 70, 3) := by decide +kernel
theorem dX2_findFrom_19 : decode cX2_findFrom 19 = .ok (.bipush 10, 2) := by decide +kernel
theorem dX2_findFrom_21 : decode cX2_findFrom 21 = .ok (.iload_n 2, 1) := by decide +kernel
theorem dX2_findFrom_22 : decode cX2_findFrom 22 = .ok (.imul, 1) := by decide +kernel
theorem dX2_findFrom_23 : decode cX2_findFrom 23 = .ok (.aload_n 0, 1) := by decide +kernel
theorem dX2_findFrom_24 : decode cX2_findFrom 24 = .ok (.getfield 11, 3) := by decide +kernel
theorem dX2_findFrom_27 : decode cX2_findFrom 27 = .ok (.iload_n 1, 1) := by decide +kernel
theorem dX2_findFrom_28 : decode cX2_findFrom 28 = .ok (.iload_n 3, 1) := by decide +kernel
theorem dX2_findFrom_29 : decode cX2_findFrom 29 = .ok (.iadd, 1) := by decide +kernel
theorem dX2_findFrom_30 : decode cX2_findFrom 30 = .ok (.iconst 1, 1) := by decide +kernel
theorem dX2_findFrom_31 : decode cX2_findFrom 31 = .ok (.isub, 1) := by decide +kernel
theorem dX2_findFrom_32 : decode cX2_findFrom 32 = .ok (.iaload, 1) := by decide +kernel
theorem dX2_findFrom_33 : decode cX2_findFrom 33 = .ok (.iadd, 1) := by decide +kernel
theorem dX2_findFrom_34 : decode cX2_findFrom 34 = .ok (.istore_n 2, 1) := by decide +kernel
theorem dX2_findFrom_35 : decode cX2_findFrom 35 = .ok (.aload_n 0, 1) := by decide +kernel
theorem dX2_findFrom_36 : decode cX2_findFrom 36 = .ok (.getfield 15, 3) := by decide +kernel
theorem dX2_findFrom_39 : decode cX2_findFrom 39 = .ok (.iload_n 1, 1) := by decide +kernel
theorem dX2_findFrom_40 : decode cX2_findFrom 40 = .ok (.iconst 4, 1) := by decide +kernel
theorem dX2_findFrom_41 : decode cX2_findFrom 41 = .ok (.imul, 1) := by decide +kernel
theorem dX2_findFrom_42 : decode cX2_findFrom 42 = .ok (.iload_n 3, 1) := by decide +kernel
theorem dX2_findFrom_43 : decode cX2_findFrom 43 = .ok (.iadd, 1) := by decide +kernel
theorem dX2_findFrom_44 : decode cX2_findFrom 44 = .ok (.iconst 1, 1) := by decide +kernel
theorem dX2_findFrom_45 : decode cX2_findFrom 45 = .ok (.isub, 1) := by decide +kernel
theorem dX2_findFrom_46 : decode cX2_findFrom 46 = .ok (.aload_n 0, 1) := by decide +kernel
theorem dX2_findFrom_47 : decode cX2_findFrom 47 = .ok (.getfield 25, 3) := by decide +kernel
theorem dX2_findFrom_50 : decode cX2_findFrom 50 = .ok (.iload_n 2, 1) := by decide +kernel
theorem dX2_findFrom_51 : decode cX2_findFrom 51 = .ok (.invokevirtual 51, 3) := by decide +kernel
theorem dX2_findFrom_54 : decode cX2_findFrom 54 = .ok (.iastore, 1) := by decide +kernel
theorem dX2_findFrom_55 : decode cX2_findFrom 55 = .ok (.iload_n 3, 1) := by decide +kernel
theorem dX2_findFrom_56 : decode cX2_findFrom 56 = .ok (.iconst 2, 1) := by decide +kernel
theorem dX2_findFrom_57 : decode cX2_findFrom 57 = .ok (.if_icmp .gt 23, 3) := by decide +kernel
theorem dX2_findFrom_60 : decode cX2_findFrom 60 = .ok (.aload_n 0, 1) := by decide +kernel
theorem dX2_findFrom_61 : decode cX2_findFrom 61 = .ok (.getfield 18, 3) := by decide +kernel
theorem dX2_findFrom_64 : decode cX2_findFrom 64 = .ok (.iload_n 1, 1) := by decide +kernel
theorem dX2_findFrom_65 : decode cX2_findFrom 65 = .ok (.iconst 2, 1) := by decide +kernel
theorem dX2_findFrom_66 : decode cX2_findFrom 66 = .ok (.imul, 1) := by decide +kernel
theorem dX2_findFrom_67 : decode cX2_findFrom 67 = .ok (.iload_n 3, 1) := by decide +kernel
theorem dX2_findFrom_68 : decode cX2_findFrom 68 = .ok (.iadd, 1) := by decide +kernel
theorem dX2_findFrom_69 : decode cX2_findFrom 69 = .ok (.iconst 1, 1) := by decide +kernel
theorem dX2_findFrom_70 : decode cX2_findFrom 70 = .ok (.isub, 1) := by decide +kernel
theorem dX2_findFrom_71 : decode cX2_findFrom 71 = .ok (.aload_n 0, 1) := by decide +kernel
theorem dX2_findFrom_72 : decode cX2_findFrom 72 = .ok (.getfield 25, 3) := by decide +kernel
theorem dX2_findFrom_75 : decode cX2_findFrom 75 = .ok (.iload_n 2, 1) := by decide +kernel
theorem dX2_findFrom_76 : decode cX2_findFrom 76 = .ok (.invokevirtual 56, 3) := by decide +kernel
theorem dX2_findFrom_79 : decode cX2_findFrom 79 = .ok (.iastore, 1) := by decide +kernel
theorem dX2_findFrom_80 : decode cX2_findFrom 80 = .ok (.iinc 3 1, 3) := by decide +kernel
theorem dX2_findFrom_83 : decode cX2_findFrom 83 = .ok (.goto (-79), 3) := by decide +kernel
theorem dX2_findFrom_86 : decode cX2_findFrom 86 = .ok (.return_, 1) := by decide +kernel
theorem dX2_tryParts_0 : decode cX2_tryParts 0 = .ok (.iload_n 3, 1) := by decide +kernel
theorem dX2_tryParts_1 : decode cX2_tryParts 1 = .ok (.bipush 8, 2) := by decide +kernel
theorem dX2_tryParts_3 : decode cX2_tryParts 3 = .ok (.if_icmp .lt 4, 3) := by decide +kernel
theorem dX2_tryParts_6 : decode cX2_tryParts 6 = .ok (.return_, 1) := by decide +kernel
theorem dX2_tryParts_7 : decode cX2_tryParts 7 = .ok (.iconst 1, 1) := by decide +kernel
theorem dX2_tryParts_8 : decode cX2_tryParts 8 = .ok (.istore 7, 2) := by decide +kernel
theorem dX2_tryParts_10 : decode cX2_tryParts 10 = .ok (.iload 7, 2) := by decide +kernel
theorem dX2_tryParts_12 : decode cX2_tryParts 12 = .ok (.iconst 4, 1) := by decide +kernel
theorem dX2_tryParts_13 : decode cX2_tryParts 13 = .ok (.if_icmp .gt 150, 3) := by decide +kernel
theorem dX2_tryParts_16 : decode cX2_tryParts 16 = .ok (.iload_n 1, 1) := by decide +kernel
theorem dX2_tryParts_17 : decode cX2_tryParts 17 = .ok (.iload 7, 2) := by decide +kernel
theorem dX2_tryParts_19 : decode cX2_tryParts 19 = .ok (.iadd, 1) := by decide +kernel
theorem dX2_tryParts_20 : decode cX2_tryParts 20 = .ok (.aload_n 0, 1) := by decide +kernel
theorem dX2_tryParts_21 : decode cX2_tryParts 21 = .ok (.getfield 33, 3) := by decide +kernel
theorem dX2_tryParts_24 : decode cX2_tryParts 24 = .ok (.if_icmp .gt 139, 3) := by decide +kernel
theorem dX2_tryParts_27 : decode cX2_tryParts 27 = .ok (.aload_n 0, 1) := by decide +kernel
theorem dX2_tryParts_28 : decode cX2_tryParts 28 = .ok (.getfield 15, 3) := by decide +kernel
theorem dX2_tryParts_31 : decode cX2_tryParts 31 = .ok (.iload_n 1, 1) := by decide +kernel
theorem dX2_tryParts_32 : decode cX2_tryParts 32 = .ok (.iconst 4, 1) := by decide +kernel
theorem dX2_tryParts_33 : decode cX2_tryParts 33 = .ok (.imul, 1) := by decide +kernel
theorem dX2_tryParts_34 : decode cX2_tryParts 34 = .ok (.iload 7, 2) := by decide +kernel
theorem dX2_tryParts_36 : decode cX2_tryParts 36 = .ok (.iadd, 1) := by decide +kernel
theorem dX2_tryParts_37 : decode cX2_tryParts 37 = .ok (.iconst 1, 1) := by decide +kernel
theorem dX2_tryParts_38 : decode cX2_tryParts 38 = .ok (.isub, 1) := by decide +kernel
theorem dX2_tryParts_39 : decode cX2_tryParts 39 = .ok (.iaload, 1) := by decide +kernel
theorem dX2_tryParts_40 : decode cX2_tryParts 40 = .ok (.istore 8, 2) := by decide +kernel
theorem dX2_tryParts_42 : decode cX2_tryParts 42 = .ok (.iload_n 1, 1) := by decide +kernel
theorem dX2_tryParts_43 : decode cX2_tryParts 43 = .ok (.iload 7, 2) := by decide +kernel
theorem dX2_tryParts_45 : decode cX2_tryParts 45 = .ok (.iadd, 1) := by decide +kernel
theorem dX2_tryParts_46 : decode cX2_tryParts 46 = .ok (.istore 9, 2) := by decide +kernel
theorem dX2_tryParts_48 : decode cX2_tryParts 48 = .ok (.iload 8, 2) := by decide +kernel
theorem dX2_tryParts_50 : decode cX2_tryParts 50 = .ok (.iconst (-1), 1) := by decide +kernel
theorem dX2_tryParts_51 : decode cX2_tryParts 51 = .ok (.if_icmp .eq 106, 3) := by decide +kernel
theorem dX2_tryParts_54 : decode cX2_tryParts 54 = .ok (.aload_n 0, 1) := by decide +kernel
theorem dX2_tryParts_55 : decode cX2_tryParts 55 = .ok (.iload_n 2, 1) := by decide +kernel
theorem dX2_tryParts_56 : decode cX2_tryParts 56 = .ok (.iload 8, 2) := by decide +kernel
theorem dX2_tryParts_58 : decode cX2_tryParts 58 = .ok (.iload 9, 2) := by decide +kernel
theorem dX2_tryParts_60 : decode cX2_tryParts 60 = .ok (.invokevirtual 59, 3) := by decide +kernel
theorem dX2_tryParts_63 : decode cX2_tryParts 63 = .ok (.ifCond .ne 6, 3) := by decide +kernel
theorem dX2_tryParts_66 : decode cX2_tryParts 66 = .ok (.goto 91, 3) := by decide +kernel
theorem dX2_tryParts_69 : decode cX2_tryParts 69 = .ok (.aload_n 0, 1) := by decide +kernel
theorem dX2_tryParts_70 : decode cX2_tryParts 70 = .ok (.getfield 25, 3) := by decide +kernel
theorem dX2_tryParts_73 : decode cX2_tryParts 73 = .ok (.getfield 63, 3) := by decide +kernel
theorem dX2_tryParts_76 : decode cX2_tryParts 76 = .ok (.iload 8, 2) := by decide +kernel
theorem dX2_tryParts_78 : decode cX2_tryParts 78 = .ok (.iaload, 1) := by decide +kernel
theorem dX2_tryParts_79 : decode cX2_tryParts 79 = .ok (.invokestatic 66, 3) := by decide +kernel
theorem dX2_tryParts_82 : decode cX2_tryParts 82 = .ok (.iload_n 2, 1) := by decide +kernel
theorem dX2_tryParts_83 : decode cX2_tryParts 83 = .ok (.iconst (-1), 1) := by decide +kernel
theorem dX2_tryParts_84 : decode cX2_tryParts 84 = .ok (.if_icmp .ne 7, 3) := by decide +kernel
theorem dX2_tryParts_87 : decode cX2_tryParts 87 = .ok (.iconst 0, 1) := by decide +kernel
theorem dX2_tryParts_88 : decode cX2_tryParts 88 = .ok (.goto 5, 3) := by decide +kernel
theorem dX2_tryParts_91 : decode cX2_tryParts 91 = .ok (.bipush 15, 2) := by decide +kernel
theorem dX2_tryParts_93 : decode cX2_tryParts 93 = .ok (.iadd, 1) := by decide +kernel
theorem dX2_tryParts_94 : decode cX2_tryParts 94 = .ok (.istore 10, 2) := by decide +kernel
theorem dX2_tryParts_96 : decode cX2_tryParts 96 = .ok (.lload 5, 2) := by decide +kernel
theorem dX2_tryParts_98 : decode cX2_tryParts 98 = .ok (.iconst 4, 1) := by decide +kernel
theorem dX2_tryParts_99 : decode cX2_tryParts 99 = .ok (.iload 7, 2) := by decide +kernel
theorem dX2_tryParts_101 : decode cX2_tryParts 101 = .ok (.isub, 1) := by decide +kernel
theorem dX2_tryParts_102 : decode cX2_tryParts 102 = .ok (.i2l, 1) := by decide +kernel
theorem dX2_tryParts_103 : decode cX2_tryParts 103 = .ok (.iload_n 3, 1) := by decide +kernel
theorem dX2_tryParts_104 : decode cX2_tryParts 104 = .ok (.invokestatic 69, 3) := by decide +kernel
theorem dX2_tryParts_107 : decode cX2_tryParts 107 = .ok (.iconst 3, 1) := by decide +kernel
theorem dX2_tryParts_108 : decode cX2_tryParts 108 = .ok (.iadd, 1) := by decide +kernel
theorem dX2_tryParts_109 : decode cX2_tryParts 109 = .ok (.lshl, 1) := by decide +kernel
theorem dX2_tryParts_110 : decode cX2_tryParts 110 = .ok (.lor, 1) := by decide +kernel
theorem dX2_tryParts_111 : decode cX2_tryParts 111 = .ok (.lstore 11, 2) := by decide +kernel
theorem dX2_tryParts_113 : decode cX2_tryParts 113 = .ok (.iload 9, 2) := by decide +kernel
theorem dX2_tryParts_115 : decode cX2_tryParts 115 = .ok (.aload_n 0, 1) := by decide +kernel
theorem dX2_tryParts_116 : decode cX2_tryParts 116 = .ok (.getfield 33, 3) := by decide +kernel
theorem dX2_tryParts_119 : decode cX2_tryParts 119 = .ok (.if_icmp .ne 20, 3) := by decide +kernel
theorem dX2_tryParts_122 : decode cX2_tryParts 122 = .ok (.aload_n 0, 1) := by decide +kernel
theorem dX2_tryParts_123 : decode cX2_tryParts 123 = .ok (.iload 4, 2) := by decide +kernel
theorem dX2_tryParts_125 : decode cX2_tryParts 125 = .ok (.iload 10, 2) := by decide +kernel
theorem dX2_tryParts_127 : decode cX2_tryParts 127 = .ok (.iadd, 1) := by decide +kernel
theorem dX2_tryParts_128 : decode cX2_tryParts 128 = .ok (.iload_n 3, 1) := by decide +kernel
theorem dX2_tryParts_129 : decode cX2_tryParts 129 = .ok (.iconst 1, 1) := by decide +kernel
theorem dX2_tryParts_130 : decode cX2_tryParts 130 = .ok (.iadd, 1) := by decide +kernel
theorem dX2_tryParts_131 : decode cX2_tryParts 131 = .ok (.lload 11, 2) := by decide +kernel
theorem dX2_tryParts_133 : decode cX2_tryParts 133 = .ok (.invokevirtual 72, 3) := by decide +kernel
theorem dX2_tryParts_136 : decode cX2_tryParts 136 = .ok (.goto 21, 3) := by decide +kernel
theorem dX2_tryParts_139 : decode cX2_tryParts 139 = .ok (.aload_n 0, 1) := by decide +kernel
theorem dX2_tryParts_140 : decode cX2_tryParts 140 = .ok (.iload 9, 2) := by decide +kernel
theorem dX2_tryParts_142 : decode cX2_tryParts 142 = .ok (.iload 8, 2) := by decide +kernel
theorem dX2_tryParts_144 : decode cX2_tryParts 144 = .ok (.iload_n 3, 1) := by decide +kernel
theorem dX2_tryParts_145 : decode cX2_tryParts 145 = .ok (.iconst 1, 1) := by decide +kernel
theorem dX2_tryParts_146 : decode cX2_tryParts 146 = .ok (.iadd, 1) := by decide +kernel
theorem dX2_tryParts_147 : decode cX2_tryParts 147 = .ok (.iload 4, 2) := by decide +kernel
theorem dX2_tryParts_149 : decode cX2_tryParts 149 = .ok (.iload 10, 2) := by decide +kernel
theorem dX2_tryParts_151 : decode cX2_tryParts 151 = .ok (.iadd, 1) := by decide +kernel
theorem dX2_tryParts_152 : decode cX2_tryParts 152 = .ok (.lload 11, 2) := by decide +kernel
theorem dX2_tryParts_154 : decode cX2_tryParts 154 = .ok (.invokevirtual 76, 3) := by decide +kernel
theorem dX2_tryParts_157 : decode cX2_tryParts 157 = .ok (.iinc 7 1, 3) := by decide +kernel
theorem dX2_tryParts_160 : decode cX2_tryParts 160 = .ok (.goto (-150), 3) := by decide +kernel
theorem dX2_tryParts_163 : decode cX2_tryParts 163 = .ok (.return_, 1) := by decide +kernel
theorem dX2_mayFollow_0 : decode cX2_mayFollow 0 = .ok (.aload_n 0, 1) := by decide +kernel
theorem dX2_mayFollow_1 : decode cX2_mayFollow 1 = .ok (.getfield 25, 3) := by decide +kernel
theorem dX2_mayFollow_4 : decode cX2_mayFollow 4 = .ok (.iload_n 2, 1) := by decide +kernel
theorem dX2_mayFollow_5 : decode cX2_mayFollow 5 = .ok (.iload_n 1, 1) := by decide +kernel
theorem dX2_mayFollow_6 : decode cX2_mayFollow 6 = .ok (.iconst (-1), 1) := by decide +kernel
theorem dX2_mayFollow_7 : decode cX2_mayFollow 7 = .ok (.if_icmp .ne 7, 3) := by decide +kernel
theorem dX2_mayFollow_10 : decode cX2_mayFollow 10 = .ok (.iconst 1, 1) := by decide +kernel
theorem dX2_mayFollow_11 : decode cX2_mayFollow 11 = .ok (.goto 4, 3) := by decide +kernel
theorem dX2_mayFollow_14 : decode cX2_mayFollow 14 = .ok (.iconst 0, 1) := by decide +kernel
theorem dX2_mayFollow_15 : decode cX2_mayFollow 15 = .ok (.iload_n 3, 1) := by decide +kernel
theorem dX2_mayFollow_16 : decode cX2_mayFollow 16 = .ok (.aload_n 0, 1) := by decide +kernel
theorem dX2_mayFollow_17 : decode cX2_mayFollow 17 = .ok (.getfield 33, 3) := by decide +kernel
theorem dX2_mayFollow_20 : decode cX2_mayFollow 20 = .ok (.if_icmp .ne 7, 3) := by decide +kernel
theorem dX2_mayFollow_23 : decode cX2_mayFollow 23 = .ok (.iconst 1, 1) := by decide +kernel
theorem dX2_mayFollow_24 : decode cX2_mayFollow 24 = .ok (.goto 4, 3) := by decide +kernel
theorem dX2_mayFollow_27 : decode cX2_mayFollow 27 = .ok (.iconst 0, 1) := by decide +kernel
theorem dX2_mayFollow_28 : decode cX2_mayFollow 28 = .ok (.invokevirtual 79, 3) := by decide +kernel
theorem dX2_mayFollow_31 : decode cX2_mayFollow 31 = .ok (.ifCond .ne 5, 3) := by decide +kernel
theorem dX2_mayFollow_34 : decode cX2_mayFollow 34 = .ok (.iconst 0, 1) := by decide +kernel
theorem dX2_mayFollow_35 : decode cX2_mayFollow 35 = .ok (.ireturn, 1) := by decide +kernel
theorem dX2_mayFollow_36 : decode cX2_mayFollow 36 = .ok (.iload_n 1, 1) := by decide +kernel
theorem dX2_mayFollow_37 : decode cX2_mayFollow 37 = .ok (.iconst (-1), 1) := by decide +kernel
theorem dX2_mayFollow_38 : decode cX2_mayFollow 38 = .ok (.if_icmp .eq 20, 3) := by decide +kernel
theorem dX2_mayFollow_41 : decode cX2_mayFollow 41 = .ok (.aload_n 0, 1) := by decide +kernel
theorem dX2_mayFollow_42 : decode cX2_mayFollow 42 = .ok (.getfield 25, 3) := by decide +kernel
theorem dX2_mayFollow_45 : decode cX2_mayFollow 45 = .ok (.getfield 83, 3) := by decide +kernel
theorem dX2_mayFollow_48 : decode cX2_mayFollow 48 = .ok (.iload_n 1, 1) := by decide +kernel
theorem dX2_mayFollow_49 : decode cX2_mayFollow 49 = .ok (.bipush 16, 2) := by decide +kernel
theorem dX2_mayFollow_51 : decode cX2_mayFollow 51 = .ok (.imul, 1) := by decide +kernel
theorem dX2_mayFollow_52 : decode cX2_mayFollow 52 = .ok (.iload_n 2, 1) := by decide +kernel
theorem dX2_mayFollow_53 : decode cX2_mayFollow 53 = .ok (.iadd, 1) := by decide +kernel
theorem dX2_mayFollow_54 : decode cX2_mayFollow 54 = .ok (.baload, 1) := by decide +kernel
theorem dX2_mayFollow_55 : decode cX2_mayFollow 55 = .ok (.ifCond .ne 7, 3) := by decide +kernel
theorem dX2_mayFollow_58 : decode cX2_mayFollow 58 = .ok (.iconst 1, 1) := by decide +kernel
theorem dX2_mayFollow_59 : decode cX2_mayFollow 59 = .ok (.goto 4, 3) := by decide +kernel
theorem dX2_mayFollow_62 : decode cX2_mayFollow 62 = .ok (.iconst 0, 1) := by decide +kernel
theorem dX2_mayFollow_63 : decode cX2_mayFollow 63 = .ok (.ireturn, 1) := by decide +kernel
theorem dX2_tryLinks_0 : decode cX2_tryLinks 0 = .ok (.aload_n 0, 1) := by decide +kernel
theorem dX2_tryLinks_1 : decode cX2_tryLinks 1 = .ok (.iload_n 1, 1) := by decide +kernel
theorem dX2_tryLinks_2 : decode cX2_tryLinks 2 = .ok (.iload_n 2, 1) := by decide +kernel
theorem dX2_tryLinks_3 : decode cX2_tryLinks 3 = .ok (.iload_n 3, 1) := by decide +kernel
theorem dX2_tryLinks_4 : decode cX2_tryLinks 4 = .ok (.iload 4, 2) := by decide +kernel
theorem dX2_tryLinks_6 : decode cX2_tryLinks 6 = .ok (.lload 5, 2) := by decide +kernel
theorem dX2_tryLinks_8 : decode cX2_tryLinks 8 = .ok (.invokevirtual 43, 3) := by decide +kernel
theorem dX2_tryLinks_11 : decode cX2_tryLinks 11 = .ok (.iconst 1, 1) := by decide +kernel
theorem dX2_tryLinks_12 : decode cX2_tryLinks 12 = .ok (.istore 7, 2) := by decide +kernel
theorem dX2_tryLinks_14 : decode cX2_tryLinks 14 = .ok (.iload 7, 2) := by decide +kernel
theorem dX2_tryLinks_16 : decode cX2_tryLinks 16 = .ok (.iconst 2, 1) := by decide +kernel
theorem dX2_tryLinks_17 : decode cX2_tryLinks 17 = .ok (.if_icmp .gt 92, 3) := by decide +kernel
theorem dX2_tryLinks_20 : decode cX2_tryLinks 20 = .ok (.iload_n 1, 1) := by decide +kernel
theorem dX2_tryLinks_21 : decode cX2_tryLinks 21 = .ok (.iload 7, 2) := by decide +kernel
theorem dX2_tryLinks_23 : decode cX2_tryLinks 23 = .ok (.iadd, 1) := by decide +kernel
theorem dX2_tryLinks_24 : decode cX2_tryLinks 24 = .ok (.aload_n 0, 1) := by decide +kernel
theorem dX2_tryLinks_25 : decode cX2_tryLinks 25 = .ok (.getfield 33, 3) := by decide +kernel
theorem dX2_tryLinks_28 : decode cX2_tryLinks 28 = .ok (.if_icmp .ge 81, 3) := by decide +kernel
theorem dX2_tryLinks_31 : decode cX2_tryLinks 31 = .ok (.aload_n 0, 1) := by decide +kernel
theorem dX2_tryLinks_32 : decode cX2_tryLinks 32 = .ok (.getfield 18, 3) := by decide +kernel
theorem dX2_tryLinks_35 : decode cX2_tryLinks 35 = .ok (.iload_n 1, 1) := by decide +kernel
theorem dX2_tryLinks_36 : decode cX2_tryLinks 36 = .ok (.iconst 2, 1) := by decide +kernel
theorem dX2_tryLinks_37 : decode cX2_tryLinks 37 = .ok (.imul, 1) := by decide +kernel
theorem dX2_tryLinks_38 : decode cX2_tryLinks 38 = .ok (.iload 7, 2) := by decide +kernel
theorem dX2_tryLinks_40 : decode cX2_tryLinks 40 = .ok (.iadd, 1) := by decide +kernel
theorem dX2_tryLinks_41 : decode cX2_tryLinks 41 = .ok (.iconst 1, 1) := by decide +kernel
theorem dX2_tryLinks_42 : decode cX2_tryLinks 42 = .ok (.isub, 1) := by decide +kernel
theorem dX2_tryLinks_43 : decode cX2_tryLinks 43 = .ok (.iaload, 1) := by decide +kernel
theorem dX2_tryLinks_44 : decode cX2_tryLinks 44 = .ok (.istore 8, 2) := by decide +kernel
theorem dX2_tryLinks_46 : decode cX2_tryLinks 46 = .ok (.iload 8, 2) := by decide +kernel
theorem dX2_tryLinks_48 : decode cX2_tryLinks 48 = .ok (.iconst (-1), 1) := by decide +kernel
theorem dX2_tryLinks_49 : decode cX2_tryLinks 49 = .ok (.if_icmp .eq 54, 3) := by decide +kernel
theorem dX2_tryLinks_52 : decode cX2_tryLinks 52 = .ok (.aload_n 0, 1) := by decide +kernel
theorem dX2_tryLinks_53 : decode cX2_tryLinks 53 = .ok (.getfield 25, 3) := by decide +kernel
theorem dX2_tryLinks_56 : decode cX2_tryLinks 56 = .ok (.getfield 87, 3) := by decide +kernel
theorem dX2_tryLinks_59 : decode cX2_tryLinks 59 = .ok (.iload_n 2, 1) := by decide +kernel
theorem dX2_tryLinks_60 : decode cX2_tryLinks 60 = .ok (.bipush 6, 2) := by decide +kernel
theorem dX2_tryLinks_62 : decode cX2_tryLinks 62 = .ok (.imul, 1) := by decide +kernel
theorem dX2_tryLinks_63 : decode cX2_tryLinks 63 = .ok (.iload 8, 2) := by decide +kernel
theorem dX2_tryLinks_65 : decode cX2_tryLinks 65 = .ok (.iadd, 1) := by decide +kernel
theorem dX2_tryLinks_66 : decode cX2_tryLinks 66 = .ok (.baload, 1) := by decide +kernel
theorem dX2_tryLinks_67 : decode cX2_tryLinks 67 = .ok (.ifCond .ne 36, 3) := by decide +kernel
theorem dX2_tryLinks_70 : decode cX2_tryLinks 70 = .ok (.lload 5, 2) := by decide +kernel
theorem dX2_tryLinks_72 : decode cX2_tryLinks 72 = .ok (.iload 8, 2) := by decide +kernel
theorem dX2_tryLinks_74 : decode cX2_tryLinks 74 = .ok (.iconst 1, 1) := by decide +kernel
theorem dX2_tryLinks_75 : decode cX2_tryLinks 75 = .ok (.iadd, 1) := by decide +kernel
theorem dX2_tryLinks_76 : decode cX2_tryLinks 76 = .ok (.i2l, 1) := by decide +kernel
theorem dX2_tryLinks_77 : decode cX2_tryLinks 77 = .ok (.iload_n 3, 1) := by decide +kernel
theorem dX2_tryLinks_78 : decode cX2_tryLinks 78 = .ok (.iconst 1, 1) := by decide +kernel
theorem dX2_tryLinks_79 : decode cX2_tryLinks 79 = .ok (.isub, 1) := by decide +kernel
theorem dX2_tryLinks_80 : decode cX2_tryLinks 80 = .ok (.invokestatic 69, 3) := by decide +kernel
theorem dX2_tryLinks_83 : decode cX2_tryLinks 83 = .ok (.lshl, 1) := by decide +kernel
theorem dX2_tryLinks_84 : decode cX2_tryLinks 84 = .ok (.lor, 1) := by decide +kernel
theorem dX2_tryLinks_85 : decode cX2_tryLinks 85 = .ok (.lstore 9, 2) := by decide +kernel
theorem dX2_tryLinks_87 : decode cX2_tryLinks 87 = .ok (.aload_n 0, 1) := by decide +kernel
theorem dX2_tryLinks_88 : decode cX2_tryLinks 88 = .ok (.iload_n 1, 1) := by decide +kernel
theorem dX2_tryLinks_89 : decode cX2_tryLinks 89 = .ok (.iload 7, 2) := by decide +kernel
theorem dX2_tryLinks_91 : decode cX2_tryLinks 91 = .ok (.iadd, 1) := by decide +kernel
theorem dX2_tryLinks_92 : decode cX2_tryLinks 92 = .ok (.iload_n 2, 1) := by decide +kernel
theorem dX2_tryLinks_93 : decode cX2_tryLinks 93 = .ok (.iload_n 3, 1) := by decide +kernel
theorem dX2_tryLinks_94 : decode cX2_tryLinks 94 = .ok (.iload 4, 2) := by decide +kernel
theorem dX2_tryLinks_96 : decode cX2_tryLinks 96 = .ok (.iconst 3, 1) := by decide +kernel
theorem dX2_tryLinks_97 : decode cX2_tryLinks 97 = .ok (.iadd, 1) := by decide +kernel
theorem dX2_tryLinks_98 : decode cX2_tryLinks 98 = .ok (.lload 9, 2) := by decide +kernel
theorem dX2_tryLinks_100 : decode cX2_tryLinks 100 = .ok (.invokevirtual 43, 3) := by decide +kernel
theorem dX2_tryLinks_103 : decode cX2_tryLinks 103 = .ok (.iinc 7 1, 3) := by decide +kernel
theorem dX2_tryLinks_106 : decode cX2_tryLinks 106 = .ok (.goto (-92), 3) := by decide +kernel
theorem dX2_tryLinks_109 : decode cX2_tryLinks 109 = .ok (.return_, 1) := by decide +kernel
theorem dX2_keep_0 : decode cX2_keep 0 = .ok (.aload_n 0, 1) := by decide +kernel
theorem dX2_keep_1 : decode cX2_keep 1 = .ok (.getfield 40, 3) := by decide +kernel
theorem dX2_keep_4 : decode cX2_keep 4 = .ok (.aload_n 0, 1) := by decide +kernel
theorem dX2_keep_5 : decode cX2_keep 5 = .ok (.getfield 21, 3) := by decide +kernel
theorem dX2_keep_8 : decode cX2_keep 8 = .ok (.arraylength, 1) := by decide +kernel
theorem dX2_keep_9 : decode cX2_keep 9 = .ok (.if_icmp .ge 34, 3) := by decide +kernel
theorem dX2_keep_12 : decode cX2_keep 12 = .ok (.aload_n 0, 1) := by decide +kernel
theorem dX2_keep_13 : decode cX2_keep 13 = .ok (.getfield 21, 3) := by decide +kernel
theorem dX2_keep_16 : decode cX2_keep 16 = .ok (.aload_n 0, 1) := by decide +kernel
theorem dX2_keep_17 : decode cX2_keep 17 = .ok (.getfield 40, 3) := by decide +kernel
theorem dX2_keep_20 : decode cX2_keep 20 = .ok (.iload_n 1, 1) := by decide +kernel
theorem dX2_keep_21 : decode cX2_keep 21 = .ok (.i2l, 1) := by decide +kernel
theorem dX2_keep_22 : decode cX2_keep 22 = .ok (.iconst 4, 1) := by decide +kernel
theorem dX2_keep_23 : decode cX2_keep 23 = .ok (.lshl, 1) := by decide +kernel
theorem dX2_keep_24 : decode cX2_keep 24 = .ok (.iload_n 2, 1) := by decide +kernel
theorem dX2_keep_25 : decode cX2_keep 25 = .ok (.i2l, 1) := by decide +kernel
theorem dX2_keep_26 : decode cX2_keep 26 = .ok (.lor, 1) := by decide +kernel
theorem dX2_keep_27 : decode cX2_keep 27 = .ok (.bipush 40, 2) := by decide +kernel
theorem dX2_keep_29 : decode cX2_keep 29 = .ok (.lshl, 1) := by decide +kernel
theorem dX2_keep_30 : decode cX2_keep 30 = .ok (.lload_n 3, 1) := by decide +kernel
theorem dX2_keep_31 : decode cX2_keep 31 = .ok (.lor, 1) := by decide +kernel
theorem dX2_keep_32 : decode cX2_keep 32 = .ok (.lastore, 1) := by decide +kernel
theorem dX2_keep_33 : decode cX2_keep 33 = .ok (.aload_n 0, 1) := by decide +kernel
theorem dX2_keep_34 : decode cX2_keep 34 = .ok (.dup, 1) := by decide +kernel
theorem dX2_keep_35 : decode cX2_keep 35 = .ok (.getfield 40, 3) := by decide +kernel
theorem dX2_keep_38 : decode cX2_keep 38 = .ok (.iconst 1, 1) := by decide +kernel
theorem dX2_keep_39 : decode cX2_keep 39 = .ok (.iadd, 1) := by decide +kernel
theorem dX2_keep_40 : decode cX2_keep 40 = .ok (.putfield 40, 3) := by decide +kernel
theorem dX2_keep_43 : decode cX2_keep 43 = .ok (.return_, 1) := by decide +kernel
theorem dX2_keyAt_0 : decode cX2_keyAt 0 = .ok (.iload_n 1, 1) := by decide +kernel
theorem dX2_keyAt_1 : decode cX2_keyAt 1 = .ok (.ifCond .lt 23, 3) := by decide +kernel
theorem dX2_keyAt_4 : decode cX2_keyAt 4 = .ok (.iload_n 1, 1) := by decide +kernel
theorem dX2_keyAt_5 : decode cX2_keyAt 5 = .ok (.aload_n 0, 1) := by decide +kernel
theorem dX2_keyAt_6 : decode cX2_keyAt 6 = .ok (.getfield 40, 3) := by decide +kernel
theorem dX2_keyAt_9 : decode cX2_keyAt 9 = .ok (.if_icmp .ge 15, 3) := by decide +kernel
theorem dX2_keyAt_12 : decode cX2_keyAt 12 = .ok (.aload_n 0, 1) := by decide +kernel
theorem dX2_keyAt_13 : decode cX2_keyAt 13 = .ok (.getfield 40, 3) := by decide +kernel
theorem dX2_keyAt_16 : decode cX2_keyAt 16 = .ok (.aload_n 0, 1) := by decide +kernel
theorem dX2_keyAt_17 : decode cX2_keyAt 17 = .ok (.getfield 21, 3) := by decide +kernel
theorem dX2_keyAt_20 : decode cX2_keyAt 20 = .ok (.arraylength, 1) := by decide +kernel
theorem dX2_keyAt_21 : decode cX2_keyAt 21 = .ok (.if_icmp .le 7, 3) := by decide +kernel
theorem dX2_keyAt_24 : decode cX2_keyAt 24 = .ok (.ldc2_w 90, 3) := by decide +kernel
theorem dX2_keyAt_27 : decode cX2_keyAt 27 = .ok (.lreturn, 1) := by decide +kernel
theorem dX2_keyAt_28 : decode cX2_keyAt 28 = .ok (.aload_n 0, 1) := by decide +kernel
theorem dX2_keyAt_29 : decode cX2_keyAt 29 = .ok (.getfield 40, 3) := by decide +kernel
theorem dX2_keyAt_32 : decode cX2_keyAt 32 = .ok (.iconst 2, 1) := by decide +kernel
theorem dX2_keyAt_33 : decode cX2_keyAt 33 = .ok (.idiv, 1) := by decide +kernel
theorem dX2_keyAt_34 : decode cX2_keyAt 34 = .ok (.iconst 1, 1) := by decide +kernel
theorem dX2_keyAt_35 : decode cX2_keyAt 35 = .ok (.isub, 1) := by decide +kernel
theorem dX2_keyAt_36 : decode cX2_keyAt 36 = .ok (.istore_n 2, 1) := by decide +kernel
theorem dX2_keyAt_37 : decode cX2_keyAt 37 = .ok (.iload_n 2, 1) := by decide +kernel
theorem dX2_keyAt_38 : decode cX2_keyAt 38 = .ok (.ifCond .lt 18, 3) := by decide +kernel
theorem dX2_keyAt_41 : decode cX2_keyAt 41 = .ok (.aload_n 0, 1) := by decide +kernel
theorem dX2_keyAt_42 : decode cX2_keyAt 42 = .ok (.iload_n 2, 1) := by decide +kernel
theorem dX2_keyAt_43 : decode cX2_keyAt 43 = .ok (.aload_n 0, 1) := by decide +kernel
theorem dX2_keyAt_44 : decode cX2_keyAt 44 = .ok (.getfield 40, 3) := by decide +kernel
theorem dX2_keyAt_47 : decode cX2_keyAt 47 = .ok (.invokevirtual 92, 3) := by decide +kernel
theorem dX2_keyAt_50 : decode cX2_keyAt 50 = .ok (.iinc 2 (-1), 3) := by decide +kernel
theorem dX2_keyAt_53 : decode cX2_keyAt 53 = .ok (.goto (-16), 3) := by decide +kernel
theorem dX2_keyAt_56 : decode cX2_keyAt 56 = .ok (.aload_n 0, 1) := by decide +kernel
theorem dX2_keyAt_57 : decode cX2_keyAt 57 = .ok (.getfield 40, 3) := by decide +kernel
theorem dX2_keyAt_60 : decode cX2_keyAt 60 = .ok (.istore_n 2, 1) := by decide +kernel
theorem dX2_keyAt_61 : decode cX2_keyAt 61 = .ok (.iconst 0, 1) := by decide +kernel
theorem dX2_keyAt_62 : decode cX2_keyAt 62 = .ok (.istore_n 3, 1) := by decide +kernel
theorem dX2_keyAt_63 : decode cX2_keyAt 63 = .ok (.iload_n 3, 1) := by decide +kernel
theorem dX2_keyAt_64 : decode cX2_keyAt 64 = .ok (.iload_n 1, 1) := by decide +kernel
theorem dX2_keyAt_65 : decode cX2_keyAt 65 = .ok (.if_icmp .ge 46, 3) := by decide +kernel
theorem dX2_keyAt_68 : decode cX2_keyAt 68 = .ok (.iinc 2 (-1), 3) := by decide +kernel
theorem dX2_keyAt_71 : decode cX2_keyAt 71 = .ok (.aload_n 0, 1) := by decide +kernel
theorem dX2_keyAt_72 : decode cX2_keyAt 72 = .ok (.getfield 21, 3) := by decide +kernel
theorem dX2_keyAt_75 : decode cX2_keyAt 75 = .ok (.iconst 0, 1) := by decide +kernel
theorem dX2_keyAt_76 : decode cX2_keyAt 76 = .ok (.laload, 1) := by decide +kernel
theorem dX2_keyAt_77 : decode cX2_keyAt 77 = .ok (.lstore 4, 2) := by decide +kernel
theorem dX2_keyAt_79 : decode cX2_keyAt 79 = .ok (.aload_n 0, 1) := by decide +kernel
theorem dX2_keyAt_80 : decode cX2_keyAt 80 = .ok (.getfield 21, 3) := by decide +kernel
theorem dX2_keyAt_83 : decode cX2_keyAt 83 = .ok (.iconst 0, 1) := by decide +kernel
theorem dX2_keyAt_84 : decode cX2_keyAt 84 = .ok (.aload_n 0, 1) := by decide +kernel
theorem dX2_keyAt_85 : decode cX2_keyAt 85 = .ok (.getfield 21, 3) := by decide +kernel
theorem dX2_keyAt_88 : decode cX2_keyAt 88 = .ok (.iload_n 2, 1) := by decide +kernel
theorem dX2_keyAt_89 : decode cX2_keyAt 89 = .ok (.laload, 1) := by decide +kernel
theorem dX2_keyAt_90 : decode cX2_keyAt 90 = .ok (.lastore, 1) := by decide +kernel
theorem dX2_keyAt_91 : decode cX2_keyAt 91 = .ok (.aload_n 0, 1) := by decide +kernel
theorem dX2_keyAt_92 : decode cX2_keyAt 92 = .ok (.getfield 21, 3) := by decide +kernel
theorem dX2_keyAt_95 : decode cX2_keyAt 95 = .ok (.iload_n 2, 1) := by decide +kernel
theorem dX2_keyAt_96 : decode cX2_keyAt 96 = .ok (.lload 4, 2) := by decide +kernel
theorem dX2_keyAt_98 : decode cX2_keyAt 98 = .ok (.lastore, 1) := by decide +kernel
theorem dX2_keyAt_99 : decode cX2_keyAt 99 = .ok (.aload_n 0, 1) := by decide +kernel
theorem dX2_keyAt_100 : decode cX2_keyAt 100 = .ok (.iconst 0, 1) := by decide +kernel
theorem dX2_keyAt_101 : decode cX2_keyAt 101 = .ok (.iload_n 2, 1) := by decide +kernel
theorem dX2_keyAt_102 : decode cX2_keyAt 102 = .ok (.invokevirtual 92, 3) := by decide +kernel
theorem dX2_keyAt_105 : decode cX2_keyAt 105 = .ok (.iinc 3 1, 3) := by decide +kernel
theorem dX2_keyAt_108 : decode cX2_keyAt 108 = .ok (.goto (-45), 3) := by decide +kernel
theorem dX2_keyAt_111 : decode cX2_keyAt 111 = .ok (.aload_n 0, 1) := by decide +kernel
theorem dX2_keyAt_112 : decode cX2_keyAt 112 = .ok (.getfield 21, 3) := by decide +kernel
theorem dX2_keyAt_115 : decode cX2_keyAt 115 = .ok (.iconst 0, 1) := by decide +kernel
theorem dX2_keyAt_116 : decode cX2_keyAt 116 = .ok (.laload, 1) := by decide +kernel
theorem dX2_keyAt_117 : decode cX2_keyAt 117 = .ok (.lreturn, 1) := by decide +kernel
theorem dX2_sink_0 : decode cX2_sink 0 = .ok (.aload_n 0, 1) := by decide +kernel
theorem dX2_sink_1 : decode cX2_sink 1 = .ok (.getfield 21, 3) := by decide +kernel
theorem dX2_sink_4 : decode cX2_sink 4 = .ok (.iload_n 1, 1) := by decide +kernel
theorem dX2_sink_5 : decode cX2_sink 5 = .ok (.laload, 1) := by decide +kernel
theorem dX2_sink_6 : decode cX2_sink 6 = .ok (.lstore_n 3, 1) := by decide +kernel
theorem dX2_sink_7 : decode cX2_sink 7 = .ok (.iload_n 1, 1) := by decide +kernel
theorem dX2_sink_8 : decode cX2_sink 8 = .ok (.istore 5, 2) := by decide +kernel
theorem dX2_sink_10 : decode cX2_sink 10 = .ok (.iconst 2, 1) := by decide +kernel
theorem dX2_sink_11 : decode cX2_sink 11 = .ok (.iload 5, 2) := by decide +kernel
theorem dX2_sink_13 : decode cX2_sink 13 = .ok (.imul, 1) := by decide +kernel
theorem dX2_sink_14 : decode cX2_sink 14 = .ok (.iconst 1, 1) := by decide +kernel
theorem dX2_sink_15 : decode cX2_sink 15 = .ok (.iadd, 1) := by decide +kernel
theorem dX2_sink_16 : decode cX2_sink 16 = .ok (.istore 6, 2) := by decide +kernel
theorem dX2_sink_18 : decode cX2_sink 18 = .ok (.iload 6, 2) := by decide +kernel
theorem dX2_sink_20 : decode cX2_sink 20 = .ok (.iload_n 2, 1) := by decide +kernel
theorem dX2_sink_21 : decode cX2_sink 21 = .ok (.if_icmp .ge 78, 3) := by decide +kernel
theorem dX2_sink_24 : decode cX2_sink 24 = .ok (.iload 6, 2) := by decide +kernel
theorem dX2_sink_26 : decode cX2_sink 26 = .ok (.iconst 1, 1) := by decide +kernel
theorem dX2_sink_27 : decode cX2_sink 27 = .ok (.iadd, 1) := by decide +kernel
theorem dX2_sink_28 : decode cX2_sink 28 = .ok (.iload_n 2, 1) := by decide +kernel
theorem dX2_sink_29 : decode cX2_sink 29 = .ok (.if_icmp .ge 26, 3) := by decide +kernel
theorem dX2_sink_32 : decode cX2_sink 32 = .ok (.aload_n 0, 1) := by decide +kernel
theorem dX2_sink_33 : decode cX2_sink 33 = .ok (.getfield 21, 3) := by decide +kernel
theorem dX2_sink_36 : decode cX2_sink 36 = .ok (.iload 6, 2) := by decide +kernel
theorem dX2_sink_38 : decode cX2_sink 38 = .ok (.iconst 1, 1) := by decide +kernel
theorem dX2_sink_39 : decode cX2_sink 39 = .ok (.iadd, 1) := by decide +kernel
theorem dX2_sink_40 : decode cX2_sink 40 = .ok (.laload, 1) := by decide +kernel
theorem dX2_sink_41 : decode cX2_sink 41 = .ok (.aload_n 0, 1) := by decide +kernel
theorem dX2_sink_42 : decode cX2_sink 42 = .ok (.getfield 21, 3) := by decide +kernel
theorem dX2_sink_45 : decode cX2_sink 45 = .ok (.iload 6, 2) := by decide +kernel
theorem dX2_sink_47 : decode cX2_sink 47 = .ok (.laload, 1) := by decide +kernel
theorem dX2_sink_48 : decode cX2_sink 48 = .ok (.lcmp, 1) := by decide +kernel
theorem dX2_sink_49 : decode cX2_sink 49 = .ok (.ifCond .ge 6, 3) := by decide +kernel
theorem dX2_sink_52 : decode cX2_sink 52 = .ok (.iinc 6 1, 3) := by decide +kernel
theorem dX2_sink_55 : decode cX2_sink 55 = .ok (.aload_n 0, 1) := by decide +kernel
theorem dX2_sink_56 : decode cX2_sink 56 = .ok (.getfield 21, 3) := by decide +kernel
theorem dX2_sink_59 : decode cX2_sink 59 = .ok (.iload 6, 2) := by decide +kernel
theorem dX2_sink_61 : decode cX2_sink 61 = .ok (.laload, 1) := by decide +kernel
theorem dX2_sink_62 : decode cX2_sink 62 = .ok (.lload_n 3, 1) := by decide +kernel
theorem dX2_sink_63 : decode cX2_sink 63 = .ok (.lcmp, 1) := by decide +kernel
theorem dX2_sink_64 : decode cX2_sink 64 = .ok (.ifCond .lt 6, 3) := by decide +kernel
theorem dX2_sink_67 : decode cX2_sink 67 = .ok (.goto 32, 3) := by decide +kernel
theorem dX2_sink_70 : decode cX2_sink 70 = .ok (.aload_n 0, 1) := by decide +kernel
theorem dX2_sink_71 : decode cX2_sink 71 = .ok (.getfield 21, 3) := by decide +kernel
theorem dX2_sink_74 : decode cX2_sink 74 = .ok (.iload 5, 2) := by decide +kernel
theorem dX2_sink_76 : decode cX2_sink 76 = .ok (.aload_n 0, 1) := by decide +kernel
theorem dX2_sink_77 : decode cX2_sink 77 = .ok (.getfield 21, 3) := by decide +kernel
theorem dX2_sink_80 : decode cX2_sink 80 = .ok (.iload 6, 2) := by decide +kernel
theorem dX2_sink_82 : decode cX2_sink 82 = .ok (.laload, 1) := by decide +kernel
theorem dX2_sink_83 : decode cX2_sink 83 = .ok (.lastore, 1) := by decide +kernel
theorem dX2_sink_84 : decode cX2_sink 84 = .ok (.iload 6, 2) := by decide +kernel
theorem dX2_sink_86 : decode cX2_sink 86 = .ok (.istore 5, 2) := by decide +kernel
theorem dX2_sink_88 : decode cX2_sink 88 = .ok (.iconst 2, 1) := by decide +kernel
theorem dX2_sink_89 : decode cX2_sink 89 = .ok (.iload 5, 2) := by decide +kernel
theorem dX2_sink_91 : decode cX2_sink 91 = .ok (.imul, 1) := by decide +kernel
theorem dX2_sink_92 : decode cX2_sink 92 = .ok (.iconst 1, 1) := by decide +kernel
theorem dX2_sink_93 : decode cX2_sink 93 = .ok (.iadd, 1) := by decide +kernel
theorem dX2_sink_94 : decode cX2_sink 94 = .ok (.istore 6, 2) := by decide +kernel
theorem dX2_sink_96 : decode cX2_sink 96 = .ok (.goto (-78), 3) := by decide +kernel
theorem dX2_sink_99 : decode cX2_sink 99 = .ok (.aload_n 0, 1) := by decide +kernel
theorem dX2_sink_100 : decode cX2_sink 100 = .ok (.getfield 21, 3) := by decide +kernel
theorem dX2_sink_103 : decode cX2_sink 103 = .ok (.iload 5, 2) := by decide +kernel
theorem dX2_sink_105 : decode cX2_sink 105 = .ok (.lload_n 3, 1) := by decide +kernel
theorem dX2_sink_106 : decode cX2_sink 106 = .ok (.lastore, 1) := by decide +kernel
theorem dX2_sink_107 : decode cX2_sink 107 = .ok (.return_, 1) := by decide +kernel
theorem dX2_costIn_0 : decode cX2_costIn 0 = .ok (.lload_n 0, 1) := by decide +kernel
theorem dX2_costIn_1 : decode cX2_costIn 1 = .ok (.bipush 44, 2) := by decide +kernel
theorem dX2_costIn_3 : decode cX2_costIn 3 = .ok (.lushr, 1) := by decide +kernel
theorem dX2_costIn_4 : decode cX2_costIn 4 = .ok (.l2i, 1) := by decide +kernel
theorem dX2_costIn_5 : decode cX2_costIn 5 = .ok (.ireturn, 1) := by decide +kernel
theorem dX2_placesIn_0 : decode cX2_placesIn 0 = .ok (.lload_n 0, 1) := by decide +kernel
theorem dX2_placesIn_1 : decode cX2_placesIn 1 = .ok (.bipush 40, 2) := by decide +kernel
theorem dX2_placesIn_3 : decode cX2_placesIn 3 = .ok (.lushr, 1) := by decide +kernel
theorem dX2_placesIn_4 : decode cX2_placesIn 4 = .ok (.l2i, 1) := by decide +kernel
theorem dX2_placesIn_5 : decode cX2_placesIn 5 = .ok (.bipush 15, 2) := by decide +kernel
theorem dX2_placesIn_7 : decode cX2_placesIn 7 = .ok (.iand, 1) := by decide +kernel
theorem dX2_placesIn_8 : decode cX2_placesIn 8 = .ok (.ireturn, 1) := by decide +kernel
theorem dX2_partIn_0 : decode cX2_partIn 0 = .ok (.iconst 0, 1) := by decide +kernel
theorem dX2_partIn_1 : decode cX2_partIn 1 = .ok (.istore 4, 2) := by decide +kernel
theorem dX2_partIn_3 : decode cX2_partIn 3 = .ok (.iconst 0, 1) := by decide +kernel
theorem dX2_partIn_4 : decode cX2_partIn 4 = .ok (.istore 5, 2) := by decide +kernel
theorem dX2_partIn_6 : decode cX2_partIn 6 = .ok (.iload 5, 2) := by decide +kernel
theorem dX2_partIn_8 : decode cX2_partIn 8 = .ok (.iload_n 3, 1) := by decide +kernel
theorem dX2_partIn_9 : decode cX2_partIn 9 = .ok (.if_icmp .ge 34, 3) := by decide +kernel
theorem dX2_partIn_12 : decode cX2_partIn 12 = .ok (.iload 4, 2) := by decide +kernel
theorem dX2_partIn_14 : decode cX2_partIn 14 = .ok (.lload_n 1, 1) := by decide +kernel
theorem dX2_partIn_15 : decode cX2_partIn 15 = .ok (.iload 5, 2) := by decide +kernel
theorem dX2_partIn_17 : decode cX2_partIn 17 = .ok (.invokestatic 96, 3) := by decide +kernel
theorem dX2_partIn_20 : decode cX2_partIn 20 = .ok (.aload_n 0, 1) := by decide +kernel
theorem dX2_partIn_21 : decode cX2_partIn 21 = .ok (.getfield 25, 3) := by decide +kernel
theorem dX2_partIn_24 : decode cX2_partIn 24 = .ok (.lload_n 1, 1) := by decide +kernel
theorem dX2_partIn_25 : decode cX2_partIn 25 = .ok (.iload 5, 2) := by decide +kernel
theorem dX2_partIn_27 : decode cX2_partIn 27 = .ok (.invokestatic 100, 3) := by decide +kernel
theorem dX2_partIn_30 : decode cX2_partIn 30 = .ok (.invokevirtual 103, 3) := by decide +kernel
theorem dX2_partIn_33 : decode cX2_partIn 33 = .ok (.iadd, 1) := by decide +kernel
theorem dX2_partIn_34 : decode cX2_partIn 34 = .ok (.iadd, 1) := by decide +kernel
theorem dX2_partIn_35 : decode cX2_partIn 35 = .ok (.istore 4, 2) := by decide +kernel
theorem dX2_partIn_37 : decode cX2_partIn 37 = .ok (.iinc 5 1, 3) := by decide +kernel
theorem dX2_partIn_40 : decode cX2_partIn 40 = .ok (.goto (-34), 3) := by decide +kernel
theorem dX2_partIn_43 : decode cX2_partIn 43 = .ok (.lload_n 1, 1) := by decide +kernel
theorem dX2_partIn_44 : decode cX2_partIn 44 = .ok (.iload_n 3, 1) := by decide +kernel
theorem dX2_partIn_45 : decode cX2_partIn 45 = .ok (.invokestatic 96, 3) := by decide +kernel
theorem dX2_partIn_48 : decode cX2_partIn 48 = .ok (.istore 5, 2) := by decide +kernel
theorem dX2_partIn_50 : decode cX2_partIn 50 = .ok (.iload 4, 2) := by decide +kernel
theorem dX2_partIn_52 : decode cX2_partIn 52 = .ok (.iload 5, 2) := by decide +kernel
theorem dX2_partIn_54 : decode cX2_partIn 54 = .ok (.iadd, 1) := by decide +kernel
theorem dX2_partIn_55 : decode cX2_partIn 55 = .ok (.aload_n 0, 1) := by decide +kernel
theorem dX2_partIn_56 : decode cX2_partIn 56 = .ok (.getfield 33, 3) := by decide +kernel
theorem dX2_partIn_59 : decode cX2_partIn 59 = .ok (.if_icmp .le 7, 3) := by decide +kernel
theorem dX2_partIn_62 : decode cX2_partIn 62 = .ok (.iconst (-1), 1) := by decide +kernel
theorem dX2_partIn_63 : decode cX2_partIn 63 = .ok (.goto 17, 3) := by decide +kernel
theorem dX2_partIn_66 : decode cX2_partIn 66 = .ok (.aload_n 0, 1) := by decide +kernel
theorem dX2_partIn_67 : decode cX2_partIn 67 = .ok (.getfield 15, 3) := by decide +kernel
theorem dX2_partIn_70 : decode cX2_partIn 70 = .ok (.iload 4, 2) := by decide +kernel
theorem dX2_partIn_72 : decode cX2_partIn 72 = .ok (.iconst 4, 1) := by decide +kernel
theorem dX2_partIn_73 : decode cX2_partIn 73 = .ok (.imul, 1) := by decide +kernel
theorem dX2_partIn_74 : decode cX2_partIn 74 = .ok (.iload 5, 2) := by decide +kernel
theorem dX2_partIn_76 : decode cX2_partIn 76 = .ok (.iadd, 1) := by decide +kernel
theorem dX2_partIn_77 : decode cX2_partIn 77 = .ok (.iconst 1, 1) := by decide +kernel
theorem dX2_partIn_78 : decode cX2_partIn 78 = .ok (.isub, 1) := by decide +kernel
theorem dX2_partIn_79 : decode cX2_partIn 79 = .ok (.iaload, 1) := by decide +kernel
theorem dX2_partIn_80 : decode cX2_partIn 80 = .ok (.ireturn, 1) := by decide +kernel
theorem dX2_linkIn_0 : decode cX2_linkIn 0 = .ok (.lload_n 0, 1) := by decide +kernel
theorem dX2_linkIn_1 : decode cX2_linkIn 1 = .ok (.iload_n 2, 1) := by decide +kernel
theorem dX2_linkIn_2 : decode cX2_linkIn 2 = .ok (.invokestatic 69, 3) := by decide +kernel
theorem dX2_linkIn_5 : decode cX2_linkIn 5 = .ok (.lushr, 1) := by decide +kernel
theorem dX2_linkIn_6 : decode cX2_linkIn 6 = .ok (.l2i, 1) := by decide +kernel
theorem dX2_linkIn_7 : decode cX2_linkIn 7 = .ok (.bipush 7, 2) := by decide +kernel
theorem dX2_linkIn_9 : decode cX2_linkIn 9 = .ok (.iand, 1) := by decide +kernel
theorem dX2_linkIn_10 : decode cX2_linkIn 10 = .ok (.iconst 1, 1) := by decide +kernel
theorem dX2_linkIn_11 : decode cX2_linkIn 11 = .ok (.isub, 1) := by decide +kernel
theorem dX2_linkIn_12 : decode cX2_linkIn 12 = .ok (.ireturn, 1) := by decide +kernel
theorem dX2_lettersAt_0 : decode cX2_lettersAt 0 = .ok (.iconst 4, 1) := by decide +kernel
theorem dX2_lettersAt_1 : decode cX2_lettersAt 1 = .ok (.lload_n 0, 1) := by decide +kernel
theorem dX2_lettersAt_2 : decode cX2_lettersAt 2 = .ok (.iload_n 2, 1) := by decide +kernel
theorem dX2_lettersAt_3 : decode cX2_lettersAt 3 = .ok (.invokestatic 69, 3) := by decide +kernel
theorem dX2_lettersAt_6 : decode cX2_lettersAt 6 = .ok (.iconst 3, 1) := by decide +kernel
theorem dX2_lettersAt_7 : decode cX2_lettersAt 7 = .ok (.iadd, 1) := by decide +kernel
theorem dX2_lettersAt_8 : decode cX2_lettersAt 8 = .ok (.lushr, 1) := by decide +kernel
theorem dX2_lettersAt_9 : decode cX2_lettersAt 9 = .ok (.l2i, 1) := by decide +kernel
theorem dX2_lettersAt_10 : decode cX2_lettersAt 10 = .ok (.iconst 3, 1) := by decide +kernel
theorem dX2_lettersAt_11 : decode cX2_lettersAt 11 = .ok (.iand, 1) := by decide +kernel
theorem dX2_lettersAt_12 : decode cX2_lettersAt 12 = .ok (.isub, 1) := by decide +kernel
theorem dX2_lettersAt_13 : decode cX2_lettersAt 13 = .ok (.ireturn, 1) := by decide +kernel
theorem dX2_shiftOf_0 : decode cX2_shiftOf 0 = .ok (.iconst 5, 1) := by decide +kernel
theorem dX2_shiftOf_1 : decode cX2_shiftOf 1 = .ok (.bipush 7, 2) := by decide +kernel
theorem dX2_shiftOf_3 : decode cX2_shiftOf 3 = .ok (.iload_n 0, 1) := by decide +kernel
theorem dX2_shiftOf_4 : decode cX2_shiftOf 4 = .ok (.isub, 1) := by decide +kernel
theorem dX2_shiftOf_5 : decode cX2_shiftOf 5 = .ok (.imul, 1) := by decide +kernel
theorem dX2_shiftOf_6 : decode cX2_shiftOf 6 = .ok (.ireturn, 1) := by decide +kernel
theorem dX3_init_0 : decode cX3_init 0 = .ok (.aload_n 0, 1) := by decide +kernel
theorem dX3_init_1 : decode cX3_init 1 = .ok (.invokespecial 3, 3) := by decide +kernel
theorem dX3_init_4 : decode cX3_init 4 = .ok (.aload_n 0, 1) := by decide +kernel
theorem dX3_init_5 : decode cX3_init 5 = .ok (.sipush 650, 3) := by decide +kernel
theorem dX3_init_8 : decode cX3_init 8 = .ok (.newarray .int, 2) := by decide +kernel
theorem dX3_init_10 : decode cX3_init 10 = .ok (.putfield 11, 3) := by decide +kernel
theorem dX3_init_13 : decode cX3_init 13 = .ok (.aload_n 0, 1) := by decide +kernel
theorem dX3_init_14 : decode cX3_init 14 = .ok (.bipush 65, 2) := by decide +kernel
theorem dX3_init_16 : decode cX3_init 16 = .ok (.newarray .boolean, 2) := by decide +kernel
theorem dX3_init_18 : decode cX3_init 18 = .ok (.putfield 15, 3) := by decide +kernel
theorem dX3_init_21 : decode cX3_init 21 = .ok (.aload_n 0, 1) := by decide +kernel
theorem dX3_init_22 : decode cX3_init 22 = .ok (.bipush 65, 2) := by decide +kernel
theorem dX3_init_24 : decode cX3_init 24 = .ok (.newarray .int, 2) := by decide +kernel
theorem dX3_init_26 : decode cX3_init 26 = .ok (.putfield 19, 3) := by decide +kernel
theorem dX3_init_29 : decode cX3_init 29 = .ok (.aload_n 0, 1) := by decide +kernel
theorem dX3_init_30 : decode cX3_init 30 = .ok (.iconst 1, 1) := by decide +kernel
theorem dX3_init_31 : decode cX3_init 31 = .ok (.putfield 22, 3) := by decide +kernel
theorem dX3_init_34 : decode cX3_init 34 = .ok (.return_, 1) := by decide +kernel
theorem dX3_enter_0 : decode cX3_enter 0 = .ok (.iconst 1, 1) := by decide +kernel
theorem dX3_enter_1 : decode cX3_enter 1 = .ok (.istore_n 2, 1) := by decide +kernel
theorem dX3_enter_2 : decode cX3_enter 2 = .ok (.iload_n 1, 1) := by decide +kernel
theorem dX3_enter_3 : decode cX3_enter 3 = .ok (.invokestatic 26, 3) := by decide +kernel
theorem dX3_enter_6 : decode cX3_enter 6 = .ok (.istore_n 3, 1) := by decide +kernel
theorem dX3_enter_7 : decode cX3_enter 7 = .ok (.iload_n 3, 1) := by decide +kernel
theorem dX3_enter_8 : decode cX3_enter 8 = .ok (.iconst 1, 1) := by decide +kernel
theorem dX3_enter_9 : decode cX3_enter 9 = .ok (.if_icmp .le 14, 3) := by decide +kernel
theorem dX3_enter_12 : decode cX3_enter 12 = .ok (.iload_n 2, 1) := by decide +kernel
theorem dX3_enter_13 : decode cX3_enter 13 = .ok (.bipush 10, 2) := by decide +kernel
theorem dX3_enter_15 : decode cX3_enter 15 = .ok (.imul, 1) := by decide +kernel
theorem dX3_enter_16 : decode cX3_enter 16 = .ok (.istore_n 2, 1) := by decide +kernel
theorem dX3_enter_17 : decode cX3_enter 17 = .ok (.iinc 3 (-1), 3) := by decide +kernel
theorem dX3_enter_20 : decode cX3_enter 20 = .ok (.goto (-13), 3) := by decide +kernel
theorem dX3_enter_23 : decode cX3_enter 23 = .ok (.iconst 0, 1) := by decide +kernel
theorem dX3_enter_24 : decode cX3_enter 24 = .ok (.istore_n 3, 1) := by decide +kernel
theorem dX3_enter_25 : decode cX3_enter 25 = .ok (.iload_n 2, 1) := by decide +kernel
theorem dX3_enter_26 : decode cX3_enter 26 = .ok (.ifCond .le 23, 3) := by decide +kernel
theorem dX3_enter_29 : decode cX3_enter 29 = .ok (.aload_n 0, 1) := by decide +kernel
theorem dX3_enter_30 : decode cX3_enter 30 = .ok (.iload_n 3, 1) := by decide +kernel
theorem dX3_enter_31 : decode cX3_enter 31 = .ok (.iload_n 1, 1) := by decide +kernel
theorem dX3_enter_32 : decode cX3_enter 32 = .ok (.iload_n 2, 1) := by decide +kernel
theorem dX3_enter_33 : decode cX3_enter 33 = .ok (.idiv, 1) := by decide +kernel
theorem dX3_enter_34 : decode cX3_enter 34 = .ok (.bipush 10, 2) := by decide +kernel
theorem dX3_enter_36 : decode cX3_enter 36 = .ok (.irem, 1) := by decide +kernel
theorem dX3_enter_37 : decode cX3_enter 37 = .ok (.invokevirtual 30, 3) := by decide +kernel
theorem dX3_enter_40 : decode cX3_enter 40 = .ok (.istore_n 3, 1) := by decide +kernel
theorem dX3_enter_41 : decode cX3_enter 41 = .ok (.iload_n 2, 1) := by decide +kernel
theorem dX3_enter_42 : decode cX3_enter 42 = .ok (.bipush 10, 2) := by decide +kernel
theorem dX3_enter_44 : decode cX3_enter 44 = .ok (.idiv, 1) := by decide +kernel
theorem dX3_enter_45 : decode cX3_enter 45 = .ok (.istore_n 2, 1) := by decide +kernel
theorem dX3_enter_46 : decode cX3_enter 46 = .ok (.goto (-21), 3) := by decide +kernel
theorem dX3_enter_49 : decode cX3_enter 49 = .ok (.aload_n 0, 1) := by decide +kernel
theorem dX3_enter_50 : decode cX3_enter 50 = .ok (.getfield 15, 3) := by decide +kernel
theorem dX3_enter_53 : decode cX3_enter 53 = .ok (.iload_n 3, 1) := by decide +kernel
theorem dX3_enter_54 : decode cX3_enter 54 = .ok (.iconst 1, 1) := by decide +kernel
theorem dX3_enter_55 : decode cX3_enter 55 = .ok (.bastore, 1) := by decide +kernel
theorem dX3_enter_56 : decode cX3_enter 56 = .ok (.return_, 1) := by decide +kernel
theorem dX3_madeBelow_0 : decode cX3_madeBelow 0 = .ok (.iload_n 1, 1) := by decide +kernel
theorem dX3_madeBelow_1 : decode cX3_madeBelow 1 = .ok (.bipush 10, 2) := by decide +kernel
theorem dX3_madeBelow_3 : decode cX3_madeBelow 3 = .ok (.imul, 1) := by decide +kernel
theorem dX3_madeBelow_4 : decode cX3_madeBelow 4 = .ok (.iload_n 2, 1) := by decide +kernel
theorem dX3_madeBelow_5 : decode cX3_madeBelow 5 = .ok (.iadd, 1) := by decide +kernel
theorem dX3_madeBelow_6 : decode cX3_madeBelow 6 = .ok (.istore_n 3, 1) := by decide +kernel
theorem dX3_madeBelow_7 : decode cX3_madeBelow 7 = .ok (.aload_n 0, 1) := by decide +kernel
theorem dX3_madeBelow_8 : decode cX3_madeBelow 8 = .ok (.getfield 11, 3) := by decide +kernel
theorem dX3_madeBelow_11 : decode cX3_madeBelow 11 = .ok (.iload_n 3, 1) := by decide +kernel
theorem dX3_madeBelow_12 : decode cX3_madeBelow 12 = .ok (.iaload, 1) := by decide +kernel
theorem dX3_madeBelow_13 : decode cX3_madeBelow 13 = .ok (.ifCond .ne 32, 3) := by decide +kernel
theorem dX3_madeBelow_16 : decode cX3_madeBelow 16 = .ok (.aload_n 0, 1) := by decide +kernel
theorem dX3_madeBelow_17 : decode cX3_madeBelow 17 = .ok (.getfield 22, 3) := by decide +kernel
theorem dX3_madeBelow_20 : decode cX3_madeBelow 20 = .ok (.bipush 65, 2) := by decide +kernel
theorem dX3_madeBelow_22 : decode cX3_madeBelow 22 = .ok (.if_icmp .ge 23, 3) := by decide +kernel
theorem dX3_madeBelow_25 : decode cX3_madeBelow 25 = .ok (.aload_n 0, 1) := by decide +kernel
theorem dX3_madeBelow_26 : decode cX3_madeBelow 26 = .ok (.getfield 11, 3) := by decide +kernel
theorem dX3_madeBelow_29 : decode cX3_madeBelow 29 = .ok (.iload_n 3, 1) := by decide +kernel
theorem dX3_madeBelow_30 : decode cX3_madeBelow 30 = .ok (.aload_n 0, 1) := by decide +kernel
theorem dX3_madeBelow_31 : decode cX3_madeBelow 31 = .ok (.getfield 22, 3) := by decide +kernel
theorem dX3_madeBelow_34 : decode cX3_madeBelow 34 = .ok (.iastore, 1) := by decide +kernel
theorem dX3_madeBelow_35 : decode cX3_madeBelow 35 = .ok (.aload_n 0, 1) := by decide +kernel
theorem dX3_madeBelow_36 : decode cX3_madeBelow 36 = .ok (.dup, 1) := by decide +kernel
theorem dX3_madeBelow_37 : decode cX3_madeBelow 37 = .ok (.getfield 22, 3) := by decide +kernel
theorem dX3_madeBelow_40 : decode cX3_madeBelow 40 = .ok (.iconst 1, 1) := by decide +kernel
theorem dX3_madeBelow_41 : decode cX3_madeBelow 41 = .ok (.iadd, 1) := by decide +kernel
theorem dX3_madeBelow_42 : decode cX3_madeBelow 42 = .ok (.putfield 22, 3) := by decide +kernel
theorem dX3_madeBelow_45 : decode cX3_madeBelow 45 = .ok (.aload_n 0, 1) := by decide +kernel
theorem dX3_madeBelow_46 : decode cX3_madeBelow 46 = .ok (.getfield 11, 3) := by decide +kernel
theorem dX3_madeBelow_49 : decode cX3_madeBelow 49 = .ok (.iload_n 3, 1) := by decide +kernel
theorem dX3_madeBelow_50 : decode cX3_madeBelow 50 = .ok (.iaload, 1) := by decide +kernel
theorem dX3_madeBelow_51 : decode cX3_madeBelow 51 = .ok (.ireturn, 1) := by decide +kernel
theorem dX3_differentNodes_0 : decode cX3_differentNodes 0 = .ok (.iconst 0, 1) := by decide +kernel
theorem dX3_differentNodes_1 : decode cX3_differentNodes 1 = .ok (.istore_n 1, 1) := by decide +kernel
theorem dX3_differentNodes_2 : decode cX3_differentNodes 2 = .ok (.aload_n 0, 1) := by decide +kernel
theorem dX3_differentNodes_3 : decode cX3_differentNodes 3 = .ok (.getfield 22, 3) := by decide +kernel
theorem dX3_differentNodes_6 : decode cX3_differentNodes 6 = .ok (.iconst 1, 1) := by decide +kernel
theorem dX3_differentNodes_7 : decode cX3_differentNodes 7 = .ok (.isub, 1) := by decide +kernel
theorem dX3_differentNodes_8 : decode cX3_differentNodes 8 = .ok (.istore_n 2, 1) := by decide +kernel
theorem dX3_differentNodes_9 : decode cX3_differentNodes 9 = .ok (.iload_n 2, 1) := by decide +kernel
theorem dX3_differentNodes_10 : decode cX3_differentNodes 10 = .ok (.ifCond .lt 33, 3) := by decide +kernel
theorem dX3_differentNodes_13 : decode cX3_differentNodes 13 = .ok (.aload_n 0, 1) := by decide +kernel
theorem dX3_differentNodes_14 : decode cX3_differentNodes 14 = .ok (.getfield 19, 3) := by decide +kernel
theorem dX3_differentNodes_17 : decode cX3_differentNodes 17 = .ok (.iload_n 2, 1) := by decide +kernel
theorem dX3_differentNodes_18 : decode cX3_differentNodes 18 = .ok (.aload_n 0, 1) := by decide +kernel
theorem dX3_differentNodes_19 : decode cX3_differentNodes 19 = .ok (.iload_n 2, 1) := by decide +kernel
theorem dX3_differentNodes_20 : decode cX3_differentNodes 20 = .ok (.invokevirtual 34, 3) := by decide +kernel
theorem dX3_differentNodes_23 : decode cX3_differentNodes 23 = .ok (.iastore, 1) := by decide +kernel
theorem dX3_differentNodes_24 : decode cX3_differentNodes 24 = .ok (.aload_n 0, 1) := by decide +kernel
theorem dX3_differentNodes_25 : decode cX3_differentNodes 25 = .ok (.getfield 19, 3) := by decide +kernel
theorem dX3_differentNodes_28 : decode cX3_differentNodes 28 = .ok (.iload_n 2, 1) := by decide +kernel
theorem dX3_differentNodes_29 : decode cX3_differentNodes 29 = .ok (.iaload, 1) := by decide +kernel
theorem dX3_differentNodes_30 : decode cX3_differentNodes 30 = .ok (.iload_n 2, 1) := by decide +kernel
theorem dX3_differentNodes_31 : decode cX3_differentNodes 31 = .ok (.if_icmp .ne 6, 3) := by decide +kernel
theorem dX3_differentNodes_34 : decode cX3_differentNodes 34 = .ok (.iinc 1 1, 3) := by decide +kernel
theorem dX3_differentNodes_37 : decode cX3_differentNodes 37 = .ok (.iinc 2 (-1), 3) := by decide +kernel
theorem dX3_differentNodes_40 : decode cX3_differentNodes 40 = .ok (.goto (-31), 3) := by decide +kernel
theorem dX3_differentNodes_43 : decode cX3_differentNodes 43 = .ok (.iload_n 1, 1) := by decide +kernel
theorem dX3_differentNodes_44 : decode cX3_differentNodes 44 = .ok (.ireturn, 1) := by decide +kernel
theorem dX3_twinOf_0 : decode cX3_twinOf 0 = .ok (.aload_n 0, 1) := by decide +kernel
theorem dX3_twinOf_1 : decode cX3_twinOf 1 = .ok (.getfield 22, 3) := by decide +kernel
theorem dX3_twinOf_4 : decode cX3_twinOf 4 = .ok (.iconst 1, 1) := by decide +kernel
theorem dX3_twinOf_5 : decode cX3_twinOf 5 = .ok (.isub, 1) := by decide +kernel
theorem dX3_twinOf_6 : decode cX3_twinOf 6 = .ok (.istore_n 2, 1) := by decide +kernel
theorem dX3_twinOf_7 : decode cX3_twinOf 7 = .ok (.iload_n 2, 1) := by decide +kernel
theorem dX3_twinOf_8 : decode cX3_twinOf 8 = .ok (.iload_n 1, 1) := by decide +kernel
theorem dX3_twinOf_9 : decode cX3_twinOf 9 = .ok (.if_icmp .le 30, 3) := by decide +kernel
theorem dX3_twinOf_12 : decode cX3_twinOf 12 = .ok (.aload_n 0, 1) := by decide +kernel
theorem dX3_twinOf_13 : decode cX3_twinOf 13 = .ok (.getfield 19, 3) := by decide +kernel
theorem dX3_twinOf_16 : decode cX3_twinOf 16 = .ok (.iload_n 2, 1) := by decide +kernel
theorem dX3_twinOf_17 : decode cX3_twinOf 17 = .ok (.iaload, 1) := by decide +kernel
theorem dX3_twinOf_18 : decode cX3_twinOf 18 = .ok (.iload_n 2, 1) := by decide +kernel
theorem dX3_twinOf_19 : decode cX3_twinOf 19 = .ok (.if_icmp .ne 14, 3) := by decide +kernel
theorem dX3_twinOf_22 : decode cX3_twinOf 22 = .ok (.aload_n 0, 1) := by decide +kernel
theorem dX3_twinOf_23 : decode cX3_twinOf 23 = .ok (.iload_n 1, 1) := by decide +kernel
theorem dX3_twinOf_24 : decode cX3_twinOf 24 = .ok (.iload_n 2, 1) := by decide +kernel
theorem dX3_twinOf_25 : decode cX3_twinOf 25 = .ok (.invokevirtual 37, 3) := by decide +kernel
theorem dX3_twinOf_28 : decode cX3_twinOf 28 = .ok (.ifCond .eq 5, 3) := by decide +kernel
theorem dX3_twinOf_31 : decode cX3_twinOf 31 = .ok (.iload_n 2, 1) := by decide +kernel
theorem dX3_twinOf_32 : decode cX3_twinOf 32 = .ok (.ireturn, 1) := by decide +kernel
theorem dX3_twinOf_33 : decode cX3_twinOf 33 = .ok (.iinc 2 (-1), 3) := by decide +kernel
theorem dX3_twinOf_36 : decode cX3_twinOf 36 = .ok (.goto (-29), 3) := by decide +kernel
theorem dX3_twinOf_39 : decode cX3_twinOf 39 = .ok (.iload_n 1, 1) := by decide +kernel
theorem dX3_twinOf_40 : decode cX3_twinOf 40 = .ok (.ireturn, 1) := by decide +kernel
theorem dX3_isFollowedAlike_0 : decode cX3_isFollowedAlike 0 = .ok (.aload_n 0, 1) := by decide +kernel
theorem dX3_isFollowedAlike_1 : decode cX3_isFollowedAlike 1 = .ok (.getfield 15, 3) := by decide +kernel
theorem dX3_isFollowedAlike_4 : decode cX3_isFollowedAlike 4 = .ok (.iload_n 1, 1) := by decide +kernel
theorem dX3_isFollowedAlike_5 : decode cX3_isFollowedAlike 5 = .ok (.baload, 1) := by decide +kernel
theorem dX3_isFollowedAlike_6 : decode cX3_isFollowedAlike 6 = .ok (.aload_n 0, 1) := by decide +kernel
theorem dX3_isFollowedAlike_7 : decode cX3_isFollowedAlike 7 = .ok (.getfield 15, 3) := by decide +kernel
theorem dX3_isFollowedAlike_10 : decode cX3_isFollowedAlike 10 = .ok (.iload_n 2, 1) := by decide +kernel
theorem dX3_isFollowedAlike_11 : decode cX3_isFollowedAlike 11 = .ok (.baload, 1) := by decide +kernel
theorem dX3_isFollowedAlike_12 : decode cX3_isFollowedAlike 12 = .ok (.if_icmp .eq 5, 3) := by decide +kernel
theorem dX3_isFollowedAlike_15 : decode cX3_isFollowedAlike 15 = .ok (.iconst 0, 1) := by decide +kernel
theorem dX3_isFollowedAlike_16 : decode cX3_isFollowedAlike 16 = .ok (.ireturn, 1) := by decide +kernel
theorem dX3_isFollowedAlike_17 : decode cX3_isFollowedAlike 17 = .ok (.iconst 0, 1) := by decide +kernel
theorem dX3_isFollowedAlike_18 : decode cX3_isFollowedAlike 18 = .ok (.istore_n 3, 1) := by decide +kernel
theorem dX3_isFollowedAlike_19 : decode cX3_isFollowedAlike 19 = .ok (.iload_n 3, 1) := by decide +kernel
theorem dX3_isFollowedAlike_20 : decode cX3_isFollowedAlike 20 = .ok (.bipush 10, 2) := by decide +kernel
theorem dX3_isFollowedAlike_22 : decode cX3_isFollowedAlike 22 = .ok (.if_icmp .ge 26, 3) := by decide +kernel
theorem dX3_isFollowedAlike_25 : decode cX3_isFollowedAlike 25 = .ok (.aload_n 0, 1) := by decide +kernel
theorem dX3_isFollowedAlike_26 : decode cX3_isFollowedAlike 26 = .ok (.iload_n 1, 1) := by decide +kernel
theorem dX3_isFollowedAlike_27 : decode cX3_isFollowedAlike 27 = .ok (.iload_n 3, 1) := by decide +kernel
theorem dX3_isFollowedAlike_28 : decode cX3_isFollowedAlike 28 = .ok (.invokevirtual 41, 3) := by decide +kernel
theorem dX3_isFollowedAlike_31 : decode cX3_isFollowedAlike 31 = .ok (.aload_n 0, 1) := by decide +kernel
theorem dX3_isFollowedAlike_32 : decode cX3_isFollowedAlike 32 = .ok (.iload_n 2, 1) := by decide +kernel
theorem dX3_isFollowedAlike_33 : decode cX3_isFollowedAlike 33 = .ok (.iload_n 3, 1) := by decide +kernel
theorem dX3_isFollowedAlike_34 : decode cX3_isFollowedAlike 34 = .ok (.invokevirtual 41, 3) := by decide +kernel
theorem dX3_isFollowedAlike_37 : decode cX3_isFollowedAlike 37 = .ok (.if_icmp .eq 5, 3) := by decide +kernel
theorem dX3_isFollowedAlike_40 : decode cX3_isFollowedAlike 40 = .ok (.iconst 0, 1) := by decide +kernel
theorem dX3_isFollowedAlike_41 : decode cX3_isFollowedAlike 41 = .ok (.ireturn, 1) := by decide +kernel
theorem dX3_isFollowedAlike_42 : decode cX3_isFollowedAlike 42 = .ok (.iinc 3 1, 3) := by decide +kernel
theorem dX3_isFollowedAlike_45 : decode cX3_isFollowedAlike 45 = .ok (.goto (-26), 3) := by decide +kernel
theorem dX3_isFollowedAlike_48 : decode cX3_isFollowedAlike 48 = .ok (.iconst 1, 1) := by decide +kernel
theorem dX3_isFollowedAlike_49 : decode cX3_isFollowedAlike 49 = .ok (.ireturn, 1) := by decide +kernel
theorem dX3_twinBelow_0 : decode cX3_twinBelow 0 = .ok (.aload_n 0, 1) := by decide +kernel
theorem dX3_twinBelow_1 : decode cX3_twinBelow 1 = .ok (.getfield 11, 3) := by decide +kernel
theorem dX3_twinBelow_4 : decode cX3_twinBelow 4 = .ok (.iload_n 1, 1) := by decide +kernel
theorem dX3_twinBelow_5 : decode cX3_twinBelow 5 = .ok (.bipush 10, 2) := by decide +kernel
theorem dX3_twinBelow_7 : decode cX3_twinBelow 7 = .ok (.imul, 1) := by decide +kernel
theorem dX3_twinBelow_8 : decode cX3_twinBelow 8 = .ok (.iload_n 2, 1) := by decide +kernel
theorem dX3_twinBelow_9 : decode cX3_twinBelow 9 = .ok (.iadd, 1) := by decide +kernel
theorem dX3_twinBelow_10 : decode cX3_twinBelow 10 = .ok (.iaload, 1) := by decide +kernel
theorem dX3_twinBelow_11 : decode cX3_twinBelow 11 = .ok (.istore_n 3, 1) := by decide +kernel
theorem dX3_twinBelow_12 : decode cX3_twinBelow 12 = .ok (.iload_n 3, 1) := by decide +kernel
theorem dX3_twinBelow_13 : decode cX3_twinBelow 13 = .ok (.ifCond .ne 7, 3) := by decide +kernel
theorem dX3_twinBelow_16 : decode cX3_twinBelow 16 = .ok (.iconst 0, 1) := by decide +kernel
theorem dX3_twinBelow_17 : decode cX3_twinBelow 17 = .ok (.goto 9, 3) := by decide +kernel
theorem dX3_twinBelow_20 : decode cX3_twinBelow 20 = .ok (.aload_n 0, 1) := by decide +kernel
theorem dX3_twinBelow_21 : decode cX3_twinBelow 21 = .ok (.getfield 19, 3) := by decide +kernel
theorem dX3_twinBelow_24 : decode cX3_twinBelow 24 = .ok (.iload_n 3, 1) := by decide +kernel
theorem dX3_twinBelow_25 : decode cX3_twinBelow 25 = .ok (.iaload, 1) := by decide +kernel
theorem dX3_twinBelow_26 : decode cX3_twinBelow 26 = .ok (.ireturn, 1) := by decide +kernel
theorem dX4_init_0 : decode cX4_init 0 = .ok (.aload_n 0, 1) := by decide +kernel
theorem dX4_init_1 : decode cX4_init 1 = .ok (.invokespecial 3, 3) := by decide +kernel
theorem dX4_init_4 : decode cX4_init 4 = .ok (.aload_n 0, 1) := by decide +kernel
theorem dX4_init_5 : decode cX4_init 5 = .ok (.new 9, 3) := by decide +kernel
theorem dX4_init_8 : decode cX4_init 8 = .ok (.dup, 1) := by decide +kernel
theorem dX4_init_9 : decode cX4_init 9 = .ok (.invokespecial 11, 3) := by decide +kernel
theorem dX4_init_12 : decode cX4_init 12 = .ok (.putfield 12, 3) := by decide +kernel
theorem dX4_init_15 : decode cX4_init 15 = .ok (.aload_n 0, 1) := by decide +kernel
theorem dX4_init_16 : decode cX4_init 16 = .ok (.new 16, 3) := by decide +kernel
theorem dX4_init_19 : decode cX4_init 19 = .ok (.dup, 1) := by decide +kernel
theorem dX4_init_20 : decode cX4_init 20 = .ok (.aload_n 0, 1) := by decide +kernel
theorem dX4_init_21 : decode cX4_init 21 = .ok (.getfield 12, 3) := by decide +kernel
theorem dX4_init_24 : decode cX4_init 24 = .ok (.invokespecial 18, 3) := by decide +kernel
theorem dX4_init_27 : decode cX4_init 27 = .ok (.putfield 21, 3) := by decide +kernel
theorem dX4_init_30 : decode cX4_init 30 = .ok (.aload_n 0, 1) := by decide +kernel
theorem dX4_init_31 : decode cX4_init 31 = .ok (.new 25, 3) := by decide +kernel
theorem dX4_init_34 : decode cX4_init 34 = .ok (.dup, 1) := by decide +kernel
theorem dX4_init_35 : decode cX4_init 35 = .ok (.aload_n 0, 1) := by decide +kernel
theorem dX4_init_36 : decode cX4_init 36 = .ok (.getfield 12, 3) := by decide +kernel
theorem dX4_init_39 : decode cX4_init 39 = .ok (.invokespecial 27, 3) := by decide +kernel
theorem dX4_init_42 : decode cX4_init 42 = .ok (.putfield 28, 3) := by decide +kernel
theorem dX4_init_45 : decode cX4_init 45 = .ok (.return_, 1) := by decide +kernel
theorem dX4_addPart_0 : decode cX4_addPart 0 = .ok (.iload_n 1, 1) := by decide +kernel
theorem dX4_addPart_1 : decode cX4_addPart 1 = .ok (.iconst 4, 1) := by decide +kernel
theorem dX4_addPart_2 : decode cX4_addPart 2 = .ok (.invokestatic 32, 3) := by decide +kernel
theorem dX4_addPart_5 : decode cX4_addPart 5 = .ok (.iload_n 2, 1) := by decide +kernel
theorem dX4_addPart_6 : decode cX4_addPart 6 = .ok (.iconst 1, 1) := by decide +kernel
theorem dX4_addPart_7 : decode cX4_addPart 7 = .ok (.if_icmp .lt 10, 3) := by decide +kernel
theorem dX4_addPart_10 : decode cX4_addPart 10 = .ok (.iload_n 2, 1) := by decide +kernel
theorem dX4_addPart_11 : decode cX4_addPart 11 = .ok (.sipush 9999, 3) := by decide +kernel
theorem dX4_addPart_14 : decode cX4_addPart 14 = .ok (.if_icmp .le 13, 3) := by decide +kernel
theorem dX4_addPart_17 : decode cX4_addPart 17 = .ok (.new 36, 3) := by decide +kernel
theorem dX4_addPart_20 : decode cX4_addPart 20 = .ok (.dup, 1) := by decide +kernel
theorem dX4_addPart_21 : decode cX4_addPart 21 = .ok (.ldc 38, 2) := by decide +kernel
theorem dX4_addPart_23 : decode cX4_addPart 23 = .ok (.invokespecial 40, 3) := by decide +kernel
theorem dX4_addPart_26 : decode cX4_addPart 26 = .ok (.athrow, 1) := by decide +kernel
theorem dX4_addPart_27 : decode cX4_addPart 27 = .ok (.iload_n 3, 1) := by decide +kernel
theorem dX4_addPart_28 : decode cX4_addPart 28 = .ok (.iconst 1, 1) := by decide +kernel
theorem dX4_addPart_29 : decode cX4_addPart 29 = .ok (.if_icmp .lt 9, 3) := by decide +kernel
theorem dX4_addPart_32 : decode cX4_addPart 32 = .ok (.iload_n 3, 1) := by decide +kernel
theorem dX4_addPart_33 : decode cX4_addPart 33 = .ok (.bipush 7, 2) := by decide +kernel
theorem dX4_addPart_35 : decode cX4_addPart 35 = .ok (.if_icmp .le 13, 3) := by decide +kernel
theorem dX4_addPart_38 : decode cX4_addPart 38 = .ok (.new 36, 3) := by decide +kernel
theorem dX4_addPart_41 : decode cX4_addPart 41 = .ok (.dup, 1) := by decide +kernel
theorem dX4_addPart_42 : decode cX4_addPart 42 = .ok (.ldc 43, 2) := by decide +kernel
theorem dX4_addPart_44 : decode cX4_addPart 44 = .ok (.invokespecial 40, 3) := by decide +kernel
theorem dX4_addPart_47 : decode cX4_addPart 47 = .ok (.athrow, 1) := by decide +kernel
theorem dX4_addPart_48 : decode cX4_addPart 48 = .ok (.aload_n 0, 1) := by decide +kernel
theorem dX4_addPart_49 : decode cX4_addPart 49 = .ok (.getfield 12, 3) := by decide +kernel
theorem dX4_addPart_52 : decode cX4_addPart 52 = .ok (.getfield 45, 3) := by decide +kernel
theorem dX4_addPart_55 : decode cX4_addPart 55 = .ok (.bipush 16, 2) := by decide +kernel
theorem dX4_addPart_57 : decode cX4_addPart 57 = .ok (.if_icmp .lt 13, 3) := by decide +kernel
theorem dX4_addPart_60 : decode cX4_addPart 60 = .ok (.new 49, 3) := by decide +kernel
theorem dX4_addPart_63 : decode cX4_addPart 63 = .ok (.dup, 1) := by decide +kernel
theorem dX4_addPart_64 : decode cX4_addPart 64 = .ok (.ldc 51, 2) := by decide +kernel
theorem dX4_addPart_66 : decode cX4_addPart 66 = .ok (.invokespecial 53, 3) := by decide +kernel
theorem dX4_addPart_69 : decode cX4_addPart 69 = .ok (.athrow, 1) := by decide +kernel
theorem dX4_addPart_70 : decode cX4_addPart 70 = .ok (.aload_n 0, 1) := by decide +kernel
theorem dX4_addPart_71 : decode cX4_addPart 71 = .ok (.getfield 12, 3) := by decide +kernel
theorem dX4_addPart_74 : decode cX4_addPart 74 = .ok (.iload_n 1, 1) := by decide +kernel
theorem dX4_addPart_75 : decode cX4_addPart 75 = .ok (.invokevirtual 54, 3) := by decide +kernel
theorem dX4_addPart_78 : decode cX4_addPart 78 = .ok (.iconst (-1), 1) := by decide +kernel
theorem dX4_addPart_79 : decode cX4_addPart 79 = .ok (.if_icmp .eq 13, 3) := by decide +kernel
theorem dX4_addPart_82 : decode cX4_addPart 82 = .ok (.new 49, 3) := by decide +kernel
theorem dX4_addPart_85 : decode cX4_addPart 85 = .ok (.dup, 1) := by decide +kernel
theorem dX4_addPart_86 : decode cX4_addPart 86 = .ok (.ldc 58, 2) := by decide +kernel
theorem dX4_addPart_88 : decode cX4_addPart 88 = .ok (.invokespecial 53, 3) := by decide +kernel
theorem dX4_addPart_91 : decode cX4_addPart 91 = .ok (.athrow, 1) := by decide +kernel
theorem dX4_addPart_92 : decode cX4_addPart 92 = .ok (.aload_n 0, 1) := by decide +kernel
theorem dX4_addPart_93 : decode cX4_addPart 93 = .ok (.getfield 12, 3) := by decide +kernel
theorem dX4_addPart_96 : decode cX4_addPart 96 = .ok (.iload_n 1, 1) := by decide +kernel
theorem dX4_addPart_97 : decode cX4_addPart 97 = .ok (.iload_n 2, 1) := by decide +kernel
theorem dX4_addPart_98 : decode cX4_addPart 98 = .ok (.iload_n 3, 1) := by decide +kernel
theorem dX4_addPart_99 : decode cX4_addPart 99 = .ok (.invokevirtual 60, 3) := by decide +kernel
theorem dX4_addPart_102 : decode cX4_addPart 102 = .ok (.ireturn, 1) := by decide +kernel
theorem dX4_setFlags_0 : decode cX4_setFlags 0 = .ok (.aload_n 0, 1) := by decide +kernel
theorem dX4_setFlags_1 : decode cX4_setFlags 1 = .ok (.iload_n 1, 1) := by decide +kernel
theorem dX4_setFlags_2 : decode cX4_setFlags 2 = .ok (.invokevirtual 64, 3) := by decide +kernel
theorem dX4_setFlags_5 : decode cX4_setFlags 5 = .ok (.iload_n 2, 1) := by decide +kernel
theorem dX4_setFlags_6 : decode cX4_setFlags 6 = .ok (.ifCond .lt 9, 3) := by decide +kernel
theorem dX4_setFlags_9 : decode cX4_setFlags 9 = .ok (.iload_n 2, 1) := by decide +kernel
theorem dX4_setFlags_10 : decode cX4_setFlags 10 = .ok (.bipush 7, 2) := by decide +kernel
theorem dX4_setFlags_12 : decode cX4_setFlags 12 = .ok (.if_icmp .le 13, 3) := by decide +kernel
theorem dX4_setFlags_15 : decode cX4_setFlags 15 = .ok (.new 36, 3) := by decide +kernel
theorem dX4_setFlags_18 : decode cX4_setFlags 18 = .ok (.dup, 1) := by decide +kernel
theorem dX4_setFlags_19 : decode cX4_setFlags 19 = .ok (.ldc 68, 2) := by decide +kernel
theorem dX4_setFlags_21 : decode cX4_setFlags 21 = .ok (.invokespecial 40, 3) := by decide +kernel
theorem dX4_setFlags_24 : decode cX4_setFlags 24 = .ok (.athrow, 1) := by decide +kernel
theorem dX4_setFlags_25 : decode cX4_setFlags 25 = .ok (.aload_n 0, 1) := by decide +kernel
theorem dX4_setFlags_26 : decode cX4_setFlags 26 = .ok (.getfield 12, 3) := by decide +kernel
theorem dX4_setFlags_29 : decode cX4_setFlags 29 = .ok (.getfield 70, 3) := by decide +kernel
theorem dX4_setFlags_32 : decode cX4_setFlags 32 = .ok (.iload_n 1, 1) := by decide +kernel
theorem dX4_setFlags_33 : decode cX4_setFlags 33 = .ok (.iaload, 1) := by decide +kernel
theorem dX4_setFlags_34 : decode cX4_setFlags 34 = .ok (.istore_n 3, 1) := by decide +kernel
theorem dX4_setFlags_35 : decode cX4_setFlags 35 = .ok (.aload_n 0, 1) := by decide +kernel
theorem dX4_setFlags_36 : decode cX4_setFlags 36 = .ok (.getfield 12, 3) := by decide +kernel
theorem dX4_setFlags_39 : decode cX4_setFlags 39 = .ok (.getfield 70, 3) := by decide +kernel
theorem dX4_setFlags_42 : decode cX4_setFlags 42 = .ok (.iload_n 1, 1) := by decide +kernel
theorem dX4_setFlags_43 : decode cX4_setFlags 43 = .ok (.iload_n 2, 1) := by decide +kernel
theorem dX4_setFlags_44 : decode cX4_setFlags 44 = .ok (.iastore, 1) := by decide +kernel
theorem dX4_setFlags_45 : decode cX4_setFlags 45 = .ok (.iload_n 3, 1) := by decide +kernel
theorem dX4_setFlags_46 : decode cX4_setFlags 46 = .ok (.ireturn, 1) := by decide +kernel
theorem dX4_addLink_0 : decode cX4_addLink 0 = .ok (.iload_n 1, 1) := by decide +kernel
theorem dX4_addLink_1 : decode cX4_addLink 1 = .ok (.iconst 2, 1) := by decide +kernel
theorem dX4_addLink_2 : decode cX4_addLink 2 = .ok (.invokestatic 32, 3) := by decide +kernel
theorem dX4_addLink_5 : decode cX4_addLink 5 = .ok (.aload_n 0, 1) := by decide +kernel
theorem dX4_addLink_6 : decode cX4_addLink 6 = .ok (.getfield 12, 3) := by decide +kernel
theorem dX4_addLink_9 : decode cX4_addLink 9 = .ok (.getfield 74, 3) := by decide +kernel
theorem dX4_addLink_12 : decode cX4_addLink 12 = .ok (.bipush 6, 2) := by decide +kernel
theorem dX4_addLink_14 : decode cX4_addLink 14 = .ok (.if_icmp .lt 13, 3) := by decide +kernel
theorem dX4_addLink_17 : decode cX4_addLink 17 = .ok (.new 49, 3) := by decide +kernel
theorem dX4_addLink_20 : decode cX4_addLink 20 = .ok (.dup, 1) := by decide +kernel
theorem dX4_addLink_21 : decode cX4_addLink 21 = .ok (.ldc 77, 2) := by decide +kernel
theorem dX4_addLink_23 : decode cX4_addLink 23 = .ok (.invokespecial 53, 3) := by decide +kernel
theorem dX4_addLink_26 : decode cX4_addLink 26 = .ok (.athrow, 1) := by decide +kernel
theorem dX4_addLink_27 : decode cX4_addLink 27 = .ok (.aload_n 0, 1) := by decide +kernel
theorem dX4_addLink_28 : decode cX4_addLink 28 = .ok (.getfield 12, 3) := by decide +kernel
theorem dX4_addLink_31 : decode cX4_addLink 31 = .ok (.iload_n 1, 1) := by decide +kernel
theorem dX4_addLink_32 : decode cX4_addLink 32 = .ok (.invokevirtual 79, 3) := by decide +kernel
theorem dX4_addLink_35 : decode cX4_addLink 35 = .ok (.iconst (-1), 1) := by decide +kernel
theorem dX4_addLink_36 : decode cX4_addLink 36 = .ok (.if_icmp .eq 13, 3) := by decide +kernel
theorem dX4_addLink_39 : decode cX4_addLink 39 = .ok (.new 49, 3) := by decide +kernel
theorem dX4_addLink_42 : decode cX4_addLink 42 = .ok (.dup, 1) := by decide +kernel
theorem dX4_addLink_43 : decode cX4_addLink 43 = .ok (.ldc 82, 2) := by decide +kernel
theorem dX4_addLink_45 : decode cX4_addLink 45 = .ok (.invokespecial 53, 3) := by decide +kernel
theorem dX4_addLink_48 : decode cX4_addLink 48 = .ok (.athrow, 1) := by decide +kernel
theorem dX4_addLink_49 : decode cX4_addLink 49 = .ok (.aload_n 0, 1) := by decide +kernel
theorem dX4_addLink_50 : decode cX4_addLink 50 = .ok (.getfield 12, 3) := by decide +kernel
theorem dX4_addLink_53 : decode cX4_addLink 53 = .ok (.iload_n 1, 1) := by decide +kernel
theorem dX4_addLink_54 : decode cX4_addLink 54 = .ok (.invokevirtual 84, 3) := by decide +kernel
theorem dX4_addLink_57 : decode cX4_addLink 57 = .ok (.ireturn, 1) := by decide +kernel
theorem dX4_veto_0 : decode cX4_veto 0 = .ok (.aload_n 0, 1) := by decide +kernel
theorem dX4_veto_1 : decode cX4_veto 1 = .ok (.iload_n 1, 1) := by decide +kernel
theorem dX4_veto_2 : decode cX4_veto 2 = .ok (.invokevirtual 64, 3) := by decide +kernel
theorem dX4_veto_5 : decode cX4_veto 5 = .ok (.aload_n 0, 1) := by decide +kernel
theorem dX4_veto_6 : decode cX4_veto 6 = .ok (.iload_n 2, 1) := by decide +kernel
theorem dX4_veto_7 : decode cX4_veto 7 = .ok (.invokevirtual 64, 3) := by decide +kernel
theorem dX4_veto_10 : decode cX4_veto 10 = .ok (.iload_n 1, 1) := by decide +kernel
theorem dX4_veto_11 : decode cX4_veto 11 = .ok (.bipush 16, 2) := by decide +kernel
theorem dX4_veto_13 : decode cX4_veto 13 = .ok (.imul, 1) := by decide +kernel
theorem dX4_veto_14 : decode cX4_veto 14 = .ok (.iload_n 2, 1) := by decide +kernel
theorem dX4_veto_15 : decode cX4_veto 15 = .ok (.iadd, 1) := by decide +kernel
theorem dX4_veto_16 : decode cX4_veto 16 = .ok (.istore 4, 2) := by decide +kernel
theorem dX4_veto_18 : decode cX4_veto 18 = .ok (.aload_n 0, 1) := by decide +kernel
theorem dX4_veto_19 : decode cX4_veto 19 = .ok (.getfield 12, 3) := by decide +kernel
theorem dX4_veto_22 : decode cX4_veto 22 = .ok (.getfield 87, 3) := by decide +kernel
theorem dX4_veto_25 : decode cX4_veto 25 = .ok (.iload 4, 2) := by decide +kernel
theorem dX4_veto_27 : decode cX4_veto 27 = .ok (.baload, 1) := by decide +kernel
theorem dX4_veto_28 : decode cX4_veto 28 = .ok (.istore 5, 2) := by decide +kernel
theorem dX4_veto_30 : decode cX4_veto 30 = .ok (.aload_n 0, 1) := by decide +kernel
theorem dX4_veto_31 : decode cX4_veto 31 = .ok (.getfield 12, 3) := by decide +kernel
theorem dX4_veto_34 : decode cX4_veto 34 = .ok (.getfield 87, 3) := by decide +kernel
theorem dX4_veto_37 : decode cX4_veto 37 = .ok (.iload 4, 2) := by decide +kernel
theorem dX4_veto_39 : decode cX4_veto 39 = .ok (.iload_n 3, 1) := by decide +kernel
theorem dX4_veto_40 : decode cX4_veto 40 = .ok (.bastore, 1) := by decide +kernel
theorem dX4_veto_41 : decode cX4_veto 41 = .ok (.iload 5, 2) := by decide +kernel
theorem dX4_veto_43 : decode cX4_veto 43 = .ok (.ireturn, 1) := by decide +kernel
theorem dX4_bar_0 : decode cX4_bar 0 = .ok (.aload_n 0, 1) := by decide +kernel
theorem dX4_bar_1 : decode cX4_bar 1 = .ok (.iload_n 1, 1) := by decide +kernel
theorem dX4_bar_2 : decode cX4_bar 2 = .ok (.invokevirtual 64, 3) := by decide +kernel
theorem dX4_bar_5 : decode cX4_bar 5 = .ok (.iload_n 2, 1) := by decide +kernel
theorem dX4_bar_6 : decode cX4_bar 6 = .ok (.ifCond .lt 14, 3) := by decide +kernel
theorem dX4_bar_9 : decode cX4_bar 9 = .ok (.iload_n 2, 1) := by decide +kernel
theorem dX4_bar_10 : decode cX4_bar 10 = .ok (.aload_n 0, 1) := by decide +kernel
theorem dX4_bar_11 : decode cX4_bar 11 = .ok (.getfield 12, 3) := by decide +kernel
theorem dX4_bar_14 : decode cX4_bar 14 = .ok (.getfield 74, 3) := by decide +kernel
theorem dX4_bar_17 : decode cX4_bar 17 = .ok (.if_icmp .lt 13, 3) := by decide +kernel
theorem dX4_bar_20 : decode cX4_bar 20 = .ok (.new 91, 3) := by decide +kernel
theorem dX4_bar_23 : decode cX4_bar 23 = .ok (.dup, 1) := by decide +kernel
theorem dX4_bar_24 : decode cX4_bar 24 = .ok (.ldc 93, 2) := by decide +kernel
theorem dX4_bar_26 : decode cX4_bar 26 = .ok (.invokespecial 95, 3) := by decide +kernel
theorem dX4_bar_29 : decode cX4_bar 29 = .ok (.athrow, 1) := by decide +kernel
theorem dX4_bar_30 : decode cX4_bar 30 = .ok (.iload_n 1, 1) := by decide +kernel
theorem dX4_bar_31 : decode cX4_bar 31 = .ok (.bipush 6, 2) := by decide +kernel
theorem dX4_bar_33 : decode cX4_bar 33 = .ok (.imul, 1) := by decide +kernel
theorem dX4_bar_34 : decode cX4_bar 34 = .ok (.iload_n 2, 1) := by decide +kernel
theorem dX4_bar_35 : decode cX4_bar 35 = .ok (.iadd, 1) := by decide +kernel
theorem dX4_bar_36 : decode cX4_bar 36 = .ok (.istore 4, 2) := by decide +kernel
theorem dX4_bar_38 : decode cX4_bar 38 = .ok (.aload_n 0, 1) := by decide +kernel
theorem dX4_bar_39 : decode cX4_bar 39 = .ok (.getfield 12, 3) := by decide +kernel
theorem dX4_bar_42 : decode cX4_bar 42 = .ok (.getfield 96, 3) := by decide +kernel
theorem dX4_bar_45 : decode cX4_bar 45 = .ok (.iload 4, 2) := by decide +kernel
theorem dX4_bar_47 : decode cX4_bar 47 = .ok (.baload, 1) := by decide +kernel
theorem dX4_bar_48 : decode cX4_bar 48 = .ok (.istore 5, 2) := by decide +kernel
theorem dX4_bar_50 : decode cX4_bar 50 = .ok (.aload_n 0, 1) := by decide +kernel
theorem dX4_bar_51 : decode cX4_bar 51 = .ok (.getfield 12, 3) := by decide +kernel
theorem dX4_bar_54 : decode cX4_bar 54 = .ok (.getfield 96, 3) := by decide +kernel
theorem dX4_bar_57 : decode cX4_bar 57 = .ok (.iload 4, 2) := by decide +kernel
theorem dX4_bar_59 : decode cX4_bar 59 = .ok (.iload_n 3, 1) := by decide +kernel
theorem dX4_bar_60 : decode cX4_bar 60 = .ok (.bastore, 1) := by decide +kernel
theorem dX4_bar_61 : decode cX4_bar 61 = .ok (.iload 5, 2) := by decide +kernel
theorem dX4_bar_63 : decode cX4_bar 63 = .ok (.ireturn, 1) := by decide +kernel
theorem dX4_parts_0 : decode cX4_parts 0 = .ok (.aload_n 0, 1) := by decide +kernel
theorem dX4_parts_1 : decode cX4_parts 1 = .ok (.getfield 12, 3) := by decide +kernel
theorem dX4_parts_4 : decode cX4_parts 4 = .ok (.getfield 45, 3) := by decide +kernel
theorem dX4_parts_7 : decode cX4_parts 7 = .ok (.ireturn, 1) := by decide +kernel
theorem dX4_count_0 : decode cX4_count 0 = .ok (.aload_n 0, 1) := by decide +kernel
theorem dX4_count_1 : decode cX4_count 1 = .ok (.iload_n 1, 1) := by decide +kernel
theorem dX4_count_2 : decode cX4_count 2 = .ok (.invokevirtual 64, 3) := by decide +kernel
theorem dX4_count_5 : decode cX4_count 5 = .ok (.aload_n 0, 1) := by decide +kernel
theorem dX4_count_6 : decode cX4_count 6 = .ok (.getfield 12, 3) := by decide +kernel
theorem dX4_count_9 : decode cX4_count 9 = .ok (.getfield 99, 3) := by decide +kernel
theorem dX4_count_12 : decode cX4_count 12 = .ok (.iload_n 1, 1) := by decide +kernel
theorem dX4_count_13 : decode cX4_count 13 = .ok (.iaload, 1) := by decide +kernel
theorem dX4_count_14 : decode cX4_count 14 = .ok (.ireturn, 1) := by decide +kernel
theorem dX4_costOf_0 : decode cX4_costOf 0 = .ok (.aload_n 0, 1) := by decide +kernel
theorem dX4_costOf_1 : decode cX4_costOf 1 = .ok (.iload_n 1, 1) := by decide +kernel
theorem dX4_costOf_2 : decode cX4_costOf 2 = .ok (.invokevirtual 64, 3) := by decide +kernel
theorem dX4_costOf_5 : decode cX4_costOf 5 = .ok (.aload_n 0, 1) := by decide +kernel
theorem dX4_costOf_6 : decode cX4_costOf 6 = .ok (.getfield 12, 3) := by decide +kernel
theorem dX4_costOf_9 : decode cX4_costOf 9 = .ok (.getfield 99, 3) := by decide +kernel
theorem dX4_costOf_12 : decode cX4_costOf 12 = .ok (.iload_n 1, 1) := by decide +kernel
theorem dX4_costOf_13 : decode cX4_costOf 13 = .ok (.iaload, 1) := by decide +kernel
theorem dX4_costOf_14 : decode cX4_costOf 14 = .ok (.invokestatic 102, 3) := by decide +kernel
theorem dX4_costOf_17 : decode cX4_costOf 17 = .ok (.ireturn, 1) := by decide +kernel
theorem dX4_find_0 : decode cX4_find 0 = .ok (.iload_n 1, 1) := by decide +kernel
theorem dX4_find_1 : decode cX4_find 1 = .ok (.bipush 8, 2) := by decide +kernel
theorem dX4_find_3 : decode cX4_find 3 = .ok (.invokestatic 32, 3) := by decide +kernel
theorem dX4_find_6 : decode cX4_find 6 = .ok (.aload_n 0, 1) := by decide +kernel
theorem dX4_find_7 : decode cX4_find 7 = .ok (.getfield 12, 3) := by decide +kernel
theorem dX4_find_10 : decode cX4_find 10 = .ok (.iload_n 1, 1) := by decide +kernel
theorem dX4_find_11 : decode cX4_find 11 = .ok (.invokevirtual 54, 3) := by decide +kernel
theorem dX4_find_14 : decode cX4_find 14 = .ok (.ireturn, 1) := by decide +kernel
theorem dX4_nodes_0 : decode cX4_nodes 0 = .ok (.aload_n 0, 1) := by decide +kernel
theorem dX4_nodes_1 : decode cX4_nodes 1 = .ok (.getfield 12, 3) := by decide +kernel
theorem dX4_nodes_4 : decode cX4_nodes 4 = .ok (.getfield 45, 3) := by decide +kernel
theorem dX4_nodes_7 : decode cX4_nodes 7 = .ok (.ifCond .ne 7, 3) := by decide +kernel
theorem dX4_nodes_10 : decode cX4_nodes 10 = .ok (.iconst 0, 1) := by decide +kernel
theorem dX4_nodes_11 : decode cX4_nodes 11 = .ok (.goto 13, 3) := by decide +kernel
theorem dX4_nodes_14 : decode cX4_nodes 14 = .ok (.aload_n 0, 1) := by decide +kernel
theorem dX4_nodes_15 : decode cX4_nodes 15 = .ok (.getfield 12, 3) := by decide +kernel
theorem dX4_nodes_18 : decode cX4_nodes 18 = .ok (.getfield 105, 3) := by decide +kernel
theorem dX4_nodes_21 : decode cX4_nodes 21 = .ok (.invokevirtual 109, 3) := by decide +kernel
theorem dX4_nodes_24 : decode cX4_nodes 24 = .ok (.ireturn, 1) := by decide +kernel
theorem dX4_splits_0 : decode cX4_splits 0 = .ok (.iload_n 1, 1) := by decide +kernel
theorem dX4_splits_1 : decode cX4_splits 1 = .ok (.bipush 8, 2) := by decide +kernel
theorem dX4_splits_3 : decode cX4_splits 3 = .ok (.invokestatic 32, 3) := by decide +kernel
theorem dX4_splits_6 : decode cX4_splits 6 = .ok (.aload_n 0, 1) := by decide +kernel
theorem dX4_splits_7 : decode cX4_splits 7 = .ok (.getfield 21, 3) := by decide +kernel
theorem dX4_splits_10 : decode cX4_splits 10 = .ok (.iload_n 1, 1) := by decide +kernel
theorem dX4_splits_11 : decode cX4_splits 11 = .ok (.invokevirtual 115, 3) := by decide +kernel
theorem dX4_splits_14 : decode cX4_splits 14 = .ok (.aload_n 0, 1) := by decide +kernel
theorem dX4_splits_15 : decode cX4_splits 15 = .ok (.getfield 21, 3) := by decide +kernel
theorem dX4_splits_18 : decode cX4_splits 18 = .ok (.getfield 118, 3) := by decide +kernel
theorem dX4_splits_21 : decode cX4_splits 21 = .ok (.ireturn, 1) := by decide +kernel
theorem dX4_cost_0 : decode cX4_cost 0 = .ok (.aload_n 0, 1) := by decide +kernel
theorem dX4_cost_1 : decode cX4_cost 1 = .ok (.iload_n 1, 1) := by decide +kernel
theorem dX4_cost_2 : decode cX4_cost 2 = .ok (.iload_n 2, 1) := by decide +kernel
theorem dX4_cost_3 : decode cX4_cost 3 = .ok (.invokevirtual 121, 3) := by decide +kernel
theorem dX4_cost_6 : decode cX4_cost 6 = .ok (.lstore_n 3, 1) := by decide +kernel
theorem dX4_cost_7 : decode cX4_cost 7 = .ok (.lload_n 3, 1) := by decide +kernel
theorem dX4_cost_8 : decode cX4_cost 8 = .ok (.ldc2_w 125, 3) := by decide +kernel
theorem dX4_cost_11 : decode cX4_cost 11 = .ok (.lcmp, 1) := by decide +kernel
theorem dX4_cost_12 : decode cX4_cost 12 = .ok (.ifCond .ne 7, 3) := by decide +kernel
theorem dX4_cost_15 : decode cX4_cost 15 = .ok (.iconst (-1), 1) := by decide +kernel
theorem dX4_cost_16 : decode cX4_cost 16 = .ok (.goto 7, 3) := by decide +kernel
theorem dX4_cost_19 : decode cX4_cost 19 = .ok (.lload_n 3, 1) := by decide +kernel
theorem dX4_cost_20 : decode cX4_cost 20 = .ok (.invokestatic 127, 3) := by decide +kernel
theorem dX4_cost_23 : decode cX4_cost 23 = .ok (.ireturn, 1) := by decide +kernel
theorem dX4_size_0 : decode cX4_size 0 = .ok (.aload_n 0, 1) := by decide +kernel
theorem dX4_size_1 : decode cX4_size 1 = .ok (.iload_n 1, 1) := by decide +kernel
theorem dX4_size_2 : decode cX4_size 2 = .ok (.iload_n 2, 1) := by decide +kernel
theorem dX4_size_3 : decode cX4_size 3 = .ok (.invokevirtual 121, 3) := by decide +kernel
theorem dX4_size_6 : decode cX4_size 6 = .ok (.lstore_n 3, 1) := by decide +kernel
theorem dX4_size_7 : decode cX4_size 7 = .ok (.lload_n 3, 1) := by decide +kernel
theorem dX4_size_8 : decode cX4_size 8 = .ok (.ldc2_w 125, 3) := by decide +kernel
theorem dX4_size_11 : decode cX4_size 11 = .ok (.lcmp, 1) := by decide +kernel
theorem dX4_size_12 : decode cX4_size 12 = .ok (.ifCond .ne 7, 3) := by decide +kernel
theorem dX4_size_15 : decode cX4_size 15 = .ok (.iconst (-1), 1) := by decide +kernel
theorem dX4_size_16 : decode cX4_size 16 = .ok (.goto 7, 3) := by decide +kernel
theorem dX4_size_19 : decode cX4_size 19 = .ok (.lload_n 3, 1) := by decide +kernel
theorem dX4_size_20 : decode cX4_size 20 = .ok (.invokestatic 131, 3) := by decide +kernel
theorem dX4_size_23 : decode cX4_size 23 = .ok (.ireturn, 1) := by decide +kernel
theorem dX4_partAt_0 : decode cX4_partAt 0 = .ok (.iload_n 3, 1) := by decide +kernel
theorem dX4_partAt_1 : decode cX4_partAt 1 = .ok (.ifCond .ge 13, 3) := by decide +kernel
theorem dX4_partAt_4 : decode cX4_partAt 4 = .ok (.new 36, 3) := by decide +kernel
theorem dX4_partAt_7 : decode cX4_partAt 7 = .ok (.dup, 1) := by decide +kernel
theorem dX4_partAt_8 : decode cX4_partAt 8 = .ok (.ldc 134, 2) := by decide +kernel
theorem dX4_partAt_10 : decode cX4_partAt 10 = .ok (.invokespecial 40, 3) := by decide +kernel
theorem dX4_partAt_13 : decode cX4_partAt 13 = .ok (.athrow, 1) := by decide +kernel
theorem dX4_partAt_14 : decode cX4_partAt 14 = .ok (.aload_n 0, 1) := by decide +kernel
theorem dX4_partAt_15 : decode cX4_partAt 15 = .ok (.iload_n 1, 1) := by decide +kernel
theorem dX4_partAt_16 : decode cX4_partAt 16 = .ok (.iload_n 2, 1) := by decide +kernel
theorem dX4_partAt_17 : decode cX4_partAt 17 = .ok (.invokevirtual 121, 3) := by decide +kernel
theorem dX4_partAt_20 : decode cX4_partAt 20 = .ok (.lstore 4, 2) := by decide +kernel
theorem dX4_partAt_22 : decode cX4_partAt 22 = .ok (.lload 4, 2) := by decide +kernel
theorem dX4_partAt_24 : decode cX4_partAt 24 = .ok (.ldc2_w 125, 3) := by decide +kernel
theorem dX4_partAt_27 : decode cX4_partAt 27 = .ok (.lcmp, 1) := by decide +kernel
theorem dX4_partAt_28 : decode cX4_partAt 28 = .ok (.ifCond .eq 12, 3) := by decide +kernel
theorem dX4_partAt_31 : decode cX4_partAt 31 = .ok (.iload_n 3, 1) := by decide +kernel
theorem dX4_partAt_32 : decode cX4_partAt 32 = .ok (.lload 4, 2) := by decide +kernel
theorem dX4_partAt_34 : decode cX4_partAt 34 = .ok (.invokestatic 131, 3) := by decide +kernel
theorem dX4_partAt_37 : decode cX4_partAt 37 = .ok (.if_icmp .lt 5, 3) := by decide +kernel
theorem dX4_partAt_40 : decode cX4_partAt 40 = .ok (.iconst (-1), 1) := by decide +kernel
theorem dX4_partAt_41 : decode cX4_partAt 41 = .ok (.ireturn, 1) := by decide +kernel
theorem dX4_partAt_42 : decode cX4_partAt 42 = .ok (.bipush 10, 2) := by decide +kernel
theorem dX4_partAt_44 : decode cX4_partAt 44 = .ok (.aload_n 0, 1) := by decide +kernel
theorem dX4_partAt_45 : decode cX4_partAt 45 = .ok (.getfield 21, 3) := by decide +kernel
theorem dX4_partAt_48 : decode cX4_partAt 48 = .ok (.lload 4, 2) := by decide +kernel
theorem dX4_partAt_50 : decode cX4_partAt 50 = .ok (.iload_n 3, 1) := by decide +kernel
theorem dX4_partAt_51 : decode cX4_partAt 51 = .ok (.invokevirtual 136, 3) := by decide +kernel
theorem dX4_partAt_54 : decode cX4_partAt 54 = .ok (.imul, 1) := by decide +kernel
theorem dX4_partAt_55 : decode cX4_partAt 55 = .ok (.lload 4, 2) := by decide +kernel
theorem dX4_partAt_57 : decode cX4_partAt 57 = .ok (.iload_n 3, 1) := by decide +kernel
theorem dX4_partAt_58 : decode cX4_partAt 58 = .ok (.invokestatic 140, 3) := by decide +kernel
theorem dX4_partAt_61 : decode cX4_partAt 61 = .ok (.iadd, 1) := by decide +kernel
theorem dX4_partAt_62 : decode cX4_partAt 62 = .ok (.iconst 1, 1) := by decide +kernel
theorem dX4_partAt_63 : decode cX4_partAt 63 = .ok (.iadd, 1) := by decide +kernel
theorem dX4_partAt_64 : decode cX4_partAt 64 = .ok (.ireturn, 1) := by decide +kernel
theorem dX4_head_0 : decode cX4_head 0 = .ok (.aload_n 0, 1) := by decide +kernel
theorem dX4_head_1 : decode cX4_head 1 = .ok (.iload_n 1, 1) := by decide +kernel
theorem dX4_head_2 : decode cX4_head 2 = .ok (.iconst 0, 1) := by decide +kernel
theorem dX4_head_3 : decode cX4_head 3 = .ok (.invokevirtual 121, 3) := by decide +kernel
theorem dX4_head_6 : decode cX4_head 6 = .ok (.lstore_n 2, 1) := by decide +kernel
theorem dX4_head_7 : decode cX4_head 7 = .ok (.lload_n 2, 1) := by decide +kernel
theorem dX4_head_8 : decode cX4_head 8 = .ok (.ldc2_w 125, 3) := by decide +kernel
theorem dX4_head_11 : decode cX4_head 11 = .ok (.lcmp, 1) := by decide +kernel
theorem dX4_head_12 : decode cX4_head 12 = .ok (.ifCond .ne 7, 3) := by decide +kernel
theorem dX4_head_15 : decode cX4_head 15 = .ok (.iconst (-1), 1) := by decide +kernel
theorem dX4_head_16 : decode cX4_head 16 = .ok (.goto 17, 3) := by decide +kernel
theorem dX4_head_19 : decode cX4_head 19 = .ok (.aload_n 0, 1) := by decide +kernel
theorem dX4_head_20 : decode cX4_head 20 = .ok (.getfield 21, 3) := by decide +kernel
theorem dX4_head_23 : decode cX4_head 23 = .ok (.lload_n 2, 1) := by decide +kernel
theorem dX4_head_24 : decode cX4_head 24 = .ok (.lload_n 2, 1) := by decide +kernel
theorem dX4_head_25 : decode cX4_head 25 = .ok (.invokestatic 131, 3) := by decide +kernel
theorem dX4_head_28 : decode cX4_head 28 = .ok (.iconst 1, 1) := by decide +kernel
theorem dX4_head_29 : decode cX4_head 29 = .ok (.isub, 1) := by decide +kernel
theorem dX4_head_30 : decode cX4_head 30 = .ok (.invokevirtual 136, 3) := by decide +kernel
theorem dX4_head_33 : decode cX4_head 33 = .ok (.ireturn, 1) := by decide +kernel
theorem dX4_readings_0 : decode cX4_readings 0 = .ok (.iload_n 1, 1) := by decide +kernel
theorem dX4_readings_1 : decode cX4_readings 1 = .ok (.bipush 8, 2) := by decide +kernel
theorem dX4_readings_3 : decode cX4_readings 3 = .ok (.invokestatic 32, 3) := by decide +kernel
theorem dX4_readings_6 : decode cX4_readings 6 = .ok (.aload_n 0, 1) := by decide +kernel
theorem dX4_readings_7 : decode cX4_readings 7 = .ok (.getfield 21, 3) := by decide +kernel
theorem dX4_readings_10 : decode cX4_readings 10 = .ok (.iload_n 1, 1) := by decide +kernel
theorem dX4_readings_11 : decode cX4_readings 11 = .ok (.invokevirtual 115, 3) := by decide +kernel
theorem dX4_readings_14 : decode cX4_readings 14 = .ok (.iconst 0, 1) := by decide +kernel
theorem dX4_readings_15 : decode cX4_readings 15 = .ok (.istore_n 2, 1) := by decide +kernel
theorem dX4_readings_16 : decode cX4_readings 16 = .ok (.iconst 0, 1) := by decide +kernel
theorem dX4_readings_17 : decode cX4_readings 17 = .ok (.istore_n 3, 1) := by decide +kernel
theorem dX4_readings_18 : decode cX4_readings 18 = .ok (.iload_n 3, 1) := by decide +kernel
theorem dX4_readings_19 : decode cX4_readings 19 = .ok (.aload_n 0, 1) := by decide +kernel
theorem dX4_readings_20 : decode cX4_readings 20 = .ok (.getfield 21, 3) := by decide +kernel
theorem dX4_readings_23 : decode cX4_readings 23 = .ok (.getfield 118, 3) := by decide +kernel
theorem dX4_readings_26 : decode cX4_readings 26 = .ok (.if_icmp .ge 53, 3) := by decide +kernel
theorem dX4_readings_29 : decode cX4_readings 29 = .ok (.iload_n 3, 1) := by decide +kernel
theorem dX4_readings_30 : decode cX4_readings 30 = .ok (.aload_n 0, 1) := by decide +kernel
theorem dX4_readings_31 : decode cX4_readings 31 = .ok (.getfield 21, 3) := by decide +kernel
theorem dX4_readings_34 : decode cX4_readings 34 = .ok (.getfield 143, 3) := by decide +kernel
theorem dX4_readings_37 : decode cX4_readings 37 = .ok (.arraylength, 1) := by decide +kernel
theorem dX4_readings_38 : decode cX4_readings 38 = .ok (.if_icmp .ge 41, 3) := by decide +kernel
theorem dX4_readings_41 : decode cX4_readings 41 = .ok (.aload_n 0, 1) := by decide +kernel
theorem dX4_readings_42 : decode cX4_readings 42 = .ok (.getfield 21, 3) := by decide +kernel
theorem dX4_readings_45 : decode cX4_readings 45 = .ok (.getfield 143, 3) := by decide +kernel
theorem dX4_readings_48 : decode cX4_readings 48 = .ok (.iload_n 3, 1) := by decide +kernel
theorem dX4_readings_49 : decode cX4_readings 49 = .ok (.laload, 1) := by decide +kernel
theorem dX4_readings_50 : decode cX4_readings 50 = .ok (.invokestatic 131, 3) := by decide +kernel
theorem dX4_readings_53 : decode cX4_readings 53 = .ok (.istore 4, 2) := by decide +kernel
theorem dX4_readings_55 : decode cX4_readings 55 = .ok (.iload 4, 2) := by decide +kernel
theorem dX4_readings_57 : decode cX4_readings 57 = .ok (.getstatic 147, 3) := by decide +kernel
theorem dX4_readings_60 : decode cX4_readings 60 = .ok (.arraylength, 1) := by decide +kernel
theorem dX4_readings_61 : decode cX4_readings 61 = .ok (.if_icmp .ge 12, 3) := by decide +kernel
theorem dX4_readings_64 : decode cX4_readings 64 = .ok (.iload_n 2, 1) := by decide +kernel
theorem dX4_readings_65 : decode cX4_readings 65 = .ok (.getstatic 147, 3) := by decide +kernel
theorem dX4_readings_68 : decode cX4_readings 68 = .ok (.iload 4, 2) := by decide +kernel
theorem dX4_readings_70 : decode cX4_readings 70 = .ok (.iaload, 1) := by decide +kernel
theorem dX4_readings_71 : decode cX4_readings 71 = .ok (.iadd, 1) := by decide +kernel
theorem dX4_readings_72 : decode cX4_readings 72 = .ok (.istore_n 2, 1) := by decide +kernel
theorem dX4_readings_73 : decode cX4_readings 73 = .ok (.iinc 3 1, 3) := by decide +kernel
theorem dX4_readings_76 : decode cX4_readings 76 = .ok (.goto (-58), 3) := by decide +kernel
theorem dX4_readings_79 : decode cX4_readings 79 = .ok (.iload_n 2, 1) := by decide +kernel
theorem dX4_readings_80 : decode cX4_readings 80 = .ok (.ireturn, 1) := by decide +kernel
theorem dX4_learn_0 : decode cX4_learn 0 = .ok (.iload_n 1, 1) := by decide +kernel
theorem dX4_learn_1 : decode cX4_learn 1 = .ok (.bipush 8, 2) := by decide +kernel
theorem dX4_learn_3 : decode cX4_learn 3 = .ok (.invokestatic 32, 3) := by decide +kernel
theorem dX4_learn_6 : decode cX4_learn 6 = .ok (.aload_n 0, 1) := by decide +kernel
theorem dX4_learn_7 : decode cX4_learn 7 = .ok (.getfield 28, 3) := by decide +kernel
theorem dX4_learn_10 : decode cX4_learn 10 = .ok (.getfield 150, 3) := by decide +kernel
theorem dX4_learn_13 : decode cX4_learn 13 = .ok (.bipush 50, 2) := by decide +kernel
theorem dX4_learn_15 : decode cX4_learn 15 = .ok (.if_icmp .lt 13, 3) := by decide +kernel
theorem dX4_learn_18 : decode cX4_learn 18 = .ok (.new 49, 3) := by decide +kernel
theorem dX4_learn_21 : decode cX4_learn 21 = .ok (.dup, 1) := by decide +kernel
theorem dX4_learn_22 : decode cX4_learn 22 = .ok (.ldc 153, 2) := by decide +kernel
theorem dX4_learn_24 : decode cX4_learn 24 = .ok (.invokespecial 53, 3) := by decide +kernel
theorem dX4_learn_27 : decode cX4_learn 27 = .ok (.athrow, 1) := by decide +kernel
theorem dX4_learn_28 : decode cX4_learn 28 = .ok (.aload_n 0, 1) := by decide +kernel
theorem dX4_learn_29 : decode cX4_learn 29 = .ok (.getfield 21, 3) := by decide +kernel
theorem dX4_learn_32 : decode cX4_learn 32 = .ok (.iload_n 1, 1) := by decide +kernel
theorem dX4_learn_33 : decode cX4_learn 33 = .ok (.invokevirtual 115, 3) := by decide +kernel
theorem dX4_learn_36 : decode cX4_learn 36 = .ok (.aload_n 0, 1) := by decide +kernel
theorem dX4_learn_37 : decode cX4_learn 37 = .ok (.getfield 21, 3) := by decide +kernel
theorem dX4_learn_40 : decode cX4_learn 40 = .ok (.iconst 0, 1) := by decide +kernel
theorem dX4_learn_41 : decode cX4_learn 41 = .ok (.invokevirtual 155, 3) := by decide +kernel
theorem dX4_learn_44 : decode cX4_learn 44 = .ok (.lstore_n 2, 1) := by decide +kernel
theorem dX4_learn_45 : decode cX4_learn 45 = .ok (.lload_n 2, 1) := by decide +kernel
theorem dX4_learn_46 : decode cX4_learn 46 = .ok (.ldc2_w 125, 3) := by decide +kernel
theorem dX4_learn_49 : decode cX4_learn 49 = .ok (.lcmp, 1) := by decide +kernel
theorem dX4_learn_50 : decode cX4_learn 50 = .ok (.ifCond .eq 18, 3) := by decide +kernel
theorem dX4_learn_53 : decode cX4_learn 53 = .ok (.lload_n 2, 1) := by decide +kernel
theorem dX4_learn_54 : decode cX4_learn 54 = .ok (.aload_n 0, 1) := by decide +kernel
theorem dX4_learn_55 : decode cX4_learn 55 = .ok (.getfield 21, 3) := by decide +kernel
theorem dX4_learn_58 : decode cX4_learn 58 = .ok (.iconst 1, 1) := by decide +kernel
theorem dX4_learn_59 : decode cX4_learn 59 = .ok (.invokevirtual 155, 3) := by decide +kernel
theorem dX4_learn_62 : decode cX4_learn 62 = .ok (.invokestatic 159, 3) := by decide +kernel
theorem dX4_learn_65 : decode cX4_learn 65 = .ok (.ifCond .ne 5, 3) := by decide +kernel
theorem dX4_learn_68 : decode cX4_learn 68 = .ok (.iconst 0, 1) := by decide +kernel
theorem dX4_learn_69 : decode cX4_learn 69 = .ok (.ireturn, 1) := by decide +kernel
theorem dX4_learn_70 : decode cX4_learn 70 = .ok (.aload_n 0, 1) := by decide +kernel
theorem dX4_learn_71 : decode cX4_learn 71 = .ok (.getfield 28, 3) := by decide +kernel
theorem dX4_learn_74 : decode cX4_learn 74 = .ok (.iload_n 1, 1) := by decide +kernel
theorem dX4_learn_75 : decode cX4_learn 75 = .ok (.invokevirtual 163, 3) := by decide +kernel
theorem dX4_learn_78 : decode cX4_learn 78 = .ok (.lload_n 2, 1) := by decide +kernel
theorem dX4_learn_79 : decode cX4_learn 79 = .ok (.invokestatic 131, 3) := by decide +kernel
theorem dX4_learn_82 : decode cX4_learn 82 = .ok (.istore 4, 2) := by decide +kernel
theorem dX4_learn_84 : decode cX4_learn 84 = .ok (.iconst 0, 1) := by decide +kernel
theorem dX4_learn_85 : decode cX4_learn 85 = .ok (.istore 5, 2) := by decide +kernel
theorem dX4_learn_87 : decode cX4_learn 87 = .ok (.iload 5, 2) := by decide +kernel
theorem dX4_learn_89 : decode cX4_learn 89 = .ok (.iload 4, 2) := by decide +kernel
theorem dX4_learn_91 : decode cX4_learn 91 = .ok (.if_icmp .ge 26, 3) := by decide +kernel
theorem dX4_learn_94 : decode cX4_learn 94 = .ok (.aload_n 0, 1) := by decide +kernel
theorem dX4_learn_95 : decode cX4_learn 95 = .ok (.getfield 28, 3) := by decide +kernel
theorem dX4_learn_98 : decode cX4_learn 98 = .ok (.aload_n 0, 1) := by decide +kernel
theorem dX4_learn_99 : decode cX4_learn 99 = .ok (.getfield 21, 3) := by decide +kernel
theorem dX4_learn_102 : decode cX4_learn 102 = .ok (.lload_n 2, 1) := by decide +kernel
theorem dX4_learn_103 : decode cX4_learn 103 = .ok (.iload 5, 2) := by decide +kernel
theorem dX4_learn_105 : decode cX4_learn 105 = .ok (.invokevirtual 136, 3) := by decide +kernel
theorem dX4_learn_108 : decode cX4_learn 108 = .ok (.invokevirtual 166, 3) := by decide +kernel
theorem dX4_learn_111 : decode cX4_learn 111 = .ok (.iinc 5 1, 3) := by decide +kernel
theorem dX4_learn_114 : decode cX4_learn 114 = .ok (.goto (-27), 3) := by decide +kernel
theorem dX4_learn_117 : decode cX4_learn 117 = .ok (.iconst 1, 1) := by decide +kernel
theorem dX4_learn_118 : decode cX4_learn 118 = .ok (.ireturn, 1) := by decide +kernel
theorem dX4_forget_0 : decode cX4_forget 0 = .ok (.aload_n 0, 1) := by decide +kernel
theorem dX4_forget_1 : decode cX4_forget 1 = .ok (.getfield 28, 3) := by decide +kernel
theorem dX4_forget_4 : decode cX4_forget 4 = .ok (.getfield 150, 3) := by decide +kernel
theorem dX4_forget_7 : decode cX4_forget 7 = .ok (.ifCond .gt 13, 3) := by decide +kernel
theorem dX4_forget_10 : decode cX4_forget 10 = .ok (.new 49, 3) := by decide +kernel
theorem dX4_forget_13 : decode cX4_forget 13 = .ok (.dup, 1) := by decide +kernel
theorem dX4_forget_14 : decode cX4_forget 14 = .ok (.ldc 169, 2) := by decide +kernel
theorem dX4_forget_16 : decode cX4_forget 16 = .ok (.invokespecial 53, 3) := by decide +kernel
theorem dX4_forget_19 : decode cX4_forget 19 = .ok (.athrow, 1) := by decide +kernel
theorem dX4_forget_20 : decode cX4_forget 20 = .ok (.aload_n 0, 1) := by decide +kernel
theorem dX4_forget_21 : decode cX4_forget 21 = .ok (.getfield 28, 3) := by decide +kernel
theorem dX4_forget_24 : decode cX4_forget 24 = .ok (.invokevirtual 171, 3) := by decide +kernel
theorem dX4_forget_27 : decode cX4_forget 27 = .ok (.ireturn, 1) := by decide +kernel
theorem dX4_learned_0 : decode cX4_learned 0 = .ok (.aload_n 0, 1) := by decide +kernel
theorem dX4_learned_1 : decode cX4_learned 1 = .ok (.getfield 28, 3) := by decide +kernel
theorem dX4_learned_4 : decode cX4_learned 4 = .ok (.getfield 150, 3) := by decide +kernel
theorem dX4_learned_7 : decode cX4_learned 7 = .ok (.ireturn, 1) := by decide +kernel
theorem dX4_needText_0 : decode cX4_needText 0 = .ok (.iload_n 0, 1) := by decide +kernel
theorem dX4_needText_1 : decode cX4_needText 1 = .ok (.invokestatic 174, 3) := by decide +kernel
theorem dX4_needText_4 : decode cX4_needText 4 = .ok (.istore_n 2, 1) := by decide +kernel
theorem dX4_needText_5 : decode cX4_needText 5 = .ok (.iload_n 2, 1) := by decide +kernel
theorem dX4_needText_6 : decode cX4_needText 6 = .ok (.iconst 1, 1) := by decide +kernel
theorem dX4_needText_7 : decode cX4_needText 7 = .ok (.if_icmp .lt 8, 3) := by decide +kernel
theorem dX4_needText_10 : decode cX4_needText 10 = .ok (.iload_n 2, 1) := by decide +kernel
theorem dX4_needText_11 : decode cX4_needText 11 = .ok (.iload_n 1, 1) := by decide +kernel
theorem dX4_needText_12 : decode cX4_needText 12 = .ok (.if_icmp .le 13, 3) := by decide +kernel
theorem dX4_needText_15 : decode cX4_needText 15 = .ok (.new 36, 3) := by decide +kernel
theorem dX4_needText_18 : decode cX4_needText 18 = .ok (.dup, 1) := by decide +kernel
theorem dX4_needText_19 : decode cX4_needText 19 = .ok (.ldc 177, 2) := by decide +kernel
theorem dX4_needText_21 : decode cX4_needText 21 = .ok (.invokespecial 40, 3) := by decide +kernel
theorem dX4_needText_24 : decode cX4_needText 24 = .ok (.athrow, 1) := by decide +kernel
theorem dX4_needText_25 : decode cX4_needText 25 = .ok (.return_, 1) := by decide +kernel
theorem dX4_needPart_0 : decode cX4_needPart 0 = .ok (.iload_n 1, 1) := by decide +kernel
theorem dX4_needPart_1 : decode cX4_needPart 1 = .ok (.ifCond .lt 14, 3) := by decide +kernel
theorem dX4_needPart_4 : decode cX4_needPart 4 = .ok (.iload_n 1, 1) := by decide +kernel
theorem dX4_needPart_5 : decode cX4_needPart 5 = .ok (.aload_n 0, 1) := by decide +kernel
theorem dX4_needPart_6 : decode cX4_needPart 6 = .ok (.getfield 12, 3) := by decide +kernel
theorem dX4_needPart_9 : decode cX4_needPart 9 = .ok (.getfield 45, 3) := by decide +kernel
theorem dX4_needPart_12 : decode cX4_needPart 12 = .ok (.if_icmp .lt 13, 3) := by decide +kernel
theorem dX4_needPart_15 : decode cX4_needPart 15 = .ok (.new 91, 3) := by decide +kernel
theorem dX4_needPart_18 : decode cX4_needPart 18 = .ok (.dup, 1) := by decide +kernel
theorem dX4_needPart_19 : decode cX4_needPart 19 = .ok (.ldc 179, 2) := by decide +kernel
theorem dX4_needPart_21 : decode cX4_needPart 21 = .ok (.invokespecial 95, 3) := by decide +kernel
theorem dX4_needPart_24 : decode cX4_needPart 24 = .ok (.athrow, 1) := by decide +kernel
theorem dX4_needPart_25 : decode cX4_needPart 25 = .ok (.return_, 1) := by decide +kernel
theorem dX4_splitOf_0 : decode cX4_splitOf 0 = .ok (.iload_n 1, 1) := by decide +kernel
theorem dX4_splitOf_1 : decode cX4_splitOf 1 = .ok (.bipush 8, 2) := by decide +kernel
theorem dX4_splitOf_3 : decode cX4_splitOf 3 = .ok (.invokestatic 32, 3) := by decide +kernel
theorem dX4_splitOf_6 : decode cX4_splitOf 6 = .ok (.iload_n 2, 1) := by decide +kernel
theorem dX4_splitOf_7 : decode cX4_splitOf 7 = .ok (.ifCond .ge 13, 3) := by decide +kernel
theorem dX4_splitOf_10 : decode cX4_splitOf 10 = .ok (.new 36, 3) := by decide +kernel
theorem dX4_splitOf_13 : decode cX4_splitOf 13 = .ok (.dup, 1) := by decide +kernel
theorem dX4_splitOf_14 : decode cX4_splitOf 14 = .ok (.ldc 181, 2) := by decide +kernel
theorem dX4_splitOf_16 : decode cX4_splitOf 16 = .ok (.invokespecial 40, 3) := by decide +kernel
theorem dX4_splitOf_19 : decode cX4_splitOf 19 = .ok (.athrow, 1) := by decide +kernel
theorem dX4_splitOf_20 : decode cX4_splitOf 20 = .ok (.aload_n 0, 1) := by decide +kernel
theorem dX4_splitOf_21 : decode cX4_splitOf 21 = .ok (.getfield 21, 3) := by decide +kernel
theorem dX4_splitOf_24 : decode cX4_splitOf 24 = .ok (.iload_n 1, 1) := by decide +kernel
theorem dX4_splitOf_25 : decode cX4_splitOf 25 = .ok (.invokevirtual 115, 3) := by decide +kernel
theorem dX4_splitOf_28 : decode cX4_splitOf 28 = .ok (.aload_n 0, 1) := by decide +kernel
theorem dX4_splitOf_29 : decode cX4_splitOf 29 = .ok (.getfield 21, 3) := by decide +kernel
theorem dX4_splitOf_32 : decode cX4_splitOf 32 = .ok (.iload_n 2, 1) := by decide +kernel
theorem dX4_splitOf_33 : decode cX4_splitOf 33 = .ok (.invokevirtual 155, 3) := by decide +kernel
theorem dX4_splitOf_36 : decode cX4_splitOf 36 = .ok (.lreturn, 1) := by decide +kernel
theorem dX4_isSure_0 : decode cX4_isSure 0 = .ok (.lload_n 2, 1) := by decide +kernel
theorem dX4_isSure_1 : decode cX4_isSure 1 = .ok (.ldc2_w 125, 3) := by decide +kernel
theorem dX4_isSure_4 : decode cX4_isSure 4 = .ok (.lcmp, 1) := by decide +kernel
theorem dX4_isSure_5 : decode cX4_isSure 5 = .ok (.ifCond .eq 17, 3) := by decide +kernel
theorem dX4_isSure_8 : decode cX4_isSure 8 = .ok (.lload_n 2, 1) := by decide +kernel
theorem dX4_isSure_9 : decode cX4_isSure 9 = .ok (.invokestatic 127, 3) := by decide +kernel
theorem dX4_isSure_12 : decode cX4_isSure 12 = .ok (.lload_n 0, 1) := by decide +kernel
theorem dX4_isSure_13 : decode cX4_isSure 13 = .ok (.invokestatic 127, 3) := by decide +kernel
theorem dX4_isSure_16 : decode cX4_isSure 16 = .ok (.isub, 1) := by decide +kernel
theorem dX4_isSure_17 : decode cX4_isSure 17 = .ok (.bipush 20, 2) := by decide +kernel
theorem dX4_isSure_19 : decode cX4_isSure 19 = .ok (.if_icmp .lt 7, 3) := by decide +kernel
theorem dX4_isSure_22 : decode cX4_isSure 22 = .ok (.iconst 1, 1) := by decide +kernel
theorem dX4_isSure_23 : decode cX4_isSure 23 = .ok (.goto 4, 3) := by decide +kernel
theorem dX4_isSure_26 : decode cX4_isSure 26 = .ok (.iconst 0, 1) := by decide +kernel
theorem dX4_isSure_27 : decode cX4_isSure 27 = .ok (.ireturn, 1) := by decide +kernel
theorem dX4_lettersIn_0 : decode cX4_lettersIn 0 = .ok (.bipush 10, 2) := by decide +kernel
theorem dX4_lettersIn_2 : decode cX4_lettersIn 2 = .ok (.istore_n 1, 1) := by decide +kernel
theorem dX4_lettersIn_3 : decode cX4_lettersIn 3 = .ok (.iconst 1, 1) := by decide +kernel
theorem dX4_lettersIn_4 : decode cX4_lettersIn 4 = .ok (.istore_n 2, 1) := by decide +kernel
theorem dX4_lettersIn_5 : decode cX4_lettersIn 5 = .ok (.iload_n 2, 1) := by decide +kernel
theorem dX4_lettersIn_6 : decode cX4_lettersIn 6 = .ok (.bipush 8, 2) := by decide +kernel
theorem dX4_lettersIn_8 : decode cX4_lettersIn 8 = .ok (.if_icmp .gt 28, 3) := by decide +kernel
theorem dX4_lettersIn_11 : decode cX4_lettersIn 11 = .ok (.iload_n 0, 1) := by decide +kernel
theorem dX4_lettersIn_12 : decode cX4_lettersIn 12 = .ok (.iload_n 1, 1) := by decide +kernel
theorem dX4_lettersIn_13 : decode cX4_lettersIn 13 = .ok (.if_icmp .lt 12, 3) := by decide +kernel
theorem dX4_lettersIn_16 : decode cX4_lettersIn 16 = .ok (.iload_n 0, 1) := by decide +kernel
theorem dX4_lettersIn_17 : decode cX4_lettersIn 17 = .ok (.iconst 2, 1) := by decide +kernel
theorem dX4_lettersIn_18 : decode cX4_lettersIn 18 = .ok (.iload_n 1, 1) := by decide +kernel
theorem dX4_lettersIn_19 : decode cX4_lettersIn 19 = .ok (.imul, 1) := by decide +kernel
theorem dX4_lettersIn_20 : decode cX4_lettersIn 20 = .ok (.if_icmp .ge 5, 3) := by decide +kernel
theorem dX4_lettersIn_23 : decode cX4_lettersIn 23 = .ok (.iload_n 2, 1) := by decide +kernel
theorem dX4_lettersIn_24 : decode cX4_lettersIn 24 = .ok (.ireturn, 1) := by decide +kernel
theorem dX4_lettersIn_25 : decode cX4_lettersIn 25 = .ok (.iload_n 1, 1) := by decide +kernel
theorem dX4_lettersIn_26 : decode cX4_lettersIn 26 = .ok (.bipush 10, 2) := by decide +kernel
theorem dX4_lettersIn_28 : decode cX4_lettersIn 28 = .ok (.imul, 1) := by decide +kernel
theorem dX4_lettersIn_29 : decode cX4_lettersIn 29 = .ok (.istore_n 1, 1) := by decide +kernel
theorem dX4_lettersIn_30 : decode cX4_lettersIn 30 = .ok (.iinc 2 1, 3) := by decide +kernel
theorem dX4_lettersIn_33 : decode cX4_lettersIn 33 = .ok (.goto (-28), 3) := by decide +kernel
theorem dX4_lettersIn_36 : decode cX4_lettersIn 36 = .ok (.iconst 0, 1) := by decide +kernel
theorem dX4_lettersIn_37 : decode cX4_lettersIn 37 = .ok (.ireturn, 1) := by decide +kernel
