theorem dX5_init_0 : decode cX5_init 0 = .ok (.aload_n 0, 1) := by decide +kernel
theorem dX5_init_1 : decode cX5_init 1 = .ok (.invokespecial 1, 3) := by decide +kernel
theorem dX5_init_4 : decode cX5_init 4 = .ok (.aload_n 0, 1) := by decide +kernel
theorem dX5_init_5 : decode cX5_init 5 = .ok (.bipush 16, 2) := by decide +kernel
theorem dX5_init_7 : decode cX5_init 7 = .ok (.newarray .int, 2) := by decide +kernel
theorem dX5_init_9 : decode cX5_init 9 = .ok (.putfield 7, 3) := by decide +kernel
theorem dX5_init_12 : decode cX5_init 12 = .ok (.aload_n 0, 1) := by decide +kernel
theorem dX5_init_13 : decode cX5_init 13 = .ok (.bipush 16, 2) := by decide +kernel
theorem dX5_init_15 : decode cX5_init 15 = .ok (.newarray .int, 2) := by decide +kernel
theorem dX5_init_17 : decode cX5_init 17 = .ok (.putfield 13, 3) := by decide +kernel
theorem dX5_init_20 : decode cX5_init 20 = .ok (.aload_n 0, 1) := by decide +kernel
theorem dX5_init_21 : decode cX5_init 21 = .ok (.bipush 16, 2) := by decide +kernel
theorem dX5_init_23 : decode cX5_init 23 = .ok (.newarray .int, 2) := by decide +kernel
theorem dX5_init_25 : decode cX5_init 25 = .ok (.putfield 16, 3) := by decide +kernel
theorem dX5_init_28 : decode cX5_init 28 = .ok (.aload_n 0, 1) := by decide +kernel
theorem dX5_init_29 : decode cX5_init 29 = .ok (.bipush 16, 2) := by decide +kernel
theorem dX5_init_31 : decode cX5_init 31 = .ok (.newarray .int, 2) := by decide +kernel
theorem dX5_init_33 : decode cX5_init 33 = .ok (.putfield 19, 3) := by decide +kernel
theorem dX5_init_36 : decode cX5_init 36 = .ok (.aload_n 0, 1) := by decide +kernel
theorem dX5_init_37 : decode cX5_init 37 = .ok (.bipush 6, 2) := by decide +kernel
theorem dX5_init_39 : decode cX5_init 39 = .ok (.newarray .int, 2) := by decide +kernel
theorem dX5_init_41 : decode cX5_init 41 = .ok (.putfield 22, 3) := by decide +kernel
theorem dX5_init_44 : decode cX5_init 44 = .ok (.aload_n 0, 1) := by decide +kernel
theorem dX5_init_45 : decode cX5_init 45 = .ok (.bipush 6, 2) := by decide +kernel
theorem dX5_init_47 : decode cX5_init 47 = .ok (.newarray .int, 2) := by decide +kernel
theorem dX5_init_49 : decode cX5_init 49 = .ok (.putfield 25, 3) := by decide +kernel
theorem dX5_init_52 : decode cX5_init 52 = .ok (.aload_n 0, 1) := by decide +kernel
theorem dX5_init_53 : decode cX5_init 53 = .ok (.bipush 16, 2) := by decide +kernel
theorem dX5_init_55 : decode cX5_init 55 = .ok (.newarray .int, 2) := by decide +kernel
theorem dX5_init_57 : decode cX5_init 57 = .ok (.putfield 28, 3) := by decide +kernel
theorem dX5_init_60 : decode cX5_init 60 = .ok (.aload_n 0, 1) := by decide +kernel
theorem dX5_init_61 : decode cX5_init 61 = .ok (.bipush 16, 2) := by decide +kernel
theorem dX5_init_63 : decode cX5_init 63 = .ok (.newarray .int, 2) := by decide +kernel
theorem dX5_init_65 : decode cX5_init 65 = .ok (.putfield 31, 3) := by decide +kernel
theorem dX5_init_68 : decode cX5_init 68 = .ok (.aload_n 0, 1) := by decide +kernel
theorem dX5_init_69 : decode cX5_init 69 = .ok (.bipush 50, 2) := by decide +kernel
theorem dX5_init_71 : decode cX5_init 71 = .ok (.newarray .int, 2) := by decide +kernel
theorem dX5_init_73 : decode cX5_init 73 = .ok (.putfield 34, 3) := by decide +kernel
theorem dX5_init_76 : decode cX5_init 76 = .ok (.aload_n 0, 1) := by decide +kernel
theorem dX5_init_77 : decode cX5_init 77 = .ok (.sipush 800, 3) := by decide +kernel
theorem dX5_init_80 : decode cX5_init 80 = .ok (.newarray .int, 2) := by decide +kernel
theorem dX5_init_82 : decode cX5_init 82 = .ok (.putfield 37, 3) := by decide +kernel
theorem dX5_init_85 : decode cX5_init 85 = .ok (.aload_n 0, 1) := by decide +kernel
theorem dX5_init_86 : decode cX5_init 86 = .ok (.bipush 8, 2) := by decide +kernel
theorem dX5_init_88 : decode cX5_init 88 = .ok (.newarray .int, 2) := by decide +kernel
theorem dX5_init_90 : decode cX5_init 90 = .ok (.putfield 40, 3) := by decide +kernel
theorem dX5_init_93 : decode cX5_init 93 = .ok (.aload_n 0, 1) := by decide +kernel
theorem dX5_init_94 : decode cX5_init 94 = .ok (.bipush 8, 2) := by decide +kernel
theorem dX5_init_96 : decode cX5_init 96 = .ok (.newarray .int, 2) := by decide +kernel
theorem dX5_init_98 : decode cX5_init 98 = .ok (.putfield 43, 3) := by decide +kernel
theorem dX5_init_101 : decode cX5_init 101 = .ok (.aload_n 0, 1) := by decide +kernel
theorem dX5_init_102 : decode cX5_init 102 = .ok (.bipush 9, 2) := by decide +kernel
theorem dX5_init_104 : decode cX5_init 104 = .ok (.newarray .int, 2) := by decide +kernel
theorem dX5_init_106 : decode cX5_init 106 = .ok (.putfield 46, 3) := by decide +kernel
theorem dX5_init_109 : decode cX5_init 109 = .ok (.aload_n 0, 1) := by decide +kernel
theorem dX5_init_110 : decode cX5_init 110 = .ok (.bipush 8, 2) := by decide +kernel
theorem dX5_init_112 : decode cX5_init 112 = .ok (.newarray .int, 2) := by decide +kernel
theorem dX5_init_114 : decode cX5_init 114 = .ok (.putfield 49, 3) := by decide +kernel
theorem dX5_init_117 : decode cX5_init 117 = .ok (.aload_n 0, 1) := by decide +kernel
theorem dX5_init_118 : decode cX5_init 118 = .ok (.sipush 640, 3) := by decide +kernel
theorem dX5_init_121 : decode cX5_init 121 = .ok (.newarray .long, 2) := by decide +kernel
theorem dX5_init_123 : decode cX5_init 123 = .ok (.putfield 52, 3) := by decide +kernel
theorem dX5_init_126 : decode cX5_init 126 = .ok (.return_, 1) := by decide +kernel
theorem dX5_thrown_0 : decode cX5_thrown 0 = .ok (.aload_n 0, 1) := by decide +kernel
theorem dX5_thrown_1 : decode cX5_thrown 1 = .ok (.getfield 56, 3) := by decide +kernel
theorem dX5_thrown_4 : decode cX5_thrown 4 = .ok (.ireturn, 1) := by decide +kernel
theorem dX5_in_0 : decode cX5_in 0 = .ok (.iload_n 0, 1) := by decide +kernel
theorem dX5_in_1 : decode cX5_in 1 = .ok (.iload_n 1, 1) := by decide +kernel
theorem dX5_in_2 : decode cX5_in 2 = .ok (.if_icmp .lt 12, 3) := by decide +kernel
theorem dX5_in_5 : decode cX5_in 5 = .ok (.iload_n 0, 1) := by decide +kernel
theorem dX5_in_6 : decode cX5_in 6 = .ok (.iload_n 2, 1) := by decide +kernel
theorem dX5_in_7 : decode cX5_in 7 = .ok (.if_icmp .gt 7, 3) := by decide +kernel
theorem dX5_in_10 : decode cX5_in 10 = .ok (.iconst 1, 1) := by decide +kernel
theorem dX5_in_11 : decode cX5_in 11 = .ok (.goto 4, 3) := by decide +kernel
theorem dX5_in_14 : decode cX5_in 14 = .ok (.iconst 0, 1) := by decide +kernel
theorem dX5_in_15 : decode cX5_in 15 = .ok (.ireturn, 1) := by decide +kernel
theorem dX5_power_0 : decode cX5_power 0 = .ok (.iconst 1, 1) := by decide +kernel
theorem dX5_power_1 : decode cX5_power 1 = .ok (.istore_n 1, 1) := by decide +kernel
theorem dX5_power_2 : decode cX5_power 2 = .ok (.iconst 0, 1) := by decide +kernel
theorem dX5_power_3 : decode cX5_power 3 = .ok (.istore_n 2, 1) := by decide +kernel
theorem dX5_power_4 : decode cX5_power 4 = .ok (.iload_n 2, 1) := by decide +kernel
theorem dX5_power_5 : decode cX5_power 5 = .ok (.iload_n 0, 1) := by decide +kernel
theorem dX5_power_6 : decode cX5_power 6 = .ok (.if_icmp .ge 14, 3) := by decide +kernel
theorem dX5_power_9 : decode cX5_power 9 = .ok (.iload_n 1, 1) := by decide +kernel
theorem dX5_power_10 : decode cX5_power 10 = .ok (.bipush 10, 2) := by decide +kernel
theorem dX5_power_12 : decode cX5_power 12 = .ok (.imul, 1) := by decide +kernel
theorem dX5_power_13 : decode cX5_power 13 = .ok (.istore_n 1, 1) := by decide +kernel
theorem dX5_power_14 : decode cX5_power 14 = .ok (.iinc 2 1, 3) := by decide +kernel
theorem dX5_power_17 : decode cX5_power 17 = .ok (.goto (-13), 3) := by decide +kernel
theorem dX5_power_20 : decode cX5_power 20 = .ok (.iload_n 1, 1) := by decide +kernel
theorem dX5_power_21 : decode cX5_power 21 = .ok (.ireturn, 1) := by decide +kernel
theorem dX5_sizeOf_0 : decode cX5_sizeOf 0 = .ok (.iconst 0, 1) := by decide +kernel
theorem dX5_sizeOf_1 : decode cX5_sizeOf 1 = .ok (.istore_n 2, 1) := by decide +kernel
theorem dX5_sizeOf_2 : decode cX5_sizeOf 2 = .ok (.iconst 1, 1) := by decide +kernel
theorem dX5_sizeOf_3 : decode cX5_sizeOf 3 = .ok (.istore_n 3, 1) := by decide +kernel
theorem dX5_sizeOf_4 : decode cX5_sizeOf 4 = .ok (.iload_n 3, 1) := by decide +kernel
theorem dX5_sizeOf_5 : decode cX5_sizeOf 5 = .ok (.iload_n 1, 1) := by decide +kernel
theorem dX5_sizeOf_6 : decode cX5_sizeOf 6 = .ok (.if_icmp .gt 34, 3) := by decide +kernel
theorem dX5_sizeOf_9 : decode cX5_sizeOf 9 = .ok (.iload_n 0, 1) := by decide +kernel
theorem dX5_sizeOf_10 : decode cX5_sizeOf 10 = .ok (.iload_n 3, 1) := by decide +kernel
theorem dX5_sizeOf_11 : decode cX5_sizeOf 11 = .ok (.invokestatic 60, 3) := by decide +kernel
theorem dX5_sizeOf_14 : decode cX5_sizeOf 14 = .ok (.iconst 2, 1) := by decide +kernel
theorem dX5_sizeOf_15 : decode cX5_sizeOf 15 = .ok (.iload_n 3, 1) := by decide +kernel
theorem dX5_sizeOf_16 : decode cX5_sizeOf 16 = .ok (.invokestatic 60, 3) := by decide +kernel
theorem dX5_sizeOf_19 : decode cX5_sizeOf 19 = .ok (.imul, 1) := by decide +kernel
theorem dX5_sizeOf_20 : decode cX5_sizeOf 20 = .ok (.iconst 1, 1) := by decide +kernel
theorem dX5_sizeOf_21 : decode cX5_sizeOf 21 = .ok (.isub, 1) := by decide +kernel
theorem dX5_sizeOf_22 : decode cX5_sizeOf 22 = .ok (.invokestatic 64, 3) := by decide +kernel
theorem dX5_sizeOf_25 : decode cX5_sizeOf 25 = .ok (.ifCond .eq 7, 3) := by decide +kernel
theorem dX5_sizeOf_28 : decode cX5_sizeOf 28 = .ok (.iload_n 3, 1) := by decide +kernel
theorem dX5_sizeOf_29 : decode cX5_sizeOf 29 = .ok (.goto 4, 3) := by decide +kernel
theorem dX5_sizeOf_32 : decode cX5_sizeOf 32 = .ok (.iload_n 2, 1) := by decide +kernel
theorem dX5_sizeOf_33 : decode cX5_sizeOf 33 = .ok (.istore_n 2, 1) := by decide +kernel
theorem dX5_sizeOf_34 : decode cX5_sizeOf 34 = .ok (.iinc 3 1, 3) := by decide +kernel
theorem dX5_sizeOf_37 : decode cX5_sizeOf 37 = .ok (.goto (-33), 3) := by decide +kernel
theorem dX5_sizeOf_40 : decode cX5_sizeOf 40 = .ok (.iload_n 2, 1) := by decide +kernel
theorem dX5_sizeOf_41 : decode cX5_sizeOf 41 = .ok (.ireturn, 1) := by decide +kernel
theorem dX5_isPart_0 : decode cX5_isPart 0 = .ok (.iload_n 1, 1) := by decide +kernel
theorem dX5_isPart_1 : decode cX5_isPart 1 = .ok (.iconst 0, 1) := by decide +kernel
theorem dX5_isPart_2 : decode cX5_isPart 2 = .ok (.aload_n 0, 1) := by decide +kernel
theorem dX5_isPart_3 : decode cX5_isPart 3 = .ok (.getfield 68, 3) := by decide +kernel
theorem dX5_isPart_6 : decode cX5_isPart 6 = .ok (.iconst 1, 1) := by decide +kernel
theorem dX5_isPart_7 : decode cX5_isPart 7 = .ok (.isub, 1) := by decide +kernel
theorem dX5_isPart_8 : decode cX5_isPart 8 = .ok (.invokestatic 64, 3) := by decide +kernel
theorem dX5_isPart_11 : decode cX5_isPart 11 = .ok (.ireturn, 1) := by decide +kernel
theorem dX5_partWith_0 : decode cX5_partWith 0 = .ok (.iconst (-1), 1) := by decide +kernel
theorem dX5_partWith_1 : decode cX5_partWith 1 = .ok (.istore_n 2, 1) := by decide +kernel
theorem dX5_partWith_2 : decode cX5_partWith 2 = .ok (.iconst 0, 1) := by decide +kernel
theorem dX5_partWith_3 : decode cX5_partWith 3 = .ok (.istore_n 3, 1) := by decide +kernel
theorem dX5_partWith_4 : decode cX5_partWith 4 = .ok (.iload_n 3, 1) := by decide +kernel
theorem dX5_partWith_5 : decode cX5_partWith 5 = .ok (.aload_n 0, 1) := by decide +kernel
theorem dX5_partWith_6 : decode cX5_partWith 6 = .ok (.getfield 68, 3) := by decide +kernel
theorem dX5_partWith_9 : decode cX5_partWith 9 = .ok (.if_icmp .ge 25, 3) := by decide +kernel
theorem dX5_partWith_12 : decode cX5_partWith 12 = .ok (.aload_n 0, 1) := by decide +kernel
theorem dX5_partWith_13 : decode cX5_partWith 13 = .ok (.getfield 7, 3) := by decide +kernel
theorem dX5_partWith_16 : decode cX5_partWith 16 = .ok (.iload_n 3, 1) := by decide +kernel
theorem dX5_partWith_17 : decode cX5_partWith 17 = .ok (.iaload, 1) := by decide +kernel
theorem dX5_partWith_18 : decode cX5_partWith 18 = .ok (.iload_n 1, 1) := by decide +kernel
theorem dX5_partWith_19 : decode cX5_partWith 19 = .ok (.if_icmp .ne 7, 3) := by decide +kernel
theorem dX5_partWith_22 : decode cX5_partWith 22 = .ok (.iload_n 3, 1) := by decide +kernel
theorem dX5_partWith_23 : decode cX5_partWith 23 = .ok (.goto 4, 3) := by decide +kernel
theorem dX5_partWith_26 : decode cX5_partWith 26 = .ok (.iload_n 2, 1) := by decide +kernel
theorem dX5_partWith_27 : decode cX5_partWith 27 = .ok (.istore_n 2, 1) := by decide +kernel
theorem dX5_partWith_28 : decode cX5_partWith 28 = .ok (.iinc 3 1, 3) := by decide +kernel
theorem dX5_partWith_31 : decode cX5_partWith 31 = .ok (.goto (-27), 3) := by decide +kernel
theorem dX5_partWith_34 : decode cX5_partWith 34 = .ok (.iload_n 2, 1) := by decide +kernel
theorem dX5_partWith_35 : decode cX5_partWith 35 = .ok (.ireturn, 1) := by decide +kernel
theorem dX5_addPart_0 : decode cX5_addPart 0 = .ok (.iload_n 1, 1) := by decide +kernel
theorem dX5_addPart_1 : decode cX5_addPart 1 = .ok (.iconst 4, 1) := by decide +kernel
theorem dX5_addPart_2 : decode cX5_addPart 2 = .ok (.invokestatic 71, 3) := by decide +kernel
theorem dX5_addPart_5 : decode cX5_addPart 5 = .ok (.ifCond .le 28, 3) := by decide +kernel
theorem dX5_addPart_8 : decode cX5_addPart 8 = .ok (.iload_n 2, 1) := by decide +kernel
theorem dX5_addPart_9 : decode cX5_addPart 9 = .ok (.iconst 1, 1) := by decide +kernel
theorem dX5_addPart_10 : decode cX5_addPart 10 = .ok (.sipush 9999, 3) := by decide +kernel
theorem dX5_addPart_13 : decode cX5_addPart 13 = .ok (.invokestatic 64, 3) := by decide +kernel
theorem dX5_addPart_16 : decode cX5_addPart 16 = .ok (.ifCond .eq 17, 3) := by decide +kernel
theorem dX5_addPart_19 : decode cX5_addPart 19 = .ok (.iload_n 3, 1) := by decide +kernel
theorem dX5_addPart_20 : decode cX5_addPart 20 = .ok (.iconst 1, 1) := by decide +kernel
theorem dX5_addPart_21 : decode cX5_addPart 21 = .ok (.bipush 7, 2) := by decide +kernel
theorem dX5_addPart_23 : decode cX5_addPart 23 = .ok (.invokestatic 64, 3) := by decide +kernel
theorem dX5_addPart_26 : decode cX5_addPart 26 = .ok (.ifCond .eq 7, 3) := by decide +kernel
theorem dX5_addPart_29 : decode cX5_addPart 29 = .ok (.iconst 1, 1) := by decide +kernel
theorem dX5_addPart_30 : decode cX5_addPart 30 = .ok (.goto 4, 3) := by decide +kernel
theorem dX5_addPart_33 : decode cX5_addPart 33 = .ok (.iconst 0, 1) := by decide +kernel
theorem dX5_addPart_34 : decode cX5_addPart 34 = .ok (.istore 4, 2) := by decide +kernel
theorem dX5_addPart_36 : decode cX5_addPart 36 = .ok (.aload_n 0, 1) := by decide +kernel
theorem dX5_addPart_37 : decode cX5_addPart 37 = .ok (.iload 4, 2) := by decide +kernel
theorem dX5_addPart_39 : decode cX5_addPart 39 = .ok (.ifCond .ne 7, 3) := by decide +kernel
theorem dX5_addPart_42 : decode cX5_addPart 42 = .ok (.iconst 1, 1) := by decide +kernel
theorem dX5_addPart_43 : decode cX5_addPart 43 = .ok (.goto 26, 3) := by decide +kernel
theorem dX5_addPart_46 : decode cX5_addPart 46 = .ok (.aload_n 0, 1) := by decide +kernel
theorem dX5_addPart_47 : decode cX5_addPart 47 = .ok (.getfield 68, 3) := by decide +kernel
theorem dX5_addPart_50 : decode cX5_addPart 50 = .ok (.bipush 16, 2) := by decide +kernel
theorem dX5_addPart_52 : decode cX5_addPart 52 = .ok (.if_icmp .eq 12, 3) := by decide +kernel
theorem dX5_addPart_55 : decode cX5_addPart 55 = .ok (.aload_n 0, 1) := by decide +kernel
theorem dX5_addPart_56 : decode cX5_addPart 56 = .ok (.iload_n 1, 1) := by decide +kernel
theorem dX5_addPart_57 : decode cX5_addPart 57 = .ok (.invokevirtual 75, 3) := by decide +kernel
theorem dX5_addPart_60 : decode cX5_addPart 60 = .ok (.iconst (-1), 1) := by decide +kernel
theorem dX5_addPart_61 : decode cX5_addPart 61 = .ok (.if_icmp .eq 7, 3) := by decide +kernel
theorem dX5_addPart_64 : decode cX5_addPart 64 = .ok (.iconst 2, 1) := by decide +kernel
theorem dX5_addPart_65 : decode cX5_addPart 65 = .ok (.goto 4, 3) := by decide +kernel
theorem dX5_addPart_68 : decode cX5_addPart 68 = .ok (.iconst 0, 1) := by decide +kernel
theorem dX5_addPart_69 : decode cX5_addPart 69 = .ok (.putfield 56, 3) := by decide +kernel
theorem dX5_addPart_72 : decode cX5_addPart 72 = .ok (.aload_n 0, 1) := by decide +kernel
theorem dX5_addPart_73 : decode cX5_addPart 73 = .ok (.getfield 56, 3) := by decide +kernel
theorem dX5_addPart_76 : decode cX5_addPart 76 = .ok (.ifCond .le 5, 3) := by decide +kernel
theorem dX5_addPart_79 : decode cX5_addPart 79 = .ok (.iconst 0, 1) := by decide +kernel
theorem dX5_addPart_80 : decode cX5_addPart 80 = .ok (.ireturn, 1) := by decide +kernel
theorem dX5_addPart_81 : decode cX5_addPart 81 = .ok (.aload_n 0, 1) := by decide +kernel
theorem dX5_addPart_82 : decode cX5_addPart 82 = .ok (.getfield 7, 3) := by decide +kernel
theorem dX5_addPart_85 : decode cX5_addPart 85 = .ok (.aload_n 0, 1) := by decide +kernel
theorem dX5_addPart_86 : decode cX5_addPart 86 = .ok (.getfield 68, 3) := by decide +kernel
theorem dX5_addPart_89 : decode cX5_addPart 89 = .ok (.iload_n 1, 1) := by decide +kernel
theorem dX5_addPart_90 : decode cX5_addPart 90 = .ok (.iastore, 1) := by decide +kernel
theorem dX5_addPart_91 : decode cX5_addPart 91 = .ok (.aload_n 0, 1) := by decide +kernel
theorem dX5_addPart_92 : decode cX5_addPart 92 = .ok (.getfield 13, 3) := by decide +kernel
theorem dX5_addPart_95 : decode cX5_addPart 95 = .ok (.aload_n 0, 1) := by decide +kernel
theorem dX5_addPart_96 : decode cX5_addPart 96 = .ok (.getfield 68, 3) := by decide +kernel
theorem dX5_addPart_99 : decode cX5_addPart 99 = .ok (.iload_n 1, 1) := by decide +kernel
theorem dX5_addPart_100 : decode cX5_addPart 100 = .ok (.iconst 4, 1) := by decide +kernel
theorem dX5_addPart_101 : decode cX5_addPart 101 = .ok (.invokestatic 71, 3) := by decide +kernel
theorem dX5_addPart_104 : decode cX5_addPart 104 = .ok (.iastore, 1) := by decide +kernel
theorem dX5_addPart_105 : decode cX5_addPart 105 = .ok (.aload_n 0, 1) := by decide +kernel
theorem dX5_addPart_106 : decode cX5_addPart 106 = .ok (.getfield 16, 3) := by decide +kernel
theorem dX5_addPart_109 : decode cX5_addPart 109 = .ok (.aload_n 0, 1) := by decide +kernel
theorem dX5_addPart_110 : decode cX5_addPart 110 = .ok (.getfield 68, 3) := by decide +kernel
theorem dX5_addPart_113 : decode cX5_addPart 113 = .ok (.iload_n 2, 1) := by decide +kernel
theorem dX5_addPart_114 : decode cX5_addPart 114 = .ok (.iastore, 1) := by decide +kernel
theorem dX5_addPart_115 : decode cX5_addPart 115 = .ok (.aload_n 0, 1) := by decide +kernel
theorem dX5_addPart_116 : decode cX5_addPart 116 = .ok (.getfield 19, 3) := by decide +kernel
theorem dX5_addPart_119 : decode cX5_addPart 119 = .ok (.aload_n 0, 1) := by decide +kernel
theorem dX5_addPart_120 : decode cX5_addPart 120 = .ok (.getfield 68, 3) := by decide +kernel
theorem dX5_addPart_123 : decode cX5_addPart 123 = .ok (.iload_n 3, 1) := by decide +kernel
theorem dX5_addPart_124 : decode cX5_addPart 124 = .ok (.iastore, 1) := by decide +kernel
theorem dX5_addPart_125 : decode cX5_addPart 125 = .ok (.aload_n 0, 1) := by decide +kernel
theorem dX5_addPart_126 : decode cX5_addPart 126 = .ok (.dup, 1) := by decide +kernel
theorem dX5_addPart_127 : decode cX5_addPart 127 = .ok (.getfield 68, 3) := by decide +kernel
theorem dX5_addPart_130 : decode cX5_addPart 130 = .ok (.iconst 1, 1) := by decide +kernel
theorem dX5_addPart_131 : decode cX5_addPart 131 = .ok (.iadd, 1) := by decide +kernel
theorem dX5_addPart_132 : decode cX5_addPart 132 = .ok (.putfield 68, 3) := by decide +kernel
theorem dX5_addPart_135 : decode cX5_addPart 135 = .ok (.aload_n 0, 1) := by decide +kernel
theorem dX5_addPart_136 : decode cX5_addPart 136 = .ok (.getfield 68, 3) := by decide +kernel
theorem dX5_addPart_139 : decode cX5_addPart 139 = .ok (.iconst 1, 1) := by decide +kernel
theorem dX5_addPart_140 : decode cX5_addPart 140 = .ok (.isub, 1) := by decide +kernel
theorem dX5_addPart_141 : decode cX5_addPart 141 = .ok (.ireturn, 1) := by decide +kernel
theorem dX5_setFlags_0 : decode cX5_setFlags 0 = .ok (.aload_n 0, 1) := by decide +kernel
theorem dX5_setFlags_1 : decode cX5_setFlags 1 = .ok (.aload_n 0, 1) := by decide +kernel
theorem dX5_setFlags_2 : decode cX5_setFlags 2 = .ok (.iload_n 1, 1) := by decide +kernel
theorem dX5_setFlags_3 : decode cX5_setFlags 3 = .ok (.invokevirtual 78, 3) := by decide +kernel
theorem dX5_setFlags_6 : decode cX5_setFlags 6 = .ok (.ifCond .ne 7, 3) := by decide +kernel
theorem dX5_setFlags_9 : decode cX5_setFlags 9 = .ok (.iconst 1, 1) := by decide +kernel
theorem dX5_setFlags_10 : decode cX5_setFlags 10 = .ok (.goto 18, 3) := by decide +kernel
theorem dX5_setFlags_13 : decode cX5_setFlags 13 = .ok (.iload_n 2, 1) := by decide +kernel
theorem dX5_setFlags_14 : decode cX5_setFlags 14 = .ok (.iconst 0, 1) := by decide +kernel
theorem dX5_setFlags_15 : decode cX5_setFlags 15 = .ok (.bipush 7, 2) := by decide +kernel
theorem dX5_setFlags_17 : decode cX5_setFlags 17 = .ok (.invokestatic 64, 3) := by decide +kernel
theorem dX5_setFlags_20 : decode cX5_setFlags 20 = .ok (.ifCond .eq 7, 3) := by decide +kernel
theorem dX5_setFlags_23 : decode cX5_setFlags 23 = .ok (.iconst 0, 1) := by decide +kernel
theorem dX5_setFlags_24 : decode cX5_setFlags 24 = .ok (.goto 4, 3) := by decide +kernel
theorem dX5_setFlags_27 : decode cX5_setFlags 27 = .ok (.iconst 2, 1) := by decide +kernel
theorem dX5_setFlags_28 : decode cX5_setFlags 28 = .ok (.putfield 56, 3) := by decide +kernel
theorem dX5_setFlags_31 : decode cX5_setFlags 31 = .ok (.aload_n 0, 1) := by decide +kernel
theorem dX5_setFlags_32 : decode cX5_setFlags 32 = .ok (.getfield 56, 3) := by decide +kernel
theorem dX5_setFlags_35 : decode cX5_setFlags 35 = .ok (.ifCond .le 5, 3) := by decide +kernel
theorem dX5_setFlags_38 : decode cX5_setFlags 38 = .ok (.iconst 0, 1) := by decide +kernel
theorem dX5_setFlags_39 : decode cX5_setFlags 39 = .ok (.ireturn, 1) := by decide +kernel
theorem dX5_setFlags_40 : decode cX5_setFlags 40 = .ok (.aload_n 0, 1) := by decide +kernel
theorem dX5_setFlags_41 : decode cX5_setFlags 41 = .ok (.getfield 19, 3) := by decide +kernel
theorem dX5_setFlags_44 : decode cX5_setFlags 44 = .ok (.iload_n 1, 1) := by decide +kernel
theorem dX5_setFlags_45 : decode cX5_setFlags 45 = .ok (.iaload, 1) := by decide +kernel
theorem dX5_setFlags_46 : decode cX5_setFlags 46 = .ok (.istore_n 3, 1) := by decide +kernel
theorem dX5_setFlags_47 : decode cX5_setFlags 47 = .ok (.aload_n 0, 1) := by decide +kernel
theorem dX5_setFlags_48 : decode cX5_setFlags 48 = .ok (.getfield 19, 3) := by decide +kernel
theorem dX5_setFlags_51 : decode cX5_setFlags 51 = .ok (.iload_n 1, 1) := by decide +kernel
theorem dX5_setFlags_52 : decode cX5_setFlags 52 = .ok (.iload_n 2, 1) := by decide +kernel
theorem dX5_setFlags_53 : decode cX5_setFlags 53 = .ok (.iastore, 1) := by decide +kernel
theorem dX5_setFlags_54 : decode cX5_setFlags 54 = .ok (.iload_n 3, 1) := by decide +kernel
theorem dX5_setFlags_55 : decode cX5_setFlags 55 = .ok (.ireturn, 1) := by decide +kernel
theorem dX5_addLink_0 : decode cX5_addLink 0 = .ok (.iconst 0, 1) := by decide +kernel
theorem dX5_addLink_1 : decode cX5_addLink 1 = .ok (.istore_n 2, 1) := by decide +kernel
theorem dX5_addLink_2 : decode cX5_addLink 2 = .ok (.iconst 0, 1) := by decide +kernel
theorem dX5_addLink_3 : decode cX5_addLink 3 = .ok (.istore_n 3, 1) := by decide +kernel
theorem dX5_addLink_4 : decode cX5_addLink 4 = .ok (.iload_n 3, 1) := by decide +kernel
theorem dX5_addLink_5 : decode cX5_addLink 5 = .ok (.aload_n 0, 1) := by decide +kernel
theorem dX5_addLink_6 : decode cX5_addLink 6 = .ok (.getfield 82, 3) := by decide +kernel
theorem dX5_addLink_9 : decode cX5_addLink 9 = .ok (.if_icmp .ge 29, 3) := by decide +kernel
theorem dX5_addLink_12 : decode cX5_addLink 12 = .ok (.iload_n 2, 1) := by decide +kernel
theorem dX5_addLink_13 : decode cX5_addLink 13 = .ok (.ifCond .ne 13, 3) := by decide +kernel
theorem dX5_addLink_16 : decode cX5_addLink 16 = .ok (.aload_n 0, 1) := by decide +kernel
theorem dX5_addLink_17 : decode cX5_addLink 17 = .ok (.getfield 22, 3) := by decide +kernel
theorem dX5_addLink_20 : decode cX5_addLink 20 = .ok (.iload_n 3, 1) := by decide +kernel
theorem dX5_addLink_21 : decode cX5_addLink 21 = .ok (.iaload, 1) := by decide +kernel
theorem dX5_addLink_22 : decode cX5_addLink 22 = .ok (.iload_n 1, 1) := by decide +kernel
theorem dX5_addLink_23 : decode cX5_addLink 23 = .ok (.if_icmp .ne 7, 3) := by decide +kernel
theorem dX5_addLink_26 : decode cX5_addLink 26 = .ok (.iconst 1, 1) := by decide +kernel
theorem dX5_addLink_27 : decode cX5_addLink 27 = .ok (.goto 4, 3) := by decide +kernel
theorem dX5_addLink_30 : decode cX5_addLink 30 = .ok (.iconst 0, 1) := by decide +kernel
theorem dX5_addLink_31 : decode cX5_addLink 31 = .ok (.istore_n 2, 1) := by decide +kernel
theorem dX5_addLink_32 : decode cX5_addLink 32 = .ok (.iinc 3 1, 3) := by decide +kernel
theorem dX5_addLink_35 : decode cX5_addLink 35 = .ok (.goto (-31), 3) := by decide +kernel
theorem dX5_addLink_38 : decode cX5_addLink 38 = .ok (.aload_n 0, 1) := by decide +kernel
theorem dX5_addLink_39 : decode cX5_addLink 39 = .ok (.iload_n 1, 1) := by decide +kernel
theorem dX5_addLink_40 : decode cX5_addLink 40 = .ok (.iconst 2, 1) := by decide +kernel
theorem dX5_addLink_41 : decode cX5_addLink 41 = .ok (.invokestatic 71, 3) := by decide +kernel
theorem dX5_addLink_44 : decode cX5_addLink 44 = .ok (.ifCond .ne 7, 3) := by decide +kernel
theorem dX5_addLink_47 : decode cX5_addLink 47 = .ok (.iconst 1, 1) := by decide +kernel
theorem dX5_addLink_48 : decode cX5_addLink 48 = .ok (.goto 21, 3) := by decide +kernel
theorem dX5_addLink_51 : decode cX5_addLink 51 = .ok (.aload_n 0, 1) := by decide +kernel
theorem dX5_addLink_52 : decode cX5_addLink 52 = .ok (.getfield 82, 3) := by decide +kernel
theorem dX5_addLink_55 : decode cX5_addLink 55 = .ok (.bipush 6, 2) := by decide +kernel
theorem dX5_addLink_57 : decode cX5_addLink 57 = .ok (.if_icmp .eq 7, 3) := by decide +kernel
theorem dX5_addLink_60 : decode cX5_addLink 60 = .ok (.iload_n 2, 1) := by decide +kernel
theorem dX5_addLink_61 : decode cX5_addLink 61 = .ok (.ifCond .eq 7, 3) := by decide +kernel
theorem dX5_addLink_64 : decode cX5_addLink 64 = .ok (.iconst 2, 1) := by decide +kernel
theorem dX5_addLink_65 : decode cX5_addLink 65 = .ok (.goto 4, 3) := by decide +kernel
theorem dX5_addLink_68 : decode cX5_addLink 68 = .ok (.iconst 0, 1) := by decide +kernel
theorem dX5_addLink_69 : decode cX5_addLink 69 = .ok (.putfield 56, 3) := by decide +kernel
theorem dX5_addLink_72 : decode cX5_addLink 72 = .ok (.aload_n 0, 1) := by decide +kernel
theorem dX5_addLink_73 : decode cX5_addLink 73 = .ok (.getfield 56, 3) := by decide +kernel
theorem dX5_addLink_76 : decode cX5_addLink 76 = .ok (.ifCond .le 5, 3) := by decide +kernel
theorem dX5_addLink_79 : decode cX5_addLink 79 = .ok (.iconst 0, 1) := by decide +kernel
theorem dX5_addLink_80 : decode cX5_addLink 80 = .ok (.ireturn, 1) := by decide +kernel
theorem dX5_addLink_81 : decode cX5_addLink 81 = .ok (.aload_n 0, 1) := by decide +kernel
theorem dX5_addLink_82 : decode cX5_addLink 82 = .ok (.getfield 22, 3) := by decide +kernel
theorem dX5_addLink_85 : decode cX5_addLink 85 = .ok (.aload_n 0, 1) := by decide +kernel
theorem dX5_addLink_86 : decode cX5_addLink 86 = .ok (.getfield 82, 3) := by decide +kernel
theorem dX5_addLink_89 : decode cX5_addLink 89 = .ok (.iload_n 1, 1) := by decide +kernel
theorem dX5_addLink_90 : decode cX5_addLink 90 = .ok (.iastore, 1) := by decide +kernel
theorem dX5_addLink_91 : decode cX5_addLink 91 = .ok (.aload_n 0, 1) := by decide +kernel
theorem dX5_addLink_92 : decode cX5_addLink 92 = .ok (.getfield 25, 3) := by decide +kernel
theorem dX5_addLink_95 : decode cX5_addLink 95 = .ok (.aload_n 0, 1) := by decide +kernel
theorem dX5_addLink_96 : decode cX5_addLink 96 = .ok (.getfield 82, 3) := by decide +kernel
theorem dX5_addLink_99 : decode cX5_addLink 99 = .ok (.iload_n 1, 1) := by decide +kernel
theorem dX5_addLink_100 : decode cX5_addLink 100 = .ok (.iconst 2, 1) := by decide +kernel
theorem dX5_addLink_101 : decode cX5_addLink 101 = .ok (.invokestatic 71, 3) := by decide +kernel
theorem dX5_addLink_104 : decode cX5_addLink 104 = .ok (.iastore, 1) := by decide +kernel
theorem dX5_addLink_105 : decode cX5_addLink 105 = .ok (.aload_n 0, 1) := by decide +kernel
theorem dX5_addLink_106 : decode cX5_addLink 106 = .ok (.dup, 1) := by decide +kernel
theorem dX5_addLink_107 : decode cX5_addLink 107 = .ok (.getfield 82, 3) := by decide +kernel
theorem dX5_addLink_110 : decode cX5_addLink 110 = .ok (.iconst 1, 1) := by decide +kernel
theorem dX5_addLink_111 : decode cX5_addLink 111 = .ok (.iadd, 1) := by decide +kernel
theorem dX5_addLink_112 : decode cX5_addLink 112 = .ok (.putfield 82, 3) := by decide +kernel
theorem dX5_addLink_115 : decode cX5_addLink 115 = .ok (.aload_n 0, 1) := by decide +kernel
theorem dX5_addLink_116 : decode cX5_addLink 116 = .ok (.getfield 82, 3) := by decide +kernel
theorem dX5_addLink_119 : decode cX5_addLink 119 = .ok (.iconst 1, 1) := by decide +kernel
theorem dX5_addLink_120 : decode cX5_addLink 120 = .ok (.isub, 1) := by decide +kernel
theorem dX5_addLink_121 : decode cX5_addLink 121 = .ok (.ireturn, 1) := by decide +kernel
theorem dX5_veto_0 : decode cX5_veto 0 = .ok (.aload_n 0, 1) := by decide +kernel
theorem dX5_veto_1 : decode cX5_veto 1 = .ok (.aload_n 0, 1) := by decide +kernel
theorem dX5_veto_2 : decode cX5_veto 2 = .ok (.iload_n 1, 1) := by decide +kernel
theorem dX5_veto_3 : decode cX5_veto 3 = .ok (.invokevirtual 78, 3) := by decide +kernel
theorem dX5_veto_6 : decode cX5_veto 6 = .ok (.ifCond .eq 15, 3) := by decide +kernel
theorem dX5_veto_9 : decode cX5_veto 9 = .ok (.aload_n 0, 1) := by decide +kernel
theorem dX5_veto_10 : decode cX5_veto 10 = .ok (.iload_n 2, 1) := by decide +kernel
theorem dX5_veto_11 : decode cX5_veto 11 = .ok (.invokevirtual 78, 3) := by decide +kernel
theorem dX5_veto_14 : decode cX5_veto 14 = .ok (.ifCond .eq 7, 3) := by decide +kernel
theorem dX5_veto_17 : decode cX5_veto 17 = .ok (.iconst 0, 1) := by decide +kernel
theorem dX5_veto_18 : decode cX5_veto 18 = .ok (.goto 4, 3) := by decide +kernel
theorem dX5_veto_21 : decode cX5_veto 21 = .ok (.iconst 1, 1) := by decide +kernel
theorem dX5_veto_22 : decode cX5_veto 22 = .ok (.putfield 56, 3) := by decide +kernel
theorem dX5_veto_25 : decode cX5_veto 25 = .ok (.aload_n 0, 1) := by decide +kernel
theorem dX5_veto_26 : decode cX5_veto 26 = .ok (.getfield 56, 3) := by decide +kernel
theorem dX5_veto_29 : decode cX5_veto 29 = .ok (.ifCond .le 5, 3) := by decide +kernel
theorem dX5_veto_32 : decode cX5_veto 32 = .ok (.iconst 0, 1) := by decide +kernel
theorem dX5_veto_33 : decode cX5_veto 33 = .ok (.ireturn, 1) := by decide +kernel
theorem dX5_veto_34 : decode cX5_veto 34 = .ok (.aload_n 0, 1) := by decide +kernel
theorem dX5_veto_35 : decode cX5_veto 35 = .ok (.getfield 28, 3) := by decide +kernel
theorem dX5_veto_38 : decode cX5_veto 38 = .ok (.iload_n 1, 1) := by decide +kernel
theorem dX5_veto_39 : decode cX5_veto 39 = .ok (.iaload, 1) := by decide +kernel
theorem dX5_veto_40 : decode cX5_veto 40 = .ok (.istore 4, 2) := by decide +kernel
theorem dX5_veto_42 : decode cX5_veto 42 = .ok (.aload_n 0, 1) := by decide +kernel
theorem dX5_veto_43 : decode cX5_veto 43 = .ok (.getfield 28, 3) := by decide +kernel
theorem dX5_veto_46 : decode cX5_veto 46 = .ok (.iload_n 1, 1) := by decide +kernel
theorem dX5_veto_47 : decode cX5_veto 47 = .ok (.iload_n 3, 1) := by decide +kernel
theorem dX5_veto_48 : decode cX5_veto 48 = .ok (.ifCond .eq 12, 3) := by decide +kernel
theorem dX5_veto_51 : decode cX5_veto 51 = .ok (.iload 4, 2) := by decide +kernel
theorem dX5_veto_53 : decode cX5_veto 53 = .ok (.iconst 1, 1) := by decide +kernel
theorem dX5_veto_54 : decode cX5_veto 54 = .ok (.iload_n 2, 1) := by decide +kernel
theorem dX5_veto_55 : decode cX5_veto 55 = .ok (.ishl, 1) := by decide +kernel
theorem dX5_veto_56 : decode cX5_veto 56 = .ok (.ior, 1) := by decide +kernel
theorem dX5_veto_57 : decode cX5_veto 57 = .ok (.goto 11, 3) := by decide +kernel
theorem dX5_veto_60 : decode cX5_veto 60 = .ok (.iload 4, 2) := by decide +kernel
theorem dX5_veto_62 : decode cX5_veto 62 = .ok (.iconst 1, 1) := by decide +kernel
theorem dX5_veto_63 : decode cX5_veto 63 = .ok (.iload_n 2, 1) := by decide +kernel
theorem dX5_veto_64 : decode cX5_veto 64 = .ok (.ishl, 1) := by decide +kernel
theorem dX5_veto_65 : decode cX5_veto 65 = .ok (.iconst (-1), 1) := by decide +kernel
theorem dX5_veto_66 : decode cX5_veto 66 = .ok (.ixor, 1) := by decide +kernel
theorem dX5_veto_67 : decode cX5_veto 67 = .ok (.iand, 1) := by decide +kernel
theorem dX5_veto_68 : decode cX5_veto 68 = .ok (.iastore, 1) := by decide +kernel
theorem dX5_veto_69 : decode cX5_veto 69 = .ok (.iload 4, 2) := by decide +kernel
theorem dX5_veto_71 : decode cX5_veto 71 = .ok (.iload_n 2, 1) := by decide +kernel
theorem dX5_veto_72 : decode cX5_veto 72 = .ok (.ishr, 1) := by decide +kernel
theorem dX5_veto_73 : decode cX5_veto 73 = .ok (.iconst 1, 1) := by decide +kernel
theorem dX5_veto_74 : decode cX5_veto 74 = .ok (.iand, 1) := by decide +kernel
theorem dX5_veto_75 : decode cX5_veto 75 = .ok (.iconst 1, 1) := by decide +kernel
theorem dX5_veto_76 : decode cX5_veto 76 = .ok (.if_icmp .ne 7, 3) := by decide +kernel
theorem dX5_veto_79 : decode cX5_veto 79 = .ok (.iconst 1, 1) := by decide +kernel
theorem dX5_veto_80 : decode cX5_veto 80 = .ok (.goto 4, 3) := by decide +kernel
theorem dX5_veto_83 : decode cX5_veto 83 = .ok (.iconst 0, 1) := by decide +kernel
theorem dX5_veto_84 : decode cX5_veto 84 = .ok (.ireturn, 1) := by decide +kernel
theorem dX5_bar_0 : decode cX5_bar 0 = .ok (.aload_n 0, 1) := by decide +kernel
theorem dX5_bar_1 : decode cX5_bar 1 = .ok (.aload_n 0, 1) := by decide +kernel
theorem dX5_bar_2 : decode cX5_bar 2 = .ok (.iload_n 1, 1) := by decide +kernel
theorem dX5_bar_3 : decode cX5_bar 3 = .ok (.invokevirtual 78, 3) := by decide +kernel
theorem dX5_bar_6 : decode cX5_bar 6 = .ok (.ifCond .eq 21, 3) := by decide +kernel
theorem dX5_bar_9 : decode cX5_bar 9 = .ok (.iload_n 2, 1) := by decide +kernel
theorem dX5_bar_10 : decode cX5_bar 10 = .ok (.iconst 0, 1) := by decide +kernel
theorem dX5_bar_11 : decode cX5_bar 11 = .ok (.aload_n 0, 1) := by decide +kernel
theorem dX5_bar_12 : decode cX5_bar 12 = .ok (.getfield 82, 3) := by decide +kernel
theorem dX5_bar_15 : decode cX5_bar 15 = .ok (.iconst 1, 1) := by decide +kernel
theorem dX5_bar_16 : decode cX5_bar 16 = .ok (.isub, 1) := by decide +kernel
theorem dX5_bar_17 : decode cX5_bar 17 = .ok (.invokestatic 64, 3) := by decide +kernel
theorem dX5_bar_20 : decode cX5_bar 20 = .ok (.ifCond .eq 7, 3) := by decide +kernel
theorem dX5_bar_23 : decode cX5_bar 23 = .ok (.iconst 0, 1) := by decide +kernel
theorem dX5_bar_24 : decode cX5_bar 24 = .ok (.goto 4, 3) := by decide +kernel
theorem dX5_bar_27 : decode cX5_bar 27 = .ok (.iconst 1, 1) := by decide +kernel
theorem dX5_bar_28 : decode cX5_bar 28 = .ok (.putfield 56, 3) := by decide +kernel
theorem dX5_bar_31 : decode cX5_bar 31 = .ok (.aload_n 0, 1) := by decide +kernel
theorem dX5_bar_32 : decode cX5_bar 32 = .ok (.getfield 56, 3) := by decide +kernel
theorem dX5_bar_35 : decode cX5_bar 35 = .ok (.ifCond .le 5, 3) := by decide +kernel
theorem dX5_bar_38 : decode cX5_bar 38 = .ok (.iconst 0, 1) := by decide +kernel
theorem dX5_bar_39 : decode cX5_bar 39 = .ok (.ireturn, 1) := by decide +kernel
theorem dX5_bar_40 : decode cX5_bar 40 = .ok (.aload_n 0, 1) := by decide +kernel
theorem dX5_bar_41 : decode cX5_bar 41 = .ok (.getfield 31, 3) := by decide +kernel
theorem dX5_bar_44 : decode cX5_bar 44 = .ok (.iload_n 1, 1) := by decide +kernel
theorem dX5_bar_45 : decode cX5_bar 45 = .ok (.iaload, 1) := by decide +kernel
theorem dX5_bar_46 : decode cX5_bar 46 = .ok (.istore 4, 2) := by decide +kernel
theorem dX5_bar_48 : decode cX5_bar 48 = .ok (.aload_n 0, 1) := by decide +kernel
theorem dX5_bar_49 : decode cX5_bar 49 = .ok (.getfield 31, 3) := by decide +kernel
theorem dX5_bar_52 : decode cX5_bar 52 = .ok (.iload_n 1, 1) := by decide +kernel
theorem dX5_bar_53 : decode cX5_bar 53 = .ok (.iload_n 3, 1) := by decide +kernel
theorem dX5_bar_54 : decode cX5_bar 54 = .ok (.ifCond .eq 12, 3) := by decide +kernel
theorem dX5_bar_57 : decode cX5_bar 57 = .ok (.iload 4, 2) := by decide +kernel
theorem dX5_bar_59 : decode cX5_bar 59 = .ok (.iconst 1, 1) := by decide +kernel
theorem dX5_bar_60 : decode cX5_bar 60 = .ok (.iload_n 2, 1) := by decide +kernel
theorem dX5_bar_61 : decode cX5_bar 61 = .ok (.ishl, 1) := by decide +kernel
theorem dX5_bar_62 : decode cX5_bar 62 = .ok (.ior, 1) := by decide +kernel
theorem dX5_bar_63 : decode cX5_bar 63 = .ok (.goto 11, 3) := by decide +kernel
theorem dX5_bar_66 : decode cX5_bar 66 = .ok (.iload 4, 2) := by decide +kernel
theorem dX5_bar_68 : decode cX5_bar 68 = .ok (.iconst 1, 1) := by decide +kernel
theorem dX5_bar_69 : decode cX5_bar 69 = .ok (.iload_n 2, 1) := by decide +kernel
theorem dX5_bar_70 : decode cX5_bar 70 = .ok (.ishl, 1) := by decide +kernel
theorem dX5_bar_71 : decode cX5_bar 71 = .ok (.iconst (-1), 1) := by decide +kernel
theorem dX5_bar_72 : decode cX5_bar 72 = .ok (.ixor, 1) := by decide +kernel
theorem dX5_bar_73 : decode cX5_bar 73 = .ok (.iand, 1) := by decide +kernel
theorem dX5_bar_74 : decode cX5_bar 74 = .ok (.iastore, 1) := by decide +kernel
theorem dX5_bar_75 : decode cX5_bar 75 = .ok (.iload 4, 2) := by decide +kernel
theorem dX5_bar_77 : decode cX5_bar 77 = .ok (.iload_n 2, 1) := by decide +kernel
theorem dX5_bar_78 : decode cX5_bar 78 = .ok (.ishr, 1) := by decide +kernel
theorem dX5_bar_79 : decode cX5_bar 79 = .ok (.iconst 1, 1) := by decide +kernel
theorem dX5_bar_80 : decode cX5_bar 80 = .ok (.iand, 1) := by decide +kernel
theorem dX5_bar_81 : decode cX5_bar 81 = .ok (.iconst 1, 1) := by decide +kernel
theorem dX5_bar_82 : decode cX5_bar 82 = .ok (.if_icmp .ne 7, 3) := by decide +kernel
theorem dX5_bar_85 : decode cX5_bar 85 = .ok (.iconst 1, 1) := by decide +kernel
theorem dX5_bar_86 : decode cX5_bar 86 = .ok (.goto 4, 3) := by decide +kernel
theorem dX5_bar_89 : decode cX5_bar 89 = .ok (.iconst 0, 1) := by decide +kernel
theorem dX5_bar_90 : decode cX5_bar 90 = .ok (.ireturn, 1) := by decide +kernel
theorem dX5_parts_0 : decode cX5_parts 0 = .ok (.aload_n 0, 1) := by decide +kernel
theorem dX5_parts_1 : decode cX5_parts 1 = .ok (.iconst 0, 1) := by decide +kernel
theorem dX5_parts_2 : decode cX5_parts 2 = .ok (.putfield 56, 3) := by decide +kernel
theorem dX5_parts_5 : decode cX5_parts 5 = .ok (.aload_n 0, 1) := by decide +kernel
theorem dX5_parts_6 : decode cX5_parts 6 = .ok (.getfield 68, 3) := by decide +kernel
theorem dX5_parts_9 : decode cX5_parts 9 = .ok (.ireturn, 1) := by decide +kernel
theorem dX5_count_0 : decode cX5_count 0 = .ok (.aload_n 0, 1) := by decide +kernel
theorem dX5_count_1 : decode cX5_count 1 = .ok (.aload_n 0, 1) := by decide +kernel
theorem dX5_count_2 : decode cX5_count 2 = .ok (.iload_n 1, 1) := by decide +kernel
theorem dX5_count_3 : decode cX5_count 3 = .ok (.invokevirtual 78, 3) := by decide +kernel
theorem dX5_count_6 : decode cX5_count 6 = .ok (.ifCond .eq 7, 3) := by decide +kernel
theorem dX5_count_9 : decode cX5_count 9 = .ok (.iconst 0, 1) := by decide +kernel
theorem dX5_count_10 : decode cX5_count 10 = .ok (.goto 4, 3) := by decide +kernel
theorem dX5_count_13 : decode cX5_count 13 = .ok (.iconst 1, 1) := by decide +kernel
theorem dX5_count_14 : decode cX5_count 14 = .ok (.putfield 56, 3) := by decide +kernel
theorem dX5_count_17 : decode cX5_count 17 = .ok (.aload_n 0, 1) := by decide +kernel
theorem dX5_count_18 : decode cX5_count 18 = .ok (.getfield 56, 3) := by decide +kernel
theorem dX5_count_21 : decode cX5_count 21 = .ok (.ifCond .le 7, 3) := by decide +kernel
theorem dX5_count_24 : decode cX5_count 24 = .ok (.iconst 0, 1) := by decide +kernel
theorem dX5_count_25 : decode cX5_count 25 = .ok (.goto 9, 3) := by decide +kernel
theorem dX5_count_28 : decode cX5_count 28 = .ok (.aload_n 0, 1) := by decide +kernel
theorem dX5_count_29 : decode cX5_count 29 = .ok (.getfield 16, 3) := by decide +kernel
theorem dX5_count_32 : decode cX5_count 32 = .ok (.iload_n 1, 1) := by decide +kernel
theorem dX5_count_33 : decode cX5_count 33 = .ok (.iaload, 1) := by decide +kernel
theorem dX5_count_34 : decode cX5_count 34 = .ok (.ireturn, 1) := by decide +kernel
theorem dX5_costNow_0 : decode cX5_costNow 0 = .ok (.bipush 10, 2) := by decide +kernel
theorem dX5_costNow_2 : decode cX5_costNow 2 = .ok (.istore_n 2, 1) := by decide +kernel
theorem dX5_costNow_3 : decode cX5_costNow 3 = .ok (.iconst 2, 1) := by decide +kernel
theorem dX5_costNow_4 : decode cX5_costNow 4 = .ok (.aload_n 0, 1) := by decide +kernel
theorem dX5_costNow_5 : decode cX5_costNow 5 = .ok (.getfield 16, 3) := by decide +kernel
theorem dX5_costNow_8 : decode cX5_costNow 8 = .ok (.iload_n 1, 1) := by decide +kernel
theorem dX5_costNow_9 : decode cX5_costNow 9 = .ok (.iaload, 1) := by decide +kernel
theorem dX5_costNow_10 : decode cX5_costNow 10 = .ok (.imul, 1) := by decide +kernel
theorem dX5_costNow_11 : decode cX5_costNow 11 = .ok (.istore_n 3, 1) := by decide +kernel
theorem dX5_costNow_12 : decode cX5_costNow 12 = .ok (.iload_n 3, 1) := by decide +kernel
theorem dX5_costNow_13 : decode cX5_costNow 13 = .ok (.sipush 10000, 3) := by decide +kernel
theorem dX5_costNow_16 : decode cX5_costNow 16 = .ok (.if_icmp .gt 13, 3) := by decide +kernel
theorem dX5_costNow_19 : decode cX5_costNow 19 = .ok (.iinc 2 10, 3) := by decide +kernel
theorem dX5_costNow_22 : decode cX5_costNow 22 = .ok (.iload_n 3, 1) := by decide +kernel
theorem dX5_costNow_23 : decode cX5_costNow 23 = .ok (.iconst 2, 1) := by decide +kernel
theorem dX5_costNow_24 : decode cX5_costNow 24 = .ok (.imul, 1) := by decide +kernel
theorem dX5_costNow_25 : decode cX5_costNow 25 = .ok (.istore_n 3, 1) := by decide +kernel
theorem dX5_costNow_26 : decode cX5_costNow 26 = .ok (.goto (-14), 3) := by decide +kernel
theorem dX5_costNow_29 : decode cX5_costNow 29 = .ok (.iload_n 2, 1) := by decide +kernel
theorem dX5_costNow_30 : decode cX5_costNow 30 = .ok (.ireturn, 1) := by decide +kernel
theorem dX5_costOf_0 : decode cX5_costOf 0 = .ok (.aload_n 0, 1) := by decide +kernel
theorem dX5_costOf_1 : decode cX5_costOf 1 = .ok (.aload_n 0, 1) := by decide +kernel
theorem dX5_costOf_2 : decode cX5_costOf 2 = .ok (.iload_n 1, 1) := by decide +kernel
theorem dX5_costOf_3 : decode cX5_costOf 3 = .ok (.invokevirtual 78, 3) := by decide +kernel
theorem dX5_costOf_6 : decode cX5_costOf 6 = .ok (.ifCond .eq 7, 3) := by decide +kernel
theorem dX5_costOf_9 : decode cX5_costOf 9 = .ok (.iconst 0, 1) := by decide +kernel
theorem dX5_costOf_10 : decode cX5_costOf 10 = .ok (.goto 4, 3) := by decide +kernel
theorem dX5_costOf_13 : decode cX5_costOf 13 = .ok (.iconst 1, 1) := by decide +kernel
theorem dX5_costOf_14 : decode cX5_costOf 14 = .ok (.putfield 56, 3) := by decide +kernel
theorem dX5_costOf_17 : decode cX5_costOf 17 = .ok (.aload_n 0, 1) := by decide +kernel
theorem dX5_costOf_18 : decode cX5_costOf 18 = .ok (.getfield 56, 3) := by decide +kernel
theorem dX5_costOf_21 : decode cX5_costOf 21 = .ok (.ifCond .le 7, 3) := by decide +kernel
theorem dX5_costOf_24 : decode cX5_costOf 24 = .ok (.iconst 0, 1) := by decide +kernel
theorem dX5_costOf_25 : decode cX5_costOf 25 = .ok (.goto 8, 3) := by decide +kernel
theorem dX5_costOf_28 : decode cX5_costOf 28 = .ok (.aload_n 0, 1) := by decide +kernel
theorem dX5_costOf_29 : decode cX5_costOf 29 = .ok (.iload_n 1, 1) := by decide +kernel
theorem dX5_costOf_30 : decode cX5_costOf 30 = .ok (.invokevirtual 85, 3) := by decide +kernel
theorem dX5_costOf_33 : decode cX5_costOf 33 = .ok (.ireturn, 1) := by decide +kernel
theorem dX5_find_0 : decode cX5_find 0 = .ok (.aload_n 0, 1) := by decide +kernel
theorem dX5_find_1 : decode cX5_find 1 = .ok (.iload_n 1, 1) := by decide +kernel
theorem dX5_find_2 : decode cX5_find 2 = .ok (.bipush 8, 2) := by decide +kernel
theorem dX5_find_4 : decode cX5_find 4 = .ok (.invokestatic 71, 3) := by decide +kernel
theorem dX5_find_7 : decode cX5_find 7 = .ok (.ifCond .le 7, 3) := by decide +kernel
theorem dX5_find_10 : decode cX5_find 10 = .ok (.iconst 0, 1) := by decide +kernel
theorem dX5_find_11 : decode cX5_find 11 = .ok (.goto 4, 3) := by decide +kernel
theorem dX5_find_14 : decode cX5_find 14 = .ok (.iconst 1, 1) := by decide +kernel
theorem dX5_find_15 : decode cX5_find 15 = .ok (.putfield 56, 3) := by decide +kernel
theorem dX5_find_18 : decode cX5_find 18 = .ok (.aload_n 0, 1) := by decide +kernel
theorem dX5_find_19 : decode cX5_find 19 = .ok (.getfield 56, 3) := by decide +kernel
theorem dX5_find_22 : decode cX5_find 22 = .ok (.ifCond .le 7, 3) := by decide +kernel
theorem dX5_find_25 : decode cX5_find 25 = .ok (.iconst 0, 1) := by decide +kernel
theorem dX5_find_26 : decode cX5_find 26 = .ok (.goto 8, 3) := by decide +kernel
theorem dX5_find_29 : decode cX5_find 29 = .ok (.aload_n 0, 1) := by decide +kernel
theorem dX5_find_30 : decode cX5_find 30 = .ok (.iload_n 1, 1) := by decide +kernel
theorem dX5_find_31 : decode cX5_find 31 = .ok (.invokevirtual 75, 3) := by decide +kernel
theorem dX5_find_34 : decode cX5_find 34 = .ok (.ireturn, 1) := by decide +kernel
theorem dX5_beginning_0 : decode cX5_beginning 0 = .ok (.aload_n 0, 1) := by decide +kernel
theorem dX5_beginning_1 : decode cX5_beginning 1 = .ok (.getfield 7, 3) := by decide +kernel
theorem dX5_beginning_4 : decode cX5_beginning 4 = .ok (.iload_n 1, 1) := by decide +kernel
theorem dX5_beginning_5 : decode cX5_beginning 5 = .ok (.iaload, 1) := by decide +kernel
theorem dX5_beginning_6 : decode cX5_beginning 6 = .ok (.aload_n 0, 1) := by decide +kernel
theorem dX5_beginning_7 : decode cX5_beginning 7 = .ok (.getfield 13, 3) := by decide +kernel
theorem dX5_beginning_10 : decode cX5_beginning 10 = .ok (.iload_n 1, 1) := by decide +kernel
theorem dX5_beginning_11 : decode cX5_beginning 11 = .ok (.iaload, 1) := by decide +kernel
theorem dX5_beginning_12 : decode cX5_beginning 12 = .ok (.iload_n 2, 1) := by decide +kernel
theorem dX5_beginning_13 : decode cX5_beginning 13 = .ok (.isub, 1) := by decide +kernel
theorem dX5_beginning_14 : decode cX5_beginning 14 = .ok (.invokestatic 60, 3) := by decide +kernel
theorem dX5_beginning_17 : decode cX5_beginning 17 = .ok (.idiv, 1) := by decide +kernel
theorem dX5_beginning_18 : decode cX5_beginning 18 = .ok (.ireturn, 1) := by decide +kernel
theorem dX5_rest_0 : decode cX5_rest 0 = .ok (.aload_n 0, 1) := by decide +kernel
theorem dX5_rest_1 : decode cX5_rest 1 = .ok (.getfield 7, 3) := by decide +kernel
theorem dX5_rest_4 : decode cX5_rest 4 = .ok (.iload_n 1, 1) := by decide +kernel
theorem dX5_rest_5 : decode cX5_rest 5 = .ok (.iaload, 1) := by decide +kernel
theorem dX5_rest_6 : decode cX5_rest 6 = .ok (.aload_n 0, 1) := by decide +kernel
theorem dX5_rest_7 : decode cX5_rest 7 = .ok (.getfield 13, 3) := by decide +kernel
theorem dX5_rest_10 : decode cX5_rest 10 = .ok (.iload_n 1, 1) := by decide +kernel
theorem dX5_rest_11 : decode cX5_rest 11 = .ok (.iaload, 1) := by decide +kernel
theorem dX5_rest_12 : decode cX5_rest 12 = .ok (.iload_n 2, 1) := by decide +kernel
theorem dX5_rest_13 : decode cX5_rest 13 = .ok (.isub, 1) := by decide +kernel
theorem dX5_rest_14 : decode cX5_rest 14 = .ok (.invokestatic 60, 3) := by decide +kernel
theorem dX5_rest_17 : decode cX5_rest 17 = .ok (.irem, 1) := by decide +kernel
theorem dX5_rest_18 : decode cX5_rest 18 = .ok (.aload_n 0, 1) := by decide +kernel
theorem dX5_rest_19 : decode cX5_rest 19 = .ok (.getfield 13, 3) := by decide +kernel
theorem dX5_rest_22 : decode cX5_rest 22 = .ok (.iload_n 1, 1) := by decide +kernel
theorem dX5_rest_23 : decode cX5_rest 23 = .ok (.iaload, 1) := by decide +kernel
theorem dX5_rest_24 : decode cX5_rest 24 = .ok (.iload_n 2, 1) := by decide +kernel
theorem dX5_rest_25 : decode cX5_rest 25 = .ok (.isub, 1) := by decide +kernel
theorem dX5_rest_26 : decode cX5_rest 26 = .ok (.invokestatic 60, 3) := by decide +kernel
theorem dX5_rest_29 : decode cX5_rest 29 = .ok (.iadd, 1) := by decide +kernel
theorem dX5_rest_30 : decode cX5_rest 30 = .ok (.ireturn, 1) := by decide +kernel
theorem dX5_hasRest_0 : decode cX5_hasRest 0 = .ok (.iconst 0, 1) := by decide +kernel
theorem dX5_hasRest_1 : decode cX5_hasRest 1 = .ok (.istore 4, 2) := by decide +kernel
theorem dX5_hasRest_3 : decode cX5_hasRest 3 = .ok (.iconst 0, 1) := by decide +kernel
theorem dX5_hasRest_4 : decode cX5_hasRest 4 = .ok (.istore 5, 2) := by decide +kernel
theorem dX5_hasRest_6 : decode cX5_hasRest 6 = .ok (.iload 5, 2) := by decide +kernel
theorem dX5_hasRest_8 : decode cX5_hasRest 8 = .ok (.aload_n 0, 1) := by decide +kernel
theorem dX5_hasRest_9 : decode cX5_hasRest 9 = .ok (.getfield 68, 3) := by decide +kernel
theorem dX5_hasRest_12 : decode cX5_hasRest 12 = .ok (.if_icmp .ge 71, 3) := by decide +kernel
theorem dX5_hasRest_15 : decode cX5_hasRest 15 = .ok (.aload_n 0, 1) := by decide +kernel
theorem dX5_hasRest_16 : decode cX5_hasRest 16 = .ok (.getfield 13, 3) := by decide +kernel
theorem dX5_hasRest_19 : decode cX5_hasRest 19 = .ok (.iload 5, 2) := by decide +kernel
theorem dX5_hasRest_21 : decode cX5_hasRest 21 = .ok (.iaload, 1) := by decide +kernel
theorem dX5_hasRest_22 : decode cX5_hasRest 22 = .ok (.iload_n 2, 1) := by decide +kernel
theorem dX5_hasRest_23 : decode cX5_hasRest 23 = .ok (.if_icmp .lt 23, 3) := by decide +kernel
theorem dX5_hasRest_26 : decode cX5_hasRest 26 = .ok (.aload_n 0, 1) := by decide +kernel
theorem dX5_hasRest_27 : decode cX5_hasRest 27 = .ok (.iload 5, 2) := by decide +kernel
theorem dX5_hasRest_29 : decode cX5_hasRest 29 = .ok (.iload_n 2, 1) := by decide +kernel
theorem dX5_hasRest_30 : decode cX5_hasRest 30 = .ok (.invokevirtual 88, 3) := by decide +kernel
theorem dX5_hasRest_33 : decode cX5_hasRest 33 = .ok (.aload_n 0, 1) := by decide +kernel
theorem dX5_hasRest_34 : decode cX5_hasRest 34 = .ok (.iload_n 1, 1) := by decide +kernel
theorem dX5_hasRest_35 : decode cX5_hasRest 35 = .ok (.iload_n 2, 1) := by decide +kernel
theorem dX5_hasRest_36 : decode cX5_hasRest 36 = .ok (.invokevirtual 88, 3) := by decide +kernel
theorem dX5_hasRest_39 : decode cX5_hasRest 39 = .ok (.if_icmp .ne 7, 3) := by decide +kernel
theorem dX5_hasRest_42 : decode cX5_hasRest 42 = .ok (.iconst 1, 1) := by decide +kernel
theorem dX5_hasRest_43 : decode cX5_hasRest 43 = .ok (.goto 4, 3) := by decide +kernel
theorem dX5_hasRest_46 : decode cX5_hasRest 46 = .ok (.iconst 0, 1) := by decide +kernel
theorem dX5_hasRest_47 : decode cX5_hasRest 47 = .ok (.istore 6, 2) := by decide +kernel
theorem dX5_hasRest_49 : decode cX5_hasRest 49 = .ok (.iload 4, 2) := by decide +kernel
theorem dX5_hasRest_51 : decode cX5_hasRest 51 = .ok (.ifCond .ne 19, 3) := by decide +kernel
theorem dX5_hasRest_54 : decode cX5_hasRest 54 = .ok (.iload 6, 2) := by decide +kernel
theorem dX5_hasRest_56 : decode cX5_hasRest 56 = .ok (.ifCond .eq 18, 3) := by decide +kernel
theorem dX5_hasRest_59 : decode cX5_hasRest 59 = .ok (.aload_n 0, 1) := by decide +kernel
theorem dX5_hasRest_60 : decode cX5_hasRest 60 = .ok (.iload 5, 2) := by decide +kernel
theorem dX5_hasRest_62 : decode cX5_hasRest 62 = .ok (.iload_n 2, 1) := by decide +kernel
theorem dX5_hasRest_63 : decode cX5_hasRest 63 = .ok (.invokevirtual 91, 3) := by decide +kernel
theorem dX5_hasRest_66 : decode cX5_hasRest 66 = .ok (.iload_n 3, 1) := by decide +kernel
theorem dX5_hasRest_67 : decode cX5_hasRest 67 = .ok (.if_icmp .ne 7, 3) := by decide +kernel
theorem dX5_hasRest_70 : decode cX5_hasRest 70 = .ok (.iconst 1, 1) := by decide +kernel
theorem dX5_hasRest_71 : decode cX5_hasRest 71 = .ok (.goto 4, 3) := by decide +kernel
theorem dX5_hasRest_74 : decode cX5_hasRest 74 = .ok (.iconst 0, 1) := by decide +kernel
theorem dX5_hasRest_75 : decode cX5_hasRest 75 = .ok (.istore 4, 2) := by decide +kernel
theorem dX5_hasRest_77 : decode cX5_hasRest 77 = .ok (.iinc 5 1, 3) := by decide +kernel
theorem dX5_hasRest_80 : decode cX5_hasRest 80 = .ok (.goto (-74), 3) := by decide +kernel
theorem dX5_hasRest_83 : decode cX5_hasRest 83 = .ok (.iload 4, 2) := by decide +kernel
theorem dX5_hasRest_85 : decode cX5_hasRest 85 = .ok (.ireturn, 1) := by decide +kernel
theorem dX5_areRests_0 : decode cX5_areRests 0 = .ok (.iconst 1, 1) := by decide +kernel
theorem dX5_areRests_1 : decode cX5_areRests 1 = .ok (.istore 5, 2) := by decide +kernel
theorem dX5_areRests_3 : decode cX5_areRests 3 = .ok (.iconst 0, 1) := by decide +kernel
theorem dX5_areRests_4 : decode cX5_areRests 4 = .ok (.istore 6, 2) := by decide +kernel
theorem dX5_areRests_6 : decode cX5_areRests 6 = .ok (.iload 6, 2) := by decide +kernel
theorem dX5_areRests_8 : decode cX5_areRests 8 = .ok (.aload_n 0, 1) := by decide +kernel
theorem dX5_areRests_9 : decode cX5_areRests 9 = .ok (.getfield 68, 3) := by decide +kernel
theorem dX5_areRests_12 : decode cX5_areRests 12 = .ok (.if_icmp .ge 77, 3) := by decide +kernel
theorem dX5_areRests_15 : decode cX5_areRests 15 = .ok (.aload_n 0, 1) := by decide +kernel
theorem dX5_areRests_16 : decode cX5_areRests 16 = .ok (.getfield 13, 3) := by decide +kernel
theorem dX5_areRests_19 : decode cX5_areRests 19 = .ok (.iload 6, 2) := by decide +kernel
theorem dX5_areRests_21 : decode cX5_areRests 21 = .ok (.iaload, 1) := by decide +kernel
theorem dX5_areRests_22 : decode cX5_areRests 22 = .ok (.iload_n 2, 1) := by decide +kernel
theorem dX5_areRests_23 : decode cX5_areRests 23 = .ok (.if_icmp .lt 23, 3) := by decide +kernel
theorem dX5_areRests_26 : decode cX5_areRests 26 = .ok (.aload_n 0, 1) := by decide +kernel
theorem dX5_areRests_27 : decode cX5_areRests 27 = .ok (.iload 6, 2) := by decide +kernel
theorem dX5_areRests_29 : decode cX5_areRests 29 = .ok (.iload_n 2, 1) := by decide +kernel
theorem dX5_areRests_30 : decode cX5_areRests 30 = .ok (.invokevirtual 88, 3) := by decide +kernel
theorem dX5_areRests_33 : decode cX5_areRests 33 = .ok (.aload_n 0, 1) := by decide +kernel
theorem dX5_areRests_34 : decode cX5_areRests 34 = .ok (.iload_n 1, 1) := by decide +kernel
theorem dX5_areRests_35 : decode cX5_areRests 35 = .ok (.iload_n 2, 1) := by decide +kernel
theorem dX5_areRests_36 : decode cX5_areRests 36 = .ok (.invokevirtual 88, 3) := by decide +kernel
theorem dX5_areRests_39 : decode cX5_areRests 39 = .ok (.if_icmp .ne 7, 3) := by decide +kernel
theorem dX5_areRests_42 : decode cX5_areRests 42 = .ok (.iconst 1, 1) := by decide +kernel
theorem dX5_areRests_43 : decode cX5_areRests 43 = .ok (.goto 4, 3) := by decide +kernel
theorem dX5_areRests_46 : decode cX5_areRests 46 = .ok (.iconst 0, 1) := by decide +kernel
theorem dX5_areRests_47 : decode cX5_areRests 47 = .ok (.istore 7, 2) := by decide +kernel
theorem dX5_areRests_49 : decode cX5_areRests 49 = .ok (.iload 5, 2) := by decide +kernel
theorem dX5_areRests_51 : decode cX5_areRests 51 = .ok (.ifCond .eq 29, 3) := by decide +kernel
theorem dX5_areRests_54 : decode cX5_areRests 54 = .ok (.iload 7, 2) := by decide +kernel
theorem dX5_areRests_56 : decode cX5_areRests 56 = .ok (.ifCond .eq 20, 3) := by decide +kernel
theorem dX5_areRests_59 : decode cX5_areRests 59 = .ok (.aload_n 0, 1) := by decide +kernel
theorem dX5_areRests_60 : decode cX5_areRests 60 = .ok (.iload_n 3, 1) := by decide +kernel
theorem dX5_areRests_61 : decode cX5_areRests 61 = .ok (.iload 4, 2) := by decide +kernel
theorem dX5_areRests_63 : decode cX5_areRests 63 = .ok (.aload_n 0, 1) := by decide +kernel
theorem dX5_areRests_64 : decode cX5_areRests 64 = .ok (.iload 6, 2) := by decide +kernel
theorem dX5_areRests_66 : decode cX5_areRests 66 = .ok (.iload_n 2, 1) := by decide +kernel
theorem dX5_areRests_67 : decode cX5_areRests 67 = .ok (.invokevirtual 91, 3) := by decide +kernel
theorem dX5_areRests_70 : decode cX5_areRests 70 = .ok (.invokevirtual 94, 3) := by decide +kernel
theorem dX5_areRests_73 : decode cX5_areRests 73 = .ok (.ifCond .eq 7, 3) := by decide +kernel
theorem dX5_areRests_76 : decode cX5_areRests 76 = .ok (.iconst 1, 1) := by decide +kernel
theorem dX5_areRests_77 : decode cX5_areRests 77 = .ok (.goto 4, 3) := by decide +kernel
theorem dX5_areRests_80 : decode cX5_areRests 80 = .ok (.iconst 0, 1) := by decide +kernel
theorem dX5_areRests_81 : decode cX5_areRests 81 = .ok (.istore 5, 2) := by decide +kernel
theorem dX5_areRests_83 : decode cX5_areRests 83 = .ok (.iinc 6 1, 3) := by decide +kernel
theorem dX5_areRests_86 : decode cX5_areRests 86 = .ok (.goto (-80), 3) := by decide +kernel
theorem dX5_areRests_89 : decode cX5_areRests 89 = .ok (.iload 5, 2) := by decide +kernel
theorem dX5_areRests_91 : decode cX5_areRests 91 = .ok (.ireturn, 1) := by decide +kernel
theorem dX5_nodes_0 : decode cX5_nodes 0 = .ok (.aload_n 0, 1) := by decide +kernel
theorem dX5_nodes_1 : decode cX5_nodes 1 = .ok (.iconst 0, 1) := by decide +kernel
theorem dX5_nodes_2 : decode cX5_nodes 2 = .ok (.putfield 56, 3) := by decide +kernel
theorem dX5_nodes_5 : decode cX5_nodes 5 = .ok (.iconst 0, 1) := by decide +kernel
theorem dX5_nodes_6 : decode cX5_nodes 6 = .ok (.istore_n 1, 1) := by decide +kernel
theorem dX5_nodes_7 : decode cX5_nodes 7 = .ok (.iconst 0, 1) := by decide +kernel
theorem dX5_nodes_8 : decode cX5_nodes 8 = .ok (.istore_n 2, 1) := by decide +kernel
theorem dX5_nodes_9 : decode cX5_nodes 9 = .ok (.iload_n 2, 1) := by decide +kernel
theorem dX5_nodes_10 : decode cX5_nodes 10 = .ok (.aload_n 0, 1) := by decide +kernel
theorem dX5_nodes_11 : decode cX5_nodes 11 = .ok (.getfield 68, 3) := by decide +kernel
theorem dX5_nodes_14 : decode cX5_nodes 14 = .ok (.if_icmp .ge 129, 3) := by decide +kernel
theorem dX5_nodes_17 : decode cX5_nodes 17 = .ok (.iconst 0, 1) := by decide +kernel
theorem dX5_nodes_18 : decode cX5_nodes 18 = .ok (.istore_n 3, 1) := by decide +kernel
theorem dX5_nodes_19 : decode cX5_nodes 19 = .ok (.iload_n 3, 1) := by decide +kernel
theorem dX5_nodes_20 : decode cX5_nodes 20 = .ok (.aload_n 0, 1) := by decide +kernel
theorem dX5_nodes_21 : decode cX5_nodes 21 = .ok (.getfield 13, 3) := by decide +kernel
theorem dX5_nodes_24 : decode cX5_nodes 24 = .ok (.iload_n 2, 1) := by decide +kernel
theorem dX5_nodes_25 : decode cX5_nodes 25 = .ok (.iaload, 1) := by decide +kernel
theorem dX5_nodes_26 : decode cX5_nodes 26 = .ok (.if_icmp .gt 111, 3) := by decide +kernel
theorem dX5_nodes_29 : decode cX5_nodes 29 = .ok (.iconst 1, 1) := by decide +kernel
theorem dX5_nodes_30 : decode cX5_nodes 30 = .ok (.istore 4, 2) := by decide +kernel
theorem dX5_nodes_32 : decode cX5_nodes 32 = .ok (.iconst 0, 1) := by decide +kernel
theorem dX5_nodes_33 : decode cX5_nodes 33 = .ok (.istore 5, 2) := by decide +kernel
theorem dX5_nodes_35 : decode cX5_nodes 35 = .ok (.iload 5, 2) := by decide +kernel
theorem dX5_nodes_37 : decode cX5_nodes 37 = .ok (.iload_n 2, 1) := by decide +kernel
theorem dX5_nodes_38 : decode cX5_nodes 38 = .ok (.if_icmp .gt 80, 3) := by decide +kernel
theorem dX5_nodes_41 : decode cX5_nodes 41 = .ok (.iconst 0, 1) := by decide +kernel
theorem dX5_nodes_42 : decode cX5_nodes 42 = .ok (.istore 6, 2) := by decide +kernel
theorem dX5_nodes_44 : decode cX5_nodes 44 = .ok (.iload 6, 2) := by decide +kernel
theorem dX5_nodes_46 : decode cX5_nodes 46 = .ok (.aload_n 0, 1) := by decide +kernel
theorem dX5_nodes_47 : decode cX5_nodes 47 = .ok (.getfield 13, 3) := by decide +kernel
theorem dX5_nodes_50 : decode cX5_nodes 50 = .ok (.iload 5, 2) := by decide +kernel
theorem dX5_nodes_52 : decode cX5_nodes 52 = .ok (.iaload, 1) := by decide +kernel
theorem dX5_nodes_53 : decode cX5_nodes 53 = .ok (.if_icmp .gt 59, 3) := by decide +kernel
theorem dX5_nodes_56 : decode cX5_nodes 56 = .ok (.iload 5, 2) := by decide +kernel
theorem dX5_nodes_58 : decode cX5_nodes 58 = .ok (.iload_n 2, 1) := by decide +kernel
theorem dX5_nodes_59 : decode cX5_nodes 59 = .ok (.if_icmp .lt 9, 3) := by decide +kernel
theorem dX5_nodes_62 : decode cX5_nodes 62 = .ok (.iload 6, 2) := by decide +kernel
theorem dX5_nodes_64 : decode cX5_nodes 64 = .ok (.iload_n 3, 1) := by decide +kernel
theorem dX5_nodes_65 : decode cX5_nodes 65 = .ok (.if_icmp .ge 47, 3) := by decide +kernel
theorem dX5_nodes_68 : decode cX5_nodes 68 = .ok (.iload 4, 2) := by decide +kernel
theorem dX5_nodes_70 : decode cX5_nodes 70 = .ok (.ifCond .eq 33, 3) := by decide +kernel
theorem dX5_nodes_73 : decode cX5_nodes 73 = .ok (.aload_n 0, 1) := by decide +kernel
theorem dX5_nodes_74 : decode cX5_nodes 74 = .ok (.iload_n 2, 1) := by decide +kernel
theorem dX5_nodes_75 : decode cX5_nodes 75 = .ok (.iload_n 3, 1) := by decide +kernel
theorem dX5_nodes_76 : decode cX5_nodes 76 = .ok (.iload 5, 2) := by decide +kernel
theorem dX5_nodes_78 : decode cX5_nodes 78 = .ok (.iload 6, 2) := by decide +kernel
theorem dX5_nodes_80 : decode cX5_nodes 80 = .ok (.invokevirtual 97, 3) := by decide +kernel
theorem dX5_nodes_83 : decode cX5_nodes 83 = .ok (.ifCond .eq 16, 3) := by decide +kernel
theorem dX5_nodes_86 : decode cX5_nodes 86 = .ok (.aload_n 0, 1) := by decide +kernel
theorem dX5_nodes_87 : decode cX5_nodes 87 = .ok (.iload 5, 2) := by decide +kernel
theorem dX5_nodes_89 : decode cX5_nodes 89 = .ok (.iload 6, 2) := by decide +kernel
theorem dX5_nodes_91 : decode cX5_nodes 91 = .ok (.iload_n 2, 1) := by decide +kernel
theorem dX5_nodes_92 : decode cX5_nodes 92 = .ok (.iload_n 3, 1) := by decide +kernel
theorem dX5_nodes_93 : decode cX5_nodes 93 = .ok (.invokevirtual 97, 3) := by decide +kernel
theorem dX5_nodes_96 : decode cX5_nodes 96 = .ok (.ifCond .ne 7, 3) := by decide +kernel
theorem dX5_nodes_99 : decode cX5_nodes 99 = .ok (.iconst 1, 1) := by decide +kernel
theorem dX5_nodes_100 : decode cX5_nodes 100 = .ok (.goto 4, 3) := by decide +kernel
theorem dX5_nodes_103 : decode cX5_nodes 103 = .ok (.iconst 0, 1) := by decide +kernel
theorem dX5_nodes_104 : decode cX5_nodes 104 = .ok (.istore 4, 2) := by decide +kernel
theorem dX5_nodes_106 : decode cX5_nodes 106 = .ok (.iinc 6 1, 3) := by decide +kernel
theorem dX5_nodes_109 : decode cX5_nodes 109 = .ok (.goto (-65), 3) := by decide +kernel
theorem dX5_nodes_112 : decode cX5_nodes 112 = .ok (.iinc 5 1, 3) := by decide +kernel
theorem dX5_nodes_115 : decode cX5_nodes 115 = .ok (.goto (-80), 3) := by decide +kernel
theorem dX5_nodes_118 : decode cX5_nodes 118 = .ok (.iload_n 1, 1) := by decide +kernel
theorem dX5_nodes_119 : decode cX5_nodes 119 = .ok (.iload 4, 2) := by decide +kernel
theorem dX5_nodes_121 : decode cX5_nodes 121 = .ok (.ifCond .eq 7, 3) := by decide +kernel
theorem dX5_nodes_124 : decode cX5_nodes 124 = .ok (.iconst 1, 1) := by decide +kernel
theorem dX5_nodes_125 : decode cX5_nodes 125 = .ok (.goto 4, 3) := by decide +kernel
theorem dX5_nodes_128 : decode cX5_nodes 128 = .ok (.iconst 0, 1) := by decide +kernel
theorem dX5_nodes_129 : decode cX5_nodes 129 = .ok (.iadd, 1) := by decide +kernel
theorem dX5_nodes_130 : decode cX5_nodes 130 = .ok (.istore_n 1, 1) := by decide +kernel
theorem dX5_nodes_131 : decode cX5_nodes 131 = .ok (.iinc 3 1, 3) := by decide +kernel
theorem dX5_nodes_134 : decode cX5_nodes 134 = .ok (.goto (-115), 3) := by decide +kernel
theorem dX5_nodes_137 : decode cX5_nodes 137 = .ok (.iinc 2 1, 3) := by decide +kernel
theorem dX5_nodes_140 : decode cX5_nodes 140 = .ok (.goto (-131), 3) := by decide +kernel
theorem dX5_nodes_143 : decode cX5_nodes 143 = .ok (.iload_n 1, 1) := by decide +kernel
theorem dX5_nodes_144 : decode cX5_nodes 144 = .ok (.ireturn, 1) := by decide +kernel
theorem dX5_takes_0 : decode cX5_takes 0 = .ok (.aload_n 0, 1) := by decide +kernel
theorem dX5_takes_1 : decode cX5_takes 1 = .ok (.iload_n 1, 1) := by decide +kernel
theorem dX5_takes_2 : decode cX5_takes 2 = .ok (.bipush 8, 2) := by decide +kernel
theorem dX5_takes_4 : decode cX5_takes 4 = .ok (.invokestatic 71, 3) := by decide +kernel
theorem dX5_takes_7 : decode cX5_takes 7 = .ok (.putfield 101, 3) := by decide +kernel
theorem dX5_takes_10 : decode cX5_takes 10 = .ok (.iload_n 1, 1) := by decide +kernel
theorem dX5_takes_11 : decode cX5_takes 11 = .ok (.istore_n 2, 1) := by decide +kernel
theorem dX5_takes_12 : decode cX5_takes 12 = .ok (.aload_n 0, 1) := by decide +kernel
theorem dX5_takes_13 : decode cX5_takes 13 = .ok (.getfield 101, 3) := by decide +kernel
theorem dX5_takes_16 : decode cX5_takes 16 = .ok (.iconst 1, 1) := by decide +kernel
theorem dX5_takes_17 : decode cX5_takes 17 = .ok (.isub, 1) := by decide +kernel
theorem dX5_takes_18 : decode cX5_takes 18 = .ok (.istore_n 3, 1) := by decide +kernel
theorem dX5_takes_19 : decode cX5_takes 19 = .ok (.iload_n 3, 1) := by decide +kernel
theorem dX5_takes_20 : decode cX5_takes 20 = .ok (.ifCond .lt 24, 3) := by decide +kernel
theorem dX5_takes_23 : decode cX5_takes 23 = .ok (.aload_n 0, 1) := by decide +kernel
theorem dX5_takes_24 : decode cX5_takes 24 = .ok (.getfield 40, 3) := by decide +kernel
theorem dX5_takes_27 : decode cX5_takes 27 = .ok (.iload_n 3, 1) := by decide +kernel
theorem dX5_takes_28 : decode cX5_takes 28 = .ok (.iload_n 2, 1) := by decide +kernel
theorem dX5_takes_29 : decode cX5_takes 29 = .ok (.bipush 10, 2) := by decide +kernel
theorem dX5_takes_31 : decode cX5_takes 31 = .ok (.irem, 1) := by decide +kernel
theorem dX5_takes_32 : decode cX5_takes 32 = .ok (.iastore, 1) := by decide +kernel
theorem dX5_takes_33 : decode cX5_takes 33 = .ok (.iload_n 2, 1) := by decide +kernel
theorem dX5_takes_34 : decode cX5_takes 34 = .ok (.bipush 10, 2) := by decide +kernel
theorem dX5_takes_36 : decode cX5_takes 36 = .ok (.idiv, 1) := by decide +kernel
theorem dX5_takes_37 : decode cX5_takes 37 = .ok (.istore_n 2, 1) := by decide +kernel
theorem dX5_takes_38 : decode cX5_takes 38 = .ok (.iinc 3 (-1), 3) := by decide +kernel
theorem dX5_takes_41 : decode cX5_takes 41 = .ok (.goto (-22), 3) := by decide +kernel
theorem dX5_takes_44 : decode cX5_takes 44 = .ok (.aload_n 0, 1) := by decide +kernel
theorem dX5_takes_45 : decode cX5_takes 45 = .ok (.getfield 101, 3) := by decide +kernel
theorem dX5_takes_48 : decode cX5_takes 48 = .ok (.ifCond .le 7, 3) := by decide +kernel
theorem dX5_takes_51 : decode cX5_takes 51 = .ok (.iconst 1, 1) := by decide +kernel
theorem dX5_takes_52 : decode cX5_takes 52 = .ok (.goto 4, 3) := by decide +kernel
theorem dX5_takes_55 : decode cX5_takes 55 = .ok (.iconst 0, 1) := by decide +kernel
theorem dX5_takes_56 : decode cX5_takes 56 = .ok (.ireturn, 1) := by decide +kernel
theorem dX5_textAt_0 : decode cX5_textAt 0 = .ok (.iload_n 1, 1) := by decide +kernel
theorem dX5_textAt_1 : decode cX5_textAt 1 = .ok (.iload_n 2, 1) := by decide +kernel
theorem dX5_textAt_2 : decode cX5_textAt 2 = .ok (.iadd, 1) := by decide +kernel
theorem dX5_textAt_3 : decode cX5_textAt 3 = .ok (.aload_n 0, 1) := by decide +kernel
theorem dX5_textAt_4 : decode cX5_textAt 4 = .ok (.getfield 101, 3) := by decide +kernel
theorem dX5_textAt_7 : decode cX5_textAt 7 = .ok (.if_icmp .le 7, 3) := by decide +kernel
theorem dX5_textAt_10 : decode cX5_textAt 10 = .ok (.iconst (-1), 1) := by decide +kernel
theorem dX5_textAt_11 : decode cX5_textAt 11 = .ok (.goto 4, 3) := by decide +kernel
theorem dX5_textAt_14 : decode cX5_textAt 14 = .ok (.iconst 1, 1) := by decide +kernel
theorem dX5_textAt_15 : decode cX5_textAt 15 = .ok (.istore_n 3, 1) := by decide +kernel
theorem dX5_textAt_16 : decode cX5_textAt 16 = .ok (.iload_n 1, 1) := by decide +kernel
theorem dX5_textAt_17 : decode cX5_textAt 17 = .ok (.istore 4, 2) := by decide +kernel
theorem dX5_textAt_19 : decode cX5_textAt 19 = .ok (.iload 4, 2) := by decide +kernel
theorem dX5_textAt_21 : decode cX5_textAt 21 = .ok (.iload_n 1, 1) := by decide +kernel
theorem dX5_textAt_22 : decode cX5_textAt 22 = .ok (.iload_n 2, 1) := by decide +kernel
theorem dX5_textAt_23 : decode cX5_textAt 23 = .ok (.iadd, 1) := by decide +kernel
theorem dX5_textAt_24 : decode cX5_textAt 24 = .ok (.if_icmp .ge 27, 3) := by decide +kernel
theorem dX5_textAt_27 : decode cX5_textAt 27 = .ok (.iload_n 3, 1) := by decide +kernel
theorem dX5_textAt_28 : decode cX5_textAt 28 = .ok (.iconst (-1), 1) := by decide +kernel
theorem dX5_textAt_29 : decode cX5_textAt 29 = .ok (.if_icmp .eq 22, 3) := by decide +kernel
theorem dX5_textAt_32 : decode cX5_textAt 32 = .ok (.bipush 10, 2) := by decide +kernel
theorem dX5_textAt_34 : decode cX5_textAt 34 = .ok (.iload_n 3, 1) := by decide +kernel
theorem dX5_textAt_35 : decode cX5_textAt 35 = .ok (.imul, 1) := by decide +kernel
theorem dX5_textAt_36 : decode cX5_textAt 36 = .ok (.aload_n 0, 1) := by decide +kernel
theorem dX5_textAt_37 : decode cX5_textAt 37 = .ok (.getfield 40, 3) := by decide +kernel
theorem dX5_textAt_40 : decode cX5_textAt 40 = .ok (.iload 4, 2) := by decide +kernel
theorem dX5_textAt_42 : decode cX5_textAt 42 = .ok (.iaload, 1) := by decide +kernel
theorem dX5_textAt_43 : decode cX5_textAt 43 = .ok (.iadd, 1) := by decide +kernel
theorem dX5_textAt_44 : decode cX5_textAt 44 = .ok (.istore_n 3, 1) := by decide +kernel
theorem dX5_textAt_45 : decode cX5_textAt 45 = .ok (.iinc 4 1, 3) := by decide +kernel
theorem dX5_textAt_48 : decode cX5_textAt 48 = .ok (.goto (-29), 3) := by decide +kernel
theorem dX5_textAt_51 : decode cX5_textAt 51 = .ok (.iload_n 3, 1) := by decide +kernel
theorem dX5_textAt_52 : decode cX5_textAt 52 = .ok (.ireturn, 1) := by decide +kernel
theorem dX5_goesOn_0 : decode cX5_goesOn 0 = .ok (.iconst 4, 1) := by decide +kernel
theorem dX5_goesOn_1 : decode cX5_goesOn 1 = .ok (.iload_n 1, 1) := by decide +kernel
theorem dX5_goesOn_2 : decode cX5_goesOn 2 = .ok (.bipush 7, 2) := by decide +kernel
theorem dX5_goesOn_4 : decode cX5_goesOn 4 = .ok (.idiv, 1) := by decide +kernel
theorem dX5_goesOn_5 : decode cX5_goesOn 5 = .ok (.isub, 1) := by decide +kernel
theorem dX5_goesOn_6 : decode cX5_goesOn 6 = .ok (.istore_n 2, 1) := by decide +kernel
theorem dX5_goesOn_7 : decode cX5_goesOn 7 = .ok (.iload_n 1, 1) := by decide +kernel
theorem dX5_goesOn_8 : decode cX5_goesOn 8 = .ok (.bipush 7, 2) := by decide +kernel
theorem dX5_goesOn_10 : decode cX5_goesOn 10 = .ok (.irem, 1) := by decide +kernel
theorem dX5_goesOn_11 : decode cX5_goesOn 11 = .ok (.iconst 1, 1) := by decide +kernel
theorem dX5_goesOn_12 : decode cX5_goesOn 12 = .ok (.isub, 1) := by decide +kernel
theorem dX5_goesOn_13 : decode cX5_goesOn 13 = .ok (.istore_n 3, 1) := by decide +kernel
theorem dX5_goesOn_14 : decode cX5_goesOn 14 = .ok (.aload_n 0, 1) := by decide +kernel
theorem dX5_goesOn_15 : decode cX5_goesOn 15 = .ok (.getfield 46, 3) := by decide +kernel
theorem dX5_goesOn_18 : decode cX5_goesOn 18 = .ok (.aload_n 0, 1) := by decide +kernel
theorem dX5_goesOn_19 : decode cX5_goesOn 19 = .ok (.getfield 104, 3) := by decide +kernel
theorem dX5_goesOn_22 : decode cX5_goesOn 22 = .ok (.iaload, 1) := by decide +kernel
theorem dX5_goesOn_23 : decode cX5_goesOn 23 = .ok (.istore 4, 2) := by decide +kernel
theorem dX5_goesOn_25 : decode cX5_goesOn 25 = .ok (.aload_n 0, 1) := by decide +kernel
theorem dX5_goesOn_26 : decode cX5_goesOn 26 = .ok (.aload_n 0, 1) := by decide +kernel
theorem dX5_goesOn_27 : decode cX5_goesOn 27 = .ok (.iload 4, 2) := by decide +kernel
theorem dX5_goesOn_29 : decode cX5_goesOn 29 = .ok (.iload_n 2, 1) := by decide +kernel
theorem dX5_goesOn_30 : decode cX5_goesOn 30 = .ok (.invokevirtual 107, 3) := by decide +kernel
theorem dX5_goesOn_33 : decode cX5_goesOn 33 = .ok (.invokevirtual 75, 3) := by decide +kernel
theorem dX5_goesOn_36 : decode cX5_goesOn 36 = .ok (.istore 5, 2) := by decide +kernel
theorem dX5_goesOn_38 : decode cX5_goesOn 38 = .ok (.iload 5, 2) := by decide +kernel
theorem dX5_goesOn_40 : decode cX5_goesOn 40 = .ok (.iconst (-1), 1) := by decide +kernel
theorem dX5_goesOn_41 : decode cX5_goesOn 41 = .ok (.if_icmp .eq 35, 3) := by decide +kernel
theorem dX5_goesOn_44 : decode cX5_goesOn 44 = .ok (.aload_n 0, 1) := by decide +kernel
theorem dX5_goesOn_45 : decode cX5_goesOn 45 = .ok (.getfield 104, 3) := by decide +kernel
theorem dX5_goesOn_48 : decode cX5_goesOn 48 = .ok (.ifCond .le 30, 3) := by decide +kernel
theorem dX5_goesOn_51 : decode cX5_goesOn 51 = .ok (.aload_n 0, 1) := by decide +kernel
theorem dX5_goesOn_52 : decode cX5_goesOn 52 = .ok (.getfield 28, 3) := by decide +kernel
theorem dX5_goesOn_55 : decode cX5_goesOn 55 = .ok (.aload_n 0, 1) := by decide +kernel
theorem dX5_goesOn_56 : decode cX5_goesOn 56 = .ok (.getfield 49, 3) := by decide +kernel
theorem dX5_goesOn_59 : decode cX5_goesOn 59 = .ok (.aload_n 0, 1) := by decide +kernel
theorem dX5_goesOn_60 : decode cX5_goesOn 60 = .ok (.getfield 104, 3) := by decide +kernel
theorem dX5_goesOn_63 : decode cX5_goesOn 63 = .ok (.iconst 1, 1) := by decide +kernel
theorem dX5_goesOn_64 : decode cX5_goesOn 64 = .ok (.isub, 1) := by decide +kernel
theorem dX5_goesOn_65 : decode cX5_goesOn 65 = .ok (.iaload, 1) := by decide +kernel
theorem dX5_goesOn_66 : decode cX5_goesOn 66 = .ok (.iaload, 1) := by decide +kernel
theorem dX5_goesOn_67 : decode cX5_goesOn 67 = .ok (.iload 5, 2) := by decide +kernel
theorem dX5_goesOn_69 : decode cX5_goesOn 69 = .ok (.ishr, 1) := by decide +kernel
theorem dX5_goesOn_70 : decode cX5_goesOn 70 = .ok (.iconst 1, 1) := by decide +kernel
theorem dX5_goesOn_71 : decode cX5_goesOn 71 = .ok (.iand, 1) := by decide +kernel
theorem dX5_goesOn_72 : decode cX5_goesOn 72 = .ok (.iconst 1, 1) := by decide +kernel
theorem dX5_goesOn_73 : decode cX5_goesOn 73 = .ok (.if_icmp .ne 5, 3) := by decide +kernel
theorem dX5_goesOn_76 : decode cX5_goesOn 76 = .ok (.iconst 0, 1) := by decide +kernel
theorem dX5_goesOn_77 : decode cX5_goesOn 77 = .ok (.ireturn, 1) := by decide +kernel
theorem dX5_goesOn_78 : decode cX5_goesOn 78 = .ok (.iload 4, 2) := by decide +kernel
theorem dX5_goesOn_80 : decode cX5_goesOn 80 = .ok (.iload_n 2, 1) := by decide +kernel
theorem dX5_goesOn_81 : decode cX5_goesOn 81 = .ok (.iadd, 1) := by decide +kernel
theorem dX5_goesOn_82 : decode cX5_goesOn 82 = .ok (.istore 6, 2) := by decide +kernel
theorem dX5_goesOn_84 : decode cX5_goesOn 84 = .ok (.iload 6, 2) := by decide +kernel
theorem dX5_goesOn_86 : decode cX5_goesOn 86 = .ok (.aload_n 0, 1) := by decide +kernel
theorem dX5_goesOn_87 : decode cX5_goesOn 87 = .ok (.getfield 101, 3) := by decide +kernel
theorem dX5_goesOn_90 : decode cX5_goesOn 90 = .ok (.if_icmp .ne 7, 3) := by decide +kernel
theorem dX5_goesOn_93 : decode cX5_goesOn 93 = .ok (.iconst 1, 1) := by decide +kernel
theorem dX5_goesOn_94 : decode cX5_goesOn 94 = .ok (.goto 4, 3) := by decide +kernel
theorem dX5_goesOn_97 : decode cX5_goesOn 97 = .ok (.iconst 0, 1) := by decide +kernel
theorem dX5_goesOn_98 : decode cX5_goesOn 98 = .ok (.istore 7, 2) := by decide +kernel
theorem dX5_goesOn_100 : decode cX5_goesOn 100 = .ok (.aload_n 0, 1) := by decide +kernel
theorem dX5_goesOn_101 : decode cX5_goesOn 101 = .ok (.getfield 104, 3) := by decide +kernel
theorem dX5_goesOn_104 : decode cX5_goesOn 104 = .ok (.ifCond .ne 7, 3) := by decide +kernel
theorem dX5_goesOn_107 : decode cX5_goesOn 107 = .ok (.iconst 1, 1) := by decide +kernel
theorem dX5_goesOn_108 : decode cX5_goesOn 108 = .ok (.goto 4, 3) := by decide +kernel
theorem dX5_goesOn_111 : decode cX5_goesOn 111 = .ok (.iconst 0, 1) := by decide +kernel
theorem dX5_goesOn_112 : decode cX5_goesOn 112 = .ok (.iload 7, 2) := by decide +kernel
theorem dX5_goesOn_114 : decode cX5_goesOn 114 = .ok (.ifCond .eq 7, 3) := by decide +kernel
theorem dX5_goesOn_117 : decode cX5_goesOn 117 = .ok (.iconst 4, 1) := by decide +kernel
theorem dX5_goesOn_118 : decode cX5_goesOn 118 = .ok (.goto 4, 3) := by decide +kernel
theorem dX5_goesOn_121 : decode cX5_goesOn 121 = .ok (.iconst 0, 1) := by decide +kernel
theorem dX5_goesOn_122 : decode cX5_goesOn 122 = .ok (.ior, 1) := by decide +kernel
theorem dX5_goesOn_123 : decode cX5_goesOn 123 = .ok (.aload_n 0, 1) := by decide +kernel
theorem dX5_goesOn_124 : decode cX5_goesOn 124 = .ok (.getfield 104, 3) := by decide +kernel
theorem dX5_goesOn_127 : decode cX5_goesOn 127 = .ok (.ifCond .le 12, 3) := by decide +kernel
theorem dX5_goesOn_130 : decode cX5_goesOn 130 = .ok (.iload 7, 2) := by decide +kernel
theorem dX5_goesOn_132 : decode cX5_goesOn 132 = .ok (.ifCond .ne 7, 3) := by decide +kernel
theorem dX5_goesOn_135 : decode cX5_goesOn 135 = .ok (.iconst 2, 1) := by decide +kernel
theorem dX5_goesOn_136 : decode cX5_goesOn 136 = .ok (.goto 4, 3) := by decide +kernel
theorem dX5_goesOn_139 : decode cX5_goesOn 139 = .ok (.iconst 0, 1) := by decide +kernel
theorem dX5_goesOn_140 : decode cX5_goesOn 140 = .ok (.ior, 1) := by decide +kernel
theorem dX5_goesOn_141 : decode cX5_goesOn 141 = .ok (.istore 8, 2) := by decide +kernel
theorem dX5_goesOn_143 : decode cX5_goesOn 143 = .ok (.aload_n 0, 1) := by decide +kernel
theorem dX5_goesOn_144 : decode cX5_goesOn 144 = .ok (.getfield 19, 3) := by decide +kernel
theorem dX5_goesOn_147 : decode cX5_goesOn 147 = .ok (.iload 5, 2) := by decide +kernel
theorem dX5_goesOn_149 : decode cX5_goesOn 149 = .ok (.iaload, 1) := by decide +kernel
theorem dX5_goesOn_150 : decode cX5_goesOn 150 = .ok (.iload 8, 2) := by decide +kernel
theorem dX5_goesOn_152 : decode cX5_goesOn 152 = .ok (.iand, 1) := by decide +kernel
theorem dX5_goesOn_153 : decode cX5_goesOn 153 = .ok (.iload 8, 2) := by decide +kernel
theorem dX5_goesOn_155 : decode cX5_goesOn 155 = .ok (.if_icmp .ne 7, 3) := by decide +kernel
theorem dX5_goesOn_158 : decode cX5_goesOn 158 = .ok (.iconst 1, 1) := by decide +kernel
theorem dX5_goesOn_159 : decode cX5_goesOn 159 = .ok (.goto 4, 3) := by decide +kernel
theorem dX5_goesOn_162 : decode cX5_goesOn 162 = .ok (.iconst 0, 1) := by decide +kernel
theorem dX5_goesOn_163 : decode cX5_goesOn 163 = .ok (.istore 9, 2) := by decide +kernel
theorem dX5_goesOn_165 : decode cX5_goesOn 165 = .ok (.iload_n 3, 1) := by decide +kernel
theorem dX5_goesOn_166 : decode cX5_goesOn 166 = .ok (.iconst (-1), 1) := by decide +kernel
theorem dX5_goesOn_167 : decode cX5_goesOn 167 = .ok (.if_icmp .eq 143, 3) := by decide +kernel
theorem dX5_goesOn_170 : decode cX5_goesOn 170 = .ok (.iload 9, 2) := by decide +kernel
theorem dX5_goesOn_172 : decode cX5_goesOn 172 = .ok (.ifCond .eq 34, 3) := by decide +kernel
theorem dX5_goesOn_175 : decode cX5_goesOn 175 = .ok (.iload 7, 2) := by decide +kernel
theorem dX5_goesOn_177 : decode cX5_goesOn 177 = .ok (.ifCond .ne 29, 3) := by decide +kernel
theorem dX5_goesOn_180 : decode cX5_goesOn 180 = .ok (.iload_n 3, 1) := by decide +kernel
theorem dX5_goesOn_181 : decode cX5_goesOn 181 = .ok (.aload_n 0, 1) := by decide +kernel
theorem dX5_goesOn_182 : decode cX5_goesOn 182 = .ok (.getfield 82, 3) := by decide +kernel
theorem dX5_goesOn_185 : decode cX5_goesOn 185 = .ok (.if_icmp .ge 21, 3) := by decide +kernel
theorem dX5_goesOn_188 : decode cX5_goesOn 188 = .ok (.aload_n 0, 1) := by decide +kernel
theorem dX5_goesOn_189 : decode cX5_goesOn 189 = .ok (.getfield 31, 3) := by decide +kernel
theorem dX5_goesOn_192 : decode cX5_goesOn 192 = .ok (.iload 5, 2) := by decide +kernel
theorem dX5_goesOn_194 : decode cX5_goesOn 194 = .ok (.iaload, 1) := by decide +kernel
theorem dX5_goesOn_195 : decode cX5_goesOn 195 = .ok (.iload_n 3, 1) := by decide +kernel
theorem dX5_goesOn_196 : decode cX5_goesOn 196 = .ok (.ishr, 1) := by decide +kernel
theorem dX5_goesOn_197 : decode cX5_goesOn 197 = .ok (.iconst 1, 1) := by decide +kernel
theorem dX5_goesOn_198 : decode cX5_goesOn 198 = .ok (.iand, 1) := by decide +kernel
theorem dX5_goesOn_199 : decode cX5_goesOn 199 = .ok (.ifCond .ne 7, 3) := by decide +kernel
theorem dX5_goesOn_202 : decode cX5_goesOn 202 = .ok (.iconst 1, 1) := by decide +kernel
theorem dX5_goesOn_203 : decode cX5_goesOn 203 = .ok (.goto 4, 3) := by decide +kernel
theorem dX5_goesOn_206 : decode cX5_goesOn 206 = .ok (.iconst 0, 1) := by decide +kernel
theorem dX5_goesOn_207 : decode cX5_goesOn 207 = .ok (.istore 9, 2) := by decide +kernel
theorem dX5_goesOn_209 : decode cX5_goesOn 209 = .ok (.iload 9, 2) := by decide +kernel
theorem dX5_goesOn_211 : decode cX5_goesOn 211 = .ok (.ifCond .eq 52, 3) := by decide +kernel
theorem dX5_goesOn_214 : decode cX5_goesOn 214 = .ok (.aload_n 0, 1) := by decide +kernel
theorem dX5_goesOn_215 : decode cX5_goesOn 215 = .ok (.iload 6, 2) := by decide +kernel
theorem dX5_goesOn_217 : decode cX5_goesOn 217 = .ok (.aload_n 0, 1) := by decide +kernel
theorem dX5_goesOn_218 : decode cX5_goesOn 218 = .ok (.getfield 25, 3) := by decide +kernel
theorem dX5_goesOn_221 : decode cX5_goesOn 221 = .ok (.iload_n 3, 1) := by decide +kernel
theorem dX5_goesOn_222 : decode cX5_goesOn 222 = .ok (.aload_n 0, 1) := by decide +kernel
theorem dX5_goesOn_223 : decode cX5_goesOn 223 = .ok (.getfield 82, 3) := by decide +kernel
theorem dX5_goesOn_226 : decode cX5_goesOn 226 = .ok (.if_icmp .ge 7, 3) := by decide +kernel
theorem dX5_goesOn_229 : decode cX5_goesOn 229 = .ok (.iload_n 3, 1) := by decide +kernel
theorem dX5_goesOn_230 : decode cX5_goesOn 230 = .ok (.goto 4, 3) := by decide +kernel
theorem dX5_goesOn_233 : decode cX5_goesOn 233 = .ok (.iconst 0, 1) := by decide +kernel
theorem dX5_goesOn_234 : decode cX5_goesOn 234 = .ok (.iaload, 1) := by decide +kernel
theorem dX5_goesOn_235 : decode cX5_goesOn 235 = .ok (.invokevirtual 107, 3) := by decide +kernel
theorem dX5_goesOn_238 : decode cX5_goesOn 238 = .ok (.aload_n 0, 1) := by decide +kernel
theorem dX5_goesOn_239 : decode cX5_goesOn 239 = .ok (.getfield 22, 3) := by decide +kernel
theorem dX5_goesOn_242 : decode cX5_goesOn 242 = .ok (.iload_n 3, 1) := by decide +kernel
theorem dX5_goesOn_243 : decode cX5_goesOn 243 = .ok (.aload_n 0, 1) := by decide +kernel
theorem dX5_goesOn_244 : decode cX5_goesOn 244 = .ok (.getfield 82, 3) := by decide +kernel
theorem dX5_goesOn_247 : decode cX5_goesOn 247 = .ok (.if_icmp .ge 7, 3) := by decide +kernel
theorem dX5_goesOn_250 : decode cX5_goesOn 250 = .ok (.iload_n 3, 1) := by decide +kernel
theorem dX5_goesOn_251 : decode cX5_goesOn 251 = .ok (.goto 4, 3) := by decide +kernel
theorem dX5_goesOn_254 : decode cX5_goesOn 254 = .ok (.iconst 0, 1) := by decide +kernel
theorem dX5_goesOn_255 : decode cX5_goesOn 255 = .ok (.iaload, 1) := by decide +kernel
theorem dX5_goesOn_256 : decode cX5_goesOn 256 = .ok (.if_icmp .ne 7, 3) := by decide +kernel
theorem dX5_goesOn_259 : decode cX5_goesOn 259 = .ok (.iconst 1, 1) := by decide +kernel
theorem dX5_goesOn_260 : decode cX5_goesOn 260 = .ok (.goto 4, 3) := by decide +kernel
theorem dX5_goesOn_263 : decode cX5_goesOn 263 = .ok (.iconst 0, 1) := by decide +kernel
theorem dX5_goesOn_264 : decode cX5_goesOn 264 = .ok (.istore 9, 2) := by decide +kernel
theorem dX5_goesOn_266 : decode cX5_goesOn 266 = .ok (.iload 6, 2) := by decide +kernel
theorem dX5_goesOn_268 : decode cX5_goesOn 268 = .ok (.iload_n 3, 1) := by decide +kernel
theorem dX5_goesOn_269 : decode cX5_goesOn 269 = .ok (.aload_n 0, 1) := by decide +kernel
theorem dX5_goesOn_270 : decode cX5_goesOn 270 = .ok (.getfield 82, 3) := by decide +kernel
theorem dX5_goesOn_273 : decode cX5_goesOn 273 = .ok (.if_icmp .ge 12, 3) := by decide +kernel
theorem dX5_goesOn_276 : decode cX5_goesOn 276 = .ok (.aload_n 0, 1) := by decide +kernel
theorem dX5_goesOn_277 : decode cX5_goesOn 277 = .ok (.getfield 25, 3) := by decide +kernel
theorem dX5_goesOn_280 : decode cX5_goesOn 280 = .ok (.iload_n 3, 1) := by decide +kernel
theorem dX5_goesOn_281 : decode cX5_goesOn 281 = .ok (.iaload, 1) := by decide +kernel
theorem dX5_goesOn_282 : decode cX5_goesOn 282 = .ok (.goto 4, 3) := by decide +kernel
theorem dX5_goesOn_285 : decode cX5_goesOn 285 = .ok (.iconst 0, 1) := by decide +kernel
theorem dX5_goesOn_286 : decode cX5_goesOn 286 = .ok (.iadd, 1) := by decide +kernel
theorem dX5_goesOn_287 : decode cX5_goesOn 287 = .ok (.istore 6, 2) := by decide +kernel
theorem dX5_goesOn_289 : decode cX5_goesOn 289 = .ok (.iload 9, 2) := by decide +kernel
theorem dX5_goesOn_291 : decode cX5_goesOn 291 = .ok (.ifCond .eq 16, 3) := by decide +kernel
theorem dX5_goesOn_294 : decode cX5_goesOn 294 = .ok (.iload 6, 2) := by decide +kernel
theorem dX5_goesOn_296 : decode cX5_goesOn 296 = .ok (.aload_n 0, 1) := by decide +kernel
theorem dX5_goesOn_297 : decode cX5_goesOn 297 = .ok (.getfield 101, 3) := by decide +kernel
theorem dX5_goesOn_300 : decode cX5_goesOn 300 = .ok (.if_icmp .ge 7, 3) := by decide +kernel
theorem dX5_goesOn_303 : decode cX5_goesOn 303 = .ok (.iconst 1, 1) := by decide +kernel
theorem dX5_goesOn_304 : decode cX5_goesOn 304 = .ok (.goto 4, 3) := by decide +kernel
theorem dX5_goesOn_307 : decode cX5_goesOn 307 = .ok (.iconst 0, 1) := by decide +kernel
theorem dX5_goesOn_308 : decode cX5_goesOn 308 = .ok (.istore 9, 2) := by decide +kernel
theorem dX5_goesOn_310 : decode cX5_goesOn 310 = .ok (.iload 9, 2) := by decide +kernel
theorem dX5_goesOn_312 : decode cX5_goesOn 312 = .ok (.ifCond .eq 37, 3) := by decide +kernel
theorem dX5_goesOn_315 : decode cX5_goesOn 315 = .ok (.aload_n 0, 1) := by decide +kernel
theorem dX5_goesOn_316 : decode cX5_goesOn 316 = .ok (.getfield 43, 3) := by decide +kernel
theorem dX5_goesOn_319 : decode cX5_goesOn 319 = .ok (.aload_n 0, 1) := by decide +kernel
theorem dX5_goesOn_320 : decode cX5_goesOn 320 = .ok (.getfield 104, 3) := by decide +kernel
theorem dX5_goesOn_323 : decode cX5_goesOn 323 = .ok (.iload_n 1, 1) := by decide +kernel
theorem dX5_goesOn_324 : decode cX5_goesOn 324 = .ok (.iastore, 1) := by decide +kernel
theorem dX5_goesOn_325 : decode cX5_goesOn 325 = .ok (.aload_n 0, 1) := by decide +kernel
theorem dX5_goesOn_326 : decode cX5_goesOn 326 = .ok (.getfield 49, 3) := by decide +kernel
theorem dX5_goesOn_329 : decode cX5_goesOn 329 = .ok (.aload_n 0, 1) := by decide +kernel
theorem dX5_goesOn_330 : decode cX5_goesOn 330 = .ok (.getfield 104, 3) := by decide +kernel
theorem dX5_goesOn_333 : decode cX5_goesOn 333 = .ok (.iload 5, 2) := by decide +kernel
theorem dX5_goesOn_335 : decode cX5_goesOn 335 = .ok (.iastore, 1) := by decide +kernel
theorem dX5_goesOn_336 : decode cX5_goesOn 336 = .ok (.aload_n 0, 1) := by decide +kernel
theorem dX5_goesOn_337 : decode cX5_goesOn 337 = .ok (.getfield 46, 3) := by decide +kernel
theorem dX5_goesOn_340 : decode cX5_goesOn 340 = .ok (.aload_n 0, 1) := by decide +kernel
theorem dX5_goesOn_341 : decode cX5_goesOn 341 = .ok (.getfield 104, 3) := by decide +kernel
theorem dX5_goesOn_344 : decode cX5_goesOn 344 = .ok (.iconst 1, 1) := by decide +kernel
theorem dX5_goesOn_345 : decode cX5_goesOn 345 = .ok (.iadd, 1) := by decide +kernel
theorem dX5_goesOn_346 : decode cX5_goesOn 346 = .ok (.iload 6, 2) := by decide +kernel
theorem dX5_goesOn_348 : decode cX5_goesOn 348 = .ok (.iastore, 1) := by decide +kernel
theorem dX5_goesOn_349 : decode cX5_goesOn 349 = .ok (.iload 9, 2) := by decide +kernel
theorem dX5_goesOn_351 : decode cX5_goesOn 351 = .ok (.ireturn, 1) := by decide +kernel
theorem dX5_key_0 : decode cX5_key 0 = .ok (.ldc2_w 110, 3) := by decide +kernel
theorem dX5_key_3 : decode cX5_key 3 = .ok (.lstore_n 1, 1) := by decide +kernel
theorem dX5_key_4 : decode cX5_key 4 = .ok (.lconst 0, 1) := by decide +kernel
theorem dX5_key_5 : decode cX5_key 5 = .ok (.lstore_n 3, 1) := by decide +kernel
theorem dX5_key_6 : decode cX5_key 6 = .ok (.iconst 0, 1) := by decide +kernel
theorem dX5_key_7 : decode cX5_key 7 = .ok (.istore 5, 2) := by decide +kernel
theorem dX5_key_9 : decode cX5_key 9 = .ok (.iload 5, 2) := by decide +kernel
theorem dX5_key_11 : decode cX5_key 11 = .ok (.bipush 8, 2) := by decide +kernel
theorem dX5_key_13 : decode cX5_key 13 = .ok (.if_icmp .ge 95, 3) := by decide +kernel
theorem dX5_key_16 : decode cX5_key 16 = .ok (.iload 5, 2) := by decide +kernel
theorem dX5_key_18 : decode cX5_key 18 = .ok (.aload_n 0, 1) := by decide +kernel
theorem dX5_key_19 : decode cX5_key 19 = .ok (.getfield 104, 3) := by decide +kernel
theorem dX5_key_22 : decode cX5_key 22 = .ok (.if_icmp .ge 7, 3) := by decide +kernel
theorem dX5_key_25 : decode cX5_key 25 = .ok (.iconst 1, 1) := by decide +kernel
theorem dX5_key_26 : decode cX5_key 26 = .ok (.goto 4, 3) := by decide +kernel
theorem dX5_key_29 : decode cX5_key 29 = .ok (.iconst 0, 1) := by decide +kernel
theorem dX5_key_30 : decode cX5_key 30 = .ok (.istore 6, 2) := by decide +kernel
theorem dX5_key_32 : decode cX5_key 32 = .ok (.lload_n 1, 1) := by decide +kernel
theorem dX5_key_33 : decode cX5_key 33 = .ok (.iload 6, 2) := by decide +kernel
theorem dX5_key_35 : decode cX5_key 35 = .ok (.ifCond .eq 40, 3) := by decide +kernel
theorem dX5_key_38 : decode cX5_key 38 = .ok (.aload_n 0, 1) := by decide +kernel
theorem dX5_key_39 : decode cX5_key 39 = .ok (.aload_n 0, 1) := by decide +kernel
theorem dX5_key_40 : decode cX5_key 40 = .ok (.getfield 49, 3) := by decide +kernel
theorem dX5_key_43 : decode cX5_key 43 = .ok (.iload 5, 2) := by decide +kernel
theorem dX5_key_45 : decode cX5_key 45 = .ok (.iaload, 1) := by decide +kernel
theorem dX5_key_46 : decode cX5_key 46 = .ok (.invokevirtual 85, 3) := by decide +kernel
theorem dX5_key_49 : decode cX5_key 49 = .ok (.bipush 15, 2) := by decide +kernel
theorem dX5_key_51 : decode cX5_key 51 = .ok (.iadd, 1) := by decide +kernel
theorem dX5_key_52 : decode cX5_key 52 = .ok (.aload_n 0, 1) := by decide +kernel
theorem dX5_key_53 : decode cX5_key 53 = .ok (.getfield 43, 3) := by decide +kernel
theorem dX5_key_56 : decode cX5_key 56 = .ok (.iload 5, 2) := by decide +kernel
theorem dX5_key_58 : decode cX5_key 58 = .ok (.iaload, 1) := by decide +kernel
theorem dX5_key_59 : decode cX5_key 59 = .ok (.bipush 7, 2) := by decide +kernel
theorem dX5_key_61 : decode cX5_key 61 = .ok (.irem, 1) := by decide +kernel
theorem dX5_key_62 : decode cX5_key 62 = .ok (.ifCond .le 7, 3) := by decide +kernel
theorem dX5_key_65 : decode cX5_key 65 = .ok (.iconst 3, 1) := by decide +kernel
theorem dX5_key_66 : decode cX5_key 66 = .ok (.goto 4, 3) := by decide +kernel
theorem dX5_key_69 : decode cX5_key 69 = .ok (.iconst 0, 1) := by decide +kernel
theorem dX5_key_70 : decode cX5_key 70 = .ok (.iadd, 1) := by decide +kernel
theorem dX5_key_71 : decode cX5_key 71 = .ok (.i2l, 1) := by decide +kernel
theorem dX5_key_72 : decode cX5_key 72 = .ok (.goto 4, 3) := by decide +kernel
theorem dX5_key_75 : decode cX5_key 75 = .ok (.lconst 0, 1) := by decide +kernel
theorem dX5_key_76 : decode cX5_key 76 = .ok (.ladd, 1) := by decide +kernel
theorem dX5_key_77 : decode cX5_key 77 = .ok (.lstore_n 1, 1) := by decide +kernel
theorem dX5_key_78 : decode cX5_key 78 = .ok (.ldc2_w 112, 3) := by decide +kernel
theorem dX5_key_81 : decode cX5_key 81 = .ok (.lload_n 3, 1) := by decide +kernel
theorem dX5_key_82 : decode cX5_key 82 = .ok (.lmul, 1) := by decide +kernel
theorem dX5_key_83 : decode cX5_key 83 = .ok (.iload 6, 2) := by decide +kernel
theorem dX5_key_85 : decode cX5_key 85 = .ok (.ifCond .eq 13, 3) := by decide +kernel
theorem dX5_key_88 : decode cX5_key 88 = .ok (.aload_n 0, 1) := by decide +kernel
theorem dX5_key_89 : decode cX5_key 89 = .ok (.getfield 43, 3) := by decide +kernel
theorem dX5_key_92 : decode cX5_key 92 = .ok (.iload 5, 2) := by decide +kernel
theorem dX5_key_94 : decode cX5_key 94 = .ok (.iaload, 1) := by decide +kernel
theorem dX5_key_95 : decode cX5_key 95 = .ok (.goto 4, 3) := by decide +kernel
theorem dX5_key_98 : decode cX5_key 98 = .ok (.iconst 0, 1) := by decide +kernel
theorem dX5_key_99 : decode cX5_key 99 = .ok (.i2l, 1) := by decide +kernel
theorem dX5_key_100 : decode cX5_key 100 = .ok (.ladd, 1) := by decide +kernel
theorem dX5_key_101 : decode cX5_key 101 = .ok (.lstore_n 3, 1) := by decide +kernel
theorem dX5_key_102 : decode cX5_key 102 = .ok (.iinc 5 1, 3) := by decide +kernel
theorem dX5_key_105 : decode cX5_key 105 = .ok (.goto (-96), 3) := by decide +kernel
theorem dX5_key_108 : decode cX5_key 108 = .ok (.ldc2_w 114, 3) := by decide +kernel
theorem dX5_key_111 : decode cX5_key 111 = .ok (.lload_n 1, 1) := by decide +kernel
theorem dX5_key_112 : decode cX5_key 112 = .ok (.lmul, 1) := by decide +kernel
theorem dX5_key_113 : decode cX5_key 113 = .ok (.aload_n 0, 1) := by decide +kernel
theorem dX5_key_114 : decode cX5_key 114 = .ok (.getfield 104, 3) := by decide +kernel
theorem dX5_key_117 : decode cX5_key 117 = .ok (.i2l, 1) := by decide +kernel
theorem dX5_key_118 : decode cX5_key 118 = .ok (.ladd, 1) := by decide +kernel
theorem dX5_key_119 : decode cX5_key 119 = .ok (.ldc2_w 116, 3) := by decide +kernel
theorem dX5_key_122 : decode cX5_key 122 = .ok (.lmul, 1) := by decide +kernel
theorem dX5_key_123 : decode cX5_key 123 = .ok (.lload_n 3, 1) := by decide +kernel
theorem dX5_key_124 : decode cX5_key 124 = .ok (.ladd, 1) := by decide +kernel
theorem dX5_key_125 : decode cX5_key 125 = .ok (.lreturn, 1) := by decide +kernel
theorem dX5_laysSplits_0 : decode cX5_laysSplits 0 = .ok (.aload_n 0, 1) := by decide +kernel
theorem dX5_laysSplits_1 : decode cX5_laysSplits 1 = .ok (.iconst 0, 1) := by decide +kernel
theorem dX5_laysSplits_2 : decode cX5_laysSplits 2 = .ok (.putfield 118, 3) := by decide +kernel
theorem dX5_laysSplits_5 : decode cX5_laysSplits 5 = .ok (.aload_n 0, 1) := by decide +kernel
theorem dX5_laysSplits_6 : decode cX5_laysSplits 6 = .ok (.iconst 0, 1) := by decide +kernel
theorem dX5_laysSplits_7 : decode cX5_laysSplits 7 = .ok (.putfield 104, 3) := by decide +kernel
theorem dX5_laysSplits_10 : decode cX5_laysSplits 10 = .ok (.aload_n 0, 1) := by decide +kernel
theorem dX5_laysSplits_11 : decode cX5_laysSplits 11 = .ok (.getfield 46, 3) := by decide +kernel
theorem dX5_laysSplits_14 : decode cX5_laysSplits 14 = .ok (.iconst 0, 1) := by decide +kernel
theorem dX5_laysSplits_15 : decode cX5_laysSplits 15 = .ok (.iconst 0, 1) := by decide +kernel
theorem dX5_laysSplits_16 : decode cX5_laysSplits 16 = .ok (.iastore, 1) := by decide +kernel
theorem dX5_laysSplits_17 : decode cX5_laysSplits 17 = .ok (.aload_n 0, 1) := by decide +kernel
theorem dX5_laysSplits_18 : decode cX5_laysSplits 18 = .ok (.getfield 43, 3) := by decide +kernel
theorem dX5_laysSplits_21 : decode cX5_laysSplits 21 = .ok (.iconst 0, 1) := by decide +kernel
theorem dX5_laysSplits_22 : decode cX5_laysSplits 22 = .ok (.iconst (-1), 1) := by decide +kernel
theorem dX5_laysSplits_23 : decode cX5_laysSplits 23 = .ok (.iastore, 1) := by decide +kernel
theorem dX5_laysSplits_24 : decode cX5_laysSplits 24 = .ok (.aload_n 0, 1) := by decide +kernel
theorem dX5_laysSplits_25 : decode cX5_laysSplits 25 = .ok (.getfield 104, 3) := by decide +kernel
theorem dX5_laysSplits_28 : decode cX5_laysSplits 28 = .ok (.ifCond .lt 129, 3) := by decide +kernel
theorem dX5_laysSplits_31 : decode cX5_laysSplits 31 = .ok (.aload_n 0, 1) := by decide +kernel
theorem dX5_laysSplits_32 : decode cX5_laysSplits 32 = .ok (.getfield 43, 3) := by decide +kernel
theorem dX5_laysSplits_35 : decode cX5_laysSplits 35 = .ok (.aload_n 0, 1) := by decide +kernel
theorem dX5_laysSplits_36 : decode cX5_laysSplits 36 = .ok (.getfield 104, 3) := by decide +kernel
theorem dX5_laysSplits_39 : decode cX5_laysSplits 39 = .ok (.iaload, 1) := by decide +kernel
theorem dX5_laysSplits_40 : decode cX5_laysSplits 40 = .ok (.iconst 1, 1) := by decide +kernel
theorem dX5_laysSplits_41 : decode cX5_laysSplits 41 = .ok (.iadd, 1) := by decide +kernel
theorem dX5_laysSplits_42 : decode cX5_laysSplits 42 = .ok (.istore_n 1, 1) := by decide +kernel
theorem dX5_laysSplits_43 : decode cX5_laysSplits 43 = .ok (.iload_n 1, 1) := by decide +kernel
theorem dX5_laysSplits_44 : decode cX5_laysSplits 44 = .ok (.bipush 28, 2) := by decide +kernel
theorem dX5_laysSplits_46 : decode cX5_laysSplits 46 = .ok (.if_icmp .ge 17, 3) := by decide +kernel
theorem dX5_laysSplits_49 : decode cX5_laysSplits 49 = .ok (.aload_n 0, 1) := by decide +kernel
theorem dX5_laysSplits_50 : decode cX5_laysSplits 50 = .ok (.iload_n 1, 1) := by decide +kernel
theorem dX5_laysSplits_51 : decode cX5_laysSplits 51 = .ok (.invokevirtual 121, 3) := by decide +kernel
theorem dX5_laysSplits_54 : decode cX5_laysSplits 54 = .ok (.ifCond .ne 9, 3) := by decide +kernel
theorem dX5_laysSplits_57 : decode cX5_laysSplits 57 = .ok (.iinc 1 1, 3) := by decide +kernel
theorem dX5_laysSplits_60 : decode cX5_laysSplits 60 = .ok (.goto (-17), 3) := by decide +kernel
theorem dX5_laysSplits_63 : decode cX5_laysSplits 63 = .ok (.iload_n 1, 1) := by decide +kernel
theorem dX5_laysSplits_64 : decode cX5_laysSplits 64 = .ok (.bipush 28, 2) := by decide +kernel
theorem dX5_laysSplits_66 : decode cX5_laysSplits 66 = .ok (.if_icmp .ne 16, 3) := by decide +kernel
theorem dX5_laysSplits_69 : decode cX5_laysSplits 69 = .ok (.aload_n 0, 1) := by decide +kernel
theorem dX5_laysSplits_70 : decode cX5_laysSplits 70 = .ok (.dup, 1) := by decide +kernel
theorem dX5_laysSplits_71 : decode cX5_laysSplits 71 = .ok (.getfield 104, 3) := by decide +kernel
theorem dX5_laysSplits_74 : decode cX5_laysSplits 74 = .ok (.iconst 1, 1) := by decide +kernel
theorem dX5_laysSplits_75 : decode cX5_laysSplits 75 = .ok (.isub, 1) := by decide +kernel
theorem dX5_laysSplits_76 : decode cX5_laysSplits 76 = .ok (.putfield 104, 3) := by decide +kernel
theorem dX5_laysSplits_79 : decode cX5_laysSplits 79 = .ok (.goto 75, 3) := by decide +kernel
theorem dX5_laysSplits_82 : decode cX5_laysSplits 82 = .ok (.aload_n 0, 1) := by decide +kernel
theorem dX5_laysSplits_83 : decode cX5_laysSplits 83 = .ok (.dup, 1) := by decide +kernel
theorem dX5_laysSplits_84 : decode cX5_laysSplits 84 = .ok (.getfield 104, 3) := by decide +kernel
theorem dX5_laysSplits_87 : decode cX5_laysSplits 87 = .ok (.iconst 1, 1) := by decide +kernel
theorem dX5_laysSplits_88 : decode cX5_laysSplits 88 = .ok (.iadd, 1) := by decide +kernel
theorem dX5_laysSplits_89 : decode cX5_laysSplits 89 = .ok (.putfield 104, 3) := by decide +kernel
theorem dX5_laysSplits_92 : decode cX5_laysSplits 92 = .ok (.aload_n 0, 1) := by decide +kernel
theorem dX5_laysSplits_93 : decode cX5_laysSplits 93 = .ok (.getfield 46, 3) := by decide +kernel
theorem dX5_laysSplits_96 : decode cX5_laysSplits 96 = .ok (.aload_n 0, 1) := by decide +kernel
theorem dX5_laysSplits_97 : decode cX5_laysSplits 97 = .ok (.getfield 104, 3) := by decide +kernel
theorem dX5_laysSplits_100 : decode cX5_laysSplits 100 = .ok (.iaload, 1) := by decide +kernel
theorem dX5_laysSplits_101 : decode cX5_laysSplits 101 = .ok (.aload_n 0, 1) := by decide +kernel
theorem dX5_laysSplits_102 : decode cX5_laysSplits 102 = .ok (.getfield 101, 3) := by decide +kernel
theorem dX5_laysSplits_105 : decode cX5_laysSplits 105 = .ok (.if_icmp .ne 39, 3) := by decide +kernel
theorem dX5_laysSplits_108 : decode cX5_laysSplits 108 = .ok (.aload_n 0, 1) := by decide +kernel
theorem dX5_laysSplits_109 : decode cX5_laysSplits 109 = .ok (.getfield 52, 3) := by decide +kernel
theorem dX5_laysSplits_112 : decode cX5_laysSplits 112 = .ok (.aload_n 0, 1) := by decide +kernel
theorem dX5_laysSplits_113 : decode cX5_laysSplits 113 = .ok (.getfield 118, 3) := by decide +kernel
theorem dX5_laysSplits_116 : decode cX5_laysSplits 116 = .ok (.aload_n 0, 1) := by decide +kernel
theorem dX5_laysSplits_117 : decode cX5_laysSplits 117 = .ok (.invokevirtual 124, 3) := by decide +kernel
theorem dX5_laysSplits_120 : decode cX5_laysSplits 120 = .ok (.lastore, 1) := by decide +kernel
theorem dX5_laysSplits_121 : decode cX5_laysSplits 121 = .ok (.aload_n 0, 1) := by decide +kernel
theorem dX5_laysSplits_122 : decode cX5_laysSplits 122 = .ok (.dup, 1) := by decide +kernel
theorem dX5_laysSplits_123 : decode cX5_laysSplits 123 = .ok (.getfield 118, 3) := by decide +kernel
theorem dX5_laysSplits_126 : decode cX5_laysSplits 126 = .ok (.iconst 1, 1) := by decide +kernel
theorem dX5_laysSplits_127 : decode cX5_laysSplits 127 = .ok (.iadd, 1) := by decide +kernel
theorem dX5_laysSplits_128 : decode cX5_laysSplits 128 = .ok (.putfield 118, 3) := by decide +kernel
theorem dX5_laysSplits_131 : decode cX5_laysSplits 131 = .ok (.aload_n 0, 1) := by decide +kernel
theorem dX5_laysSplits_132 : decode cX5_laysSplits 132 = .ok (.dup, 1) := by decide +kernel
theorem dX5_laysSplits_133 : decode cX5_laysSplits 133 = .ok (.getfield 104, 3) := by decide +kernel
theorem dX5_laysSplits_136 : decode cX5_laysSplits 136 = .ok (.iconst 1, 1) := by decide +kernel
theorem dX5_laysSplits_137 : decode cX5_laysSplits 137 = .ok (.isub, 1) := by decide +kernel
theorem dX5_laysSplits_138 : decode cX5_laysSplits 138 = .ok (.putfield 104, 3) := by decide +kernel
theorem dX5_laysSplits_141 : decode cX5_laysSplits 141 = .ok (.goto 13, 3) := by decide +kernel
theorem dX5_laysSplits_144 : decode cX5_laysSplits 144 = .ok (.aload_n 0, 1) := by decide +kernel
theorem dX5_laysSplits_145 : decode cX5_laysSplits 145 = .ok (.getfield 43, 3) := by decide +kernel
theorem dX5_laysSplits_148 : decode cX5_laysSplits 148 = .ok (.aload_n 0, 1) := by decide +kernel
theorem dX5_laysSplits_149 : decode cX5_laysSplits 149 = .ok (.getfield 104, 3) := by decide +kernel
theorem dX5_laysSplits_152 : decode cX5_laysSplits 152 = .ok (.iconst (-1), 1) := by decide +kernel
theorem dX5_laysSplits_153 : decode cX5_laysSplits 153 = .ok (.iastore, 1) := by decide +kernel
theorem dX5_laysSplits_154 : decode cX5_laysSplits 154 = .ok (.goto (-130), 3) := by decide +kernel
theorem dX5_laysSplits_157 : decode cX5_laysSplits 157 = .ok (.return_, 1) := by decide +kernel
theorem dX5_asks_0 : decode cX5_asks 0 = .ok (.aload_n 0, 1) := by decide +kernel
theorem dX5_asks_1 : decode cX5_asks 1 = .ok (.aload_n 0, 1) := by decide +kernel
theorem dX5_asks_2 : decode cX5_asks 2 = .ok (.iload_n 1, 1) := by decide +kernel
theorem dX5_asks_3 : decode cX5_asks 3 = .ok (.invokevirtual 128, 3) := by decide +kernel
theorem dX5_asks_6 : decode cX5_asks 6 = .ok (.ifCond .eq 7, 3) := by decide +kernel
theorem dX5_asks_9 : decode cX5_asks 9 = .ok (.iconst 0, 1) := by decide +kernel
theorem dX5_asks_10 : decode cX5_asks 10 = .ok (.goto 4, 3) := by decide +kernel
theorem dX5_asks_13 : decode cX5_asks 13 = .ok (.iconst 1, 1) := by decide +kernel
theorem dX5_asks_14 : decode cX5_asks 14 = .ok (.putfield 56, 3) := by decide +kernel
theorem dX5_asks_17 : decode cX5_asks 17 = .ok (.aload_n 0, 1) := by decide +kernel
theorem dX5_asks_18 : decode cX5_asks 18 = .ok (.getfield 56, 3) := by decide +kernel
theorem dX5_asks_21 : decode cX5_asks 21 = .ok (.ifCond .ne 7, 3) := by decide +kernel
theorem dX5_asks_24 : decode cX5_asks 24 = .ok (.aload_n 0, 1) := by decide +kernel
theorem dX5_asks_25 : decode cX5_asks 25 = .ok (.invokevirtual 131, 3) := by decide +kernel
theorem dX5_asks_28 : decode cX5_asks 28 = .ok (.aload_n 0, 1) := by decide +kernel
theorem dX5_asks_29 : decode cX5_asks 29 = .ok (.getfield 56, 3) := by decide +kernel
theorem dX5_asks_32 : decode cX5_asks 32 = .ok (.ifCond .ne 7, 3) := by decide +kernel
theorem dX5_asks_35 : decode cX5_asks 35 = .ok (.iconst 1, 1) := by decide +kernel
theorem dX5_asks_36 : decode cX5_asks 36 = .ok (.goto 4, 3) := by decide +kernel
theorem dX5_asks_39 : decode cX5_asks 39 = .ok (.iconst 0, 1) := by decide +kernel
theorem dX5_asks_40 : decode cX5_asks 40 = .ok (.ireturn, 1) := by decide +kernel
theorem dX5_keyAt_0 : decode cX5_keyAt 0 = .ok (.ldc2_w 134, 3) := by decide +kernel
theorem dX5_keyAt_3 : decode cX5_keyAt 3 = .ok (.lstore_n 2, 1) := by decide +kernel
theorem dX5_keyAt_4 : decode cX5_keyAt 4 = .ok (.iconst 0, 1) := by decide +kernel
theorem dX5_keyAt_5 : decode cX5_keyAt 5 = .ok (.istore 4, 2) := by decide +kernel
theorem dX5_keyAt_7 : decode cX5_keyAt 7 = .ok (.iload 4, 2) := by decide +kernel
theorem dX5_keyAt_9 : decode cX5_keyAt 9 = .ok (.aload_n 0, 1) := by decide +kernel
theorem dX5_keyAt_10 : decode cX5_keyAt 10 = .ok (.getfield 118, 3) := by decide +kernel
theorem dX5_keyAt_13 : decode cX5_keyAt 13 = .ok (.if_icmp .ge 76, 3) := by decide +kernel
theorem dX5_keyAt_16 : decode cX5_keyAt 16 = .ok (.iconst 0, 1) := by decide +kernel
theorem dX5_keyAt_17 : decode cX5_keyAt 17 = .ok (.istore 5, 2) := by decide +kernel
theorem dX5_keyAt_19 : decode cX5_keyAt 19 = .ok (.iconst 0, 1) := by decide +kernel
theorem dX5_keyAt_20 : decode cX5_keyAt 20 = .ok (.istore 6, 2) := by decide +kernel
theorem dX5_keyAt_22 : decode cX5_keyAt 22 = .ok (.iload 6, 2) := by decide +kernel
theorem dX5_keyAt_24 : decode cX5_keyAt 24 = .ok (.aload_n 0, 1) := by decide +kernel
theorem dX5_keyAt_25 : decode cX5_keyAt 25 = .ok (.getfield 118, 3) := by decide +kernel
theorem dX5_keyAt_28 : decode cX5_keyAt 28 = .ok (.if_icmp .ge 37, 3) := by decide +kernel
theorem dX5_keyAt_31 : decode cX5_keyAt 31 = .ok (.iload 5, 2) := by decide +kernel
theorem dX5_keyAt_33 : decode cX5_keyAt 33 = .ok (.aload_n 0, 1) := by decide +kernel
theorem dX5_keyAt_34 : decode cX5_keyAt 34 = .ok (.getfield 52, 3) := by decide +kernel
theorem dX5_keyAt_37 : decode cX5_keyAt 37 = .ok (.iload 6, 2) := by decide +kernel
theorem dX5_keyAt_39 : decode cX5_keyAt 39 = .ok (.laload, 1) := by decide +kernel
theorem dX5_keyAt_40 : decode cX5_keyAt 40 = .ok (.aload_n 0, 1) := by decide +kernel
theorem dX5_keyAt_41 : decode cX5_keyAt 41 = .ok (.getfield 52, 3) := by decide +kernel
theorem dX5_keyAt_44 : decode cX5_keyAt 44 = .ok (.iload 4, 2) := by decide +kernel
theorem dX5_keyAt_46 : decode cX5_keyAt 46 = .ok (.laload, 1) := by decide +kernel
theorem dX5_keyAt_47 : decode cX5_keyAt 47 = .ok (.lcmp, 1) := by decide +kernel
theorem dX5_keyAt_48 : decode cX5_keyAt 48 = .ok (.ifCond .ge 7, 3) := by decide +kernel
theorem dX5_keyAt_51 : decode cX5_keyAt 51 = .ok (.iconst 1, 1) := by decide +kernel
theorem dX5_keyAt_52 : decode cX5_keyAt 52 = .ok (.goto 4, 3) := by decide +kernel
theorem dX5_keyAt_55 : decode cX5_keyAt 55 = .ok (.iconst 0, 1) := by decide +kernel
theorem dX5_keyAt_56 : decode cX5_keyAt 56 = .ok (.iadd, 1) := by decide +kernel
theorem dX5_keyAt_57 : decode cX5_keyAt 57 = .ok (.istore 5, 2) := by decide +kernel
theorem dX5_keyAt_59 : decode cX5_keyAt 59 = .ok (.iinc 6 1, 3) := by decide +kernel
theorem dX5_keyAt_62 : decode cX5_keyAt 62 = .ok (.goto (-40), 3) := by decide +kernel
theorem dX5_keyAt_65 : decode cX5_keyAt 65 = .ok (.iload 5, 2) := by decide +kernel
theorem dX5_keyAt_67 : decode cX5_keyAt 67 = .ok (.iload_n 1, 1) := by decide +kernel
theorem dX5_keyAt_68 : decode cX5_keyAt 68 = .ok (.if_icmp .ne 13, 3) := by decide +kernel
theorem dX5_keyAt_71 : decode cX5_keyAt 71 = .ok (.aload_n 0, 1) := by decide +kernel
theorem dX5_keyAt_72 : decode cX5_keyAt 72 = .ok (.getfield 52, 3) := by decide +kernel
theorem dX5_keyAt_75 : decode cX5_keyAt 75 = .ok (.iload 4, 2) := by decide +kernel
theorem dX5_keyAt_77 : decode cX5_keyAt 77 = .ok (.laload, 1) := by decide +kernel
theorem dX5_keyAt_78 : decode cX5_keyAt 78 = .ok (.goto 4, 3) := by decide +kernel
theorem dX5_keyAt_81 : decode cX5_keyAt 81 = .ok (.lload_n 2, 1) := by decide +kernel
theorem dX5_keyAt_82 : decode cX5_keyAt 82 = .ok (.lstore_n 2, 1) := by decide +kernel
theorem dX5_keyAt_83 : decode cX5_keyAt 83 = .ok (.iinc 4 1, 3) := by decide +kernel
theorem dX5_keyAt_86 : decode cX5_keyAt 86 = .ok (.goto (-79), 3) := by decide +kernel
theorem dX5_keyAt_89 : decode cX5_keyAt 89 = .ok (.lload_n 2, 1) := by decide +kernel
theorem dX5_keyAt_90 : decode cX5_keyAt 90 = .ok (.lreturn, 1) := by decide +kernel
theorem dX5_costOfKey_0 : decode cX5_costOfKey 0 = .ok (.lload_n 0, 1) := by decide +kernel
theorem dX5_costOfKey_1 : decode cX5_costOfKey 1 = .ok (.ldc2_w 116, 3) := by decide +kernel
theorem dX5_costOfKey_4 : decode cX5_costOfKey 4 = .ok (.ldiv, 1) := by decide +kernel
theorem dX5_costOfKey_5 : decode cX5_costOfKey 5 = .ok (.ldc2_w 114, 3) := by decide +kernel
theorem dX5_costOfKey_8 : decode cX5_costOfKey 8 = .ok (.ldiv, 1) := by decide +kernel
theorem dX5_costOfKey_9 : decode cX5_costOfKey 9 = .ok (.l2i, 1) := by decide +kernel
theorem dX5_costOfKey_10 : decode cX5_costOfKey 10 = .ok (.ireturn, 1) := by decide +kernel
theorem dX5_sizeOfKey_0 : decode cX5_sizeOfKey 0 = .ok (.lload_n 0, 1) := by decide +kernel
theorem dX5_sizeOfKey_1 : decode cX5_sizeOfKey 1 = .ok (.ldc2_w 116, 3) := by decide +kernel
theorem dX5_sizeOfKey_4 : decode cX5_sizeOfKey 4 = .ok (.ldiv, 1) := by decide +kernel
theorem dX5_sizeOfKey_5 : decode cX5_sizeOfKey 5 = .ok (.ldc2_w 114, 3) := by decide +kernel
theorem dX5_sizeOfKey_8 : decode cX5_sizeOfKey 8 = .ok (.lrem, 1) := by decide +kernel
theorem dX5_sizeOfKey_9 : decode cX5_sizeOfKey 9 = .ok (.l2i, 1) := by decide +kernel
theorem dX5_sizeOfKey_10 : decode cX5_sizeOfKey 10 = .ok (.ireturn, 1) := by decide +kernel
theorem dX5_unfolds_0 : decode cX5_unfolds 0 = .ok (.aload_n 0, 1) := by decide +kernel
theorem dX5_unfolds_1 : decode cX5_unfolds 1 = .ok (.lload_n 1, 1) := by decide +kernel
theorem dX5_unfolds_2 : decode cX5_unfolds 2 = .ok (.invokestatic 136, 3) := by decide +kernel
theorem dX5_unfolds_5 : decode cX5_unfolds 5 = .ok (.putfield 104, 3) := by decide +kernel
theorem dX5_unfolds_8 : decode cX5_unfolds 8 = .ok (.lload_n 1, 1) := by decide +kernel
theorem dX5_unfolds_9 : decode cX5_unfolds 9 = .ok (.ldc2_w 116, 3) := by decide +kernel
theorem dX5_unfolds_12 : decode cX5_unfolds 12 = .ok (.lrem, 1) := by decide +kernel
theorem dX5_unfolds_13 : decode cX5_unfolds 13 = .ok (.lstore_n 3, 1) := by decide +kernel
theorem dX5_unfolds_14 : decode cX5_unfolds 14 = .ok (.bipush 7, 2) := by decide +kernel
theorem dX5_unfolds_16 : decode cX5_unfolds 16 = .ok (.istore 5, 2) := by decide +kernel
theorem dX5_unfolds_18 : decode cX5_unfolds 18 = .ok (.iload 5, 2) := by decide +kernel
theorem dX5_unfolds_20 : decode cX5_unfolds 20 = .ok (.ifCond .lt 28, 3) := by decide +kernel
theorem dX5_unfolds_23 : decode cX5_unfolds 23 = .ok (.aload_n 0, 1) := by decide +kernel
theorem dX5_unfolds_24 : decode cX5_unfolds 24 = .ok (.getfield 43, 3) := by decide +kernel
theorem dX5_unfolds_27 : decode cX5_unfolds 27 = .ok (.iload 5, 2) := by decide +kernel
theorem dX5_unfolds_29 : decode cX5_unfolds 29 = .ok (.lload_n 3, 1) := by decide +kernel
theorem dX5_unfolds_30 : decode cX5_unfolds 30 = .ok (.ldc2_w 112, 3) := by decide +kernel
theorem dX5_unfolds_33 : decode cX5_unfolds 33 = .ok (.lrem, 1) := by decide +kernel
theorem dX5_unfolds_34 : decode cX5_unfolds 34 = .ok (.l2i, 1) := by decide +kernel
theorem dX5_unfolds_35 : decode cX5_unfolds 35 = .ok (.iastore, 1) := by decide +kernel
theorem dX5_unfolds_36 : decode cX5_unfolds 36 = .ok (.lload_n 3, 1) := by decide +kernel
theorem dX5_unfolds_37 : decode cX5_unfolds 37 = .ok (.ldc2_w 112, 3) := by decide +kernel
theorem dX5_unfolds_40 : decode cX5_unfolds 40 = .ok (.ldiv, 1) := by decide +kernel
theorem dX5_unfolds_41 : decode cX5_unfolds 41 = .ok (.lstore_n 3, 1) := by decide +kernel
theorem dX5_unfolds_42 : decode cX5_unfolds 42 = .ok (.iinc 5 (-1), 3) := by decide +kernel
theorem dX5_unfolds_45 : decode cX5_unfolds 45 = .ok (.goto (-27), 3) := by decide +kernel
theorem dX5_unfolds_48 : decode cX5_unfolds 48 = .ok (.aload_n 0, 1) := by decide +kernel
theorem dX5_unfolds_49 : decode cX5_unfolds 49 = .ok (.getfield 104, 3) := by decide +kernel
theorem dX5_unfolds_52 : decode cX5_unfolds 52 = .ok (.istore 5, 2) := by decide +kernel
theorem dX5_unfolds_54 : decode cX5_unfolds 54 = .ok (.aload_n 0, 1) := by decide +kernel
theorem dX5_unfolds_55 : decode cX5_unfolds 55 = .ok (.getfield 46, 3) := by decide +kernel
theorem dX5_unfolds_58 : decode cX5_unfolds 58 = .ok (.iconst 0, 1) := by decide +kernel
theorem dX5_unfolds_59 : decode cX5_unfolds 59 = .ok (.iconst 0, 1) := by decide +kernel
theorem dX5_unfolds_60 : decode cX5_unfolds 60 = .ok (.iastore, 1) := by decide +kernel
theorem dX5_unfolds_61 : decode cX5_unfolds 61 = .ok (.aload_n 0, 1) := by decide +kernel
theorem dX5_unfolds_62 : decode cX5_unfolds 62 = .ok (.iconst 0, 1) := by decide +kernel
theorem dX5_unfolds_63 : decode cX5_unfolds 63 = .ok (.putfield 104, 3) := by decide +kernel
theorem dX5_unfolds_66 : decode cX5_unfolds 66 = .ok (.aload_n 0, 1) := by decide +kernel
theorem dX5_unfolds_67 : decode cX5_unfolds 67 = .ok (.getfield 104, 3) := by decide +kernel
theorem dX5_unfolds_70 : decode cX5_unfolds 70 = .ok (.iload 5, 2) := by decide +kernel
theorem dX5_unfolds_72 : decode cX5_unfolds 72 = .ok (.if_icmp .ge 30, 3) := by decide +kernel
theorem dX5_unfolds_75 : decode cX5_unfolds 75 = .ok (.aload_n 0, 1) := by decide +kernel
theorem dX5_unfolds_76 : decode cX5_unfolds 76 = .ok (.aload_n 0, 1) := by decide +kernel
theorem dX5_unfolds_77 : decode cX5_unfolds 77 = .ok (.getfield 43, 3) := by decide +kernel
theorem dX5_unfolds_80 : decode cX5_unfolds 80 = .ok (.aload_n 0, 1) := by decide +kernel
theorem dX5_unfolds_81 : decode cX5_unfolds 81 = .ok (.getfield 104, 3) := by decide +kernel
theorem dX5_unfolds_84 : decode cX5_unfolds 84 = .ok (.iaload, 1) := by decide +kernel
theorem dX5_unfolds_85 : decode cX5_unfolds 85 = .ok (.invokevirtual 121, 3) := by decide +kernel
theorem dX5_unfolds_88 : decode cX5_unfolds 88 = .ok (.pop, 1) := by decide +kernel
theorem dX5_unfolds_89 : decode cX5_unfolds 89 = .ok (.aload_n 0, 1) := by decide +kernel
theorem dX5_unfolds_90 : decode cX5_unfolds 90 = .ok (.dup, 1) := by decide +kernel
theorem dX5_unfolds_91 : decode cX5_unfolds 91 = .ok (.getfield 104, 3) := by decide +kernel
theorem dX5_unfolds_94 : decode cX5_unfolds 94 = .ok (.iconst 1, 1) := by decide +kernel
theorem dX5_unfolds_95 : decode cX5_unfolds 95 = .ok (.iadd, 1) := by decide +kernel
theorem dX5_unfolds_96 : decode cX5_unfolds 96 = .ok (.putfield 104, 3) := by decide +kernel
theorem dX5_unfolds_99 : decode cX5_unfolds 99 = .ok (.goto (-33), 3) := by decide +kernel
theorem dX5_unfolds_102 : decode cX5_unfolds 102 = .ok (.return_, 1) := by decide +kernel
theorem dX5_splits_0 : decode cX5_splits 0 = .ok (.aload_n 0, 1) := by decide +kernel
theorem dX5_splits_1 : decode cX5_splits 1 = .ok (.iload_n 1, 1) := by decide +kernel
theorem dX5_splits_2 : decode cX5_splits 2 = .ok (.invokevirtual 140, 3) := by decide +kernel
theorem dX5_splits_5 : decode cX5_splits 5 = .ok (.ifCond .eq 10, 3) := by decide +kernel
theorem dX5_splits_8 : decode cX5_splits 8 = .ok (.aload_n 0, 1) := by decide +kernel
theorem dX5_splits_9 : decode cX5_splits 9 = .ok (.getfield 118, 3) := by decide +kernel
theorem dX5_splits_12 : decode cX5_splits 12 = .ok (.goto 4, 3) := by decide +kernel
theorem dX5_splits_15 : decode cX5_splits 15 = .ok (.iconst 0, 1) := by decide +kernel
theorem dX5_splits_16 : decode cX5_splits 16 = .ok (.ireturn, 1) := by decide +kernel
theorem dX5_asksSplit_0 : decode cX5_asksSplit 0 = .ok (.aload_n 0, 1) := by decide +kernel
theorem dX5_asksSplit_1 : decode cX5_asksSplit 1 = .ok (.aload_n 0, 1) := by decide +kernel
theorem dX5_asksSplit_2 : decode cX5_asksSplit 2 = .ok (.iload_n 1, 1) := by decide +kernel
theorem dX5_asksSplit_3 : decode cX5_asksSplit 3 = .ok (.invokevirtual 128, 3) := by decide +kernel
theorem dX5_asksSplit_6 : decode cX5_asksSplit 6 = .ok (.ifCond .eq 11, 3) := by decide +kernel
theorem dX5_asksSplit_9 : decode cX5_asksSplit 9 = .ok (.iload_n 2, 1) := by decide +kernel
theorem dX5_asksSplit_10 : decode cX5_asksSplit 10 = .ok (.ifCond .lt 7, 3) := by decide +kernel
theorem dX5_asksSplit_13 : decode cX5_asksSplit 13 = .ok (.iconst 0, 1) := by decide +kernel
theorem dX5_asksSplit_14 : decode cX5_asksSplit 14 = .ok (.goto 4, 3) := by decide +kernel
theorem dX5_asksSplit_17 : decode cX5_asksSplit 17 = .ok (.iconst 1, 1) := by decide +kernel
theorem dX5_asksSplit_18 : decode cX5_asksSplit 18 = .ok (.putfield 56, 3) := by decide +kernel
theorem dX5_asksSplit_21 : decode cX5_asksSplit 21 = .ok (.aload_n 0, 1) := by decide +kernel
theorem dX5_asksSplit_22 : decode cX5_asksSplit 22 = .ok (.getfield 56, 3) := by decide +kernel
theorem dX5_asksSplit_25 : decode cX5_asksSplit 25 = .ok (.ifCond .le 7, 3) := by decide +kernel
theorem dX5_asksSplit_28 : decode cX5_asksSplit 28 = .ok (.ldc2_w 134, 3) := by decide +kernel
theorem dX5_asksSplit_31 : decode cX5_asksSplit 31 = .ok (.lreturn, 1) := by decide +kernel
theorem dX5_asksSplit_32 : decode cX5_asksSplit 32 = .ok (.aload_n 0, 1) := by decide +kernel
theorem dX5_asksSplit_33 : decode cX5_asksSplit 33 = .ok (.invokevirtual 131, 3) := by decide +kernel
theorem dX5_asksSplit_36 : decode cX5_asksSplit 36 = .ok (.aload_n 0, 1) := by decide +kernel
theorem dX5_asksSplit_37 : decode cX5_asksSplit 37 = .ok (.iload_n 2, 1) := by decide +kernel
theorem dX5_asksSplit_38 : decode cX5_asksSplit 38 = .ok (.invokevirtual 143, 3) := by decide +kernel
theorem dX5_asksSplit_41 : decode cX5_asksSplit 41 = .ok (.lreturn, 1) := by decide +kernel
theorem dX5_cost_0 : decode cX5_cost 0 = .ok (.aload_n 0, 1) := by decide +kernel
theorem dX5_cost_1 : decode cX5_cost 1 = .ok (.iload_n 1, 1) := by decide +kernel
theorem dX5_cost_2 : decode cX5_cost 2 = .ok (.iload_n 2, 1) := by decide +kernel
theorem dX5_cost_3 : decode cX5_cost 3 = .ok (.invokevirtual 147, 3) := by decide +kernel
theorem dX5_cost_6 : decode cX5_cost 6 = .ok (.lstore_n 3, 1) := by decide +kernel
theorem dX5_cost_7 : decode cX5_cost 7 = .ok (.lload_n 3, 1) := by decide +kernel
theorem dX5_cost_8 : decode cX5_cost 8 = .ok (.ldc2_w 134, 3) := by decide +kernel
theorem dX5_cost_11 : decode cX5_cost 11 = .ok (.lcmp, 1) := by decide +kernel
theorem dX5_cost_12 : decode cX5_cost 12 = .ok (.ifCond .ne 7, 3) := by decide +kernel
theorem dX5_cost_15 : decode cX5_cost 15 = .ok (.iconst (-1), 1) := by decide +kernel
theorem dX5_cost_16 : decode cX5_cost 16 = .ok (.goto 7, 3) := by decide +kernel
theorem dX5_cost_19 : decode cX5_cost 19 = .ok (.lload_n 3, 1) := by decide +kernel
theorem dX5_cost_20 : decode cX5_cost 20 = .ok (.invokestatic 151, 3) := by decide +kernel
theorem dX5_cost_23 : decode cX5_cost 23 = .ok (.ireturn, 1) := by decide +kernel
theorem dX5_size_0 : decode cX5_size 0 = .ok (.aload_n 0, 1) := by decide +kernel
theorem dX5_size_1 : decode cX5_size 1 = .ok (.iload_n 1, 1) := by decide +kernel
theorem dX5_size_2 : decode cX5_size 2 = .ok (.iload_n 2, 1) := by decide +kernel
theorem dX5_size_3 : decode cX5_size 3 = .ok (.invokevirtual 147, 3) := by decide +kernel
theorem dX5_size_6 : decode cX5_size 6 = .ok (.lstore_n 3, 1) := by decide +kernel
theorem dX5_size_7 : decode cX5_size 7 = .ok (.lload_n 3, 1) := by decide +kernel
theorem dX5_size_8 : decode cX5_size 8 = .ok (.ldc2_w 134, 3) := by decide +kernel
theorem dX5_size_11 : decode cX5_size 11 = .ok (.lcmp, 1) := by decide +kernel
theorem dX5_size_12 : decode cX5_size 12 = .ok (.ifCond .ne 7, 3) := by decide +kernel
theorem dX5_size_15 : decode cX5_size 15 = .ok (.iconst (-1), 1) := by decide +kernel
theorem dX5_size_16 : decode cX5_size 16 = .ok (.goto 7, 3) := by decide +kernel
theorem dX5_size_19 : decode cX5_size 19 = .ok (.lload_n 3, 1) := by decide +kernel
theorem dX5_size_20 : decode cX5_size 20 = .ok (.invokestatic 136, 3) := by decide +kernel
theorem dX5_size_23 : decode cX5_size 23 = .ok (.ireturn, 1) := by decide +kernel
theorem dX5_partAt_0 : decode cX5_partAt 0 = .ok (.iload_n 3, 1) := by decide +kernel
theorem dX5_partAt_1 : decode cX5_partAt 1 = .ok (.ifCond .ge 9, 3) := by decide +kernel
theorem dX5_partAt_4 : decode cX5_partAt 4 = .ok (.ldc2_w 134, 3) := by decide +kernel
theorem dX5_partAt_7 : decode cX5_partAt 7 = .ok (.goto 9, 3) := by decide +kernel
theorem dX5_partAt_10 : decode cX5_partAt 10 = .ok (.aload_n 0, 1) := by decide +kernel
theorem dX5_partAt_11 : decode cX5_partAt 11 = .ok (.iload_n 1, 1) := by decide +kernel
theorem dX5_partAt_12 : decode cX5_partAt 12 = .ok (.iload_n 2, 1) := by decide +kernel
theorem dX5_partAt_13 : decode cX5_partAt 13 = .ok (.invokevirtual 147, 3) := by decide +kernel
theorem dX5_partAt_16 : decode cX5_partAt 16 = .ok (.lstore 4, 2) := by decide +kernel
theorem dX5_partAt_18 : decode cX5_partAt 18 = .ok (.iload_n 3, 1) := by decide +kernel
theorem dX5_partAt_19 : decode cX5_partAt 19 = .ok (.ifCond .ge 8, 3) := by decide +kernel
theorem dX5_partAt_22 : decode cX5_partAt 22 = .ok (.aload_n 0, 1) := by decide +kernel
theorem dX5_partAt_23 : decode cX5_partAt 23 = .ok (.iconst 1, 1) := by decide +kernel
theorem dX5_partAt_24 : decode cX5_partAt 24 = .ok (.putfield 56, 3) := by decide +kernel
theorem dX5_partAt_27 : decode cX5_partAt 27 = .ok (.lload 4, 2) := by decide +kernel
theorem dX5_partAt_29 : decode cX5_partAt 29 = .ok (.ldc2_w 134, 3) := by decide +kernel
theorem dX5_partAt_32 : decode cX5_partAt 32 = .ok (.lcmp, 1) := by decide +kernel
theorem dX5_partAt_33 : decode cX5_partAt 33 = .ok (.ifCond .eq 12, 3) := by decide +kernel
theorem dX5_partAt_36 : decode cX5_partAt 36 = .ok (.iload_n 3, 1) := by decide +kernel
theorem dX5_partAt_37 : decode cX5_partAt 37 = .ok (.lload 4, 2) := by decide +kernel
theorem dX5_partAt_39 : decode cX5_partAt 39 = .ok (.invokestatic 136, 3) := by decide +kernel
theorem dX5_partAt_42 : decode cX5_partAt 42 = .ok (.if_icmp .lt 5, 3) := by decide +kernel
theorem dX5_partAt_45 : decode cX5_partAt 45 = .ok (.iconst (-1), 1) := by decide +kernel
theorem dX5_partAt_46 : decode cX5_partAt 46 = .ok (.ireturn, 1) := by decide +kernel
theorem dX5_partAt_47 : decode cX5_partAt 47 = .ok (.aload_n 0, 1) := by decide +kernel
theorem dX5_partAt_48 : decode cX5_partAt 48 = .ok (.lload 4, 2) := by decide +kernel
theorem dX5_partAt_50 : decode cX5_partAt 50 = .ok (.invokevirtual 154, 3) := by decide +kernel
theorem dX5_partAt_53 : decode cX5_partAt 53 = .ok (.bipush 10, 2) := by decide +kernel
theorem dX5_partAt_55 : decode cX5_partAt 55 = .ok (.aload_n 0, 1) := by decide +kernel
theorem dX5_partAt_56 : decode cX5_partAt 56 = .ok (.getfield 49, 3) := by decide +kernel
theorem dX5_partAt_59 : decode cX5_partAt 59 = .ok (.iload_n 3, 1) := by decide +kernel
theorem dX5_partAt_60 : decode cX5_partAt 60 = .ok (.iaload, 1) := by decide +kernel
theorem dX5_partAt_61 : decode cX5_partAt 61 = .ok (.imul, 1) := by decide +kernel
theorem dX5_partAt_62 : decode cX5_partAt 62 = .ok (.aload_n 0, 1) := by decide +kernel
theorem dX5_partAt_63 : decode cX5_partAt 63 = .ok (.getfield 43, 3) := by decide +kernel
theorem dX5_partAt_66 : decode cX5_partAt 66 = .ok (.iload_n 3, 1) := by decide +kernel
theorem dX5_partAt_67 : decode cX5_partAt 67 = .ok (.iaload, 1) := by decide +kernel
theorem dX5_partAt_68 : decode cX5_partAt 68 = .ok (.bipush 7, 2) := by decide +kernel
theorem dX5_partAt_70 : decode cX5_partAt 70 = .ok (.irem, 1) := by decide +kernel
theorem dX5_partAt_71 : decode cX5_partAt 71 = .ok (.iadd, 1) := by decide +kernel
theorem dX5_partAt_72 : decode cX5_partAt 72 = .ok (.ireturn, 1) := by decide +kernel
theorem dX5_head_0 : decode cX5_head 0 = .ok (.aload_n 0, 1) := by decide +kernel
theorem dX5_head_1 : decode cX5_head 1 = .ok (.iload_n 1, 1) := by decide +kernel
theorem dX5_head_2 : decode cX5_head 2 = .ok (.invokevirtual 140, 3) := by decide +kernel
theorem dX5_head_5 : decode cX5_head 5 = .ok (.ifCond .eq 10, 3) := by decide +kernel
theorem dX5_head_8 : decode cX5_head 8 = .ok (.aload_n 0, 1) := by decide +kernel
theorem dX5_head_9 : decode cX5_head 9 = .ok (.getfield 118, 3) := by decide +kernel
theorem dX5_head_12 : decode cX5_head 12 = .ok (.ifCond .ne 5, 3) := by decide +kernel
theorem dX5_head_15 : decode cX5_head 15 = .ok (.iconst (-1), 1) := by decide +kernel
theorem dX5_head_16 : decode cX5_head 16 = .ok (.ireturn, 1) := by decide +kernel
theorem dX5_head_17 : decode cX5_head 17 = .ok (.aload_n 0, 1) := by decide +kernel
theorem dX5_head_18 : decode cX5_head 18 = .ok (.aload_n 0, 1) := by decide +kernel
theorem dX5_head_19 : decode cX5_head 19 = .ok (.iconst 0, 1) := by decide +kernel
theorem dX5_head_20 : decode cX5_head 20 = .ok (.invokevirtual 143, 3) := by decide +kernel
theorem dX5_head_23 : decode cX5_head 23 = .ok (.invokevirtual 154, 3) := by decide +kernel
theorem dX5_head_26 : decode cX5_head 26 = .ok (.aload_n 0, 1) := by decide +kernel
theorem dX5_head_27 : decode cX5_head 27 = .ok (.getfield 49, 3) := by decide +kernel
theorem dX5_head_30 : decode cX5_head 30 = .ok (.aload_n 0, 1) := by decide +kernel
theorem dX5_head_31 : decode cX5_head 31 = .ok (.getfield 104, 3) := by decide +kernel
theorem dX5_head_34 : decode cX5_head 34 = .ok (.iconst 1, 1) := by decide +kernel
theorem dX5_head_35 : decode cX5_head 35 = .ok (.isub, 1) := by decide +kernel
theorem dX5_head_36 : decode cX5_head 36 = .ok (.iaload, 1) := by decide +kernel
theorem dX5_head_37 : decode cX5_head 37 = .ok (.ireturn, 1) := by decide +kernel
theorem dX5_trees_0 : decode cX5_trees 0 = .ok (.lconst 1, 1) := by decide +kernel
theorem dX5_trees_1 : decode cX5_trees 1 = .ok (.lstore_n 1, 1) := by decide +kernel
theorem dX5_trees_2 : decode cX5_trees 2 = .ok (.iconst 1, 1) := by decide +kernel
theorem dX5_trees_3 : decode cX5_trees 3 = .ok (.istore_n 3, 1) := by decide +kernel
theorem dX5_trees_4 : decode cX5_trees 4 = .ok (.iload_n 3, 1) := by decide +kernel
theorem dX5_trees_5 : decode cX5_trees 5 = .ok (.iload_n 0, 1) := by decide +kernel
theorem dX5_trees_6 : decode cX5_trees 6 = .ok (.if_icmp .ge 29, 3) := by decide +kernel
theorem dX5_trees_9 : decode cX5_trees 9 = .ok (.lload_n 1, 1) := by decide +kernel
theorem dX5_trees_10 : decode cX5_trees 10 = .ok (.ldc2_w 158, 3) := by decide +kernel
theorem dX5_trees_13 : decode cX5_trees 13 = .ok (.lmul, 1) := by decide +kernel
theorem dX5_trees_14 : decode cX5_trees 14 = .ok (.ldc2_w 158, 3) := by decide +kernel
theorem dX5_trees_17 : decode cX5_trees 17 = .ok (.iload_n 3, 1) := by decide +kernel
theorem dX5_trees_18 : decode cX5_trees 18 = .ok (.i2l, 1) := by decide +kernel
theorem dX5_trees_19 : decode cX5_trees 19 = .ok (.lmul, 1) := by decide +kernel
theorem dX5_trees_20 : decode cX5_trees 20 = .ok (.lconst 1, 1) := by decide +kernel
theorem dX5_trees_21 : decode cX5_trees 21 = .ok (.lsub, 1) := by decide +kernel
theorem dX5_trees_22 : decode cX5_trees 22 = .ok (.lmul, 1) := by decide +kernel
theorem dX5_trees_23 : decode cX5_trees 23 = .ok (.iload_n 3, 1) := by decide +kernel
theorem dX5_trees_24 : decode cX5_trees 24 = .ok (.i2l, 1) := by decide +kernel
theorem dX5_trees_25 : decode cX5_trees 25 = .ok (.lconst 1, 1) := by decide +kernel
theorem dX5_trees_26 : decode cX5_trees 26 = .ok (.ladd, 1) := by decide +kernel
theorem dX5_trees_27 : decode cX5_trees 27 = .ok (.ldiv, 1) := by decide +kernel
theorem dX5_trees_28 : decode cX5_trees 28 = .ok (.lstore_n 1, 1) := by decide +kernel
theorem dX5_trees_29 : decode cX5_trees 29 = .ok (.iinc 3 1, 3) := by decide +kernel
theorem dX5_trees_32 : decode cX5_trees 32 = .ok (.goto (-28), 3) := by decide +kernel
theorem dX5_trees_35 : decode cX5_trees 35 = .ok (.lload_n 1, 1) := by decide +kernel
theorem dX5_trees_36 : decode cX5_trees 36 = .ok (.l2i, 1) := by decide +kernel
theorem dX5_trees_37 : decode cX5_trees 37 = .ok (.ireturn, 1) := by decide +kernel
theorem dX5_readings_0 : decode cX5_readings 0 = .ok (.aload_n 0, 1) := by decide +kernel
theorem dX5_readings_1 : decode cX5_readings 1 = .ok (.iload_n 1, 1) := by decide +kernel
theorem dX5_readings_2 : decode cX5_readings 2 = .ok (.invokevirtual 140, 3) := by decide +kernel
theorem dX5_readings_5 : decode cX5_readings 5 = .ok (.ifCond .ne 5, 3) := by decide +kernel
theorem dX5_readings_8 : decode cX5_readings 8 = .ok (.iconst 0, 1) := by decide +kernel
theorem dX5_readings_9 : decode cX5_readings 9 = .ok (.ireturn, 1) := by decide +kernel
theorem dX5_readings_10 : decode cX5_readings 10 = .ok (.iconst 0, 1) := by decide +kernel
theorem dX5_readings_11 : decode cX5_readings 11 = .ok (.istore_n 2, 1) := by decide +kernel
theorem dX5_readings_12 : decode cX5_readings 12 = .ok (.iconst 0, 1) := by decide +kernel
theorem dX5_readings_13 : decode cX5_readings 13 = .ok (.istore_n 3, 1) := by decide +kernel
theorem dX5_readings_14 : decode cX5_readings 14 = .ok (.iload_n 3, 1) := by decide +kernel
theorem dX5_readings_15 : decode cX5_readings 15 = .ok (.aload_n 0, 1) := by decide +kernel
theorem dX5_readings_16 : decode cX5_readings 16 = .ok (.getfield 118, 3) := by decide +kernel
theorem dX5_readings_19 : decode cX5_readings 19 = .ok (.if_icmp .ge 24, 3) := by decide +kernel
theorem dX5_readings_22 : decode cX5_readings 22 = .ok (.iload_n 2, 1) := by decide +kernel
theorem dX5_readings_23 : decode cX5_readings 23 = .ok (.aload_n 0, 1) := by decide +kernel
theorem dX5_readings_24 : decode cX5_readings 24 = .ok (.getfield 52, 3) := by decide +kernel
theorem dX5_readings_27 : decode cX5_readings 27 = .ok (.iload_n 3, 1) := by decide +kernel
theorem dX5_readings_28 : decode cX5_readings 28 = .ok (.laload, 1) := by decide +kernel
theorem dX5_readings_29 : decode cX5_readings 29 = .ok (.invokestatic 136, 3) := by decide +kernel
theorem dX5_readings_32 : decode cX5_readings 32 = .ok (.invokestatic 160, 3) := by decide +kernel
theorem dX5_readings_35 : decode cX5_readings 35 = .ok (.iadd, 1) := by decide +kernel
theorem dX5_readings_36 : decode cX5_readings 36 = .ok (.istore_n 2, 1) := by decide +kernel
theorem dX5_readings_37 : decode cX5_readings 37 = .ok (.iinc 3 1, 3) := by decide +kernel
theorem dX5_readings_40 : decode cX5_readings 40 = .ok (.goto (-26), 3) := by decide +kernel
theorem dX5_readings_43 : decode cX5_readings 43 = .ok (.iload_n 2, 1) := by decide +kernel
theorem dX5_readings_44 : decode cX5_readings 44 = .ok (.ireturn, 1) := by decide +kernel
theorem dX5_learns_0 : decode cX5_learns 0 = .ok (.aload_n 0, 1) := by decide +kernel
theorem dX5_learns_1 : decode cX5_learns 1 = .ok (.aload_n 0, 1) := by decide +kernel
theorem dX5_learns_2 : decode cX5_learns 2 = .ok (.iconst 0, 1) := by decide +kernel
theorem dX5_learns_3 : decode cX5_learns 3 = .ok (.invokevirtual 143, 3) := by decide +kernel
theorem dX5_learns_6 : decode cX5_learns 6 = .ok (.invokevirtual 154, 3) := by decide +kernel
theorem dX5_learns_9 : decode cX5_learns 9 = .ok (.iconst 0, 1) := by decide +kernel
theorem dX5_learns_10 : decode cX5_learns 10 = .ok (.istore_n 2, 1) := by decide +kernel
theorem dX5_learns_11 : decode cX5_learns 11 = .ok (.iload_n 2, 1) := by decide +kernel
theorem dX5_learns_12 : decode cX5_learns 12 = .ok (.bipush 16, 2) := by decide +kernel
theorem dX5_learns_14 : decode cX5_learns 14 = .ok (.if_icmp .ge 24, 3) := by decide +kernel
theorem dX5_learns_17 : decode cX5_learns 17 = .ok (.aload_n 0, 1) := by decide +kernel
theorem dX5_learns_18 : decode cX5_learns 18 = .ok (.getfield 37, 3) := by decide +kernel
theorem dX5_learns_21 : decode cX5_learns 21 = .ok (.bipush 16, 2) := by decide +kernel
theorem dX5_learns_23 : decode cX5_learns 23 = .ok (.aload_n 0, 1) := by decide +kernel
theorem dX5_learns_24 : decode cX5_learns 24 = .ok (.getfield 163, 3) := by decide +kernel
theorem dX5_learns_27 : decode cX5_learns 27 = .ok (.imul, 1) := by decide +kernel
theorem dX5_learns_28 : decode cX5_learns 28 = .ok (.iload_n 2, 1) := by decide +kernel
theorem dX5_learns_29 : decode cX5_learns 29 = .ok (.iadd, 1) := by decide +kernel
theorem dX5_learns_30 : decode cX5_learns 30 = .ok (.iconst 0, 1) := by decide +kernel
theorem dX5_learns_31 : decode cX5_learns 31 = .ok (.iastore, 1) := by decide +kernel
theorem dX5_learns_32 : decode cX5_learns 32 = .ok (.iinc 2 1, 3) := by decide +kernel
theorem dX5_learns_35 : decode cX5_learns 35 = .ok (.goto (-24), 3) := by decide +kernel
theorem dX5_learns_38 : decode cX5_learns 38 = .ok (.iconst 0, 1) := by decide +kernel
theorem dX5_learns_39 : decode cX5_learns 39 = .ok (.istore_n 2, 1) := by decide +kernel
theorem dX5_learns_40 : decode cX5_learns 40 = .ok (.iload_n 2, 1) := by decide +kernel
theorem dX5_learns_41 : decode cX5_learns 41 = .ok (.aload_n 0, 1) := by decide +kernel
theorem dX5_learns_42 : decode cX5_learns 42 = .ok (.getfield 104, 3) := by decide +kernel
theorem dX5_learns_45 : decode cX5_learns 45 = .ok (.if_icmp .ge 70, 3) := by decide +kernel
theorem dX5_learns_48 : decode cX5_learns 48 = .ok (.aload_n 0, 1) := by decide +kernel
theorem dX5_learns_49 : decode cX5_learns 49 = .ok (.getfield 16, 3) := by decide +kernel
theorem dX5_learns_52 : decode cX5_learns 52 = .ok (.aload_n 0, 1) := by decide +kernel
theorem dX5_learns_53 : decode cX5_learns 53 = .ok (.getfield 49, 3) := by decide +kernel
theorem dX5_learns_56 : decode cX5_learns 56 = .ok (.iload_n 2, 1) := by decide +kernel
theorem dX5_learns_57 : decode cX5_learns 57 = .ok (.iaload, 1) := by decide +kernel
theorem dX5_learns_58 : decode cX5_learns 58 = .ok (.iaload, 1) := by decide +kernel
theorem dX5_learns_59 : decode cX5_learns 59 = .ok (.sipush 9999, 3) := by decide +kernel
theorem dX5_learns_62 : decode cX5_learns 62 = .ok (.if_icmp .ge 7, 3) := by decide +kernel
theorem dX5_learns_65 : decode cX5_learns 65 = .ok (.iconst 1, 1) := by decide +kernel
theorem dX5_learns_66 : decode cX5_learns 66 = .ok (.goto 4, 3) := by decide +kernel
theorem dX5_learns_69 : decode cX5_learns 69 = .ok (.iconst 0, 1) := by decide +kernel
theorem dX5_learns_70 : decode cX5_learns 70 = .ok (.istore_n 3, 1) := by decide +kernel
theorem dX5_learns_71 : decode cX5_learns 71 = .ok (.aload_n 0, 1) := by decide +kernel
theorem dX5_learns_72 : decode cX5_learns 72 = .ok (.getfield 16, 3) := by decide +kernel
theorem dX5_learns_75 : decode cX5_learns 75 = .ok (.aload_n 0, 1) := by decide +kernel
theorem dX5_learns_76 : decode cX5_learns 76 = .ok (.getfield 49, 3) := by decide +kernel
theorem dX5_learns_79 : decode cX5_learns 79 = .ok (.iload_n 2, 1) := by decide +kernel
theorem dX5_learns_80 : decode cX5_learns 80 = .ok (.iaload, 1) := by decide +kernel
theorem dX5_learns_81 : decode cX5_learns 81 = .ok (.dup2, 1) := by decide +kernel
theorem dX5_learns_82 : decode cX5_learns 82 = .ok (.iaload, 1) := by decide +kernel
theorem dX5_learns_83 : decode cX5_learns 83 = .ok (.iload_n 3, 1) := by decide +kernel
theorem dX5_learns_84 : decode cX5_learns 84 = .ok (.iadd, 1) := by decide +kernel
theorem dX5_learns_85 : decode cX5_learns 85 = .ok (.iastore, 1) := by decide +kernel
theorem dX5_learns_86 : decode cX5_learns 86 = .ok (.aload_n 0, 1) := by decide +kernel
theorem dX5_learns_87 : decode cX5_learns 87 = .ok (.getfield 37, 3) := by decide +kernel
theorem dX5_learns_90 : decode cX5_learns 90 = .ok (.bipush 16, 2) := by decide +kernel
theorem dX5_learns_92 : decode cX5_learns 92 = .ok (.aload_n 0, 1) := by decide +kernel
theorem dX5_learns_93 : decode cX5_learns 93 = .ok (.getfield 163, 3) := by decide +kernel
theorem dX5_learns_96 : decode cX5_learns 96 = .ok (.imul, 1) := by decide +kernel
theorem dX5_learns_97 : decode cX5_learns 97 = .ok (.aload_n 0, 1) := by decide +kernel
theorem dX5_learns_98 : decode cX5_learns 98 = .ok (.getfield 49, 3) := by decide +kernel
theorem dX5_learns_101 : decode cX5_learns 101 = .ok (.iload_n 2, 1) := by decide +kernel
theorem dX5_learns_102 : decode cX5_learns 102 = .ok (.iaload, 1) := by decide +kernel
theorem dX5_learns_103 : decode cX5_learns 103 = .ok (.iadd, 1) := by decide +kernel
theorem dX5_learns_104 : decode cX5_learns 104 = .ok (.dup2, 1) := by decide +kernel
theorem dX5_learns_105 : decode cX5_learns 105 = .ok (.iaload, 1) := by decide +kernel
theorem dX5_learns_106 : decode cX5_learns 106 = .ok (.iload_n 3, 1) := by decide +kernel
theorem dX5_learns_107 : decode cX5_learns 107 = .ok (.iadd, 1) := by decide +kernel
theorem dX5_learns_108 : decode cX5_learns 108 = .ok (.iastore, 1) := by decide +kernel
theorem dX5_learns_109 : decode cX5_learns 109 = .ok (.iinc 2 1, 3) := by decide +kernel
theorem dX5_learns_112 : decode cX5_learns 112 = .ok (.goto (-72), 3) := by decide +kernel
theorem dX5_learns_115 : decode cX5_learns 115 = .ok (.aload_n 0, 1) := by decide +kernel
theorem dX5_learns_116 : decode cX5_learns 116 = .ok (.getfield 34, 3) := by decide +kernel
theorem dX5_learns_119 : decode cX5_learns 119 = .ok (.aload_n 0, 1) := by decide +kernel
theorem dX5_learns_120 : decode cX5_learns 120 = .ok (.getfield 163, 3) := by decide +kernel
theorem dX5_learns_123 : decode cX5_learns 123 = .ok (.iload_n 1, 1) := by decide +kernel
theorem dX5_learns_124 : decode cX5_learns 124 = .ok (.iastore, 1) := by decide +kernel
theorem dX5_learns_125 : decode cX5_learns 125 = .ok (.aload_n 0, 1) := by decide +kernel
theorem dX5_learns_126 : decode cX5_learns 126 = .ok (.dup, 1) := by decide +kernel
theorem dX5_learns_127 : decode cX5_learns 127 = .ok (.getfield 163, 3) := by decide +kernel
theorem dX5_learns_130 : decode cX5_learns 130 = .ok (.iconst 1, 1) := by decide +kernel
theorem dX5_learns_131 : decode cX5_learns 131 = .ok (.iadd, 1) := by decide +kernel
theorem dX5_learns_132 : decode cX5_learns 132 = .ok (.putfield 163, 3) := by decide +kernel
theorem dX5_learns_135 : decode cX5_learns 135 = .ok (.return_, 1) := by decide +kernel
theorem dX5_learn_0 : decode cX5_learn 0 = .ok (.aload_n 0, 1) := by decide +kernel
theorem dX5_learn_1 : decode cX5_learn 1 = .ok (.aload_n 0, 1) := by decide +kernel
theorem dX5_learn_2 : decode cX5_learn 2 = .ok (.iload_n 1, 1) := by decide +kernel
theorem dX5_learn_3 : decode cX5_learn 3 = .ok (.invokevirtual 128, 3) := by decide +kernel
theorem dX5_learn_6 : decode cX5_learn 6 = .ok (.ifCond .ne 7, 3) := by decide +kernel
theorem dX5_learn_9 : decode cX5_learn 9 = .ok (.iconst 1, 1) := by decide +kernel
theorem dX5_learn_10 : decode cX5_learn 10 = .ok (.goto 17, 3) := by decide +kernel
theorem dX5_learn_13 : decode cX5_learn 13 = .ok (.aload_n 0, 1) := by decide +kernel
theorem dX5_learn_14 : decode cX5_learn 14 = .ok (.getfield 163, 3) := by decide +kernel
theorem dX5_learn_17 : decode cX5_learn 17 = .ok (.bipush 50, 2) := by decide +kernel
theorem dX5_learn_19 : decode cX5_learn 19 = .ok (.if_icmp .ne 7, 3) := by decide +kernel
theorem dX5_learn_22 : decode cX5_learn 22 = .ok (.iconst 2, 1) := by decide +kernel
theorem dX5_learn_23 : decode cX5_learn 23 = .ok (.goto 4, 3) := by decide +kernel
theorem dX5_learn_26 : decode cX5_learn 26 = .ok (.iconst 0, 1) := by decide +kernel
theorem dX5_learn_27 : decode cX5_learn 27 = .ok (.putfield 56, 3) := by decide +kernel
theorem dX5_learn_30 : decode cX5_learn 30 = .ok (.aload_n 0, 1) := by decide +kernel
theorem dX5_learn_31 : decode cX5_learn 31 = .ok (.getfield 56, 3) := by decide +kernel
theorem dX5_learn_34 : decode cX5_learn 34 = .ok (.ifCond .le 5, 3) := by decide +kernel
theorem dX5_learn_37 : decode cX5_learn 37 = .ok (.iconst 0, 1) := by decide +kernel
theorem dX5_learn_38 : decode cX5_learn 38 = .ok (.ireturn, 1) := by decide +kernel
theorem dX5_learn_39 : decode cX5_learn 39 = .ok (.aload_n 0, 1) := by decide +kernel
theorem dX5_learn_40 : decode cX5_learn 40 = .ok (.invokevirtual 131, 3) := by decide +kernel
theorem dX5_learn_43 : decode cX5_learn 43 = .ok (.aload_n 0, 1) := by decide +kernel
theorem dX5_learn_44 : decode cX5_learn 44 = .ok (.getfield 118, 3) := by decide +kernel
theorem dX5_learn_47 : decode cX5_learn 47 = .ok (.iconst 1, 1) := by decide +kernel
theorem dX5_learn_48 : decode cX5_learn 48 = .ok (.if_icmp .eq 33, 3) := by decide +kernel
theorem dX5_learn_51 : decode cX5_learn 51 = .ok (.aload_n 0, 1) := by decide +kernel
theorem dX5_learn_52 : decode cX5_learn 52 = .ok (.getfield 118, 3) := by decide +kernel
theorem dX5_learn_55 : decode cX5_learn 55 = .ok (.iconst 1, 1) := by decide +kernel
theorem dX5_learn_56 : decode cX5_learn 56 = .ok (.if_icmp .le 29, 3) := by decide +kernel
theorem dX5_learn_59 : decode cX5_learn 59 = .ok (.aload_n 0, 1) := by decide +kernel
theorem dX5_learn_60 : decode cX5_learn 60 = .ok (.iconst 1, 1) := by decide +kernel
theorem dX5_learn_61 : decode cX5_learn 61 = .ok (.invokevirtual 143, 3) := by decide +kernel
theorem dX5_learn_64 : decode cX5_learn 64 = .ok (.invokestatic 151, 3) := by decide +kernel
theorem dX5_learn_67 : decode cX5_learn 67 = .ok (.aload_n 0, 1) := by decide +kernel
theorem dX5_learn_68 : decode cX5_learn 68 = .ok (.iconst 0, 1) := by decide +kernel
theorem dX5_learn_69 : decode cX5_learn 69 = .ok (.invokevirtual 143, 3) := by decide +kernel
theorem dX5_learn_72 : decode cX5_learn 72 = .ok (.invokestatic 151, 3) := by decide +kernel
theorem dX5_learn_75 : decode cX5_learn 75 = .ok (.bipush 20, 2) := by decide +kernel
theorem dX5_learn_77 : decode cX5_learn 77 = .ok (.iadd, 1) := by decide +kernel
theorem dX5_learn_78 : decode cX5_learn 78 = .ok (.if_icmp .lt 7, 3) := by decide +kernel
theorem dX5_learn_81 : decode cX5_learn 81 = .ok (.iconst 1, 1) := by decide +kernel
theorem dX5_learn_82 : decode cX5_learn 82 = .ok (.goto 4, 3) := by decide +kernel
theorem dX5_learn_85 : decode cX5_learn 85 = .ok (.iconst 0, 1) := by decide +kernel
theorem dX5_learn_86 : decode cX5_learn 86 = .ok (.istore_n 2, 1) := by decide +kernel
theorem dX5_learn_87 : decode cX5_learn 87 = .ok (.iload_n 2, 1) := by decide +kernel
theorem dX5_learn_88 : decode cX5_learn 88 = .ok (.ifCond .eq 8, 3) := by decide +kernel
theorem dX5_learn_91 : decode cX5_learn 91 = .ok (.aload_n 0, 1) := by decide +kernel
theorem dX5_learn_92 : decode cX5_learn 92 = .ok (.iload_n 1, 1) := by decide +kernel
theorem dX5_learn_93 : decode cX5_learn 93 = .ok (.invokevirtual 166, 3) := by decide +kernel
theorem dX5_learn_96 : decode cX5_learn 96 = .ok (.iload_n 2, 1) := by decide +kernel
theorem dX5_learn_97 : decode cX5_learn 97 = .ok (.ireturn, 1) := by decide +kernel
theorem dX5_forget_0 : decode cX5_forget 0 = .ok (.aload_n 0, 1) := by decide +kernel
theorem dX5_forget_1 : decode cX5_forget 1 = .ok (.aload_n 0, 1) := by decide +kernel
theorem dX5_forget_2 : decode cX5_forget 2 = .ok (.getfield 163, 3) := by decide +kernel
theorem dX5_forget_5 : decode cX5_forget 5 = .ok (.ifCond .ne 7, 3) := by decide +kernel
theorem dX5_forget_8 : decode cX5_forget 8 = .ok (.iconst 1, 1) := by decide +kernel
theorem dX5_forget_9 : decode cX5_forget 9 = .ok (.goto 4, 3) := by decide +kernel
theorem dX5_forget_12 : decode cX5_forget 12 = .ok (.iconst 0, 1) := by decide +kernel
theorem dX5_forget_13 : decode cX5_forget 13 = .ok (.putfield 56, 3) := by decide +kernel
theorem dX5_forget_16 : decode cX5_forget 16 = .ok (.aload_n 0, 1) := by decide +kernel
theorem dX5_forget_17 : decode cX5_forget 17 = .ok (.getfield 56, 3) := by decide +kernel
theorem dX5_forget_20 : decode cX5_forget 20 = .ok (.ifCond .le 5, 3) := by decide +kernel
theorem dX5_forget_23 : decode cX5_forget 23 = .ok (.iconst 0, 1) := by decide +kernel
theorem dX5_forget_24 : decode cX5_forget 24 = .ok (.ireturn, 1) := by decide +kernel
theorem dX5_forget_25 : decode cX5_forget 25 = .ok (.aload_n 0, 1) := by decide +kernel
theorem dX5_forget_26 : decode cX5_forget 26 = .ok (.dup, 1) := by decide +kernel
theorem dX5_forget_27 : decode cX5_forget 27 = .ok (.getfield 163, 3) := by decide +kernel
theorem dX5_forget_30 : decode cX5_forget 30 = .ok (.iconst 1, 1) := by decide +kernel
theorem dX5_forget_31 : decode cX5_forget 31 = .ok (.isub, 1) := by decide +kernel
theorem dX5_forget_32 : decode cX5_forget 32 = .ok (.putfield 163, 3) := by decide +kernel
theorem dX5_forget_35 : decode cX5_forget 35 = .ok (.iconst 0, 1) := by decide +kernel
theorem dX5_forget_36 : decode cX5_forget 36 = .ok (.istore_n 1, 1) := by decide +kernel
theorem dX5_forget_37 : decode cX5_forget 37 = .ok (.iload_n 1, 1) := by decide +kernel
theorem dX5_forget_38 : decode cX5_forget 38 = .ok (.aload_n 0, 1) := by decide +kernel
theorem dX5_forget_39 : decode cX5_forget 39 = .ok (.getfield 68, 3) := by decide +kernel
theorem dX5_forget_42 : decode cX5_forget 42 = .ok (.if_icmp .ge 32, 3) := by decide +kernel
theorem dX5_forget_45 : decode cX5_forget 45 = .ok (.aload_n 0, 1) := by decide +kernel
theorem dX5_forget_46 : decode cX5_forget 46 = .ok (.getfield 16, 3) := by decide +kernel
theorem dX5_forget_49 : decode cX5_forget 49 = .ok (.iload_n 1, 1) := by decide +kernel
theorem dX5_forget_50 : decode cX5_forget 50 = .ok (.dup2, 1) := by decide +kernel
theorem dX5_forget_51 : decode cX5_forget 51 = .ok (.iaload, 1) := by decide +kernel
theorem dX5_forget_52 : decode cX5_forget 52 = .ok (.aload_n 0, 1) := by decide +kernel
theorem dX5_forget_53 : decode cX5_forget 53 = .ok (.getfield 37, 3) := by decide +kernel
theorem dX5_forget_56 : decode cX5_forget 56 = .ok (.bipush 16, 2) := by decide +kernel
theorem dX5_forget_58 : decode cX5_forget 58 = .ok (.aload_n 0, 1) := by decide +kernel
theorem dX5_forget_59 : decode cX5_forget 59 = .ok (.getfield 163, 3) := by decide +kernel
theorem dX5_forget_62 : decode cX5_forget 62 = .ok (.imul, 1) := by decide +kernel
theorem dX5_forget_63 : decode cX5_forget 63 = .ok (.iload_n 1, 1) := by decide +kernel
theorem dX5_forget_64 : decode cX5_forget 64 = .ok (.iadd, 1) := by decide +kernel
theorem dX5_forget_65 : decode cX5_forget 65 = .ok (.iaload, 1) := by decide +kernel
theorem dX5_forget_66 : decode cX5_forget 66 = .ok (.isub, 1) := by decide +kernel
theorem dX5_forget_67 : decode cX5_forget 67 = .ok (.iastore, 1) := by decide +kernel
theorem dX5_forget_68 : decode cX5_forget 68 = .ok (.iinc 1 1, 3) := by decide +kernel
theorem dX5_forget_71 : decode cX5_forget 71 = .ok (.goto (-34), 3) := by decide +kernel
theorem dX5_forget_74 : decode cX5_forget 74 = .ok (.aload_n 0, 1) := by decide +kernel
theorem dX5_forget_75 : decode cX5_forget 75 = .ok (.getfield 34, 3) := by decide +kernel
theorem dX5_forget_78 : decode cX5_forget 78 = .ok (.aload_n 0, 1) := by decide +kernel
theorem dX5_forget_79 : decode cX5_forget 79 = .ok (.getfield 163, 3) := by decide +kernel
theorem dX5_forget_82 : decode cX5_forget 82 = .ok (.iaload, 1) := by decide +kernel
theorem dX5_forget_83 : decode cX5_forget 83 = .ok (.ireturn, 1) := by decide +kernel
theorem dX5_learned_0 : decode cX5_learned 0 = .ok (.aload_n 0, 1) := by decide +kernel
theorem dX5_learned_1 : decode cX5_learned 1 = .ok (.iconst 0, 1) := by decide +kernel
theorem dX5_learned_2 : decode cX5_learned 2 = .ok (.putfield 56, 3) := by decide +kernel
theorem dX5_learned_5 : decode cX5_learned 5 = .ok (.aload_n 0, 1) := by decide +kernel
theorem dX5_learned_6 : decode cX5_learned 6 = .ok (.getfield 163, 3) := by decide +kernel
theorem dX5_learned_9 : decode cX5_learned 9 = .ok (.ireturn, 1) := by decide +kernel
