/-! decode rows, part 1 -/
theorem dX0_init_0 : decode cX0_init 0 = .ok (.aload_n 0, 1) := by decide +kernel
theorem dX0_init_1 : decode cX0_init 1 = .ok (.invokespecial 3, 3) := by decide +kernel
theorem dX0_init_4 : decode cX0_init 4 = .ok (.aload_n 0, 1) := by decide +kernel
theorem dX0_init_5 : decode cX0_init 5 = .ok (.bipush 60, 2) := by decide +kernel
theorem dX0_init_7 : decode cX0_init 7 = .ok (.newarray .char, 2) := by decide +kernel
theorem dX0_init_9 : decode cX0_init 9 = .ok (.putfield 11, 3) := by decide +kernel
theorem dX0_init_12 : decode cX0_init 12 = .ok (.aload_n 0, 1) := by decide +kernel
theorem dX0_init_13 : decode cX0_init 13 = .ok (.bipush 10, 2) := by decide +kernel
theorem dX0_init_15 : decode cX0_init 15 = .ok (.newarray .int, 2) := by decide +kernel
theorem dX0_init_17 : decode cX0_init 17 = .ok (.putfield 15, 3) := by decide +kernel
theorem dX0_init_20 : decode cX0_init 20 = .ok (.return_, 1) := by decide +kernel
theorem dX0_append_0 : decode cX0_append 0 = .ok (.aload_n 0, 1) := by decide +kernel
theorem dX0_append_1 : decode cX0_append 1 = .ok (.getfield 19, 3) := by decide +kernel
theorem dX0_append_4 : decode cX0_append 4 = .ok (.bipush 60, 2) := by decide +kernel
theorem dX0_append_6 : decode cX0_append 6 = .ok (.if_icmp .lt 5, 3) := by decide +kernel
theorem dX0_append_9 : decode cX0_append 9 = .ok (.iconst 0, 1) := by decide +kernel
theorem dX0_append_10 : decode cX0_append 10 = .ok (.ireturn, 1) := by decide +kernel
theorem dX0_append_11 : decode cX0_append 11 = .ok (.aload_n 0, 1) := by decide +kernel
theorem dX0_append_12 : decode cX0_append 12 = .ok (.getfield 11, 3) := by decide +kernel
theorem dX0_append_15 : decode cX0_append 15 = .ok (.aload_n 0, 1) := by decide +kernel
theorem dX0_append_16 : decode cX0_append 16 = .ok (.getfield 19, 3) := by decide +kernel
theorem dX0_append_19 : decode cX0_append 19 = .ok (.iload_n 1, 1) := by decide +kernel
theorem dX0_append_20 : decode cX0_append 20 = .ok (.castore, 1) := by decide +kernel
theorem dX0_append_21 : decode cX0_append 21 = .ok (.aload_n 0, 1) := by decide +kernel
theorem dX0_append_22 : decode cX0_append 22 = .ok (.dup, 1) := by decide +kernel
theorem dX0_append_23 : decode cX0_append 23 = .ok (.getfield 19, 3) := by decide +kernel
theorem dX0_append_26 : decode cX0_append 26 = .ok (.iconst 1, 1) := by decide +kernel
theorem dX0_append_27 : decode cX0_append 27 = .ok (.iadd, 1) := by decide +kernel
theorem dX0_append_28 : decode cX0_append 28 = .ok (.putfield 19, 3) := by decide +kernel
theorem dX0_append_31 : decode cX0_append 31 = .ok (.iconst 1, 1) := by decide +kernel
theorem dX0_append_32 : decode cX0_append 32 = .ok (.ireturn, 1) := by decide +kernel
theorem dX0_parse_0 : decode cX0_parse 0 = .ok (.iconst 0, 1) := by decide +kernel
theorem dX0_parse_1 : decode cX0_parse 1 = .ok (.istore_n 1, 1) := by decide +kernel
theorem dX0_parse_2 : decode cX0_parse 2 = .ok (.iconst 0, 1) := by decide +kernel
theorem dX0_parse_3 : decode cX0_parse 3 = .ok (.istore_n 2, 1) := by decide +kernel
theorem dX0_parse_4 : decode cX0_parse 4 = .ok (.aload_n 0, 1) := by decide +kernel
theorem dX0_parse_5 : decode cX0_parse 5 = .ok (.iconst 0, 1) := by decide +kernel
theorem dX0_parse_6 : decode cX0_parse 6 = .ok (.putfield 23, 3) := by decide +kernel
theorem dX0_parse_9 : decode cX0_parse 9 = .ok (.iconst 0, 1) := by decide +kernel
theorem dX0_parse_10 : decode cX0_parse 10 = .ok (.istore_n 3, 1) := by decide +kernel
theorem dX0_parse_11 : decode cX0_parse 11 = .ok (.iload_n 3, 1) := by decide +kernel
theorem dX0_parse_12 : decode cX0_parse 12 = .ok (.aload_n 0, 1) := by decide +kernel
theorem dX0_parse_13 : decode cX0_parse 13 = .ok (.getfield 19, 3) := by decide +kernel
theorem dX0_parse_16 : decode cX0_parse 16 = .ok (.if_icmp .ge 106, 3) := by decide +kernel
theorem dX0_parse_19 : decode cX0_parse 19 = .ok (.aload_n 0, 1) := by decide +kernel
theorem dX0_parse_20 : decode cX0_parse 20 = .ok (.getfield 11, 3) := by decide +kernel
theorem dX0_parse_23 : decode cX0_parse 23 = .ok (.iload_n 3, 1) := by decide +kernel
theorem dX0_parse_24 : decode cX0_parse 24 = .ok (.caload, 1) := by decide +kernel
theorem dX0_parse_25 : decode cX0_parse 25 = .ok (.invokestatic 26, 3) := by decide +kernel
theorem dX0_parse_28 : decode cX0_parse 28 = .ok (.istore 4, 2) := by decide +kernel
theorem dX0_parse_30 : decode cX0_parse 30 = .ok (.iload 4, 2) := by decide +kernel
theorem dX0_parse_32 : decode cX0_parse 32 = .ok (.ifCond .lt 37, 3) := by decide +kernel
theorem dX0_parse_35 : decode cX0_parse 35 = .ok (.iload_n 1, 1) := by decide +kernel
theorem dX0_parse_36 : decode cX0_parse 36 = .ok (.bipush 10, 2) := by decide +kernel
theorem dX0_parse_38 : decode cX0_parse 38 = .ok (.if_icmp .lt 5, 3) := by decide +kernel
theorem dX0_parse_41 : decode cX0_parse 41 = .ok (.iload_n 3, 1) := by decide +kernel
theorem dX0_parse_42 : decode cX0_parse 42 = .ok (.ireturn, 1) := by decide +kernel
theorem dX0_parse_43 : decode cX0_parse 43 = .ok (.aload_n 0, 1) := by decide +kernel
theorem dX0_parse_44 : decode cX0_parse 44 = .ok (.getfield 15, 3) := by decide +kernel
theorem dX0_parse_47 : decode cX0_parse 47 = .ok (.iload_n 1, 1) := by decide +kernel
theorem dX0_parse_48 : decode cX0_parse 48 = .ok (.iload 4, 2) := by decide +kernel
theorem dX0_parse_50 : decode cX0_parse 50 = .ok (.iastore, 1) := by decide +kernel
theorem dX0_parse_51 : decode cX0_parse 51 = .ok (.iinc 1 1, 3) := by decide +kernel
theorem dX0_parse_54 : decode cX0_parse 54 = .ok (.aload_n 0, 1) := by decide +kernel
theorem dX0_parse_55 : decode cX0_parse 55 = .ok (.dup, 1) := by decide +kernel
theorem dX0_parse_56 : decode cX0_parse 56 = .ok (.getfield 23, 3) := by decide +kernel
theorem dX0_parse_59 : decode cX0_parse 59 = .ok (.iconst 1, 1) := by decide +kernel
theorem dX0_parse_60 : decode cX0_parse 60 = .ok (.iadd, 1) := by decide +kernel
theorem dX0_parse_61 : decode cX0_parse 61 = .ok (.putfield 23, 3) := by decide +kernel
theorem dX0_parse_64 : decode cX0_parse 64 = .ok (.iconst 1, 1) := by decide +kernel
theorem dX0_parse_65 : decode cX0_parse 65 = .ok (.istore_n 2, 1) := by decide +kernel
theorem dX0_parse_66 : decode cX0_parse 66 = .ok (.goto 50, 3) := by decide +kernel
theorem dX0_parse_69 : decode cX0_parse 69 = .ok (.iload_n 2, 1) := by decide +kernel
theorem dX0_parse_70 : decode cX0_parse 70 = .ok (.ifCond .eq 17, 3) := by decide +kernel
theorem dX0_parse_73 : decode cX0_parse 73 = .ok (.aload_n 0, 1) := by decide +kernel
theorem dX0_parse_74 : decode cX0_parse 74 = .ok (.getfield 11, 3) := by decide +kernel
theorem dX0_parse_77 : decode cX0_parse 77 = .ok (.iload_n 3, 1) := by decide +kernel
theorem dX0_parse_78 : decode cX0_parse 78 = .ok (.caload, 1) := by decide +kernel
theorem dX0_parse_79 : decode cX0_parse 79 = .ok (.invokestatic 30, 3) := by decide +kernel
theorem dX0_parse_82 : decode cX0_parse 82 = .ok (.iconst 1, 1) := by decide +kernel
theorem dX0_parse_83 : decode cX0_parse 83 = .ok (.isub, 1) := by decide +kernel
theorem dX0_parse_84 : decode cX0_parse 84 = .ok (.goto 4, 3) := by decide +kernel
theorem dX0_parse_87 : decode cX0_parse 87 = .ok (.iconst (-1), 1) := by decide +kernel
theorem dX0_parse_88 : decode cX0_parse 88 = .ok (.istore 5, 2) := by decide +kernel
theorem dX0_parse_90 : decode cX0_parse 90 = .ok (.iload 5, 2) := by decide +kernel
theorem dX0_parse_92 : decode cX0_parse 92 = .ok (.ifCond .lt 12, 3) := by decide +kernel
theorem dX0_parse_95 : decode cX0_parse 95 = .ok (.iload_n 1, 1) := by decide +kernel
theorem dX0_parse_96 : decode cX0_parse 96 = .ok (.iload 5, 2) := by decide +kernel
theorem dX0_parse_98 : decode cX0_parse 98 = .ok (.iadd, 1) := by decide +kernel
theorem dX0_parse_99 : decode cX0_parse 99 = .ok (.bipush 10, 2) := by decide +kernel
theorem dX0_parse_101 : decode cX0_parse 101 = .ok (.if_icmp .le 5, 3) := by decide +kernel
theorem dX0_parse_104 : decode cX0_parse 104 = .ok (.iload_n 3, 1) := by decide +kernel
theorem dX0_parse_105 : decode cX0_parse 105 = .ok (.ireturn, 1) := by decide +kernel
theorem dX0_parse_106 : decode cX0_parse 106 = .ok (.aload_n 0, 1) := by decide +kernel
theorem dX0_parse_107 : decode cX0_parse 107 = .ok (.iload_n 1, 1) := by decide +kernel
theorem dX0_parse_108 : decode cX0_parse 108 = .ok (.iload 5, 2) := by decide +kernel
theorem dX0_parse_110 : decode cX0_parse 110 = .ok (.invokevirtual 33, 3) := by decide +kernel
theorem dX0_parse_113 : decode cX0_parse 113 = .ok (.istore_n 1, 1) := by decide +kernel
theorem dX0_parse_114 : decode cX0_parse 114 = .ok (.iconst 0, 1) := by decide +kernel
theorem dX0_parse_115 : decode cX0_parse 115 = .ok (.istore_n 2, 1) := by decide +kernel
theorem dX0_parse_116 : decode cX0_parse 116 = .ok (.iinc 3 1, 3) := by decide +kernel
theorem dX0_parse_119 : decode cX0_parse 119 = .ok (.goto (-108), 3) := by decide +kernel
theorem dX0_parse_122 : decode cX0_parse 122 = .ok (.iload_n 1, 1) := by decide +kernel
theorem dX0_parse_123 : decode cX0_parse 123 = .ok (.bipush 10, 2) := by decide +kernel
theorem dX0_parse_125 : decode cX0_parse 125 = .ok (.if_icmp .ge 10, 3) := by decide +kernel
theorem dX0_parse_128 : decode cX0_parse 128 = .ok (.aload_n 0, 1) := by decide +kernel
theorem dX0_parse_129 : decode cX0_parse 129 = .ok (.getfield 19, 3) := by decide +kernel
theorem dX0_parse_132 : decode cX0_parse 132 = .ok (.goto 4, 3) := by decide +kernel
theorem dX0_parse_135 : decode cX0_parse 135 = .ok (.iconst (-1), 1) := by decide +kernel
theorem dX0_parse_136 : decode cX0_parse 136 = .ok (.ireturn, 1) := by decide +kernel
theorem dX0_repeatBar_0 : decode cX0_repeatBar 0 = .ok (.iload_n 1, 1) := by decide +kernel
theorem dX0_repeatBar_1 : decode cX0_repeatBar 1 = .ok (.iload_n 2, 1) := by decide +kernel
theorem dX0_repeatBar_2 : decode cX0_repeatBar 2 = .ok (.iadd, 1) := by decide +kernel
theorem dX0_repeatBar_3 : decode cX0_repeatBar 3 = .ok (.istore_n 3, 1) := by decide +kernel
theorem dX0_repeatBar_4 : decode cX0_repeatBar 4 = .ok (.iload_n 1, 1) := by decide +kernel
theorem dX0_repeatBar_5 : decode cX0_repeatBar 5 = .ok (.istore 4, 2) := by decide +kernel
theorem dX0_repeatBar_7 : decode cX0_repeatBar 7 = .ok (.iload 4, 2) := by decide +kernel
theorem dX0_repeatBar_9 : decode cX0_repeatBar 9 = .ok (.ifCond .le 38, 3) := by decide +kernel
theorem dX0_repeatBar_12 : decode cX0_repeatBar 12 = .ok (.iload 4, 2) := by decide +kernel
theorem dX0_repeatBar_14 : decode cX0_repeatBar 14 = .ok (.iload_n 3, 1) := by decide +kernel
theorem dX0_repeatBar_15 : decode cX0_repeatBar 15 = .ok (.if_icmp .ge 32, 3) := by decide +kernel
theorem dX0_repeatBar_18 : decode cX0_repeatBar 18 = .ok (.iload 4, 2) := by decide +kernel
theorem dX0_repeatBar_20 : decode cX0_repeatBar 20 = .ok (.bipush 10, 2) := by decide +kernel
theorem dX0_repeatBar_22 : decode cX0_repeatBar 22 = .ok (.if_icmp .ge 25, 3) := by decide +kernel
theorem dX0_repeatBar_25 : decode cX0_repeatBar 25 = .ok (.aload_n 0, 1) := by decide +kernel
theorem dX0_repeatBar_26 : decode cX0_repeatBar 26 = .ok (.getfield 15, 3) := by decide +kernel
theorem dX0_repeatBar_29 : decode cX0_repeatBar 29 = .ok (.iload 4, 2) := by decide +kernel
theorem dX0_repeatBar_31 : decode cX0_repeatBar 31 = .ok (.aload_n 0, 1) := by decide +kernel
theorem dX0_repeatBar_32 : decode cX0_repeatBar 32 = .ok (.getfield 15, 3) := by decide +kernel
theorem dX0_repeatBar_35 : decode cX0_repeatBar 35 = .ok (.iload 4, 2) := by decide +kernel
theorem dX0_repeatBar_37 : decode cX0_repeatBar 37 = .ok (.iconst 1, 1) := by decide +kernel
theorem dX0_repeatBar_38 : decode cX0_repeatBar 38 = .ok (.isub, 1) := by decide +kernel
theorem dX0_repeatBar_39 : decode cX0_repeatBar 39 = .ok (.iaload, 1) := by decide +kernel
theorem dX0_repeatBar_40 : decode cX0_repeatBar 40 = .ok (.iastore, 1) := by decide +kernel
theorem dX0_repeatBar_41 : decode cX0_repeatBar 41 = .ok (.iinc 4 1, 3) := by decide +kernel
theorem dX0_repeatBar_44 : decode cX0_repeatBar 44 = .ok (.goto (-37), 3) := by decide +kernel
theorem dX0_repeatBar_47 : decode cX0_repeatBar 47 = .ok (.iload_n 3, 1) := by decide +kernel
theorem dX0_repeatBar_48 : decode cX0_repeatBar 48 = .ok (.ireturn, 1) := by decide +kernel
theorem dX0_paintBar_0 : decode cX0_paintBar 0 = .ok (.aload_n 0, 1) := by decide +kernel
theorem dX0_paintBar_1 : decode cX0_paintBar 1 = .ok (.getfield 15, 3) := by decide +kernel
theorem dX0_paintBar_4 : decode cX0_paintBar 4 = .ok (.iload_n 3, 1) := by decide +kernel
theorem dX0_paintBar_5 : decode cX0_paintBar 5 = .ok (.iaload, 1) := by decide +kernel
theorem dX0_paintBar_6 : decode cX0_paintBar 6 = .ok (.istore 4, 2) := by decide +kernel
theorem dX0_paintBar_8 : decode cX0_paintBar 8 = .ok (.aload_n 1, 1) := by decide +kernel
theorem dX0_paintBar_9 : decode cX0_paintBar 9 = .ok (.iload_n 2, 1) := by decide +kernel
theorem dX0_paintBar_10 : decode cX0_paintBar 10 = .ok (.getstatic 37, 3) := by decide +kernel
theorem dX0_paintBar_13 : decode cX0_paintBar 13 = .ok (.iload 4, 2) := by decide +kernel
theorem dX0_paintBar_15 : decode cX0_paintBar 15 = .ok (.iaload, 1) := by decide +kernel
theorem dX0_paintBar_16 : decode cX0_paintBar 16 = .ok (.getstatic 40, 3) := by decide +kernel
theorem dX0_paintBar_19 : decode cX0_paintBar 19 = .ok (.iload 4, 2) := by decide +kernel
theorem dX0_paintBar_21 : decode cX0_paintBar 21 = .ok (.iaload, 1) := by decide +kernel
theorem dX0_paintBar_22 : decode cX0_paintBar 22 = .ok (.getstatic 43, 3) := by decide +kernel
theorem dX0_paintBar_25 : decode cX0_paintBar 25 = .ok (.iload 4, 2) := by decide +kernel
theorem dX0_paintBar_27 : decode cX0_paintBar 27 = .ok (.iaload, 1) := by decide +kernel
theorem dX0_paintBar_28 : decode cX0_paintBar 28 = .ok (.invokevirtual 46, 3) := by decide +kernel
theorem dX0_paintBar_31 : decode cX0_paintBar 31 = .ok (.pop, 1) := by decide +kernel
theorem dX0_paintBar_32 : decode cX0_paintBar 32 = .ok (.return_, 1) := by decide +kernel
theorem dX0_barOf_0 : decode cX0_barOf 0 = .ok (.iconst 0, 1) := by decide +kernel
theorem dX0_barOf_1 : decode cX0_barOf 1 = .ok (.istore_n 1, 1) := by decide +kernel
theorem dX0_barOf_2 : decode cX0_barOf 2 = .ok (.iload_n 1, 1) := by decide +kernel
theorem dX0_barOf_3 : decode cX0_barOf 3 = .ok (.getstatic 52, 3) := by decide +kernel
theorem dX0_barOf_6 : decode cX0_barOf 6 = .ok (.arraylength, 1) := by decide +kernel
theorem dX0_barOf_7 : decode cX0_barOf 7 = .ok (.if_icmp .ge 20, 3) := by decide +kernel
theorem dX0_barOf_10 : decode cX0_barOf 10 = .ok (.getstatic 52, 3) := by decide +kernel
theorem dX0_barOf_13 : decode cX0_barOf 13 = .ok (.iload_n 1, 1) := by decide +kernel
theorem dX0_barOf_14 : decode cX0_barOf 14 = .ok (.caload, 1) := by decide +kernel
theorem dX0_barOf_15 : decode cX0_barOf 15 = .ok (.iload_n 0, 1) := by decide +kernel
theorem dX0_barOf_16 : decode cX0_barOf 16 = .ok (.if_icmp .ne 5, 3) := by decide +kernel
theorem dX0_barOf_19 : decode cX0_barOf 19 = .ok (.iload_n 1, 1) := by decide +kernel
theorem dX0_barOf_20 : decode cX0_barOf 20 = .ok (.ireturn, 1) := by decide +kernel
theorem dX0_barOf_21 : decode cX0_barOf 21 = .ok (.iinc 1 1, 3) := by decide +kernel
theorem dX0_barOf_24 : decode cX0_barOf 24 = .ok (.goto (-22), 3) := by decide +kernel
theorem dX0_barOf_27 : decode cX0_barOf 27 = .ok (.iconst (-1), 1) := by decide +kernel
theorem dX0_barOf_28 : decode cX0_barOf 28 = .ok (.ireturn, 1) := by decide +kernel
theorem dX0_digitOf_0 : decode cX0_digitOf 0 = .ok (.iload_n 0, 1) := by decide +kernel
theorem dX0_digitOf_1 : decode cX0_digitOf 1 = .ok (.bipush 49, 2) := by decide +kernel
theorem dX0_digitOf_3 : decode cX0_digitOf 3 = .ok (.if_icmp .lt 16, 3) := by decide +kernel
theorem dX0_digitOf_6 : decode cX0_digitOf 6 = .ok (.iload_n 0, 1) := by decide +kernel
theorem dX0_digitOf_7 : decode cX0_digitOf 7 = .ok (.bipush 57, 2) := by decide +kernel
theorem dX0_digitOf_9 : decode cX0_digitOf 9 = .ok (.if_icmp .gt 10, 3) := by decide +kernel
theorem dX0_digitOf_12 : decode cX0_digitOf 12 = .ok (.iload_n 0, 1) := by decide +kernel
theorem dX0_digitOf_13 : decode cX0_digitOf 13 = .ok (.bipush 48, 2) := by decide +kernel
theorem dX0_digitOf_15 : decode cX0_digitOf 15 = .ok (.isub, 1) := by decide +kernel
theorem dX0_digitOf_16 : decode cX0_digitOf 16 = .ok (.goto 4, 3) := by decide +kernel
theorem dX0_digitOf_19 : decode cX0_digitOf 19 = .ok (.iconst 0, 1) := by decide +kernel
theorem dX0_digitOf_20 : decode cX0_digitOf 20 = .ok (.ireturn, 1) := by decide +kernel
theorem dX1_init_0 : decode cX1_init 0 = .ok (.aload_n 0, 1) := by decide +kernel
theorem dX1_init_1 : decode cX1_init 1 = .ok (.invokespecial 3, 3) := by decide +kernel
theorem dX1_init_4 : decode cX1_init 4 = .ok (.aload_n 0, 1) := by decide +kernel
theorem dX1_init_5 : decode cX1_init 5 = .ok (.bipush 8, 2) := by decide +kernel
theorem dX1_init_7 : decode cX1_init 7 = .ok (.newarray .int, 2) := by decide +kernel
theorem dX1_init_9 : decode cX1_init 9 = .ok (.putfield 9, 3) := by decide +kernel
theorem dX1_init_12 : decode cX1_init 12 = .ok (.aload_n 0, 1) := by decide +kernel
theorem dX1_init_13 : decode cX1_init 13 = .ok (.bipush 8, 2) := by decide +kernel
theorem dX1_init_15 : decode cX1_init 15 = .ok (.newarray .int, 2) := by decide +kernel
theorem dX1_init_17 : decode cX1_init 17 = .ok (.putfield 15, 3) := by decide +kernel
theorem dX1_init_20 : decode cX1_init 20 = .ok (.aload_n 0, 1) := by decide +kernel
theorem dX1_init_21 : decode cX1_init 21 = .ok (.bipush 8, 2) := by decide +kernel
theorem dX1_init_23 : decode cX1_init 23 = .ok (.newarray .boolean, 2) := by decide +kernel
theorem dX1_init_25 : decode cX1_init 25 = .ok (.putfield 18, 3) := by decide +kernel
theorem dX1_init_28 : decode cX1_init 28 = .ok (.aload_n 0, 1) := by decide +kernel
theorem dX1_init_29 : decode cX1_init 29 = .ok (.bipush 8, 2) := by decide +kernel
theorem dX1_init_31 : decode cX1_init 31 = .ok (.newarray .boolean, 2) := by decide +kernel
theorem dX1_init_33 : decode cX1_init 33 = .ok (.putfield 22, 3) := by decide +kernel
theorem dX1_init_36 : decode cX1_init 36 = .ok (.return_, 1) := by decide +kernel
theorem dX1_measure_0 : decode cX1_measure 0 = .ok (.aload_n 0, 1) := by decide +kernel
theorem dX1_measure_1 : decode cX1_measure 1 = .ok (.iconst 0, 1) := by decide +kernel
theorem dX1_measure_2 : decode cX1_measure 2 = .ok (.putfield 25, 3) := by decide +kernel
theorem dX1_measure_5 : decode cX1_measure 5 = .ok (.aload_n 0, 1) := by decide +kernel
theorem dX1_measure_6 : decode cX1_measure 6 = .ok (.iconst 0, 1) := by decide +kernel
theorem dX1_measure_7 : decode cX1_measure 7 = .ok (.putfield 29, 3) := by decide +kernel
theorem dX1_measure_10 : decode cX1_measure 10 = .ok (.iconst 1, 1) := by decide +kernel
theorem dX1_measure_11 : decode cX1_measure 11 = .ok (.istore 4, 2) := by decide +kernel
theorem dX1_measure_13 : decode cX1_measure 13 = .ok (.iconst 0, 1) := by decide +kernel
theorem dX1_measure_14 : decode cX1_measure 14 = .ok (.istore 5, 2) := by decide +kernel
theorem dX1_measure_16 : decode cX1_measure 16 = .ok (.iload 5, 2) := by decide +kernel
theorem dX1_measure_18 : decode cX1_measure 18 = .ok (.bipush 8, 2) := by decide +kernel
theorem dX1_measure_20 : decode cX1_measure 20 = .ok (.if_icmp .ge 111, 3) := by decide +kernel
theorem dX1_measure_23 : decode cX1_measure 23 = .ok (.aload_n 0, 1) := by decide +kernel
theorem dX1_measure_24 : decode cX1_measure 24 = .ok (.aload_n 1, 1) := by decide +kernel
theorem dX1_measure_25 : decode cX1_measure 25 = .ok (.iload 5, 2) := by decide +kernel
theorem dX1_measure_27 : decode cX1_measure 27 = .ok (.aload_n 2, 1) := by decide +kernel
theorem dX1_measure_28 : decode cX1_measure 28 = .ok (.iload 5, 2) := by decide +kernel
theorem dX1_measure_30 : decode cX1_measure 30 = .ok (.iaload, 1) := by decide +kernel
theorem dX1_measure_31 : decode cX1_measure 31 = .ok (.bipush 8, 2) := by decide +kernel
theorem dX1_measure_33 : decode cX1_measure 33 = .ok (.iadd, 1) := by decide +kernel
theorem dX1_measure_34 : decode cX1_measure 34 = .ok (.invokevirtual 32, 3) := by decide +kernel
theorem dX1_measure_37 : decode cX1_measure 37 = .ok (.aload_n 0, 1) := by decide +kernel
theorem dX1_measure_38 : decode cX1_measure 38 = .ok (.getfield 18, 3) := by decide +kernel
theorem dX1_measure_41 : decode cX1_measure 41 = .ok (.iload 5, 2) := by decide +kernel
theorem dX1_measure_43 : decode cX1_measure 43 = .ok (.aload_n 0, 1) := by decide +kernel
theorem dX1_measure_44 : decode cX1_measure 44 = .ok (.getfield 9, 3) := by decide +kernel
theorem dX1_measure_47 : decode cX1_measure 47 = .ok (.iload 5, 2) := by decide +kernel
theorem dX1_measure_49 : decode cX1_measure 49 = .ok (.iaload, 1) := by decide +kernel
theorem dX1_measure_50 : decode cX1_measure 50 = .ok (.invokestatic 36, 3) := by decide +kernel
theorem dX1_measure_53 : decode cX1_measure 53 = .ok (.aload_n 0, 1) := by decide +kernel
theorem dX1_measure_54 : decode cX1_measure 54 = .ok (.getfield 15, 3) := by decide +kernel
theorem dX1_measure_57 : decode cX1_measure 57 = .ok (.iload 5, 2) := by decide +kernel
theorem dX1_measure_59 : decode cX1_measure 59 = .ok (.iaload, 1) := by decide +kernel
theorem dX1_measure_60 : decode cX1_measure 60 = .ok (.invokestatic 36, 3) := by decide +kernel
theorem dX1_measure_63 : decode cX1_measure 63 = .ok (.iadd, 1) := by decide +kernel
theorem dX1_measure_64 : decode cX1_measure 64 = .ok (.iconst 4, 1) := by decide +kernel
theorem dX1_measure_65 : decode cX1_measure 65 = .ok (.iload_n 3, 1) := by decide +kernel
theorem dX1_measure_66 : decode cX1_measure 66 = .ok (.imul, 1) := by decide +kernel
theorem dX1_measure_67 : decode cX1_measure 67 = .ok (.if_icmp .lt 7, 3) := by decide +kernel
theorem dX1_measure_70 : decode cX1_measure 70 = .ok (.iconst 1, 1) := by decide +kernel
theorem dX1_measure_71 : decode cX1_measure 71 = .ok (.goto 4, 3) := by decide +kernel
theorem dX1_measure_74 : decode cX1_measure 74 = .ok (.iconst 0, 1) := by decide +kernel
theorem dX1_measure_75 : decode cX1_measure 75 = .ok (.bastore, 1) := by decide +kernel
theorem dX1_measure_76 : decode cX1_measure 76 = .ok (.iload 5, 2) := by decide +kernel
theorem dX1_measure_78 : decode cX1_measure 78 = .ok (.ifCond .le 38, 3) := by decide +kernel
theorem dX1_measure_81 : decode cX1_measure 81 = .ok (.aload_n 0, 1) := by decide +kernel
theorem dX1_measure_82 : decode cX1_measure 82 = .ok (.getfield 18, 3) := by decide +kernel
theorem dX1_measure_85 : decode cX1_measure 85 = .ok (.iload 5, 2) := by decide +kernel
theorem dX1_measure_87 : decode cX1_measure 87 = .ok (.baload, 1) := by decide +kernel
theorem dX1_measure_88 : decode cX1_measure 88 = .ok (.aload_n 0, 1) := by decide +kernel
theorem dX1_measure_89 : decode cX1_measure 89 = .ok (.getfield 18, 3) := by decide +kernel
theorem dX1_measure_92 : decode cX1_measure 92 = .ok (.iload 5, 2) := by decide +kernel
theorem dX1_measure_94 : decode cX1_measure 94 = .ok (.iconst 1, 1) := by decide +kernel
theorem dX1_measure_95 : decode cX1_measure 95 = .ok (.isub, 1) := by decide +kernel
theorem dX1_measure_96 : decode cX1_measure 96 = .ok (.baload, 1) := by decide +kernel
theorem dX1_measure_97 : decode cX1_measure 97 = .ok (.if_icmp .ne 19, 3) := by decide +kernel
theorem dX1_measure_100 : decode cX1_measure 100 = .ok (.aload_n 0, 1) := by decide +kernel
theorem dX1_measure_101 : decode cX1_measure 101 = .ok (.getfield 18, 3) := by decide +kernel
theorem dX1_measure_104 : decode cX1_measure 104 = .ok (.iload 5, 2) := by decide +kernel
theorem dX1_measure_106 : decode cX1_measure 106 = .ok (.baload, 1) := by decide +kernel
theorem dX1_measure_107 : decode cX1_measure 107 = .ok (.istore 4, 2) := by decide +kernel
theorem dX1_measure_109 : decode cX1_measure 109 = .ok (.aload_n 0, 1) := by decide +kernel
theorem dX1_measure_110 : decode cX1_measure 110 = .ok (.iload 5, 2) := by decide +kernel
theorem dX1_measure_112 : decode cX1_measure 112 = .ok (.iload_n 3, 1) := by decide +kernel
theorem dX1_measure_113 : decode cX1_measure 113 = .ok (.invokevirtual 42, 3) := by decide +kernel
theorem dX1_measure_116 : decode cX1_measure 116 = .ok (.aload_n 0, 1) := by decide +kernel
theorem dX1_measure_117 : decode cX1_measure 117 = .ok (.getfield 22, 3) := by decide +kernel
theorem dX1_measure_120 : decode cX1_measure 120 = .ok (.iload 5, 2) := by decide +kernel
theorem dX1_measure_122 : decode cX1_measure 122 = .ok (.iload 4, 2) := by decide +kernel
theorem dX1_measure_124 : decode cX1_measure 124 = .ok (.bastore, 1) := by decide +kernel
theorem dX1_measure_125 : decode cX1_measure 125 = .ok (.iinc 5 1, 3) := by decide +kernel
theorem dX1_measure_128 : decode cX1_measure 128 = .ok (.goto (-112), 3) := by decide +kernel
theorem dX1_measure_131 : decode cX1_measure 131 = .ok (.return_, 1) := by decide +kernel
theorem dX1_sumUp_0 : decode cX1_sumUp 0 = .ok (.iconst 0, 1) := by decide +kernel
theorem dX1_sumUp_1 : decode cX1_sumUp 1 = .ok (.istore 4, 2) := by decide +kernel
theorem dX1_sumUp_3 : decode cX1_sumUp 3 = .ok (.iconst 0, 1) := by decide +kernel
theorem dX1_sumUp_4 : decode cX1_sumUp 4 = .ok (.istore 5, 2) := by decide +kernel
theorem dX1_sumUp_6 : decode cX1_sumUp 6 = .ok (.iload_n 3, 1) := by decide +kernel
theorem dX1_sumUp_7 : decode cX1_sumUp 7 = .ok (.istore 6, 2) := by decide +kernel
theorem dX1_sumUp_9 : decode cX1_sumUp 9 = .ok (.iload 6, 2) := by decide +kernel
theorem dX1_sumUp_11 : decode cX1_sumUp 11 = .ok (.iload_n 3, 1) := by decide +kernel
theorem dX1_sumUp_12 : decode cX1_sumUp 12 = .ok (.bipush 8, 2) := by decide +kernel
theorem dX1_sumUp_14 : decode cX1_sumUp 14 = .ok (.iadd, 1) := by decide +kernel
theorem dX1_sumUp_15 : decode cX1_sumUp 15 = .ok (.if_icmp .ge 54, 3) := by decide +kernel
theorem dX1_sumUp_18 : decode cX1_sumUp 18 = .ok (.aload_n 1, 1) := by decide +kernel
theorem dX1_sumUp_19 : decode cX1_sumUp 19 = .ok (.iload_n 2, 1) := by decide +kernel
theorem dX1_sumUp_20 : decode cX1_sumUp 20 = .ok (.iload 6, 2) := by decide +kernel
theorem dX1_sumUp_22 : decode cX1_sumUp 22 = .ok (.invokevirtual 46, 3) := by decide +kernel
theorem dX1_sumUp_25 : decode cX1_sumUp 25 = .ok (.istore 7, 2) := by decide +kernel
theorem dX1_sumUp_27 : decode cX1_sumUp 27 = .ok (.iload_n 2, 1) := by decide +kernel
theorem dX1_sumUp_28 : decode cX1_sumUp 28 = .ok (.iload 6, 2) := by decide +kernel
theorem dX1_sumUp_30 : decode cX1_sumUp 30 = .ok (.invokestatic 52, 3) := by decide +kernel
theorem dX1_sumUp_33 : decode cX1_sumUp 33 = .ok (.istore 8, 2) := by decide +kernel
theorem dX1_sumUp_35 : decode cX1_sumUp 35 = .ok (.iload 4, 2) := by decide +kernel
theorem dX1_sumUp_37 : decode cX1_sumUp 37 = .ok (.iload 7, 2) := by decide +kernel
theorem dX1_sumUp_39 : decode cX1_sumUp 39 = .ok (.getstatic 55, 3) := by decide +kernel
theorem dX1_sumUp_42 : decode cX1_sumUp 42 = .ok (.iload 8, 2) := by decide +kernel
theorem dX1_sumUp_44 : decode cX1_sumUp 44 = .ok (.iaload, 1) := by decide +kernel
theorem dX1_sumUp_45 : decode cX1_sumUp 45 = .ok (.imul, 1) := by decide +kernel
theorem dX1_sumUp_46 : decode cX1_sumUp 46 = .ok (.iadd, 1) := by decide +kernel
theorem dX1_sumUp_47 : decode cX1_sumUp 47 = .ok (.istore 4, 2) := by decide +kernel
theorem dX1_sumUp_49 : decode cX1_sumUp 49 = .ok (.iload 5, 2) := by decide +kernel
theorem dX1_sumUp_51 : decode cX1_sumUp 51 = .ok (.iload 7, 2) := by decide +kernel
theorem dX1_sumUp_53 : decode cX1_sumUp 53 = .ok (.getstatic 58, 3) := by decide +kernel
theorem dX1_sumUp_56 : decode cX1_sumUp 56 = .ok (.iload 8, 2) := by decide +kernel
theorem dX1_sumUp_58 : decode cX1_sumUp 58 = .ok (.iaload, 1) := by decide +kernel
theorem dX1_sumUp_59 : decode cX1_sumUp 59 = .ok (.imul, 1) := by decide +kernel
theorem dX1_sumUp_60 : decode cX1_sumUp 60 = .ok (.iadd, 1) := by decide +kernel
theorem dX1_sumUp_61 : decode cX1_sumUp 61 = .ok (.istore 5, 2) := by decide +kernel
theorem dX1_sumUp_63 : decode cX1_sumUp 63 = .ok (.iinc 6 1, 3) := by decide +kernel
theorem dX1_sumUp_66 : decode cX1_sumUp 66 = .ok (.goto (-57), 3) := by decide +kernel
theorem dX1_sumUp_69 : decode cX1_sumUp 69 = .ok (.aload_n 0, 1) := by decide +kernel
theorem dX1_sumUp_70 : decode cX1_sumUp 70 = .ok (.getfield 9, 3) := by decide +kernel
theorem dX1_sumUp_73 : decode cX1_sumUp 73 = .ok (.iload_n 2, 1) := by decide +kernel
theorem dX1_sumUp_74 : decode cX1_sumUp 74 = .ok (.iload 4, 2) := by decide +kernel
theorem dX1_sumUp_76 : decode cX1_sumUp 76 = .ok (.iastore, 1) := by decide +kernel
theorem dX1_sumUp_77 : decode cX1_sumUp 77 = .ok (.aload_n 0, 1) := by decide +kernel
theorem dX1_sumUp_78 : decode cX1_sumUp 78 = .ok (.getfield 15, 3) := by decide +kernel
theorem dX1_sumUp_81 : decode cX1_sumUp 81 = .ok (.iload_n 2, 1) := by decide +kernel
theorem dX1_sumUp_82 : decode cX1_sumUp 82 = .ok (.iload 5, 2) := by decide +kernel
theorem dX1_sumUp_84 : decode cX1_sumUp 84 = .ok (.iastore, 1) := by decide +kernel
theorem dX1_sumUp_85 : decode cX1_sumUp 85 = .ok (.return_, 1) := by decide +kernel
theorem dX1_countPair_0 : decode cX1_countPair 0 = .ok (.iload_n 1, 1) := by decide +kernel
theorem dX1_countPair_1 : decode cX1_countPair 1 = .ok (.iconst 1, 1) := by decide +kernel
theorem dX1_countPair_2 : decode cX1_countPair 2 = .ok (.if_icmp .lt 23, 3) := by decide +kernel
theorem dX1_countPair_5 : decode cX1_countPair 5 = .ok (.aload_n 0, 1) := by decide +kernel
theorem dX1_countPair_6 : decode cX1_countPair 6 = .ok (.getfield 18, 3) := by decide +kernel
theorem dX1_countPair_9 : decode cX1_countPair 9 = .ok (.iload_n 1, 1) := by decide +kernel
theorem dX1_countPair_10 : decode cX1_countPair 10 = .ok (.baload, 1) := by decide +kernel
theorem dX1_countPair_11 : decode cX1_countPair 11 = .ok (.ifCond .eq 14, 3) := by decide +kernel
theorem dX1_countPair_14 : decode cX1_countPair 14 = .ok (.aload_n 0, 1) := by decide +kernel
theorem dX1_countPair_15 : decode cX1_countPair 15 = .ok (.getfield 18, 3) := by decide +kernel
theorem dX1_countPair_18 : decode cX1_countPair 18 = .ok (.iload_n 1, 1) := by decide +kernel
theorem dX1_countPair_19 : decode cX1_countPair 19 = .ok (.iconst 1, 1) := by decide +kernel
theorem dX1_countPair_20 : decode cX1_countPair 20 = .ok (.isub, 1) := by decide +kernel
theorem dX1_countPair_21 : decode cX1_countPair 21 = .ok (.baload, 1) := by decide +kernel
theorem dX1_countPair_22 : decode cX1_countPair 22 = .ok (.ifCond .ne 4, 3) := by decide +kernel
theorem dX1_countPair_25 : decode cX1_countPair 25 = .ok (.return_, 1) := by decide +kernel
theorem dX1_countPair_26 : decode cX1_countPair 26 = .ok (.aload_n 0, 1) := by decide +kernel
theorem dX1_countPair_27 : decode cX1_countPair 27 = .ok (.getfield 15, 3) := by decide +kernel
theorem dX1_countPair_30 : decode cX1_countPair 30 = .ok (.iload_n 1, 1) := by decide +kernel
theorem dX1_countPair_31 : decode cX1_countPair 31 = .ok (.iconst 1, 1) := by decide +kernel
theorem dX1_countPair_32 : decode cX1_countPair 32 = .ok (.isub, 1) := by decide +kernel
theorem dX1_countPair_33 : decode cX1_countPair 33 = .ok (.iaload, 1) := by decide +kernel
theorem dX1_countPair_34 : decode cX1_countPair 34 = .ok (.istore_n 3, 1) := by decide +kernel
theorem dX1_countPair_35 : decode cX1_countPair 35 = .ok (.aload_n 0, 1) := by decide +kernel
theorem dX1_countPair_36 : decode cX1_countPair 36 = .ok (.getfield 15, 3) := by decide +kernel
theorem dX1_countPair_39 : decode cX1_countPair 39 = .ok (.iload_n 1, 1) := by decide +kernel
theorem dX1_countPair_40 : decode cX1_countPair 40 = .ok (.iaload, 1) := by decide +kernel
theorem dX1_countPair_41 : decode cX1_countPair 41 = .ok (.istore 4, 2) := by decide +kernel
theorem dX1_countPair_43 : decode cX1_countPair 43 = .ok (.iload_n 3, 1) := by decide +kernel
theorem dX1_countPair_44 : decode cX1_countPair 44 = .ok (.iload 4, 2) := by decide +kernel
theorem dX1_countPair_46 : decode cX1_countPair 46 = .ok (.imul, 1) := by decide +kernel
theorem dX1_countPair_47 : decode cX1_countPair 47 = .ok (.ifCond .ge 33, 3) := by decide +kernel
theorem dX1_countPair_50 : decode cX1_countPair 50 = .ok (.iload_n 3, 1) := by decide +kernel
theorem dX1_countPair_51 : decode cX1_countPair 51 = .ok (.invokestatic 36, 3) := by decide +kernel
theorem dX1_countPair_54 : decode cX1_countPair 54 = .ok (.iload_n 2, 1) := by decide +kernel
theorem dX1_countPair_55 : decode cX1_countPair 55 = .ok (.if_icmp .lt 25, 3) := by decide +kernel
theorem dX1_countPair_58 : decode cX1_countPair 58 = .ok (.iload 4, 2) := by decide +kernel
theorem dX1_countPair_60 : decode cX1_countPair 60 = .ok (.invokestatic 36, 3) := by decide +kernel
theorem dX1_countPair_63 : decode cX1_countPair 63 = .ok (.iload_n 2, 1) := by decide +kernel
theorem dX1_countPair_64 : decode cX1_countPair 64 = .ok (.if_icmp .lt 16, 3) := by decide +kernel
theorem dX1_countPair_67 : decode cX1_countPair 67 = .ok (.aload_n 0, 1) := by decide +kernel
theorem dX1_countPair_68 : decode cX1_countPair 68 = .ok (.dup, 1) := by decide +kernel
theorem dX1_countPair_69 : decode cX1_countPair 69 = .ok (.getfield 25, 3) := by decide +kernel
theorem dX1_countPair_72 : decode cX1_countPair 72 = .ok (.iconst 1, 1) := by decide +kernel
theorem dX1_countPair_73 : decode cX1_countPair 73 = .ok (.iadd, 1) := by decide +kernel
theorem dX1_countPair_74 : decode cX1_countPair 74 = .ok (.putfield 25, 3) := by decide +kernel
theorem dX1_countPair_77 : decode cX1_countPair 77 = .ok (.goto 13, 3) := by decide +kernel
theorem dX1_countPair_80 : decode cX1_countPair 80 = .ok (.aload_n 0, 1) := by decide +kernel
theorem dX1_countPair_81 : decode cX1_countPair 81 = .ok (.dup, 1) := by decide +kernel
theorem dX1_countPair_82 : decode cX1_countPair 82 = .ok (.getfield 29, 3) := by decide +kernel
theorem dX1_countPair_85 : decode cX1_countPair 85 = .ok (.iconst 1, 1) := by decide +kernel
theorem dX1_countPair_86 : decode cX1_countPair 86 = .ok (.iadd, 1) := by decide +kernel
theorem dX1_countPair_87 : decode cX1_countPair 87 = .ok (.putfield 29, 3) := by decide +kernel
theorem dX1_countPair_90 : decode cX1_countPair 90 = .ok (.return_, 1) := by decide +kernel
theorem dX1_guessedStandard_0 : decode cX1_guessedStandard 0 = .ok (.aload_n 0, 1) := by decide +kernel
theorem dX1_guessedStandard_1 : decode cX1_guessedStandard 1 = .ok (.getfield 25, 3) := by decide +kernel
theorem dX1_guessedStandard_4 : decode cX1_guessedStandard 4 = .ok (.aload_n 0, 1) := by decide +kernel
theorem dX1_guessedStandard_5 : decode cX1_guessedStandard 5 = .ok (.getfield 29, 3) := by decide +kernel
theorem dX1_guessedStandard_8 : decode cX1_guessedStandard 8 = .ok (.if_icmp .le 7, 3) := by decide +kernel
theorem dX1_guessedStandard_11 : decode cX1_guessedStandard 11 = .ok (.iconst 1, 1) := by decide +kernel
theorem dX1_guessedStandard_12 : decode cX1_guessedStandard 12 = .ok (.goto 4, 3) := by decide +kernel
theorem dX1_guessedStandard_15 : decode cX1_guessedStandard 15 = .ok (.iconst 0, 1) := by decide +kernel
theorem dX1_guessedStandard_16 : decode cX1_guessedStandard 16 = .ok (.invokestatic 61, 3) := by decide +kernel
theorem dX1_guessedStandard_19 : decode cX1_guessedStandard 19 = .ok (.ireturn, 1) := by decide +kernel
theorem dX2_init_0 : decode cX2_init 0 = .ok (.aload_n 0, 1) := by decide +kernel
theorem dX2_init_1 : decode cX2_init 1 = .ok (.invokespecial 3, 3) := by decide +kernel
theorem dX2_init_4 : decode cX2_init 4 = .ok (.aload_n 0, 1) := by decide +kernel
theorem dX2_init_5 : decode cX2_init 5 = .ok (.bipush 80, 2) := by decide +kernel
theorem dX2_init_7 : decode cX2_init 7 = .ok (.newarray .float, 2) := by decide +kernel
theorem dX2_init_9 : decode cX2_init 9 = .ok (.putfield 9, 3) := by decide +kernel
theorem dX2_init_12 : decode cX2_init 12 = .ok (.aload_n 0, 1) := by decide +kernel
theorem dX2_init_13 : decode cX2_init 13 = .ok (.bipush 80, 2) := by decide +kernel
theorem dX2_init_15 : decode cX2_init 15 = .ok (.newarray .float, 2) := by decide +kernel
theorem dX2_init_17 : decode cX2_init 17 = .ok (.putfield 15, 3) := by decide +kernel
theorem dX2_init_20 : decode cX2_init 20 = .ok (.aload_n 0, 1) := by decide +kernel
theorem dX2_init_21 : decode cX2_init 21 = .ok (.bipush 80, 2) := by decide +kernel
theorem dX2_init_23 : decode cX2_init 23 = .ok (.newarray .float, 2) := by decide +kernel
theorem dX2_init_25 : decode cX2_init 25 = .ok (.putfield 18, 3) := by decide +kernel
theorem dX2_init_28 : decode cX2_init 28 = .ok (.aload_n 0, 1) := by decide +kernel
theorem dX2_init_29 : decode cX2_init 29 = .ok (.bipush 80, 2) := by decide +kernel
theorem dX2_init_31 : decode cX2_init 31 = .ok (.newarray .float, 2) := by decide +kernel
theorem dX2_init_33 : decode cX2_init 33 = .ok (.putfield 21, 3) := by decide +kernel
theorem dX2_init_36 : decode cX2_init 36 = .ok (.return_, 1) := by decide +kernel
theorem dX2_turn_0 : decode cX2_turn 0 = .ok (.iconst 0, 1) := by decide +kernel
theorem dX2_turn_1 : decode cX2_turn 1 = .ok (.istore 5, 2) := by decide +kernel
theorem dX2_turn_3 : decode cX2_turn 3 = .ok (.iload 5, 2) := by decide +kernel
theorem dX2_turn_5 : decode cX2_turn 5 = .ok (.bipush 8, 2) := by decide +kernel
theorem dX2_turn_7 : decode cX2_turn 7 = .ok (.if_icmp .ge 140, 3) := by decide +kernel
theorem dX2_turn_10 : decode cX2_turn 10 = .ok (.aload_n 2, 1) := by decide +kernel
theorem dX2_turn_11 : decode cX2_turn 11 = .ok (.getfield 24, 3) := by decide +kernel
theorem dX2_turn_14 : decode cX2_turn 14 = .ok (.iload 5, 2) := by decide +kernel
theorem dX2_turn_16 : decode cX2_turn 16 = .ok (.baload, 1) := by decide +kernel
theorem dX2_turn_17 : decode cX2_turn 17 = .ok (.ifCond .eq 13, 3) := by decide +kernel
theorem dX2_turn_20 : decode cX2_turn 20 = .ok (.aload_n 3, 1) := by decide +kernel
theorem dX2_turn_21 : decode cX2_turn 21 = .ok (.getfield 30, 3) := by decide +kernel
theorem dX2_turn_24 : decode cX2_turn 24 = .ok (.iload 5, 2) := by decide +kernel
theorem dX2_turn_26 : decode cX2_turn 26 = .ok (.faload, 1) := by decide +kernel
theorem dX2_turn_27 : decode cX2_turn 27 = .ok (.goto 4, 3) := by decide +kernel
theorem dX2_turn_30 : decode cX2_turn 30 = .ok (.fconst 0, 1) := by decide +kernel
theorem dX2_turn_31 : decode cX2_turn 31 = .ok (.fstore 6, 2) := by decide +kernel
theorem dX2_turn_33 : decode cX2_turn 33 = .ok (.aload_n 2, 1) := by decide +kernel
theorem dX2_turn_34 : decode cX2_turn 34 = .ok (.getfield 24, 3) := by decide +kernel
theorem dX2_turn_37 : decode cX2_turn 37 = .ok (.iload 5, 2) := by decide +kernel
theorem dX2_turn_39 : decode cX2_turn 39 = .ok (.baload, 1) := by decide +kernel
theorem dX2_turn_40 : decode cX2_turn 40 = .ok (.ifCond .eq 13, 3) := by decide +kernel
theorem dX2_turn_43 : decode cX2_turn 43 = .ok (.aload_n 3, 1) := by decide +kernel
theorem dX2_turn_44 : decode cX2_turn 44 = .ok (.getfield 35, 3) := by decide +kernel
theorem dX2_turn_47 : decode cX2_turn 47 = .ok (.iload 5, 2) := by decide +kernel
theorem dX2_turn_49 : decode cX2_turn 49 = .ok (.faload, 1) := by decide +kernel
theorem dX2_turn_50 : decode cX2_turn 50 = .ok (.goto 4, 3) := by decide +kernel
theorem dX2_turn_53 : decode cX2_turn 53 = .ok (.fconst 0, 1) := by decide +kernel
theorem dX2_turn_54 : decode cX2_turn 54 = .ok (.fstore 7, 2) := by decide +kernel
theorem dX2_turn_56 : decode cX2_turn 56 = .ok (.iload 4, 2) := by decide +kernel
theorem dX2_turn_58 : decode cX2_turn 58 = .ok (.iconst 1, 1) := by decide +kernel
theorem dX2_turn_59 : decode cX2_turn 59 = .ok (.if_icmp .ne 15, 3) := by decide +kernel
theorem dX2_turn_62 : decode cX2_turn 62 = .ok (.iload 5, 2) := by decide +kernel
theorem dX2_turn_64 : decode cX2_turn 64 = .ok (.iconst 1, 1) := by decide +kernel
theorem dX2_turn_65 : decode cX2_turn 65 = .ok (.iand, 1) := by decide +kernel
theorem dX2_turn_66 : decode cX2_turn 66 = .ok (.iconst 1, 1) := by decide +kernel
theorem dX2_turn_67 : decode cX2_turn 67 = .ok (.if_icmp .ne 7, 3) := by decide +kernel
theorem dX2_turn_70 : decode cX2_turn 70 = .ok (.iconst 1, 1) := by decide +kernel
theorem dX2_turn_71 : decode cX2_turn 71 = .ok (.goto 4, 3) := by decide +kernel
theorem dX2_turn_74 : decode cX2_turn 74 = .ok (.iconst 0, 1) := by decide +kernel
theorem dX2_turn_75 : decode cX2_turn 75 = .ok (.istore 8, 2) := by decide +kernel
theorem dX2_turn_77 : decode cX2_turn 77 = .ok (.iload 4, 2) := by decide +kernel
theorem dX2_turn_79 : decode cX2_turn 79 = .ok (.iconst 1, 1) := by decide +kernel
theorem dX2_turn_80 : decode cX2_turn 80 = .ok (.if_icmp .ne 12, 3) := by decide +kernel
theorem dX2_turn_83 : decode cX2_turn 83 = .ok (.iload 5, 2) := by decide +kernel
theorem dX2_turn_85 : decode cX2_turn 85 = .ok (.ifCond .le 7, 3) := by decide +kernel
theorem dX2_turn_88 : decode cX2_turn 88 = .ok (.iconst 1, 1) := by decide +kernel
theorem dX2_turn_89 : decode cX2_turn 89 = .ok (.goto 4, 3) := by decide +kernel
theorem dX2_turn_92 : decode cX2_turn 92 = .ok (.iconst 0, 1) := by decide +kernel
theorem dX2_turn_93 : decode cX2_turn 93 = .ok (.istore 9, 2) := by decide +kernel
theorem dX2_turn_95 : decode cX2_turn 95 = .ok (.iconst 0, 1) := by decide +kernel
theorem dX2_turn_96 : decode cX2_turn 96 = .ok (.istore 10, 2) := by decide +kernel
theorem dX2_turn_98 : decode cX2_turn 98 = .ok (.iload 10, 2) := by decide +kernel
theorem dX2_turn_100 : decode cX2_turn 100 = .ok (.bipush 10, 2) := by decide +kernel
theorem dX2_turn_102 : decode cX2_turn 102 = .ok (.if_icmp .ge 39, 3) := by decide +kernel
theorem dX2_turn_105 : decode cX2_turn 105 = .ok (.iload 5, 2) := by decide +kernel
theorem dX2_turn_107 : decode cX2_turn 107 = .ok (.iload 10, 2) := by decide +kernel
theorem dX2_turn_109 : decode cX2_turn 109 = .ok (.invokestatic 38, 3) := by decide +kernel
theorem dX2_turn_112 : decode cX2_turn 112 = .ok (.istore 11, 2) := by decide +kernel
theorem dX2_turn_114 : decode cX2_turn 114 = .ok (.aload_n 0, 1) := by decide +kernel
theorem dX2_turn_115 : decode cX2_turn 115 = .ok (.aload_n 1, 1) := by decide +kernel
theorem dX2_turn_116 : decode cX2_turn 116 = .ok (.iload 11, 2) := by decide +kernel
theorem dX2_turn_118 : decode cX2_turn 118 = .ok (.fload 6, 2) := by decide +kernel
theorem dX2_turn_120 : decode cX2_turn 120 = .ok (.fload 7, 2) := by decide +kernel
theorem dX2_turn_122 : decode cX2_turn 122 = .ok (.iload 8, 2) := by decide +kernel
theorem dX2_turn_124 : decode cX2_turn 124 = .ok (.invokevirtual 42, 3) := by decide +kernel
theorem dX2_turn_127 : decode cX2_turn 127 = .ok (.aload_n 0, 1) := by decide +kernel
theorem dX2_turn_128 : decode cX2_turn 128 = .ok (.iload 11, 2) := by decide +kernel
theorem dX2_turn_130 : decode cX2_turn 130 = .ok (.iload 9, 2) := by decide +kernel
theorem dX2_turn_132 : decode cX2_turn 132 = .ok (.invokevirtual 46, 3) := by decide +kernel
theorem dX2_turn_135 : decode cX2_turn 135 = .ok (.iinc 10 1, 3) := by decide +kernel
theorem dX2_turn_138 : decode cX2_turn 138 = .ok (.goto (-40), 3) := by decide +kernel
theorem dX2_turn_141 : decode cX2_turn 141 = .ok (.iinc 5 1, 3) := by decide +kernel
theorem dX2_turn_144 : decode cX2_turn 144 = .ok (.goto (-141), 3) := by decide +kernel
theorem dX2_turn_147 : decode cX2_turn 147 = .ok (.return_, 1) := by decide +kernel
theorem dX2_turnSegment_0 : decode cX2_turnSegment 0 = .ok (.fconst 0, 1) := by decide +kernel
theorem dX2_turnSegment_1 : decode cX2_turnSegment 1 = .ok (.fstore 6, 2) := by decide +kernel
theorem dX2_turnSegment_3 : decode cX2_turnSegment 3 = .ok (.fconst 0, 1) := by decide +kernel
theorem dX2_turnSegment_4 : decode cX2_turnSegment 4 = .ok (.fstore 7, 2) := by decide +kernel
theorem dX2_turnSegment_6 : decode cX2_turnSegment 6 = .ok (.fload_n 3, 1) := by decide +kernel
theorem dX2_turnSegment_7 : decode cX2_turnSegment 7 = .ok (.fload_n 3, 1) := by decide +kernel
theorem dX2_turnSegment_8 : decode cX2_turnSegment 8 = .ok (.fmul, 1) := by decide +kernel
theorem dX2_turnSegment_9 : decode cX2_turnSegment 9 = .ok (.fload 4, 2) := by decide +kernel
theorem dX2_turnSegment_11 : decode cX2_turnSegment 11 = .ok (.fload 4, 2) := by decide +kernel
theorem dX2_turnSegment_13 : decode cX2_turnSegment 13 = .ok (.fmul, 1) := by decide +kernel
theorem dX2_turnSegment_14 : decode cX2_turnSegment 14 = .ok (.fadd, 1) := by decide +kernel
theorem dX2_turnSegment_15 : decode cX2_turnSegment 15 = .ok (.fstore 8, 2) := by decide +kernel
theorem dX2_turnSegment_17 : decode cX2_turnSegment 17 = .ok (.fload 8, 2) := by decide +kernel
theorem dX2_turnSegment_19 : decode cX2_turnSegment 19 = .ok (.fconst 0, 1) := by decide +kernel
theorem dX2_turnSegment_20 : decode cX2_turnSegment 20 = .ok (.fcmp .l, 1) := by decide +kernel
theorem dX2_turnSegment_21 : decode cX2_turnSegment 21 = .ok (.ifCond .eq 74, 3) := by decide +kernel
theorem dX2_turnSegment_24 : decode cX2_turnSegment 24 = .ok (.aload_n 1, 1) := by decide +kernel
theorem dX2_turnSegment_25 : decode cX2_turnSegment 25 = .ok (.getfield 50, 3) := by decide +kernel
theorem dX2_turnSegment_28 : decode cX2_turnSegment 28 = .ok (.iload_n 2, 1) := by decide +kernel
theorem dX2_turnSegment_29 : decode cX2_turnSegment 29 = .ok (.iaload, 1) := by decide +kernel
theorem dX2_turnSegment_30 : decode cX2_turnSegment 30 = .ok (.i2f, 1) := by decide +kernel
theorem dX2_turnSegment_31 : decode cX2_turnSegment 31 = .ok (.ldc 55, 2) := by decide +kernel
theorem dX2_turnSegment_33 : decode cX2_turnSegment 33 = .ok (.fdiv, 1) := by decide +kernel
theorem dX2_turnSegment_34 : decode cX2_turnSegment 34 = .ok (.fstore 9, 2) := by decide +kernel
theorem dX2_turnSegment_36 : decode cX2_turnSegment 36 = .ok (.aload_n 1, 1) := by decide +kernel
theorem dX2_turnSegment_37 : decode cX2_turnSegment 37 = .ok (.getfield 56, 3) := by decide +kernel
theorem dX2_turnSegment_40 : decode cX2_turnSegment 40 = .ok (.iload_n 2, 1) := by decide +kernel
theorem dX2_turnSegment_41 : decode cX2_turnSegment 41 = .ok (.iaload, 1) := by decide +kernel
theorem dX2_turnSegment_42 : decode cX2_turnSegment 42 = .ok (.i2f, 1) := by decide +kernel
theorem dX2_turnSegment_43 : decode cX2_turnSegment 43 = .ok (.ldc 55, 2) := by decide +kernel
theorem dX2_turnSegment_45 : decode cX2_turnSegment 45 = .ok (.fdiv, 1) := by decide +kernel
theorem dX2_turnSegment_46 : decode cX2_turnSegment 46 = .ok (.fstore 10, 2) := by decide +kernel
theorem dX2_turnSegment_48 : decode cX2_turnSegment 48 = .ok (.fload 9, 2) := by decide +kernel
theorem dX2_turnSegment_50 : decode cX2_turnSegment 50 = .ok (.fload_n 3, 1) := by decide +kernel
theorem dX2_turnSegment_51 : decode cX2_turnSegment 51 = .ok (.fmul, 1) := by decide +kernel
theorem dX2_turnSegment_52 : decode cX2_turnSegment 52 = .ok (.fload 10, 2) := by decide +kernel
theorem dX2_turnSegment_54 : decode cX2_turnSegment 54 = .ok (.fload 4, 2) := by decide +kernel
theorem dX2_turnSegment_56 : decode cX2_turnSegment 56 = .ok (.fmul, 1) := by decide +kernel
theorem dX2_turnSegment_57 : decode cX2_turnSegment 57 = .ok (.fadd, 1) := by decide +kernel
theorem dX2_turnSegment_58 : decode cX2_turnSegment 58 = .ok (.ldc 58, 2) := by decide +kernel
theorem dX2_turnSegment_60 : decode cX2_turnSegment 60 = .ok (.fmul, 1) := by decide +kernel
theorem dX2_turnSegment_61 : decode cX2_turnSegment 61 = .ok (.fload 8, 2) := by decide +kernel
theorem dX2_turnSegment_63 : decode cX2_turnSegment 63 = .ok (.fdiv, 1) := by decide +kernel
theorem dX2_turnSegment_64 : decode cX2_turnSegment 64 = .ok (.fstore 6, 2) := by decide +kernel
theorem dX2_turnSegment_66 : decode cX2_turnSegment 66 = .ok (.fload 10, 2) := by decide +kernel
theorem dX2_turnSegment_68 : decode cX2_turnSegment 68 = .ok (.fload_n 3, 1) := by decide +kernel
theorem dX2_turnSegment_69 : decode cX2_turnSegment 69 = .ok (.fmul, 1) := by decide +kernel
theorem dX2_turnSegment_70 : decode cX2_turnSegment 70 = .ok (.fload 9, 2) := by decide +kernel
theorem dX2_turnSegment_72 : decode cX2_turnSegment 72 = .ok (.fload 4, 2) := by decide +kernel
theorem dX2_turnSegment_74 : decode cX2_turnSegment 74 = .ok (.fmul, 1) := by decide +kernel
theorem dX2_turnSegment_75 : decode cX2_turnSegment 75 = .ok (.fsub, 1) := by decide +kernel
theorem dX2_turnSegment_76 : decode cX2_turnSegment 76 = .ok (.ldc 58, 2) := by decide +kernel
theorem dX2_turnSegment_78 : decode cX2_turnSegment 78 = .ok (.fmul, 1) := by decide +kernel
theorem dX2_turnSegment_79 : decode cX2_turnSegment 79 = .ok (.fload 8, 2) := by decide +kernel
theorem dX2_turnSegment_81 : decode cX2_turnSegment 81 = .ok (.fdiv, 1) := by decide +kernel
theorem dX2_turnSegment_82 : decode cX2_turnSegment 82 = .ok (.fstore 7, 2) := by decide +kernel
theorem dX2_turnSegment_84 : decode cX2_turnSegment 84 = .ok (.iload 5, 2) := by decide +kernel
theorem dX2_turnSegment_86 : decode cX2_turnSegment 86 = .ok (.ifCond .eq 9, 3) := by decide +kernel
theorem dX2_turnSegment_89 : decode cX2_turnSegment 89 = .ok (.fconst 0, 1) := by decide +kernel
theorem dX2_turnSegment_90 : decode cX2_turnSegment 90 = .ok (.fload 7, 2) := by decide +kernel
theorem dX2_turnSegment_92 : decode cX2_turnSegment 92 = .ok (.fsub, 1) := by decide +kernel
theorem dX2_turnSegment_93 : decode cX2_turnSegment 93 = .ok (.fstore 7, 2) := by decide +kernel
theorem dX2_turnSegment_95 : decode cX2_turnSegment 95 = .ok (.aload_n 0, 1) := by decide +kernel
theorem dX2_turnSegment_96 : decode cX2_turnSegment 96 = .ok (.getfield 9, 3) := by decide +kernel
theorem dX2_turnSegment_99 : decode cX2_turnSegment 99 = .ok (.iload_n 2, 1) := by decide +kernel
theorem dX2_turnSegment_100 : decode cX2_turnSegment 100 = .ok (.fload 6, 2) := by decide +kernel
theorem dX2_turnSegment_102 : decode cX2_turnSegment 102 = .ok (.fastore, 1) := by decide +kernel
theorem dX2_turnSegment_103 : decode cX2_turnSegment 103 = .ok (.aload_n 0, 1) := by decide +kernel
theorem dX2_turnSegment_104 : decode cX2_turnSegment 104 = .ok (.getfield 15, 3) := by decide +kernel
theorem dX2_turnSegment_107 : decode cX2_turnSegment 107 = .ok (.iload_n 2, 1) := by decide +kernel
theorem dX2_turnSegment_108 : decode cX2_turnSegment 108 = .ok (.fload 7, 2) := by decide +kernel
theorem dX2_turnSegment_110 : decode cX2_turnSegment 110 = .ok (.fastore, 1) := by decide +kernel
theorem dX2_turnSegment_111 : decode cX2_turnSegment 111 = .ok (.return_, 1) := by decide +kernel
theorem dX2_mixSegment_0 : decode cX2_mixSegment 0 = .ok (.iload_n 1, 1) := by decide +kernel
theorem dX2_mixSegment_1 : decode cX2_mixSegment 1 = .ok (.bipush 10, 2) := by decide +kernel
theorem dX2_mixSegment_3 : decode cX2_mixSegment 3 = .ok (.isub, 1) := by decide +kernel
theorem dX2_mixSegment_4 : decode cX2_mixSegment 4 = .ok (.istore_n 3, 1) := by decide +kernel
theorem dX2_mixSegment_5 : decode cX2_mixSegment 5 = .ok (.iload_n 2, 1) := by decide +kernel
theorem dX2_mixSegment_6 : decode cX2_mixSegment 6 = .ok (.ifCond .eq 54, 3) := by decide +kernel
theorem dX2_mixSegment_9 : decode cX2_mixSegment 9 = .ok (.iload_n 3, 1) := by decide +kernel
theorem dX2_mixSegment_10 : decode cX2_mixSegment 10 = .ok (.ifCond .lt 50, 3) := by decide +kernel
theorem dX2_mixSegment_13 : decode cX2_mixSegment 13 = .ok (.aload_n 0, 1) := by decide +kernel
theorem dX2_mixSegment_14 : decode cX2_mixSegment 14 = .ok (.getfield 18, 3) := by decide +kernel
theorem dX2_mixSegment_17 : decode cX2_mixSegment 17 = .ok (.iload_n 1, 1) := by decide +kernel
theorem dX2_mixSegment_18 : decode cX2_mixSegment 18 = .ok (.aload_n 0, 1) := by decide +kernel
theorem dX2_mixSegment_19 : decode cX2_mixSegment 19 = .ok (.getfield 9, 3) := by decide +kernel
theorem dX2_mixSegment_22 : decode cX2_mixSegment 22 = .ok (.iload_n 1, 1) := by decide +kernel
theorem dX2_mixSegment_23 : decode cX2_mixSegment 23 = .ok (.faload, 1) := by decide +kernel
theorem dX2_mixSegment_24 : decode cX2_mixSegment 24 = .ok (.aload_n 0, 1) := by decide +kernel
theorem dX2_mixSegment_25 : decode cX2_mixSegment 25 = .ok (.getfield 9, 3) := by decide +kernel
theorem dX2_mixSegment_28 : decode cX2_mixSegment 28 = .ok (.iload_n 3, 1) := by decide +kernel
theorem dX2_mixSegment_29 : decode cX2_mixSegment 29 = .ok (.faload, 1) := by decide +kernel
theorem dX2_mixSegment_30 : decode cX2_mixSegment 30 = .ok (.fadd, 1) := by decide +kernel
theorem dX2_mixSegment_31 : decode cX2_mixSegment 31 = .ok (.ldc 59, 2) := by decide +kernel
theorem dX2_mixSegment_33 : decode cX2_mixSegment 33 = .ok (.fmul, 1) := by decide +kernel
theorem dX2_mixSegment_34 : decode cX2_mixSegment 34 = .ok (.fastore, 1) := by decide +kernel
theorem dX2_mixSegment_35 : decode cX2_mixSegment 35 = .ok (.aload_n 0, 1) := by decide +kernel
theorem dX2_mixSegment_36 : decode cX2_mixSegment 36 = .ok (.getfield 21, 3) := by decide +kernel
theorem dX2_mixSegment_39 : decode cX2_mixSegment 39 = .ok (.iload_n 1, 1) := by decide +kernel
theorem dX2_mixSegment_40 : decode cX2_mixSegment 40 = .ok (.aload_n 0, 1) := by decide +kernel
theorem dX2_mixSegment_41 : decode cX2_mixSegment 41 = .ok (.getfield 15, 3) := by decide +kernel
theorem dX2_mixSegment_44 : decode cX2_mixSegment 44 = .ok (.iload_n 1, 1) := by decide +kernel
theorem dX2_mixSegment_45 : decode cX2_mixSegment 45 = .ok (.faload, 1) := by decide +kernel
theorem dX2_mixSegment_46 : decode cX2_mixSegment 46 = .ok (.aload_n 0, 1) := by decide +kernel
theorem dX2_mixSegment_47 : decode cX2_mixSegment 47 = .ok (.getfield 15, 3) := by decide +kernel
theorem dX2_mixSegment_50 : decode cX2_mixSegment 50 = .ok (.iload_n 3, 1) := by decide +kernel
theorem dX2_mixSegment_51 : decode cX2_mixSegment 51 = .ok (.faload, 1) := by decide +kernel
theorem dX2_mixSegment_52 : decode cX2_mixSegment 52 = .ok (.fadd, 1) := by decide +kernel
theorem dX2_mixSegment_53 : decode cX2_mixSegment 53 = .ok (.ldc 59, 2) := by decide +kernel
theorem dX2_mixSegment_55 : decode cX2_mixSegment 55 = .ok (.fmul, 1) := by decide +kernel
theorem dX2_mixSegment_56 : decode cX2_mixSegment 56 = .ok (.fastore, 1) := by decide +kernel
theorem dX2_mixSegment_57 : decode cX2_mixSegment 57 = .ok (.goto 27, 3) := by decide +kernel
theorem dX2_mixSegment_60 : decode cX2_mixSegment 60 = .ok (.aload_n 0, 1) := by decide +kernel
theorem dX2_mixSegment_61 : decode cX2_mixSegment 61 = .ok (.getfield 18, 3) := by decide +kernel
theorem dX2_mixSegment_64 : decode cX2_mixSegment 64 = .ok (.iload_n 1, 1) := by decide +kernel
theorem dX2_mixSegment_65 : decode cX2_mixSegment 65 = .ok (.aload_n 0, 1) := by decide +kernel
theorem dX2_mixSegment_66 : decode cX2_mixSegment 66 = .ok (.getfield 9, 3) := by decide +kernel
theorem dX2_mixSegment_69 : decode cX2_mixSegment 69 = .ok (.iload_n 1, 1) := by decide +kernel
theorem dX2_mixSegment_70 : decode cX2_mixSegment 70 = .ok (.faload, 1) := by decide +kernel
theorem dX2_mixSegment_71 : decode cX2_mixSegment 71 = .ok (.fastore, 1) := by decide +kernel
theorem dX2_mixSegment_72 : decode cX2_mixSegment 72 = .ok (.aload_n 0, 1) := by decide +kernel
theorem dX2_mixSegment_73 : decode cX2_mixSegment 73 = .ok (.getfield 21, 3) := by decide +kernel
theorem dX2_mixSegment_76 : decode cX2_mixSegment 76 = .ok (.iload_n 1, 1) := by decide +kernel
theorem dX2_mixSegment_77 : decode cX2_mixSegment 77 = .ok (.aload_n 0, 1) := by decide +kernel
theorem dX2_mixSegment_78 : decode cX2_mixSegment 78 = .ok (.getfield 15, 3) := by decide +kernel
theorem dX2_mixSegment_81 : decode cX2_mixSegment 81 = .ok (.iload_n 1, 1) := by decide +kernel
theorem dX2_mixSegment_82 : decode cX2_mixSegment 82 = .ok (.faload, 1) := by decide +kernel
theorem dX2_mixSegment_83 : decode cX2_mixSegment 83 = .ok (.fastore, 1) := by decide +kernel
theorem dX2_mixSegment_84 : decode cX2_mixSegment 84 = .ok (.return_, 1) := by decide +kernel
theorem dX3_init_0 : decode cX3_init 0 = .ok (.aload_n 0, 1) := by decide +kernel
theorem dX3_init_1 : decode cX3_init 1 = .ok (.invokespecial 3, 3) := by decide +kernel
theorem dX3_init_4 : decode cX3_init 4 = .ok (.aload_n 0, 1) := by decide +kernel
theorem dX3_init_5 : decode cX3_init 5 = .ok (.bipush 80, 2) := by decide +kernel
theorem dX3_init_7 : decode cX3_init 7 = .ok (.newarray .int, 2) := by decide +kernel
theorem dX3_init_9 : decode cX3_init 9 = .ok (.putfield 9, 3) := by decide +kernel
theorem dX3_init_12 : decode cX3_init 12 = .ok (.aload_n 0, 1) := by decide +kernel
theorem dX3_init_13 : decode cX3_init 13 = .ok (.bipush 80, 2) := by decide +kernel
theorem dX3_init_15 : decode cX3_init 15 = .ok (.newarray .int, 2) := by decide +kernel
theorem dX3_init_17 : decode cX3_init 17 = .ok (.putfield 15, 3) := by decide +kernel
theorem dX3_init_20 : decode cX3_init 20 = .ok (.aload_n 0, 1) := by decide +kernel
theorem dX3_init_21 : decode cX3_init 21 = .ok (.bipush 80, 2) := by decide +kernel
theorem dX3_init_23 : decode cX3_init 23 = .ok (.newarray .int, 2) := by decide +kernel
theorem dX3_init_25 : decode cX3_init 25 = .ok (.putfield 18, 3) := by decide +kernel
theorem dX3_init_28 : decode cX3_init 28 = .ok (.aload_n 0, 1) := by decide +kernel
theorem dX3_init_29 : decode cX3_init 29 = .ok (.bipush 80, 2) := by decide +kernel
theorem dX3_init_31 : decode cX3_init 31 = .ok (.newarray .int, 2) := by decide +kernel
theorem dX3_init_33 : decode cX3_init 33 = .ok (.putfield 21, 3) := by decide +kernel
theorem dX3_init_36 : decode cX3_init 36 = .ok (.aload_n 0, 1) := by decide +kernel
theorem dX3_init_37 : decode cX3_init 37 = .ok (.bipush 80, 2) := by decide +kernel
theorem dX3_init_39 : decode cX3_init 39 = .ok (.newarray .int, 2) := by decide +kernel
theorem dX3_init_41 : decode cX3_init 41 = .ok (.putfield 24, 3) := by decide +kernel
theorem dX3_init_44 : decode cX3_init 44 = .ok (.return_, 1) := by decide +kernel
theorem dX3_separate_0 : decode cX3_separate 0 = .ok (.iload 4, 2) := by decide +kernel
theorem dX3_separate_2 : decode cX3_separate 2 = .ok (.iconst 1, 1) := by decide +kernel
theorem dX3_separate_3 : decode cX3_separate 3 = .ok (.if_icmp .ne 7, 3) := by decide +kernel
theorem dX3_separate_6 : decode cX3_separate 6 = .ok (.iconst 0, 1) := by decide +kernel
theorem dX3_separate_7 : decode cX3_separate 7 = .ok (.goto 7, 3) := by decide +kernel
theorem dX3_separate_10 : decode cX3_separate 10 = .ok (.aload_n 3, 1) := by decide +kernel
theorem dX3_separate_11 : decode cX3_separate 11 = .ok (.invokevirtual 27, 3) := by decide +kernel
theorem dX3_separate_14 : decode cX3_separate 14 = .ok (.istore 5, 2) := by decide +kernel
theorem dX3_separate_16 : decode cX3_separate 16 = .ok (.bipush 8, 2) := by decide +kernel
theorem dX3_separate_18 : decode cX3_separate 18 = .ok (.aload_n 3, 1) := by decide +kernel
theorem dX3_separate_19 : decode cX3_separate 19 = .ok (.invokevirtual 33, 3) := by decide +kernel
theorem dX3_separate_22 : decode cX3_separate 22 = .ok (.imul, 1) := by decide +kernel
theorem dX3_separate_23 : decode cX3_separate 23 = .ok (.istore 6, 2) := by decide +kernel
theorem dX3_separate_25 : decode cX3_separate 25 = .ok (.aload_n 0, 1) := by decide +kernel
theorem dX3_separate_26 : decode cX3_separate 26 = .ok (.aload_n 1, 1) := by decide +kernel
theorem dX3_separate_27 : decode cX3_separate 27 = .ok (.aload_n 2, 1) := by decide +kernel
theorem dX3_separate_28 : decode cX3_separate 28 = .ok (.invokevirtual 36, 3) := by decide +kernel
theorem dX3_separate_31 : decode cX3_separate 31 = .ok (.iconst 0, 1) := by decide +kernel
theorem dX3_separate_32 : decode cX3_separate 32 = .ok (.istore 7, 2) := by decide +kernel
theorem dX3_separate_34 : decode cX3_separate 34 = .ok (.iload 7, 2) := by decide +kernel
theorem dX3_separate_36 : decode cX3_separate 36 = .ok (.bipush 8, 2) := by decide +kernel
theorem dX3_separate_38 : decode cX3_separate 38 = .ok (.if_icmp .ge 56, 3) := by decide +kernel
theorem dX3_separate_41 : decode cX3_separate 41 = .ok (.iconst 0, 1) := by decide +kernel
theorem dX3_separate_42 : decode cX3_separate 42 = .ok (.istore 8, 2) := by decide +kernel
theorem dX3_separate_44 : decode cX3_separate 44 = .ok (.iload 8, 2) := by decide +kernel
theorem dX3_separate_46 : decode cX3_separate 46 = .ok (.bipush 10, 2) := by decide +kernel
theorem dX3_separate_48 : decode cX3_separate 48 = .ok (.if_icmp .ge 40, 3) := by decide +kernel
theorem dX3_separate_51 : decode cX3_separate 51 = .ok (.aload_n 0, 1) := by decide +kernel
theorem dX3_separate_52 : decode cX3_separate 52 = .ok (.iload 7, 2) := by decide +kernel
theorem dX3_separate_54 : decode cX3_separate 54 = .ok (.iload 7, 2) := by decide +kernel
theorem dX3_separate_56 : decode cX3_separate 56 = .ok (.iload 8, 2) := by decide +kernel
theorem dX3_separate_58 : decode cX3_separate 58 = .ok (.invokestatic 40, 3) := by decide +kernel
theorem dX3_separate_61 : decode cX3_separate 61 = .ok (.iload 5, 2) := by decide +kernel
theorem dX3_separate_63 : decode cX3_separate 63 = .ok (.iload 6, 2) := by decide +kernel
theorem dX3_separate_65 : decode cX3_separate 65 = .ok (.invokevirtual 44, 3) := by decide +kernel
theorem dX3_separate_68 : decode cX3_separate 68 = .ok (.istore 9, 2) := by decide +kernel
theorem dX3_separate_70 : decode cX3_separate 70 = .ok (.aload_n 0, 1) := by decide +kernel
theorem dX3_separate_71 : decode cX3_separate 71 = .ok (.aload_n 1, 1) := by decide +kernel
theorem dX3_separate_72 : decode cX3_separate 72 = .ok (.aload_n 2, 1) := by decide +kernel
theorem dX3_separate_73 : decode cX3_separate 73 = .ok (.iload 7, 2) := by decide +kernel
theorem dX3_separate_75 : decode cX3_separate 75 = .ok (.iload 8, 2) := by decide +kernel
theorem dX3_separate_77 : decode cX3_separate 77 = .ok (.iload 9, 2) := by decide +kernel
theorem dX3_separate_79 : decode cX3_separate 79 = .ok (.invokevirtual 48, 3) := by decide +kernel
theorem dX3_separate_82 : decode cX3_separate 82 = .ok (.iinc 8 1, 3) := by decide +kernel
theorem dX3_separate_85 : decode cX3_separate 85 = .ok (.goto (-41), 3) := by decide +kernel
theorem dX3_separate_88 : decode cX3_separate 88 = .ok (.iinc 7 1, 3) := by decide +kernel
theorem dX3_separate_91 : decode cX3_separate 91 = .ok (.goto (-57), 3) := by decide +kernel
theorem dX3_separate_94 : decode cX3_separate 94 = .ok (.return_, 1) := by decide +kernel
theorem dX3_sumUp_0 : decode cX3_sumUp 0 = .ok (.iconst 0, 1) := by decide +kernel
theorem dX3_sumUp_1 : decode cX3_sumUp 1 = .ok (.istore_n 3, 1) := by decide +kernel
theorem dX3_sumUp_2 : decode cX3_sumUp 2 = .ok (.iload_n 3, 1) := by decide +kernel
theorem dX3_sumUp_3 : decode cX3_sumUp 3 = .ok (.bipush 8, 2) := by decide +kernel
theorem dX3_sumUp_5 : decode cX3_sumUp 5 = .ok (.if_icmp .ge 57, 3) := by decide +kernel
theorem dX3_sumUp_8 : decode cX3_sumUp 8 = .ok (.aload_n 2, 1) := by decide +kernel
theorem dX3_sumUp_9 : decode cX3_sumUp 9 = .ok (.iload_n 3, 1) := by decide +kernel
theorem dX3_sumUp_10 : decode cX3_sumUp 10 = .ok (.iaload, 1) := by decide +kernel
theorem dX3_sumUp_11 : decode cX3_sumUp 11 = .ok (.bipush 16, 2) := by decide +kernel
theorem dX3_sumUp_13 : decode cX3_sumUp 13 = .ok (.iadd, 1) := by decide +kernel
theorem dX3_sumUp_14 : decode cX3_sumUp 14 = .ok (.istore 4, 2) := by decide +kernel
theorem dX3_sumUp_16 : decode cX3_sumUp 16 = .ok (.iconst 0, 1) := by decide +kernel
theorem dX3_sumUp_17 : decode cX3_sumUp 17 = .ok (.istore 5, 2) := by decide +kernel
theorem dX3_sumUp_19 : decode cX3_sumUp 19 = .ok (.iload 5, 2) := by decide +kernel
theorem dX3_sumUp_21 : decode cX3_sumUp 21 = .ok (.bipush 10, 2) := by decide +kernel
theorem dX3_sumUp_23 : decode cX3_sumUp 23 = .ok (.if_icmp .ge 33, 3) := by decide +kernel
theorem dX3_sumUp_26 : decode cX3_sumUp 26 = .ok (.aload_n 0, 1) := by decide +kernel
theorem dX3_sumUp_27 : decode cX3_sumUp 27 = .ok (.getfield 9, 3) := by decide +kernel
theorem dX3_sumUp_30 : decode cX3_sumUp 30 = .ok (.iload_n 3, 1) := by decide +kernel
theorem dX3_sumUp_31 : decode cX3_sumUp 31 = .ok (.iload 5, 2) := by decide +kernel
theorem dX3_sumUp_33 : decode cX3_sumUp 33 = .ok (.invokestatic 40, 3) := by decide +kernel
theorem dX3_sumUp_36 : decode cX3_sumUp 36 = .ok (.aload_n 1, 1) := by decide +kernel
theorem dX3_sumUp_37 : decode cX3_sumUp 37 = .ok (.iload_n 3, 1) := by decide +kernel
theorem dX3_sumUp_38 : decode cX3_sumUp 38 = .ok (.iload 4, 2) := by decide +kernel
theorem dX3_sumUp_40 : decode cX3_sumUp 40 = .ok (.bipush 8, 2) := by decide +kernel
theorem dX3_sumUp_42 : decode cX3_sumUp 42 = .ok (.iload 5, 2) := by decide +kernel
theorem dX3_sumUp_44 : decode cX3_sumUp 44 = .ok (.imul, 1) := by decide +kernel
theorem dX3_sumUp_45 : decode cX3_sumUp 45 = .ok (.iadd, 1) := by decide +kernel
theorem dX3_sumUp_46 : decode cX3_sumUp 46 = .ok (.invokevirtual 52, 3) := by decide +kernel
theorem dX3_sumUp_49 : decode cX3_sumUp 49 = .ok (.iastore, 1) := by decide +kernel
theorem dX3_sumUp_50 : decode cX3_sumUp 50 = .ok (.iinc 5 1, 3) := by decide +kernel
theorem dX3_sumUp_53 : decode cX3_sumUp 53 = .ok (.goto (-34), 3) := by decide +kernel
theorem dX3_sumUp_56 : decode cX3_sumUp 56 = .ok (.iinc 3 1, 3) := by decide +kernel
theorem dX3_sumUp_59 : decode cX3_sumUp 59 = .ok (.goto (-57), 3) := by decide +kernel
theorem dX3_sumUp_62 : decode cX3_sumUp 62 = .ok (.return_, 1) := by decide +kernel
theorem dX3_wayFor_0 : decode cX3_wayFor 0 = .ok (.iload_n 1, 1) := by decide +kernel
theorem dX3_wayFor_1 : decode cX3_wayFor 1 = .ok (.ifCond .le 7, 3) := by decide +kernel
theorem dX3_wayFor_4 : decode cX3_wayFor 4 = .ok (.iconst 1, 1) := by decide +kernel
theorem dX3_wayFor_5 : decode cX3_wayFor 5 = .ok (.goto 4, 3) := by decide +kernel
theorem dX3_wayFor_8 : decode cX3_wayFor 8 = .ok (.iconst 0, 1) := by decide +kernel
theorem dX3_wayFor_9 : decode cX3_wayFor 9 = .ok (.istore 5, 2) := by decide +kernel
theorem dX3_wayFor_11 : decode cX3_wayFor 11 = .ok (.iload_n 1, 1) := by decide +kernel
theorem dX3_wayFor_12 : decode cX3_wayFor 12 = .ok (.bipush 7, 2) := by decide +kernel
theorem dX3_wayFor_14 : decode cX3_wayFor 14 = .ok (.if_icmp .ge 7, 3) := by decide +kernel
theorem dX3_wayFor_17 : decode cX3_wayFor 17 = .ok (.iconst 1, 1) := by decide +kernel
theorem dX3_wayFor_18 : decode cX3_wayFor 18 = .ok (.goto 4, 3) := by decide +kernel
theorem dX3_wayFor_21 : decode cX3_wayFor 21 = .ok (.iconst 0, 1) := by decide +kernel
theorem dX3_wayFor_22 : decode cX3_wayFor 22 = .ok (.istore 6, 2) := by decide +kernel
theorem dX3_wayFor_24 : decode cX3_wayFor 24 = .ok (.iload_n 3, 1) := by decide +kernel
theorem dX3_wayFor_25 : decode cX3_wayFor 25 = .ok (.tableswitch 96 1 3 #[27, 38, 41], 27) := by decide +kernel
theorem dX3_wayFor_52 : decode cX3_wayFor 52 = .ok (.iload 5, 2) := by decide +kernel
theorem dX3_wayFor_54 : decode cX3_wayFor 54 = .ok (.ifCond .eq 7, 3) := by decide +kernel
theorem dX3_wayFor_57 : decode cX3_wayFor 57 = .ok (.iconst 1, 1) := by decide +kernel
theorem dX3_wayFor_58 : decode cX3_wayFor 58 = .ok (.goto 4, 3) := by decide +kernel
theorem dX3_wayFor_61 : decode cX3_wayFor 61 = .ok (.iconst 2, 1) := by decide +kernel
theorem dX3_wayFor_62 : decode cX3_wayFor 62 = .ok (.ireturn, 1) := by decide +kernel
theorem dX3_wayFor_63 : decode cX3_wayFor 63 = .ok (.goto 60, 3) := by decide +kernel
theorem dX3_wayFor_66 : decode cX3_wayFor 66 = .ok (.iload 5, 2) := by decide +kernel
theorem dX3_wayFor_68 : decode cX3_wayFor 68 = .ok (.ifCond .eq 21, 3) := by decide +kernel
theorem dX3_wayFor_71 : decode cX3_wayFor 71 = .ok (.aload_n 0, 1) := by decide +kernel
theorem dX3_wayFor_72 : decode cX3_wayFor 72 = .ok (.iload_n 2, 1) := by decide +kernel
theorem dX3_wayFor_73 : decode cX3_wayFor 73 = .ok (.iload_n 2, 1) := by decide +kernel
theorem dX3_wayFor_74 : decode cX3_wayFor 74 = .ok (.bipush 10, 2) := by decide +kernel
theorem dX3_wayFor_76 : decode cX3_wayFor 76 = .ok (.isub, 1) := by decide +kernel
theorem dX3_wayFor_77 : decode cX3_wayFor 77 = .ok (.iload 4, 2) := by decide +kernel
theorem dX3_wayFor_79 : decode cX3_wayFor 79 = .ok (.invokevirtual 57, 3) := by decide +kernel
theorem dX3_wayFor_82 : decode cX3_wayFor 82 = .ok (.ifCond .eq 7, 3) := by decide +kernel
theorem dX3_wayFor_85 : decode cX3_wayFor 85 = .ok (.iconst 1, 1) := by decide +kernel
theorem dX3_wayFor_86 : decode cX3_wayFor 86 = .ok (.goto 4, 3) := by decide +kernel
theorem dX3_wayFor_89 : decode cX3_wayFor 89 = .ok (.iconst 0, 1) := by decide +kernel
theorem dX3_wayFor_90 : decode cX3_wayFor 90 = .ok (.istore 5, 2) := by decide +kernel
theorem dX3_wayFor_92 : decode cX3_wayFor 92 = .ok (.iload 6, 2) := by decide +kernel
theorem dX3_wayFor_94 : decode cX3_wayFor 94 = .ok (.ifCond .eq 21, 3) := by decide +kernel
theorem dX3_wayFor_97 : decode cX3_wayFor 97 = .ok (.aload_n 0, 1) := by decide +kernel
theorem dX3_wayFor_98 : decode cX3_wayFor 98 = .ok (.iload_n 2, 1) := by decide +kernel
theorem dX3_wayFor_99 : decode cX3_wayFor 99 = .ok (.iload_n 2, 1) := by decide +kernel
theorem dX3_wayFor_100 : decode cX3_wayFor 100 = .ok (.bipush 10, 2) := by decide +kernel
theorem dX3_wayFor_102 : decode cX3_wayFor 102 = .ok (.iadd, 1) := by decide +kernel
theorem dX3_wayFor_103 : decode cX3_wayFor 103 = .ok (.iload 4, 2) := by decide +kernel
theorem dX3_wayFor_105 : decode cX3_wayFor 105 = .ok (.invokevirtual 57, 3) := by decide +kernel
theorem dX3_wayFor_108 : decode cX3_wayFor 108 = .ok (.ifCond .eq 7, 3) := by decide +kernel
theorem dX3_wayFor_111 : decode cX3_wayFor 111 = .ok (.iconst 1, 1) := by decide +kernel
theorem dX3_wayFor_112 : decode cX3_wayFor 112 = .ok (.goto 4, 3) := by decide +kernel
theorem dX3_wayFor_115 : decode cX3_wayFor 115 = .ok (.iconst 0, 1) := by decide +kernel
theorem dX3_wayFor_116 : decode cX3_wayFor 116 = .ok (.istore 6, 2) := by decide +kernel
theorem dX3_wayFor_118 : decode cX3_wayFor 118 = .ok (.goto 5, 3) := by decide +kernel
theorem dX3_wayFor_121 : decode cX3_wayFor 121 = .ok (.iconst 0, 1) := by decide +kernel
theorem dX3_wayFor_122 : decode cX3_wayFor 122 = .ok (.ireturn, 1) := by decide +kernel
theorem dX3_wayFor_123 : decode cX3_wayFor 123 = .ok (.iload 5, 2) := by decide +kernel
theorem dX3_wayFor_125 : decode cX3_wayFor 125 = .ok (.ifCond .eq 7, 3) := by decide +kernel
theorem dX3_wayFor_128 : decode cX3_wayFor 128 = .ok (.iconst 1, 1) := by decide +kernel
theorem dX3_wayFor_129 : decode cX3_wayFor 129 = .ok (.goto 4, 3) := by decide +kernel
theorem dX3_wayFor_132 : decode cX3_wayFor 132 = .ok (.iconst 0, 1) := by decide +kernel
theorem dX3_wayFor_133 : decode cX3_wayFor 133 = .ok (.iload 6, 2) := by decide +kernel
theorem dX3_wayFor_135 : decode cX3_wayFor 135 = .ok (.ifCond .eq 7, 3) := by decide +kernel
theorem dX3_wayFor_138 : decode cX3_wayFor 138 = .ok (.iconst 2, 1) := by decide +kernel
theorem dX3_wayFor_139 : decode cX3_wayFor 139 = .ok (.goto 4, 3) := by decide +kernel
theorem dX3_wayFor_142 : decode cX3_wayFor 142 = .ok (.iconst 0, 1) := by decide +kernel
theorem dX3_wayFor_143 : decode cX3_wayFor 143 = .ok (.iadd, 1) := by decide +kernel
theorem dX3_wayFor_144 : decode cX3_wayFor 144 = .ok (.ireturn, 1) := by decide +kernel
theorem dX3_isNear_0 : decode cX3_isNear 0 = .ok (.iload_n 2, 1) := by decide +kernel
theorem dX3_isNear_1 : decode cX3_isNear 1 = .ok (.iconst 0, 1) := by decide +kernel
theorem dX3_isNear_2 : decode cX3_isNear 2 = .ok (.bipush 79, 2) := by decide +kernel
theorem dX3_isNear_4 : decode cX3_isNear 4 = .ok (.invokestatic 61, 3) := by decide +kernel
theorem dX3_isNear_7 : decode cX3_isNear 7 = .ok (.ifCond .eq 27, 3) := by decide +kernel
theorem dX3_isNear_10 : decode cX3_isNear 10 = .ok (.aload_n 0, 1) := by decide +kernel
theorem dX3_isNear_11 : decode cX3_isNear 11 = .ok (.getfield 9, 3) := by decide +kernel
theorem dX3_isNear_14 : decode cX3_isNear 14 = .ok (.iload_n 2, 1) := by decide +kernel
theorem dX3_isNear_15 : decode cX3_isNear 15 = .ok (.iaload, 1) := by decide +kernel
theorem dX3_isNear_16 : decode cX3_isNear 16 = .ok (.aload_n 0, 1) := by decide +kernel
theorem dX3_isNear_17 : decode cX3_isNear 17 = .ok (.getfield 9, 3) := by decide +kernel
theorem dX3_isNear_20 : decode cX3_isNear 20 = .ok (.iload_n 1, 1) := by decide +kernel
theorem dX3_isNear_21 : decode cX3_isNear 21 = .ok (.iaload, 1) := by decide +kernel
theorem dX3_isNear_22 : decode cX3_isNear 22 = .ok (.isub, 1) := by decide +kernel
theorem dX3_isNear_23 : decode cX3_isNear 23 = .ok (.invokestatic 64, 3) := by decide +kernel
theorem dX3_isNear_26 : decode cX3_isNear 26 = .ok (.iload_n 3, 1) := by decide +kernel
theorem dX3_isNear_27 : decode cX3_isNear 27 = .ok (.if_icmp .gt 7, 3) := by decide +kernel
theorem dX3_isNear_30 : decode cX3_isNear 30 = .ok (.iconst 1, 1) := by decide +kernel
theorem dX3_isNear_31 : decode cX3_isNear 31 = .ok (.goto 4, 3) := by decide +kernel
theorem dX3_isNear_34 : decode cX3_isNear 34 = .ok (.iconst 0, 1) := by decide +kernel
theorem dX3_isNear_35 : decode cX3_isNear 35 = .ok (.ireturn, 1) := by decide +kernel
theorem dX3_splitSegment_0 : decode cX3_splitSegment 0 = .ok (.iconst 0, 1) := by decide +kernel
theorem dX3_splitSegment_1 : decode cX3_splitSegment 1 = .ok (.istore 6, 2) := by decide +kernel
theorem dX3_splitSegment_3 : decode cX3_splitSegment 3 = .ok (.iconst 0, 1) := by decide +kernel
theorem dX3_splitSegment_4 : decode cX3_splitSegment 4 = .ok (.istore 7, 2) := by decide +kernel
theorem dX3_splitSegment_6 : decode cX3_splitSegment 6 = .ok (.iconst 0, 1) := by decide +kernel
theorem dX3_splitSegment_7 : decode cX3_splitSegment 7 = .ok (.istore 8, 2) := by decide +kernel
theorem dX3_splitSegment_9 : decode cX3_splitSegment 9 = .ok (.bipush 16, 2) := by decide +kernel
theorem dX3_splitSegment_11 : decode cX3_splitSegment 11 = .ok (.bipush 8, 2) := by decide +kernel
theorem dX3_splitSegment_13 : decode cX3_splitSegment 13 = .ok (.iload 4, 2) := by decide +kernel
theorem dX3_splitSegment_15 : decode cX3_splitSegment 15 = .ok (.imul, 1) := by decide +kernel
theorem dX3_splitSegment_16 : decode cX3_splitSegment 16 = .ok (.iadd, 1) := by decide +kernel
theorem dX3_splitSegment_17 : decode cX3_splitSegment 17 = .ok (.istore 9, 2) := by decide +kernel
theorem dX3_splitSegment_19 : decode cX3_splitSegment 19 = .ok (.iconst 0, 1) := by decide +kernel
theorem dX3_splitSegment_20 : decode cX3_splitSegment 20 = .ok (.istore 10, 2) := by decide +kernel
theorem dX3_splitSegment_22 : decode cX3_splitSegment 22 = .ok (.iload 10, 2) := by decide +kernel
theorem dX3_splitSegment_24 : decode cX3_splitSegment 24 = .ok (.bipush 8, 2) := by decide +kernel
theorem dX3_splitSegment_26 : decode cX3_splitSegment 26 = .ok (.if_icmp .ge 74, 3) := by decide +kernel
theorem dX3_splitSegment_29 : decode cX3_splitSegment 29 = .ok (.aload_n 1, 1) := by decide +kernel
theorem dX3_splitSegment_30 : decode cX3_splitSegment 30 = .ok (.aload_n 2, 1) := by decide +kernel
theorem dX3_splitSegment_31 : decode cX3_splitSegment 31 = .ok (.iload_n 3, 1) := by decide +kernel
theorem dX3_splitSegment_32 : decode cX3_splitSegment 32 = .ok (.iload 9, 2) := by decide +kernel
theorem dX3_splitSegment_34 : decode cX3_splitSegment 34 = .ok (.iload 10, 2) := by decide +kernel
theorem dX3_splitSegment_36 : decode cX3_splitSegment 36 = .ok (.iadd, 1) := by decide +kernel
theorem dX3_splitSegment_37 : decode cX3_splitSegment 37 = .ok (.iload 5, 2) := by decide +kernel
theorem dX3_splitSegment_39 : decode cX3_splitSegment 39 = .ok (.invokestatic 70, 3) := by decide +kernel
theorem dX3_splitSegment_42 : decode cX3_splitSegment 42 = .ok (.istore 11, 2) := by decide +kernel
theorem dX3_splitSegment_44 : decode cX3_splitSegment 44 = .ok (.iload_n 3, 1) := by decide +kernel
theorem dX3_splitSegment_45 : decode cX3_splitSegment 45 = .ok (.aload_n 2, 1) := by decide +kernel
theorem dX3_splitSegment_46 : decode cX3_splitSegment 46 = .ok (.iload_n 3, 1) := by decide +kernel
theorem dX3_splitSegment_47 : decode cX3_splitSegment 47 = .ok (.iaload, 1) := by decide +kernel
theorem dX3_splitSegment_48 : decode cX3_splitSegment 48 = .ok (.iload 9, 2) := by decide +kernel
theorem dX3_splitSegment_50 : decode cX3_splitSegment 50 = .ok (.iadd, 1) := by decide +kernel
theorem dX3_splitSegment_51 : decode cX3_splitSegment 51 = .ok (.iload 10, 2) := by decide +kernel
theorem dX3_splitSegment_53 : decode cX3_splitSegment 53 = .ok (.iadd, 1) := by decide +kernel
theorem dX3_splitSegment_54 : decode cX3_splitSegment 54 = .ok (.invokestatic 74, 3) := by decide +kernel
theorem dX3_splitSegment_57 : decode cX3_splitSegment 57 = .ok (.istore 12, 2) := by decide +kernel
theorem dX3_splitSegment_59 : decode cX3_splitSegment 59 = .ok (.iload 6, 2) := by decide +kernel
theorem dX3_splitSegment_61 : decode cX3_splitSegment 61 = .ok (.iload 11, 2) := by decide +kernel
theorem dX3_splitSegment_63 : decode cX3_splitSegment 63 = .ok (.iadd, 1) := by decide +kernel
theorem dX3_splitSegment_64 : decode cX3_splitSegment 64 = .ok (.istore 6, 2) := by decide +kernel
theorem dX3_splitSegment_66 : decode cX3_splitSegment 66 = .ok (.iload 7, 2) := by decide +kernel
theorem dX3_splitSegment_68 : decode cX3_splitSegment 68 = .ok (.iload 11, 2) := by decide +kernel
theorem dX3_splitSegment_70 : decode cX3_splitSegment 70 = .ok (.getstatic 77, 3) := by decide +kernel
theorem dX3_splitSegment_73 : decode cX3_splitSegment 73 = .ok (.iload 12, 2) := by decide +kernel
theorem dX3_splitSegment_75 : decode cX3_splitSegment 75 = .ok (.iaload, 1) := by decide +kernel
theorem dX3_splitSegment_76 : decode cX3_splitSegment 76 = .ok (.imul, 1) := by decide +kernel
theorem dX3_splitSegment_77 : decode cX3_splitSegment 77 = .ok (.iadd, 1) := by decide +kernel
theorem dX3_splitSegment_78 : decode cX3_splitSegment 78 = .ok (.istore 7, 2) := by decide +kernel
theorem dX3_splitSegment_80 : decode cX3_splitSegment 80 = .ok (.iload 8, 2) := by decide +kernel
theorem dX3_splitSegment_82 : decode cX3_splitSegment 82 = .ok (.iload 11, 2) := by decide +kernel
theorem dX3_splitSegment_84 : decode cX3_splitSegment 84 = .ok (.getstatic 80, 3) := by decide +kernel
theorem dX3_splitSegment_87 : decode cX3_splitSegment 87 = .ok (.iload 12, 2) := by decide +kernel
theorem dX3_splitSegment_89 : decode cX3_splitSegment 89 = .ok (.iaload, 1) := by decide +kernel
theorem dX3_splitSegment_90 : decode cX3_splitSegment 90 = .ok (.imul, 1) := by decide +kernel
theorem dX3_splitSegment_91 : decode cX3_splitSegment 91 = .ok (.iadd, 1) := by decide +kernel
theorem dX3_splitSegment_92 : decode cX3_splitSegment 92 = .ok (.istore 8, 2) := by decide +kernel
theorem dX3_splitSegment_94 : decode cX3_splitSegment 94 = .ok (.iinc 10 1, 3) := by decide +kernel
theorem dX3_splitSegment_97 : decode cX3_splitSegment 97 = .ok (.goto (-75), 3) := by decide +kernel
theorem dX3_splitSegment_100 : decode cX3_splitSegment 100 = .ok (.iload_n 3, 1) := by decide +kernel
theorem dX3_splitSegment_101 : decode cX3_splitSegment 101 = .ok (.iload 4, 2) := by decide +kernel
theorem dX3_splitSegment_103 : decode cX3_splitSegment 103 = .ok (.invokestatic 40, 3) := by decide +kernel
theorem dX3_splitSegment_106 : decode cX3_splitSegment 106 = .ok (.istore 10, 2) := by decide +kernel
theorem dX3_splitSegment_108 : decode cX3_splitSegment 108 = .ok (.aload_n 0, 1) := by decide +kernel
theorem dX3_splitSegment_109 : decode cX3_splitSegment 109 = .ok (.getfield 15, 3) := by decide +kernel
theorem dX3_splitSegment_112 : decode cX3_splitSegment 112 = .ok (.iload 10, 2) := by decide +kernel
theorem dX3_splitSegment_114 : decode cX3_splitSegment 114 = .ok (.iconst 4, 1) := by decide +kernel
theorem dX3_splitSegment_115 : decode cX3_splitSegment 115 = .ok (.aload_n 0, 1) := by decide +kernel
theorem dX3_splitSegment_116 : decode cX3_splitSegment 116 = .ok (.getfield 9, 3) := by decide +kernel
theorem dX3_splitSegment_119 : decode cX3_splitSegment 119 = .ok (.iload 10, 2) := by decide +kernel
theorem dX3_splitSegment_121 : decode cX3_splitSegment 121 = .ok (.iaload, 1) := by decide +kernel
theorem dX3_splitSegment_122 : decode cX3_splitSegment 122 = .ok (.imul, 1) := by decide +kernel
theorem dX3_splitSegment_123 : decode cX3_splitSegment 123 = .ok (.iload 6, 2) := by decide +kernel
theorem dX3_splitSegment_125 : decode cX3_splitSegment 125 = .ok (.isub, 1) := by decide +kernel
theorem dX3_splitSegment_126 : decode cX3_splitSegment 126 = .ok (.bipush 32, 2) := by decide +kernel
theorem dX3_splitSegment_128 : decode cX3_splitSegment 128 = .ok (.invokestatic 83, 3) := by decide +kernel
theorem dX3_splitSegment_131 : decode cX3_splitSegment 131 = .ok (.iastore, 1) := by decide +kernel
theorem dX3_splitSegment_132 : decode cX3_splitSegment 132 = .ok (.aload_n 0, 1) := by decide +kernel
theorem dX3_splitSegment_133 : decode cX3_splitSegment 133 = .ok (.getfield 18, 3) := by decide +kernel
theorem dX3_splitSegment_136 : decode cX3_splitSegment 136 = .ok (.iload 10, 2) := by decide +kernel
theorem dX3_splitSegment_138 : decode cX3_splitSegment 138 = .ok (.iload 5, 2) := by decide +kernel
theorem dX3_splitSegment_140 : decode cX3_splitSegment 140 = .ok (.iastore, 1) := by decide +kernel
theorem dX3_splitSegment_141 : decode cX3_splitSegment 141 = .ok (.aload_n 0, 1) := by decide +kernel
theorem dX3_splitSegment_142 : decode cX3_splitSegment 142 = .ok (.getfield 21, 3) := by decide +kernel
theorem dX3_splitSegment_145 : decode cX3_splitSegment 145 = .ok (.iload 10, 2) := by decide +kernel
theorem dX3_splitSegment_147 : decode cX3_splitSegment 147 = .ok (.iload 7, 2) := by decide +kernel
theorem dX3_splitSegment_149 : decode cX3_splitSegment 149 = .ok (.iastore, 1) := by decide +kernel
theorem dX3_splitSegment_150 : decode cX3_splitSegment 150 = .ok (.aload_n 0, 1) := by decide +kernel
theorem dX3_splitSegment_151 : decode cX3_splitSegment 151 = .ok (.getfield 24, 3) := by decide +kernel
theorem dX3_splitSegment_154 : decode cX3_splitSegment 154 = .ok (.iload 10, 2) := by decide +kernel
theorem dX3_splitSegment_156 : decode cX3_splitSegment 156 = .ok (.iload 8, 2) := by decide +kernel
theorem dX3_splitSegment_158 : decode cX3_splitSegment 158 = .ok (.iastore, 1) := by decide +kernel
theorem dX3_splitSegment_159 : decode cX3_splitSegment 159 = .ok (.return_, 1) := by decide +kernel
theorem dX3_chromaAt_0 : decode cX3_chromaAt 0 = .ok (.iconst 2, 1) := by decide +kernel
theorem dX3_chromaAt_1 : decode cX3_chromaAt 1 = .ok (.aload_n 0, 1) := by decide +kernel
theorem dX3_chromaAt_2 : decode cX3_chromaAt 2 = .ok (.aload_n 1, 1) := by decide +kernel
theorem dX3_chromaAt_3 : decode cX3_chromaAt 3 = .ok (.iload_n 2, 1) := by decide +kernel
theorem dX3_chromaAt_4 : decode cX3_chromaAt 4 = .ok (.iload_n 3, 1) := by decide +kernel
theorem dX3_chromaAt_5 : decode cX3_chromaAt 5 = .ok (.invokestatic 86, 3) := by decide +kernel
theorem dX3_chromaAt_8 : decode cX3_chromaAt 8 = .ok (.imul, 1) := by decide +kernel
theorem dX3_chromaAt_9 : decode cX3_chromaAt 9 = .ok (.istore 5, 2) := by decide +kernel
theorem dX3_chromaAt_11 : decode cX3_chromaAt 11 = .ok (.iload 4, 2) := by decide +kernel
theorem dX3_chromaAt_13 : decode cX3_chromaAt 13 = .ok (.tableswitch 80 1 3 #[27, 42, 57], 27) := by decide +kernel
theorem dX3_chromaAt_40 : decode cX3_chromaAt 40 = .ok (.iload 5, 2) := by decide +kernel
theorem dX3_chromaAt_42 : decode cX3_chromaAt 42 = .ok (.iconst 2, 1) := by decide +kernel
theorem dX3_chromaAt_43 : decode cX3_chromaAt 43 = .ok (.aload_n 0, 1) := by decide +kernel
theorem dX3_chromaAt_44 : decode cX3_chromaAt 44 = .ok (.aload_n 1, 1) := by decide +kernel
theorem dX3_chromaAt_45 : decode cX3_chromaAt 45 = .ok (.iload_n 2, 1) := by decide +kernel
theorem dX3_chromaAt_46 : decode cX3_chromaAt 46 = .ok (.iconst 1, 1) := by decide +kernel
theorem dX3_chromaAt_47 : decode cX3_chromaAt 47 = .ok (.isub, 1) := by decide +kernel
theorem dX3_chromaAt_48 : decode cX3_chromaAt 48 = .ok (.iload_n 3, 1) := by decide +kernel
theorem dX3_chromaAt_49 : decode cX3_chromaAt 49 = .ok (.invokestatic 86, 3) := by decide +kernel
theorem dX3_chromaAt_52 : decode cX3_chromaAt 52 = .ok (.imul, 1) := by decide +kernel
theorem dX3_chromaAt_53 : decode cX3_chromaAt 53 = .ok (.isub, 1) := by decide +kernel
theorem dX3_chromaAt_54 : decode cX3_chromaAt 54 = .ok (.ireturn, 1) := by decide +kernel
theorem dX3_chromaAt_55 : decode cX3_chromaAt 55 = .ok (.iload 5, 2) := by decide +kernel
theorem dX3_chromaAt_57 : decode cX3_chromaAt 57 = .ok (.iconst 2, 1) := by decide +kernel
theorem dX3_chromaAt_58 : decode cX3_chromaAt 58 = .ok (.aload_n 0, 1) := by decide +kernel
theorem dX3_chromaAt_59 : decode cX3_chromaAt 59 = .ok (.aload_n 1, 1) := by decide +kernel
theorem dX3_chromaAt_60 : decode cX3_chromaAt 60 = .ok (.iload_n 2, 1) := by decide +kernel
theorem dX3_chromaAt_61 : decode cX3_chromaAt 61 = .ok (.iconst 1, 1) := by decide +kernel
theorem dX3_chromaAt_62 : decode cX3_chromaAt 62 = .ok (.iadd, 1) := by decide +kernel
theorem dX3_chromaAt_63 : decode cX3_chromaAt 63 = .ok (.iload_n 3, 1) := by decide +kernel
theorem dX3_chromaAt_64 : decode cX3_chromaAt 64 = .ok (.invokestatic 86, 3) := by decide +kernel
theorem dX3_chromaAt_67 : decode cX3_chromaAt 67 = .ok (.imul, 1) := by decide +kernel
theorem dX3_chromaAt_68 : decode cX3_chromaAt 68 = .ok (.isub, 1) := by decide +kernel
theorem dX3_chromaAt_69 : decode cX3_chromaAt 69 = .ok (.ireturn, 1) := by decide +kernel
theorem dX3_chromaAt_70 : decode cX3_chromaAt 70 = .ok (.iload 5, 2) := by decide +kernel
theorem dX3_chromaAt_72 : decode cX3_chromaAt 72 = .ok (.aload_n 0, 1) := by decide +kernel
theorem dX3_chromaAt_73 : decode cX3_chromaAt 73 = .ok (.aload_n 1, 1) := by decide +kernel
theorem dX3_chromaAt_74 : decode cX3_chromaAt 74 = .ok (.iload_n 2, 1) := by decide +kernel
theorem dX3_chromaAt_75 : decode cX3_chromaAt 75 = .ok (.iconst 1, 1) := by decide +kernel
theorem dX3_chromaAt_76 : decode cX3_chromaAt 76 = .ok (.isub, 1) := by decide +kernel
theorem dX3_chromaAt_77 : decode cX3_chromaAt 77 = .ok (.iload_n 3, 1) := by decide +kernel
theorem dX3_chromaAt_78 : decode cX3_chromaAt 78 = .ok (.invokestatic 86, 3) := by decide +kernel
theorem dX3_chromaAt_81 : decode cX3_chromaAt 81 = .ok (.isub, 1) := by decide +kernel
theorem dX3_chromaAt_82 : decode cX3_chromaAt 82 = .ok (.aload_n 0, 1) := by decide +kernel
theorem dX3_chromaAt_83 : decode cX3_chromaAt 83 = .ok (.aload_n 1, 1) := by decide +kernel
theorem dX3_chromaAt_84 : decode cX3_chromaAt 84 = .ok (.iload_n 2, 1) := by decide +kernel
theorem dX3_chromaAt_85 : decode cX3_chromaAt 85 = .ok (.iconst 1, 1) := by decide +kernel
theorem dX3_chromaAt_86 : decode cX3_chromaAt 86 = .ok (.iadd, 1) := by decide +kernel
theorem dX3_chromaAt_87 : decode cX3_chromaAt 87 = .ok (.iload_n 3, 1) := by decide +kernel
theorem dX3_chromaAt_88 : decode cX3_chromaAt 88 = .ok (.invokestatic 86, 3) := by decide +kernel
theorem dX3_chromaAt_91 : decode cX3_chromaAt 91 = .ok (.isub, 1) := by decide +kernel
theorem dX3_chromaAt_92 : decode cX3_chromaAt 92 = .ok (.ireturn, 1) := by decide +kernel
theorem dX3_chromaAt_93 : decode cX3_chromaAt 93 = .ok (.iload 5, 2) := by decide +kernel
theorem dX3_chromaAt_95 : decode cX3_chromaAt 95 = .ok (.aload_n 0, 1) := by decide +kernel
theorem dX3_chromaAt_96 : decode cX3_chromaAt 96 = .ok (.aload_n 1, 1) := by decide +kernel
theorem dX3_chromaAt_97 : decode cX3_chromaAt 97 = .ok (.iload_n 2, 1) := by decide +kernel
theorem dX3_chromaAt_98 : decode cX3_chromaAt 98 = .ok (.iload_n 3, 1) := by decide +kernel
theorem dX3_chromaAt_99 : decode cX3_chromaAt 99 = .ok (.iconst 2, 1) := by decide +kernel
theorem dX3_chromaAt_100 : decode cX3_chromaAt 100 = .ok (.isub, 1) := by decide +kernel
theorem dX3_chromaAt_101 : decode cX3_chromaAt 101 = .ok (.invokestatic 86, 3) := by decide +kernel
theorem dX3_chromaAt_104 : decode cX3_chromaAt 104 = .ok (.isub, 1) := by decide +kernel
theorem dX3_chromaAt_105 : decode cX3_chromaAt 105 = .ok (.aload_n 0, 1) := by decide +kernel
theorem dX3_chromaAt_106 : decode cX3_chromaAt 106 = .ok (.aload_n 1, 1) := by decide +kernel
theorem dX3_chromaAt_107 : decode cX3_chromaAt 107 = .ok (.iload_n 2, 1) := by decide +kernel
theorem dX3_chromaAt_108 : decode cX3_chromaAt 108 = .ok (.iload_n 3, 1) := by decide +kernel
theorem dX3_chromaAt_109 : decode cX3_chromaAt 109 = .ok (.iconst 2, 1) := by decide +kernel
theorem dX3_chromaAt_110 : decode cX3_chromaAt 110 = .ok (.iadd, 1) := by decide +kernel
theorem dX3_chromaAt_111 : decode cX3_chromaAt 111 = .ok (.invokestatic 86, 3) := by decide +kernel
theorem dX3_chromaAt_114 : decode cX3_chromaAt 114 = .ok (.isub, 1) := by decide +kernel
theorem dX3_chromaAt_115 : decode cX3_chromaAt 115 = .ok (.ireturn, 1) := by decide +kernel
theorem dX3_sampleAt_0 : decode cX3_sampleAt 0 = .ok (.iload_n 2, 1) := by decide +kernel
theorem dX3_sampleAt_1 : decode cX3_sampleAt 1 = .ok (.invokestatic 90, 3) := by decide +kernel
theorem dX3_sampleAt_4 : decode cX3_sampleAt 4 = .ok (.ifCond .eq 16, 3) := by decide +kernel
theorem dX3_sampleAt_7 : decode cX3_sampleAt 7 = .ok (.aload_n 0, 1) := by decide +kernel
theorem dX3_sampleAt_8 : decode cX3_sampleAt 8 = .ok (.iload_n 2, 1) := by decide +kernel
theorem dX3_sampleAt_9 : decode cX3_sampleAt 9 = .ok (.aload_n 1, 1) := by decide +kernel
theorem dX3_sampleAt_10 : decode cX3_sampleAt 10 = .ok (.iload_n 2, 1) := by decide +kernel
theorem dX3_sampleAt_11 : decode cX3_sampleAt 11 = .ok (.iaload, 1) := by decide +kernel
theorem dX3_sampleAt_12 : decode cX3_sampleAt 12 = .ok (.iload_n 3, 1) := by decide +kernel
theorem dX3_sampleAt_13 : decode cX3_sampleAt 13 = .ok (.iadd, 1) := by decide +kernel
theorem dX3_sampleAt_14 : decode cX3_sampleAt 14 = .ok (.invokevirtual 94, 3) := by decide +kernel
theorem dX3_sampleAt_17 : decode cX3_sampleAt 17 = .ok (.goto 4, 3) := by decide +kernel
theorem dX3_sampleAt_20 : decode cX3_sampleAt 20 = .ok (.iconst 0, 1) := by decide +kernel
theorem dX3_sampleAt_21 : decode cX3_sampleAt 21 = .ok (.ireturn, 1) := by decide +kernel
theorem dX4_init_0 : decode cX4_init 0 = .ok (.aload_n 0, 1) := by decide +kernel
theorem dX4_init_1 : decode cX4_init 1 = .ok (.invokespecial 3, 3) := by decide +kernel
theorem dX4_init_4 : decode cX4_init 4 = .ok (.aload_n 0, 1) := by decide +kernel
theorem dX4_init_5 : decode cX4_init 5 = .ok (.bipush 8, 2) := by decide +kernel
theorem dX4_init_7 : decode cX4_init 7 = .ok (.newarray .int, 2) := by decide +kernel
theorem dX4_init_9 : decode cX4_init 9 = .ok (.putfield 9, 3) := by decide +kernel
theorem dX4_init_12 : decode cX4_init 12 = .ok (.aload_n 0, 1) := by decide +kernel
theorem dX4_init_13 : decode cX4_init 13 = .ok (.bipush 8, 2) := by decide +kernel
theorem dX4_init_15 : decode cX4_init 15 = .ok (.newarray .int, 2) := by decide +kernel
theorem dX4_init_17 : decode cX4_init 17 = .ok (.putfield 15, 3) := by decide +kernel
theorem dX4_init_20 : decode cX4_init 20 = .ok (.aload_n 0, 1) := by decide +kernel
theorem dX4_init_21 : decode cX4_init 21 = .ok (.bipush 8, 2) := by decide +kernel
theorem dX4_init_23 : decode cX4_init 23 = .ok (.newarray .int, 2) := by decide +kernel
theorem dX4_init_25 : decode cX4_init 25 = .ok (.putfield 18, 3) := by decide +kernel
theorem dX4_init_28 : decode cX4_init 28 = .ok (.aload_n 0, 1) := by decide +kernel
theorem dX4_init_29 : decode cX4_init 29 = .ok (.bipush 8, 2) := by decide +kernel
theorem dX4_init_31 : decode cX4_init 31 = .ok (.newarray .boolean, 2) := by decide +kernel
theorem dX4_init_33 : decode cX4_init 33 = .ok (.putfield 21, 3) := by decide +kernel
theorem dX4_init_36 : decode cX4_init 36 = .ok (.return_, 1) := by decide +kernel
theorem dX4_find_0 : decode cX4_find 0 = .ok (.aload_n 0, 1) := by decide +kernel
theorem dX4_find_1 : decode cX4_find 1 = .ok (.bipush 32, 2) := by decide +kernel
theorem dX4_find_3 : decode cX4_find 3 = .ok (.putfield 25, 3) := by decide +kernel
theorem dX4_find_6 : decode cX4_find 6 = .ok (.aload_n 0, 1) := by decide +kernel
theorem dX4_find_7 : decode cX4_find 7 = .ok (.iconst 0, 1) := by decide +kernel
theorem dX4_find_8 : decode cX4_find 8 = .ok (.putfield 29, 3) := by decide +kernel
theorem dX4_find_11 : decode cX4_find 11 = .ok (.aload_n 0, 1) := by decide +kernel
theorem dX4_find_12 : decode cX4_find 12 = .ok (.iconst 0, 1) := by decide +kernel
theorem dX4_find_13 : decode cX4_find 13 = .ok (.putfield 32, 3) := by decide +kernel
theorem dX4_find_16 : decode cX4_find 16 = .ok (.aload_n 0, 1) := by decide +kernel
theorem dX4_find_17 : decode cX4_find 17 = .ok (.iconst 0, 1) := by decide +kernel
theorem dX4_find_18 : decode cX4_find 18 = .ok (.putfield 35, 3) := by decide +kernel
theorem dX4_find_21 : decode cX4_find 21 = .ok (.iconst 0, 1) := by decide +kernel
theorem dX4_find_22 : decode cX4_find 22 = .ok (.istore_n 2, 1) := by decide +kernel
theorem dX4_find_23 : decode cX4_find 23 = .ok (.iload_n 2, 1) := by decide +kernel
theorem dX4_find_24 : decode cX4_find 24 = .ok (.bipush 8, 2) := by decide +kernel
theorem dX4_find_26 : decode cX4_find 26 = .ok (.if_icmp .ge 79, 3) := by decide +kernel
theorem dX4_find_29 : decode cX4_find 29 = .ok (.aload_n 1, 1) := by decide +kernel
theorem dX4_find_30 : decode cX4_find 30 = .ok (.iload_n 2, 1) := by decide +kernel
theorem dX4_find_31 : decode cX4_find 31 = .ok (.invokevirtual 39, 3) := by decide +kernel
theorem dX4_find_34 : decode cX4_find 34 = .ok (.istore_n 3, 1) := by decide +kernel
theorem dX4_find_35 : decode cX4_find 35 = .ok (.aload_n 0, 1) := by decide +kernel
theorem dX4_find_36 : decode cX4_find 36 = .ok (.iload_n 3, 1) := by decide +kernel
theorem dX4_find_37 : decode cX4_find 37 = .ok (.invokevirtual 45, 3) := by decide +kernel
theorem dX4_find_40 : decode cX4_find 40 = .ok (.aload_n 0, 1) := by decide +kernel
theorem dX4_find_41 : decode cX4_find 41 = .ok (.getfield 9, 3) := by decide +kernel
theorem dX4_find_44 : decode cX4_find 44 = .ok (.iload_n 2, 1) := by decide +kernel
theorem dX4_find_45 : decode cX4_find 45 = .ok (.iload_n 3, 1) := by decide +kernel
theorem dX4_find_46 : decode cX4_find 46 = .ok (.iastore, 1) := by decide +kernel
theorem dX4_find_47 : decode cX4_find 47 = .ok (.aload_n 0, 1) := by decide +kernel
theorem dX4_find_48 : decode cX4_find 48 = .ok (.getfield 18, 3) := by decide +kernel
theorem dX4_find_51 : decode cX4_find 51 = .ok (.iload_n 2, 1) := by decide +kernel
theorem dX4_find_52 : decode cX4_find 52 = .ok (.aload_n 0, 1) := by decide +kernel
theorem dX4_find_53 : decode cX4_find 53 = .ok (.getfield 25, 3) := by decide +kernel
theorem dX4_find_56 : decode cX4_find 56 = .ok (.iastore, 1) := by decide +kernel
theorem dX4_find_57 : decode cX4_find 57 = .ok (.aload_n 0, 1) := by decide +kernel
theorem dX4_find_58 : decode cX4_find 58 = .ok (.getfield 21, 3) := by decide +kernel
theorem dX4_find_61 : decode cX4_find 61 = .ok (.iload_n 2, 1) := by decide +kernel
theorem dX4_find_62 : decode cX4_find 62 = .ok (.aload_n 0, 1) := by decide +kernel
theorem dX4_find_63 : decode cX4_find 63 = .ok (.getfield 35, 3) := by decide +kernel
theorem dX4_find_66 : decode cX4_find 66 = .ok (.bastore, 1) := by decide +kernel
theorem dX4_find_67 : decode cX4_find 67 = .ok (.aload_n 0, 1) := by decide +kernel
theorem dX4_find_68 : decode cX4_find 68 = .ok (.getfield 15, 3) := by decide +kernel
theorem dX4_find_71 : decode cX4_find 71 = .ok (.iload_n 2, 1) := by decide +kernel
theorem dX4_find_72 : decode cX4_find 72 = .ok (.aload_n 0, 1) := by decide +kernel
theorem dX4_find_73 : decode cX4_find 73 = .ok (.getfield 35, 3) := by decide +kernel
theorem dX4_find_76 : decode cX4_find 76 = .ok (.ifCond .ne 8, 3) := by decide +kernel
theorem dX4_find_79 : decode cX4_find 79 = .ok (.iload_n 3, 1) := by decide +kernel
theorem dX4_find_80 : decode cX4_find 80 = .ok (.iconst (-1), 1) := by decide +kernel
theorem dX4_find_81 : decode cX4_find 81 = .ok (.if_icmp .ne 16, 3) := by decide +kernel
theorem dX4_find_84 : decode cX4_find 84 = .ok (.aload_n 0, 1) := by decide +kernel
theorem dX4_find_85 : decode cX4_find 85 = .ok (.getfield 25, 3) := by decide +kernel
theorem dX4_find_88 : decode cX4_find 88 = .ok (.iconst 2, 1) := by decide +kernel
theorem dX4_find_89 : decode cX4_find 89 = .ok (.iadd, 1) := by decide +kernel
theorem dX4_find_90 : decode cX4_find 90 = .ok (.iconst 4, 1) := by decide +kernel
theorem dX4_find_91 : decode cX4_find 91 = .ok (.invokestatic 49, 3) := by decide +kernel
theorem dX4_find_94 : decode cX4_find 94 = .ok (.goto 4, 3) := by decide +kernel
theorem dX4_find_97 : decode cX4_find 97 = .ok (.iload_n 3, 1) := by decide +kernel
theorem dX4_find_98 : decode cX4_find 98 = .ok (.iastore, 1) := by decide +kernel
theorem dX4_find_99 : decode cX4_find 99 = .ok (.iinc 2 1, 3) := by decide +kernel
theorem dX4_find_102 : decode cX4_find 102 = .ok (.goto (-79), 3) := by decide +kernel
theorem dX4_find_105 : decode cX4_find 105 = .ok (.return_, 1) := by decide +kernel
theorem dX4_steer_0 : decode cX4_steer 0 = .ok (.iconst 4, 1) := by decide +kernel
theorem dX4_steer_1 : decode cX4_steer 1 = .ok (.iload_n 1, 1) := by decide +kernel
theorem dX4_steer_2 : decode cX4_steer 2 = .ok (.imul, 1) := by decide +kernel
theorem dX4_steer_3 : decode cX4_steer 3 = .ok (.aload_n 0, 1) := by decide +kernel
theorem dX4_steer_4 : decode cX4_steer 4 = .ok (.getfield 25, 3) := by decide +kernel
theorem dX4_steer_7 : decode cX4_steer 7 = .ok (.isub, 1) := by decide +kernel
theorem dX4_steer_8 : decode cX4_steer 8 = .ok (.istore_n 2, 1) := by decide +kernel
theorem dX4_steer_9 : decode cX4_steer 9 = .ok (.iload_n 1, 1) := by decide +kernel
theorem dX4_steer_10 : decode cX4_steer 10 = .ok (.iconst (-1), 1) := by decide +kernel
theorem dX4_steer_11 : decode cX4_steer 11 = .ok (.if_icmp .eq 44, 3) := by decide +kernel
theorem dX4_steer_14 : decode cX4_steer 14 = .ok (.iload_n 2, 1) := by decide +kernel
theorem dX4_steer_15 : decode cX4_steer 15 = .ok (.bipush (-12), 2) := by decide +kernel
theorem dX4_steer_17 : decode cX4_steer 17 = .ok (.bipush 12, 2) := by decide +kernel
theorem dX4_steer_19 : decode cX4_steer 19 = .ok (.invokestatic 55, 3) := by decide +kernel
theorem dX4_steer_22 : decode cX4_steer 22 = .ok (.ifCond .eq 33, 3) := by decide +kernel
theorem dX4_steer_25 : decode cX4_steer 25 = .ok (.aload_n 0, 1) := by decide +kernel
theorem dX4_steer_26 : decode cX4_steer 26 = .ok (.dup, 1) := by decide +kernel
theorem dX4_steer_27 : decode cX4_steer 27 = .ok (.getfield 25, 3) := by decide +kernel
theorem dX4_steer_30 : decode cX4_steer 30 = .ok (.iload_n 2, 1) := by decide +kernel
theorem dX4_steer_31 : decode cX4_steer 31 = .ok (.iconst 2, 1) := by decide +kernel
theorem dX4_steer_32 : decode cX4_steer 32 = .ok (.idiv, 1) := by decide +kernel
theorem dX4_steer_33 : decode cX4_steer 33 = .ok (.iadd, 1) := by decide +kernel
theorem dX4_steer_34 : decode cX4_steer 34 = .ok (.putfield 25, 3) := by decide +kernel
theorem dX4_steer_37 : decode cX4_steer 37 = .ok (.aload_n 0, 1) := by decide +kernel
theorem dX4_steer_38 : decode cX4_steer 38 = .ok (.dup, 1) := by decide +kernel
theorem dX4_steer_39 : decode cX4_steer 39 = .ok (.getfield 29, 3) := by decide +kernel
theorem dX4_steer_42 : decode cX4_steer 42 = .ok (.iconst 1, 1) := by decide +kernel
theorem dX4_steer_43 : decode cX4_steer 43 = .ok (.iadd, 1) := by decide +kernel
theorem dX4_steer_44 : decode cX4_steer 44 = .ok (.putfield 29, 3) := by decide +kernel
theorem dX4_steer_47 : decode cX4_steer 47 = .ok (.aload_n 0, 1) := by decide +kernel
theorem dX4_steer_48 : decode cX4_steer 48 = .ok (.iconst 0, 1) := by decide +kernel
theorem dX4_steer_49 : decode cX4_steer 49 = .ok (.putfield 32, 3) := by decide +kernel
theorem dX4_steer_52 : decode cX4_steer 52 = .ok (.goto 37, 3) := by decide +kernel
theorem dX4_steer_55 : decode cX4_steer 55 = .ok (.aload_n 0, 1) := by decide +kernel
theorem dX4_steer_56 : decode cX4_steer 56 = .ok (.dup, 1) := by decide +kernel
theorem dX4_steer_57 : decode cX4_steer 57 = .ok (.getfield 32, 3) := by decide +kernel
theorem dX4_steer_60 : decode cX4_steer 60 = .ok (.iconst 1, 1) := by decide +kernel
theorem dX4_steer_61 : decode cX4_steer 61 = .ok (.iadd, 1) := by decide +kernel
theorem dX4_steer_62 : decode cX4_steer 62 = .ok (.putfield 32, 3) := by decide +kernel
theorem dX4_steer_65 : decode cX4_steer 65 = .ok (.aload_n 0, 1) := by decide +kernel
theorem dX4_steer_66 : decode cX4_steer 66 = .ok (.iconst 0, 1) := by decide +kernel
theorem dX4_steer_67 : decode cX4_steer 67 = .ok (.putfield 29, 3) := by decide +kernel
theorem dX4_steer_70 : decode cX4_steer 70 = .ok (.iload_n 1, 1) := by decide +kernel
theorem dX4_steer_71 : decode cX4_steer 71 = .ok (.iconst (-1), 1) := by decide +kernel
theorem dX4_steer_72 : decode cX4_steer 72 = .ok (.if_icmp .eq 17, 3) := by decide +kernel
theorem dX4_steer_75 : decode cX4_steer 75 = .ok (.aload_n 0, 1) := by decide +kernel
theorem dX4_steer_76 : decode cX4_steer 76 = .ok (.getfield 35, 3) := by decide +kernel
theorem dX4_steer_79 : decode cX4_steer 79 = .ok (.ifCond .ne 10, 3) := by decide +kernel
theorem dX4_steer_82 : decode cX4_steer 82 = .ok (.aload_n 0, 1) := by decide +kernel
theorem dX4_steer_83 : decode cX4_steer 83 = .ok (.iconst 4, 1) := by decide +kernel
theorem dX4_steer_84 : decode cX4_steer 84 = .ok (.iload_n 1, 1) := by decide +kernel
theorem dX4_steer_85 : decode cX4_steer 85 = .ok (.imul, 1) := by decide +kernel
theorem dX4_steer_86 : decode cX4_steer 86 = .ok (.putfield 25, 3) := by decide +kernel
theorem dX4_steer_89 : decode cX4_steer 89 = .ok (.aload_n 0, 1) := by decide +kernel
theorem dX4_steer_90 : decode cX4_steer 90 = .ok (.getfield 29, 3) := by decide +kernel
theorem dX4_steer_93 : decode cX4_steer 93 = .ok (.iconst 2, 1) := by decide +kernel
theorem dX4_steer_94 : decode cX4_steer 94 = .ok (.if_icmp .lt 8, 3) := by decide +kernel
theorem dX4_steer_97 : decode cX4_steer 97 = .ok (.aload_n 0, 1) := by decide +kernel
theorem dX4_steer_98 : decode cX4_steer 98 = .ok (.iconst 1, 1) := by decide +kernel
theorem dX4_steer_99 : decode cX4_steer 99 = .ok (.putfield 35, 3) := by decide +kernel
theorem dX4_steer_102 : decode cX4_steer 102 = .ok (.aload_n 0, 1) := by decide +kernel
theorem dX4_steer_103 : decode cX4_steer 103 = .ok (.getfield 32, 3) := by decide +kernel
theorem dX4_steer_106 : decode cX4_steer 106 = .ok (.iconst 4, 1) := by decide +kernel
theorem dX4_steer_107 : decode cX4_steer 107 = .ok (.if_icmp .lt 8, 3) := by decide +kernel
theorem dX4_steer_110 : decode cX4_steer 110 = .ok (.aload_n 0, 1) := by decide +kernel
theorem dX4_steer_111 : decode cX4_steer 111 = .ok (.iconst 0, 1) := by decide +kernel
theorem dX4_steer_112 : decode cX4_steer 112 = .ok (.putfield 35, 3) := by decide +kernel
theorem dX4_steer_115 : decode cX4_steer 115 = .ok (.return_, 1) := by decide +kernel
theorem dX5_init_0 : decode cX5_init 0 = .ok (.aload_n 0, 1) := by decide +kernel
theorem dX5_init_1 : decode cX5_init 1 = .ok (.invokespecial 3, 3) := by decide +kernel
theorem dX5_init_4 : decode cX5_init 4 = .ok (.aload_n 0, 1) := by decide +kernel
theorem dX5_init_5 : decode cX5_init 5 = .ok (.bipush 80, 2) := by decide +kernel
theorem dX5_init_7 : decode cX5_init 7 = .ok (.newarray .int, 2) := by decide +kernel
theorem dX5_init_9 : decode cX5_init 9 = .ok (.putfield 9, 3) := by decide +kernel
theorem dX5_init_12 : decode cX5_init 12 = .ok (.aload_n 0, 1) := by decide +kernel
theorem dX5_init_13 : decode cX5_init 13 = .ok (.bipush 80, 2) := by decide +kernel
theorem dX5_init_15 : decode cX5_init 15 = .ok (.newarray .boolean, 2) := by decide +kernel
theorem dX5_init_17 : decode cX5_init 17 = .ok (.putfield 15, 3) := by decide +kernel
theorem dX5_init_20 : decode cX5_init 20 = .ok (.aload_n 0, 1) := by decide +kernel
theorem dX5_init_21 : decode cX5_init 21 = .ok (.bipush 80, 2) := by decide +kernel
theorem dX5_init_23 : decode cX5_init 23 = .ok (.newarray .int, 2) := by decide +kernel
theorem dX5_init_25 : decode cX5_init 25 = .ok (.putfield 19, 3) := by decide +kernel
theorem dX5_init_28 : decode cX5_init 28 = .ok (.return_, 1) := by decide +kernel
theorem dX5_watch_0 : decode cX5_watch 0 = .ok (.iload_n 3, 1) := by decide +kernel
theorem dX5_watch_1 : decode cX5_watch 1 = .ok (.ifCond .eq 102, 3) := by decide +kernel
theorem dX5_watch_4 : decode cX5_watch 4 = .ok (.iconst 0, 1) := by decide +kernel
theorem dX5_watch_5 : decode cX5_watch 5 = .ok (.istore 4, 2) := by decide +kernel
theorem dX5_watch_7 : decode cX5_watch 7 = .ok (.iload 4, 2) := by decide +kernel
theorem dX5_watch_9 : decode cX5_watch 9 = .ok (.bipush 80, 2) := by decide +kernel
theorem dX5_watch_11 : decode cX5_watch 11 = .ok (.if_icmp .ge 40, 3) := by decide +kernel
theorem dX5_watch_14 : decode cX5_watch 14 = .ok (.aload_n 0, 1) := by decide +kernel
theorem dX5_watch_15 : decode cX5_watch 15 = .ok (.getfield 15, 3) := by decide +kernel
theorem dX5_watch_18 : decode cX5_watch 18 = .ok (.iload 4, 2) := by decide +kernel
theorem dX5_watch_20 : decode cX5_watch 20 = .ok (.aload_n 1, 1) := by decide +kernel
theorem dX5_watch_21 : decode cX5_watch 21 = .ok (.iload 4, 2) := by decide +kernel
theorem dX5_watch_23 : decode cX5_watch 23 = .ok (.iaload, 1) := by decide +kernel
theorem dX5_watch_24 : decode cX5_watch 24 = .ok (.aload_n 0, 1) := by decide +kernel
theorem dX5_watch_25 : decode cX5_watch 25 = .ok (.getfield 9, 3) := by decide +kernel
theorem dX5_watch_28 : decode cX5_watch 28 = .ok (.iload 4, 2) := by decide +kernel
theorem dX5_watch_30 : decode cX5_watch 30 = .ok (.iaload, 1) := by decide +kernel
theorem dX5_watch_31 : decode cX5_watch 31 = .ok (.isub, 1) := by decide +kernel
theorem dX5_watch_32 : decode cX5_watch 32 = .ok (.invokestatic 22, 3) := by decide +kernel
theorem dX5_watch_35 : decode cX5_watch 35 = .ok (.iload_n 2, 1) := by decide +kernel
theorem dX5_watch_36 : decode cX5_watch 36 = .ok (.if_icmp .le 7, 3) := by decide +kernel
theorem dX5_watch_39 : decode cX5_watch 39 = .ok (.iconst 1, 1) := by decide +kernel
theorem dX5_watch_40 : decode cX5_watch 40 = .ok (.goto 4, 3) := by decide +kernel
theorem dX5_watch_43 : decode cX5_watch 43 = .ok (.iconst 0, 1) := by decide +kernel
theorem dX5_watch_44 : decode cX5_watch 44 = .ok (.bastore, 1) := by decide +kernel
theorem dX5_watch_45 : decode cX5_watch 45 = .ok (.iinc 4 1, 3) := by decide +kernel
theorem dX5_watch_48 : decode cX5_watch 48 = .ok (.goto (-41), 3) := by decide +kernel
theorem dX5_watch_51 : decode cX5_watch 51 = .ok (.iconst 0, 1) := by decide +kernel
theorem dX5_watch_52 : decode cX5_watch 52 = .ok (.istore 4, 2) := by decide +kernel
theorem dX5_watch_54 : decode cX5_watch 54 = .ok (.iload 4, 2) := by decide +kernel
theorem dX5_watch_56 : decode cX5_watch 56 = .ok (.bipush 8, 2) := by decide +kernel
theorem dX5_watch_58 : decode cX5_watch 58 = .ok (.if_icmp .ge 45, 3) := by decide +kernel
theorem dX5_watch_61 : decode cX5_watch 61 = .ok (.iconst 0, 1) := by decide +kernel
theorem dX5_watch_62 : decode cX5_watch 62 = .ok (.istore 5, 2) := by decide +kernel
theorem dX5_watch_64 : decode cX5_watch 64 = .ok (.iload 5, 2) := by decide +kernel
theorem dX5_watch_66 : decode cX5_watch 66 = .ok (.bipush 10, 2) := by decide +kernel
theorem dX5_watch_68 : decode cX5_watch 68 = .ok (.if_icmp .ge 29, 3) := by decide +kernel
theorem dX5_watch_71 : decode cX5_watch 71 = .ok (.aload_n 0, 1) := by decide +kernel
theorem dX5_watch_72 : decode cX5_watch 72 = .ok (.getfield 19, 3) := by decide +kernel
theorem dX5_watch_75 : decode cX5_watch 75 = .ok (.iload 4, 2) := by decide +kernel
theorem dX5_watch_77 : decode cX5_watch 77 = .ok (.iload 5, 2) := by decide +kernel
theorem dX5_watch_79 : decode cX5_watch 79 = .ok (.invokestatic 28, 3) := by decide +kernel
theorem dX5_watch_82 : decode cX5_watch 82 = .ok (.aload_n 0, 1) := by decide +kernel
theorem dX5_watch_83 : decode cX5_watch 83 = .ok (.iload 4, 2) := by decide +kernel
theorem dX5_watch_85 : decode cX5_watch 85 = .ok (.iload 5, 2) := by decide +kernel
theorem dX5_watch_87 : decode cX5_watch 87 = .ok (.invokevirtual 32, 3) := by decide +kernel
theorem dX5_watch_90 : decode cX5_watch 90 = .ok (.iastore, 1) := by decide +kernel
theorem dX5_watch_91 : decode cX5_watch 91 = .ok (.iinc 5 1, 3) := by decide +kernel
theorem dX5_watch_94 : decode cX5_watch 94 = .ok (.goto (-30), 3) := by decide +kernel
theorem dX5_watch_97 : decode cX5_watch 97 = .ok (.iinc 4 1, 3) := by decide +kernel
theorem dX5_watch_100 : decode cX5_watch 100 = .ok (.goto (-46), 3) := by decide +kernel
theorem dX5_watch_103 : decode cX5_watch 103 = .ok (.aload_n 1, 1) := by decide +kernel
theorem dX5_watch_104 : decode cX5_watch 104 = .ok (.iconst 0, 1) := by decide +kernel
theorem dX5_watch_105 : decode cX5_watch 105 = .ok (.aload_n 0, 1) := by decide +kernel
theorem dX5_watch_106 : decode cX5_watch 106 = .ok (.getfield 9, 3) := by decide +kernel
theorem dX5_watch_109 : decode cX5_watch 109 = .ok (.iconst 0, 1) := by decide +kernel
theorem dX5_watch_110 : decode cX5_watch 110 = .ok (.bipush 80, 2) := by decide +kernel
theorem dX5_watch_112 : decode cX5_watch 112 = .ok (.invokestatic 35, 3) := by decide +kernel
theorem dX5_watch_115 : decode cX5_watch 115 = .ok (.return_, 1) := by decide +kernel
theorem dX5_kindOf_0 : decode cX5_kindOf 0 = .ok (.aload_n 0, 1) := by decide +kernel
theorem dX5_kindOf_1 : decode cX5_kindOf 1 = .ok (.iload_n 1, 1) := by decide +kernel
theorem dX5_kindOf_2 : decode cX5_kindOf 2 = .ok (.iload_n 2, 1) := by decide +kernel
theorem dX5_kindOf_3 : decode cX5_kindOf 3 = .ok (.invokevirtual 41, 3) := by decide +kernel
theorem dX5_kindOf_6 : decode cX5_kindOf 6 = .ok (.ifCond .ne 5, 3) := by decide +kernel
theorem dX5_kindOf_9 : decode cX5_kindOf 9 = .ok (.iconst 0, 1) := by decide +kernel
theorem dX5_kindOf_10 : decode cX5_kindOf 10 = .ok (.ireturn, 1) := by decide +kernel
theorem dX5_kindOf_11 : decode cX5_kindOf 11 = .ok (.aload_n 0, 1) := by decide +kernel
theorem dX5_kindOf_12 : decode cX5_kindOf 12 = .ok (.iload_n 1, 1) := by decide +kernel
theorem dX5_kindOf_13 : decode cX5_kindOf 13 = .ok (.iload_n 2, 1) := by decide +kernel
theorem dX5_kindOf_14 : decode cX5_kindOf 14 = .ok (.iconst 1, 1) := by decide +kernel
theorem dX5_kindOf_15 : decode cX5_kindOf 15 = .ok (.isub, 1) := by decide +kernel
theorem dX5_kindOf_16 : decode cX5_kindOf 16 = .ok (.invokevirtual 41, 3) := by decide +kernel
theorem dX5_kindOf_19 : decode cX5_kindOf 19 = .ok (.ifCond .ne 14, 3) := by decide +kernel
theorem dX5_kindOf_22 : decode cX5_kindOf 22 = .ok (.aload_n 0, 1) := by decide +kernel
theorem dX5_kindOf_23 : decode cX5_kindOf 23 = .ok (.iload_n 1, 1) := by decide +kernel
theorem dX5_kindOf_24 : decode cX5_kindOf 24 = .ok (.iload_n 2, 1) := by decide +kernel
theorem dX5_kindOf_25 : decode cX5_kindOf 25 = .ok (.iconst 1, 1) := by decide +kernel
theorem dX5_kindOf_26 : decode cX5_kindOf 26 = .ok (.iadd, 1) := by decide +kernel
theorem dX5_kindOf_27 : decode cX5_kindOf 27 = .ok (.invokevirtual 41, 3) := by decide +kernel
theorem dX5_kindOf_30 : decode cX5_kindOf 30 = .ok (.ifCond .eq 7, 3) := by decide +kernel
theorem dX5_kindOf_33 : decode cX5_kindOf 33 = .ok (.iconst 1, 1) := by decide +kernel
theorem dX5_kindOf_34 : decode cX5_kindOf 34 = .ok (.goto 4, 3) := by decide +kernel
theorem dX5_kindOf_37 : decode cX5_kindOf 37 = .ok (.iconst 0, 1) := by decide +kernel
theorem dX5_kindOf_38 : decode cX5_kindOf 38 = .ok (.istore_n 3, 1) := by decide +kernel
theorem dX5_kindOf_39 : decode cX5_kindOf 39 = .ok (.aload_n 0, 1) := by decide +kernel
theorem dX5_kindOf_40 : decode cX5_kindOf 40 = .ok (.iload_n 1, 1) := by decide +kernel
theorem dX5_kindOf_41 : decode cX5_kindOf 41 = .ok (.iconst 1, 1) := by decide +kernel
theorem dX5_kindOf_42 : decode cX5_kindOf 42 = .ok (.isub, 1) := by decide +kernel
theorem dX5_kindOf_43 : decode cX5_kindOf 43 = .ok (.iload_n 2, 1) := by decide +kernel
theorem dX5_kindOf_44 : decode cX5_kindOf 44 = .ok (.invokevirtual 41, 3) := by decide +kernel
theorem dX5_kindOf_47 : decode cX5_kindOf 47 = .ok (.ifCond .ne 14, 3) := by decide +kernel
theorem dX5_kindOf_50 : decode cX5_kindOf 50 = .ok (.aload_n 0, 1) := by decide +kernel
theorem dX5_kindOf_51 : decode cX5_kindOf 51 = .ok (.iload_n 1, 1) := by decide +kernel
theorem dX5_kindOf_52 : decode cX5_kindOf 52 = .ok (.iconst 1, 1) := by decide +kernel
theorem dX5_kindOf_53 : decode cX5_kindOf 53 = .ok (.iadd, 1) := by decide +kernel
theorem dX5_kindOf_54 : decode cX5_kindOf 54 = .ok (.iload_n 2, 1) := by decide +kernel
theorem dX5_kindOf_55 : decode cX5_kindOf 55 = .ok (.invokevirtual 41, 3) := by decide +kernel
theorem dX5_kindOf_58 : decode cX5_kindOf 58 = .ok (.ifCond .eq 7, 3) := by decide +kernel
theorem dX5_kindOf_61 : decode cX5_kindOf 61 = .ok (.iconst 1, 1) := by decide +kernel
theorem dX5_kindOf_62 : decode cX5_kindOf 62 = .ok (.goto 4, 3) := by decide +kernel
theorem dX5_kindOf_65 : decode cX5_kindOf 65 = .ok (.iconst 0, 1) := by decide +kernel
theorem dX5_kindOf_66 : decode cX5_kindOf 66 = .ok (.istore 4, 2) := by decide +kernel
theorem dX5_kindOf_68 : decode cX5_kindOf 68 = .ok (.iload_n 3, 1) := by decide +kernel
theorem dX5_kindOf_69 : decode cX5_kindOf 69 = .ok (.ifCond .ne 8, 3) := by decide +kernel
theorem dX5_kindOf_72 : decode cX5_kindOf 72 = .ok (.iload 4, 2) := by decide +kernel
theorem dX5_kindOf_74 : decode cX5_kindOf 74 = .ok (.ifCond .eq 7, 3) := by decide +kernel
theorem dX5_kindOf_77 : decode cX5_kindOf 77 = .ok (.iconst 2, 1) := by decide +kernel
theorem dX5_kindOf_78 : decode cX5_kindOf 78 = .ok (.goto 4, 3) := by decide +kernel
theorem dX5_kindOf_81 : decode cX5_kindOf 81 = .ok (.iconst 1, 1) := by decide +kernel
theorem dX5_kindOf_82 : decode cX5_kindOf 82 = .ok (.ireturn, 1) := by decide +kernel
theorem dX5_hasChanged_0 : decode cX5_hasChanged 0 = .ok (.iload_n 1, 1) := by decide +kernel
theorem dX5_hasChanged_1 : decode cX5_hasChanged 1 = .ok (.iload_n 2, 1) := by decide +kernel
theorem dX5_hasChanged_2 : decode cX5_hasChanged 2 = .ok (.invokestatic 45, 3) := by decide +kernel
theorem dX5_hasChanged_5 : decode cX5_hasChanged 5 = .ok (.ifCond .eq 20, 3) := by decide +kernel
theorem dX5_hasChanged_8 : decode cX5_hasChanged 8 = .ok (.aload_n 0, 1) := by decide +kernel
theorem dX5_hasChanged_9 : decode cX5_hasChanged 9 = .ok (.getfield 15, 3) := by decide +kernel
theorem dX5_hasChanged_12 : decode cX5_hasChanged 12 = .ok (.iload_n 1, 1) := by decide +kernel
theorem dX5_hasChanged_13 : decode cX5_hasChanged 13 = .ok (.iload_n 2, 1) := by decide +kernel
theorem dX5_hasChanged_14 : decode cX5_hasChanged 14 = .ok (.invokestatic 28, 3) := by decide +kernel
theorem dX5_hasChanged_17 : decode cX5_hasChanged 17 = .ok (.baload, 1) := by decide +kernel
theorem dX5_hasChanged_18 : decode cX5_hasChanged 18 = .ok (.ifCond .eq 7, 3) := by decide +kernel
theorem dX5_hasChanged_21 : decode cX5_hasChanged 21 = .ok (.iconst 1, 1) := by decide +kernel
theorem dX5_hasChanged_22 : decode cX5_hasChanged 22 = .ok (.goto 4, 3) := by decide +kernel
theorem dX5_hasChanged_25 : decode cX5_hasChanged 25 = .ok (.iconst 0, 1) := by decide +kernel
theorem dX5_hasChanged_26 : decode cX5_hasChanged 26 = .ok (.ireturn, 1) := by decide +kernel
theorem dX6_init_0 : decode cX6_init 0 = .ok (.aload_n 0, 1) := by decide +kernel
theorem dX6_init_1 : decode cX6_init 1 = .ok (.invokespecial 3, 3) := by decide +kernel
theorem dX6_init_4 : decode cX6_init 4 = .ok (.aload_n 0, 1) := by decide +kernel
theorem dX6_init_5 : decode cX6_init 5 = .ok (.bipush 8, 2) := by decide +kernel
theorem dX6_init_7 : decode cX6_init 7 = .ok (.newarray .float, 2) := by decide +kernel
theorem dX6_init_9 : decode cX6_init 9 = .ok (.putfield 9, 3) := by decide +kernel
theorem dX6_init_12 : decode cX6_init 12 = .ok (.aload_n 0, 1) := by decide +kernel
theorem dX6_init_13 : decode cX6_init 13 = .ok (.bipush 8, 2) := by decide +kernel
theorem dX6_init_15 : decode cX6_init 15 = .ok (.newarray .float, 2) := by decide +kernel
theorem dX6_init_17 : decode cX6_init 17 = .ok (.putfield 15, 3) := by decide +kernel
theorem dX6_init_20 : decode cX6_init 20 = .ok (.return_, 1) := by decide +kernel
theorem dX6_follow_0 : decode cX6_follow 0 = .ok (.fconst 0, 1) := by decide +kernel
theorem dX6_follow_1 : decode cX6_follow 1 = .ok (.fstore_n 3, 1) := by decide +kernel
theorem dX6_follow_2 : decode cX6_follow 2 = .ok (.fconst 0, 1) := by decide +kernel
theorem dX6_follow_3 : decode cX6_follow 3 = .ok (.fstore 4, 2) := by decide +kernel
theorem dX6_follow_5 : decode cX6_follow 5 = .ok (.iconst 1, 1) := by decide +kernel
theorem dX6_follow_6 : decode cX6_follow 6 = .ok (.istore 5, 2) := by decide +kernel
theorem dX6_follow_8 : decode cX6_follow 8 = .ok (.iconst 0, 1) := by decide +kernel
theorem dX6_follow_9 : decode cX6_follow 9 = .ok (.istore 6, 2) := by decide +kernel
theorem dX6_follow_11 : decode cX6_follow 11 = .ok (.iload 6, 2) := by decide +kernel
theorem dX6_follow_13 : decode cX6_follow 13 = .ok (.bipush 8, 2) := by decide +kernel
theorem dX6_follow_15 : decode cX6_follow 15 = .ok (.if_icmp .ge 106, 3) := by decide +kernel
theorem dX6_follow_18 : decode cX6_follow 18 = .ok (.aload_n 1, 1) := by decide +kernel
theorem dX6_follow_19 : decode cX6_follow 19 = .ok (.getfield 18, 3) := by decide +kernel
theorem dX6_follow_22 : decode cX6_follow 22 = .ok (.iload 6, 2) := by decide +kernel
theorem dX6_follow_24 : decode cX6_follow 24 = .ok (.baload, 1) := by decide +kernel
theorem dX6_follow_25 : decode cX6_follow 25 = .ok (.ifCond .eq 73, 3) := by decide +kernel
theorem dX6_follow_28 : decode cX6_follow 28 = .ok (.aload_n 1, 1) := by decide +kernel
theorem dX6_follow_29 : decode cX6_follow 29 = .ok (.getfield 24, 3) := by decide +kernel
theorem dX6_follow_32 : decode cX6_follow 32 = .ok (.iload 6, 2) := by decide +kernel
theorem dX6_follow_34 : decode cX6_follow 34 = .ok (.iload_n 2, 1) := by decide +kernel
theorem dX6_follow_35 : decode cX6_follow 35 = .ok (.invokestatic 27, 3) := by decide +kernel
theorem dX6_follow_38 : decode cX6_follow 38 = .ok (.fstore 7, 2) := by decide +kernel
theorem dX6_follow_40 : decode cX6_follow 40 = .ok (.aload_n 1, 1) := by decide +kernel
theorem dX6_follow_41 : decode cX6_follow 41 = .ok (.getfield 31, 3) := by decide +kernel
theorem dX6_follow_44 : decode cX6_follow 44 = .ok (.iload 6, 2) := by decide +kernel
theorem dX6_follow_46 : decode cX6_follow 46 = .ok (.iload_n 2, 1) := by decide +kernel
theorem dX6_follow_47 : decode cX6_follow 47 = .ok (.invokestatic 27, 3) := by decide +kernel
theorem dX6_follow_50 : decode cX6_follow 50 = .ok (.fstore 8, 2) := by decide +kernel
theorem dX6_follow_52 : decode cX6_follow 52 = .ok (.iload 5, 2) := by decide +kernel
theorem dX6_follow_54 : decode cX6_follow 54 = .ok (.ifCond .eq 8, 3) := by decide +kernel
theorem dX6_follow_57 : decode cX6_follow 57 = .ok (.fload 7, 2) := by decide +kernel
theorem dX6_follow_59 : decode cX6_follow 59 = .ok (.goto 12, 3) := by decide +kernel
theorem dX6_follow_62 : decode cX6_follow 62 = .ok (.fload_n 3, 1) := by decide +kernel
theorem dX6_follow_63 : decode cX6_follow 63 = .ok (.fload 7, 2) := by decide +kernel
theorem dX6_follow_65 : decode cX6_follow 65 = .ok (.fload_n 3, 1) := by decide +kernel
theorem dX6_follow_66 : decode cX6_follow 66 = .ok (.fsub, 1) := by decide +kernel
theorem dX6_follow_67 : decode cX6_follow 67 = .ok (.ldc 33, 2) := by decide +kernel
theorem dX6_follow_69 : decode cX6_follow 69 = .ok (.fmul, 1) := by decide +kernel
theorem dX6_follow_70 : decode cX6_follow 70 = .ok (.fadd, 1) := by decide +kernel
theorem dX6_follow_71 : decode cX6_follow 71 = .ok (.fstore_n 3, 1) := by decide +kernel
theorem dX6_follow_72 : decode cX6_follow 72 = .ok (.iload 5, 2) := by decide +kernel
theorem dX6_follow_74 : decode cX6_follow 74 = .ok (.ifCond .eq 8, 3) := by decide +kernel
theorem dX6_follow_77 : decode cX6_follow 77 = .ok (.fload 8, 2) := by decide +kernel
theorem dX6_follow_79 : decode cX6_follow 79 = .ok (.goto 14, 3) := by decide +kernel
theorem dX6_follow_82 : decode cX6_follow 82 = .ok (.fload 4, 2) := by decide +kernel
theorem dX6_follow_84 : decode cX6_follow 84 = .ok (.fload 8, 2) := by decide +kernel
theorem dX6_follow_86 : decode cX6_follow 86 = .ok (.fload 4, 2) := by decide +kernel
theorem dX6_follow_88 : decode cX6_follow 88 = .ok (.fsub, 1) := by decide +kernel
theorem dX6_follow_89 : decode cX6_follow 89 = .ok (.ldc 33, 2) := by decide +kernel
theorem dX6_follow_91 : decode cX6_follow 91 = .ok (.fmul, 1) := by decide +kernel
theorem dX6_follow_92 : decode cX6_follow 92 = .ok (.fadd, 1) := by decide +kernel
theorem dX6_follow_93 : decode cX6_follow 93 = .ok (.fstore 4, 2) := by decide +kernel
theorem dX6_follow_95 : decode cX6_follow 95 = .ok (.iconst 0, 1) := by decide +kernel
theorem dX6_follow_96 : decode cX6_follow 96 = .ok (.istore 5, 2) := by decide +kernel
theorem dX6_follow_98 : decode cX6_follow 98 = .ok (.aload_n 0, 1) := by decide +kernel
theorem dX6_follow_99 : decode cX6_follow 99 = .ok (.getfield 9, 3) := by decide +kernel
theorem dX6_follow_102 : decode cX6_follow 102 = .ok (.iload 6, 2) := by decide +kernel
theorem dX6_follow_104 : decode cX6_follow 104 = .ok (.fload_n 3, 1) := by decide +kernel
theorem dX6_follow_105 : decode cX6_follow 105 = .ok (.fastore, 1) := by decide +kernel
theorem dX6_follow_106 : decode cX6_follow 106 = .ok (.aload_n 0, 1) := by decide +kernel
theorem dX6_follow_107 : decode cX6_follow 107 = .ok (.getfield 15, 3) := by decide +kernel
theorem dX6_follow_110 : decode cX6_follow 110 = .ok (.iload 6, 2) := by decide +kernel
theorem dX6_follow_112 : decode cX6_follow 112 = .ok (.fload 4, 2) := by decide +kernel
theorem dX6_follow_114 : decode cX6_follow 114 = .ok (.fastore, 1) := by decide +kernel
theorem dX6_follow_115 : decode cX6_follow 115 = .ok (.iinc 6 1, 3) := by decide +kernel
theorem dX6_follow_118 : decode cX6_follow 118 = .ok (.goto (-107), 3) := by decide +kernel
theorem dX6_follow_121 : decode cX6_follow 121 = .ok (.return_, 1) := by decide +kernel
theorem dX6_aimOf_0 : decode cX6_aimOf 0 = .ok (.iload_n 2, 1) := by decide +kernel
theorem dX6_aimOf_1 : decode cX6_aimOf 1 = .ok (.iconst 1, 1) := by decide +kernel
theorem dX6_aimOf_2 : decode cX6_aimOf 2 = .ok (.if_icmp .ne 8, 3) := by decide +kernel
theorem dX6_aimOf_5 : decode cX6_aimOf 5 = .ok (.iload_n 1, 1) := by decide +kernel
theorem dX6_aimOf_6 : decode cX6_aimOf 6 = .ok (.iconst 1, 1) := by decide +kernel
theorem dX6_aimOf_7 : decode cX6_aimOf 7 = .ok (.if_icmp .ge 9, 3) := by decide +kernel
theorem dX6_aimOf_10 : decode cX6_aimOf 10 = .ok (.aload_n 0, 1) := by decide +kernel
theorem dX6_aimOf_11 : decode cX6_aimOf 11 = .ok (.iload_n 1, 1) := by decide +kernel
theorem dX6_aimOf_12 : decode cX6_aimOf 12 = .ok (.iaload, 1) := by decide +kernel
theorem dX6_aimOf_13 : decode cX6_aimOf 13 = .ok (.ineg, 1) := by decide +kernel
theorem dX6_aimOf_14 : decode cX6_aimOf 14 = .ok (.i2f, 1) := by decide +kernel
theorem dX6_aimOf_15 : decode cX6_aimOf 15 = .ok (.freturn, 1) := by decide +kernel
theorem dX6_aimOf_16 : decode cX6_aimOf 16 = .ok (.aload_n 0, 1) := by decide +kernel
theorem dX6_aimOf_17 : decode cX6_aimOf 17 = .ok (.iload_n 1, 1) := by decide +kernel
theorem dX6_aimOf_18 : decode cX6_aimOf 18 = .ok (.iaload, 1) := by decide +kernel
theorem dX6_aimOf_19 : decode cX6_aimOf 19 = .ok (.aload_n 0, 1) := by decide +kernel
theorem dX6_aimOf_20 : decode cX6_aimOf 20 = .ok (.iload_n 1, 1) := by decide +kernel
theorem dX6_aimOf_21 : decode cX6_aimOf 21 = .ok (.iconst 1, 1) := by decide +kernel
theorem dX6_aimOf_22 : decode cX6_aimOf 22 = .ok (.isub, 1) := by decide +kernel
theorem dX6_aimOf_23 : decode cX6_aimOf 23 = .ok (.iaload, 1) := by decide +kernel
theorem dX6_aimOf_24 : decode cX6_aimOf 24 = .ok (.iadd, 1) := by decide +kernel
theorem dX6_aimOf_25 : decode cX6_aimOf 25 = .ok (.ineg, 1) := by decide +kernel
theorem dX6_aimOf_26 : decode cX6_aimOf 26 = .ok (.i2f, 1) := by decide +kernel
theorem dX6_aimOf_27 : decode cX6_aimOf 27 = .ok (.fconst 2, 1) := by decide +kernel
theorem dX6_aimOf_28 : decode cX6_aimOf 28 = .ok (.fdiv, 1) := by decide +kernel
theorem dX6_aimOf_29 : decode cX6_aimOf 29 = .ok (.freturn, 1) := by decide +kernel
theorem dX7_init_0 : decode cX7_init 0 = .ok (.aload_n 0, 1) := by decide +kernel
theorem dX7_init_1 : decode cX7_init 1 = .ok (.invokespecial 3, 3) := by decide +kernel
theorem dX7_init_4 : decode cX7_init 4 = .ok (.aload_n 0, 1) := by decide +kernel
theorem dX7_init_5 : decode cX7_init 5 = .ok (.bipush 80, 2) := by decide +kernel
theorem dX7_init_7 : decode cX7_init 7 = .ok (.newarray .int, 2) := by decide +kernel
theorem dX7_init_9 : decode cX7_init 9 = .ok (.putfield 9, 3) := by decide +kernel
theorem dX7_init_12 : decode cX7_init 12 = .ok (.aload_n 0, 1) := by decide +kernel
theorem dX7_init_13 : decode cX7_init 13 = .ok (.bipush 80, 2) := by decide +kernel
theorem dX7_init_15 : decode cX7_init 15 = .ok (.newarray .int, 2) := by decide +kernel
theorem dX7_init_17 : decode cX7_init 17 = .ok (.putfield 15, 3) := by decide +kernel
theorem dX7_init_20 : decode cX7_init 20 = .ok (.aload_n 0, 1) := by decide +kernel
theorem dX7_init_21 : decode cX7_init 21 = .ok (.bipush 80, 2) := by decide +kernel
theorem dX7_init_23 : decode cX7_init 23 = .ok (.newarray .int, 2) := by decide +kernel
theorem dX7_init_25 : decode cX7_init 25 = .ok (.putfield 18, 3) := by decide +kernel
theorem dX7_init_28 : decode cX7_init 28 = .ok (.aload_n 0, 1) := by decide +kernel
theorem dX7_init_29 : decode cX7_init 29 = .ok (.bipush 8, 2) := by decide +kernel
theorem dX7_init_31 : decode cX7_init 31 = .ok (.newarray .int, 2) := by decide +kernel
theorem dX7_init_33 : decode cX7_init 33 = .ok (.putfield 21, 3) := by decide +kernel
theorem dX7_init_36 : decode cX7_init 36 = .ok (.aload_n 0, 1) := by decide +kernel
theorem dX7_init_37 : decode cX7_init 37 = .ok (.bipush 8, 2) := by decide +kernel
theorem dX7_init_39 : decode cX7_init 39 = .ok (.newarray .int, 2) := by decide +kernel
theorem dX7_init_41 : decode cX7_init 41 = .ok (.putfield 24, 3) := by decide +kernel
theorem dX7_init_44 : decode cX7_init 44 = .ok (.aload_n 0, 1) := by decide +kernel
theorem dX7_init_45 : decode cX7_init 45 = .ok (.bipush 8, 2) := by decide +kernel
theorem dX7_init_47 : decode cX7_init 47 = .ok (.newarray .int, 2) := by decide +kernel
theorem dX7_init_49 : decode cX7_init 49 = .ok (.putfield 27, 3) := by decide +kernel
theorem dX7_init_52 : decode cX7_init 52 = .ok (.aload_n 0, 1) := by decide +kernel
theorem dX7_init_53 : decode cX7_init 53 = .ok (.bipush 8, 2) := by decide +kernel
theorem dX7_init_55 : decode cX7_init 55 = .ok (.newarray .int, 2) := by decide +kernel
theorem dX7_init_57 : decode cX7_init 57 = .ok (.putfield 30, 3) := by decide +kernel
theorem dX7_init_60 : decode cX7_init 60 = .ok (.aload_n 0, 1) := by decide +kernel
theorem dX7_init_61 : decode cX7_init 61 = .ok (.bipush 8, 2) := by decide +kernel
theorem dX7_init_63 : decode cX7_init 63 = .ok (.newarray .boolean, 2) := by decide +kernel
theorem dX7_init_65 : decode cX7_init 65 = .ok (.putfield 33, 3) := by decide +kernel
theorem dX7_init_68 : decode cX7_init 68 = .ok (.iconst 0, 1) := by decide +kernel
theorem dX7_init_69 : decode cX7_init 69 = .ok (.istore_n 1, 1) := by decide +kernel
theorem dX7_init_70 : decode cX7_init 70 = .ok (.iload_n 1, 1) := by decide +kernel
theorem dX7_init_71 : decode cX7_init 71 = .ok (.bipush 8, 2) := by decide +kernel
theorem dX7_init_73 : decode cX7_init 73 = .ok (.if_icmp .ge 17, 3) := by decide +kernel
theorem dX7_init_76 : decode cX7_init 76 = .ok (.aload_n 0, 1) := by decide +kernel
theorem dX7_init_77 : decode cX7_init 77 = .ok (.getfield 24, 3) := by decide +kernel
theorem dX7_init_80 : decode cX7_init 80 = .ok (.iload_n 1, 1) := by decide +kernel
theorem dX7_init_81 : decode cX7_init 81 = .ok (.bipush 20, 2) := by decide +kernel
theorem dX7_init_83 : decode cX7_init 83 = .ok (.iastore, 1) := by decide +kernel
theorem dX7_init_84 : decode cX7_init 84 = .ok (.iinc 1 1, 3) := by decide +kernel
theorem dX7_init_87 : decode cX7_init 87 = .ok (.goto (-17), 3) := by decide +kernel
theorem dX7_init_90 : decode cX7_init 90 = .ok (.return_, 1) := by decide +kernel
theorem dX7_paint_0 : decode cX7_paint 0 = .ok (.aload_n 0, 1) := by decide +kernel
theorem dX7_paint_1 : decode cX7_paint 1 = .ok (.getfield 9, 3) := by decide +kernel
theorem dX7_paint_4 : decode cX7_paint 4 = .ok (.iload_n 1, 1) := by decide +kernel
theorem dX7_paint_5 : decode cX7_paint 5 = .ok (.iaload, 1) := by decide +kernel
theorem dX7_paint_6 : decode cX7_paint 6 = .ok (.iload_n 2, 1) := by decide +kernel
theorem dX7_paint_7 : decode cX7_paint 7 = .ok (.if_icmp .ne 24, 3) := by decide +kernel
theorem dX7_paint_10 : decode cX7_paint 10 = .ok (.aload_n 0, 1) := by decide +kernel
theorem dX7_paint_11 : decode cX7_paint 11 = .ok (.getfield 15, 3) := by decide +kernel
theorem dX7_paint_14 : decode cX7_paint 14 = .ok (.iload_n 1, 1) := by decide +kernel
theorem dX7_paint_15 : decode cX7_paint 15 = .ok (.iaload, 1) := by decide +kernel
theorem dX7_paint_16 : decode cX7_paint 16 = .ok (.iload_n 3, 1) := by decide +kernel
theorem dX7_paint_17 : decode cX7_paint 17 = .ok (.if_icmp .ne 14, 3) := by decide +kernel
theorem dX7_paint_20 : decode cX7_paint 20 = .ok (.aload_n 0, 1) := by decide +kernel
theorem dX7_paint_21 : decode cX7_paint 21 = .ok (.getfield 18, 3) := by decide +kernel
theorem dX7_paint_24 : decode cX7_paint 24 = .ok (.iload_n 1, 1) := by decide +kernel
theorem dX7_paint_25 : decode cX7_paint 25 = .ok (.iaload, 1) := by decide +kernel
theorem dX7_paint_26 : decode cX7_paint 26 = .ok (.iload 4, 2) := by decide +kernel
theorem dX7_paint_28 : decode cX7_paint 28 = .ok (.if_icmp .eq 7, 3) := by decide +kernel
theorem dX7_paint_31 : decode cX7_paint 31 = .ok (.iconst 1, 1) := by decide +kernel
theorem dX7_paint_32 : decode cX7_paint 32 = .ok (.goto 4, 3) := by decide +kernel
theorem dX7_paint_35 : decode cX7_paint 35 = .ok (.iconst 0, 1) := by decide +kernel
theorem dX7_paint_36 : decode cX7_paint 36 = .ok (.istore 5, 2) := by decide +kernel
theorem dX7_paint_38 : decode cX7_paint 38 = .ok (.aload_n 0, 1) := by decide +kernel
theorem dX7_paint_39 : decode cX7_paint 39 = .ok (.getfield 9, 3) := by decide +kernel
theorem dX7_paint_42 : decode cX7_paint 42 = .ok (.iload_n 1, 1) := by decide +kernel
theorem dX7_paint_43 : decode cX7_paint 43 = .ok (.iload_n 2, 1) := by decide +kernel
theorem dX7_paint_44 : decode cX7_paint 44 = .ok (.iastore, 1) := by decide +kernel
theorem dX7_paint_45 : decode cX7_paint 45 = .ok (.aload_n 0, 1) := by decide +kernel
theorem dX7_paint_46 : decode cX7_paint 46 = .ok (.getfield 15, 3) := by decide +kernel
theorem dX7_paint_49 : decode cX7_paint 49 = .ok (.iload_n 1, 1) := by decide +kernel
theorem dX7_paint_50 : decode cX7_paint 50 = .ok (.iload_n 3, 1) := by decide +kernel
theorem dX7_paint_51 : decode cX7_paint 51 = .ok (.iastore, 1) := by decide +kernel
theorem dX7_paint_52 : decode cX7_paint 52 = .ok (.aload_n 0, 1) := by decide +kernel
theorem dX7_paint_53 : decode cX7_paint 53 = .ok (.getfield 18, 3) := by decide +kernel
theorem dX7_paint_56 : decode cX7_paint 56 = .ok (.iload_n 1, 1) := by decide +kernel
theorem dX7_paint_57 : decode cX7_paint 57 = .ok (.iload 4, 2) := by decide +kernel
theorem dX7_paint_59 : decode cX7_paint 59 = .ok (.iastore, 1) := by decide +kernel
theorem dX7_paint_60 : decode cX7_paint 60 = .ok (.iload 5, 2) := by decide +kernel
theorem dX7_paint_62 : decode cX7_paint 62 = .ok (.ireturn, 1) := by decide +kernel
theorem dX7_sampleAt_0 : decode cX7_sampleAt 0 = .ok (.iload_n 2, 1) := by decide +kernel
theorem dX7_sampleAt_1 : decode cX7_sampleAt 1 = .ok (.bipush 8, 2) := by decide +kernel
theorem dX7_sampleAt_3 : decode cX7_sampleAt 3 = .ok (.isub, 1) := by decide +kernel
theorem dX7_sampleAt_4 : decode cX7_sampleAt 4 = .ok (.aload_n 0, 1) := by decide +kernel
theorem dX7_sampleAt_5 : decode cX7_sampleAt 5 = .ok (.getfield 21, 3) := by decide +kernel
theorem dX7_sampleAt_8 : decode cX7_sampleAt 8 = .ok (.iload_n 1, 1) := by decide +kernel
theorem dX7_sampleAt_9 : decode cX7_sampleAt 9 = .ok (.iaload, 1) := by decide +kernel
theorem dX7_sampleAt_10 : decode cX7_sampleAt 10 = .ok (.isub, 1) := by decide +kernel
theorem dX7_sampleAt_11 : decode cX7_sampleAt 11 = .ok (.istore_n 3, 1) := by decide +kernel
theorem dX7_sampleAt_12 : decode cX7_sampleAt 12 = .ok (.iload_n 1, 1) := by decide +kernel
theorem dX7_sampleAt_13 : decode cX7_sampleAt 13 = .ok (.iload_n 2, 1) := by decide +kernel
theorem dX7_sampleAt_14 : decode cX7_sampleAt 14 = .ok (.aload_n 0, 1) := by decide +kernel
theorem dX7_sampleAt_15 : decode cX7_sampleAt 15 = .ok (.getfield 27, 3) := by decide +kernel
theorem dX7_sampleAt_18 : decode cX7_sampleAt 18 = .ok (.iload_n 1, 1) := by decide +kernel
theorem dX7_sampleAt_19 : decode cX7_sampleAt 19 = .ok (.iaload, 1) := by decide +kernel
theorem dX7_sampleAt_20 : decode cX7_sampleAt 20 = .ok (.iadd, 1) := by decide +kernel
theorem dX7_sampleAt_21 : decode cX7_sampleAt 21 = .ok (.invokestatic 37, 3) := by decide +kernel
theorem dX7_sampleAt_24 : decode cX7_sampleAt 24 = .ok (.istore 4, 2) := by decide +kernel
theorem dX7_sampleAt_26 : decode cX7_sampleAt 26 = .ok (.aload_n 0, 1) := by decide +kernel
theorem dX7_sampleAt_27 : decode cX7_sampleAt 27 = .ok (.iload_n 1, 1) := by decide +kernel
theorem dX7_sampleAt_28 : decode cX7_sampleAt 28 = .ok (.iload_n 2, 1) := by decide +kernel
theorem dX7_sampleAt_29 : decode cX7_sampleAt 29 = .ok (.invokevirtual 41, 3) := by decide +kernel
theorem dX7_sampleAt_32 : decode cX7_sampleAt 32 = .ok (.aload_n 0, 1) := by decide +kernel
theorem dX7_sampleAt_33 : decode cX7_sampleAt 33 = .ok (.iload_n 1, 1) := by decide +kernel
theorem dX7_sampleAt_34 : decode cX7_sampleAt 34 = .ok (.iload_n 3, 1) := by decide +kernel
theorem dX7_sampleAt_35 : decode cX7_sampleAt 35 = .ok (.iload 4, 2) := by decide +kernel
theorem dX7_sampleAt_37 : decode cX7_sampleAt 37 = .ok (.invokevirtual 44, 3) := by decide +kernel
theorem dX7_sampleAt_40 : decode cX7_sampleAt 40 = .ok (.iadd, 1) := by decide +kernel
theorem dX7_sampleAt_41 : decode cX7_sampleAt 41 = .ok (.ireturn, 1) := by decide +kernel
theorem dX7_noiseAt_0 : decode cX7_noiseAt 0 = .ok (.aload_n 0, 1) := by decide +kernel
theorem dX7_noiseAt_1 : decode cX7_noiseAt 1 = .ok (.getfield 30, 3) := by decide +kernel
theorem dX7_noiseAt_4 : decode cX7_noiseAt 4 = .ok (.iload_n 1, 1) := by decide +kernel
theorem dX7_noiseAt_5 : decode cX7_noiseAt 5 = .ok (.iaload, 1) := by decide +kernel
theorem dX7_noiseAt_6 : decode cX7_noiseAt 6 = .ok (.bipush 7, 2) := by decide +kernel
theorem dX7_noiseAt_8 : decode cX7_noiseAt 8 = .ok (.iload_n 2, 1) := by decide +kernel
theorem dX7_noiseAt_9 : decode cX7_noiseAt 9 = .ok (.imul, 1) := by decide +kernel
theorem dX7_noiseAt_10 : decode cX7_noiseAt 10 = .ok (.bipush 13, 2) := by decide +kernel
theorem dX7_noiseAt_12 : decode cX7_noiseAt 12 = .ok (.iload_n 1, 1) := by decide +kernel
