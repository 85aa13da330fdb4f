/-! decode rows, part 3 -/
theorem dX11_setSegment_34 : decode cX11_setSegment 34 = .ok (.iadd, 1) := by decide +kernel
theorem dX11_setSegment_35 : decode cX11_setSegment 35 = .ok (.iaload, 1) := by decide +kernel
theorem dX11_setSegment_36 : decode cX11_setSegment 36 = .ok (.istore 6, 2) := by decide +kernel
theorem dX11_setSegment_38 : decode cX11_setSegment 38 = .ok (.aload_n 0, 1) := by decide +kernel
theorem dX11_setSegment_39 : decode cX11_setSegment 39 = .ok (.bipush 10, 2) := by decide +kernel
theorem dX11_setSegment_41 : decode cX11_setSegment 41 = .ok (.iload_n 1, 1) := by decide +kernel
theorem dX11_setSegment_42 : decode cX11_setSegment 42 = .ok (.imul, 1) := by decide +kernel
theorem dX11_setSegment_43 : decode cX11_setSegment 43 = .ok (.iload_n 2, 1) := by decide +kernel
theorem dX11_setSegment_44 : decode cX11_setSegment 44 = .ok (.iadd, 1) := by decide +kernel
theorem dX11_setSegment_45 : decode cX11_setSegment 45 = .ok (.iload_n 3, 1) := by decide +kernel
theorem dX11_setSegment_46 : decode cX11_setSegment 46 = .ok (.iload 4, 2) := by decide +kernel
theorem dX11_setSegment_48 : decode cX11_setSegment 48 = .ok (.iload 5, 2) := by decide +kernel
theorem dX11_setSegment_50 : decode cX11_setSegment 50 = .ok (.invokevirtual 120, 3) := by decide +kernel
theorem dX11_setSegment_53 : decode cX11_setSegment 53 = .ok (.iload 6, 2) := by decide +kernel
theorem dX11_setSegment_55 : decode cX11_setSegment 55 = .ok (.ireturn, 1) := by decide +kernel
theorem dX11_fill_0 : decode cX11_fill 0 = .ok (.iload_n 1, 1) := by decide +kernel
theorem dX11_fill_1 : decode cX11_fill 1 = .ok (.invokestatic 107, 3) := by decide +kernel
theorem dX11_fill_4 : decode cX11_fill 4 = .ok (.ifCond .eq 6, 3) := by decide +kernel
theorem dX11_fill_7 : decode cX11_fill 7 = .ok (.ldc 115, 2) := by decide +kernel
theorem dX11_fill_9 : decode cX11_fill 9 = .ok (.ireturn, 1) := by decide +kernel
theorem dX11_fill_10 : decode cX11_fill 10 = .ok (.iload_n 2, 1) := by decide +kernel
theorem dX11_fill_11 : decode cX11_fill 11 = .ok (.iload_n 3, 1) := by decide +kernel
theorem dX11_fill_12 : decode cX11_fill 12 = .ok (.iload 4, 2) := by decide +kernel
theorem dX11_fill_14 : decode cX11_fill 14 = .ok (.invokestatic 116, 3) := by decide +kernel
theorem dX11_fill_17 : decode cX11_fill 17 = .ok (.ifCond .ne 6, 3) := by decide +kernel
theorem dX11_fill_20 : decode cX11_fill 20 = .ok (.ldc 119, 2) := by decide +kernel
theorem dX11_fill_22 : decode cX11_fill 22 = .ok (.ireturn, 1) := by decide +kernel
theorem dX11_fill_23 : decode cX11_fill 23 = .ok (.iconst 0, 1) := by decide +kernel
theorem dX11_fill_24 : decode cX11_fill 24 = .ok (.istore 5, 2) := by decide +kernel
theorem dX11_fill_26 : decode cX11_fill 26 = .ok (.bipush 10, 2) := by decide +kernel
theorem dX11_fill_28 : decode cX11_fill 28 = .ok (.iload_n 1, 1) := by decide +kernel
theorem dX11_fill_29 : decode cX11_fill 29 = .ok (.imul, 1) := by decide +kernel
theorem dX11_fill_30 : decode cX11_fill 30 = .ok (.istore 6, 2) := by decide +kernel
theorem dX11_fill_32 : decode cX11_fill 32 = .ok (.iload 6, 2) := by decide +kernel
theorem dX11_fill_34 : decode cX11_fill 34 = .ok (.bipush 10, 2) := by decide +kernel
theorem dX11_fill_36 : decode cX11_fill 36 = .ok (.iload_n 1, 1) := by decide +kernel
theorem dX11_fill_37 : decode cX11_fill 37 = .ok (.imul, 1) := by decide +kernel
theorem dX11_fill_38 : decode cX11_fill 38 = .ok (.bipush 10, 2) := by decide +kernel
theorem dX11_fill_40 : decode cX11_fill 40 = .ok (.iadd, 1) := by decide +kernel
theorem dX11_fill_41 : decode cX11_fill 41 = .ok (.if_icmp .ge 63, 3) := by decide +kernel
theorem dX11_fill_44 : decode cX11_fill 44 = .ok (.iload 5, 2) := by decide +kernel
theorem dX11_fill_46 : decode cX11_fill 46 = .ok (.aload_n 0, 1) := by decide +kernel
theorem dX11_fill_47 : decode cX11_fill 47 = .ok (.getfield 7, 3) := by decide +kernel
theorem dX11_fill_50 : decode cX11_fill 50 = .ok (.iload 6, 2) := by decide +kernel
theorem dX11_fill_52 : decode cX11_fill 52 = .ok (.iaload, 1) := by decide +kernel
theorem dX11_fill_53 : decode cX11_fill 53 = .ok (.iload_n 2, 1) := by decide +kernel
theorem dX11_fill_54 : decode cX11_fill 54 = .ok (.if_icmp .ne 26, 3) := by decide +kernel
theorem dX11_fill_57 : decode cX11_fill 57 = .ok (.aload_n 0, 1) := by decide +kernel
theorem dX11_fill_58 : decode cX11_fill 58 = .ok (.getfield 13, 3) := by decide +kernel
theorem dX11_fill_61 : decode cX11_fill 61 = .ok (.iload 6, 2) := by decide +kernel
theorem dX11_fill_63 : decode cX11_fill 63 = .ok (.iaload, 1) := by decide +kernel
theorem dX11_fill_64 : decode cX11_fill 64 = .ok (.iload_n 3, 1) := by decide +kernel
theorem dX11_fill_65 : decode cX11_fill 65 = .ok (.if_icmp .ne 15, 3) := by decide +kernel
theorem dX11_fill_68 : decode cX11_fill 68 = .ok (.aload_n 0, 1) := by decide +kernel
theorem dX11_fill_69 : decode cX11_fill 69 = .ok (.getfield 16, 3) := by decide +kernel
theorem dX11_fill_72 : decode cX11_fill 72 = .ok (.iload 6, 2) := by decide +kernel
theorem dX11_fill_74 : decode cX11_fill 74 = .ok (.iaload, 1) := by decide +kernel
theorem dX11_fill_75 : decode cX11_fill 75 = .ok (.iload 4, 2) := by decide +kernel
theorem dX11_fill_77 : decode cX11_fill 77 = .ok (.if_icmp .eq 7, 3) := by decide +kernel
theorem dX11_fill_80 : decode cX11_fill 80 = .ok (.iconst 1, 1) := by decide +kernel
theorem dX11_fill_81 : decode cX11_fill 81 = .ok (.goto 4, 3) := by decide +kernel
theorem dX11_fill_84 : decode cX11_fill 84 = .ok (.iconst 0, 1) := by decide +kernel
theorem dX11_fill_85 : decode cX11_fill 85 = .ok (.iadd, 1) := by decide +kernel
theorem dX11_fill_86 : decode cX11_fill 86 = .ok (.istore 5, 2) := by decide +kernel
theorem dX11_fill_88 : decode cX11_fill 88 = .ok (.aload_n 0, 1) := by decide +kernel
theorem dX11_fill_89 : decode cX11_fill 89 = .ok (.iload 6, 2) := by decide +kernel
theorem dX11_fill_91 : decode cX11_fill 91 = .ok (.iload_n 2, 1) := by decide +kernel
theorem dX11_fill_92 : decode cX11_fill 92 = .ok (.iload_n 3, 1) := by decide +kernel
theorem dX11_fill_93 : decode cX11_fill 93 = .ok (.iload 4, 2) := by decide +kernel
theorem dX11_fill_95 : decode cX11_fill 95 = .ok (.invokevirtual 120, 3) := by decide +kernel
theorem dX11_fill_98 : decode cX11_fill 98 = .ok (.iinc 6 1, 3) := by decide +kernel
theorem dX11_fill_101 : decode cX11_fill 101 = .ok (.goto (-69), 3) := by decide +kernel
theorem dX11_fill_104 : decode cX11_fill 104 = .ok (.iload 5, 2) := by decide +kernel
theorem dX11_fill_106 : decode cX11_fill 106 = .ok (.ireturn, 1) := by decide +kernel
theorem dX11_setLine_0 : decode cX11_setLine 0 = .ok (.iload_n 1, 1) := by decide +kernel
theorem dX11_setLine_1 : decode cX11_setLine 1 = .ok (.invokestatic 107, 3) := by decide +kernel
theorem dX11_setLine_4 : decode cX11_setLine 4 = .ok (.ifCond .eq 6, 3) := by decide +kernel
theorem dX11_setLine_7 : decode cX11_setLine 7 = .ok (.ldc 115, 2) := by decide +kernel
theorem dX11_setLine_9 : decode cX11_setLine 9 = .ok (.ireturn, 1) := by decide +kernel
theorem dX11_setLine_10 : decode cX11_setLine 10 = .ok (.iload_n 2, 1) := by decide +kernel
theorem dX11_setLine_11 : decode cX11_setLine 11 = .ok (.bipush (-4), 2) := by decide +kernel
theorem dX11_setLine_13 : decode cX11_setLine 13 = .ok (.iconst 4, 1) := by decide +kernel
theorem dX11_setLine_14 : decode cX11_setLine 14 = .ok (.invokestatic 103, 3) := by decide +kernel
theorem dX11_setLine_17 : decode cX11_setLine 17 = .ok (.ifCond .eq 34, 3) := by decide +kernel
theorem dX11_setLine_20 : decode cX11_setLine 20 = .ok (.iload_n 3, 1) := by decide +kernel
theorem dX11_setLine_21 : decode cX11_setLine 21 = .ok (.iconst 0, 1) := by decide +kernel
theorem dX11_setLine_22 : decode cX11_setLine 22 = .ok (.bipush 40, 2) := by decide +kernel
theorem dX11_setLine_24 : decode cX11_setLine 24 = .ok (.invokestatic 103, 3) := by decide +kernel
theorem dX11_setLine_27 : decode cX11_setLine 27 = .ok (.ifCond .eq 24, 3) := by decide +kernel
theorem dX11_setLine_30 : decode cX11_setLine 30 = .ok (.iload 4, 2) := by decide +kernel
theorem dX11_setLine_32 : decode cX11_setLine 32 = .ok (.iconst 0, 1) := by decide +kernel
theorem dX11_setLine_33 : decode cX11_setLine 33 = .ok (.iconst 3, 1) := by decide +kernel
theorem dX11_setLine_34 : decode cX11_setLine 34 = .ok (.invokestatic 103, 3) := by decide +kernel
theorem dX11_setLine_37 : decode cX11_setLine 37 = .ok (.ifCond .eq 14, 3) := by decide +kernel
theorem dX11_setLine_40 : decode cX11_setLine 40 = .ok (.iload 5, 2) := by decide +kernel
theorem dX11_setLine_42 : decode cX11_setLine 42 = .ok (.iconst 0, 1) := by decide +kernel
theorem dX11_setLine_43 : decode cX11_setLine 43 = .ok (.bipush 9, 2) := by decide +kernel
theorem dX11_setLine_45 : decode cX11_setLine 45 = .ok (.invokestatic 103, 3) := by decide +kernel
theorem dX11_setLine_48 : decode cX11_setLine 48 = .ok (.ifCond .ne 6, 3) := by decide +kernel
theorem dX11_setLine_51 : decode cX11_setLine 51 = .ok (.ldc 119, 2) := by decide +kernel
theorem dX11_setLine_53 : decode cX11_setLine 53 = .ok (.ireturn, 1) := by decide +kernel
theorem dX11_setLine_54 : decode cX11_setLine 54 = .ok (.aload_n 0, 1) := by decide +kernel
theorem dX11_setLine_55 : decode cX11_setLine 55 = .ok (.getfield 19, 3) := by decide +kernel
theorem dX11_setLine_58 : decode cX11_setLine 58 = .ok (.iload_n 1, 1) := by decide +kernel
theorem dX11_setLine_59 : decode cX11_setLine 59 = .ok (.iaload, 1) := by decide +kernel
theorem dX11_setLine_60 : decode cX11_setLine 60 = .ok (.istore 6, 2) := by decide +kernel
theorem dX11_setLine_62 : decode cX11_setLine 62 = .ok (.aload_n 0, 1) := by decide +kernel
theorem dX11_setLine_63 : decode cX11_setLine 63 = .ok (.getfield 19, 3) := by decide +kernel
theorem dX11_setLine_66 : decode cX11_setLine 66 = .ok (.iload_n 1, 1) := by decide +kernel
theorem dX11_setLine_67 : decode cX11_setLine 67 = .ok (.iload_n 2, 1) := by decide +kernel
theorem dX11_setLine_68 : decode cX11_setLine 68 = .ok (.iastore, 1) := by decide +kernel
theorem dX11_setLine_69 : decode cX11_setLine 69 = .ok (.aload_n 0, 1) := by decide +kernel
theorem dX11_setLine_70 : decode cX11_setLine 70 = .ok (.getfield 22, 3) := by decide +kernel
theorem dX11_setLine_73 : decode cX11_setLine 73 = .ok (.iload_n 1, 1) := by decide +kernel
theorem dX11_setLine_74 : decode cX11_setLine 74 = .ok (.iload_n 3, 1) := by decide +kernel
theorem dX11_setLine_75 : decode cX11_setLine 75 = .ok (.iastore, 1) := by decide +kernel
theorem dX11_setLine_76 : decode cX11_setLine 76 = .ok (.aload_n 0, 1) := by decide +kernel
theorem dX11_setLine_77 : decode cX11_setLine 77 = .ok (.getfield 25, 3) := by decide +kernel
theorem dX11_setLine_80 : decode cX11_setLine 80 = .ok (.iload_n 1, 1) := by decide +kernel
theorem dX11_setLine_81 : decode cX11_setLine 81 = .ok (.iload 4, 2) := by decide +kernel
theorem dX11_setLine_83 : decode cX11_setLine 83 = .ok (.iastore, 1) := by decide +kernel
theorem dX11_setLine_84 : decode cX11_setLine 84 = .ok (.aload_n 0, 1) := by decide +kernel
theorem dX11_setLine_85 : decode cX11_setLine 85 = .ok (.getfield 28, 3) := by decide +kernel
theorem dX11_setLine_88 : decode cX11_setLine 88 = .ok (.iload_n 1, 1) := by decide +kernel
theorem dX11_setLine_89 : decode cX11_setLine 89 = .ok (.iload 5, 2) := by decide +kernel
theorem dX11_setLine_91 : decode cX11_setLine 91 = .ok (.iastore, 1) := by decide +kernel
theorem dX11_setLine_92 : decode cX11_setLine 92 = .ok (.aload_n 0, 1) := by decide +kernel
theorem dX11_setLine_93 : decode cX11_setLine 93 = .ok (.getfield 31, 3) := by decide +kernel
theorem dX11_setLine_96 : decode cX11_setLine 96 = .ok (.iload_n 1, 1) := by decide +kernel
theorem dX11_setLine_97 : decode cX11_setLine 97 = .ok (.iconst 0, 1) := by decide +kernel
theorem dX11_setLine_98 : decode cX11_setLine 98 = .ok (.bastore, 1) := by decide +kernel
theorem dX11_setLine_99 : decode cX11_setLine 99 = .ok (.iload 6, 2) := by decide +kernel
theorem dX11_setLine_101 : decode cX11_setLine 101 = .ok (.ireturn, 1) := by decide +kernel
theorem dX11_miss_0 : decode cX11_miss 0 = .ok (.iload_n 1, 1) := by decide +kernel
theorem dX11_miss_1 : decode cX11_miss 1 = .ok (.invokestatic 107, 3) := by decide +kernel
theorem dX11_miss_4 : decode cX11_miss 4 = .ok (.ifCond .eq 6, 3) := by decide +kernel
theorem dX11_miss_7 : decode cX11_miss 7 = .ok (.ldc 115, 2) := by decide +kernel
theorem dX11_miss_9 : decode cX11_miss 9 = .ok (.ireturn, 1) := by decide +kernel
theorem dX11_miss_10 : decode cX11_miss 10 = .ok (.aload_n 0, 1) := by decide +kernel
theorem dX11_miss_11 : decode cX11_miss 11 = .ok (.getfield 31, 3) := by decide +kernel
theorem dX11_miss_14 : decode cX11_miss 14 = .ok (.iload_n 1, 1) := by decide +kernel
theorem dX11_miss_15 : decode cX11_miss 15 = .ok (.baload, 1) := by decide +kernel
theorem dX11_miss_16 : decode cX11_miss 16 = .ok (.ifCond .eq 7, 3) := by decide +kernel
theorem dX11_miss_19 : decode cX11_miss 19 = .ok (.iconst 1, 1) := by decide +kernel
theorem dX11_miss_20 : decode cX11_miss 20 = .ok (.goto 4, 3) := by decide +kernel
theorem dX11_miss_23 : decode cX11_miss 23 = .ok (.iconst 0, 1) := by decide +kernel
theorem dX11_miss_24 : decode cX11_miss 24 = .ok (.istore_n 3, 1) := by decide +kernel
theorem dX11_miss_25 : decode cX11_miss 25 = .ok (.aload_n 0, 1) := by decide +kernel
theorem dX11_miss_26 : decode cX11_miss 26 = .ok (.getfield 31, 3) := by decide +kernel
theorem dX11_miss_29 : decode cX11_miss 29 = .ok (.iload_n 1, 1) := by decide +kernel
theorem dX11_miss_30 : decode cX11_miss 30 = .ok (.iload_n 2, 1) := by decide +kernel
theorem dX11_miss_31 : decode cX11_miss 31 = .ok (.bastore, 1) := by decide +kernel
theorem dX11_miss_32 : decode cX11_miss 32 = .ok (.iload_n 3, 1) := by decide +kernel
theorem dX11_miss_33 : decode cX11_miss 33 = .ok (.ireturn, 1) := by decide +kernel
theorem dX11_setStandard_0 : decode cX11_setStandard 0 = .ok (.iload_n 1, 1) := by decide +kernel
theorem dX11_setStandard_1 : decode cX11_setStandard 1 = .ok (.iconst 0, 1) := by decide +kernel
theorem dX11_setStandard_2 : decode cX11_setStandard 2 = .ok (.iconst 1, 1) := by decide +kernel
theorem dX11_setStandard_3 : decode cX11_setStandard 3 = .ok (.invokestatic 103, 3) := by decide +kernel
theorem dX11_setStandard_6 : decode cX11_setStandard 6 = .ok (.ifCond .ne 6, 3) := by decide +kernel
theorem dX11_setStandard_9 : decode cX11_setStandard 9 = .ok (.ldc 119, 2) := by decide +kernel
theorem dX11_setStandard_11 : decode cX11_setStandard 11 = .ok (.ireturn, 1) := by decide +kernel
theorem dX11_setStandard_12 : decode cX11_setStandard 12 = .ok (.aload_n 0, 1) := by decide +kernel
theorem dX11_setStandard_13 : decode cX11_setStandard 13 = .ok (.getfield 124, 3) := by decide +kernel
theorem dX11_setStandard_16 : decode cX11_setStandard 16 = .ok (.istore_n 2, 1) := by decide +kernel
theorem dX11_setStandard_17 : decode cX11_setStandard 17 = .ok (.aload_n 0, 1) := by decide +kernel
theorem dX11_setStandard_18 : decode cX11_setStandard 18 = .ok (.iload_n 1, 1) := by decide +kernel
theorem dX11_setStandard_19 : decode cX11_setStandard 19 = .ok (.putfield 124, 3) := by decide +kernel
theorem dX11_setStandard_22 : decode cX11_setStandard 22 = .ok (.iload_n 2, 1) := by decide +kernel
theorem dX11_setStandard_23 : decode cX11_setStandard 23 = .ok (.ireturn, 1) := by decide +kernel
theorem dX11_type_0 : decode cX11_type 0 = .ok (.aload_n 0, 1) := by decide +kernel
theorem dX11_type_1 : decode cX11_type 1 = .ok (.getfield 128, 3) := by decide +kernel
theorem dX11_type_4 : decode cX11_type 4 = .ok (.bipush 60, 2) := by decide +kernel
theorem dX11_type_6 : decode cX11_type 6 = .ok (.if_icmp .ne 6, 3) := by decide +kernel
theorem dX11_type_9 : decode cX11_type 9 = .ok (.ldc 131, 2) := by decide +kernel
theorem dX11_type_11 : decode cX11_type 11 = .ok (.ireturn, 1) := by decide +kernel
theorem dX11_type_12 : decode cX11_type 12 = .ok (.aload_n 0, 1) := by decide +kernel
theorem dX11_type_13 : decode cX11_type 13 = .ok (.getfield 38, 3) := by decide +kernel
theorem dX11_type_16 : decode cX11_type 16 = .ok (.aload_n 0, 1) := by decide +kernel
theorem dX11_type_17 : decode cX11_type 17 = .ok (.getfield 128, 3) := by decide +kernel
theorem dX11_type_20 : decode cX11_type 20 = .ok (.iload_n 1, 1) := by decide +kernel
theorem dX11_type_21 : decode cX11_type 21 = .ok (.castore, 1) := by decide +kernel
theorem dX11_type_22 : decode cX11_type 22 = .ok (.aload_n 0, 1) := by decide +kernel
theorem dX11_type_23 : decode cX11_type 23 = .ok (.dup, 1) := by decide +kernel
theorem dX11_type_24 : decode cX11_type 24 = .ok (.getfield 128, 3) := by decide +kernel
theorem dX11_type_27 : decode cX11_type 27 = .ok (.iconst 1, 1) := by decide +kernel
theorem dX11_type_28 : decode cX11_type 28 = .ok (.iadd, 1) := by decide +kernel
theorem dX11_type_29 : decode cX11_type 29 = .ok (.putfield 128, 3) := by decide +kernel
theorem dX11_type_32 : decode cX11_type 32 = .ok (.aload_n 0, 1) := by decide +kernel
theorem dX11_type_33 : decode cX11_type 33 = .ok (.getfield 128, 3) := by decide +kernel
theorem dX11_type_36 : decode cX11_type 36 = .ok (.ireturn, 1) := by decide +kernel
theorem dX11_clearText_0 : decode cX11_clearText 0 = .ok (.aload_n 0, 1) := by decide +kernel
theorem dX11_clearText_1 : decode cX11_clearText 1 = .ok (.getfield 128, 3) := by decide +kernel
theorem dX11_clearText_4 : decode cX11_clearText 4 = .ok (.istore_n 1, 1) := by decide +kernel
theorem dX11_clearText_5 : decode cX11_clearText 5 = .ok (.aload_n 0, 1) := by decide +kernel
theorem dX11_clearText_6 : decode cX11_clearText 6 = .ok (.iconst 0, 1) := by decide +kernel
theorem dX11_clearText_7 : decode cX11_clearText 7 = .ok (.putfield 128, 3) := by decide +kernel
theorem dX11_clearText_10 : decode cX11_clearText 10 = .ok (.iload_n 1, 1) := by decide +kernel
theorem dX11_clearText_11 : decode cX11_clearText 11 = .ok (.ireturn, 1) := by decide +kernel
theorem dX11_barOf_0 : decode cX11_barOf 0 = .ok (.iload_n 0, 1) := by decide +kernel
theorem dX11_barOf_1 : decode cX11_barOf 1 = .ok (.tableswitch 129 98 121 #[123, 115, 129, 129, 129, 117, 129, 129, 129, 126, 129, 119, 129, 129, 129, 129, 121, 129, 129, 129, 129, 111, 129, 113], 111) := by decide +kernel
theorem dX11_barOf_112 : decode cX11_barOf 112 = .ok (.iconst 0, 1) := by decide +kernel
theorem dX11_barOf_113 : decode cX11_barOf 113 = .ok (.ireturn, 1) := by decide +kernel
theorem dX11_barOf_114 : decode cX11_barOf 114 = .ok (.iconst 1, 1) := by decide +kernel
theorem dX11_barOf_115 : decode cX11_barOf 115 = .ok (.ireturn, 1) := by decide +kernel
theorem dX11_barOf_116 : decode cX11_barOf 116 = .ok (.iconst 2, 1) := by decide +kernel
theorem dX11_barOf_117 : decode cX11_barOf 117 = .ok (.ireturn, 1) := by decide +kernel
theorem dX11_barOf_118 : decode cX11_barOf 118 = .ok (.iconst 3, 1) := by decide +kernel
theorem dX11_barOf_119 : decode cX11_barOf 119 = .ok (.ireturn, 1) := by decide +kernel
theorem dX11_barOf_120 : decode cX11_barOf 120 = .ok (.iconst 4, 1) := by decide +kernel
theorem dX11_barOf_121 : decode cX11_barOf 121 = .ok (.ireturn, 1) := by decide +kernel
theorem dX11_barOf_122 : decode cX11_barOf 122 = .ok (.iconst 5, 1) := by decide +kernel
theorem dX11_barOf_123 : decode cX11_barOf 123 = .ok (.ireturn, 1) := by decide +kernel
theorem dX11_barOf_124 : decode cX11_barOf 124 = .ok (.bipush 6, 2) := by decide +kernel
theorem dX11_barOf_126 : decode cX11_barOf 126 = .ok (.ireturn, 1) := by decide +kernel
theorem dX11_barOf_127 : decode cX11_barOf 127 = .ok (.bipush 7, 2) := by decide +kernel
theorem dX11_barOf_129 : decode cX11_barOf 129 = .ok (.ireturn, 1) := by decide +kernel
theorem dX11_barOf_130 : decode cX11_barOf 130 = .ok (.ldc 132, 2) := by decide +kernel
theorem dX11_barOf_132 : decode cX11_barOf 132 = .ok (.ireturn, 1) := by decide +kernel
theorem dX11_putBar_0 : decode cX11_putBar 0 = .ok (.iload_n 2, 1) := by decide +kernel
theorem dX11_putBar_1 : decode cX11_putBar 1 = .ok (.tableswitch 142 0 6 #[43, 56, 71, 86, 100, 114, 128], 43) := by decide +kernel
theorem dX11_putBar_44 : decode cX11_putBar 44 = .ok (.aload_n 0, 1) := by decide +kernel
theorem dX11_putBar_45 : decode cX11_putBar 45 = .ok (.iload_n 1, 1) := by decide +kernel
theorem dX11_putBar_46 : decode cX11_putBar 46 = .ok (.sipush 180, 3) := by decide +kernel
theorem dX11_putBar_49 : decode cX11_putBar 49 = .ok (.iconst 0, 1) := by decide +kernel
theorem dX11_putBar_50 : decode cX11_putBar 50 = .ok (.iconst 0, 1) := by decide +kernel
theorem dX11_putBar_51 : decode cX11_putBar 51 = .ok (.invokevirtual 120, 3) := by decide +kernel
theorem dX11_putBar_54 : decode cX11_putBar 54 = .ok (.goto 98, 3) := by decide +kernel
theorem dX11_putBar_57 : decode cX11_putBar 57 = .ok (.aload_n 0, 1) := by decide +kernel
theorem dX11_putBar_58 : decode cX11_putBar 58 = .ok (.iload_n 1, 1) := by decide +kernel
theorem dX11_putBar_59 : decode cX11_putBar 59 = .ok (.sipush 160, 3) := by decide +kernel
theorem dX11_putBar_62 : decode cX11_putBar 62 = .ok (.bipush (-50), 2) := by decide +kernel
theorem dX11_putBar_64 : decode cX11_putBar 64 = .ok (.bipush 10, 2) := by decide +kernel
theorem dX11_putBar_66 : decode cX11_putBar 66 = .ok (.invokevirtual 120, 3) := by decide +kernel
theorem dX11_putBar_69 : decode cX11_putBar 69 = .ok (.goto 83, 3) := by decide +kernel
theorem dX11_putBar_72 : decode cX11_putBar 72 = .ok (.aload_n 0, 1) := by decide +kernel
theorem dX11_putBar_73 : decode cX11_putBar 73 = .ok (.iload_n 1, 1) := by decide +kernel
theorem dX11_putBar_74 : decode cX11_putBar 74 = .ok (.sipush 140, 3) := by decide +kernel
theorem dX11_putBar_77 : decode cX11_putBar 77 = .ok (.bipush 20, 2) := by decide +kernel
theorem dX11_putBar_79 : decode cX11_putBar 79 = .ok (.bipush (-50), 2) := by decide +kernel
theorem dX11_putBar_81 : decode cX11_putBar 81 = .ok (.invokevirtual 120, 3) := by decide +kernel
theorem dX11_putBar_84 : decode cX11_putBar 84 = .ok (.goto 68, 3) := by decide +kernel
theorem dX11_putBar_87 : decode cX11_putBar 87 = .ok (.aload_n 0, 1) := by decide +kernel
theorem dX11_putBar_88 : decode cX11_putBar 88 = .ok (.iload_n 1, 1) := by decide +kernel
theorem dX11_putBar_89 : decode cX11_putBar 89 = .ok (.bipush 120, 2) := by decide +kernel
theorem dX11_putBar_91 : decode cX11_putBar 91 = .ok (.bipush (-40), 2) := by decide +kernel
theorem dX11_putBar_93 : decode cX11_putBar 93 = .ok (.bipush (-40), 2) := by decide +kernel
theorem dX11_putBar_95 : decode cX11_putBar 95 = .ok (.invokevirtual 120, 3) := by decide +kernel
theorem dX11_putBar_98 : decode cX11_putBar 98 = .ok (.goto 54, 3) := by decide +kernel
theorem dX11_putBar_101 : decode cX11_putBar 101 = .ok (.aload_n 0, 1) := by decide +kernel
theorem dX11_putBar_102 : decode cX11_putBar 102 = .ok (.iload_n 1, 1) := by decide +kernel
theorem dX11_putBar_103 : decode cX11_putBar 103 = .ok (.bipush 80, 2) := by decide +kernel
theorem dX11_putBar_105 : decode cX11_putBar 105 = .ok (.bipush 40, 2) := by decide +kernel
theorem dX11_putBar_107 : decode cX11_putBar 107 = .ok (.bipush 40, 2) := by decide +kernel
theorem dX11_putBar_109 : decode cX11_putBar 109 = .ok (.invokevirtual 120, 3) := by decide +kernel
theorem dX11_putBar_112 : decode cX11_putBar 112 = .ok (.goto 40, 3) := by decide +kernel
theorem dX11_putBar_115 : decode cX11_putBar 115 = .ok (.aload_n 0, 1) := by decide +kernel
theorem dX11_putBar_116 : decode cX11_putBar 116 = .ok (.iload_n 1, 1) := by decide +kernel
theorem dX11_putBar_117 : decode cX11_putBar 117 = .ok (.bipush 60, 2) := by decide +kernel
theorem dX11_putBar_119 : decode cX11_putBar 119 = .ok (.bipush (-20), 2) := by decide +kernel
theorem dX11_putBar_121 : decode cX11_putBar 121 = .ok (.bipush 60, 2) := by decide +kernel
theorem dX11_putBar_123 : decode cX11_putBar 123 = .ok (.invokevirtual 120, 3) := by decide +kernel
theorem dX11_putBar_126 : decode cX11_putBar 126 = .ok (.goto 26, 3) := by decide +kernel
theorem dX11_putBar_129 : decode cX11_putBar 129 = .ok (.aload_n 0, 1) := by decide +kernel
theorem dX11_putBar_130 : decode cX11_putBar 130 = .ok (.iload_n 1, 1) := by decide +kernel
theorem dX11_putBar_131 : decode cX11_putBar 131 = .ok (.bipush 30, 2) := by decide +kernel
theorem dX11_putBar_133 : decode cX11_putBar 133 = .ok (.bipush 60, 2) := by decide +kernel
theorem dX11_putBar_135 : decode cX11_putBar 135 = .ok (.bipush (-10), 2) := by decide +kernel
theorem dX11_putBar_137 : decode cX11_putBar 137 = .ok (.invokevirtual 120, 3) := by decide +kernel
theorem dX11_putBar_140 : decode cX11_putBar 140 = .ok (.goto 12, 3) := by decide +kernel
theorem dX11_putBar_143 : decode cX11_putBar 143 = .ok (.aload_n 0, 1) := by decide +kernel
theorem dX11_putBar_144 : decode cX11_putBar 144 = .ok (.iload_n 1, 1) := by decide +kernel
theorem dX11_putBar_145 : decode cX11_putBar 145 = .ok (.bipush 10, 2) := by decide +kernel
theorem dX11_putBar_147 : decode cX11_putBar 147 = .ok (.iconst 0, 1) := by decide +kernel
theorem dX11_putBar_148 : decode cX11_putBar 148 = .ok (.iconst 0, 1) := by decide +kernel
theorem dX11_putBar_149 : decode cX11_putBar 149 = .ok (.invokevirtual 120, 3) := by decide +kernel
theorem dX11_putBar_152 : decode cX11_putBar 152 = .ok (.return_, 1) := by decide +kernel
theorem dX11_readBars_0 : decode cX11_readBars 0 = .ok (.iload_n 1, 1) := by decide +kernel
theorem dX11_readBars_1 : decode cX11_readBars 1 = .ok (.invokestatic 107, 3) := by decide +kernel
theorem dX11_readBars_4 : decode cX11_readBars 4 = .ok (.ifCond .eq 6, 3) := by decide +kernel
theorem dX11_readBars_7 : decode cX11_readBars 7 = .ok (.ldc 115, 2) := by decide +kernel
theorem dX11_readBars_9 : decode cX11_readBars 9 = .ok (.ireturn, 1) := by decide +kernel
theorem dX11_readBars_10 : decode cX11_readBars 10 = .ok (.iconst 0, 1) := by decide +kernel
theorem dX11_readBars_11 : decode cX11_readBars 11 = .ok (.istore_n 2, 1) := by decide +kernel
theorem dX11_readBars_12 : decode cX11_readBars 12 = .ok (.iconst 0, 1) := by decide +kernel
theorem dX11_readBars_13 : decode cX11_readBars 13 = .ok (.istore_n 3, 1) := by decide +kernel
theorem dX11_readBars_14 : decode cX11_readBars 14 = .ok (.iconst 0, 1) := by decide +kernel
theorem dX11_readBars_15 : decode cX11_readBars 15 = .ok (.istore 4, 2) := by decide +kernel
theorem dX11_readBars_17 : decode cX11_readBars 17 = .ok (.iconst 0, 1) := by decide +kernel
theorem dX11_readBars_18 : decode cX11_readBars 18 = .ok (.istore 5, 2) := by decide +kernel
theorem dX11_readBars_20 : decode cX11_readBars 20 = .ok (.iload 5, 2) := by decide +kernel
theorem dX11_readBars_22 : decode cX11_readBars 22 = .ok (.aload_n 0, 1) := by decide +kernel
theorem dX11_readBars_23 : decode cX11_readBars 23 = .ok (.getfield 128, 3) := by decide +kernel
theorem dX11_readBars_26 : decode cX11_readBars 26 = .ok (.if_icmp .ge 160, 3) := by decide +kernel
theorem dX11_readBars_29 : decode cX11_readBars 29 = .ok (.aload_n 0, 1) := by decide +kernel
theorem dX11_readBars_30 : decode cX11_readBars 30 = .ok (.getfield 38, 3) := by decide +kernel
theorem dX11_readBars_33 : decode cX11_readBars 33 = .ok (.iload 5, 2) := by decide +kernel
theorem dX11_readBars_35 : decode cX11_readBars 35 = .ok (.caload, 1) := by decide +kernel
theorem dX11_readBars_36 : decode cX11_readBars 36 = .ok (.invokestatic 133, 3) := by decide +kernel
theorem dX11_readBars_39 : decode cX11_readBars 39 = .ok (.istore 6, 2) := by decide +kernel
theorem dX11_readBars_41 : decode cX11_readBars 41 = .ok (.aload_n 0, 1) := by decide +kernel
theorem dX11_readBars_42 : decode cX11_readBars 42 = .ok (.getfield 38, 3) := by decide +kernel
theorem dX11_readBars_45 : decode cX11_readBars 45 = .ok (.iload 5, 2) := by decide +kernel
theorem dX11_readBars_47 : decode cX11_readBars 47 = .ok (.caload, 1) := by decide +kernel
theorem dX11_readBars_48 : decode cX11_readBars 48 = .ok (.bipush 49, 2) := by decide +kernel
theorem dX11_readBars_50 : decode cX11_readBars 50 = .ok (.bipush 57, 2) := by decide +kernel
theorem dX11_readBars_52 : decode cX11_readBars 52 = .ok (.invokestatic 103, 3) := by decide +kernel
theorem dX11_readBars_55 : decode cX11_readBars 55 = .ok (.ifCond .eq 21, 3) := by decide +kernel
theorem dX11_readBars_58 : decode cX11_readBars 58 = .ok (.iload 4, 2) := by decide +kernel
theorem dX11_readBars_60 : decode cX11_readBars 60 = .ok (.ifCond .eq 16, 3) := by decide +kernel
theorem dX11_readBars_63 : decode cX11_readBars 63 = .ok (.aload_n 0, 1) := by decide +kernel
theorem dX11_readBars_64 : decode cX11_readBars 64 = .ok (.getfield 38, 3) := by decide +kernel
theorem dX11_readBars_67 : decode cX11_readBars 67 = .ok (.iload 5, 2) := by decide +kernel
theorem dX11_readBars_69 : decode cX11_readBars 69 = .ok (.caload, 1) := by decide +kernel
theorem dX11_readBars_70 : decode cX11_readBars 70 = .ok (.bipush 49, 2) := by decide +kernel
theorem dX11_readBars_72 : decode cX11_readBars 72 = .ok (.isub, 1) := by decide +kernel
theorem dX11_readBars_73 : decode cX11_readBars 73 = .ok (.goto 5, 3) := by decide +kernel
theorem dX11_readBars_76 : decode cX11_readBars 76 = .ok (.ldc 132, 2) := by decide +kernel
theorem dX11_readBars_78 : decode cX11_readBars 78 = .ok (.istore 7, 2) := by decide +kernel
theorem dX11_readBars_80 : decode cX11_readBars 80 = .ok (.iload 6, 2) := by decide +kernel
theorem dX11_readBars_82 : decode cX11_readBars 82 = .ok (.ifCond .ge 8, 3) := by decide +kernel
theorem dX11_readBars_85 : decode cX11_readBars 85 = .ok (.iload 7, 2) := by decide +kernel
theorem dX11_readBars_87 : decode cX11_readBars 87 = .ok (.ifCond .lt 23, 3) := by decide +kernel
theorem dX11_readBars_90 : decode cX11_readBars 90 = .ok (.iload 6, 2) := by decide +kernel
theorem dX11_readBars_92 : decode cX11_readBars 92 = .ok (.ifCond .lt 9, 3) := by decide +kernel
theorem dX11_readBars_95 : decode cX11_readBars 95 = .ok (.iload_n 2, 1) := by decide +kernel
theorem dX11_readBars_96 : decode cX11_readBars 96 = .ok (.bipush 10, 2) := by decide +kernel
theorem dX11_readBars_98 : decode cX11_readBars 98 = .ok (.if_icmp .eq 12, 3) := by decide +kernel
theorem dX11_readBars_101 : decode cX11_readBars 101 = .ok (.iload_n 2, 1) := by decide +kernel
theorem dX11_readBars_102 : decode cX11_readBars 102 = .ok (.iload 7, 2) := by decide +kernel
theorem dX11_readBars_104 : decode cX11_readBars 104 = .ok (.iadd, 1) := by decide +kernel
theorem dX11_readBars_105 : decode cX11_readBars 105 = .ok (.bipush 10, 2) := by decide +kernel
theorem dX11_readBars_107 : decode cX11_readBars 107 = .ok (.if_icmp .le 9, 3) := by decide +kernel
theorem dX11_readBars_110 : decode cX11_readBars 110 = .ok (.bipush (-100), 2) := by decide +kernel
theorem dX11_readBars_112 : decode cX11_readBars 112 = .ok (.iload 5, 2) := by decide +kernel
theorem dX11_readBars_114 : decode cX11_readBars 114 = .ok (.isub, 1) := by decide +kernel
theorem dX11_readBars_115 : decode cX11_readBars 115 = .ok (.ireturn, 1) := by decide +kernel
theorem dX11_readBars_116 : decode cX11_readBars 116 = .ok (.iload 6, 2) := by decide +kernel
theorem dX11_readBars_118 : decode cX11_readBars 118 = .ok (.ifCond .lt 17, 3) := by decide +kernel
theorem dX11_readBars_121 : decode cX11_readBars 121 = .ok (.aload_n 0, 1) := by decide +kernel
theorem dX11_readBars_122 : decode cX11_readBars 122 = .ok (.getfield 42, 3) := by decide +kernel
theorem dX11_readBars_125 : decode cX11_readBars 125 = .ok (.iload_n 2, 1) := by decide +kernel
theorem dX11_readBars_126 : decode cX11_readBars 126 = .ok (.iload 6, 2) := by decide +kernel
theorem dX11_readBars_128 : decode cX11_readBars 128 = .ok (.iastore, 1) := by decide +kernel
theorem dX11_readBars_129 : decode cX11_readBars 129 = .ok (.iinc 2 1, 3) := by decide +kernel
theorem dX11_readBars_132 : decode cX11_readBars 132 = .ok (.iinc 3 1, 3) := by decide +kernel
theorem dX11_readBars_135 : decode cX11_readBars 135 = .ok (.iconst 0, 1) := by decide +kernel
theorem dX11_readBars_136 : decode cX11_readBars 136 = .ok (.istore 8, 2) := by decide +kernel
theorem dX11_readBars_138 : decode cX11_readBars 138 = .ok (.iload 8, 2) := by decide +kernel
theorem dX11_readBars_140 : decode cX11_readBars 140 = .ok (.iload 7, 2) := by decide +kernel
theorem dX11_readBars_142 : decode cX11_readBars 142 = .ok (.if_icmp .ge 26, 3) := by decide +kernel
theorem dX11_readBars_145 : decode cX11_readBars 145 = .ok (.aload_n 0, 1) := by decide +kernel
theorem dX11_readBars_146 : decode cX11_readBars 146 = .ok (.getfield 42, 3) := by decide +kernel
theorem dX11_readBars_149 : decode cX11_readBars 149 = .ok (.iload_n 2, 1) := by decide +kernel
theorem dX11_readBars_150 : decode cX11_readBars 150 = .ok (.aload_n 0, 1) := by decide +kernel
theorem dX11_readBars_151 : decode cX11_readBars 151 = .ok (.getfield 42, 3) := by decide +kernel
theorem dX11_readBars_154 : decode cX11_readBars 154 = .ok (.iload_n 2, 1) := by decide +kernel
theorem dX11_readBars_155 : decode cX11_readBars 155 = .ok (.iconst 1, 1) := by decide +kernel
theorem dX11_readBars_156 : decode cX11_readBars 156 = .ok (.isub, 1) := by decide +kernel
theorem dX11_readBars_157 : decode cX11_readBars 157 = .ok (.iaload, 1) := by decide +kernel
theorem dX11_readBars_158 : decode cX11_readBars 158 = .ok (.iastore, 1) := by decide +kernel
theorem dX11_readBars_159 : decode cX11_readBars 159 = .ok (.iinc 2 1, 3) := by decide +kernel
theorem dX11_readBars_162 : decode cX11_readBars 162 = .ok (.iinc 8 1, 3) := by decide +kernel
theorem dX11_readBars_165 : decode cX11_readBars 165 = .ok (.goto (-27), 3) := by decide +kernel
theorem dX11_readBars_168 : decode cX11_readBars 168 = .ok (.iload 6, 2) := by decide +kernel
theorem dX11_readBars_170 : decode cX11_readBars 170 = .ok (.ifCond .lt 7, 3) := by decide +kernel
theorem dX11_readBars_173 : decode cX11_readBars 173 = .ok (.iconst 1, 1) := by decide +kernel
theorem dX11_readBars_174 : decode cX11_readBars 174 = .ok (.goto 4, 3) := by decide +kernel
theorem dX11_readBars_177 : decode cX11_readBars 177 = .ok (.iconst 0, 1) := by decide +kernel
theorem dX11_readBars_178 : decode cX11_readBars 178 = .ok (.istore 4, 2) := by decide +kernel
theorem dX11_readBars_180 : decode cX11_readBars 180 = .ok (.iinc 5 1, 3) := by decide +kernel
theorem dX11_readBars_183 : decode cX11_readBars 183 = .ok (.goto (-163), 3) := by decide +kernel
theorem dX11_readBars_186 : decode cX11_readBars 186 = .ok (.iload_n 2, 1) := by decide +kernel
theorem dX11_readBars_187 : decode cX11_readBars 187 = .ok (.bipush 10, 2) := by decide +kernel
theorem dX11_readBars_189 : decode cX11_readBars 189 = .ok (.if_icmp .ge 11, 3) := by decide +kernel
theorem dX11_readBars_192 : decode cX11_readBars 192 = .ok (.bipush (-100), 2) := by decide +kernel
theorem dX11_readBars_194 : decode cX11_readBars 194 = .ok (.aload_n 0, 1) := by decide +kernel
theorem dX11_readBars_195 : decode cX11_readBars 195 = .ok (.getfield 128, 3) := by decide +kernel
theorem dX11_readBars_198 : decode cX11_readBars 198 = .ok (.isub, 1) := by decide +kernel
theorem dX11_readBars_199 : decode cX11_readBars 199 = .ok (.ireturn, 1) := by decide +kernel
theorem dX11_readBars_200 : decode cX11_readBars 200 = .ok (.iconst 0, 1) := by decide +kernel
theorem dX11_readBars_201 : decode cX11_readBars 201 = .ok (.istore 5, 2) := by decide +kernel
theorem dX11_readBars_203 : decode cX11_readBars 203 = .ok (.iload 5, 2) := by decide +kernel
theorem dX11_readBars_205 : decode cX11_readBars 205 = .ok (.bipush 10, 2) := by decide +kernel
theorem dX11_readBars_207 : decode cX11_readBars 207 = .ok (.if_icmp .ge 27, 3) := by decide +kernel
theorem dX11_readBars_210 : decode cX11_readBars 210 = .ok (.aload_n 0, 1) := by decide +kernel
theorem dX11_readBars_211 : decode cX11_readBars 211 = .ok (.bipush 10, 2) := by decide +kernel
theorem dX11_readBars_213 : decode cX11_readBars 213 = .ok (.iload_n 1, 1) := by decide +kernel
theorem dX11_readBars_214 : decode cX11_readBars 214 = .ok (.imul, 1) := by decide +kernel
theorem dX11_readBars_215 : decode cX11_readBars 215 = .ok (.iload 5, 2) := by decide +kernel
theorem dX11_readBars_217 : decode cX11_readBars 217 = .ok (.iadd, 1) := by decide +kernel
theorem dX11_readBars_218 : decode cX11_readBars 218 = .ok (.aload_n 0, 1) := by decide +kernel
theorem dX11_readBars_219 : decode cX11_readBars 219 = .ok (.getfield 42, 3) := by decide +kernel
theorem dX11_readBars_222 : decode cX11_readBars 222 = .ok (.iload 5, 2) := by decide +kernel
theorem dX11_readBars_224 : decode cX11_readBars 224 = .ok (.iaload, 1) := by decide +kernel
theorem dX11_readBars_225 : decode cX11_readBars 225 = .ok (.invokevirtual 137, 3) := by decide +kernel
theorem dX11_readBars_228 : decode cX11_readBars 228 = .ok (.iinc 5 1, 3) := by decide +kernel
theorem dX11_readBars_231 : decode cX11_readBars 231 = .ok (.goto (-28), 3) := by decide +kernel
theorem dX11_readBars_234 : decode cX11_readBars 234 = .ok (.iload_n 3, 1) := by decide +kernel
theorem dX11_readBars_235 : decode cX11_readBars 235 = .ok (.ireturn, 1) := by decide +kernel
theorem dX11_signal_0 : decode cX11_signal 0 = .ok (.iload_n 2, 1) := by decide +kernel
theorem dX11_signal_1 : decode cX11_signal 1 = .ok (.iconst 0, 1) := by decide +kernel
theorem dX11_signal_2 : decode cX11_signal 2 = .ok (.bipush 111, 2) := by decide +kernel
theorem dX11_signal_4 : decode cX11_signal 4 = .ok (.invokestatic 103, 3) := by decide +kernel
theorem dX11_signal_7 : decode cX11_signal 7 = .ok (.ifCond .ne 5, 3) := by decide +kernel
theorem dX11_signal_10 : decode cX11_signal 10 = .ok (.iconst 0, 1) := by decide +kernel
theorem dX11_signal_11 : decode cX11_signal 11 = .ok (.ireturn, 1) := by decide +kernel
theorem dX11_signal_12 : decode cX11_signal 12 = .ok (.iload_n 2, 1) := by decide +kernel
theorem dX11_signal_13 : decode cX11_signal 13 = .ok (.iconst 2, 1) := by decide +kernel
theorem dX11_signal_14 : decode cX11_signal 14 = .ok (.iload_n 1, 1) := by decide +kernel
theorem dX11_signal_15 : decode cX11_signal 15 = .ok (.imul, 1) := by decide +kernel
theorem dX11_signal_16 : decode cX11_signal 16 = .ok (.iadd, 1) := by decide +kernel
theorem dX11_signal_17 : decode cX11_signal 17 = .ok (.aload_n 0, 1) := by decide +kernel
theorem dX11_signal_18 : decode cX11_signal 18 = .ok (.getfield 25, 3) := by decide +kernel
theorem dX11_signal_21 : decode cX11_signal 21 = .ok (.iload_n 1, 1) := by decide +kernel
theorem dX11_signal_22 : decode cX11_signal 22 = .ok (.iaload, 1) := by decide +kernel
theorem dX11_signal_23 : decode cX11_signal 23 = .ok (.iadd, 1) := by decide +kernel
theorem dX11_signal_24 : decode cX11_signal 24 = .ok (.invokestatic 141, 3) := by decide +kernel
theorem dX11_signal_27 : decode cX11_signal 27 = .ok (.istore_n 3, 1) := by decide +kernel
theorem dX11_signal_28 : decode cX11_signal 28 = .ok (.aload_n 0, 1) := by decide +kernel
theorem dX11_signal_29 : decode cX11_signal 29 = .ok (.getfield 124, 3) := by decide +kernel
theorem dX11_signal_32 : decode cX11_signal 32 = .ok (.iconst 1, 1) := by decide +kernel
theorem dX11_signal_33 : decode cX11_signal 33 = .ok (.if_icmp .ne 14, 3) := by decide +kernel
theorem dX11_signal_36 : decode cX11_signal 36 = .ok (.iload_n 1, 1) := by decide +kernel
theorem dX11_signal_37 : decode cX11_signal 37 = .ok (.iconst 2, 1) := by decide +kernel
theorem dX11_signal_38 : decode cX11_signal 38 = .ok (.irem, 1) := by decide +kernel
theorem dX11_signal_39 : decode cX11_signal 39 = .ok (.iconst 1, 1) := by decide +kernel
theorem dX11_signal_40 : decode cX11_signal 40 = .ok (.if_icmp .ne 7, 3) := by decide +kernel
theorem dX11_signal_43 : decode cX11_signal 43 = .ok (.iconst (-1), 1) := by decide +kernel
theorem dX11_signal_44 : decode cX11_signal 44 = .ok (.goto 4, 3) := by decide +kernel
theorem dX11_signal_47 : decode cX11_signal 47 = .ok (.iconst 1, 1) := by decide +kernel
theorem dX11_signal_48 : decode cX11_signal 48 = .ok (.istore 4, 2) := by decide +kernel
theorem dX11_signal_50 : decode cX11_signal 50 = .ok (.iload_n 2, 1) := by decide +kernel
theorem dX11_signal_51 : decode cX11_signal 51 = .ok (.bipush 8, 2) := by decide +kernel
theorem dX11_signal_53 : decode cX11_signal 53 = .ok (.isub, 1) := by decide +kernel
theorem dX11_signal_54 : decode cX11_signal 54 = .ok (.aload_n 0, 1) := by decide +kernel
theorem dX11_signal_55 : decode cX11_signal 55 = .ok (.getfield 19, 3) := by decide +kernel
theorem dX11_signal_58 : decode cX11_signal 58 = .ok (.iload_n 1, 1) := by decide +kernel
theorem dX11_signal_59 : decode cX11_signal 59 = .ok (.iaload, 1) := by decide +kernel
theorem dX11_signal_60 : decode cX11_signal 60 = .ok (.isub, 1) := by decide +kernel
theorem dX11_signal_61 : decode cX11_signal 61 = .ok (.istore 5, 2) := by decide +kernel
theorem dX11_signal_63 : decode cX11_signal 63 = .ok (.aload_n 0, 1) := by decide +kernel
theorem dX11_signal_64 : decode cX11_signal 64 = .ok (.getfield 28, 3) := by decide +kernel
theorem dX11_signal_67 : decode cX11_signal 67 = .ok (.iload_n 1, 1) := by decide +kernel
theorem dX11_signal_68 : decode cX11_signal 68 = .ok (.iaload, 1) := by decide +kernel
theorem dX11_signal_69 : decode cX11_signal 69 = .ok (.bipush 7, 2) := by decide +kernel
theorem dX11_signal_71 : decode cX11_signal 71 = .ok (.iload_n 2, 1) := by decide +kernel
theorem dX11_signal_72 : decode cX11_signal 72 = .ok (.imul, 1) := by decide +kernel
theorem dX11_signal_73 : decode cX11_signal 73 = .ok (.bipush 13, 2) := by decide +kernel
theorem dX11_signal_75 : decode cX11_signal 75 = .ok (.iload_n 1, 1) := by decide +kernel
theorem dX11_signal_76 : decode cX11_signal 76 = .ok (.imul, 1) := by decide +kernel
theorem dX11_signal_77 : decode cX11_signal 77 = .ok (.iadd, 1) := by decide +kernel
theorem dX11_signal_78 : decode cX11_signal 78 = .ok (.iconst 5, 1) := by decide +kernel
theorem dX11_signal_79 : decode cX11_signal 79 = .ok (.irem, 1) := by decide +kernel
theorem dX11_signal_80 : decode cX11_signal 80 = .ok (.iconst 2, 1) := by decide +kernel
theorem dX11_signal_81 : decode cX11_signal 81 = .ok (.isub, 1) := by decide +kernel
theorem dX11_signal_82 : decode cX11_signal 82 = .ok (.imul, 1) := by decide +kernel
theorem dX11_signal_83 : decode cX11_signal 83 = .ok (.istore 6, 2) := by decide +kernel
theorem dX11_signal_85 : decode cX11_signal 85 = .ok (.iload 5, 2) := by decide +kernel
theorem dX11_signal_87 : decode cX11_signal 87 = .ok (.iconst 0, 1) := by decide +kernel
theorem dX11_signal_88 : decode cX11_signal 88 = .ok (.bipush 7, 2) := by decide +kernel
theorem dX11_signal_90 : decode cX11_signal 90 = .ok (.invokestatic 103, 3) := by decide +kernel
theorem dX11_signal_93 : decode cX11_signal 93 = .ok (.ifCond .eq 26, 3) := by decide +kernel
theorem dX11_signal_96 : decode cX11_signal 96 = .ok (.iload 6, 2) := by decide +kernel
theorem dX11_signal_98 : decode cX11_signal 98 = .ok (.aload_n 0, 1) := by decide +kernel
theorem dX11_signal_99 : decode cX11_signal 99 = .ok (.getfield 31, 3) := by decide +kernel
theorem dX11_signal_102 : decode cX11_signal 102 = .ok (.iload_n 1, 1) := by decide +kernel
theorem dX11_signal_103 : decode cX11_signal 103 = .ok (.baload, 1) := by decide +kernel
theorem dX11_signal_104 : decode cX11_signal 104 = .ok (.ifCond .eq 7, 3) := by decide +kernel
theorem dX11_signal_107 : decode cX11_signal 107 = .ok (.iconst 0, 1) := by decide +kernel
theorem dX11_signal_108 : decode cX11_signal 108 = .ok (.goto 5, 3) := by decide +kernel
theorem dX11_signal_111 : decode cX11_signal 111 = .ok (.bipush 40, 2) := by decide +kernel
theorem dX11_signal_113 : decode cX11_signal 113 = .ok (.isub, 1) := by decide +kernel
theorem dX11_signal_114 : decode cX11_signal 114 = .ok (.istore 6, 2) := by decide +kernel
theorem dX11_signal_116 : decode cX11_signal 116 = .ok (.goto 130, 3) := by decide +kernel
theorem dX11_signal_119 : decode cX11_signal 119 = .ok (.iload 5, 2) := by decide +kernel
theorem dX11_signal_121 : decode cX11_signal 121 = .ok (.bipush 8, 2) := by decide +kernel
theorem dX11_signal_123 : decode cX11_signal 123 = .ok (.bipush 15, 2) := by decide +kernel
theorem dX11_signal_125 : decode cX11_signal 125 = .ok (.invokestatic 103, 3) := by decide +kernel
theorem dX11_signal_128 : decode cX11_signal 128 = .ok (.ifCond .eq 50, 3) := by decide +kernel
theorem dX11_signal_131 : decode cX11_signal 131 = .ok (.iload 6, 2) := by decide +kernel
theorem dX11_signal_133 : decode cX11_signal 133 = .ok (.aload_n 0, 1) := by decide +kernel
theorem dX11_signal_134 : decode cX11_signal 134 = .ok (.getfield 22, 3) := by decide +kernel
theorem dX11_signal_137 : decode cX11_signal 137 = .ok (.iload_n 1, 1) := by decide +kernel
theorem dX11_signal_138 : decode cX11_signal 138 = .ok (.iaload, 1) := by decide +kernel
theorem dX11_signal_139 : decode cX11_signal 139 = .ok (.ineg, 1) := by decide +kernel
theorem dX11_signal_140 : decode cX11_signal 140 = .ok (.iload_n 3, 1) := by decide +kernel
theorem dX11_signal_141 : decode cX11_signal 141 = .ok (.invokestatic 145, 3) := by decide +kernel
theorem dX11_signal_144 : decode cX11_signal 144 = .ok (.imul, 1) := by decide +kernel
theorem dX11_signal_145 : decode cX11_signal 145 = .ok (.aload_n 0, 1) := by decide +kernel
theorem dX11_signal_146 : decode cX11_signal 146 = .ok (.getfield 124, 3) := by decide +kernel
theorem dX11_signal_149 : decode cX11_signal 149 = .ok (.iconst 1, 1) := by decide +kernel
theorem dX11_signal_150 : decode cX11_signal 150 = .ok (.if_icmp .ne 20, 3) := by decide +kernel
theorem dX11_signal_153 : decode cX11_signal 153 = .ok (.iload 4, 2) := by decide +kernel
theorem dX11_signal_155 : decode cX11_signal 155 = .ok (.aload_n 0, 1) := by decide +kernel
theorem dX11_signal_156 : decode cX11_signal 156 = .ok (.getfield 22, 3) := by decide +kernel
theorem dX11_signal_159 : decode cX11_signal 159 = .ok (.iload_n 1, 1) := by decide +kernel
theorem dX11_signal_160 : decode cX11_signal 160 = .ok (.iaload, 1) := by decide +kernel
theorem dX11_signal_161 : decode cX11_signal 161 = .ok (.imul, 1) := by decide +kernel
theorem dX11_signal_162 : decode cX11_signal 162 = .ok (.iload_n 3, 1) := by decide +kernel
theorem dX11_signal_163 : decode cX11_signal 163 = .ok (.invokestatic 148, 3) := by decide +kernel
theorem dX11_signal_166 : decode cX11_signal 166 = .ok (.imul, 1) := by decide +kernel
theorem dX11_signal_167 : decode cX11_signal 167 = .ok (.goto 4, 3) := by decide +kernel
theorem dX11_signal_170 : decode cX11_signal 170 = .ok (.iconst 0, 1) := by decide +kernel
theorem dX11_signal_171 : decode cX11_signal 171 = .ok (.iadd, 1) := by decide +kernel
theorem dX11_signal_172 : decode cX11_signal 172 = .ok (.iadd, 1) := by decide +kernel
theorem dX11_signal_173 : decode cX11_signal 173 = .ok (.istore 6, 2) := by decide +kernel
theorem dX11_signal_175 : decode cX11_signal 175 = .ok (.goto 71, 3) := by decide +kernel
theorem dX11_signal_178 : decode cX11_signal 178 = .ok (.iload 5, 2) := by decide +kernel
theorem dX11_signal_180 : decode cX11_signal 180 = .ok (.bipush 16, 2) := by decide +kernel
theorem dX11_signal_182 : decode cX11_signal 182 = .ok (.bipush 95, 2) := by decide +kernel
theorem dX11_signal_184 : decode cX11_signal 184 = .ok (.invokestatic 103, 3) := by decide +kernel
theorem dX11_signal_187 : decode cX11_signal 187 = .ok (.ifCond .eq 59, 3) := by decide +kernel
theorem dX11_signal_190 : decode cX11_signal 190 = .ok (.bipush 10, 2) := by decide +kernel
theorem dX11_signal_192 : decode cX11_signal 192 = .ok (.iload_n 1, 1) := by decide +kernel
theorem dX11_signal_193 : decode cX11_signal 193 = .ok (.imul, 1) := by decide +kernel
theorem dX11_signal_194 : decode cX11_signal 194 = .ok (.iload 5, 2) := by decide +kernel
theorem dX11_signal_196 : decode cX11_signal 196 = .ok (.bipush 16, 2) := by decide +kernel
theorem dX11_signal_198 : decode cX11_signal 198 = .ok (.isub, 1) := by decide +kernel
theorem dX11_signal_199 : decode cX11_signal 199 = .ok (.bipush 8, 2) := by decide +kernel
theorem dX11_signal_201 : decode cX11_signal 201 = .ok (.idiv, 1) := by decide +kernel
theorem dX11_signal_202 : decode cX11_signal 202 = .ok (.iadd, 1) := by decide +kernel
theorem dX11_signal_203 : decode cX11_signal 203 = .ok (.istore 7, 2) := by decide +kernel
theorem dX11_signal_205 : decode cX11_signal 205 = .ok (.iload 6, 2) := by decide +kernel
theorem dX11_signal_207 : decode cX11_signal 207 = .ok (.aload_n 0, 1) := by decide +kernel
theorem dX11_signal_208 : decode cX11_signal 208 = .ok (.getfield 7, 3) := by decide +kernel
theorem dX11_signal_211 : decode cX11_signal 211 = .ok (.iload 7, 2) := by decide +kernel
theorem dX11_signal_213 : decode cX11_signal 213 = .ok (.iaload, 1) := by decide +kernel
theorem dX11_signal_214 : decode cX11_signal 214 = .ok (.aload_n 0, 1) := by decide +kernel
theorem dX11_signal_215 : decode cX11_signal 215 = .ok (.getfield 13, 3) := by decide +kernel
theorem dX11_signal_218 : decode cX11_signal 218 = .ok (.iload 7, 2) := by decide +kernel
theorem dX11_signal_220 : decode cX11_signal 220 = .ok (.iaload, 1) := by decide +kernel
theorem dX11_signal_221 : decode cX11_signal 221 = .ok (.iload_n 3, 1) := by decide +kernel
theorem dX11_signal_222 : decode cX11_signal 222 = .ok (.invokestatic 145, 3) := by decide +kernel
theorem dX11_signal_225 : decode cX11_signal 225 = .ok (.imul, 1) := by decide +kernel
theorem dX11_signal_226 : decode cX11_signal 226 = .ok (.iadd, 1) := by decide +kernel
theorem dX11_signal_227 : decode cX11_signal 227 = .ok (.iload 4, 2) := by decide +kernel
theorem dX11_signal_229 : decode cX11_signal 229 = .ok (.aload_n 0, 1) := by decide +kernel
theorem dX11_signal_230 : decode cX11_signal 230 = .ok (.getfield 16, 3) := by decide +kernel
theorem dX11_signal_233 : decode cX11_signal 233 = .ok (.iload 7, 2) := by decide +kernel
theorem dX11_signal_235 : decode cX11_signal 235 = .ok (.iaload, 1) := by decide +kernel
theorem dX11_signal_236 : decode cX11_signal 236 = .ok (.imul, 1) := by decide +kernel
theorem dX11_signal_237 : decode cX11_signal 237 = .ok (.iload_n 3, 1) := by decide +kernel
theorem dX11_signal_238 : decode cX11_signal 238 = .ok (.invokestatic 148, 3) := by decide +kernel
theorem dX11_signal_241 : decode cX11_signal 241 = .ok (.imul, 1) := by decide +kernel
theorem dX11_signal_242 : decode cX11_signal 242 = .ok (.iadd, 1) := by decide +kernel
theorem dX11_signal_243 : decode cX11_signal 243 = .ok (.iadd, 1) := by decide +kernel
theorem dX11_signal_244 : decode cX11_signal 244 = .ok (.istore 6, 2) := by decide +kernel
theorem dX11_signal_246 : decode cX11_signal 246 = .ok (.iload 6, 2) := by decide +kernel
theorem dX11_signal_248 : decode cX11_signal 248 = .ok (.ireturn, 1) := by decide +kernel
theorem dX11_sample_0 : decode cX11_sample 0 = .ok (.iload_n 1, 1) := by decide +kernel
theorem dX11_sample_1 : decode cX11_sample 1 = .ok (.invokestatic 107, 3) := by decide +kernel
theorem dX11_sample_4 : decode cX11_sample 4 = .ok (.ifCond .eq 6, 3) := by decide +kernel
theorem dX11_sample_7 : decode cX11_sample 7 = .ok (.ldc 115, 2) := by decide +kernel
theorem dX11_sample_9 : decode cX11_sample 9 = .ok (.ireturn, 1) := by decide +kernel
theorem dX11_sample_10 : decode cX11_sample 10 = .ok (.iload_n 2, 1) := by decide +kernel
theorem dX11_sample_11 : decode cX11_sample 11 = .ok (.iconst 0, 1) := by decide +kernel
theorem dX11_sample_12 : decode cX11_sample 12 = .ok (.bipush 111, 2) := by decide +kernel
theorem dX11_sample_14 : decode cX11_sample 14 = .ok (.invokestatic 103, 3) := by decide +kernel
theorem dX11_sample_17 : decode cX11_sample 17 = .ok (.ifCond .eq 12, 3) := by decide +kernel
theorem dX11_sample_20 : decode cX11_sample 20 = .ok (.aload_n 0, 1) := by decide +kernel
theorem dX11_sample_21 : decode cX11_sample 21 = .ok (.iload_n 1, 1) := by decide +kernel
theorem dX11_sample_22 : decode cX11_sample 22 = .ok (.iload_n 2, 1) := by decide +kernel
theorem dX11_sample_23 : decode cX11_sample 23 = .ok (.invokevirtual 151, 3) := by decide +kernel
theorem dX11_sample_26 : decode cX11_sample 26 = .ok (.goto 5, 3) := by decide +kernel
theorem dX11_sample_29 : decode cX11_sample 29 = .ok (.ldc 119, 2) := by decide +kernel
theorem dX11_sample_31 : decode cX11_sample 31 = .ok (.ireturn, 1) := by decide +kernel
theorem dX11_set_0 : decode cX11_set 0 = .ok (.iload_n 1, 1) := by decide +kernel
theorem dX11_set_1 : decode cX11_set 1 = .ok (.iconst 0, 1) := by decide +kernel
theorem dX11_set_2 : decode cX11_set 2 = .ok (.iconst 3, 1) := by decide +kernel
theorem dX11_set_3 : decode cX11_set 3 = .ok (.invokestatic 103, 3) := by decide +kernel
theorem dX11_set_6 : decode cX11_set 6 = .ok (.ifCond .ne 6, 3) := by decide +kernel
theorem dX11_set_9 : decode cX11_set 9 = .ok (.ldc 115, 2) := by decide +kernel
theorem dX11_set_11 : decode cX11_set 11 = .ok (.ireturn, 1) := by decide +kernel
theorem dX11_set_12 : decode cX11_set 12 = .ok (.iload_n 1, 1) := by decide +kernel
theorem dX11_set_13 : decode cX11_set 13 = .ok (.ifCond .ne 7, 3) := by decide +kernel
theorem dX11_set_16 : decode cX11_set 16 = .ok (.iconst 1, 1) := by decide +kernel
theorem dX11_set_17 : decode cX11_set 17 = .ok (.goto 4, 3) := by decide +kernel
theorem dX11_set_20 : decode cX11_set 20 = .ok (.iconst 0, 1) := by decide +kernel
theorem dX11_set_21 : decode cX11_set 21 = .ok (.istore_n 3, 1) := by decide +kernel
theorem dX11_set_22 : decode cX11_set 22 = .ok (.iload_n 1, 1) := by decide +kernel
theorem dX11_set_23 : decode cX11_set 23 = .ok (.ifCond .ne 8, 3) := by decide +kernel
theorem dX11_set_26 : decode cX11_set 26 = .ok (.bipush 40, 2) := by decide +kernel
theorem dX11_set_28 : decode cX11_set 28 = .ok (.goto 23, 3) := by decide +kernel
theorem dX11_set_31 : decode cX11_set 31 = .ok (.iload_n 1, 1) := by decide +kernel
theorem dX11_set_32 : decode cX11_set 32 = .ok (.iconst 1, 1) := by decide +kernel
theorem dX11_set_33 : decode cX11_set 33 = .ok (.if_icmp .ne 8, 3) := by decide +kernel
theorem dX11_set_36 : decode cX11_set 36 = .ok (.bipush 100, 2) := by decide +kernel
theorem dX11_set_38 : decode cX11_set 38 = .ok (.goto 13, 3) := by decide +kernel
theorem dX11_set_41 : decode cX11_set 41 = .ok (.iload_n 1, 1) := by decide +kernel
theorem dX11_set_42 : decode cX11_set 42 = .ok (.iconst 2, 1) := by decide +kernel
theorem dX11_set_43 : decode cX11_set 43 = .ok (.if_icmp .ne 7, 3) := by decide +kernel
theorem dX11_set_46 : decode cX11_set 46 = .ok (.iconst 3, 1) := by decide +kernel
theorem dX11_set_47 : decode cX11_set 47 = .ok (.goto 4, 3) := by decide +kernel
theorem dX11_set_50 : decode cX11_set 50 = .ok (.iconst 2, 1) := by decide +kernel
theorem dX11_set_51 : decode cX11_set 51 = .ok (.istore 4, 2) := by decide +kernel
theorem dX11_set_53 : decode cX11_set 53 = .ok (.iload_n 2, 1) := by decide +kernel
theorem dX11_set_54 : decode cX11_set 54 = .ok (.iload_n 3, 1) := by decide +kernel
theorem dX11_set_55 : decode cX11_set 55 = .ok (.iload 4, 2) := by decide +kernel
theorem dX11_set_57 : decode cX11_set 57 = .ok (.invokestatic 103, 3) := by decide +kernel
theorem dX11_set_60 : decode cX11_set 60 = .ok (.ifCond .ne 6, 3) := by decide +kernel
theorem dX11_set_63 : decode cX11_set 63 = .ok (.ldc 119, 2) := by decide +kernel
theorem dX11_set_65 : decode cX11_set 65 = .ok (.ireturn, 1) := by decide +kernel
theorem dX11_set_66 : decode cX11_set 66 = .ok (.aload_n 0, 1) := by decide +kernel
theorem dX11_set_67 : decode cX11_set 67 = .ok (.getfield 35, 3) := by decide +kernel
theorem dX11_set_70 : decode cX11_set 70 = .ok (.iload_n 1, 1) := by decide +kernel
theorem dX11_set_71 : decode cX11_set 71 = .ok (.iaload, 1) := by decide +kernel
theorem dX11_set_72 : decode cX11_set 72 = .ok (.istore 5, 2) := by decide +kernel
theorem dX11_set_74 : decode cX11_set 74 = .ok (.aload_n 0, 1) := by decide +kernel
theorem dX11_set_75 : decode cX11_set 75 = .ok (.getfield 35, 3) := by decide +kernel
theorem dX11_set_78 : decode cX11_set 78 = .ok (.iload_n 1, 1) := by decide +kernel
theorem dX11_set_79 : decode cX11_set 79 = .ok (.iload_n 2, 1) := by decide +kernel
theorem dX11_set_80 : decode cX11_set 80 = .ok (.iastore, 1) := by decide +kernel
theorem dX11_set_81 : decode cX11_set 81 = .ok (.iload 5, 2) := by decide +kernel
theorem dX11_set_83 : decode cX11_set 83 = .ok (.ireturn, 1) := by decide +kernel
theorem dX11_findPulse_0 : decode cX11_findPulse 0 = .ok (.iconst 0, 1) := by decide +kernel
theorem dX11_findPulse_1 : decode cX11_findPulse 1 = .ok (.istore_n 2, 1) := by decide +kernel
theorem dX11_findPulse_2 : decode cX11_findPulse 2 = .ok (.iload_n 2, 1) := by decide +kernel
theorem dX11_findPulse_3 : decode cX11_findPulse 3 = .ok (.bipush 20, 2) := by decide +kernel
theorem dX11_findPulse_5 : decode cX11_findPulse 5 = .ok (.if_icmp .gt 56, 3) := by decide +kernel
theorem dX11_findPulse_8 : decode cX11_findPulse 8 = .ok (.iconst 1, 1) := by decide +kernel
theorem dX11_findPulse_9 : decode cX11_findPulse 9 = .ok (.istore_n 3, 1) := by decide +kernel
theorem dX11_findPulse_10 : decode cX11_findPulse 10 = .ok (.iload_n 2, 1) := by decide +kernel
theorem dX11_findPulse_11 : decode cX11_findPulse 11 = .ok (.istore 4, 2) := by decide +kernel
theorem dX11_findPulse_13 : decode cX11_findPulse 13 = .ok (.iload 4, 2) := by decide +kernel
theorem dX11_findPulse_15 : decode cX11_findPulse 15 = .ok (.iload_n 2, 1) := by decide +kernel
theorem dX11_findPulse_16 : decode cX11_findPulse 16 = .ok (.iconst 4, 1) := by decide +kernel
theorem dX11_findPulse_17 : decode cX11_findPulse 17 = .ok (.iadd, 1) := by decide +kernel
theorem dX11_findPulse_18 : decode cX11_findPulse 18 = .ok (.if_icmp .ge 31, 3) := by decide +kernel
theorem dX11_findPulse_21 : decode cX11_findPulse 21 = .ok (.iload_n 3, 1) := by decide +kernel
theorem dX11_findPulse_22 : decode cX11_findPulse 22 = .ok (.ifCond .eq 19, 3) := by decide +kernel
theorem dX11_findPulse_25 : decode cX11_findPulse 25 = .ok (.aload_n 0, 1) := by decide +kernel
theorem dX11_findPulse_26 : decode cX11_findPulse 26 = .ok (.iload_n 1, 1) := by decide +kernel
theorem dX11_findPulse_27 : decode cX11_findPulse 27 = .ok (.iload 4, 2) := by decide +kernel
theorem dX11_findPulse_29 : decode cX11_findPulse 29 = .ok (.invokevirtual 151, 3) := by decide +kernel
theorem dX11_findPulse_32 : decode cX11_findPulse 32 = .ok (.bipush (-20), 2) := by decide +kernel
theorem dX11_findPulse_34 : decode cX11_findPulse 34 = .ok (.if_icmp .gt 7, 3) := by decide +kernel
theorem dX11_findPulse_37 : decode cX11_findPulse 37 = .ok (.iconst 1, 1) := by decide +kernel
theorem dX11_findPulse_38 : decode cX11_findPulse 38 = .ok (.goto 4, 3) := by decide +kernel
theorem dX11_findPulse_41 : decode cX11_findPulse 41 = .ok (.iconst 0, 1) := by decide +kernel
theorem dX11_findPulse_42 : decode cX11_findPulse 42 = .ok (.istore_n 3, 1) := by decide +kernel
theorem dX11_findPulse_43 : decode cX11_findPulse 43 = .ok (.iinc 4 1, 3) := by decide +kernel
theorem dX11_findPulse_46 : decode cX11_findPulse 46 = .ok (.goto (-33), 3) := by decide +kernel
theorem dX11_findPulse_49 : decode cX11_findPulse 49 = .ok (.iload_n 3, 1) := by decide +kernel
theorem dX11_findPulse_50 : decode cX11_findPulse 50 = .ok (.ifCond .eq 5, 3) := by decide +kernel
theorem dX11_findPulse_53 : decode cX11_findPulse 53 = .ok (.iload_n 2, 1) := by decide +kernel
theorem dX11_findPulse_54 : decode cX11_findPulse 54 = .ok (.ireturn, 1) := by decide +kernel
theorem dX11_findPulse_55 : decode cX11_findPulse 55 = .ok (.iinc 2 1, 3) := by decide +kernel
theorem dX11_findPulse_58 : decode cX11_findPulse 58 = .ok (.goto (-56), 3) := by decide +kernel
theorem dX11_findPulse_61 : decode cX11_findPulse 61 = .ok (.ldc 132, 2) := by decide +kernel
theorem dX11_findPulse_63 : decode cX11_findPulse 63 = .ok (.ireturn, 1) := by decide +kernel
theorem dX11_findPulses_0 : decode cX11_findPulses 0 = .ok (.bipush 32, 2) := by decide +kernel
theorem dX11_findPulses_2 : decode cX11_findPulses 2 = .ok (.istore_n 1, 1) := by decide +kernel
theorem dX11_findPulses_3 : decode cX11_findPulses 3 = .ok (.iconst 0, 1) := by decide +kernel
theorem dX11_findPulses_4 : decode cX11_findPulses 4 = .ok (.istore_n 2, 1) := by decide +kernel
theorem dX11_findPulses_5 : decode cX11_findPulses 5 = .ok (.iconst 0, 1) := by decide +kernel
theorem dX11_findPulses_6 : decode cX11_findPulses 6 = .ok (.istore_n 3, 1) := by decide +kernel
theorem dX11_findPulses_7 : decode cX11_findPulses 7 = .ok (.iconst 0, 1) := by decide +kernel
theorem dX11_findPulses_8 : decode cX11_findPulses 8 = .ok (.istore 4, 2) := by decide +kernel
theorem dX11_findPulses_10 : decode cX11_findPulses 10 = .ok (.iconst 0, 1) := by decide +kernel
theorem dX11_findPulses_11 : decode cX11_findPulses 11 = .ok (.istore 5, 2) := by decide +kernel
theorem dX11_findPulses_13 : decode cX11_findPulses 13 = .ok (.iconst 0, 1) := by decide +kernel
theorem dX11_findPulses_14 : decode cX11_findPulses 14 = .ok (.istore 6, 2) := by decide +kernel
theorem dX11_findPulses_16 : decode cX11_findPulses 16 = .ok (.iload 6, 2) := by decide +kernel
theorem dX11_findPulses_18 : decode cX11_findPulses 18 = .ok (.bipush 8, 2) := by decide +kernel
theorem dX11_findPulses_20 : decode cX11_findPulses 20 = .ok (.if_icmp .ge 185, 3) := by decide +kernel
theorem dX11_findPulses_23 : decode cX11_findPulses 23 = .ok (.aload_n 0, 1) := by decide +kernel
theorem dX11_findPulses_24 : decode cX11_findPulses 24 = .ok (.iload 6, 2) := by decide +kernel
theorem dX11_findPulses_26 : decode cX11_findPulses 26 = .ok (.invokevirtual 154, 3) := by decide +kernel
theorem dX11_findPulses_29 : decode cX11_findPulses 29 = .ok (.istore 7, 2) := by decide +kernel
theorem dX11_findPulses_31 : decode cX11_findPulses 31 = .ok (.iconst 4, 1) := by decide +kernel
theorem dX11_findPulses_32 : decode cX11_findPulses 32 = .ok (.iload 7, 2) := by decide +kernel
theorem dX11_findPulses_34 : decode cX11_findPulses 34 = .ok (.imul, 1) := by decide +kernel
theorem dX11_findPulses_35 : decode cX11_findPulses 35 = .ok (.iload_n 1, 1) := by decide +kernel
theorem dX11_findPulses_36 : decode cX11_findPulses 36 = .ok (.isub, 1) := by decide +kernel
theorem dX11_findPulses_37 : decode cX11_findPulses 37 = .ok (.istore 8, 2) := by decide +kernel
theorem dX11_findPulses_39 : decode cX11_findPulses 39 = .ok (.iload 7, 2) := by decide +kernel
theorem dX11_findPulses_41 : decode cX11_findPulses 41 = .ok (.ifCond .lt 30, 3) := by decide +kernel
theorem dX11_findPulses_44 : decode cX11_findPulses 44 = .ok (.iload 8, 2) := by decide +kernel
theorem dX11_findPulses_46 : decode cX11_findPulses 46 = .ok (.bipush (-12), 2) := by decide +kernel
theorem dX11_findPulses_48 : decode cX11_findPulses 48 = .ok (.bipush 12, 2) := by decide +kernel
theorem dX11_findPulses_50 : decode cX11_findPulses 50 = .ok (.invokestatic 103, 3) := by decide +kernel
theorem dX11_findPulses_53 : decode cX11_findPulses 53 = .ok (.ifCond .eq 18, 3) := by decide +kernel
theorem dX11_findPulses_56 : decode cX11_findPulses 56 = .ok (.iload_n 1, 1) := by decide +kernel
theorem dX11_findPulses_57 : decode cX11_findPulses 57 = .ok (.iload 8, 2) := by decide +kernel
theorem dX11_findPulses_59 : decode cX11_findPulses 59 = .ok (.iconst 2, 1) := by decide +kernel
theorem dX11_findPulses_60 : decode cX11_findPulses 60 = .ok (.idiv, 1) := by decide +kernel
theorem dX11_findPulses_61 : decode cX11_findPulses 61 = .ok (.iadd, 1) := by decide +kernel
theorem dX11_findPulses_62 : decode cX11_findPulses 62 = .ok (.istore_n 1, 1) := by decide +kernel
theorem dX11_findPulses_63 : decode cX11_findPulses 63 = .ok (.iinc 2 1, 3) := by decide +kernel
theorem dX11_findPulses_66 : decode cX11_findPulses 66 = .ok (.iconst 0, 1) := by decide +kernel
theorem dX11_findPulses_67 : decode cX11_findPulses 67 = .ok (.istore_n 3, 1) := by decide +kernel
theorem dX11_findPulses_68 : decode cX11_findPulses 68 = .ok (.goto 27, 3) := by decide +kernel
theorem dX11_findPulses_71 : decode cX11_findPulses 71 = .ok (.iinc 3 1, 3) := by decide +kernel
theorem dX11_findPulses_74 : decode cX11_findPulses 74 = .ok (.iconst 0, 1) := by decide +kernel
theorem dX11_findPulses_75 : decode cX11_findPulses 75 = .ok (.istore_n 2, 1) := by decide +kernel
theorem dX11_findPulses_76 : decode cX11_findPulses 76 = .ok (.iload 7, 2) := by decide +kernel
theorem dX11_findPulses_78 : decode cX11_findPulses 78 = .ok (.ifCond .lt 15, 3) := by decide +kernel
theorem dX11_findPulses_81 : decode cX11_findPulses 81 = .ok (.iload 4, 2) := by decide +kernel
theorem dX11_findPulses_83 : decode cX11_findPulses 83 = .ok (.ifCond .ne 10, 3) := by decide +kernel
theorem dX11_findPulses_86 : decode cX11_findPulses 86 = .ok (.iconst 4, 1) := by decide +kernel
theorem dX11_findPulses_87 : decode cX11_findPulses 87 = .ok (.iload 7, 2) := by decide +kernel
theorem dX11_findPulses_89 : decode cX11_findPulses 89 = .ok (.imul, 1) := by decide +kernel
theorem dX11_findPulses_90 : decode cX11_findPulses 90 = .ok (.goto 4, 3) := by decide +kernel
theorem dX11_findPulses_93 : decode cX11_findPulses 93 = .ok (.iload_n 1, 1) := by decide +kernel
theorem dX11_findPulses_94 : decode cX11_findPulses 94 = .ok (.istore_n 1, 1) := by decide +kernel
theorem dX11_findPulses_95 : decode cX11_findPulses 95 = .ok (.iload_n 2, 1) := by decide +kernel
theorem dX11_findPulses_96 : decode cX11_findPulses 96 = .ok (.iconst 2, 1) := by decide +kernel
theorem dX11_findPulses_97 : decode cX11_findPulses 97 = .ok (.if_icmp .ge 8, 3) := by decide +kernel
theorem dX11_findPulses_100 : decode cX11_findPulses 100 = .ok (.iload 4, 2) := by decide +kernel
theorem dX11_findPulses_102 : decode cX11_findPulses 102 = .ok (.ifCond .eq 7, 3) := by decide +kernel
theorem dX11_findPulses_105 : decode cX11_findPulses 105 = .ok (.iconst 1, 1) := by decide +kernel
theorem dX11_findPulses_106 : decode cX11_findPulses 106 = .ok (.goto 4, 3) := by decide +kernel
theorem dX11_findPulses_109 : decode cX11_findPulses 109 = .ok (.iconst 0, 1) := by decide +kernel
theorem dX11_findPulses_110 : decode cX11_findPulses 110 = .ok (.istore 4, 2) := by decide +kernel
theorem dX11_findPulses_112 : decode cX11_findPulses 112 = .ok (.iload_n 3, 1) := by decide +kernel
theorem dX11_findPulses_113 : decode cX11_findPulses 113 = .ok (.iconst 4, 1) := by decide +kernel
theorem dX11_findPulses_114 : decode cX11_findPulses 114 = .ok (.if_icmp .ge 12, 3) := by decide +kernel
theorem dX11_findPulses_117 : decode cX11_findPulses 117 = .ok (.iload 4, 2) := by decide +kernel
theorem dX11_findPulses_119 : decode cX11_findPulses 119 = .ok (.ifCond .eq 7, 3) := by decide +kernel
theorem dX11_findPulses_122 : decode cX11_findPulses 122 = .ok (.iconst 1, 1) := by decide +kernel
theorem dX11_findPulses_123 : decode cX11_findPulses 123 = .ok (.goto 4, 3) := by decide +kernel
theorem dX11_findPulses_126 : decode cX11_findPulses 126 = .ok (.iconst 0, 1) := by decide +kernel
theorem dX11_findPulses_127 : decode cX11_findPulses 127 = .ok (.istore 4, 2) := by decide +kernel
theorem dX11_findPulses_129 : decode cX11_findPulses 129 = .ok (.aload_n 0, 1) := by decide +kernel
theorem dX11_findPulses_130 : decode cX11_findPulses 130 = .ok (.getfield 45, 3) := by decide +kernel
theorem dX11_findPulses_133 : decode cX11_findPulses 133 = .ok (.iload 6, 2) := by decide +kernel
theorem dX11_findPulses_135 : decode cX11_findPulses 135 = .ok (.iload 7, 2) := by decide +kernel
theorem dX11_findPulses_137 : decode cX11_findPulses 137 = .ok (.iastore, 1) := by decide +kernel
theorem dX11_findPulses_138 : decode cX11_findPulses 138 = .ok (.aload_n 0, 1) := by decide +kernel
theorem dX11_findPulses_139 : decode cX11_findPulses 139 = .ok (.getfield 48, 3) := by decide +kernel
theorem dX11_findPulses_142 : decode cX11_findPulses 142 = .ok (.iload 6, 2) := by decide +kernel
theorem dX11_findPulses_144 : decode cX11_findPulses 144 = .ok (.iload 4, 2) := by decide +kernel
theorem dX11_findPulses_146 : decode cX11_findPulses 146 = .ok (.ifCond .ne 8, 3) := by decide +kernel
theorem dX11_findPulses_149 : decode cX11_findPulses 149 = .ok (.iload 7, 2) := by decide +kernel
theorem dX11_findPulses_151 : decode cX11_findPulses 151 = .ok (.ifCond .ge 13, 3) := by decide +kernel
theorem dX11_findPulses_154 : decode cX11_findPulses 154 = .ok (.iload_n 1, 1) := by decide +kernel
theorem dX11_findPulses_155 : decode cX11_findPulses 155 = .ok (.iconst 2, 1) := by decide +kernel
theorem dX11_findPulses_156 : decode cX11_findPulses 156 = .ok (.iadd, 1) := by decide +kernel
theorem dX11_findPulses_157 : decode cX11_findPulses 157 = .ok (.iconst 4, 1) := by decide +kernel
theorem dX11_findPulses_158 : decode cX11_findPulses 158 = .ok (.invokestatic 157, 3) := by decide +kernel
theorem dX11_findPulses_161 : decode cX11_findPulses 161 = .ok (.goto 5, 3) := by decide +kernel
theorem dX11_findPulses_164 : decode cX11_findPulses 164 = .ok (.iload 7, 2) := by decide +kernel
theorem dX11_findPulses_166 : decode cX11_findPulses 166 = .ok (.iastore, 1) := by decide +kernel
theorem dX11_findPulses_167 : decode cX11_findPulses 167 = .ok (.aload_n 0, 1) := by decide +kernel
theorem dX11_findPulses_168 : decode cX11_findPulses 168 = .ok (.getfield 51, 3) := by decide +kernel
theorem dX11_findPulses_171 : decode cX11_findPulses 171 = .ok (.iload 6, 2) := by decide +kernel
theorem dX11_findPulses_173 : decode cX11_findPulses 173 = .ok (.iload 4, 2) := by decide +kernel
theorem dX11_findPulses_175 : decode cX11_findPulses 175 = .ok (.bastore, 1) := by decide +kernel
theorem dX11_findPulses_176 : decode cX11_findPulses 176 = .ok (.aload_n 0, 1) := by decide +kernel
theorem dX11_findPulses_177 : decode cX11_findPulses 177 = .ok (.getfield 54, 3) := by decide +kernel
theorem dX11_findPulses_180 : decode cX11_findPulses 180 = .ok (.iload 6, 2) := by decide +kernel
theorem dX11_findPulses_182 : decode cX11_findPulses 182 = .ok (.iload_n 1, 1) := by decide +kernel
theorem dX11_findPulses_183 : decode cX11_findPulses 183 = .ok (.iastore, 1) := by decide +kernel
theorem dX11_findPulses_184 : decode cX11_findPulses 184 = .ok (.iload 5, 2) := by decide +kernel
theorem dX11_findPulses_186 : decode cX11_findPulses 186 = .ok (.iload 4, 2) := by decide +kernel
theorem dX11_findPulses_188 : decode cX11_findPulses 188 = .ok (.ifCond .eq 7, 3) := by decide +kernel
theorem dX11_findPulses_191 : decode cX11_findPulses 191 = .ok (.iconst 1, 1) := by decide +kernel
theorem dX11_findPulses_192 : decode cX11_findPulses 192 = .ok (.goto 4, 3) := by decide +kernel
theorem dX11_findPulses_195 : decode cX11_findPulses 195 = .ok (.iconst 0, 1) := by decide +kernel
theorem dX11_findPulses_196 : decode cX11_findPulses 196 = .ok (.iadd, 1) := by decide +kernel
theorem dX11_findPulses_197 : decode cX11_findPulses 197 = .ok (.istore 5, 2) := by decide +kernel
theorem dX11_findPulses_199 : decode cX11_findPulses 199 = .ok (.iinc 6 1, 3) := by decide +kernel
theorem dX11_findPulses_202 : decode cX11_findPulses 202 = .ok (.goto (-186), 3) := by decide +kernel
theorem dX11_findPulses_205 : decode cX11_findPulses 205 = .ok (.iload 5, 2) := by decide +kernel
theorem dX11_findPulses_207 : decode cX11_findPulses 207 = .ok (.ireturn, 1) := by decide +kernel
theorem dX11_findBursts_0 : decode cX11_findBursts 0 = .ok (.iconst 0, 1) := by decide +kernel
theorem dX11_findBursts_1 : decode cX11_findBursts 1 = .ok (.istore_n 1, 1) := by decide +kernel
theorem dX11_findBursts_2 : decode cX11_findBursts 2 = .ok (.iconst 0, 1) := by decide +kernel
theorem dX11_findBursts_3 : decode cX11_findBursts 3 = .ok (.istore_n 2, 1) := by decide +kernel
theorem dX11_findBursts_4 : decode cX11_findBursts 4 = .ok (.iconst 1, 1) := by decide +kernel
theorem dX11_findBursts_5 : decode cX11_findBursts 5 = .ok (.istore_n 3, 1) := by decide +kernel
theorem dX11_findBursts_6 : decode cX11_findBursts 6 = .ok (.iconst 0, 1) := by decide +kernel
theorem dX11_findBursts_7 : decode cX11_findBursts 7 = .ok (.istore 4, 2) := by decide +kernel
theorem dX11_findBursts_9 : decode cX11_findBursts 9 = .ok (.iload 4, 2) := by decide +kernel
theorem dX11_findBursts_11 : decode cX11_findBursts 11 = .ok (.bipush 8, 2) := by decide +kernel
theorem dX11_findBursts_13 : decode cX11_findBursts 13 = .ok (.if_icmp .ge 234, 3) := by decide +kernel
theorem dX11_findBursts_16 : decode cX11_findBursts 16 = .ok (.aload_n 0, 1) := by decide +kernel
theorem dX11_findBursts_17 : decode cX11_findBursts 17 = .ok (.getfield 57, 3) := by decide +kernel
theorem dX11_findBursts_20 : decode cX11_findBursts 20 = .ok (.iload 4, 2) := by decide +kernel
theorem dX11_findBursts_22 : decode cX11_findBursts 22 = .ok (.iconst 0, 1) := by decide +kernel
theorem dX11_findBursts_23 : decode cX11_findBursts 23 = .ok (.iastore, 1) := by decide +kernel
theorem dX11_findBursts_24 : decode cX11_findBursts 24 = .ok (.aload_n 0, 1) := by decide +kernel
theorem dX11_findBursts_25 : decode cX11_findBursts 25 = .ok (.getfield 60, 3) := by decide +kernel
theorem dX11_findBursts_28 : decode cX11_findBursts 28 = .ok (.iload 4, 2) := by decide +kernel
theorem dX11_findBursts_30 : decode cX11_findBursts 30 = .ok (.iconst 0, 1) := by decide +kernel
theorem dX11_findBursts_31 : decode cX11_findBursts 31 = .ok (.iastore, 1) := by decide +kernel
theorem dX11_findBursts_32 : decode cX11_findBursts 32 = .ok (.aload_n 0, 1) := by decide +kernel
theorem dX11_findBursts_33 : decode cX11_findBursts 33 = .ok (.getfield 48, 3) := by decide +kernel
theorem dX11_findBursts_36 : decode cX11_findBursts 36 = .ok (.iload 4, 2) := by decide +kernel
theorem dX11_findBursts_38 : decode cX11_findBursts 38 = .ok (.iaload, 1) := by decide +kernel
theorem dX11_findBursts_39 : decode cX11_findBursts 39 = .ok (.bipush 8, 2) := by decide +kernel
theorem dX11_findBursts_41 : decode cX11_findBursts 41 = .ok (.iadd, 1) := by decide +kernel
theorem dX11_findBursts_42 : decode cX11_findBursts 42 = .ok (.istore 5, 2) := by decide +kernel
theorem dX11_findBursts_44 : decode cX11_findBursts 44 = .ok (.iload 5, 2) := by decide +kernel
theorem dX11_findBursts_46 : decode cX11_findBursts 46 = .ok (.aload_n 0, 1) := by decide +kernel
theorem dX11_findBursts_47 : decode cX11_findBursts 47 = .ok (.getfield 48, 3) := by decide +kernel
theorem dX11_findBursts_50 : decode cX11_findBursts 50 = .ok (.iload 4, 2) := by decide +kernel
theorem dX11_findBursts_52 : decode cX11_findBursts 52 = .ok (.iaload, 1) := by decide +kernel
theorem dX11_findBursts_53 : decode cX11_findBursts 53 = .ok (.bipush 16, 2) := by decide +kernel
theorem dX11_findBursts_55 : decode cX11_findBursts 55 = .ok (.iadd, 1) := by decide +kernel
theorem dX11_findBursts_56 : decode cX11_findBursts 56 = .ok (.if_icmp .ge 73, 3) := by decide +kernel
theorem dX11_findBursts_59 : decode cX11_findBursts 59 = .ok (.aload_n 0, 1) := by decide +kernel
theorem dX11_findBursts_60 : decode cX11_findBursts 60 = .ok (.getfield 57, 3) := by decide +kernel
theorem dX11_findBursts_63 : decode cX11_findBursts 63 = .ok (.iload 4, 2) := by decide +kernel
theorem dX11_findBursts_65 : decode cX11_findBursts 65 = .ok (.dup2, 1) := by decide +kernel
theorem dX11_findBursts_66 : decode cX11_findBursts 66 = .ok (.iaload, 1) := by decide +kernel
theorem dX11_findBursts_67 : decode cX11_findBursts 67 = .ok (.aload_n 0, 1) := by decide +kernel
theorem dX11_findBursts_68 : decode cX11_findBursts 68 = .ok (.iload 4, 2) := by decide +kernel
theorem dX11_findBursts_70 : decode cX11_findBursts 70 = .ok (.iload 5, 2) := by decide +kernel
theorem dX11_findBursts_72 : decode cX11_findBursts 72 = .ok (.invokevirtual 151, 3) := by decide +kernel
theorem dX11_findBursts_75 : decode cX11_findBursts 75 = .ok (.iload 5, 2) := by decide +kernel
theorem dX11_findBursts_77 : decode cX11_findBursts 77 = .ok (.iconst 2, 1) := by decide +kernel
theorem dX11_findBursts_78 : decode cX11_findBursts 78 = .ok (.iload 4, 2) := by decide +kernel
theorem dX11_findBursts_80 : decode cX11_findBursts 80 = .ok (.imul, 1) := by decide +kernel
theorem dX11_findBursts_81 : decode cX11_findBursts 81 = .ok (.iadd, 1) := by decide +kernel
theorem dX11_findBursts_82 : decode cX11_findBursts 82 = .ok (.invokestatic 141, 3) := by decide +kernel
theorem dX11_findBursts_85 : decode cX11_findBursts 85 = .ok (.invokestatic 145, 3) := by decide +kernel
theorem dX11_findBursts_88 : decode cX11_findBursts 88 = .ok (.imul, 1) := by decide +kernel
theorem dX11_findBursts_89 : decode cX11_findBursts 89 = .ok (.iadd, 1) := by decide +kernel
theorem dX11_findBursts_90 : decode cX11_findBursts 90 = .ok (.iastore, 1) := by decide +kernel
theorem dX11_findBursts_91 : decode cX11_findBursts 91 = .ok (.aload_n 0, 1) := by decide +kernel
theorem dX11_findBursts_92 : decode cX11_findBursts 92 = .ok (.getfield 60, 3) := by decide +kernel
theorem dX11_findBursts_95 : decode cX11_findBursts 95 = .ok (.iload 4, 2) := by decide +kernel
theorem dX11_findBursts_97 : decode cX11_findBursts 97 = .ok (.dup2, 1) := by decide +kernel
theorem dX11_findBursts_98 : decode cX11_findBursts 98 = .ok (.iaload, 1) := by decide +kernel
theorem dX11_findBursts_99 : decode cX11_findBursts 99 = .ok (.aload_n 0, 1) := by decide +kernel
theorem dX11_findBursts_100 : decode cX11_findBursts 100 = .ok (.iload 4, 2) := by decide +kernel
theorem dX11_findBursts_102 : decode cX11_findBursts 102 = .ok (.iload 5, 2) := by decide +kernel
theorem dX11_findBursts_104 : decode cX11_findBursts 104 = .ok (.invokevirtual 151, 3) := by decide +kernel
theorem dX11_findBursts_107 : decode cX11_findBursts 107 = .ok (.iload 5, 2) := by decide +kernel
theorem dX11_findBursts_109 : decode cX11_findBursts 109 = .ok (.iconst 2, 1) := by decide +kernel
theorem dX11_findBursts_110 : decode cX11_findBursts 110 = .ok (.iload 4, 2) := by decide +kernel
theorem dX11_findBursts_112 : decode cX11_findBursts 112 = .ok (.imul, 1) := by decide +kernel
theorem dX11_findBursts_113 : decode cX11_findBursts 113 = .ok (.iadd, 1) := by decide +kernel
theorem dX11_findBursts_114 : decode cX11_findBursts 114 = .ok (.invokestatic 141, 3) := by decide +kernel
theorem dX11_findBursts_117 : decode cX11_findBursts 117 = .ok (.invokestatic 148, 3) := by decide +kernel
theorem dX11_findBursts_120 : decode cX11_findBursts 120 = .ok (.imul, 1) := by decide +kernel
theorem dX11_findBursts_121 : decode cX11_findBursts 121 = .ok (.iadd, 1) := by decide +kernel
theorem dX11_findBursts_122 : decode cX11_findBursts 122 = .ok (.iastore, 1) := by decide +kernel
theorem dX11_findBursts_123 : decode cX11_findBursts 123 = .ok (.iinc 5 1, 3) := by decide +kernel
theorem dX11_findBursts_126 : decode cX11_findBursts 126 = .ok (.goto (-82), 3) := by decide +kernel
theorem dX11_findBursts_129 : decode cX11_findBursts 129 = .ok (.aload_n 0, 1) := by decide +kernel
theorem dX11_findBursts_130 : decode cX11_findBursts 130 = .ok (.getfield 63, 3) := by decide +kernel
theorem dX11_findBursts_133 : decode cX11_findBursts 133 = .ok (.iload 4, 2) := by decide +kernel
theorem dX11_findBursts_135 : decode cX11_findBursts 135 = .ok (.aload_n 0, 1) := by decide +kernel
theorem dX11_findBursts_136 : decode cX11_findBursts 136 = .ok (.getfield 57, 3) := by decide +kernel
theorem dX11_findBursts_139 : decode cX11_findBursts 139 = .ok (.iload 4, 2) := by decide +kernel
theorem dX11_findBursts_141 : decode cX11_findBursts 141 = .ok (.iaload, 1) := by decide +kernel
theorem dX11_findBursts_142 : decode cX11_findBursts 142 = .ok (.invokestatic 160, 3) := by decide +kernel
theorem dX11_findBursts_145 : decode cX11_findBursts 145 = .ok (.aload_n 0, 1) := by decide +kernel
theorem dX11_findBursts_146 : decode cX11_findBursts 146 = .ok (.getfield 60, 3) := by decide +kernel
theorem dX11_findBursts_149 : decode cX11_findBursts 149 = .ok (.iload 4, 2) := by decide +kernel
theorem dX11_findBursts_151 : decode cX11_findBursts 151 = .ok (.iaload, 1) := by decide +kernel
theorem dX11_findBursts_152 : decode cX11_findBursts 152 = .ok (.invokestatic 160, 3) := by decide +kernel
theorem dX11_findBursts_155 : decode cX11_findBursts 155 = .ok (.iadd, 1) := by decide +kernel
theorem dX11_findBursts_156 : decode cX11_findBursts 156 = .ok (.iconst 4, 1) := by decide +kernel
theorem dX11_findBursts_157 : decode cX11_findBursts 157 = .ok (.aload_n 0, 1) := by decide +kernel
theorem dX11_findBursts_158 : decode cX11_findBursts 158 = .ok (.getfield 35, 3) := by decide +kernel
theorem dX11_findBursts_161 : decode cX11_findBursts 161 = .ok (.iconst 0, 1) := by decide +kernel
theorem dX11_findBursts_162 : decode cX11_findBursts 162 = .ok (.iaload, 1) := by decide +kernel
theorem dX11_findBursts_163 : decode cX11_findBursts 163 = .ok (.imul, 1) := by decide +kernel
theorem dX11_findBursts_164 : decode cX11_findBursts 164 = .ok (.if_icmp .lt 7, 3) := by decide +kernel
theorem dX11_findBursts_167 : decode cX11_findBursts 167 = .ok (.iconst 1, 1) := by decide +kernel
theorem dX11_findBursts_168 : decode cX11_findBursts 168 = .ok (.goto 4, 3) := by decide +kernel
theorem dX11_findBursts_171 : decode cX11_findBursts 171 = .ok (.iconst 0, 1) := by decide +kernel
theorem dX11_findBursts_172 : decode cX11_findBursts 172 = .ok (.bastore, 1) := by decide +kernel
theorem dX11_findBursts_173 : decode cX11_findBursts 173 = .ok (.aload_n 0, 1) := by decide +kernel
theorem dX11_findBursts_174 : decode cX11_findBursts 174 = .ok (.getfield 63, 3) := by decide +kernel
theorem dX11_findBursts_177 : decode cX11_findBursts 177 = .ok (.iload 4, 2) := by decide +kernel
theorem dX11_findBursts_179 : decode cX11_findBursts 179 = .ok (.baload, 1) := by decide +kernel
theorem dX11_findBursts_180 : decode cX11_findBursts 180 = .ok (.ifCond .eq 9, 3) := by decide +kernel
theorem dX11_findBursts_183 : decode cX11_findBursts 183 = .ok (.iload_n 1, 1) := by decide +kernel
theorem dX11_findBursts_184 : decode cX11_findBursts 184 = .ok (.iconst 1, 1) := by decide +kernel
theorem dX11_findBursts_185 : decode cX11_findBursts 185 = .ok (.iadd, 1) := by decide +kernel
theorem dX11_findBursts_186 : decode cX11_findBursts 186 = .ok (.goto 4, 3) := by decide +kernel
theorem dX11_findBursts_189 : decode cX11_findBursts 189 = .ok (.iconst 0, 1) := by decide +kernel
theorem dX11_findBursts_190 : decode cX11_findBursts 190 = .ok (.istore_n 1, 1) := by decide +kernel
theorem dX11_findBursts_191 : decode cX11_findBursts 191 = .ok (.aload_n 0, 1) := by decide +kernel
theorem dX11_findBursts_192 : decode cX11_findBursts 192 = .ok (.getfield 63, 3) := by decide +kernel
theorem dX11_findBursts_195 : decode cX11_findBursts 195 = .ok (.iload 4, 2) := by decide +kernel
theorem dX11_findBursts_197 : decode cX11_findBursts 197 = .ok (.baload, 1) := by decide +kernel
theorem dX11_findBursts_198 : decode cX11_findBursts 198 = .ok (.ifCond .eq 7, 3) := by decide +kernel
theorem dX11_findBursts_201 : decode cX11_findBursts 201 = .ok (.iconst 0, 1) := by decide +kernel
theorem dX11_findBursts_202 : decode cX11_findBursts 202 = .ok (.goto 6, 3) := by decide +kernel
theorem dX11_findBursts_205 : decode cX11_findBursts 205 = .ok (.iload_n 2, 1) := by decide +kernel
theorem dX11_findBursts_206 : decode cX11_findBursts 206 = .ok (.iconst 1, 1) := by decide +kernel
theorem dX11_findBursts_207 : decode cX11_findBursts 207 = .ok (.iadd, 1) := by decide +kernel
theorem dX11_findBursts_208 : decode cX11_findBursts 208 = .ok (.istore_n 2, 1) := by decide +kernel
theorem dX11_findBursts_209 : decode cX11_findBursts 209 = .ok (.iload_n 2, 1) := by decide +kernel
theorem dX11_findBursts_210 : decode cX11_findBursts 210 = .ok (.iconst 2, 1) := by decide +kernel
theorem dX11_findBursts_211 : decode cX11_findBursts 211 = .ok (.if_icmp .lt 7, 3) := by decide +kernel
theorem dX11_findBursts_214 : decode cX11_findBursts 214 = .ok (.iconst 0, 1) := by decide +kernel
theorem dX11_findBursts_215 : decode cX11_findBursts 215 = .ok (.goto 17, 3) := by decide +kernel
theorem dX11_findBursts_218 : decode cX11_findBursts 218 = .ok (.iload_n 1, 1) := by decide +kernel
theorem dX11_findBursts_219 : decode cX11_findBursts 219 = .ok (.iconst 2, 1) := by decide +kernel
theorem dX11_findBursts_220 : decode cX11_findBursts 220 = .ok (.if_icmp .ge 7, 3) := by decide +kernel
theorem dX11_findBursts_223 : decode cX11_findBursts 223 = .ok (.iload_n 3, 1) := by decide +kernel
theorem dX11_findBursts_224 : decode cX11_findBursts 224 = .ok (.ifCond .eq 7, 3) := by decide +kernel
theorem dX11_findBursts_227 : decode cX11_findBursts 227 = .ok (.iconst 1, 1) := by decide +kernel
theorem dX11_findBursts_228 : decode cX11_findBursts 228 = .ok (.goto 4, 3) := by decide +kernel
theorem dX11_findBursts_231 : decode cX11_findBursts 231 = .ok (.iconst 0, 1) := by decide +kernel
theorem dX11_findBursts_232 : decode cX11_findBursts 232 = .ok (.istore_n 3, 1) := by decide +kernel
theorem dX11_findBursts_233 : decode cX11_findBursts 233 = .ok (.aload_n 0, 1) := by decide +kernel
theorem dX11_findBursts_234 : decode cX11_findBursts 234 = .ok (.getfield 66, 3) := by decide +kernel
theorem dX11_findBursts_237 : decode cX11_findBursts 237 = .ok (.iload 4, 2) := by decide +kernel
theorem dX11_findBursts_239 : decode cX11_findBursts 239 = .ok (.iload_n 3, 1) := by decide +kernel
theorem dX11_findBursts_240 : decode cX11_findBursts 240 = .ok (.bastore, 1) := by decide +kernel
theorem dX11_findBursts_241 : decode cX11_findBursts 241 = .ok (.iinc 4 1, 3) := by decide +kernel
theorem dX11_findBursts_244 : decode cX11_findBursts 244 = .ok (.goto (-235), 3) := by decide +kernel
theorem dX11_findBursts_247 : decode cX11_findBursts 247 = .ok (.aload_n 0, 1) := by decide +kernel
theorem dX11_findBursts_248 : decode cX11_findBursts 248 = .ok (.iconst 0, 1) := by decide +kernel
theorem dX11_findBursts_249 : decode cX11_findBursts 249 = .ok (.putfield 163, 3) := by decide +kernel
theorem dX11_findBursts_252 : decode cX11_findBursts 252 = .ok (.aload_n 0, 1) := by decide +kernel
theorem dX11_findBursts_253 : decode cX11_findBursts 253 = .ok (.iconst 0, 1) := by decide +kernel
theorem dX11_findBursts_254 : decode cX11_findBursts 254 = .ok (.putfield 166, 3) := by decide +kernel
theorem dX11_findBursts_257 : decode cX11_findBursts 257 = .ok (.iconst 1, 1) := by decide +kernel
theorem dX11_findBursts_258 : decode cX11_findBursts 258 = .ok (.istore 4, 2) := by decide +kernel
theorem dX11_findBursts_260 : decode cX11_findBursts 260 = .ok (.iload 4, 2) := by decide +kernel
theorem dX11_findBursts_262 : decode cX11_findBursts 262 = .ok (.bipush 8, 2) := by decide +kernel
theorem dX11_findBursts_264 : decode cX11_findBursts 264 = .ok (.if_icmp .ge 172, 3) := by decide +kernel
theorem dX11_findBursts_267 : decode cX11_findBursts 267 = .ok (.aload_n 0, 1) := by decide +kernel
theorem dX11_findBursts_268 : decode cX11_findBursts 268 = .ok (.getfield 63, 3) := by decide +kernel
theorem dX11_findBursts_271 : decode cX11_findBursts 271 = .ok (.iload 4, 2) := by decide +kernel
theorem dX11_findBursts_273 : decode cX11_findBursts 273 = .ok (.iconst 1, 1) := by decide +kernel
theorem dX11_findBursts_274 : decode cX11_findBursts 274 = .ok (.isub, 1) := by decide +kernel
theorem dX11_findBursts_275 : decode cX11_findBursts 275 = .ok (.baload, 1) := by decide +kernel
theorem dX11_findBursts_276 : decode cX11_findBursts 276 = .ok (.ifCond .eq 154, 3) := by decide +kernel
theorem dX11_findBursts_279 : decode cX11_findBursts 279 = .ok (.aload_n 0, 1) := by decide +kernel
theorem dX11_findBursts_280 : decode cX11_findBursts 280 = .ok (.getfield 63, 3) := by decide +kernel
theorem dX11_findBursts_283 : decode cX11_findBursts 283 = .ok (.iload 4, 2) := by decide +kernel
theorem dX11_findBursts_285 : decode cX11_findBursts 285 = .ok (.baload, 1) := by decide +kernel
theorem dX11_findBursts_286 : decode cX11_findBursts 286 = .ok (.ifCond .eq 144, 3) := by decide +kernel
theorem dX11_findBursts_289 : decode cX11_findBursts 289 = .ok (.aload_n 0, 1) := by decide +kernel
theorem dX11_findBursts_290 : decode cX11_findBursts 290 = .ok (.getfield 60, 3) := by decide +kernel
theorem dX11_findBursts_293 : decode cX11_findBursts 293 = .ok (.iload 4, 2) := by decide +kernel
theorem dX11_findBursts_295 : decode cX11_findBursts 295 = .ok (.iconst 1, 1) := by decide +kernel
theorem dX11_findBursts_296 : decode cX11_findBursts 296 = .ok (.isub, 1) := by decide +kernel
theorem dX11_findBursts_297 : decode cX11_findBursts 297 = .ok (.iaload, 1) := by decide +kernel
theorem dX11_findBursts_298 : decode cX11_findBursts 298 = .ok (.ifCond .ge 13, 3) := by decide +kernel
theorem dX11_findBursts_301 : decode cX11_findBursts 301 = .ok (.aload_n 0, 1) := by decide +kernel
theorem dX11_findBursts_302 : decode cX11_findBursts 302 = .ok (.getfield 60, 3) := by decide +kernel
theorem dX11_findBursts_305 : decode cX11_findBursts 305 = .ok (.iload 4, 2) := by decide +kernel
theorem dX11_findBursts_307 : decode cX11_findBursts 307 = .ok (.iaload, 1) := by decide +kernel
theorem dX11_findBursts_308 : decode cX11_findBursts 308 = .ok (.ifCond .gt 25, 3) := by decide +kernel
theorem dX11_findBursts_311 : decode cX11_findBursts 311 = .ok (.aload_n 0, 1) := by decide +kernel
theorem dX11_findBursts_312 : decode cX11_findBursts 312 = .ok (.getfield 60, 3) := by decide +kernel
theorem dX11_findBursts_315 : decode cX11_findBursts 315 = .ok (.iload 4, 2) := by decide +kernel
theorem dX11_findBursts_317 : decode cX11_findBursts 317 = .ok (.iconst 1, 1) := by decide +kernel
theorem dX11_findBursts_318 : decode cX11_findBursts 318 = .ok (.isub, 1) := by decide +kernel
theorem dX11_findBursts_319 : decode cX11_findBursts 319 = .ok (.iaload, 1) := by decide +kernel
theorem dX11_findBursts_320 : decode cX11_findBursts 320 = .ok (.ifCond .le 17, 3) := by decide +kernel
theorem dX11_findBursts_323 : decode cX11_findBursts 323 = .ok (.aload_n 0, 1) := by decide +kernel
theorem dX11_findBursts_324 : decode cX11_findBursts 324 = .ok (.getfield 60, 3) := by decide +kernel
theorem dX11_findBursts_327 : decode cX11_findBursts 327 = .ok (.iload 4, 2) := by decide +kernel
theorem dX11_findBursts_329 : decode cX11_findBursts 329 = .ok (.iaload, 1) := by decide +kernel
theorem dX11_findBursts_330 : decode cX11_findBursts 330 = .ok (.ifCond .ge 7, 3) := by decide +kernel
theorem dX11_findBursts_333 : decode cX11_findBursts 333 = .ok (.iconst 1, 1) := by decide +kernel
theorem dX11_findBursts_334 : decode cX11_findBursts 334 = .ok (.goto 4, 3) := by decide +kernel
theorem dX11_findBursts_337 : decode cX11_findBursts 337 = .ok (.iconst 0, 1) := by decide +kernel
theorem dX11_findBursts_338 : decode cX11_findBursts 338 = .ok (.istore 5, 2) := by decide +kernel
theorem dX11_findBursts_340 : decode cX11_findBursts 340 = .ok (.iload 5, 2) := by decide +kernel
theorem dX11_findBursts_342 : decode cX11_findBursts 342 = .ok (.ifCond .eq 47, 3) := by decide +kernel
theorem dX11_findBursts_345 : decode cX11_findBursts 345 = .ok (.aload_n 0, 1) := by decide +kernel
theorem dX11_findBursts_346 : decode cX11_findBursts 346 = .ok (.getfield 60, 3) := by decide +kernel
theorem dX11_findBursts_349 : decode cX11_findBursts 349 = .ok (.iload 4, 2) := by decide +kernel
theorem dX11_findBursts_351 : decode cX11_findBursts 351 = .ok (.iconst 1, 1) := by decide +kernel
theorem dX11_findBursts_352 : decode cX11_findBursts 352 = .ok (.isub, 1) := by decide +kernel
theorem dX11_findBursts_353 : decode cX11_findBursts 353 = .ok (.iaload, 1) := by decide +kernel
theorem dX11_findBursts_354 : decode cX11_findBursts 354 = .ok (.invokestatic 160, 3) := by decide +kernel
theorem dX11_findBursts_357 : decode cX11_findBursts 357 = .ok (.aload_n 0, 1) := by decide +kernel
theorem dX11_findBursts_358 : decode cX11_findBursts 358 = .ok (.getfield 35, 3) := by decide +kernel
theorem dX11_findBursts_361 : decode cX11_findBursts 361 = .ok (.iconst 0, 1) := by decide +kernel
theorem dX11_findBursts_362 : decode cX11_findBursts 362 = .ok (.iaload, 1) := by decide +kernel
theorem dX11_findBursts_363 : decode cX11_findBursts 363 = .ok (.if_icmp .lt 26, 3) := by decide +kernel
theorem dX11_findBursts_366 : decode cX11_findBursts 366 = .ok (.aload_n 0, 1) := by decide +kernel
theorem dX11_findBursts_367 : decode cX11_findBursts 367 = .ok (.getfield 60, 3) := by decide +kernel
theorem dX11_findBursts_370 : decode cX11_findBursts 370 = .ok (.iload 4, 2) := by decide +kernel
theorem dX11_findBursts_372 : decode cX11_findBursts 372 = .ok (.iaload, 1) := by decide +kernel
theorem dX11_findBursts_373 : decode cX11_findBursts 373 = .ok (.invokestatic 160, 3) := by decide +kernel
theorem dX11_findBursts_376 : decode cX11_findBursts 376 = .ok (.aload_n 0, 1) := by decide +kernel
theorem dX11_findBursts_377 : decode cX11_findBursts 377 = .ok (.getfield 35, 3) := by decide +kernel
theorem dX11_findBursts_380 : decode cX11_findBursts 380 = .ok (.iconst 0, 1) := by decide +kernel
theorem dX11_findBursts_381 : decode cX11_findBursts 381 = .ok (.iaload, 1) := by decide +kernel
theorem dX11_findBursts_382 : decode cX11_findBursts 382 = .ok (.if_icmp .lt 7, 3) := by decide +kernel
theorem dX11_findBursts_385 : decode cX11_findBursts 385 = .ok (.iconst 1, 1) := by decide +kernel
theorem dX11_findBursts_386 : decode cX11_findBursts 386 = .ok (.goto 4, 3) := by decide +kernel
theorem dX11_findBursts_389 : decode cX11_findBursts 389 = .ok (.iconst 0, 1) := by decide +kernel
theorem dX11_findBursts_390 : decode cX11_findBursts 390 = .ok (.istore 6, 2) := by decide +kernel
theorem dX11_findBursts_392 : decode cX11_findBursts 392 = .ok (.aload_n 0, 1) := by decide +kernel
theorem dX11_findBursts_393 : decode cX11_findBursts 393 = .ok (.dup, 1) := by decide +kernel
theorem dX11_findBursts_394 : decode cX11_findBursts 394 = .ok (.getfield 163, 3) := by decide +kernel
theorem dX11_findBursts_397 : decode cX11_findBursts 397 = .ok (.iload 6, 2) := by decide +kernel
theorem dX11_findBursts_399 : decode cX11_findBursts 399 = .ok (.ifCond .eq 7, 3) := by decide +kernel
theorem dX11_findBursts_402 : decode cX11_findBursts 402 = .ok (.iconst 1, 1) := by decide +kernel
theorem dX11_findBursts_403 : decode cX11_findBursts 403 = .ok (.goto 4, 3) := by decide +kernel
theorem dX11_findBursts_406 : decode cX11_findBursts 406 = .ok (.iconst 0, 1) := by decide +kernel
theorem dX11_findBursts_407 : decode cX11_findBursts 407 = .ok (.iadd, 1) := by decide +kernel
theorem dX11_findBursts_408 : decode cX11_findBursts 408 = .ok (.putfield 163, 3) := by decide +kernel
theorem dX11_findBursts_411 : decode cX11_findBursts 411 = .ok (.aload_n 0, 1) := by decide +kernel
theorem dX11_findBursts_412 : decode cX11_findBursts 412 = .ok (.dup, 1) := by decide +kernel
theorem dX11_findBursts_413 : decode cX11_findBursts 413 = .ok (.getfield 166, 3) := by decide +kernel
theorem dX11_findBursts_416 : decode cX11_findBursts 416 = .ok (.iload 6, 2) := by decide +kernel
theorem dX11_findBursts_418 : decode cX11_findBursts 418 = .ok (.ifCond .eq 7, 3) := by decide +kernel
theorem dX11_findBursts_421 : decode cX11_findBursts 421 = .ok (.iconst 0, 1) := by decide +kernel
theorem dX11_findBursts_422 : decode cX11_findBursts 422 = .ok (.goto 4, 3) := by decide +kernel
theorem dX11_findBursts_425 : decode cX11_findBursts 425 = .ok (.iconst 1, 1) := by decide +kernel
theorem dX11_findBursts_426 : decode cX11_findBursts 426 = .ok (.iadd, 1) := by decide +kernel
theorem dX11_findBursts_427 : decode cX11_findBursts 427 = .ok (.putfield 166, 3) := by decide +kernel
theorem dX11_findBursts_430 : decode cX11_findBursts 430 = .ok (.iinc 4 1, 3) := by decide +kernel
theorem dX11_findBursts_433 : decode cX11_findBursts 433 = .ok (.goto (-173), 3) := by decide +kernel
theorem dX11_findBursts_436 : decode cX11_findBursts 436 = .ok (.return_, 1) := by decide +kernel
theorem dX11_guessed_0 : decode cX11_guessed 0 = .ok (.aload_n 0, 1) := by decide +kernel
theorem dX11_guessed_1 : decode cX11_guessed 1 = .ok (.getfield 163, 3) := by decide +kernel
theorem dX11_guessed_4 : decode cX11_guessed 4 = .ok (.aload_n 0, 1) := by decide +kernel
theorem dX11_guessed_5 : decode cX11_guessed 5 = .ok (.getfield 166, 3) := by decide +kernel
theorem dX11_guessed_8 : decode cX11_guessed 8 = .ok (.if_icmp .le 7, 3) := by decide +kernel
theorem dX11_guessed_11 : decode cX11_guessed 11 = .ok (.iconst 1, 1) := by decide +kernel
theorem dX11_guessed_12 : decode cX11_guessed 12 = .ok (.goto 4, 3) := by decide +kernel
theorem dX11_guessed_15 : decode cX11_guessed 15 = .ok (.iconst 0, 1) := by decide +kernel
theorem dX11_guessed_16 : decode cX11_guessed 16 = .ok (.ireturn, 1) := by decide +kernel
theorem dX11_findTurns_0 : decode cX11_findTurns 0 = .ok (.fconst 0, 1) := by decide +kernel
theorem dX11_findTurns_1 : decode cX11_findTurns 1 = .ok (.fstore_n 2, 1) := by decide +kernel
theorem dX11_findTurns_2 : decode cX11_findTurns 2 = .ok (.fconst 0, 1) := by decide +kernel
theorem dX11_findTurns_3 : decode cX11_findTurns 3 = .ok (.fstore_n 3, 1) := by decide +kernel
theorem dX11_findTurns_4 : decode cX11_findTurns 4 = .ok (.iconst 1, 1) := by decide +kernel
theorem dX11_findTurns_5 : decode cX11_findTurns 5 = .ok (.istore 4, 2) := by decide +kernel
theorem dX11_findTurns_7 : decode cX11_findTurns 7 = .ok (.iconst 0, 1) := by decide +kernel
theorem dX11_findTurns_8 : decode cX11_findTurns 8 = .ok (.istore 5, 2) := by decide +kernel
theorem dX11_findTurns_10 : decode cX11_findTurns 10 = .ok (.iload 5, 2) := by decide +kernel
theorem dX11_findTurns_12 : decode cX11_findTurns 12 = .ok (.bipush 8, 2) := by decide +kernel
theorem dX11_findTurns_14 : decode cX11_findTurns 14 = .ok (.if_icmp .ge 156, 3) := by decide +kernel
theorem dX11_findTurns_17 : decode cX11_findTurns 17 = .ok (.aload_n 0, 1) := by decide +kernel
theorem dX11_findTurns_18 : decode cX11_findTurns 18 = .ok (.getfield 63, 3) := by decide +kernel
theorem dX11_findTurns_21 : decode cX11_findTurns 21 = .ok (.iload 5, 2) := by decide +kernel
theorem dX11_findTurns_23 : decode cX11_findTurns 23 = .ok (.baload, 1) := by decide +kernel
theorem dX11_findTurns_24 : decode cX11_findTurns 24 = .ok (.ifCond .eq 124, 3) := by decide +kernel
theorem dX11_findTurns_27 : decode cX11_findTurns 27 = .ok (.aload_n 0, 1) := by decide +kernel
theorem dX11_findTurns_28 : decode cX11_findTurns 28 = .ok (.getfield 57, 3) := by decide +kernel
theorem dX11_findTurns_31 : decode cX11_findTurns 31 = .ok (.iload 5, 2) := by decide +kernel
theorem dX11_findTurns_33 : decode cX11_findTurns 33 = .ok (.iaload, 1) := by decide +kernel
theorem dX11_findTurns_34 : decode cX11_findTurns 34 = .ok (.ineg, 1) := by decide +kernel
theorem dX11_findTurns_35 : decode cX11_findTurns 35 = .ok (.i2f, 1) := by decide +kernel
theorem dX11_findTurns_36 : decode cX11_findTurns 36 = .ok (.fstore 6, 2) := by decide +kernel
theorem dX11_findTurns_38 : decode cX11_findTurns 38 = .ok (.aload_n 0, 1) := by decide +kernel
theorem dX11_findTurns_39 : decode cX11_findTurns 39 = .ok (.getfield 60, 3) := by decide +kernel
theorem dX11_findTurns_42 : decode cX11_findTurns 42 = .ok (.iload 5, 2) := by decide +kernel
theorem dX11_findTurns_44 : decode cX11_findTurns 44 = .ok (.iaload, 1) := by decide +kernel
theorem dX11_findTurns_45 : decode cX11_findTurns 45 = .ok (.ineg, 1) := by decide +kernel
theorem dX11_findTurns_46 : decode cX11_findTurns 46 = .ok (.i2f, 1) := by decide +kernel
theorem dX11_findTurns_47 : decode cX11_findTurns 47 = .ok (.fstore 7, 2) := by decide +kernel
theorem dX11_findTurns_49 : decode cX11_findTurns 49 = .ok (.iload_n 1, 1) := by decide +kernel
theorem dX11_findTurns_50 : decode cX11_findTurns 50 = .ok (.iconst 1, 1) := by decide +kernel
theorem dX11_findTurns_51 : decode cX11_findTurns 51 = .ok (.if_icmp .ne 54, 3) := by decide +kernel
theorem dX11_findTurns_54 : decode cX11_findTurns 54 = .ok (.iload 5, 2) := by decide +kernel
theorem dX11_findTurns_56 : decode cX11_findTurns 56 = .ok (.ifCond .le 49, 3) := by decide +kernel
theorem dX11_findTurns_59 : decode cX11_findTurns 59 = .ok (.aload_n 0, 1) := by decide +kernel
theorem dX11_findTurns_60 : decode cX11_findTurns 60 = .ok (.getfield 57, 3) := by decide +kernel
theorem dX11_findTurns_63 : decode cX11_findTurns 63 = .ok (.iload 5, 2) := by decide +kernel
theorem dX11_findTurns_65 : decode cX11_findTurns 65 = .ok (.iaload, 1) := by decide +kernel
theorem dX11_findTurns_66 : decode cX11_findTurns 66 = .ok (.aload_n 0, 1) := by decide +kernel
theorem dX11_findTurns_67 : decode cX11_findTurns 67 = .ok (.getfield 57, 3) := by decide +kernel
theorem dX11_findTurns_70 : decode cX11_findTurns 70 = .ok (.iload 5, 2) := by decide +kernel
theorem dX11_findTurns_72 : decode cX11_findTurns 72 = .ok (.iconst 1, 1) := by decide +kernel
theorem dX11_findTurns_73 : decode cX11_findTurns 73 = .ok (.isub, 1) := by decide +kernel
theorem dX11_findTurns_74 : decode cX11_findTurns 74 = .ok (.iaload, 1) := by decide +kernel
theorem dX11_findTurns_75 : decode cX11_findTurns 75 = .ok (.iadd, 1) := by decide +kernel
theorem dX11_findTurns_76 : decode cX11_findTurns 76 = .ok (.ineg, 1) := by decide +kernel
theorem dX11_findTurns_77 : decode cX11_findTurns 77 = .ok (.i2f, 1) := by decide +kernel
theorem dX11_findTurns_78 : decode cX11_findTurns 78 = .ok (.fconst 2, 1) := by decide +kernel
theorem dX11_findTurns_79 : decode cX11_findTurns 79 = .ok (.fdiv, 1) := by decide +kernel
theorem dX11_findTurns_80 : decode cX11_findTurns 80 = .ok (.fstore 6, 2) := by decide +kernel
theorem dX11_findTurns_82 : decode cX11_findTurns 82 = .ok (.aload_n 0, 1) := by decide +kernel
theorem dX11_findTurns_83 : decode cX11_findTurns 83 = .ok (.getfield 60, 3) := by decide +kernel
theorem dX11_findTurns_86 : decode cX11_findTurns 86 = .ok (.iload 5, 2) := by decide +kernel
theorem dX11_findTurns_88 : decode cX11_findTurns 88 = .ok (.iaload, 1) := by decide +kernel
theorem dX11_findTurns_89 : decode cX11_findTurns 89 = .ok (.aload_n 0, 1) := by decide +kernel
theorem dX11_findTurns_90 : decode cX11_findTurns 90 = .ok (.getfield 60, 3) := by decide +kernel
theorem dX11_findTurns_93 : decode cX11_findTurns 93 = .ok (.iload 5, 2) := by decide +kernel
theorem dX11_findTurns_95 : decode cX11_findTurns 95 = .ok (.iconst 1, 1) := by decide +kernel
theorem dX11_findTurns_96 : decode cX11_findTurns 96 = .ok (.isub, 1) := by decide +kernel
theorem dX11_findTurns_97 : decode cX11_findTurns 97 = .ok (.iaload, 1) := by decide +kernel
theorem dX11_findTurns_98 : decode cX11_findTurns 98 = .ok (.iadd, 1) := by decide +kernel
theorem dX11_findTurns_99 : decode cX11_findTurns 99 = .ok (.ineg, 1) := by decide +kernel
theorem dX11_findTurns_100 : decode cX11_findTurns 100 = .ok (.i2f, 1) := by decide +kernel
theorem dX11_findTurns_101 : decode cX11_findTurns 101 = .ok (.fconst 2, 1) := by decide +kernel
theorem dX11_findTurns_102 : decode cX11_findTurns 102 = .ok (.fdiv, 1) := by decide +kernel
theorem dX11_findTurns_103 : decode cX11_findTurns 103 = .ok (.fstore 7, 2) := by decide +kernel
theorem dX11_findTurns_105 : decode cX11_findTurns 105 = .ok (.iload 4, 2) := by decide +kernel
theorem dX11_findTurns_107 : decode cX11_findTurns 107 = .ok (.ifCond .eq 8, 3) := by decide +kernel
theorem dX11_findTurns_110 : decode cX11_findTurns 110 = .ok (.fload 6, 2) := by decide +kernel
theorem dX11_findTurns_112 : decode cX11_findTurns 112 = .ok (.goto 12, 3) := by decide +kernel
theorem dX11_findTurns_115 : decode cX11_findTurns 115 = .ok (.fload_n 2, 1) := by decide +kernel
theorem dX11_findTurns_116 : decode cX11_findTurns 116 = .ok (.fload 6, 2) := by decide +kernel
theorem dX11_findTurns_118 : decode cX11_findTurns 118 = .ok (.fload_n 2, 1) := by decide +kernel
theorem dX11_findTurns_119 : decode cX11_findTurns 119 = .ok (.fsub, 1) := by decide +kernel
theorem dX11_findTurns_120 : decode cX11_findTurns 120 = .ok (.ldc 169, 2) := by decide +kernel
theorem dX11_findTurns_122 : decode cX11_findTurns 122 = .ok (.fmul, 1) := by decide +kernel
theorem dX11_findTurns_123 : decode cX11_findTurns 123 = .ok (.fadd, 1) := by decide +kernel
theorem dX11_findTurns_124 : decode cX11_findTurns 124 = .ok (.fstore_n 2, 1) := by decide +kernel
theorem dX11_findTurns_125 : decode cX11_findTurns 125 = .ok (.iload 4, 2) := by decide +kernel
theorem dX11_findTurns_127 : decode cX11_findTurns 127 = .ok (.ifCond .eq 8, 3) := by decide +kernel
theorem dX11_findTurns_130 : decode cX11_findTurns 130 = .ok (.fload 7, 2) := by decide +kernel
theorem dX11_findTurns_132 : decode cX11_findTurns 132 = .ok (.goto 12, 3) := by decide +kernel
theorem dX11_findTurns_135 : decode cX11_findTurns 135 = .ok (.fload_n 3, 1) := by decide +kernel
theorem dX11_findTurns_136 : decode cX11_findTurns 136 = .ok (.fload 7, 2) := by decide +kernel
theorem dX11_findTurns_138 : decode cX11_findTurns 138 = .ok (.fload_n 3, 1) := by decide +kernel
theorem dX11_findTurns_139 : decode cX11_findTurns 139 = .ok (.fsub, 1) := by decide +kernel
theorem dX11_findTurns_140 : decode cX11_findTurns 140 = .ok (.ldc 169, 2) := by decide +kernel
theorem dX11_findTurns_142 : decode cX11_findTurns 142 = .ok (.fmul, 1) := by decide +kernel
theorem dX11_findTurns_143 : decode cX11_findTurns 143 = .ok (.fadd, 1) := by decide +kernel
theorem dX11_findTurns_144 : decode cX11_findTurns 144 = .ok (.fstore_n 3, 1) := by decide +kernel
theorem dX11_findTurns_145 : decode cX11_findTurns 145 = .ok (.iconst 0, 1) := by decide +kernel
theorem dX11_findTurns_146 : decode cX11_findTurns 146 = .ok (.istore 4, 2) := by decide +kernel
theorem dX11_findTurns_148 : decode cX11_findTurns 148 = .ok (.aload_n 0, 1) := by decide +kernel
theorem dX11_findTurns_149 : decode cX11_findTurns 149 = .ok (.getfield 69, 3) := by decide +kernel
theorem dX11_findTurns_152 : decode cX11_findTurns 152 = .ok (.iload 5, 2) := by decide +kernel
theorem dX11_findTurns_154 : decode cX11_findTurns 154 = .ok (.fload_n 2, 1) := by decide +kernel
theorem dX11_findTurns_155 : decode cX11_findTurns 155 = .ok (.fastore, 1) := by decide +kernel
theorem dX11_findTurns_156 : decode cX11_findTurns 156 = .ok (.aload_n 0, 1) := by decide +kernel
theorem dX11_findTurns_157 : decode cX11_findTurns 157 = .ok (.getfield 73, 3) := by decide +kernel
theorem dX11_findTurns_160 : decode cX11_findTurns 160 = .ok (.iload 5, 2) := by decide +kernel
theorem dX11_findTurns_162 : decode cX11_findTurns 162 = .ok (.fload_n 3, 1) := by decide +kernel
theorem dX11_findTurns_163 : decode cX11_findTurns 163 = .ok (.fastore, 1) := by decide +kernel
theorem dX11_findTurns_164 : decode cX11_findTurns 164 = .ok (.iinc 5 1, 3) := by decide +kernel
theorem dX11_findTurns_167 : decode cX11_findTurns 167 = .ok (.goto (-157), 3) := by decide +kernel
theorem dX11_findTurns_170 : decode cX11_findTurns 170 = .ok (.return_, 1) := by decide +kernel
theorem dX11_from_0 : decode cX11_from 0 = .ok (.aload_n 0, 1) := by decide +kernel
theorem dX11_from_1 : decode cX11_from 1 = .ok (.iload_n 1, 1) := by decide +kernel
theorem dX11_from_2 : decode cX11_from 2 = .ok (.aload_n 0, 1) := by decide +kernel
theorem dX11_from_3 : decode cX11_from 3 = .ok (.getfield 48, 3) := by decide +kernel
theorem dX11_from_6 : decode cX11_from 6 = .ok (.iload_n 1, 1) := by decide +kernel
theorem dX11_from_7 : decode cX11_from 7 = .ok (.iaload, 1) := by decide +kernel
theorem dX11_from_8 : decode cX11_from 8 = .ok (.iload_n 2, 1) := by decide +kernel
theorem dX11_from_9 : decode cX11_from 9 = .ok (.iadd, 1) := by decide +kernel
theorem dX11_from_10 : decode cX11_from 10 = .ok (.invokevirtual 151, 3) := by decide +kernel
theorem dX11_from_13 : decode cX11_from 13 = .ok (.ireturn, 1) := by decide +kernel
theorem dX11_sumOf_0 : decode cX11_sumOf 0 = .ok (.iconst 0, 1) := by decide +kernel
theorem dX11_sumOf_1 : decode cX11_sumOf 1 = .ok (.istore_n 3, 1) := by decide +kernel
theorem dX11_sumOf_2 : decode cX11_sumOf 2 = .ok (.iconst 0, 1) := by decide +kernel
theorem dX11_sumOf_3 : decode cX11_sumOf 3 = .ok (.istore 4, 2) := by decide +kernel
theorem dX11_sumOf_5 : decode cX11_sumOf 5 = .ok (.iload 4, 2) := by decide +kernel
theorem dX11_sumOf_7 : decode cX11_sumOf 7 = .ok (.bipush 8, 2) := by decide +kernel
theorem dX11_sumOf_9 : decode cX11_sumOf 9 = .ok (.if_icmp .ge 27, 3) := by decide +kernel
theorem dX11_sumOf_12 : decode cX11_sumOf 12 = .ok (.iload_n 3, 1) := by decide +kernel
theorem dX11_sumOf_13 : decode cX11_sumOf 13 = .ok (.aload_n 0, 1) := by decide +kernel
theorem dX11_sumOf_14 : decode cX11_sumOf 14 = .ok (.iload_n 1, 1) := by decide +kernel
theorem dX11_sumOf_15 : decode cX11_sumOf 15 = .ok (.bipush 16, 2) := by decide +kernel
theorem dX11_sumOf_17 : decode cX11_sumOf 17 = .ok (.bipush 8, 2) := by decide +kernel
theorem dX11_sumOf_19 : decode cX11_sumOf 19 = .ok (.iload_n 2, 1) := by decide +kernel
theorem dX11_sumOf_20 : decode cX11_sumOf 20 = .ok (.imul, 1) := by decide +kernel
theorem dX11_sumOf_21 : decode cX11_sumOf 21 = .ok (.iadd, 1) := by decide +kernel
theorem dX11_sumOf_22 : decode cX11_sumOf 22 = .ok (.iload 4, 2) := by decide +kernel
theorem dX11_sumOf_24 : decode cX11_sumOf 24 = .ok (.iadd, 1) := by decide +kernel
theorem dX11_sumOf_25 : decode cX11_sumOf 25 = .ok (.invokevirtual 170, 3) := by decide +kernel
theorem dX11_sumOf_28 : decode cX11_sumOf 28 = .ok (.iadd, 1) := by decide +kernel
theorem dX11_sumOf_29 : decode cX11_sumOf 29 = .ok (.istore_n 3, 1) := by decide +kernel
theorem dX11_sumOf_30 : decode cX11_sumOf 30 = .ok (.iinc 4 1, 3) := by decide +kernel
theorem dX11_sumOf_33 : decode cX11_sumOf 33 = .ok (.goto (-28), 3) := by decide +kernel
theorem dX11_sumOf_36 : decode cX11_sumOf 36 = .ok (.iload_n 3, 1) := by decide +kernel
theorem dX11_sumOf_37 : decode cX11_sumOf 37 = .ok (.ireturn, 1) := by decide +kernel
theorem dX11_isNear_0 : decode cX11_isNear 0 = .ok (.iload_n 2, 1) := by decide +kernel
theorem dX11_isNear_1 : decode cX11_isNear 1 = .ok (.iconst 0, 1) := by decide +kernel
theorem dX11_isNear_2 : decode cX11_isNear 2 = .ok (.bipush 7, 2) := by decide +kernel
theorem dX11_isNear_4 : decode cX11_isNear 4 = .ok (.invokestatic 103, 3) := by decide +kernel
theorem dX11_isNear_7 : decode cX11_isNear 7 = .ok (.ifCond .eq 35, 3) := by decide +kernel
theorem dX11_isNear_10 : decode cX11_isNear 10 = .ok (.aload_n 0, 1) := by decide +kernel
theorem dX11_isNear_11 : decode cX11_isNear 11 = .ok (.iload_n 2, 1) := by decide +kernel
theorem dX11_isNear_12 : decode cX11_isNear 12 = .ok (.iload_n 3, 1) := by decide +kernel
theorem dX11_isNear_13 : decode cX11_isNear 13 = .ok (.invokevirtual 173, 3) := by decide +kernel
theorem dX11_isNear_16 : decode cX11_isNear 16 = .ok (.aload_n 0, 1) := by decide +kernel
theorem dX11_isNear_17 : decode cX11_isNear 17 = .ok (.iload_n 1, 1) := by decide +kernel
theorem dX11_isNear_18 : decode cX11_isNear 18 = .ok (.iload_n 3, 1) := by decide +kernel
theorem dX11_isNear_19 : decode cX11_isNear 19 = .ok (.invokevirtual 173, 3) := by decide +kernel
theorem dX11_isNear_22 : decode cX11_isNear 22 = .ok (.isub, 1) := by decide +kernel
theorem dX11_isNear_23 : decode cX11_isNear 23 = .ok (.invokestatic 160, 3) := by decide +kernel
theorem dX11_isNear_26 : decode cX11_isNear 26 = .ok (.bipush 8, 2) := by decide +kernel
theorem dX11_isNear_28 : decode cX11_isNear 28 = .ok (.aload_n 0, 1) := by decide +kernel
theorem dX11_isNear_29 : decode cX11_isNear 29 = .ok (.getfield 35, 3) := by decide +kernel
theorem dX11_isNear_32 : decode cX11_isNear 32 = .ok (.iconst 1, 1) := by decide +kernel
theorem dX11_isNear_33 : decode cX11_isNear 33 = .ok (.iaload, 1) := by decide +kernel
theorem dX11_isNear_34 : decode cX11_isNear 34 = .ok (.imul, 1) := by decide +kernel
theorem dX11_isNear_35 : decode cX11_isNear 35 = .ok (.if_icmp .gt 7, 3) := by decide +kernel
theorem dX11_isNear_38 : decode cX11_isNear 38 = .ok (.iconst 1, 1) := by decide +kernel
theorem dX11_isNear_39 : decode cX11_isNear 39 = .ok (.goto 4, 3) := by decide +kernel
theorem dX11_isNear_42 : decode cX11_isNear 42 = .ok (.iconst 0, 1) := by decide +kernel
theorem dX11_isNear_43 : decode cX11_isNear 43 = .ok (.ireturn, 1) := by decide +kernel
theorem dX11_way_0 : decode cX11_way 0 = .ok (.aload_n 0, 1) := by decide +kernel
theorem dX11_way_1 : decode cX11_way 1 = .ok (.getfield 35, 3) := by decide +kernel
theorem dX11_way_4 : decode cX11_way 4 = .ok (.iconst 2, 1) := by decide +kernel
theorem dX11_way_5 : decode cX11_way 5 = .ok (.iaload, 1) := by decide +kernel
theorem dX11_way_6 : decode cX11_way 6 = .ok (.istore 4, 2) := by decide +kernel
theorem dX11_way_8 : decode cX11_way 8 = .ok (.iload_n 1, 1) := by decide +kernel
theorem dX11_way_9 : decode cX11_way 9 = .ok (.ifCond .le 7, 3) := by decide +kernel
theorem dX11_way_12 : decode cX11_way 12 = .ok (.iconst 1, 1) := by decide +kernel
theorem dX11_way_13 : decode cX11_way 13 = .ok (.goto 4, 3) := by decide +kernel
theorem dX11_way_16 : decode cX11_way 16 = .ok (.iconst 0, 1) := by decide +kernel
theorem dX11_way_17 : decode cX11_way 17 = .ok (.istore 5, 2) := by decide +kernel
theorem dX11_way_19 : decode cX11_way 19 = .ok (.iload_n 1, 1) := by decide +kernel
theorem dX11_way_20 : decode cX11_way 20 = .ok (.bipush 7, 2) := by decide +kernel
theorem dX11_way_22 : decode cX11_way 22 = .ok (.if_icmp .ge 7, 3) := by decide +kernel
theorem dX11_way_25 : decode cX11_way 25 = .ok (.iconst 1, 1) := by decide +kernel
theorem dX11_way_26 : decode cX11_way 26 = .ok (.goto 4, 3) := by decide +kernel
theorem dX11_way_29 : decode cX11_way 29 = .ok (.iconst 0, 1) := by decide +kernel
theorem dX11_way_30 : decode cX11_way 30 = .ok (.istore 6, 2) := by decide +kernel
theorem dX11_way_32 : decode cX11_way 32 = .ok (.iload_n 3, 1) := by decide +kernel
theorem dX11_way_33 : decode cX11_way 33 = .ok (.iconst 1, 1) := by decide +kernel
theorem dX11_way_34 : decode cX11_way 34 = .ok (.if_icmp .eq 8, 3) := by decide +kernel
theorem dX11_way_37 : decode cX11_way 37 = .ok (.iload 4, 2) := by decide +kernel
theorem dX11_way_39 : decode cX11_way 39 = .ok (.ifCond .ne 5, 3) := by decide +kernel
theorem dX11_way_42 : decode cX11_way 42 = .ok (.iconst 0, 1) := by decide +kernel
theorem dX11_way_43 : decode cX11_way 43 = .ok (.ireturn, 1) := by decide +kernel
theorem dX11_way_44 : decode cX11_way 44 = .ok (.iload 4, 2) := by decide +kernel
theorem dX11_way_46 : decode cX11_way 46 = .ok (.iconst 1, 1) := by decide +kernel
theorem dX11_way_47 : decode cX11_way 47 = .ok (.if_icmp .ne 14, 3) := by decide +kernel
theorem dX11_way_50 : decode cX11_way 50 = .ok (.iload 5, 2) := by decide +kernel
theorem dX11_way_52 : decode cX11_way 52 = .ok (.ifCond .eq 7, 3) := by decide +kernel
theorem dX11_way_55 : decode cX11_way 55 = .ok (.iconst 1, 1) := by decide +kernel
theorem dX11_way_56 : decode cX11_way 56 = .ok (.goto 4, 3) := by decide +kernel
theorem dX11_way_59 : decode cX11_way 59 = .ok (.iconst 2, 1) := by decide +kernel
theorem dX11_way_60 : decode cX11_way 60 = .ok (.ireturn, 1) := by decide +kernel
theorem dX11_way_61 : decode cX11_way 61 = .ok (.iload 4, 2) := by decide +kernel
theorem dX11_way_63 : decode cX11_way 63 = .ok (.iconst 3, 1) := by decide +kernel
theorem dX11_way_64 : decode cX11_way 64 = .ok (.if_icmp .ne 25, 3) := by decide +kernel
theorem dX11_way_67 : decode cX11_way 67 = .ok (.aload_n 0, 1) := by decide +kernel
theorem dX11_way_68 : decode cX11_way 68 = .ok (.iload_n 1, 1) := by decide +kernel
theorem dX11_way_69 : decode cX11_way 69 = .ok (.iload_n 1, 1) := by decide +kernel
theorem dX11_way_70 : decode cX11_way 70 = .ok (.iconst 1, 1) := by decide +kernel
theorem dX11_way_71 : decode cX11_way 71 = .ok (.isub, 1) := by decide +kernel
theorem dX11_way_72 : decode cX11_way 72 = .ok (.iload_n 2, 1) := by decide +kernel
theorem dX11_way_73 : decode cX11_way 73 = .ok (.invokevirtual 176, 3) := by decide +kernel
theorem dX11_way_76 : decode cX11_way 76 = .ok (.istore 5, 2) := by decide +kernel
theorem dX11_way_78 : decode cX11_way 78 = .ok (.aload_n 0, 1) := by decide +kernel
theorem dX11_way_79 : decode cX11_way 79 = .ok (.iload_n 1, 1) := by decide +kernel
theorem dX11_way_80 : decode cX11_way 80 = .ok (.iload_n 1, 1) := by decide +kernel
theorem dX11_way_81 : decode cX11_way 81 = .ok (.iconst 1, 1) := by decide +kernel
theorem dX11_way_82 : decode cX11_way 82 = .ok (.iadd, 1) := by decide +kernel
theorem dX11_way_83 : decode cX11_way 83 = .ok (.iload_n 2, 1) := by decide +kernel
theorem dX11_way_84 : decode cX11_way 84 = .ok (.invokevirtual 176, 3) := by decide +kernel
theorem dX11_way_87 : decode cX11_way 87 = .ok (.istore 6, 2) := by decide +kernel
theorem dX11_way_89 : decode cX11_way 89 = .ok (.iload 5, 2) := by decide +kernel
theorem dX11_way_91 : decode cX11_way 91 = .ok (.ifCond .eq 7, 3) := by decide +kernel
theorem dX11_way_94 : decode cX11_way 94 = .ok (.iconst 1, 1) := by decide +kernel
theorem dX11_way_95 : decode cX11_way 95 = .ok (.goto 4, 3) := by decide +kernel
theorem dX11_way_98 : decode cX11_way 98 = .ok (.iconst 0, 1) := by decide +kernel
theorem dX11_way_99 : decode cX11_way 99 = .ok (.iload 6, 2) := by decide +kernel
theorem dX11_way_101 : decode cX11_way 101 = .ok (.ifCond .eq 7, 3) := by decide +kernel
theorem dX11_way_104 : decode cX11_way 104 = .ok (.iconst 2, 1) := by decide +kernel
theorem dX11_way_105 : decode cX11_way 105 = .ok (.goto 4, 3) := by decide +kernel
theorem dX11_way_108 : decode cX11_way 108 = .ok (.iconst 0, 1) := by decide +kernel
theorem dX11_way_109 : decode cX11_way 109 = .ok (.iadd, 1) := by decide +kernel
theorem dX11_way_110 : decode cX11_way 110 = .ok (.ireturn, 1) := by decide +kernel
theorem dX11_chromaAt_0 : decode cX11_chromaAt 0 = .ok (.aload_n 0, 1) := by decide +kernel
theorem dX11_chromaAt_1 : decode cX11_chromaAt 1 = .ok (.iload_n 1, 1) := by decide +kernel
theorem dX11_chromaAt_2 : decode cX11_chromaAt 2 = .ok (.iload_n 2, 1) := by decide +kernel
theorem dX11_chromaAt_3 : decode cX11_chromaAt 3 = .ok (.invokevirtual 170, 3) := by decide +kernel
theorem dX11_chromaAt_6 : decode cX11_chromaAt 6 = .ok (.istore 4, 2) := by decide +kernel
theorem dX11_chromaAt_8 : decode cX11_chromaAt 8 = .ok (.iload_n 3, 1) := by decide +kernel
theorem dX11_chromaAt_9 : decode cX11_chromaAt 9 = .ok (.tableswitch 78 0 2 #[27, 50, 64], 27) := by decide +kernel
theorem dX11_chromaAt_36 : decode cX11_chromaAt 36 = .ok (.iconst 2, 1) := by decide +kernel
theorem dX11_chromaAt_37 : decode cX11_chromaAt 37 = .ok (.iload 4, 2) := by decide +kernel
theorem dX11_chromaAt_39 : decode cX11_chromaAt 39 = .ok (.imul, 1) := by decide +kernel
theorem dX11_chromaAt_40 : decode cX11_chromaAt 40 = .ok (.aload_n 0, 1) := by decide +kernel
theorem dX11_chromaAt_41 : decode cX11_chromaAt 41 = .ok (.iload_n 1, 1) := by decide +kernel
theorem dX11_chromaAt_42 : decode cX11_chromaAt 42 = .ok (.iload_n 2, 1) := by decide +kernel
theorem dX11_chromaAt_43 : decode cX11_chromaAt 43 = .ok (.iconst 2, 1) := by decide +kernel
theorem dX11_chromaAt_44 : decode cX11_chromaAt 44 = .ok (.isub, 1) := by decide +kernel
theorem dX11_chromaAt_45 : decode cX11_chromaAt 45 = .ok (.invokevirtual 170, 3) := by decide +kernel
theorem dX11_chromaAt_48 : decode cX11_chromaAt 48 = .ok (.isub, 1) := by decide +kernel
theorem dX11_chromaAt_49 : decode cX11_chromaAt 49 = .ok (.aload_n 0, 1) := by decide +kernel
theorem dX11_chromaAt_50 : decode cX11_chromaAt 50 = .ok (.iload_n 1, 1) := by decide +kernel
theorem dX11_chromaAt_51 : decode cX11_chromaAt 51 = .ok (.iload_n 2, 1) := by decide +kernel
theorem dX11_chromaAt_52 : decode cX11_chromaAt 52 = .ok (.iconst 2, 1) := by decide +kernel
theorem dX11_chromaAt_53 : decode cX11_chromaAt 53 = .ok (.iadd, 1) := by decide +kernel
theorem dX11_chromaAt_54 : decode cX11_chromaAt 54 = .ok (.invokevirtual 170, 3) := by decide +kernel
theorem dX11_chromaAt_57 : decode cX11_chromaAt 57 = .ok (.isub, 1) := by decide +kernel
theorem dX11_chromaAt_58 : decode cX11_chromaAt 58 = .ok (.ireturn, 1) := by decide +kernel
theorem dX11_chromaAt_59 : decode cX11_chromaAt 59 = .ok (.iconst 2, 1) := by decide +kernel
theorem dX11_chromaAt_60 : decode cX11_chromaAt 60 = .ok (.iload 4, 2) := by decide +kernel
theorem dX11_chromaAt_62 : decode cX11_chromaAt 62 = .ok (.aload_n 0, 1) := by decide +kernel
theorem dX11_chromaAt_63 : decode cX11_chromaAt 63 = .ok (.iload_n 1, 1) := by decide +kernel
theorem dX11_chromaAt_64 : decode cX11_chromaAt 64 = .ok (.iconst 1, 1) := by decide +kernel
theorem dX11_chromaAt_65 : decode cX11_chromaAt 65 = .ok (.isub, 1) := by decide +kernel
theorem dX11_chromaAt_66 : decode cX11_chromaAt 66 = .ok (.iload_n 2, 1) := by decide +kernel
theorem dX11_chromaAt_67 : decode cX11_chromaAt 67 = .ok (.invokevirtual 170, 3) := by decide +kernel
theorem dX11_chromaAt_70 : decode cX11_chromaAt 70 = .ok (.isub, 1) := by decide +kernel
theorem dX11_chromaAt_71 : decode cX11_chromaAt 71 = .ok (.imul, 1) := by decide +kernel
theorem dX11_chromaAt_72 : decode cX11_chromaAt 72 = .ok (.ireturn, 1) := by decide +kernel
theorem dX11_chromaAt_73 : decode cX11_chromaAt 73 = .ok (.iconst 2, 1) := by decide +kernel
theorem dX11_chromaAt_74 : decode cX11_chromaAt 74 = .ok (.iload 4, 2) := by decide +kernel
theorem dX11_chromaAt_76 : decode cX11_chromaAt 76 = .ok (.aload_n 0, 1) := by decide +kernel
theorem dX11_chromaAt_77 : decode cX11_chromaAt 77 = .ok (.iload_n 1, 1) := by decide +kernel
theorem dX11_chromaAt_78 : decode cX11_chromaAt 78 = .ok (.iconst 1, 1) := by decide +kernel
theorem dX11_chromaAt_79 : decode cX11_chromaAt 79 = .ok (.iadd, 1) := by decide +kernel
theorem dX11_chromaAt_80 : decode cX11_chromaAt 80 = .ok (.iload_n 2, 1) := by decide +kernel
theorem dX11_chromaAt_81 : decode cX11_chromaAt 81 = .ok (.invokevirtual 170, 3) := by decide +kernel
theorem dX11_chromaAt_84 : decode cX11_chromaAt 84 = .ok (.isub, 1) := by decide +kernel
theorem dX11_chromaAt_85 : decode cX11_chromaAt 85 = .ok (.imul, 1) := by decide +kernel
theorem dX11_chromaAt_86 : decode cX11_chromaAt 86 = .ok (.ireturn, 1) := by decide +kernel
theorem dX11_chromaAt_87 : decode cX11_chromaAt 87 = .ok (.iconst 2, 1) := by decide +kernel
theorem dX11_chromaAt_88 : decode cX11_chromaAt 88 = .ok (.iload 4, 2) := by decide +kernel
theorem dX11_chromaAt_90 : decode cX11_chromaAt 90 = .ok (.imul, 1) := by decide +kernel
theorem dX11_chromaAt_91 : decode cX11_chromaAt 91 = .ok (.aload_n 0, 1) := by decide +kernel
theorem dX11_chromaAt_92 : decode cX11_chromaAt 92 = .ok (.iload_n 1, 1) := by decide +kernel
theorem dX11_chromaAt_93 : decode cX11_chromaAt 93 = .ok (.iconst 1, 1) := by decide +kernel
theorem dX11_chromaAt_94 : decode cX11_chromaAt 94 = .ok (.isub, 1) := by decide +kernel
theorem dX11_chromaAt_95 : decode cX11_chromaAt 95 = .ok (.iload_n 2, 1) := by decide +kernel
theorem dX11_chromaAt_96 : decode cX11_chromaAt 96 = .ok (.invokevirtual 170, 3) := by decide +kernel
theorem dX11_chromaAt_99 : decode cX11_chromaAt 99 = .ok (.isub, 1) := by decide +kernel
theorem dX11_chromaAt_100 : decode cX11_chromaAt 100 = .ok (.aload_n 0, 1) := by decide +kernel
theorem dX11_chromaAt_101 : decode cX11_chromaAt 101 = .ok (.iload_n 1, 1) := by decide +kernel
theorem dX11_chromaAt_102 : decode cX11_chromaAt 102 = .ok (.iconst 1, 1) := by decide +kernel
theorem dX11_chromaAt_103 : decode cX11_chromaAt 103 = .ok (.iadd, 1) := by decide +kernel
theorem dX11_chromaAt_104 : decode cX11_chromaAt 104 = .ok (.iload_n 2, 1) := by decide +kernel
theorem dX11_chromaAt_105 : decode cX11_chromaAt 105 = .ok (.invokevirtual 170, 3) := by decide +kernel
theorem dX11_chromaAt_108 : decode cX11_chromaAt 108 = .ok (.isub, 1) := by decide +kernel
theorem dX11_chromaAt_109 : decode cX11_chromaAt 109 = .ok (.ireturn, 1) := by decide +kernel
theorem dX11_comb_0 : decode cX11_comb 0 = .ok (.bipush 10, 2) := by decide +kernel
theorem dX11_comb_2 : decode cX11_comb 2 = .ok (.iload_n 1, 1) := by decide +kernel
theorem dX11_comb_3 : decode cX11_comb 3 = .ok (.imul, 1) := by decide +kernel
theorem dX11_comb_4 : decode cX11_comb 4 = .ok (.iload_n 2, 1) := by decide +kernel
theorem dX11_comb_5 : decode cX11_comb 5 = .ok (.iadd, 1) := by decide +kernel
theorem dX11_comb_6 : decode cX11_comb 6 = .ok (.istore 4, 2) := by decide +kernel
theorem dX11_comb_8 : decode cX11_comb 8 = .ok (.aload_n 0, 1) := by decide +kernel
theorem dX11_comb_9 : decode cX11_comb 9 = .ok (.getfield 82, 3) := by decide +kernel
theorem dX11_comb_12 : decode cX11_comb 12 = .ok (.iload 4, 2) := by decide +kernel
theorem dX11_comb_14 : decode cX11_comb 14 = .ok (.aload_n 0, 1) := by decide +kernel
theorem dX11_comb_15 : decode cX11_comb 15 = .ok (.iload_n 1, 1) := by decide +kernel
theorem dX11_comb_16 : decode cX11_comb 16 = .ok (.iload_n 2, 1) := by decide +kernel
theorem dX11_comb_17 : decode cX11_comb 17 = .ok (.iload_n 3, 1) := by decide +kernel
theorem dX11_comb_18 : decode cX11_comb 18 = .ok (.invokevirtual 179, 3) := by decide +kernel
theorem dX11_comb_21 : decode cX11_comb 21 = .ok (.iastore, 1) := by decide +kernel
theorem dX11_comb_22 : decode cX11_comb 22 = .ok (.iconst 0, 1) := by decide +kernel
theorem dX11_comb_23 : decode cX11_comb 23 = .ok (.istore 5, 2) := by decide +kernel
theorem dX11_comb_25 : decode cX11_comb 25 = .ok (.iconst 0, 1) := by decide +kernel
theorem dX11_comb_26 : decode cX11_comb 26 = .ok (.istore 6, 2) := by decide +kernel
theorem dX11_comb_28 : decode cX11_comb 28 = .ok (.iconst 0, 1) := by decide +kernel
theorem dX11_comb_29 : decode cX11_comb 29 = .ok (.istore 7, 2) := by decide +kernel
theorem dX11_comb_31 : decode cX11_comb 31 = .ok (.iconst 0, 1) := by decide +kernel
theorem dX11_comb_32 : decode cX11_comb 32 = .ok (.istore 8, 2) := by decide +kernel
theorem dX11_comb_34 : decode cX11_comb 34 = .ok (.iload 8, 2) := by decide +kernel
theorem dX11_comb_36 : decode cX11_comb 36 = .ok (.bipush 8, 2) := by decide +kernel
theorem dX11_comb_38 : decode cX11_comb 38 = .ok (.if_icmp .ge 108, 3) := by decide +kernel
theorem dX11_comb_41 : decode cX11_comb 41 = .ok (.bipush 16, 2) := by decide +kernel
theorem dX11_comb_43 : decode cX11_comb 43 = .ok (.bipush 8, 2) := by decide +kernel
theorem dX11_comb_45 : decode cX11_comb 45 = .ok (.iload_n 2, 1) := by decide +kernel
theorem dX11_comb_46 : decode cX11_comb 46 = .ok (.imul, 1) := by decide +kernel
theorem dX11_comb_47 : decode cX11_comb 47 = .ok (.iadd, 1) := by decide +kernel
theorem dX11_comb_48 : decode cX11_comb 48 = .ok (.iload 8, 2) := by decide +kernel
theorem dX11_comb_50 : decode cX11_comb 50 = .ok (.iadd, 1) := by decide +kernel
theorem dX11_comb_51 : decode cX11_comb 51 = .ok (.istore 9, 2) := by decide +kernel
theorem dX11_comb_53 : decode cX11_comb 53 = .ok (.aload_n 0, 1) := by decide +kernel
theorem dX11_comb_54 : decode cX11_comb 54 = .ok (.getfield 97, 3) := by decide +kernel
theorem dX11_comb_57 : decode cX11_comb 57 = .ok (.iload 8, 2) := by decide +kernel
theorem dX11_comb_59 : decode cX11_comb 59 = .ok (.aload_n 0, 1) := by decide +kernel
theorem dX11_comb_60 : decode cX11_comb 60 = .ok (.iload_n 1, 1) := by decide +kernel
theorem dX11_comb_61 : decode cX11_comb 61 = .ok (.iload 9, 2) := by decide +kernel
theorem dX11_comb_63 : decode cX11_comb 63 = .ok (.aload_n 0, 1) := by decide +kernel
theorem dX11_comb_64 : decode cX11_comb 64 = .ok (.getfield 82, 3) := by decide +kernel
theorem dX11_comb_67 : decode cX11_comb 67 = .ok (.iload 4, 2) := by decide +kernel
theorem dX11_comb_69 : decode cX11_comb 69 = .ok (.iaload, 1) := by decide +kernel
theorem dX11_comb_70 : decode cX11_comb 70 = .ok (.invokevirtual 183, 3) := by decide +kernel
theorem dX11_comb_73 : decode cX11_comb 73 = .ok (.iastore, 1) := by decide +kernel
theorem dX11_comb_74 : decode cX11_comb 74 = .ok (.aload_n 0, 1) := by decide +kernel
theorem dX11_comb_75 : decode cX11_comb 75 = .ok (.getfield 48, 3) := by decide +kernel
theorem dX11_comb_78 : decode cX11_comb 78 = .ok (.iload_n 1, 1) := by decide +kernel
theorem dX11_comb_79 : decode cX11_comb 79 = .ok (.iaload, 1) := by decide +kernel
theorem dX11_comb_80 : decode cX11_comb 80 = .ok (.iload 9, 2) := by decide +kernel
theorem dX11_comb_82 : decode cX11_comb 82 = .ok (.iadd, 1) := by decide +kernel
theorem dX11_comb_83 : decode cX11_comb 83 = .ok (.iconst 2, 1) := by decide +kernel
theorem dX11_comb_84 : decode cX11_comb 84 = .ok (.iload_n 1, 1) := by decide +kernel
theorem dX11_comb_85 : decode cX11_comb 85 = .ok (.imul, 1) := by decide +kernel
theorem dX11_comb_86 : decode cX11_comb 86 = .ok (.iadd, 1) := by decide +kernel
theorem dX11_comb_87 : decode cX11_comb 87 = .ok (.invokestatic 141, 3) := by decide +kernel
theorem dX11_comb_90 : decode cX11_comb 90 = .ok (.istore 10, 2) := by decide +kernel
theorem dX11_comb_92 : decode cX11_comb 92 = .ok (.iload 5, 2) := by decide +kernel
theorem dX11_comb_94 : decode cX11_comb 94 = .ok (.aload_n 0, 1) := by decide +kernel
theorem dX11_comb_95 : decode cX11_comb 95 = .ok (.getfield 97, 3) := by decide +kernel
theorem dX11_comb_98 : decode cX11_comb 98 = .ok (.iload 8, 2) := by decide +kernel
theorem dX11_comb_100 : decode cX11_comb 100 = .ok (.iaload, 1) := by decide +kernel
theorem dX11_comb_101 : decode cX11_comb 101 = .ok (.iadd, 1) := by decide +kernel
theorem dX11_comb_102 : decode cX11_comb 102 = .ok (.istore 5, 2) := by decide +kernel
theorem dX11_comb_104 : decode cX11_comb 104 = .ok (.iload 6, 2) := by decide +kernel
theorem dX11_comb_106 : decode cX11_comb 106 = .ok (.aload_n 0, 1) := by decide +kernel
theorem dX11_comb_107 : decode cX11_comb 107 = .ok (.getfield 97, 3) := by decide +kernel
theorem dX11_comb_110 : decode cX11_comb 110 = .ok (.iload 8, 2) := by decide +kernel
theorem dX11_comb_112 : decode cX11_comb 112 = .ok (.iaload, 1) := by decide +kernel
theorem dX11_comb_113 : decode cX11_comb 113 = .ok (.iload 10, 2) := by decide +kernel
theorem dX11_comb_115 : decode cX11_comb 115 = .ok (.invokestatic 145, 3) := by decide +kernel
theorem dX11_comb_118 : decode cX11_comb 118 = .ok (.imul, 1) := by decide +kernel
theorem dX11_comb_119 : decode cX11_comb 119 = .ok (.iadd, 1) := by decide +kernel
theorem dX11_comb_120 : decode cX11_comb 120 = .ok (.istore 6, 2) := by decide +kernel
theorem dX11_comb_122 : decode cX11_comb 122 = .ok (.iload 7, 2) := by decide +kernel
theorem dX11_comb_124 : decode cX11_comb 124 = .ok (.aload_n 0, 1) := by decide +kernel
theorem dX11_comb_125 : decode cX11_comb 125 = .ok (.getfield 97, 3) := by decide +kernel
theorem dX11_comb_128 : decode cX11_comb 128 = .ok (.iload 8, 2) := by decide +kernel
theorem dX11_comb_130 : decode cX11_comb 130 = .ok (.iaload, 1) := by decide +kernel
theorem dX11_comb_131 : decode cX11_comb 131 = .ok (.iload 10, 2) := by decide +kernel
theorem dX11_comb_133 : decode cX11_comb 133 = .ok (.invokestatic 148, 3) := by decide +kernel
theorem dX11_comb_136 : decode cX11_comb 136 = .ok (.imul, 1) := by decide +kernel
theorem dX11_comb_137 : decode cX11_comb 137 = .ok (.iadd, 1) := by decide +kernel
theorem dX11_comb_138 : decode cX11_comb 138 = .ok (.istore 7, 2) := by decide +kernel
theorem dX11_comb_140 : decode cX11_comb 140 = .ok (.iinc 8 1, 3) := by decide +kernel
theorem dX11_comb_143 : decode cX11_comb 143 = .ok (.goto (-109), 3) := by decide +kernel
theorem dX11_comb_146 : decode cX11_comb 146 = .ok (.aload_n 0, 1) := by decide +kernel
theorem dX11_comb_147 : decode cX11_comb 147 = .ok (.getfield 76, 3) := by decide +kernel
theorem dX11_comb_150 : decode cX11_comb 150 = .ok (.iload 4, 2) := by decide +kernel
theorem dX11_comb_152 : decode cX11_comb 152 = .ok (.iconst 4, 1) := by decide +kernel
theorem dX11_comb_153 : decode cX11_comb 153 = .ok (.aload_n 0, 1) := by decide +kernel
theorem dX11_comb_154 : decode cX11_comb 154 = .ok (.iload_n 1, 1) := by decide +kernel
theorem dX11_comb_155 : decode cX11_comb 155 = .ok (.iload_n 2, 1) := by decide +kernel
theorem dX11_comb_156 : decode cX11_comb 156 = .ok (.invokevirtual 173, 3) := by decide +kernel
theorem dX11_comb_159 : decode cX11_comb 159 = .ok (.imul, 1) := by decide +kernel
theorem dX11_comb_160 : decode cX11_comb 160 = .ok (.iload 5, 2) := by decide +kernel
theorem dX11_comb_162 : decode cX11_comb 162 = .ok (.isub, 1) := by decide +kernel
theorem dX11_comb_163 : decode cX11_comb 163 = .ok (.bipush 32, 2) := by decide +kernel
theorem dX11_comb_165 : decode cX11_comb 165 = .ok (.invokestatic 157, 3) := by decide +kernel
theorem dX11_comb_168 : decode cX11_comb 168 = .ok (.iastore, 1) := by decide +kernel
theorem dX11_comb_169 : decode cX11_comb 169 = .ok (.iload 6, 2) := by decide +kernel
theorem dX11_comb_171 : decode cX11_comb 171 = .ok (.i2f, 1) := by decide +kernel
theorem dX11_comb_172 : decode cX11_comb 172 = .ok (.ldc 186, 2) := by decide +kernel
theorem dX11_comb_174 : decode cX11_comb 174 = .ok (.fdiv, 1) := by decide +kernel
theorem dX11_comb_175 : decode cX11_comb 175 = .ok (.fstore 8, 2) := by decide +kernel
theorem dX11_comb_177 : decode cX11_comb 177 = .ok (.iload 7, 2) := by decide +kernel
theorem dX11_comb_179 : decode cX11_comb 179 = .ok (.i2f, 1) := by decide +kernel
theorem dX11_comb_180 : decode cX11_comb 180 = .ok (.ldc 186, 2) := by decide +kernel
theorem dX11_comb_182 : decode cX11_comb 182 = .ok (.fdiv, 1) := by decide +kernel
theorem dX11_comb_183 : decode cX11_comb 183 = .ok (.fstore 9, 2) := by decide +kernel
theorem dX11_comb_185 : decode cX11_comb 185 = .ok (.aload_n 0, 1) := by decide +kernel
theorem dX11_comb_186 : decode cX11_comb 186 = .ok (.getfield 69, 3) := by decide +kernel
theorem dX11_comb_189 : decode cX11_comb 189 = .ok (.iload_n 1, 1) := by decide +kernel
theorem dX11_comb_190 : decode cX11_comb 190 = .ok (.faload, 1) := by decide +kernel
theorem dX11_comb_191 : decode cX11_comb 191 = .ok (.fstore 10, 2) := by decide +kernel
theorem dX11_comb_193 : decode cX11_comb 193 = .ok (.aload_n 0, 1) := by decide +kernel
theorem dX11_comb_194 : decode cX11_comb 194 = .ok (.getfield 73, 3) := by decide +kernel
theorem dX11_comb_197 : decode cX11_comb 197 = .ok (.iload_n 1, 1) := by decide +kernel
theorem dX11_comb_198 : decode cX11_comb 198 = .ok (.faload, 1) := by decide +kernel
theorem dX11_comb_199 : decode cX11_comb 199 = .ok (.fstore 11, 2) := by decide +kernel
theorem dX11_comb_201 : decode cX11_comb 201 = .ok (.fload 10, 2) := by decide +kernel
theorem dX11_comb_203 : decode cX11_comb 203 = .ok (.fload 10, 2) := by decide +kernel
theorem dX11_comb_205 : decode cX11_comb 205 = .ok (.fmul, 1) := by decide +kernel
theorem dX11_comb_206 : decode cX11_comb 206 = .ok (.fload 11, 2) := by decide +kernel
theorem dX11_comb_208 : decode cX11_comb 208 = .ok (.fload 11, 2) := by decide +kernel
theorem dX11_comb_210 : decode cX11_comb 210 = .ok (.fmul, 1) := by decide +kernel
theorem dX11_comb_211 : decode cX11_comb 211 = .ok (.fadd, 1) := by decide +kernel
theorem dX11_comb_212 : decode cX11_comb 212 = .ok (.fstore 12, 2) := by decide +kernel
theorem dX11_comb_214 : decode cX11_comb 214 = .ok (.aload_n 0, 1) := by decide +kernel
theorem dX11_comb_215 : decode cX11_comb 215 = .ok (.getfield 66, 3) := by decide +kernel
theorem dX11_comb_218 : decode cX11_comb 218 = .ok (.iload_n 1, 1) := by decide +kernel
theorem dX11_comb_219 : decode cX11_comb 219 = .ok (.baload, 1) := by decide +kernel
theorem dX11_comb_220 : decode cX11_comb 220 = .ok (.ifCond .eq 14, 3) := by decide +kernel
theorem dX11_comb_223 : decode cX11_comb 223 = .ok (.fload 12, 2) := by decide +kernel
theorem dX11_comb_225 : decode cX11_comb 225 = .ok (.fconst 0, 1) := by decide +kernel
theorem dX11_comb_226 : decode cX11_comb 226 = .ok (.fcmp .l, 1) := by decide +kernel
theorem dX11_comb_227 : decode cX11_comb 227 = .ok (.ifCond .eq 7, 3) := by decide +kernel
theorem dX11_comb_230 : decode cX11_comb 230 = .ok (.iconst 1, 1) := by decide +kernel
theorem dX11_comb_231 : decode cX11_comb 231 = .ok (.goto 4, 3) := by decide +kernel
theorem dX11_comb_234 : decode cX11_comb 234 = .ok (.iconst 0, 1) := by decide +kernel
theorem dX11_comb_235 : decode cX11_comb 235 = .ok (.istore 13, 2) := by decide +kernel
theorem dX11_comb_237 : decode cX11_comb 237 = .ok (.iload 13, 2) := by decide +kernel
theorem dX11_comb_239 : decode cX11_comb 239 = .ok (.ifCond .eq 23, 3) := by decide +kernel
theorem dX11_comb_242 : decode cX11_comb 242 = .ok (.fload 8, 2) := by decide +kernel
theorem dX11_comb_244 : decode cX11_comb 244 = .ok (.fload 10, 2) := by decide +kernel
theorem dX11_comb_246 : decode cX11_comb 246 = .ok (.fmul, 1) := by decide +kernel
theorem dX11_comb_247 : decode cX11_comb 247 = .ok (.fload 9, 2) := by decide +kernel
theorem dX11_comb_249 : decode cX11_comb 249 = .ok (.fload 11, 2) := by decide +kernel
theorem dX11_comb_251 : decode cX11_comb 251 = .ok (.fmul, 1) := by decide +kernel
theorem dX11_comb_252 : decode cX11_comb 252 = .ok (.fadd, 1) := by decide +kernel
theorem dX11_comb_253 : decode cX11_comb 253 = .ok (.ldc 187, 2) := by decide +kernel
theorem dX11_comb_255 : decode cX11_comb 255 = .ok (.fmul, 1) := by decide +kernel
theorem dX11_comb_256 : decode cX11_comb 256 = .ok (.fload 12, 2) := by decide +kernel
theorem dX11_comb_258 : decode cX11_comb 258 = .ok (.fdiv, 1) := by decide +kernel
theorem dX11_comb_259 : decode cX11_comb 259 = .ok (.goto 4, 3) := by decide +kernel
theorem dX11_comb_262 : decode cX11_comb 262 = .ok (.fconst 0, 1) := by decide +kernel
theorem dX11_comb_263 : decode cX11_comb 263 = .ok (.fstore 14, 2) := by decide +kernel
theorem dX11_comb_265 : decode cX11_comb 265 = .ok (.iload 13, 2) := by decide +kernel
theorem dX11_comb_267 : decode cX11_comb 267 = .ok (.ifCond .eq 23, 3) := by decide +kernel
theorem dX11_comb_270 : decode cX11_comb 270 = .ok (.fload 9, 2) := by decide +kernel
theorem dX11_comb_272 : decode cX11_comb 272 = .ok (.fload 10, 2) := by decide +kernel
theorem dX11_comb_274 : decode cX11_comb 274 = .ok (.fmul, 1) := by decide +kernel
theorem dX11_comb_275 : decode cX11_comb 275 = .ok (.fload 8, 2) := by decide +kernel
theorem dX11_comb_277 : decode cX11_comb 277 = .ok (.fload 11, 2) := by decide +kernel
theorem dX11_comb_279 : decode cX11_comb 279 = .ok (.fmul, 1) := by decide +kernel
theorem dX11_comb_280 : decode cX11_comb 280 = .ok (.fsub, 1) := by decide +kernel
theorem dX11_comb_281 : decode cX11_comb 281 = .ok (.ldc 187, 2) := by decide +kernel
theorem dX11_comb_283 : decode cX11_comb 283 = .ok (.fmul, 1) := by decide +kernel
theorem dX11_comb_284 : decode cX11_comb 284 = .ok (.fload 12, 2) := by decide +kernel
theorem dX11_comb_286 : decode cX11_comb 286 = .ok (.fdiv, 1) := by decide +kernel
theorem dX11_comb_287 : decode cX11_comb 287 = .ok (.goto 4, 3) := by decide +kernel
theorem dX11_comb_290 : decode cX11_comb 290 = .ok (.fconst 0, 1) := by decide +kernel
theorem dX11_comb_291 : decode cX11_comb 291 = .ok (.fstore 15, 2) := by decide +kernel
theorem dX11_comb_293 : decode cX11_comb 293 = .ok (.aload_n 0, 1) := by decide +kernel
theorem dX11_comb_294 : decode cX11_comb 294 = .ok (.getfield 85, 3) := by decide +kernel
theorem dX11_comb_297 : decode cX11_comb 297 = .ok (.iload 4, 2) := by decide +kernel
theorem dX11_comb_299 : decode cX11_comb 299 = .ok (.fload 14, 2) := by decide +kernel
theorem dX11_comb_301 : decode cX11_comb 301 = .ok (.fastore, 1) := by decide +kernel
theorem dX11_comb_302 : decode cX11_comb 302 = .ok (.aload_n 0, 1) := by decide +kernel
theorem dX11_comb_303 : decode cX11_comb 303 = .ok (.getfield 88, 3) := by decide +kernel
theorem dX11_comb_306 : decode cX11_comb 306 = .ok (.iload 4, 2) := by decide +kernel
theorem dX11_comb_308 : decode cX11_comb 308 = .ok (.iload_n 3, 1) := by decide +kernel
theorem dX11_comb_309 : decode cX11_comb 309 = .ok (.iconst 1, 1) := by decide +kernel
