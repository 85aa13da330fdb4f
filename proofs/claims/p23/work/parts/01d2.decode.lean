/-! decode rows, part 2 -/
theorem dX7_noiseAt_13 : decode cX7_noiseAt 13 = .ok (.imul, 1) := by decide +kernel
theorem dX7_noiseAt_14 : decode cX7_noiseAt 14 = .ok (.iadd, 1) := by decide +kernel
theorem dX7_noiseAt_15 : decode cX7_noiseAt 15 = .ok (.iconst 5, 1) := by decide +kernel
theorem dX7_noiseAt_16 : decode cX7_noiseAt 16 = .ok (.invokestatic 48, 3) := by decide +kernel
theorem dX7_noiseAt_19 : decode cX7_noiseAt 19 = .ok (.iconst 2, 1) := by decide +kernel
theorem dX7_noiseAt_20 : decode cX7_noiseAt 20 = .ok (.isub, 1) := by decide +kernel
theorem dX7_noiseAt_21 : decode cX7_noiseAt 21 = .ok (.imul, 1) := by decide +kernel
theorem dX7_noiseAt_22 : decode cX7_noiseAt 22 = .ok (.ireturn, 1) := by decide +kernel
theorem dX7_levelAt_0 : decode cX7_levelAt 0 = .ok (.iload_n 2, 1) := by decide +kernel
theorem dX7_levelAt_1 : decode cX7_levelAt 1 = .ok (.ifCond .ge 5, 3) := by decide +kernel
theorem dX7_levelAt_4 : decode cX7_levelAt 4 = .ok (.iconst 0, 1) := by decide +kernel
theorem dX7_levelAt_5 : decode cX7_levelAt 5 = .ok (.ireturn, 1) := by decide +kernel
theorem dX7_levelAt_6 : decode cX7_levelAt 6 = .ok (.iload_n 2, 1) := by decide +kernel
theorem dX7_levelAt_7 : decode cX7_levelAt 7 = .ok (.bipush 8, 2) := by decide +kernel
theorem dX7_levelAt_9 : decode cX7_levelAt 9 = .ok (.if_icmp .ge 19, 3) := by decide +kernel
theorem dX7_levelAt_12 : decode cX7_levelAt 12 = .ok (.aload_n 0, 1) := by decide +kernel
theorem dX7_levelAt_13 : decode cX7_levelAt 13 = .ok (.getfield 33, 3) := by decide +kernel
theorem dX7_levelAt_16 : decode cX7_levelAt 16 = .ok (.iload_n 1, 1) := by decide +kernel
theorem dX7_levelAt_17 : decode cX7_levelAt 17 = .ok (.baload, 1) := by decide +kernel
theorem dX7_levelAt_18 : decode cX7_levelAt 18 = .ok (.ifCond .eq 7, 3) := by decide +kernel
theorem dX7_levelAt_21 : decode cX7_levelAt 21 = .ok (.iconst 0, 1) := by decide +kernel
theorem dX7_levelAt_22 : decode cX7_levelAt 22 = .ok (.goto 5, 3) := by decide +kernel
theorem dX7_levelAt_25 : decode cX7_levelAt 25 = .ok (.bipush (-40), 2) := by decide +kernel
theorem dX7_levelAt_27 : decode cX7_levelAt 27 = .ok (.ireturn, 1) := by decide +kernel
theorem dX7_levelAt_28 : decode cX7_levelAt 28 = .ok (.iload_n 2, 1) := by decide +kernel
theorem dX7_levelAt_29 : decode cX7_levelAt 29 = .ok (.bipush 16, 2) := by decide +kernel
theorem dX7_levelAt_31 : decode cX7_levelAt 31 = .ok (.if_icmp .ge 10, 3) := by decide +kernel
theorem dX7_levelAt_34 : decode cX7_levelAt 34 = .ok (.aload_n 0, 1) := by decide +kernel
theorem dX7_levelAt_35 : decode cX7_levelAt 35 = .ok (.iload_n 1, 1) := by decide +kernel
theorem dX7_levelAt_36 : decode cX7_levelAt 36 = .ok (.iload_n 3, 1) := by decide +kernel
theorem dX7_levelAt_37 : decode cX7_levelAt 37 = .ok (.invokevirtual 53, 3) := by decide +kernel
theorem dX7_levelAt_40 : decode cX7_levelAt 40 = .ok (.ireturn, 1) := by decide +kernel
theorem dX7_levelAt_41 : decode cX7_levelAt 41 = .ok (.iload_n 2, 1) := by decide +kernel
theorem dX7_levelAt_42 : decode cX7_levelAt 42 = .ok (.bipush 16, 2) := by decide +kernel
theorem dX7_levelAt_44 : decode cX7_levelAt 44 = .ok (.isub, 1) := by decide +kernel
theorem dX7_levelAt_45 : decode cX7_levelAt 45 = .ok (.bipush 8, 2) := by decide +kernel
theorem dX7_levelAt_47 : decode cX7_levelAt 47 = .ok (.idiv, 1) := by decide +kernel
theorem dX7_levelAt_48 : decode cX7_levelAt 48 = .ok (.istore 4, 2) := by decide +kernel
theorem dX7_levelAt_50 : decode cX7_levelAt 50 = .ok (.iload 4, 2) := by decide +kernel
theorem dX7_levelAt_52 : decode cX7_levelAt 52 = .ok (.bipush 10, 2) := by decide +kernel
theorem dX7_levelAt_54 : decode cX7_levelAt 54 = .ok (.if_icmp .lt 5, 3) := by decide +kernel
theorem dX7_levelAt_57 : decode cX7_levelAt 57 = .ok (.iconst 0, 1) := by decide +kernel
theorem dX7_levelAt_58 : decode cX7_levelAt 58 = .ok (.ireturn, 1) := by decide +kernel
theorem dX7_levelAt_59 : decode cX7_levelAt 59 = .ok (.iload_n 1, 1) := by decide +kernel
theorem dX7_levelAt_60 : decode cX7_levelAt 60 = .ok (.iload 4, 2) := by decide +kernel
theorem dX7_levelAt_62 : decode cX7_levelAt 62 = .ok (.invokestatic 56, 3) := by decide +kernel
theorem dX7_levelAt_65 : decode cX7_levelAt 65 = .ok (.istore 5, 2) := by decide +kernel
theorem dX7_levelAt_67 : decode cX7_levelAt 67 = .ok (.aload_n 0, 1) := by decide +kernel
theorem dX7_levelAt_68 : decode cX7_levelAt 68 = .ok (.getfield 9, 3) := by decide +kernel
theorem dX7_levelAt_71 : decode cX7_levelAt 71 = .ok (.iload 5, 2) := by decide +kernel
theorem dX7_levelAt_73 : decode cX7_levelAt 73 = .ok (.iaload, 1) := by decide +kernel
theorem dX7_levelAt_74 : decode cX7_levelAt 74 = .ok (.aload_n 0, 1) := by decide +kernel
theorem dX7_levelAt_75 : decode cX7_levelAt 75 = .ok (.getfield 15, 3) := by decide +kernel
theorem dX7_levelAt_78 : decode cX7_levelAt 78 = .ok (.iload 5, 2) := by decide +kernel
theorem dX7_levelAt_80 : decode cX7_levelAt 80 = .ok (.iaload, 1) := by decide +kernel
theorem dX7_levelAt_81 : decode cX7_levelAt 81 = .ok (.getstatic 59, 3) := by decide +kernel
theorem dX7_levelAt_84 : decode cX7_levelAt 84 = .ok (.iload_n 3, 1) := by decide +kernel
theorem dX7_levelAt_85 : decode cX7_levelAt 85 = .ok (.iaload, 1) := by decide +kernel
theorem dX7_levelAt_86 : decode cX7_levelAt 86 = .ok (.imul, 1) := by decide +kernel
theorem dX7_levelAt_87 : decode cX7_levelAt 87 = .ok (.iadd, 1) := by decide +kernel
theorem dX7_levelAt_88 : decode cX7_levelAt 88 = .ok (.aload_n 0, 1) := by decide +kernel
theorem dX7_levelAt_89 : decode cX7_levelAt 89 = .ok (.iload_n 1, 1) := by decide +kernel
theorem dX7_levelAt_90 : decode cX7_levelAt 90 = .ok (.invokevirtual 62, 3) := by decide +kernel
theorem dX7_levelAt_93 : decode cX7_levelAt 93 = .ok (.aload_n 0, 1) := by decide +kernel
theorem dX7_levelAt_94 : decode cX7_levelAt 94 = .ok (.getfield 18, 3) := by decide +kernel
theorem dX7_levelAt_97 : decode cX7_levelAt 97 = .ok (.iload 5, 2) := by decide +kernel
theorem dX7_levelAt_99 : decode cX7_levelAt 99 = .ok (.iaload, 1) := by decide +kernel
theorem dX7_levelAt_100 : decode cX7_levelAt 100 = .ok (.imul, 1) := by decide +kernel
theorem dX7_levelAt_101 : decode cX7_levelAt 101 = .ok (.getstatic 66, 3) := by decide +kernel
theorem dX7_levelAt_104 : decode cX7_levelAt 104 = .ok (.iload_n 3, 1) := by decide +kernel
theorem dX7_levelAt_105 : decode cX7_levelAt 105 = .ok (.iaload, 1) := by decide +kernel
theorem dX7_levelAt_106 : decode cX7_levelAt 106 = .ok (.imul, 1) := by decide +kernel
theorem dX7_levelAt_107 : decode cX7_levelAt 107 = .ok (.iadd, 1) := by decide +kernel
theorem dX7_levelAt_108 : decode cX7_levelAt 108 = .ok (.ireturn, 1) := by decide +kernel
theorem dX7_burstAt_0 : decode cX7_burstAt 0 = .ok (.aload_n 0, 1) := by decide +kernel
theorem dX7_burstAt_1 : decode cX7_burstAt 1 = .ok (.getfield 24, 3) := by decide +kernel
theorem dX7_burstAt_4 : decode cX7_burstAt 4 = .ok (.iload_n 1, 1) := by decide +kernel
theorem dX7_burstAt_5 : decode cX7_burstAt 5 = .ok (.iaload, 1) := by decide +kernel
theorem dX7_burstAt_6 : decode cX7_burstAt 6 = .ok (.ineg, 1) := by decide +kernel
theorem dX7_burstAt_7 : decode cX7_burstAt 7 = .ok (.getstatic 59, 3) := by decide +kernel
theorem dX7_burstAt_10 : decode cX7_burstAt 10 = .ok (.iload_n 2, 1) := by decide +kernel
theorem dX7_burstAt_11 : decode cX7_burstAt 11 = .ok (.iaload, 1) := by decide +kernel
theorem dX7_burstAt_12 : decode cX7_burstAt 12 = .ok (.imul, 1) := by decide +kernel
theorem dX7_burstAt_13 : decode cX7_burstAt 13 = .ok (.istore_n 3, 1) := by decide +kernel
theorem dX7_burstAt_14 : decode cX7_burstAt 14 = .ok (.aload_n 0, 1) := by decide +kernel
theorem dX7_burstAt_15 : decode cX7_burstAt 15 = .ok (.getfield 69, 3) := by decide +kernel
theorem dX7_burstAt_18 : decode cX7_burstAt 18 = .ok (.iconst 1, 1) := by decide +kernel
theorem dX7_burstAt_19 : decode cX7_burstAt 19 = .ok (.if_icmp .ne 24, 3) := by decide +kernel
theorem dX7_burstAt_22 : decode cX7_burstAt 22 = .ok (.iload_n 3, 1) := by decide +kernel
theorem dX7_burstAt_23 : decode cX7_burstAt 23 = .ok (.aload_n 0, 1) := by decide +kernel
theorem dX7_burstAt_24 : decode cX7_burstAt 24 = .ok (.iload_n 1, 1) := by decide +kernel
theorem dX7_burstAt_25 : decode cX7_burstAt 25 = .ok (.invokevirtual 62, 3) := by decide +kernel
theorem dX7_burstAt_28 : decode cX7_burstAt 28 = .ok (.aload_n 0, 1) := by decide +kernel
theorem dX7_burstAt_29 : decode cX7_burstAt 29 = .ok (.getfield 24, 3) := by decide +kernel
theorem dX7_burstAt_32 : decode cX7_burstAt 32 = .ok (.iload_n 1, 1) := by decide +kernel
theorem dX7_burstAt_33 : decode cX7_burstAt 33 = .ok (.iaload, 1) := by decide +kernel
theorem dX7_burstAt_34 : decode cX7_burstAt 34 = .ok (.imul, 1) := by decide +kernel
theorem dX7_burstAt_35 : decode cX7_burstAt 35 = .ok (.getstatic 66, 3) := by decide +kernel
theorem dX7_burstAt_38 : decode cX7_burstAt 38 = .ok (.iload_n 2, 1) := by decide +kernel
theorem dX7_burstAt_39 : decode cX7_burstAt 39 = .ok (.iaload, 1) := by decide +kernel
theorem dX7_burstAt_40 : decode cX7_burstAt 40 = .ok (.imul, 1) := by decide +kernel
theorem dX7_burstAt_41 : decode cX7_burstAt 41 = .ok (.iadd, 1) := by decide +kernel
theorem dX7_burstAt_42 : decode cX7_burstAt 42 = .ok (.istore_n 3, 1) := by decide +kernel
theorem dX7_burstAt_43 : decode cX7_burstAt 43 = .ok (.iload_n 3, 1) := by decide +kernel
theorem dX7_burstAt_44 : decode cX7_burstAt 44 = .ok (.ireturn, 1) := by decide +kernel
theorem dX7_signOf_0 : decode cX7_signOf 0 = .ok (.aload_n 0, 1) := by decide +kernel
theorem dX7_signOf_1 : decode cX7_signOf 1 = .ok (.getfield 69, 3) := by decide +kernel
theorem dX7_signOf_4 : decode cX7_signOf 4 = .ok (.iconst 1, 1) := by decide +kernel
theorem dX7_signOf_5 : decode cX7_signOf 5 = .ok (.if_icmp .ne 14, 3) := by decide +kernel
theorem dX7_signOf_8 : decode cX7_signOf 8 = .ok (.iload_n 1, 1) := by decide +kernel
theorem dX7_signOf_9 : decode cX7_signOf 9 = .ok (.iconst 1, 1) := by decide +kernel
theorem dX7_signOf_10 : decode cX7_signOf 10 = .ok (.iand, 1) := by decide +kernel
theorem dX7_signOf_11 : decode cX7_signOf 11 = .ok (.iconst 1, 1) := by decide +kernel
theorem dX7_signOf_12 : decode cX7_signOf 12 = .ok (.if_icmp .ne 7, 3) := by decide +kernel
theorem dX7_signOf_15 : decode cX7_signOf 15 = .ok (.iconst (-1), 1) := by decide +kernel
theorem dX7_signOf_16 : decode cX7_signOf 16 = .ok (.goto 4, 3) := by decide +kernel
theorem dX7_signOf_19 : decode cX7_signOf 19 = .ok (.iconst 1, 1) := by decide +kernel
theorem dX7_signOf_20 : decode cX7_signOf 20 = .ok (.ireturn, 1) := by decide +kernel
theorem dX8_init_0 : decode cX8_init 0 = .ok (.aload_n 0, 1) := by decide +kernel
theorem dX8_init_1 : decode cX8_init 1 = .ok (.invokespecial 1, 3) := by decide +kernel
theorem dX8_init_4 : decode cX8_init 4 = .ok (.aload_n 0, 1) := by decide +kernel
theorem dX8_init_5 : decode cX8_init 5 = .ok (.iconst 4, 1) := by decide +kernel
theorem dX8_init_6 : decode cX8_init 6 = .ok (.newarray .int, 2) := by decide +kernel
theorem dX8_init_8 : decode cX8_init 8 = .ok (.dup, 1) := by decide +kernel
theorem dX8_init_9 : decode cX8_init 9 = .ok (.iconst 0, 1) := by decide +kernel
theorem dX8_init_10 : decode cX8_init 10 = .ok (.bipush 8, 2) := by decide +kernel
theorem dX8_init_12 : decode cX8_init 12 = .ok (.iastore, 1) := by decide +kernel
theorem dX8_init_13 : decode cX8_init 13 = .ok (.dup, 1) := by decide +kernel
theorem dX8_init_14 : decode cX8_init 14 = .ok (.iconst 1, 1) := by decide +kernel
theorem dX8_init_15 : decode cX8_init 15 = .ok (.bipush 10, 2) := by decide +kernel
theorem dX8_init_17 : decode cX8_init 17 = .ok (.iastore, 1) := by decide +kernel
theorem dX8_init_18 : decode cX8_init 18 = .ok (.dup, 1) := by decide +kernel
theorem dX8_init_19 : decode cX8_init 19 = .ok (.iconst 2, 1) := by decide +kernel
theorem dX8_init_20 : decode cX8_init 20 = .ok (.iconst 3, 1) := by decide +kernel
theorem dX8_init_21 : decode cX8_init 21 = .ok (.iastore, 1) := by decide +kernel
theorem dX8_init_22 : decode cX8_init 22 = .ok (.dup, 1) := by decide +kernel
theorem dX8_init_23 : decode cX8_init 23 = .ok (.iconst 3, 1) := by decide +kernel
theorem dX8_init_24 : decode cX8_init 24 = .ok (.iconst 2, 1) := by decide +kernel
theorem dX8_init_25 : decode cX8_init 25 = .ok (.iastore, 1) := by decide +kernel
theorem dX8_init_26 : decode cX8_init 26 = .ok (.putfield 9, 3) := by decide +kernel
theorem dX8_init_29 : decode cX8_init 29 = .ok (.return_, 1) := by decide +kernel
theorem dX8_allows_0 : decode cX8_allows 0 = .ok (.iload_n 2, 1) := by decide +kernel
theorem dX8_allows_1 : decode cX8_allows 1 = .ok (.getstatic 13, 3) := by decide +kernel
theorem dX8_allows_4 : decode cX8_allows 4 = .ok (.iload_n 1, 1) := by decide +kernel
theorem dX8_allows_5 : decode cX8_allows 5 = .ok (.iaload, 1) := by decide +kernel
theorem dX8_allows_6 : decode cX8_allows 6 = .ok (.getstatic 16, 3) := by decide +kernel
theorem dX8_allows_9 : decode cX8_allows 9 = .ok (.iload_n 1, 1) := by decide +kernel
theorem dX8_allows_10 : decode cX8_allows 10 = .ok (.iaload, 1) := by decide +kernel
theorem dX8_allows_11 : decode cX8_allows 11 = .ok (.invokestatic 19, 3) := by decide +kernel
theorem dX8_allows_14 : decode cX8_allows 14 = .ok (.ireturn, 1) := by decide +kernel
theorem dX8_threshold_0 : decode cX8_threshold 0 = .ok (.aload_n 0, 1) := by decide +kernel
theorem dX8_threshold_1 : decode cX8_threshold 1 = .ok (.getfield 9, 3) := by decide +kernel
theorem dX8_threshold_4 : decode cX8_threshold 4 = .ok (.iconst 0, 1) := by decide +kernel
theorem dX8_threshold_5 : decode cX8_threshold 5 = .ok (.iaload, 1) := by decide +kernel
theorem dX8_threshold_6 : decode cX8_threshold 6 = .ok (.ireturn, 1) := by decide +kernel
theorem dX8_limit_0 : decode cX8_limit 0 = .ok (.aload_n 0, 1) := by decide +kernel
theorem dX8_limit_1 : decode cX8_limit 1 = .ok (.getfield 9, 3) := by decide +kernel
theorem dX8_limit_4 : decode cX8_limit 4 = .ok (.iconst 1, 1) := by decide +kernel
theorem dX8_limit_5 : decode cX8_limit 5 = .ok (.iaload, 1) := by decide +kernel
theorem dX8_limit_6 : decode cX8_limit 6 = .ok (.ireturn, 1) := by decide +kernel
theorem dX8_comb_0 : decode cX8_comb 0 = .ok (.aload_n 0, 1) := by decide +kernel
theorem dX8_comb_1 : decode cX8_comb 1 = .ok (.getfield 9, 3) := by decide +kernel
theorem dX8_comb_4 : decode cX8_comb 4 = .ok (.iconst 2, 1) := by decide +kernel
theorem dX8_comb_5 : decode cX8_comb 5 = .ok (.iaload, 1) := by decide +kernel
theorem dX8_comb_6 : decode cX8_comb 6 = .ok (.ireturn, 1) := by decide +kernel
theorem dX8_standardTaken_0 : decode cX8_standardTaken 0 = .ok (.aload_n 0, 1) := by decide +kernel
theorem dX8_standardTaken_1 : decode cX8_standardTaken 1 = .ok (.getfield 9, 3) := by decide +kernel
theorem dX8_standardTaken_4 : decode cX8_standardTaken 4 = .ok (.iconst 3, 1) := by decide +kernel
theorem dX8_standardTaken_5 : decode cX8_standardTaken 5 = .ok (.iaload, 1) := by decide +kernel
theorem dX8_standardTaken_6 : decode cX8_standardTaken 6 = .ok (.iconst 2, 1) := by decide +kernel
theorem dX8_standardTaken_7 : decode cX8_standardTaken 7 = .ok (.if_icmp .ne 7, 3) := by decide +kernel
theorem dX8_standardTaken_10 : decode cX8_standardTaken 10 = .ok (.iload_n 1, 1) := by decide +kernel
theorem dX8_standardTaken_11 : decode cX8_standardTaken 11 = .ok (.goto 9, 3) := by decide +kernel
theorem dX8_standardTaken_14 : decode cX8_standardTaken 14 = .ok (.aload_n 0, 1) := by decide +kernel
theorem dX8_standardTaken_15 : decode cX8_standardTaken 15 = .ok (.getfield 9, 3) := by decide +kernel
theorem dX8_standardTaken_18 : decode cX8_standardTaken 18 = .ok (.iconst 3, 1) := by decide +kernel
theorem dX8_standardTaken_19 : decode cX8_standardTaken 19 = .ok (.iaload, 1) := by decide +kernel
theorem dX8_standardTaken_20 : decode cX8_standardTaken 20 = .ok (.ireturn, 1) := by decide +kernel
theorem dX9_init_0 : decode cX9_init 0 = .ok (.aload_n 0, 1) := by decide +kernel
theorem dX9_init_1 : decode cX9_init 1 = .ok (.invokespecial 3, 3) := by decide +kernel
theorem dX9_init_4 : decode cX9_init 4 = .ok (.aload_n 0, 1) := by decide +kernel
theorem dX9_init_5 : decode cX9_init 5 = .ok (.bipush 8, 2) := by decide +kernel
theorem dX9_init_7 : decode cX9_init 7 = .ok (.bipush 112, 2) := by decide +kernel
theorem dX9_init_9 : decode cX9_init 9 = .ok (.multianewarray 9 2, 4) := by decide +kernel
theorem dX9_init_13 : decode cX9_init 13 = .ok (.putfield 11, 3) := by decide +kernel
theorem dX9_init_16 : decode cX9_init 16 = .ok (.return_, 1) := by decide +kernel
theorem dX9_sendFrom_0 : decode cX9_sendFrom 0 = .ok (.iconst 0, 1) := by decide +kernel
theorem dX9_sendFrom_1 : decode cX9_sendFrom 1 = .ok (.istore_n 2, 1) := by decide +kernel
theorem dX9_sendFrom_2 : decode cX9_sendFrom 2 = .ok (.iload_n 2, 1) := by decide +kernel
theorem dX9_sendFrom_3 : decode cX9_sendFrom 3 = .ok (.bipush 8, 2) := by decide +kernel
theorem dX9_sendFrom_5 : decode cX9_sendFrom 5 = .ok (.if_icmp .ge 43, 3) := by decide +kernel
theorem dX9_sendFrom_8 : decode cX9_sendFrom 8 = .ok (.aload_n 0, 1) := by decide +kernel
theorem dX9_sendFrom_9 : decode cX9_sendFrom 9 = .ok (.getfield 11, 3) := by decide +kernel
theorem dX9_sendFrom_12 : decode cX9_sendFrom 12 = .ok (.iload_n 2, 1) := by decide +kernel
theorem dX9_sendFrom_13 : decode cX9_sendFrom 13 = .ok (.aaload, 1) := by decide +kernel
theorem dX9_sendFrom_14 : decode cX9_sendFrom 14 = .ok (.astore_n 3, 1) := by decide +kernel
theorem dX9_sendFrom_15 : decode cX9_sendFrom 15 = .ok (.iconst 0, 1) := by decide +kernel
theorem dX9_sendFrom_16 : decode cX9_sendFrom 16 = .ok (.istore 4, 2) := by decide +kernel
theorem dX9_sendFrom_18 : decode cX9_sendFrom 18 = .ok (.iload 4, 2) := by decide +kernel
theorem dX9_sendFrom_20 : decode cX9_sendFrom 20 = .ok (.bipush 112, 2) := by decide +kernel
theorem dX9_sendFrom_22 : decode cX9_sendFrom 22 = .ok (.if_icmp .ge 20, 3) := by decide +kernel
theorem dX9_sendFrom_25 : decode cX9_sendFrom 25 = .ok (.aload_n 3, 1) := by decide +kernel
theorem dX9_sendFrom_26 : decode cX9_sendFrom 26 = .ok (.iload 4, 2) := by decide +kernel
theorem dX9_sendFrom_28 : decode cX9_sendFrom 28 = .ok (.aload_n 1, 1) := by decide +kernel
theorem dX9_sendFrom_29 : decode cX9_sendFrom 29 = .ok (.iload_n 2, 1) := by decide +kernel
theorem dX9_sendFrom_30 : decode cX9_sendFrom 30 = .ok (.iload 4, 2) := by decide +kernel
theorem dX9_sendFrom_32 : decode cX9_sendFrom 32 = .ok (.invokevirtual 16, 3) := by decide +kernel
theorem dX9_sendFrom_35 : decode cX9_sendFrom 35 = .ok (.iastore, 1) := by decide +kernel
theorem dX9_sendFrom_36 : decode cX9_sendFrom 36 = .ok (.iinc 4 1, 3) := by decide +kernel
theorem dX9_sendFrom_39 : decode cX9_sendFrom 39 = .ok (.goto (-21), 3) := by decide +kernel
theorem dX9_sendFrom_42 : decode cX9_sendFrom 42 = .ok (.iinc 2 1, 3) := by decide +kernel
theorem dX9_sendFrom_45 : decode cX9_sendFrom 45 = .ok (.goto (-43), 3) := by decide +kernel
theorem dX9_sendFrom_48 : decode cX9_sendFrom 48 = .ok (.return_, 1) := by decide +kernel
theorem dX9_at_0 : decode cX9_at 0 = .ok (.iload_n 1, 1) := by decide +kernel
theorem dX9_at_1 : decode cX9_at 1 = .ok (.ifCond .lt 19, 3) := by decide +kernel
theorem dX9_at_4 : decode cX9_at 4 = .ok (.iload_n 1, 1) := by decide +kernel
theorem dX9_at_5 : decode cX9_at 5 = .ok (.bipush 8, 2) := by decide +kernel
theorem dX9_at_7 : decode cX9_at 7 = .ok (.if_icmp .ge 13, 3) := by decide +kernel
theorem dX9_at_10 : decode cX9_at 10 = .ok (.iload_n 2, 1) := by decide +kernel
theorem dX9_at_11 : decode cX9_at 11 = .ok (.ifCond .lt 9, 3) := by decide +kernel
theorem dX9_at_14 : decode cX9_at 14 = .ok (.iload_n 2, 1) := by decide +kernel
theorem dX9_at_15 : decode cX9_at 15 = .ok (.bipush 112, 2) := by decide +kernel
theorem dX9_at_17 : decode cX9_at 17 = .ok (.if_icmp .lt 7, 3) := by decide +kernel
theorem dX9_at_20 : decode cX9_at 20 = .ok (.iconst 0, 1) := by decide +kernel
theorem dX9_at_21 : decode cX9_at 21 = .ok (.goto 11, 3) := by decide +kernel
theorem dX9_at_24 : decode cX9_at 24 = .ok (.aload_n 0, 1) := by decide +kernel
theorem dX9_at_25 : decode cX9_at 25 = .ok (.getfield 11, 3) := by decide +kernel
theorem dX9_at_28 : decode cX9_at 28 = .ok (.iload_n 1, 1) := by decide +kernel
theorem dX9_at_29 : decode cX9_at 29 = .ok (.aaload, 1) := by decide +kernel
theorem dX9_at_30 : decode cX9_at 30 = .ok (.iload_n 2, 1) := by decide +kernel
theorem dX9_at_31 : decode cX9_at 31 = .ok (.iaload, 1) := by decide +kernel
theorem dX9_at_32 : decode cX9_at 32 = .ok (.ireturn, 1) := by decide +kernel
theorem dX9_sumFrom_0 : decode cX9_sumFrom 0 = .ok (.iconst 0, 1) := by decide +kernel
theorem dX9_sumFrom_1 : decode cX9_sumFrom 1 = .ok (.istore_n 3, 1) := by decide +kernel
theorem dX9_sumFrom_2 : decode cX9_sumFrom 2 = .ok (.iconst 0, 1) := by decide +kernel
theorem dX9_sumFrom_3 : decode cX9_sumFrom 3 = .ok (.istore 4, 2) := by decide +kernel
theorem dX9_sumFrom_5 : decode cX9_sumFrom 5 = .ok (.iload 4, 2) := by decide +kernel
theorem dX9_sumFrom_7 : decode cX9_sumFrom 7 = .ok (.bipush 8, 2) := by decide +kernel
theorem dX9_sumFrom_9 : decode cX9_sumFrom 9 = .ok (.if_icmp .ge 21, 3) := by decide +kernel
theorem dX9_sumFrom_12 : decode cX9_sumFrom 12 = .ok (.iload_n 3, 1) := by decide +kernel
theorem dX9_sumFrom_13 : decode cX9_sumFrom 13 = .ok (.aload_n 0, 1) := by decide +kernel
theorem dX9_sumFrom_14 : decode cX9_sumFrom 14 = .ok (.iload_n 1, 1) := by decide +kernel
theorem dX9_sumFrom_15 : decode cX9_sumFrom 15 = .ok (.iload_n 2, 1) := by decide +kernel
theorem dX9_sumFrom_16 : decode cX9_sumFrom 16 = .ok (.iload 4, 2) := by decide +kernel
theorem dX9_sumFrom_18 : decode cX9_sumFrom 18 = .ok (.iadd, 1) := by decide +kernel
theorem dX9_sumFrom_19 : decode cX9_sumFrom 19 = .ok (.invokevirtual 22, 3) := by decide +kernel
theorem dX9_sumFrom_22 : decode cX9_sumFrom 22 = .ok (.iadd, 1) := by decide +kernel
theorem dX9_sumFrom_23 : decode cX9_sumFrom 23 = .ok (.istore_n 3, 1) := by decide +kernel
theorem dX9_sumFrom_24 : decode cX9_sumFrom 24 = .ok (.iinc 4 1, 3) := by decide +kernel
theorem dX9_sumFrom_27 : decode cX9_sumFrom 27 = .ok (.goto (-22), 3) := by decide +kernel
theorem dX9_sumFrom_30 : decode cX9_sumFrom 30 = .ok (.iload_n 3, 1) := by decide +kernel
theorem dX9_sumFrom_31 : decode cX9_sumFrom 31 = .ok (.ireturn, 1) := by decide +kernel
theorem dX9_pulseOf_0 : decode cX9_pulseOf 0 = .ok (.iconst 0, 1) := by decide +kernel
theorem dX9_pulseOf_1 : decode cX9_pulseOf 1 = .ok (.istore_n 2, 1) := by decide +kernel
theorem dX9_pulseOf_2 : decode cX9_pulseOf 2 = .ok (.iconst 0, 1) := by decide +kernel
theorem dX9_pulseOf_3 : decode cX9_pulseOf 3 = .ok (.istore_n 3, 1) := by decide +kernel
theorem dX9_pulseOf_4 : decode cX9_pulseOf 4 = .ok (.iload_n 3, 1) := by decide +kernel
theorem dX9_pulseOf_5 : decode cX9_pulseOf 5 = .ok (.bipush 24, 2) := by decide +kernel
theorem dX9_pulseOf_7 : decode cX9_pulseOf 7 = .ok (.if_icmp .ge 39, 3) := by decide +kernel
theorem dX9_pulseOf_10 : decode cX9_pulseOf 10 = .ok (.aload_n 0, 1) := by decide +kernel
theorem dX9_pulseOf_11 : decode cX9_pulseOf 11 = .ok (.iload_n 1, 1) := by decide +kernel
theorem dX9_pulseOf_12 : decode cX9_pulseOf 12 = .ok (.iload_n 3, 1) := by decide +kernel
theorem dX9_pulseOf_13 : decode cX9_pulseOf 13 = .ok (.invokevirtual 22, 3) := by decide +kernel
theorem dX9_pulseOf_16 : decode cX9_pulseOf 16 = .ok (.bipush (-20), 2) := by decide +kernel
theorem dX9_pulseOf_18 : decode cX9_pulseOf 18 = .ok (.if_icmp .gt 9, 3) := by decide +kernel
theorem dX9_pulseOf_21 : decode cX9_pulseOf 21 = .ok (.iload_n 2, 1) := by decide +kernel
theorem dX9_pulseOf_22 : decode cX9_pulseOf 22 = .ok (.iconst 1, 1) := by decide +kernel
theorem dX9_pulseOf_23 : decode cX9_pulseOf 23 = .ok (.iadd, 1) := by decide +kernel
theorem dX9_pulseOf_24 : decode cX9_pulseOf 24 = .ok (.goto 4, 3) := by decide +kernel
theorem dX9_pulseOf_27 : decode cX9_pulseOf 27 = .ok (.iconst 0, 1) := by decide +kernel
theorem dX9_pulseOf_28 : decode cX9_pulseOf 28 = .ok (.istore_n 2, 1) := by decide +kernel
theorem dX9_pulseOf_29 : decode cX9_pulseOf 29 = .ok (.iload_n 2, 1) := by decide +kernel
theorem dX9_pulseOf_30 : decode cX9_pulseOf 30 = .ok (.iconst 4, 1) := by decide +kernel
theorem dX9_pulseOf_31 : decode cX9_pulseOf 31 = .ok (.if_icmp .ne 9, 3) := by decide +kernel
theorem dX9_pulseOf_34 : decode cX9_pulseOf 34 = .ok (.iload_n 3, 1) := by decide +kernel
theorem dX9_pulseOf_35 : decode cX9_pulseOf 35 = .ok (.iconst 4, 1) := by decide +kernel
theorem dX9_pulseOf_36 : decode cX9_pulseOf 36 = .ok (.isub, 1) := by decide +kernel
theorem dX9_pulseOf_37 : decode cX9_pulseOf 37 = .ok (.iconst 1, 1) := by decide +kernel
theorem dX9_pulseOf_38 : decode cX9_pulseOf 38 = .ok (.iadd, 1) := by decide +kernel
theorem dX9_pulseOf_39 : decode cX9_pulseOf 39 = .ok (.ireturn, 1) := by decide +kernel
theorem dX9_pulseOf_40 : decode cX9_pulseOf 40 = .ok (.iinc 3 1, 3) := by decide +kernel
theorem dX9_pulseOf_43 : decode cX9_pulseOf 43 = .ok (.goto (-39), 3) := by decide +kernel
theorem dX9_pulseOf_46 : decode cX9_pulseOf 46 = .ok (.iconst (-1), 1) := by decide +kernel
theorem dX9_pulseOf_47 : decode cX9_pulseOf 47 = .ok (.ireturn, 1) := by decide +kernel
theorem dX10_init_0 : decode cX10_init 0 = .ok (.aload_n 0, 1) := by decide +kernel
theorem dX10_init_1 : decode cX10_init 1 = .ok (.invokespecial 1, 3) := by decide +kernel
theorem dX10_init_4 : decode cX10_init 4 = .ok (.aload_n 0, 1) := by decide +kernel
theorem dX10_init_5 : decode cX10_init 5 = .ok (.new 7, 3) := by decide +kernel
theorem dX10_init_8 : decode cX10_init 8 = .ok (.dup, 1) := by decide +kernel
theorem dX10_init_9 : decode cX10_init 9 = .ok (.invokespecial 9, 3) := by decide +kernel
theorem dX10_init_12 : decode cX10_init 12 = .ok (.putfield 10, 3) := by decide +kernel
theorem dX10_init_15 : decode cX10_init 15 = .ok (.aload_n 0, 1) := by decide +kernel
theorem dX10_init_16 : decode cX10_init 16 = .ok (.new 16, 3) := by decide +kernel
theorem dX10_init_19 : decode cX10_init 19 = .ok (.dup, 1) := by decide +kernel
theorem dX10_init_20 : decode cX10_init 20 = .ok (.invokespecial 18, 3) := by decide +kernel
theorem dX10_init_23 : decode cX10_init 23 = .ok (.putfield 19, 3) := by decide +kernel
theorem dX10_init_26 : decode cX10_init 26 = .ok (.aload_n 0, 1) := by decide +kernel
theorem dX10_init_27 : decode cX10_init 27 = .ok (.new 23, 3) := by decide +kernel
theorem dX10_init_30 : decode cX10_init 30 = .ok (.dup, 1) := by decide +kernel
theorem dX10_init_31 : decode cX10_init 31 = .ok (.invokespecial 25, 3) := by decide +kernel
theorem dX10_init_34 : decode cX10_init 34 = .ok (.putfield 26, 3) := by decide +kernel
theorem dX10_init_37 : decode cX10_init 37 = .ok (.aload_n 0, 1) := by decide +kernel
theorem dX10_init_38 : decode cX10_init 38 = .ok (.new 30, 3) := by decide +kernel
theorem dX10_init_41 : decode cX10_init 41 = .ok (.dup, 1) := by decide +kernel
theorem dX10_init_42 : decode cX10_init 42 = .ok (.invokespecial 32, 3) := by decide +kernel
theorem dX10_init_45 : decode cX10_init 45 = .ok (.putfield 33, 3) := by decide +kernel
theorem dX10_init_48 : decode cX10_init 48 = .ok (.aload_n 0, 1) := by decide +kernel
theorem dX10_init_49 : decode cX10_init 49 = .ok (.new 37, 3) := by decide +kernel
theorem dX10_init_52 : decode cX10_init 52 = .ok (.dup, 1) := by decide +kernel
theorem dX10_init_53 : decode cX10_init 53 = .ok (.invokespecial 39, 3) := by decide +kernel
theorem dX10_init_56 : decode cX10_init 56 = .ok (.putfield 40, 3) := by decide +kernel
theorem dX10_init_59 : decode cX10_init 59 = .ok (.aload_n 0, 1) := by decide +kernel
theorem dX10_init_60 : decode cX10_init 60 = .ok (.new 44, 3) := by decide +kernel
theorem dX10_init_63 : decode cX10_init 63 = .ok (.dup, 1) := by decide +kernel
theorem dX10_init_64 : decode cX10_init 64 = .ok (.invokespecial 46, 3) := by decide +kernel
theorem dX10_init_67 : decode cX10_init 67 = .ok (.putfield 47, 3) := by decide +kernel
theorem dX10_init_70 : decode cX10_init 70 = .ok (.aload_n 0, 1) := by decide +kernel
theorem dX10_init_71 : decode cX10_init 71 = .ok (.new 51, 3) := by decide +kernel
theorem dX10_init_74 : decode cX10_init 74 = .ok (.dup, 1) := by decide +kernel
theorem dX10_init_75 : decode cX10_init 75 = .ok (.invokespecial 53, 3) := by decide +kernel
theorem dX10_init_78 : decode cX10_init 78 = .ok (.putfield 54, 3) := by decide +kernel
theorem dX10_init_81 : decode cX10_init 81 = .ok (.aload_n 0, 1) := by decide +kernel
theorem dX10_init_82 : decode cX10_init 82 = .ok (.new 58, 3) := by decide +kernel
theorem dX10_init_85 : decode cX10_init 85 = .ok (.dup, 1) := by decide +kernel
theorem dX10_init_86 : decode cX10_init 86 = .ok (.invokespecial 60, 3) := by decide +kernel
theorem dX10_init_89 : decode cX10_init 89 = .ok (.putfield 61, 3) := by decide +kernel
theorem dX10_init_92 : decode cX10_init 92 = .ok (.aload_n 0, 1) := by decide +kernel
theorem dX10_init_93 : decode cX10_init 93 = .ok (.new 65, 3) := by decide +kernel
theorem dX10_init_96 : decode cX10_init 96 = .ok (.dup, 1) := by decide +kernel
theorem dX10_init_97 : decode cX10_init 97 = .ok (.invokespecial 67, 3) := by decide +kernel
theorem dX10_init_100 : decode cX10_init 100 = .ok (.putfield 68, 3) := by decide +kernel
theorem dX10_init_103 : decode cX10_init 103 = .ok (.aload_n 0, 1) := by decide +kernel
theorem dX10_init_104 : decode cX10_init 104 = .ok (.new 72, 3) := by decide +kernel
theorem dX10_init_107 : decode cX10_init 107 = .ok (.dup, 1) := by decide +kernel
theorem dX10_init_108 : decode cX10_init 108 = .ok (.invokespecial 74, 3) := by decide +kernel
theorem dX10_init_111 : decode cX10_init 111 = .ok (.putfield 75, 3) := by decide +kernel
theorem dX10_init_114 : decode cX10_init 114 = .ok (.return_, 1) := by decide +kernel
theorem dX10_setSegment_0 : decode cX10_setSegment 0 = .ok (.iload_n 1, 1) := by decide +kernel
theorem dX10_setSegment_1 : decode cX10_setSegment 1 = .ok (.iload_n 2, 1) := by decide +kernel
theorem dX10_setSegment_2 : decode cX10_setSegment 2 = .ok (.invokestatic 79, 3) := by decide +kernel
theorem dX10_setSegment_5 : decode cX10_setSegment 5 = .ok (.ifCond .ne 6, 3) := by decide +kernel
theorem dX10_setSegment_8 : decode cX10_setSegment 8 = .ok (.ldc 83, 2) := by decide +kernel
theorem dX10_setSegment_10 : decode cX10_setSegment 10 = .ok (.ireturn, 1) := by decide +kernel
theorem dX10_setSegment_11 : decode cX10_setSegment 11 = .ok (.iload_n 3, 1) := by decide +kernel
theorem dX10_setSegment_12 : decode cX10_setSegment 12 = .ok (.iload 4, 2) := by decide +kernel
theorem dX10_setSegment_14 : decode cX10_setSegment 14 = .ok (.iload 5, 2) := by decide +kernel
theorem dX10_setSegment_16 : decode cX10_setSegment 16 = .ok (.invokestatic 84, 3) := by decide +kernel
theorem dX10_setSegment_19 : decode cX10_setSegment 19 = .ok (.ifCond .ne 6, 3) := by decide +kernel
theorem dX10_setSegment_22 : decode cX10_setSegment 22 = .ok (.ldc 88, 2) := by decide +kernel
theorem dX10_setSegment_24 : decode cX10_setSegment 24 = .ok (.ireturn, 1) := by decide +kernel
theorem dX10_setSegment_25 : decode cX10_setSegment 25 = .ok (.iload_n 1, 1) := by decide +kernel
theorem dX10_setSegment_26 : decode cX10_setSegment 26 = .ok (.iload_n 2, 1) := by decide +kernel
theorem dX10_setSegment_27 : decode cX10_setSegment 27 = .ok (.invokestatic 89, 3) := by decide +kernel
theorem dX10_setSegment_30 : decode cX10_setSegment 30 = .ok (.istore 6, 2) := by decide +kernel
theorem dX10_setSegment_32 : decode cX10_setSegment 32 = .ok (.aload_n 0, 1) := by decide +kernel
theorem dX10_setSegment_33 : decode cX10_setSegment 33 = .ok (.getfield 10, 3) := by decide +kernel
theorem dX10_setSegment_36 : decode cX10_setSegment 36 = .ok (.getfield 93, 3) := by decide +kernel
theorem dX10_setSegment_39 : decode cX10_setSegment 39 = .ok (.iload 6, 2) := by decide +kernel
theorem dX10_setSegment_41 : decode cX10_setSegment 41 = .ok (.iaload, 1) := by decide +kernel
theorem dX10_setSegment_42 : decode cX10_setSegment 42 = .ok (.istore 7, 2) := by decide +kernel
theorem dX10_setSegment_44 : decode cX10_setSegment 44 = .ok (.aload_n 0, 1) := by decide +kernel
theorem dX10_setSegment_45 : decode cX10_setSegment 45 = .ok (.getfield 10, 3) := by decide +kernel
theorem dX10_setSegment_48 : decode cX10_setSegment 48 = .ok (.iload 6, 2) := by decide +kernel
theorem dX10_setSegment_50 : decode cX10_setSegment 50 = .ok (.iload_n 3, 1) := by decide +kernel
theorem dX10_setSegment_51 : decode cX10_setSegment 51 = .ok (.iload 4, 2) := by decide +kernel
theorem dX10_setSegment_53 : decode cX10_setSegment 53 = .ok (.iload 5, 2) := by decide +kernel
theorem dX10_setSegment_55 : decode cX10_setSegment 55 = .ok (.invokevirtual 97, 3) := by decide +kernel
theorem dX10_setSegment_58 : decode cX10_setSegment 58 = .ok (.pop, 1) := by decide +kernel
theorem dX10_setSegment_59 : decode cX10_setSegment 59 = .ok (.iload 7, 2) := by decide +kernel
theorem dX10_setSegment_61 : decode cX10_setSegment 61 = .ok (.ireturn, 1) := by decide +kernel
theorem dX10_fill_0 : decode cX10_fill 0 = .ok (.iload_n 1, 1) := by decide +kernel
theorem dX10_fill_1 : decode cX10_fill 1 = .ok (.invokestatic 101, 3) := by decide +kernel
theorem dX10_fill_4 : decode cX10_fill 4 = .ok (.ifCond .ne 6, 3) := by decide +kernel
theorem dX10_fill_7 : decode cX10_fill 7 = .ok (.ldc 83, 2) := by decide +kernel
theorem dX10_fill_9 : decode cX10_fill 9 = .ok (.ireturn, 1) := by decide +kernel
theorem dX10_fill_10 : decode cX10_fill 10 = .ok (.iload_n 2, 1) := by decide +kernel
theorem dX10_fill_11 : decode cX10_fill 11 = .ok (.iload_n 3, 1) := by decide +kernel
theorem dX10_fill_12 : decode cX10_fill 12 = .ok (.iload 4, 2) := by decide +kernel
theorem dX10_fill_14 : decode cX10_fill 14 = .ok (.invokestatic 84, 3) := by decide +kernel
theorem dX10_fill_17 : decode cX10_fill 17 = .ok (.ifCond .ne 6, 3) := by decide +kernel
theorem dX10_fill_20 : decode cX10_fill 20 = .ok (.ldc 88, 2) := by decide +kernel
theorem dX10_fill_22 : decode cX10_fill 22 = .ok (.ireturn, 1) := by decide +kernel
theorem dX10_fill_23 : decode cX10_fill 23 = .ok (.iconst 0, 1) := by decide +kernel
theorem dX10_fill_24 : decode cX10_fill 24 = .ok (.istore 5, 2) := by decide +kernel
theorem dX10_fill_26 : decode cX10_fill 26 = .ok (.iconst 0, 1) := by decide +kernel
theorem dX10_fill_27 : decode cX10_fill 27 = .ok (.istore 6, 2) := by decide +kernel
theorem dX10_fill_29 : decode cX10_fill 29 = .ok (.iload 6, 2) := by decide +kernel
theorem dX10_fill_31 : decode cX10_fill 31 = .ok (.bipush 10, 2) := by decide +kernel
theorem dX10_fill_33 : decode cX10_fill 33 = .ok (.if_icmp .ge 32, 3) := by decide +kernel
theorem dX10_fill_36 : decode cX10_fill 36 = .ok (.aload_n 0, 1) := by decide +kernel
theorem dX10_fill_37 : decode cX10_fill 37 = .ok (.getfield 10, 3) := by decide +kernel
theorem dX10_fill_40 : decode cX10_fill 40 = .ok (.iload_n 1, 1) := by decide +kernel
theorem dX10_fill_41 : decode cX10_fill 41 = .ok (.iload 6, 2) := by decide +kernel
theorem dX10_fill_43 : decode cX10_fill 43 = .ok (.invokestatic 89, 3) := by decide +kernel
theorem dX10_fill_46 : decode cX10_fill 46 = .ok (.iload_n 2, 1) := by decide +kernel
theorem dX10_fill_47 : decode cX10_fill 47 = .ok (.iload_n 3, 1) := by decide +kernel
theorem dX10_fill_48 : decode cX10_fill 48 = .ok (.iload 4, 2) := by decide +kernel
theorem dX10_fill_50 : decode cX10_fill 50 = .ok (.invokevirtual 97, 3) := by decide +kernel
theorem dX10_fill_53 : decode cX10_fill 53 = .ok (.ifCond .eq 6, 3) := by decide +kernel
theorem dX10_fill_56 : decode cX10_fill 56 = .ok (.iinc 5 1, 3) := by decide +kernel
theorem dX10_fill_59 : decode cX10_fill 59 = .ok (.iinc 6 1, 3) := by decide +kernel
theorem dX10_fill_62 : decode cX10_fill 62 = .ok (.goto (-33), 3) := by decide +kernel
theorem dX10_fill_65 : decode cX10_fill 65 = .ok (.iload 5, 2) := by decide +kernel
theorem dX10_fill_67 : decode cX10_fill 67 = .ok (.ireturn, 1) := by decide +kernel
theorem dX10_setLine_0 : decode cX10_setLine 0 = .ok (.iload_n 1, 1) := by decide +kernel
theorem dX10_setLine_1 : decode cX10_setLine 1 = .ok (.invokestatic 101, 3) := by decide +kernel
theorem dX10_setLine_4 : decode cX10_setLine 4 = .ok (.ifCond .ne 6, 3) := by decide +kernel
theorem dX10_setLine_7 : decode cX10_setLine 7 = .ok (.ldc 83, 2) := by decide +kernel
theorem dX10_setLine_9 : decode cX10_setLine 9 = .ok (.ireturn, 1) := by decide +kernel
theorem dX10_setLine_10 : decode cX10_setLine 10 = .ok (.iload_n 2, 1) := by decide +kernel
theorem dX10_setLine_11 : decode cX10_setLine 11 = .ok (.bipush (-4), 2) := by decide +kernel
theorem dX10_setLine_13 : decode cX10_setLine 13 = .ok (.iconst 4, 1) := by decide +kernel
theorem dX10_setLine_14 : decode cX10_setLine 14 = .ok (.invokestatic 105, 3) := by decide +kernel
theorem dX10_setLine_17 : decode cX10_setLine 17 = .ok (.ifCond .eq 34, 3) := by decide +kernel
theorem dX10_setLine_20 : decode cX10_setLine 20 = .ok (.iload_n 3, 1) := by decide +kernel
theorem dX10_setLine_21 : decode cX10_setLine 21 = .ok (.iconst 0, 1) := by decide +kernel
theorem dX10_setLine_22 : decode cX10_setLine 22 = .ok (.bipush 40, 2) := by decide +kernel
theorem dX10_setLine_24 : decode cX10_setLine 24 = .ok (.invokestatic 105, 3) := by decide +kernel
theorem dX10_setLine_27 : decode cX10_setLine 27 = .ok (.ifCond .eq 24, 3) := by decide +kernel
theorem dX10_setLine_30 : decode cX10_setLine 30 = .ok (.iload 4, 2) := by decide +kernel
theorem dX10_setLine_32 : decode cX10_setLine 32 = .ok (.iconst 0, 1) := by decide +kernel
theorem dX10_setLine_33 : decode cX10_setLine 33 = .ok (.iconst 3, 1) := by decide +kernel
theorem dX10_setLine_34 : decode cX10_setLine 34 = .ok (.invokestatic 105, 3) := by decide +kernel
theorem dX10_setLine_37 : decode cX10_setLine 37 = .ok (.ifCond .eq 14, 3) := by decide +kernel
theorem dX10_setLine_40 : decode cX10_setLine 40 = .ok (.iload 5, 2) := by decide +kernel
theorem dX10_setLine_42 : decode cX10_setLine 42 = .ok (.iconst 0, 1) := by decide +kernel
theorem dX10_setLine_43 : decode cX10_setLine 43 = .ok (.bipush 9, 2) := by decide +kernel
theorem dX10_setLine_45 : decode cX10_setLine 45 = .ok (.invokestatic 105, 3) := by decide +kernel
theorem dX10_setLine_48 : decode cX10_setLine 48 = .ok (.ifCond .ne 6, 3) := by decide +kernel
theorem dX10_setLine_51 : decode cX10_setLine 51 = .ok (.ldc 88, 2) := by decide +kernel
theorem dX10_setLine_53 : decode cX10_setLine 53 = .ok (.ireturn, 1) := by decide +kernel
theorem dX10_setLine_54 : decode cX10_setLine 54 = .ok (.aload_n 0, 1) := by decide +kernel
theorem dX10_setLine_55 : decode cX10_setLine 55 = .ok (.getfield 10, 3) := by decide +kernel
theorem dX10_setLine_58 : decode cX10_setLine 58 = .ok (.getfield 108, 3) := by decide +kernel
theorem dX10_setLine_61 : decode cX10_setLine 61 = .ok (.iload_n 1, 1) := by decide +kernel
theorem dX10_setLine_62 : decode cX10_setLine 62 = .ok (.iaload, 1) := by decide +kernel
theorem dX10_setLine_63 : decode cX10_setLine 63 = .ok (.istore 6, 2) := by decide +kernel
theorem dX10_setLine_65 : decode cX10_setLine 65 = .ok (.aload_n 0, 1) := by decide +kernel
theorem dX10_setLine_66 : decode cX10_setLine 66 = .ok (.getfield 10, 3) := by decide +kernel
theorem dX10_setLine_69 : decode cX10_setLine 69 = .ok (.getfield 108, 3) := by decide +kernel
theorem dX10_setLine_72 : decode cX10_setLine 72 = .ok (.iload_n 1, 1) := by decide +kernel
theorem dX10_setLine_73 : decode cX10_setLine 73 = .ok (.iload_n 2, 1) := by decide +kernel
theorem dX10_setLine_74 : decode cX10_setLine 74 = .ok (.iastore, 1) := by decide +kernel
theorem dX10_setLine_75 : decode cX10_setLine 75 = .ok (.aload_n 0, 1) := by decide +kernel
theorem dX10_setLine_76 : decode cX10_setLine 76 = .ok (.getfield 10, 3) := by decide +kernel
theorem dX10_setLine_79 : decode cX10_setLine 79 = .ok (.getfield 111, 3) := by decide +kernel
theorem dX10_setLine_82 : decode cX10_setLine 82 = .ok (.iload_n 1, 1) := by decide +kernel
theorem dX10_setLine_83 : decode cX10_setLine 83 = .ok (.iload_n 3, 1) := by decide +kernel
theorem dX10_setLine_84 : decode cX10_setLine 84 = .ok (.iastore, 1) := by decide +kernel
theorem dX10_setLine_85 : decode cX10_setLine 85 = .ok (.aload_n 0, 1) := by decide +kernel
theorem dX10_setLine_86 : decode cX10_setLine 86 = .ok (.getfield 10, 3) := by decide +kernel
theorem dX10_setLine_89 : decode cX10_setLine 89 = .ok (.getfield 114, 3) := by decide +kernel
theorem dX10_setLine_92 : decode cX10_setLine 92 = .ok (.iload_n 1, 1) := by decide +kernel
theorem dX10_setLine_93 : decode cX10_setLine 93 = .ok (.iload 4, 2) := by decide +kernel
theorem dX10_setLine_95 : decode cX10_setLine 95 = .ok (.iastore, 1) := by decide +kernel
theorem dX10_setLine_96 : decode cX10_setLine 96 = .ok (.aload_n 0, 1) := by decide +kernel
theorem dX10_setLine_97 : decode cX10_setLine 97 = .ok (.getfield 10, 3) := by decide +kernel
theorem dX10_setLine_100 : decode cX10_setLine 100 = .ok (.getfield 116, 3) := by decide +kernel
theorem dX10_setLine_103 : decode cX10_setLine 103 = .ok (.iload_n 1, 1) := by decide +kernel
theorem dX10_setLine_104 : decode cX10_setLine 104 = .ok (.iload 5, 2) := by decide +kernel
theorem dX10_setLine_106 : decode cX10_setLine 106 = .ok (.iastore, 1) := by decide +kernel
theorem dX10_setLine_107 : decode cX10_setLine 107 = .ok (.aload_n 0, 1) := by decide +kernel
theorem dX10_setLine_108 : decode cX10_setLine 108 = .ok (.getfield 10, 3) := by decide +kernel
theorem dX10_setLine_111 : decode cX10_setLine 111 = .ok (.getfield 119, 3) := by decide +kernel
theorem dX10_setLine_114 : decode cX10_setLine 114 = .ok (.iload_n 1, 1) := by decide +kernel
theorem dX10_setLine_115 : decode cX10_setLine 115 = .ok (.iconst 0, 1) := by decide +kernel
theorem dX10_setLine_116 : decode cX10_setLine 116 = .ok (.bastore, 1) := by decide +kernel
theorem dX10_setLine_117 : decode cX10_setLine 117 = .ok (.iload 6, 2) := by decide +kernel
theorem dX10_setLine_119 : decode cX10_setLine 119 = .ok (.ireturn, 1) := by decide +kernel
theorem dX10_miss_0 : decode cX10_miss 0 = .ok (.iload_n 1, 1) := by decide +kernel
theorem dX10_miss_1 : decode cX10_miss 1 = .ok (.invokestatic 101, 3) := by decide +kernel
theorem dX10_miss_4 : decode cX10_miss 4 = .ok (.ifCond .ne 6, 3) := by decide +kernel
theorem dX10_miss_7 : decode cX10_miss 7 = .ok (.ldc 83, 2) := by decide +kernel
theorem dX10_miss_9 : decode cX10_miss 9 = .ok (.ireturn, 1) := by decide +kernel
theorem dX10_miss_10 : decode cX10_miss 10 = .ok (.aload_n 0, 1) := by decide +kernel
theorem dX10_miss_11 : decode cX10_miss 11 = .ok (.getfield 10, 3) := by decide +kernel
theorem dX10_miss_14 : decode cX10_miss 14 = .ok (.getfield 119, 3) := by decide +kernel
theorem dX10_miss_17 : decode cX10_miss 17 = .ok (.iload_n 1, 1) := by decide +kernel
theorem dX10_miss_18 : decode cX10_miss 18 = .ok (.baload, 1) := by decide +kernel
theorem dX10_miss_19 : decode cX10_miss 19 = .ok (.invokestatic 123, 3) := by decide +kernel
theorem dX10_miss_22 : decode cX10_miss 22 = .ok (.istore_n 3, 1) := by decide +kernel
theorem dX10_miss_23 : decode cX10_miss 23 = .ok (.aload_n 0, 1) := by decide +kernel
theorem dX10_miss_24 : decode cX10_miss 24 = .ok (.getfield 10, 3) := by decide +kernel
theorem dX10_miss_27 : decode cX10_miss 27 = .ok (.getfield 119, 3) := by decide +kernel
theorem dX10_miss_30 : decode cX10_miss 30 = .ok (.iload_n 1, 1) := by decide +kernel
theorem dX10_miss_31 : decode cX10_miss 31 = .ok (.iload_n 2, 1) := by decide +kernel
theorem dX10_miss_32 : decode cX10_miss 32 = .ok (.bastore, 1) := by decide +kernel
theorem dX10_miss_33 : decode cX10_miss 33 = .ok (.iload_n 3, 1) := by decide +kernel
theorem dX10_miss_34 : decode cX10_miss 34 = .ok (.ireturn, 1) := by decide +kernel
theorem dX10_setStandard_0 : decode cX10_setStandard 0 = .ok (.iload_n 1, 1) := by decide +kernel
theorem dX10_setStandard_1 : decode cX10_setStandard 1 = .ok (.iconst 0, 1) := by decide +kernel
theorem dX10_setStandard_2 : decode cX10_setStandard 2 = .ok (.iconst 1, 1) := by decide +kernel
theorem dX10_setStandard_3 : decode cX10_setStandard 3 = .ok (.invokestatic 105, 3) := by decide +kernel
theorem dX10_setStandard_6 : decode cX10_setStandard 6 = .ok (.ifCond .ne 6, 3) := by decide +kernel
theorem dX10_setStandard_9 : decode cX10_setStandard 9 = .ok (.ldc 88, 2) := by decide +kernel
theorem dX10_setStandard_11 : decode cX10_setStandard 11 = .ok (.ireturn, 1) := by decide +kernel
theorem dX10_setStandard_12 : decode cX10_setStandard 12 = .ok (.aload_n 0, 1) := by decide +kernel
theorem dX10_setStandard_13 : decode cX10_setStandard 13 = .ok (.getfield 10, 3) := by decide +kernel
theorem dX10_setStandard_16 : decode cX10_setStandard 16 = .ok (.getfield 127, 3) := by decide +kernel
theorem dX10_setStandard_19 : decode cX10_setStandard 19 = .ok (.istore_n 2, 1) := by decide +kernel
theorem dX10_setStandard_20 : decode cX10_setStandard 20 = .ok (.aload_n 0, 1) := by decide +kernel
theorem dX10_setStandard_21 : decode cX10_setStandard 21 = .ok (.getfield 10, 3) := by decide +kernel
theorem dX10_setStandard_24 : decode cX10_setStandard 24 = .ok (.iload_n 1, 1) := by decide +kernel
theorem dX10_setStandard_25 : decode cX10_setStandard 25 = .ok (.putfield 127, 3) := by decide +kernel
theorem dX10_setStandard_28 : decode cX10_setStandard 28 = .ok (.iload_n 2, 1) := by decide +kernel
theorem dX10_setStandard_29 : decode cX10_setStandard 29 = .ok (.ireturn, 1) := by decide +kernel
theorem dX10_type_0 : decode cX10_type 0 = .ok (.aload_n 0, 1) := by decide +kernel
theorem dX10_type_1 : decode cX10_type 1 = .ok (.getfield 19, 3) := by decide +kernel
theorem dX10_type_4 : decode cX10_type 4 = .ok (.iload_n 1, 1) := by decide +kernel
theorem dX10_type_5 : decode cX10_type 5 = .ok (.invokevirtual 131, 3) := by decide +kernel
theorem dX10_type_8 : decode cX10_type 8 = .ok (.ifCond .eq 13, 3) := by decide +kernel
theorem dX10_type_11 : decode cX10_type 11 = .ok (.aload_n 0, 1) := by decide +kernel
theorem dX10_type_12 : decode cX10_type 12 = .ok (.getfield 19, 3) := by decide +kernel
theorem dX10_type_15 : decode cX10_type 15 = .ok (.getfield 135, 3) := by decide +kernel
theorem dX10_type_18 : decode cX10_type 18 = .ok (.goto 5, 3) := by decide +kernel
theorem dX10_type_21 : decode cX10_type 21 = .ok (.ldc 138, 2) := by decide +kernel
theorem dX10_type_23 : decode cX10_type 23 = .ok (.ireturn, 1) := by decide +kernel
theorem dX10_clearText_0 : decode cX10_clearText 0 = .ok (.aload_n 0, 1) := by decide +kernel
theorem dX10_clearText_1 : decode cX10_clearText 1 = .ok (.getfield 19, 3) := by decide +kernel
theorem dX10_clearText_4 : decode cX10_clearText 4 = .ok (.getfield 135, 3) := by decide +kernel
theorem dX10_clearText_7 : decode cX10_clearText 7 = .ok (.istore_n 1, 1) := by decide +kernel
theorem dX10_clearText_8 : decode cX10_clearText 8 = .ok (.aload_n 0, 1) := by decide +kernel
theorem dX10_clearText_9 : decode cX10_clearText 9 = .ok (.getfield 19, 3) := by decide +kernel
theorem dX10_clearText_12 : decode cX10_clearText 12 = .ok (.iconst 0, 1) := by decide +kernel
theorem dX10_clearText_13 : decode cX10_clearText 13 = .ok (.putfield 135, 3) := by decide +kernel
theorem dX10_clearText_16 : decode cX10_clearText 16 = .ok (.iload_n 1, 1) := by decide +kernel
theorem dX10_clearText_17 : decode cX10_clearText 17 = .ok (.ireturn, 1) := by decide +kernel
theorem dX10_readBars_0 : decode cX10_readBars 0 = .ok (.iload_n 1, 1) := by decide +kernel
theorem dX10_readBars_1 : decode cX10_readBars 1 = .ok (.invokestatic 101, 3) := by decide +kernel
theorem dX10_readBars_4 : decode cX10_readBars 4 = .ok (.ifCond .ne 6, 3) := by decide +kernel
theorem dX10_readBars_7 : decode cX10_readBars 7 = .ok (.ldc 83, 2) := by decide +kernel
theorem dX10_readBars_9 : decode cX10_readBars 9 = .ok (.ireturn, 1) := by decide +kernel
theorem dX10_readBars_10 : decode cX10_readBars 10 = .ok (.aload_n 0, 1) := by decide +kernel
theorem dX10_readBars_11 : decode cX10_readBars 11 = .ok (.getfield 19, 3) := by decide +kernel
theorem dX10_readBars_14 : decode cX10_readBars 14 = .ok (.invokevirtual 139, 3) := by decide +kernel
theorem dX10_readBars_17 : decode cX10_readBars 17 = .ok (.istore_n 2, 1) := by decide +kernel
theorem dX10_readBars_18 : decode cX10_readBars 18 = .ok (.iload_n 2, 1) := by decide +kernel
theorem dX10_readBars_19 : decode cX10_readBars 19 = .ok (.iconst (-1), 1) := by decide +kernel
theorem dX10_readBars_20 : decode cX10_readBars 20 = .ok (.if_icmp .eq 8, 3) := by decide +kernel
theorem dX10_readBars_23 : decode cX10_readBars 23 = .ok (.bipush (-100), 2) := by decide +kernel
theorem dX10_readBars_25 : decode cX10_readBars 25 = .ok (.iload_n 2, 1) := by decide +kernel
theorem dX10_readBars_26 : decode cX10_readBars 26 = .ok (.isub, 1) := by decide +kernel
theorem dX10_readBars_27 : decode cX10_readBars 27 = .ok (.ireturn, 1) := by decide +kernel
theorem dX10_readBars_28 : decode cX10_readBars 28 = .ok (.iconst 0, 1) := by decide +kernel
theorem dX10_readBars_29 : decode cX10_readBars 29 = .ok (.istore_n 3, 1) := by decide +kernel
theorem dX10_readBars_30 : decode cX10_readBars 30 = .ok (.iload_n 3, 1) := by decide +kernel
theorem dX10_readBars_31 : decode cX10_readBars 31 = .ok (.bipush 10, 2) := by decide +kernel
theorem dX10_readBars_33 : decode cX10_readBars 33 = .ok (.if_icmp .ge 26, 3) := by decide +kernel
theorem dX10_readBars_36 : decode cX10_readBars 36 = .ok (.aload_n 0, 1) := by decide +kernel
theorem dX10_readBars_37 : decode cX10_readBars 37 = .ok (.getfield 19, 3) := by decide +kernel
theorem dX10_readBars_40 : decode cX10_readBars 40 = .ok (.aload_n 0, 1) := by decide +kernel
theorem dX10_readBars_41 : decode cX10_readBars 41 = .ok (.getfield 10, 3) := by decide +kernel
theorem dX10_readBars_44 : decode cX10_readBars 44 = .ok (.iload_n 1, 1) := by decide +kernel
theorem dX10_readBars_45 : decode cX10_readBars 45 = .ok (.iload_n 3, 1) := by decide +kernel
theorem dX10_readBars_46 : decode cX10_readBars 46 = .ok (.invokestatic 89, 3) := by decide +kernel
theorem dX10_readBars_49 : decode cX10_readBars 49 = .ok (.iload_n 3, 1) := by decide +kernel
theorem dX10_readBars_50 : decode cX10_readBars 50 = .ok (.invokevirtual 143, 3) := by decide +kernel
theorem dX10_readBars_53 : decode cX10_readBars 53 = .ok (.iinc 3 1, 3) := by decide +kernel
theorem dX10_readBars_56 : decode cX10_readBars 56 = .ok (.goto (-26), 3) := by decide +kernel
theorem dX10_readBars_59 : decode cX10_readBars 59 = .ok (.aload_n 0, 1) := by decide +kernel
theorem dX10_readBars_60 : decode cX10_readBars 60 = .ok (.getfield 19, 3) := by decide +kernel
theorem dX10_readBars_63 : decode cX10_readBars 63 = .ok (.getfield 147, 3) := by decide +kernel
theorem dX10_readBars_66 : decode cX10_readBars 66 = .ok (.ireturn, 1) := by decide +kernel
theorem dX10_sample_0 : decode cX10_sample 0 = .ok (.iload_n 1, 1) := by decide +kernel
theorem dX10_sample_1 : decode cX10_sample 1 = .ok (.invokestatic 101, 3) := by decide +kernel
theorem dX10_sample_4 : decode cX10_sample 4 = .ok (.ifCond .ne 6, 3) := by decide +kernel
theorem dX10_sample_7 : decode cX10_sample 7 = .ok (.ldc 83, 2) := by decide +kernel
theorem dX10_sample_9 : decode cX10_sample 9 = .ok (.ireturn, 1) := by decide +kernel
theorem dX10_sample_10 : decode cX10_sample 10 = .ok (.iload_n 2, 1) := by decide +kernel
theorem dX10_sample_11 : decode cX10_sample 11 = .ok (.iconst 0, 1) := by decide +kernel
theorem dX10_sample_12 : decode cX10_sample 12 = .ok (.bipush 111, 2) := by decide +kernel
theorem dX10_sample_14 : decode cX10_sample 14 = .ok (.invokestatic 105, 3) := by decide +kernel
theorem dX10_sample_17 : decode cX10_sample 17 = .ok (.ifCond .ne 6, 3) := by decide +kernel
theorem dX10_sample_20 : decode cX10_sample 20 = .ok (.ldc 88, 2) := by decide +kernel
theorem dX10_sample_22 : decode cX10_sample 22 = .ok (.ireturn, 1) := by decide +kernel
theorem dX10_sample_23 : decode cX10_sample 23 = .ok (.aload_n 0, 1) := by decide +kernel
theorem dX10_sample_24 : decode cX10_sample 24 = .ok (.getfield 10, 3) := by decide +kernel
theorem dX10_sample_27 : decode cX10_sample 27 = .ok (.iload_n 1, 1) := by decide +kernel
theorem dX10_sample_28 : decode cX10_sample 28 = .ok (.iload_n 2, 1) := by decide +kernel
theorem dX10_sample_29 : decode cX10_sample 29 = .ok (.invokevirtual 150, 3) := by decide +kernel
theorem dX10_sample_32 : decode cX10_sample 32 = .ok (.ireturn, 1) := by decide +kernel
theorem dX10_set_0 : decode cX10_set 0 = .ok (.iload_n 1, 1) := by decide +kernel
theorem dX10_set_1 : decode cX10_set 1 = .ok (.iconst 0, 1) := by decide +kernel
theorem dX10_set_2 : decode cX10_set 2 = .ok (.iconst 3, 1) := by decide +kernel
theorem dX10_set_3 : decode cX10_set 3 = .ok (.invokestatic 105, 3) := by decide +kernel
theorem dX10_set_6 : decode cX10_set 6 = .ok (.ifCond .ne 6, 3) := by decide +kernel
theorem dX10_set_9 : decode cX10_set 9 = .ok (.ldc 83, 2) := by decide +kernel
theorem dX10_set_11 : decode cX10_set 11 = .ok (.ireturn, 1) := by decide +kernel
theorem dX10_set_12 : decode cX10_set 12 = .ok (.aload_n 0, 1) := by decide +kernel
theorem dX10_set_13 : decode cX10_set 13 = .ok (.getfield 26, 3) := by decide +kernel
theorem dX10_set_16 : decode cX10_set 16 = .ok (.iload_n 1, 1) := by decide +kernel
theorem dX10_set_17 : decode cX10_set 17 = .ok (.iload_n 2, 1) := by decide +kernel
theorem dX10_set_18 : decode cX10_set 18 = .ok (.invokevirtual 153, 3) := by decide +kernel
theorem dX10_set_21 : decode cX10_set 21 = .ok (.ifCond .ne 6, 3) := by decide +kernel
theorem dX10_set_24 : decode cX10_set 24 = .ok (.ldc 88, 2) := by decide +kernel
theorem dX10_set_26 : decode cX10_set 26 = .ok (.ireturn, 1) := by decide +kernel
theorem dX10_set_27 : decode cX10_set 27 = .ok (.aload_n 0, 1) := by decide +kernel
theorem dX10_set_28 : decode cX10_set 28 = .ok (.getfield 26, 3) := by decide +kernel
theorem dX10_set_31 : decode cX10_set 31 = .ok (.getfield 156, 3) := by decide +kernel
theorem dX10_set_34 : decode cX10_set 34 = .ok (.iload_n 1, 1) := by decide +kernel
theorem dX10_set_35 : decode cX10_set 35 = .ok (.iaload, 1) := by decide +kernel
theorem dX10_set_36 : decode cX10_set 36 = .ok (.istore_n 3, 1) := by decide +kernel
theorem dX10_set_37 : decode cX10_set 37 = .ok (.aload_n 0, 1) := by decide +kernel
theorem dX10_set_38 : decode cX10_set 38 = .ok (.getfield 26, 3) := by decide +kernel
theorem dX10_set_41 : decode cX10_set 41 = .ok (.getfield 156, 3) := by decide +kernel
theorem dX10_set_44 : decode cX10_set 44 = .ok (.iload_n 1, 1) := by decide +kernel
theorem dX10_set_45 : decode cX10_set 45 = .ok (.iload_n 2, 1) := by decide +kernel
theorem dX10_set_46 : decode cX10_set 46 = .ok (.iastore, 1) := by decide +kernel
theorem dX10_set_47 : decode cX10_set 47 = .ok (.iload_n 3, 1) := by decide +kernel
theorem dX10_set_48 : decode cX10_set 48 = .ok (.ireturn, 1) := by decide +kernel
theorem dX10_decode_0 : decode cX10_decode 0 = .ok (.aload_n 0, 1) := by decide +kernel
theorem dX10_decode_1 : decode cX10_decode 1 = .ok (.getfield 33, 3) := by decide +kernel
theorem dX10_decode_4 : decode cX10_decode 4 = .ok (.aload_n 0, 1) := by decide +kernel
theorem dX10_decode_5 : decode cX10_decode 5 = .ok (.getfield 10, 3) := by decide +kernel
theorem dX10_decode_8 : decode cX10_decode 8 = .ok (.invokevirtual 159, 3) := by decide +kernel
theorem dX10_decode_11 : decode cX10_decode 11 = .ok (.aload_n 0, 1) := by decide +kernel
theorem dX10_decode_12 : decode cX10_decode 12 = .ok (.getfield 40, 3) := by decide +kernel
theorem dX10_decode_15 : decode cX10_decode 15 = .ok (.aload_n 0, 1) := by decide +kernel
theorem dX10_decode_16 : decode cX10_decode 16 = .ok (.getfield 33, 3) := by decide +kernel
theorem dX10_decode_19 : decode cX10_decode 19 = .ok (.invokevirtual 163, 3) := by decide +kernel
theorem dX10_decode_22 : decode cX10_decode 22 = .ok (.aload_n 0, 1) := by decide +kernel
theorem dX10_decode_23 : decode cX10_decode 23 = .ok (.getfield 47, 3) := by decide +kernel
theorem dX10_decode_26 : decode cX10_decode 26 = .ok (.aload_n 0, 1) := by decide +kernel
theorem dX10_decode_27 : decode cX10_decode 27 = .ok (.getfield 33, 3) := by decide +kernel
theorem dX10_decode_30 : decode cX10_decode 30 = .ok (.aload_n 0, 1) := by decide +kernel
theorem dX10_decode_31 : decode cX10_decode 31 = .ok (.getfield 40, 3) := by decide +kernel
theorem dX10_decode_34 : decode cX10_decode 34 = .ok (.getfield 167, 3) := by decide +kernel
theorem dX10_decode_37 : decode cX10_decode 37 = .ok (.aload_n 0, 1) := by decide +kernel
theorem dX10_decode_38 : decode cX10_decode 38 = .ok (.getfield 26, 3) := by decide +kernel
theorem dX10_decode_41 : decode cX10_decode 41 = .ok (.invokevirtual 170, 3) := by decide +kernel
theorem dX10_decode_44 : decode cX10_decode 44 = .ok (.invokevirtual 173, 3) := by decide +kernel
theorem dX10_decode_47 : decode cX10_decode 47 = .ok (.aload_n 0, 1) := by decide +kernel
theorem dX10_decode_48 : decode cX10_decode 48 = .ok (.getfield 26, 3) := by decide +kernel
theorem dX10_decode_51 : decode cX10_decode 51 = .ok (.aload_n 0, 1) := by decide +kernel
theorem dX10_decode_52 : decode cX10_decode 52 = .ok (.getfield 47, 3) := by decide +kernel
theorem dX10_decode_55 : decode cX10_decode 55 = .ok (.invokevirtual 177, 3) := by decide +kernel
theorem dX10_decode_58 : decode cX10_decode 58 = .ok (.invokevirtual 180, 3) := by decide +kernel
theorem dX10_decode_61 : decode cX10_decode 61 = .ok (.istore_n 1, 1) := by decide +kernel
theorem dX10_decode_62 : decode cX10_decode 62 = .ok (.aload_n 0, 1) := by decide +kernel
theorem dX10_decode_63 : decode cX10_decode 63 = .ok (.getfield 54, 3) := by decide +kernel
theorem dX10_decode_66 : decode cX10_decode 66 = .ok (.aload_n 0, 1) := by decide +kernel
theorem dX10_decode_67 : decode cX10_decode 67 = .ok (.getfield 47, 3) := by decide +kernel
theorem dX10_decode_70 : decode cX10_decode 70 = .ok (.iload_n 1, 1) := by decide +kernel
theorem dX10_decode_71 : decode cX10_decode 71 = .ok (.invokevirtual 184, 3) := by decide +kernel
theorem dX10_decode_74 : decode cX10_decode 74 = .ok (.aload_n 0, 1) := by decide +kernel
theorem dX10_decode_75 : decode cX10_decode 75 = .ok (.getfield 61, 3) := by decide +kernel
theorem dX10_decode_78 : decode cX10_decode 78 = .ok (.aload_n 0, 1) := by decide +kernel
theorem dX10_decode_79 : decode cX10_decode 79 = .ok (.getfield 33, 3) := by decide +kernel
theorem dX10_decode_82 : decode cX10_decode 82 = .ok (.aload_n 0, 1) := by decide +kernel
theorem dX10_decode_83 : decode cX10_decode 83 = .ok (.getfield 40, 3) := by decide +kernel
theorem dX10_decode_86 : decode cX10_decode 86 = .ok (.getfield 167, 3) := by decide +kernel
theorem dX10_decode_89 : decode cX10_decode 89 = .ok (.aload_n 0, 1) := by decide +kernel
theorem dX10_decode_90 : decode cX10_decode 90 = .ok (.getfield 26, 3) := by decide +kernel
theorem dX10_decode_93 : decode cX10_decode 93 = .ok (.iload_n 1, 1) := by decide +kernel
theorem dX10_decode_94 : decode cX10_decode 94 = .ok (.invokevirtual 188, 3) := by decide +kernel
theorem dX10_decode_97 : decode cX10_decode 97 = .ok (.aload_n 0, 1) := by decide +kernel
theorem dX10_decode_98 : decode cX10_decode 98 = .ok (.getfield 68, 3) := by decide +kernel
theorem dX10_decode_101 : decode cX10_decode 101 = .ok (.aload_n 0, 1) := by decide +kernel
theorem dX10_decode_102 : decode cX10_decode 102 = .ok (.getfield 61, 3) := by decide +kernel
theorem dX10_decode_105 : decode cX10_decode 105 = .ok (.aload_n 0, 1) := by decide +kernel
theorem dX10_decode_106 : decode cX10_decode 106 = .ok (.getfield 47, 3) := by decide +kernel
theorem dX10_decode_109 : decode cX10_decode 109 = .ok (.aload_n 0, 1) := by decide +kernel
theorem dX10_decode_110 : decode cX10_decode 110 = .ok (.getfield 54, 3) := by decide +kernel
theorem dX10_decode_113 : decode cX10_decode 113 = .ok (.iload_n 1, 1) := by decide +kernel
theorem dX10_decode_114 : decode cX10_decode 114 = .ok (.invokevirtual 192, 3) := by decide +kernel
theorem dX10_decode_117 : decode cX10_decode 117 = .ok (.aload_n 0, 1) := by decide +kernel
theorem dX10_decode_118 : decode cX10_decode 118 = .ok (.getfield 75, 3) := by decide +kernel
theorem dX10_decode_121 : decode cX10_decode 121 = .ok (.aload_n 0, 1) := by decide +kernel
theorem dX10_decode_122 : decode cX10_decode 122 = .ok (.getfield 61, 3) := by decide +kernel
theorem dX10_decode_125 : decode cX10_decode 125 = .ok (.getfield 196, 3) := by decide +kernel
theorem dX10_decode_128 : decode cX10_decode 128 = .ok (.aload_n 0, 1) := by decide +kernel
theorem dX10_decode_129 : decode cX10_decode 129 = .ok (.getfield 26, 3) := by decide +kernel
theorem dX10_decode_132 : decode cX10_decode 132 = .ok (.invokevirtual 197, 3) := by decide +kernel
theorem dX10_decode_135 : decode cX10_decode 135 = .ok (.aload_n 0, 1) := by decide +kernel
theorem dX10_decode_136 : decode cX10_decode 136 = .ok (.getfield 200, 3) := by decide +kernel
theorem dX10_decode_139 : decode cX10_decode 139 = .ok (.ifCond .le 7, 3) := by decide +kernel
theorem dX10_decode_142 : decode cX10_decode 142 = .ok (.iconst 1, 1) := by decide +kernel
theorem dX10_decode_143 : decode cX10_decode 143 = .ok (.goto 4, 3) := by decide +kernel
theorem dX10_decode_146 : decode cX10_decode 146 = .ok (.iconst 0, 1) := by decide +kernel
theorem dX10_decode_147 : decode cX10_decode 147 = .ok (.invokevirtual 203, 3) := by decide +kernel
theorem dX10_decode_150 : decode cX10_decode 150 = .ok (.aload_n 0, 1) := by decide +kernel
theorem dX10_decode_151 : decode cX10_decode 151 = .ok (.dup, 1) := by decide +kernel
theorem dX10_decode_152 : decode cX10_decode 152 = .ok (.getfield 200, 3) := by decide +kernel
theorem dX10_decode_155 : decode cX10_decode 155 = .ok (.iconst 1, 1) := by decide +kernel
theorem dX10_decode_156 : decode cX10_decode 156 = .ok (.iadd, 1) := by decide +kernel
theorem dX10_decode_157 : decode cX10_decode 157 = .ok (.putfield 200, 3) := by decide +kernel
theorem dX10_decode_160 : decode cX10_decode 160 = .ok (.aload_n 0, 1) := by decide +kernel
theorem dX10_decode_161 : decode cX10_decode 161 = .ok (.getfield 40, 3) := by decide +kernel
theorem dX10_decode_164 : decode cX10_decode 164 = .ok (.getfield 207, 3) := by decide +kernel
theorem dX10_decode_167 : decode cX10_decode 167 = .ok (.invokestatic 210, 3) := by decide +kernel
theorem dX10_decode_170 : decode cX10_decode 170 = .ok (.ireturn, 1) := by decide +kernel
theorem dX10_line_0 : decode cX10_line 0 = .ok (.iload_n 1, 1) := by decide +kernel
theorem dX10_line_1 : decode cX10_line 1 = .ok (.invokestatic 101, 3) := by decide +kernel
theorem dX10_line_4 : decode cX10_line 4 = .ok (.ifCond .ne 6, 3) := by decide +kernel
theorem dX10_line_7 : decode cX10_line 7 = .ok (.ldc 83, 2) := by decide +kernel
theorem dX10_line_9 : decode cX10_line 9 = .ok (.ireturn, 1) := by decide +kernel
theorem dX10_line_10 : decode cX10_line 10 = .ok (.iload_n 2, 1) := by decide +kernel
theorem dX10_line_11 : decode cX10_line 11 = .ok (.iconst 0, 1) := by decide +kernel
theorem dX10_line_12 : decode cX10_line 12 = .ok (.bipush 7, 2) := by decide +kernel
theorem dX10_line_14 : decode cX10_line 14 = .ok (.invokestatic 105, 3) := by decide +kernel
theorem dX10_line_17 : decode cX10_line 17 = .ok (.ifCond .ne 6, 3) := by decide +kernel
theorem dX10_line_20 : decode cX10_line 20 = .ok (.ldc 88, 2) := by decide +kernel
theorem dX10_line_22 : decode cX10_line 22 = .ok (.ireturn, 1) := by decide +kernel
theorem dX10_line_23 : decode cX10_line 23 = .ok (.aload_n 0, 1) := by decide +kernel
theorem dX10_line_24 : decode cX10_line 24 = .ok (.getfield 200, 3) := by decide +kernel
theorem dX10_line_27 : decode cX10_line 27 = .ok (.ifCond .ne 6, 3) := by decide +kernel
theorem dX10_line_30 : decode cX10_line 30 = .ok (.ldc 214, 2) := by decide +kernel
theorem dX10_line_32 : decode cX10_line 32 = .ok (.ireturn, 1) := by decide +kernel
theorem dX10_line_33 : decode cX10_line 33 = .ok (.iload_n 2, 1) := by decide +kernel
theorem dX10_line_34 : decode cX10_line 34 = .ok (.tableswitch 139 0 6 #[42, 70, 80, 93, 103, 113, 126], 42) := by decide +kernel
theorem dX10_line_76 : decode cX10_line 76 = .ok (.aload_n 0, 1) := by decide +kernel
theorem dX10_line_77 : decode cX10_line 77 = .ok (.getfield 40, 3) := by decide +kernel
theorem dX10_line_80 : decode cX10_line 80 = .ok (.getfield 215, 3) := by decide +kernel
theorem dX10_line_83 : decode cX10_line 83 = .ok (.iload_n 1, 1) := by decide +kernel
theorem dX10_line_84 : decode cX10_line 84 = .ok (.iaload, 1) := by decide +kernel
theorem dX10_line_85 : decode cX10_line 85 = .ok (.iconst (-1), 1) := by decide +kernel
theorem dX10_line_86 : decode cX10_line 86 = .ok (.if_icmp .ne 8, 3) := by decide +kernel
theorem dX10_line_89 : decode cX10_line 89 = .ok (.ldc 214, 2) := by decide +kernel
theorem dX10_line_91 : decode cX10_line 91 = .ok (.goto 12, 3) := by decide +kernel
theorem dX10_line_94 : decode cX10_line 94 = .ok (.aload_n 0, 1) := by decide +kernel
theorem dX10_line_95 : decode cX10_line 95 = .ok (.getfield 40, 3) := by decide +kernel
theorem dX10_line_98 : decode cX10_line 98 = .ok (.getfield 215, 3) := by decide +kernel
theorem dX10_line_101 : decode cX10_line 101 = .ok (.iload_n 1, 1) := by decide +kernel
theorem dX10_line_102 : decode cX10_line 102 = .ok (.iaload, 1) := by decide +kernel
theorem dX10_line_103 : decode cX10_line 103 = .ok (.ireturn, 1) := by decide +kernel
theorem dX10_line_104 : decode cX10_line 104 = .ok (.aload_n 0, 1) := by decide +kernel
theorem dX10_line_105 : decode cX10_line 105 = .ok (.getfield 40, 3) := by decide +kernel
theorem dX10_line_108 : decode cX10_line 108 = .ok (.getfield 167, 3) := by decide +kernel
theorem dX10_line_111 : decode cX10_line 111 = .ok (.iload_n 1, 1) := by decide +kernel
theorem dX10_line_112 : decode cX10_line 112 = .ok (.iaload, 1) := by decide +kernel
theorem dX10_line_113 : decode cX10_line 113 = .ok (.ireturn, 1) := by decide +kernel
theorem dX10_line_114 : decode cX10_line 114 = .ok (.aload_n 0, 1) := by decide +kernel
theorem dX10_line_115 : decode cX10_line 115 = .ok (.getfield 40, 3) := by decide +kernel
theorem dX10_line_118 : decode cX10_line 118 = .ok (.getfield 207, 3) := by decide +kernel
theorem dX10_line_121 : decode cX10_line 121 = .ok (.iload_n 1, 1) := by decide +kernel
theorem dX10_line_122 : decode cX10_line 122 = .ok (.baload, 1) := by decide +kernel
theorem dX10_line_123 : decode cX10_line 123 = .ok (.invokestatic 123, 3) := by decide +kernel
theorem dX10_line_126 : decode cX10_line 126 = .ok (.ireturn, 1) := by decide +kernel
theorem dX10_line_127 : decode cX10_line 127 = .ok (.aload_n 0, 1) := by decide +kernel
theorem dX10_line_128 : decode cX10_line 128 = .ok (.getfield 47, 3) := by decide +kernel
theorem dX10_line_131 : decode cX10_line 131 = .ok (.getfield 218, 3) := by decide +kernel
theorem dX10_line_134 : decode cX10_line 134 = .ok (.iload_n 1, 1) := by decide +kernel
theorem dX10_line_135 : decode cX10_line 135 = .ok (.iaload, 1) := by decide +kernel
theorem dX10_line_136 : decode cX10_line 136 = .ok (.ireturn, 1) := by decide +kernel
theorem dX10_line_137 : decode cX10_line 137 = .ok (.aload_n 0, 1) := by decide +kernel
theorem dX10_line_138 : decode cX10_line 138 = .ok (.getfield 47, 3) := by decide +kernel
theorem dX10_line_141 : decode cX10_line 141 = .ok (.getfield 221, 3) := by decide +kernel
theorem dX10_line_144 : decode cX10_line 144 = .ok (.iload_n 1, 1) := by decide +kernel
theorem dX10_line_145 : decode cX10_line 145 = .ok (.iaload, 1) := by decide +kernel
theorem dX10_line_146 : decode cX10_line 146 = .ok (.ireturn, 1) := by decide +kernel
theorem dX10_line_147 : decode cX10_line 147 = .ok (.aload_n 0, 1) := by decide +kernel
theorem dX10_line_148 : decode cX10_line 148 = .ok (.getfield 47, 3) := by decide +kernel
theorem dX10_line_151 : decode cX10_line 151 = .ok (.getfield 224, 3) := by decide +kernel
theorem dX10_line_154 : decode cX10_line 154 = .ok (.iload_n 1, 1) := by decide +kernel
theorem dX10_line_155 : decode cX10_line 155 = .ok (.baload, 1) := by decide +kernel
theorem dX10_line_156 : decode cX10_line 156 = .ok (.invokestatic 123, 3) := by decide +kernel
theorem dX10_line_159 : decode cX10_line 159 = .ok (.ireturn, 1) := by decide +kernel
theorem dX10_line_160 : decode cX10_line 160 = .ok (.aload_n 0, 1) := by decide +kernel
theorem dX10_line_161 : decode cX10_line 161 = .ok (.getfield 47, 3) := by decide +kernel
theorem dX10_line_164 : decode cX10_line 164 = .ok (.getfield 227, 3) := by decide +kernel
theorem dX10_line_167 : decode cX10_line 167 = .ok (.iload_n 1, 1) := by decide +kernel
theorem dX10_line_168 : decode cX10_line 168 = .ok (.baload, 1) := by decide +kernel
theorem dX10_line_169 : decode cX10_line 169 = .ok (.invokestatic 123, 3) := by decide +kernel
theorem dX10_line_172 : decode cX10_line 172 = .ok (.ireturn, 1) := by decide +kernel
theorem dX10_line_173 : decode cX10_line 173 = .ok (.aload_n 0, 1) := by decide +kernel
theorem dX10_line_174 : decode cX10_line 174 = .ok (.getfield 40, 3) := by decide +kernel
theorem dX10_line_177 : decode cX10_line 177 = .ok (.getfield 230, 3) := by decide +kernel
theorem dX10_line_180 : decode cX10_line 180 = .ok (.iload_n 1, 1) := by decide +kernel
theorem dX10_line_181 : decode cX10_line 181 = .ok (.iaload, 1) := by decide +kernel
theorem dX10_line_182 : decode cX10_line 182 = .ok (.ireturn, 1) := by decide +kernel
theorem dX10_luma_0 : decode cX10_luma 0 = .ok (.iload_n 1, 1) := by decide +kernel
theorem dX10_luma_1 : decode cX10_luma 1 = .ok (.iload_n 2, 1) := by decide +kernel
theorem dX10_luma_2 : decode cX10_luma 2 = .ok (.invokestatic 79, 3) := by decide +kernel
theorem dX10_luma_5 : decode cX10_luma 5 = .ok (.ifCond .ne 6, 3) := by decide +kernel
theorem dX10_luma_8 : decode cX10_luma 8 = .ok (.ldc 83, 2) := by decide +kernel
theorem dX10_luma_10 : decode cX10_luma 10 = .ok (.ireturn, 1) := by decide +kernel
theorem dX10_luma_11 : decode cX10_luma 11 = .ok (.aload_n 0, 1) := by decide +kernel
theorem dX10_luma_12 : decode cX10_luma 12 = .ok (.getfield 200, 3) := by decide +kernel
theorem dX10_luma_15 : decode cX10_luma 15 = .ok (.ifCond .ne 8, 3) := by decide +kernel
theorem dX10_luma_18 : decode cX10_luma 18 = .ok (.ldc 214, 2) := by decide +kernel
theorem dX10_luma_20 : decode cX10_luma 20 = .ok (.goto 16, 3) := by decide +kernel
theorem dX10_luma_23 : decode cX10_luma 23 = .ok (.aload_n 0, 1) := by decide +kernel
theorem dX10_luma_24 : decode cX10_luma 24 = .ok (.getfield 61, 3) := by decide +kernel
theorem dX10_luma_27 : decode cX10_luma 27 = .ok (.getfield 196, 3) := by decide +kernel
theorem dX10_luma_30 : decode cX10_luma 30 = .ok (.iload_n 1, 1) := by decide +kernel
theorem dX10_luma_31 : decode cX10_luma 31 = .ok (.iload_n 2, 1) := by decide +kernel
theorem dX10_luma_32 : decode cX10_luma 32 = .ok (.invokestatic 89, 3) := by decide +kernel
theorem dX10_luma_35 : decode cX10_luma 35 = .ok (.iaload, 1) := by decide +kernel
theorem dX10_luma_36 : decode cX10_luma 36 = .ok (.ireturn, 1) := by decide +kernel
theorem dX10_combed_0 : decode cX10_combed 0 = .ok (.iload_n 1, 1) := by decide +kernel
theorem dX10_combed_1 : decode cX10_combed 1 = .ok (.iload_n 2, 1) := by decide +kernel
theorem dX10_combed_2 : decode cX10_combed 2 = .ok (.invokestatic 79, 3) := by decide +kernel
theorem dX10_combed_5 : decode cX10_combed 5 = .ok (.ifCond .ne 6, 3) := by decide +kernel
theorem dX10_combed_8 : decode cX10_combed 8 = .ok (.ldc 83, 2) := by decide +kernel
theorem dX10_combed_10 : decode cX10_combed 10 = .ok (.ireturn, 1) := by decide +kernel
theorem dX10_combed_11 : decode cX10_combed 11 = .ok (.aload_n 0, 1) := by decide +kernel
theorem dX10_combed_12 : decode cX10_combed 12 = .ok (.getfield 200, 3) := by decide +kernel
theorem dX10_combed_15 : decode cX10_combed 15 = .ok (.ifCond .ne 8, 3) := by decide +kernel
theorem dX10_combed_18 : decode cX10_combed 18 = .ok (.ldc 214, 2) := by decide +kernel
theorem dX10_combed_20 : decode cX10_combed 20 = .ok (.goto 16, 3) := by decide +kernel
theorem dX10_combed_23 : decode cX10_combed 23 = .ok (.aload_n 0, 1) := by decide +kernel
theorem dX10_combed_24 : decode cX10_combed 24 = .ok (.getfield 61, 3) := by decide +kernel
theorem dX10_combed_27 : decode cX10_combed 27 = .ok (.getfield 233, 3) := by decide +kernel
theorem dX10_combed_30 : decode cX10_combed 30 = .ok (.iload_n 1, 1) := by decide +kernel
theorem dX10_combed_31 : decode cX10_combed 31 = .ok (.iload_n 2, 1) := by decide +kernel
theorem dX10_combed_32 : decode cX10_combed 32 = .ok (.invokestatic 89, 3) := by decide +kernel
theorem dX10_combed_35 : decode cX10_combed 35 = .ok (.iaload, 1) := by decide +kernel
theorem dX10_combed_36 : decode cX10_combed 36 = .ok (.ireturn, 1) := by decide +kernel
theorem dX10_thousandths_0 : decode cX10_thousandths 0 = .ok (.iload_n 1, 1) := by decide +kernel
theorem dX10_thousandths_1 : decode cX10_thousandths 1 = .ok (.iload_n 2, 1) := by decide +kernel
theorem dX10_thousandths_2 : decode cX10_thousandths 2 = .ok (.invokestatic 79, 3) := by decide +kernel
theorem dX10_thousandths_5 : decode cX10_thousandths 5 = .ok (.ifCond .ne 6, 3) := by decide +kernel
theorem dX10_thousandths_8 : decode cX10_thousandths 8 = .ok (.ldc 83, 2) := by decide +kernel
theorem dX10_thousandths_10 : decode cX10_thousandths 10 = .ok (.ireturn, 1) := by decide +kernel
theorem dX10_thousandths_11 : decode cX10_thousandths 11 = .ok (.iload_n 3, 1) := by decide +kernel
theorem dX10_thousandths_12 : decode cX10_thousandths 12 = .ok (.iconst 0, 1) := by decide +kernel
theorem dX10_thousandths_13 : decode cX10_thousandths 13 = .ok (.iconst 1, 1) := by decide +kernel
theorem dX10_thousandths_14 : decode cX10_thousandths 14 = .ok (.invokestatic 105, 3) := by decide +kernel
theorem dX10_thousandths_17 : decode cX10_thousandths 17 = .ok (.ifCond .ne 6, 3) := by decide +kernel
theorem dX10_thousandths_20 : decode cX10_thousandths 20 = .ok (.ldc 88, 2) := by decide +kernel
theorem dX10_thousandths_22 : decode cX10_thousandths 22 = .ok (.ireturn, 1) := by decide +kernel
theorem dX10_thousandths_23 : decode cX10_thousandths 23 = .ok (.aload_n 0, 1) := by decide +kernel
theorem dX10_thousandths_24 : decode cX10_thousandths 24 = .ok (.getfield 200, 3) := by decide +kernel
theorem dX10_thousandths_27 : decode cX10_thousandths 27 = .ok (.ifCond .ne 6, 3) := by decide +kernel
theorem dX10_thousandths_30 : decode cX10_thousandths 30 = .ok (.ldc 214, 2) := by decide +kernel
theorem dX10_thousandths_32 : decode cX10_thousandths 32 = .ok (.ireturn, 1) := by decide +kernel
theorem dX10_thousandths_33 : decode cX10_thousandths 33 = .ok (.iload_n 1, 1) := by decide +kernel
theorem dX10_thousandths_34 : decode cX10_thousandths 34 = .ok (.iload_n 2, 1) := by decide +kernel
theorem dX10_thousandths_35 : decode cX10_thousandths 35 = .ok (.invokestatic 89, 3) := by decide +kernel
theorem dX10_thousandths_38 : decode cX10_thousandths 38 = .ok (.istore 4, 2) := by decide +kernel
theorem dX10_thousandths_40 : decode cX10_thousandths 40 = .ok (.iload_n 3, 1) := by decide +kernel
theorem dX10_thousandths_41 : decode cX10_thousandths 41 = .ok (.ifCond .ne 16, 3) := by decide +kernel
theorem dX10_thousandths_44 : decode cX10_thousandths 44 = .ok (.aload_n 0, 1) := by decide +kernel
theorem dX10_thousandths_45 : decode cX10_thousandths 45 = .ok (.getfield 68, 3) := by decide +kernel
theorem dX10_thousandths_48 : decode cX10_thousandths 48 = .ok (.getfield 236, 3) := by decide +kernel
theorem dX10_thousandths_51 : decode cX10_thousandths 51 = .ok (.iload 4, 2) := by decide +kernel
theorem dX10_thousandths_53 : decode cX10_thousandths 53 = .ok (.faload, 1) := by decide +kernel
theorem dX10_thousandths_54 : decode cX10_thousandths 54 = .ok (.goto 13, 3) := by decide +kernel
theorem dX10_thousandths_57 : decode cX10_thousandths 57 = .ok (.aload_n 0, 1) := by decide +kernel
theorem dX10_thousandths_58 : decode cX10_thousandths 58 = .ok (.getfield 68, 3) := by decide +kernel
theorem dX10_thousandths_61 : decode cX10_thousandths 61 = .ok (.getfield 240, 3) := by decide +kernel
theorem dX10_thousandths_64 : decode cX10_thousandths 64 = .ok (.iload 4, 2) := by decide +kernel
theorem dX10_thousandths_66 : decode cX10_thousandths 66 = .ok (.faload, 1) := by decide +kernel
theorem dX10_thousandths_67 : decode cX10_thousandths 67 = .ok (.fstore 5, 2) := by decide +kernel
theorem dX10_thousandths_69 : decode cX10_thousandths 69 = .ok (.fload 5, 2) := by decide +kernel
theorem dX10_thousandths_71 : decode cX10_thousandths 71 = .ok (.ldc 243, 2) := by decide +kernel
theorem dX10_thousandths_73 : decode cX10_thousandths 73 = .ok (.fmul, 1) := by decide +kernel
theorem dX10_thousandths_74 : decode cX10_thousandths 74 = .ok (.f2i, 1) := by decide +kernel
theorem dX10_thousandths_75 : decode cX10_thousandths 75 = .ok (.ireturn, 1) := by decide +kernel
theorem dX10_motion_0 : decode cX10_motion 0 = .ok (.iload_n 1, 1) := by decide +kernel
theorem dX10_motion_1 : decode cX10_motion 1 = .ok (.iload_n 2, 1) := by decide +kernel
theorem dX10_motion_2 : decode cX10_motion 2 = .ok (.invokestatic 79, 3) := by decide +kernel
theorem dX10_motion_5 : decode cX10_motion 5 = .ok (.ifCond .ne 6, 3) := by decide +kernel
theorem dX10_motion_8 : decode cX10_motion 8 = .ok (.ldc 83, 2) := by decide +kernel
theorem dX10_motion_10 : decode cX10_motion 10 = .ok (.ireturn, 1) := by decide +kernel
theorem dX10_motion_11 : decode cX10_motion 11 = .ok (.aload_n 0, 1) := by decide +kernel
theorem dX10_motion_12 : decode cX10_motion 12 = .ok (.getfield 200, 3) := by decide +kernel
theorem dX10_motion_15 : decode cX10_motion 15 = .ok (.iconst 2, 1) := by decide +kernel
theorem dX10_motion_16 : decode cX10_motion 16 = .ok (.if_icmp .ge 8, 3) := by decide +kernel
theorem dX10_motion_19 : decode cX10_motion 19 = .ok (.ldc 214, 2) := by decide +kernel
theorem dX10_motion_21 : decode cX10_motion 21 = .ok (.goto 16, 3) := by decide +kernel
theorem dX10_motion_24 : decode cX10_motion 24 = .ok (.aload_n 0, 1) := by decide +kernel
theorem dX10_motion_25 : decode cX10_motion 25 = .ok (.getfield 75, 3) := by decide +kernel
theorem dX10_motion_28 : decode cX10_motion 28 = .ok (.getfield 248, 3) := by decide +kernel
theorem dX10_motion_31 : decode cX10_motion 31 = .ok (.iload_n 1, 1) := by decide +kernel
theorem dX10_motion_32 : decode cX10_motion 32 = .ok (.iload_n 2, 1) := by decide +kernel
theorem dX10_motion_33 : decode cX10_motion 33 = .ok (.invokestatic 89, 3) := by decide +kernel
theorem dX10_motion_36 : decode cX10_motion 36 = .ok (.iaload, 1) := by decide +kernel
theorem dX10_motion_37 : decode cX10_motion 37 = .ok (.ireturn, 1) := by decide +kernel
theorem dX10_count_0 : decode cX10_count 0 = .ok (.iload_n 1, 1) := by decide +kernel
theorem dX10_count_1 : decode cX10_count 1 = .ok (.iconst 0, 1) := by decide +kernel
theorem dX10_count_2 : decode cX10_count 2 = .ok (.bipush 18, 2) := by decide +kernel
theorem dX10_count_4 : decode cX10_count 4 = .ok (.invokestatic 105, 3) := by decide +kernel
theorem dX10_count_7 : decode cX10_count 7 = .ok (.ifCond .ne 6, 3) := by decide +kernel
theorem dX10_count_10 : decode cX10_count 10 = .ok (.ldc 88, 2) := by decide +kernel
theorem dX10_count_12 : decode cX10_count 12 = .ok (.ireturn, 1) := by decide +kernel
theorem dX10_count_13 : decode cX10_count 13 = .ok (.iload_n 1, 1) := by decide +kernel
theorem dX10_count_14 : decode cX10_count 14 = .ok (.ifCond .ne 8, 3) := by decide +kernel
theorem dX10_count_17 : decode cX10_count 17 = .ok (.aload_n 0, 1) := by decide +kernel
theorem dX10_count_18 : decode cX10_count 18 = .ok (.getfield 200, 3) := by decide +kernel
theorem dX10_count_21 : decode cX10_count 21 = .ok (.ireturn, 1) := by decide +kernel
theorem dX10_count_22 : decode cX10_count 22 = .ok (.iload_n 1, 1) := by decide +kernel
theorem dX10_count_23 : decode cX10_count 23 = .ok (.bipush 12, 2) := by decide +kernel
theorem dX10_count_25 : decode cX10_count 25 = .ok (.if_icmp .le 9, 3) := by decide +kernel
theorem dX10_count_28 : decode cX10_count 28 = .ok (.aload_n 0, 1) := by decide +kernel
theorem dX10_count_29 : decode cX10_count 29 = .ok (.iload_n 1, 1) := by decide +kernel
theorem dX10_count_30 : decode cX10_count 30 = .ok (.invokevirtual 251, 3) := by decide +kernel
theorem dX10_count_33 : decode cX10_count 33 = .ok (.ireturn, 1) := by decide +kernel
theorem dX10_count_34 : decode cX10_count 34 = .ok (.iload_n 1, 1) := by decide +kernel
theorem dX10_count_35 : decode cX10_count 35 = .ok (.bipush 7, 2) := by decide +kernel
theorem dX10_count_37 : decode cX10_count 37 = .ok (.if_icmp .eq 9, 3) := by decide +kernel
theorem dX10_count_40 : decode cX10_count 40 = .ok (.iload_n 1, 1) := by decide +kernel
theorem dX10_count_41 : decode cX10_count 41 = .ok (.bipush 8, 2) := by decide +kernel
theorem dX10_count_43 : decode cX10_count 43 = .ok (.if_icmp .ne 7, 3) := by decide +kernel
theorem dX10_count_46 : decode cX10_count 46 = .ok (.iconst 2, 1) := by decide +kernel
theorem dX10_count_47 : decode cX10_count 47 = .ok (.goto 4, 3) := by decide +kernel
theorem dX10_count_50 : decode cX10_count 50 = .ok (.iconst 1, 1) := by decide +kernel
theorem dX10_count_51 : decode cX10_count 51 = .ok (.istore_n 2, 1) := by decide +kernel
theorem dX10_count_52 : decode cX10_count 52 = .ok (.aload_n 0, 1) := by decide +kernel
theorem dX10_count_53 : decode cX10_count 53 = .ok (.getfield 200, 3) := by decide +kernel
theorem dX10_count_56 : decode cX10_count 56 = .ok (.iload_n 2, 1) := by decide +kernel
theorem dX10_count_57 : decode cX10_count 57 = .ok (.if_icmp .ge 8, 3) := by decide +kernel
theorem dX10_count_60 : decode cX10_count 60 = .ok (.ldc 214, 2) := by decide +kernel
theorem dX10_count_62 : decode cX10_count 62 = .ok (.goto 8, 3) := by decide +kernel
theorem dX10_count_65 : decode cX10_count 65 = .ok (.aload_n 0, 1) := by decide +kernel
theorem dX10_count_66 : decode cX10_count 66 = .ok (.iload_n 1, 1) := by decide +kernel
theorem dX10_count_67 : decode cX10_count 67 = .ok (.invokevirtual 254, 3) := by decide +kernel
theorem dX10_count_70 : decode cX10_count 70 = .ok (.ireturn, 1) := by decide +kernel
theorem dX10_countOfNow_0 : decode cX10_countOfNow 0 = .ok (.iload_n 1, 1) := by decide +kernel
theorem dX10_countOfNow_1 : decode cX10_countOfNow 1 = .ok (.bipush 13, 2) := by decide +kernel
theorem dX10_countOfNow_3 : decode cX10_countOfNow 3 = .ok (.if_icmp .ne 11, 3) := by decide +kernel
theorem dX10_countOfNow_6 : decode cX10_countOfNow 6 = .ok (.aload_n 0, 1) := by decide +kernel
theorem dX10_countOfNow_7 : decode cX10_countOfNow 7 = .ok (.getfield 10, 3) := by decide +kernel
theorem dX10_countOfNow_10 : decode cX10_countOfNow 10 = .ok (.getfield 127, 3) := by decide +kernel
theorem dX10_countOfNow_13 : decode cX10_countOfNow 13 = .ok (.ireturn, 1) := by decide +kernel
theorem dX10_countOfNow_14 : decode cX10_countOfNow 14 = .ok (.iload_n 1, 1) := by decide +kernel
theorem dX10_countOfNow_15 : decode cX10_countOfNow 15 = .ok (.bipush 14, 2) := by decide +kernel
theorem dX10_countOfNow_17 : decode cX10_countOfNow 17 = .ok (.if_icmp .ne 11, 3) := by decide +kernel
theorem dX10_countOfNow_20 : decode cX10_countOfNow 20 = .ok (.aload_n 0, 1) := by decide +kernel
theorem dX10_countOfNow_21 : decode cX10_countOfNow 21 = .ok (.getfield 19, 3) := by decide +kernel
theorem dX10_countOfNow_24 : decode cX10_countOfNow 24 = .ok (.getfield 135, 3) := by decide +kernel
theorem dX10_countOfNow_27 : decode cX10_countOfNow 27 = .ok (.ireturn, 1) := by decide +kernel
theorem dX10_countOfNow_28 : decode cX10_countOfNow 28 = .ok (.iload_n 1, 1) := by decide +kernel
theorem dX10_countOfNow_29 : decode cX10_countOfNow 29 = .ok (.bipush 15, 2) := by decide +kernel
theorem dX10_countOfNow_31 : decode cX10_countOfNow 31 = .ok (.isub, 1) := by decide +kernel
theorem dX10_countOfNow_32 : decode cX10_countOfNow 32 = .ok (.istore_n 2, 1) := by decide +kernel
theorem dX10_countOfNow_33 : decode cX10_countOfNow 33 = .ok (.iload_n 2, 1) := by decide +kernel
theorem dX10_countOfNow_34 : decode cX10_countOfNow 34 = .ok (.iconst 0, 1) := by decide +kernel
theorem dX10_countOfNow_35 : decode cX10_countOfNow 35 = .ok (.iconst 3, 1) := by decide +kernel
theorem dX10_countOfNow_36 : decode cX10_countOfNow 36 = .ok (.invokestatic 105, 3) := by decide +kernel
theorem dX10_countOfNow_39 : decode cX10_countOfNow 39 = .ok (.ifCond .eq 15, 3) := by decide +kernel
theorem dX10_countOfNow_42 : decode cX10_countOfNow 42 = .ok (.aload_n 0, 1) := by decide +kernel
theorem dX10_countOfNow_43 : decode cX10_countOfNow 43 = .ok (.getfield 26, 3) := by decide +kernel
theorem dX10_countOfNow_46 : decode cX10_countOfNow 46 = .ok (.getfield 156, 3) := by decide +kernel
theorem dX10_countOfNow_49 : decode cX10_countOfNow 49 = .ok (.iload_n 2, 1) := by decide +kernel
theorem dX10_countOfNow_50 : decode cX10_countOfNow 50 = .ok (.iaload, 1) := by decide +kernel
theorem dX10_countOfNow_51 : decode cX10_countOfNow 51 = .ok (.goto 5, 3) := by decide +kernel
theorem dX10_countOfNow_54 : decode cX10_countOfNow 54 = .ok (.ldc 88, 2) := by decide +kernel
theorem dX10_countOfNow_56 : decode cX10_countOfNow 56 = .ok (.ireturn, 1) := by decide +kernel
theorem dX10_countOfDecoding_0 : decode cX10_countOfDecoding 0 = .ok (.iload_n 1, 1) := by decide +kernel
theorem dX10_countOfDecoding_1 : decode cX10_countOfDecoding 1 = .ok (.tableswitch 116 1 8 #[47, 55, 63, 71, 82, 87, 92, 104], 47) := by decide +kernel
theorem dX10_countOfDecoding_48 : decode cX10_countOfDecoding 48 = .ok (.aload_n 0, 1) := by decide +kernel
theorem dX10_countOfDecoding_49 : decode cX10_countOfDecoding 49 = .ok (.getfield 47, 3) := by decide +kernel
theorem dX10_countOfDecoding_52 : decode cX10_countOfDecoding 52 = .ok (.invokevirtual 177, 3) := by decide +kernel
theorem dX10_countOfDecoding_55 : decode cX10_countOfDecoding 55 = .ok (.ireturn, 1) := by decide +kernel
theorem dX10_countOfDecoding_56 : decode cX10_countOfDecoding 56 = .ok (.aload_n 0, 1) := by decide +kernel
theorem dX10_countOfDecoding_57 : decode cX10_countOfDecoding 57 = .ok (.getfield 47, 3) := by decide +kernel
theorem dX10_countOfDecoding_60 : decode cX10_countOfDecoding 60 = .ok (.getfield 257, 3) := by decide +kernel
theorem dX10_countOfDecoding_63 : decode cX10_countOfDecoding 63 = .ok (.ireturn, 1) := by decide +kernel
theorem dX10_countOfDecoding_64 : decode cX10_countOfDecoding 64 = .ok (.aload_n 0, 1) := by decide +kernel
theorem dX10_countOfDecoding_65 : decode cX10_countOfDecoding 65 = .ok (.getfield 47, 3) := by decide +kernel
theorem dX10_countOfDecoding_68 : decode cX10_countOfDecoding 68 = .ok (.getfield 260, 3) := by decide +kernel
theorem dX10_countOfDecoding_71 : decode cX10_countOfDecoding 71 = .ok (.ireturn, 1) := by decide +kernel
theorem dX10_countOfDecoding_72 : decode cX10_countOfDecoding 72 = .ok (.aload_n 0, 1) := by decide +kernel
theorem dX10_countOfDecoding_73 : decode cX10_countOfDecoding 73 = .ok (.getfield 47, 3) := by decide +kernel
theorem dX10_countOfDecoding_76 : decode cX10_countOfDecoding 76 = .ok (.getfield 227, 3) := by decide +kernel
theorem dX10_countOfDecoding_79 : decode cX10_countOfDecoding 79 = .ok (.invokestatic 210, 3) := by decide +kernel
theorem dX10_countOfDecoding_82 : decode cX10_countOfDecoding 82 = .ok (.ireturn, 1) := by decide +kernel
theorem dX10_countOfDecoding_83 : decode cX10_countOfDecoding 83 = .ok (.aload_n 0, 1) := by decide +kernel
theorem dX10_countOfDecoding_84 : decode cX10_countOfDecoding 84 = .ok (.invokevirtual 263, 3) := by decide +kernel
theorem dX10_countOfDecoding_87 : decode cX10_countOfDecoding 87 = .ok (.ireturn, 1) := by decide +kernel
theorem dX10_countOfDecoding_88 : decode cX10_countOfDecoding 88 = .ok (.aload_n 0, 1) := by decide +kernel
theorem dX10_countOfDecoding_89 : decode cX10_countOfDecoding 89 = .ok (.invokevirtual 266, 3) := by decide +kernel
theorem dX10_countOfDecoding_92 : decode cX10_countOfDecoding 92 = .ok (.ireturn, 1) := by decide +kernel
theorem dX10_countOfDecoding_93 : decode cX10_countOfDecoding 93 = .ok (.aload_n 0, 1) := by decide +kernel
theorem dX10_countOfDecoding_94 : decode cX10_countOfDecoding 94 = .ok (.getfield 75, 3) := by decide +kernel
theorem dX10_countOfDecoding_97 : decode cX10_countOfDecoding 97 = .ok (.getfield 248, 3) := by decide +kernel
theorem dX10_countOfDecoding_100 : decode cX10_countOfDecoding 100 = .ok (.iconst 2, 1) := by decide +kernel
theorem dX10_countOfDecoding_101 : decode cX10_countOfDecoding 101 = .ok (.invokestatic 269, 3) := by decide +kernel
theorem dX10_countOfDecoding_104 : decode cX10_countOfDecoding 104 = .ok (.ireturn, 1) := by decide +kernel
theorem dX10_countOfDecoding_105 : decode cX10_countOfDecoding 105 = .ok (.aload_n 0, 1) := by decide +kernel
theorem dX10_countOfDecoding_106 : decode cX10_countOfDecoding 106 = .ok (.getfield 75, 3) := by decide +kernel
theorem dX10_countOfDecoding_109 : decode cX10_countOfDecoding 109 = .ok (.getfield 248, 3) := by decide +kernel
theorem dX10_countOfDecoding_112 : decode cX10_countOfDecoding 112 = .ok (.iconst 1, 1) := by decide +kernel
theorem dX10_countOfDecoding_113 : decode cX10_countOfDecoding 113 = .ok (.invokestatic 269, 3) := by decide +kernel
theorem dX10_countOfDecoding_116 : decode cX10_countOfDecoding 116 = .ok (.ireturn, 1) := by decide +kernel
theorem dX10_countOfDecoding_117 : decode cX10_countOfDecoding 117 = .ok (.aload_n 0, 1) := by decide +kernel
theorem dX10_countOfDecoding_118 : decode cX10_countOfDecoding 118 = .ok (.getfield 61, 3) := by decide +kernel
theorem dX10_countOfDecoding_121 : decode cX10_countOfDecoding 121 = .ok (.getfield 233, 3) := by decide +kernel
theorem dX10_countOfDecoding_124 : decode cX10_countOfDecoding 124 = .ok (.iload_n 1, 1) := by decide +kernel
theorem dX10_countOfDecoding_125 : decode cX10_countOfDecoding 125 = .ok (.bipush 9, 2) := by decide +kernel
theorem dX10_countOfDecoding_127 : decode cX10_countOfDecoding 127 = .ok (.isub, 1) := by decide +kernel
theorem dX10_countOfDecoding_128 : decode cX10_countOfDecoding 128 = .ok (.invokestatic 269, 3) := by decide +kernel
theorem dX10_countOfDecoding_131 : decode cX10_countOfDecoding 131 = .ok (.ireturn, 1) := by decide +kernel
theorem dX10_wrongLumas_0 : decode cX10_wrongLumas 0 = .ok (.iconst 0, 1) := by decide +kernel
theorem dX10_wrongLumas_1 : decode cX10_wrongLumas 1 = .ok (.istore_n 1, 1) := by decide +kernel
theorem dX10_wrongLumas_2 : decode cX10_wrongLumas 2 = .ok (.iconst 0, 1) := by decide +kernel
theorem dX10_wrongLumas_3 : decode cX10_wrongLumas 3 = .ok (.istore_n 2, 1) := by decide +kernel
theorem dX10_wrongLumas_4 : decode cX10_wrongLumas 4 = .ok (.iload_n 2, 1) := by decide +kernel
theorem dX10_wrongLumas_5 : decode cX10_wrongLumas 5 = .ok (.bipush 80, 2) := by decide +kernel
theorem dX10_wrongLumas_7 : decode cX10_wrongLumas 7 = .ok (.if_icmp .ge 41, 3) := by decide +kernel
theorem dX10_wrongLumas_10 : decode cX10_wrongLumas 10 = .ok (.iload_n 1, 1) := by decide +kernel
theorem dX10_wrongLumas_11 : decode cX10_wrongLumas 11 = .ok (.aload_n 0, 1) := by decide +kernel
theorem dX10_wrongLumas_12 : decode cX10_wrongLumas 12 = .ok (.getfield 61, 3) := by decide +kernel
theorem dX10_wrongLumas_15 : decode cX10_wrongLumas 15 = .ok (.getfield 196, 3) := by decide +kernel
theorem dX10_wrongLumas_18 : decode cX10_wrongLumas 18 = .ok (.iload_n 2, 1) := by decide +kernel
theorem dX10_wrongLumas_19 : decode cX10_wrongLumas 19 = .ok (.iaload, 1) := by decide +kernel
theorem dX10_wrongLumas_20 : decode cX10_wrongLumas 20 = .ok (.aload_n 0, 1) := by decide +kernel
theorem dX10_wrongLumas_21 : decode cX10_wrongLumas 21 = .ok (.getfield 10, 3) := by decide +kernel
theorem dX10_wrongLumas_24 : decode cX10_wrongLumas 24 = .ok (.getfield 93, 3) := by decide +kernel
theorem dX10_wrongLumas_27 : decode cX10_wrongLumas 27 = .ok (.iload_n 2, 1) := by decide +kernel
theorem dX10_wrongLumas_28 : decode cX10_wrongLumas 28 = .ok (.iaload, 1) := by decide +kernel
theorem dX10_wrongLumas_29 : decode cX10_wrongLumas 29 = .ok (.if_icmp .eq 7, 3) := by decide +kernel
theorem dX10_wrongLumas_32 : decode cX10_wrongLumas 32 = .ok (.iconst 1, 1) := by decide +kernel
theorem dX10_wrongLumas_33 : decode cX10_wrongLumas 33 = .ok (.goto 4, 3) := by decide +kernel
theorem dX10_wrongLumas_36 : decode cX10_wrongLumas 36 = .ok (.iconst 0, 1) := by decide +kernel
theorem dX10_wrongLumas_37 : decode cX10_wrongLumas 37 = .ok (.invokestatic 123, 3) := by decide +kernel
theorem dX10_wrongLumas_40 : decode cX10_wrongLumas 40 = .ok (.iadd, 1) := by decide +kernel
theorem dX10_wrongLumas_41 : decode cX10_wrongLumas 41 = .ok (.istore_n 1, 1) := by decide +kernel
theorem dX10_wrongLumas_42 : decode cX10_wrongLumas 42 = .ok (.iinc 2 1, 3) := by decide +kernel
theorem dX10_wrongLumas_45 : decode cX10_wrongLumas 45 = .ok (.goto (-41), 3) := by decide +kernel
theorem dX10_wrongLumas_48 : decode cX10_wrongLumas 48 = .ok (.iload_n 1, 1) := by decide +kernel
theorem dX10_wrongLumas_49 : decode cX10_wrongLumas 49 = .ok (.ireturn, 1) := by decide +kernel
theorem dX10_lumaDifferences_0 : decode cX10_lumaDifferences 0 = .ok (.iconst 0, 1) := by decide +kernel
theorem dX10_lumaDifferences_1 : decode cX10_lumaDifferences 1 = .ok (.istore_n 1, 1) := by decide +kernel
theorem dX10_lumaDifferences_2 : decode cX10_lumaDifferences 2 = .ok (.iconst 0, 1) := by decide +kernel
theorem dX10_lumaDifferences_3 : decode cX10_lumaDifferences 3 = .ok (.istore_n 2, 1) := by decide +kernel
theorem dX10_lumaDifferences_4 : decode cX10_lumaDifferences 4 = .ok (.iload_n 2, 1) := by decide +kernel
theorem dX10_lumaDifferences_5 : decode cX10_lumaDifferences 5 = .ok (.bipush 80, 2) := by decide +kernel
theorem dX10_lumaDifferences_7 : decode cX10_lumaDifferences 7 = .ok (.if_icmp .ge 34, 3) := by decide +kernel
theorem dX10_lumaDifferences_10 : decode cX10_lumaDifferences 10 = .ok (.iload_n 1, 1) := by decide +kernel
theorem dX10_lumaDifferences_11 : decode cX10_lumaDifferences 11 = .ok (.aload_n 0, 1) := by decide +kernel
theorem dX10_lumaDifferences_12 : decode cX10_lumaDifferences 12 = .ok (.getfield 61, 3) := by decide +kernel
theorem dX10_lumaDifferences_15 : decode cX10_lumaDifferences 15 = .ok (.getfield 196, 3) := by decide +kernel
theorem dX10_lumaDifferences_18 : decode cX10_lumaDifferences 18 = .ok (.iload_n 2, 1) := by decide +kernel
theorem dX10_lumaDifferences_19 : decode cX10_lumaDifferences 19 = .ok (.iaload, 1) := by decide +kernel
theorem dX10_lumaDifferences_20 : decode cX10_lumaDifferences 20 = .ok (.aload_n 0, 1) := by decide +kernel
theorem dX10_lumaDifferences_21 : decode cX10_lumaDifferences 21 = .ok (.getfield 10, 3) := by decide +kernel
theorem dX10_lumaDifferences_24 : decode cX10_lumaDifferences 24 = .ok (.getfield 93, 3) := by decide +kernel
theorem dX10_lumaDifferences_27 : decode cX10_lumaDifferences 27 = .ok (.iload_n 2, 1) := by decide +kernel
theorem dX10_lumaDifferences_28 : decode cX10_lumaDifferences 28 = .ok (.iaload, 1) := by decide +kernel
theorem dX10_lumaDifferences_29 : decode cX10_lumaDifferences 29 = .ok (.isub, 1) := by decide +kernel
theorem dX10_lumaDifferences_30 : decode cX10_lumaDifferences 30 = .ok (.invokestatic 272, 3) := by decide +kernel
theorem dX10_lumaDifferences_33 : decode cX10_lumaDifferences 33 = .ok (.iadd, 1) := by decide +kernel
theorem dX10_lumaDifferences_34 : decode cX10_lumaDifferences 34 = .ok (.istore_n 1, 1) := by decide +kernel
theorem dX10_lumaDifferences_35 : decode cX10_lumaDifferences 35 = .ok (.iinc 2 1, 3) := by decide +kernel
theorem dX10_lumaDifferences_38 : decode cX10_lumaDifferences 38 = .ok (.goto (-34), 3) := by decide +kernel
theorem dX10_lumaDifferences_41 : decode cX10_lumaDifferences 41 = .ok (.iload_n 1, 1) := by decide +kernel
theorem dX10_lumaDifferences_42 : decode cX10_lumaDifferences 42 = .ok (.ireturn, 1) := by decide +kernel
theorem dX10_tally_0 : decode cX10_tally 0 = .ok (.iconst 0, 1) := by decide +kernel
theorem dX10_tally_1 : decode cX10_tally 1 = .ok (.istore_n 1, 1) := by decide +kernel
theorem dX10_tally_2 : decode cX10_tally 2 = .ok (.aload_n 0, 1) := by decide +kernel
theorem dX10_tally_3 : decode cX10_tally 3 = .ok (.astore_n 2, 1) := by decide +kernel
theorem dX10_tally_4 : decode cX10_tally 4 = .ok (.aload_n 2, 1) := by decide +kernel
theorem dX10_tally_5 : decode cX10_tally 5 = .ok (.arraylength, 1) := by decide +kernel
theorem dX10_tally_6 : decode cX10_tally 6 = .ok (.istore_n 3, 1) := by decide +kernel
theorem dX10_tally_7 : decode cX10_tally 7 = .ok (.iconst 0, 1) := by decide +kernel
theorem dX10_tally_8 : decode cX10_tally 8 = .ok (.istore 4, 2) := by decide +kernel
theorem dX10_tally_10 : decode cX10_tally 10 = .ok (.iload 4, 2) := by decide +kernel
theorem dX10_tally_12 : decode cX10_tally 12 = .ok (.iload_n 3, 1) := by decide +kernel
theorem dX10_tally_13 : decode cX10_tally 13 = .ok (.if_icmp .ge 23, 3) := by decide +kernel
theorem dX10_tally_16 : decode cX10_tally 16 = .ok (.aload_n 2, 1) := by decide +kernel
theorem dX10_tally_17 : decode cX10_tally 17 = .ok (.iload 4, 2) := by decide +kernel
theorem dX10_tally_19 : decode cX10_tally 19 = .ok (.baload, 1) := by decide +kernel
theorem dX10_tally_20 : decode cX10_tally 20 = .ok (.istore 5, 2) := by decide +kernel
theorem dX10_tally_22 : decode cX10_tally 22 = .ok (.iload_n 1, 1) := by decide +kernel
theorem dX10_tally_23 : decode cX10_tally 23 = .ok (.iload 5, 2) := by decide +kernel
theorem dX10_tally_25 : decode cX10_tally 25 = .ok (.invokestatic 123, 3) := by decide +kernel
theorem dX10_tally_28 : decode cX10_tally 28 = .ok (.iadd, 1) := by decide +kernel
theorem dX10_tally_29 : decode cX10_tally 29 = .ok (.istore_n 1, 1) := by decide +kernel
theorem dX10_tally_30 : decode cX10_tally 30 = .ok (.iinc 4 1, 3) := by decide +kernel
theorem dX10_tally_33 : decode cX10_tally 33 = .ok (.goto (-23), 3) := by decide +kernel
theorem dX10_tally_36 : decode cX10_tally 36 = .ok (.iload_n 1, 1) := by decide +kernel
theorem dX10_tally_37 : decode cX10_tally 37 = .ok (.ireturn, 1) := by decide +kernel
theorem dX10_tally__0 : decode cX10_tally_ 0 = .ok (.iconst 0, 1) := by decide +kernel
theorem dX10_tally__1 : decode cX10_tally_ 1 = .ok (.istore_n 2, 1) := by decide +kernel
theorem dX10_tally__2 : decode cX10_tally_ 2 = .ok (.aload_n 0, 1) := by decide +kernel
theorem dX10_tally__3 : decode cX10_tally_ 3 = .ok (.astore_n 3, 1) := by decide +kernel
theorem dX10_tally__4 : decode cX10_tally_ 4 = .ok (.aload_n 3, 1) := by decide +kernel
theorem dX10_tally__5 : decode cX10_tally_ 5 = .ok (.arraylength, 1) := by decide +kernel
theorem dX10_tally__6 : decode cX10_tally_ 6 = .ok (.istore 4, 2) := by decide +kernel
theorem dX10_tally__8 : decode cX10_tally_ 8 = .ok (.iconst 0, 1) := by decide +kernel
theorem dX10_tally__9 : decode cX10_tally_ 9 = .ok (.istore 5, 2) := by decide +kernel
theorem dX10_tally__11 : decode cX10_tally_ 11 = .ok (.iload 5, 2) := by decide +kernel
theorem dX10_tally__13 : decode cX10_tally_ 13 = .ok (.iload 4, 2) := by decide +kernel
theorem dX10_tally__15 : decode cX10_tally_ 15 = .ok (.if_icmp .ge 32, 3) := by decide +kernel
theorem dX10_tally__18 : decode cX10_tally_ 18 = .ok (.aload_n 3, 1) := by decide +kernel
theorem dX10_tally__19 : decode cX10_tally_ 19 = .ok (.iload 5, 2) := by decide +kernel
theorem dX10_tally__21 : decode cX10_tally_ 21 = .ok (.iaload, 1) := by decide +kernel
theorem dX10_tally__22 : decode cX10_tally_ 22 = .ok (.istore 6, 2) := by decide +kernel
theorem dX10_tally__24 : decode cX10_tally_ 24 = .ok (.iload_n 2, 1) := by decide +kernel
theorem dX10_tally__25 : decode cX10_tally_ 25 = .ok (.iload 6, 2) := by decide +kernel
theorem dX10_tally__27 : decode cX10_tally_ 27 = .ok (.iload_n 1, 1) := by decide +kernel
theorem dX10_tally__28 : decode cX10_tally_ 28 = .ok (.if_icmp .ne 7, 3) := by decide +kernel
theorem dX10_tally__31 : decode cX10_tally_ 31 = .ok (.iconst 1, 1) := by decide +kernel
theorem dX10_tally__32 : decode cX10_tally_ 32 = .ok (.goto 4, 3) := by decide +kernel
theorem dX10_tally__35 : decode cX10_tally_ 35 = .ok (.iconst 0, 1) := by decide +kernel
theorem dX10_tally__36 : decode cX10_tally_ 36 = .ok (.invokestatic 123, 3) := by decide +kernel
theorem dX10_tally__39 : decode cX10_tally_ 39 = .ok (.iadd, 1) := by decide +kernel
theorem dX10_tally__40 : decode cX10_tally_ 40 = .ok (.istore_n 2, 1) := by decide +kernel
theorem dX10_tally__41 : decode cX10_tally_ 41 = .ok (.iinc 5 1, 3) := by decide +kernel
theorem dX10_tally__44 : decode cX10_tally_ 44 = .ok (.goto (-33), 3) := by decide +kernel
theorem dX10_tally__47 : decode cX10_tally_ 47 = .ok (.iload_n 2, 1) := by decide +kernel
theorem dX10_tally__48 : decode cX10_tally_ 48 = .ok (.ireturn, 1) := by decide +kernel
theorem dX10_oneIf_0 : decode cX10_oneIf 0 = .ok (.iload_n 0, 1) := by decide +kernel
theorem dX10_oneIf_1 : decode cX10_oneIf 1 = .ok (.ifCond .eq 7, 3) := by decide +kernel
theorem dX10_oneIf_4 : decode cX10_oneIf 4 = .ok (.iconst 1, 1) := by decide +kernel
theorem dX10_oneIf_5 : decode cX10_oneIf 5 = .ok (.goto 4, 3) := by decide +kernel
theorem dX10_oneIf_8 : decode cX10_oneIf 8 = .ok (.iconst 0, 1) := by decide +kernel
theorem dX10_oneIf_9 : decode cX10_oneIf 9 = .ok (.ireturn, 1) := by decide +kernel
theorem dX10_isWithin_0 : decode cX10_isWithin 0 = .ok (.iload_n 0, 1) := by decide +kernel
theorem dX10_isWithin_1 : decode cX10_isWithin 1 = .ok (.iload_n 1, 1) := by decide +kernel
theorem dX10_isWithin_2 : decode cX10_isWithin 2 = .ok (.if_icmp .lt 12, 3) := by decide +kernel
theorem dX10_isWithin_5 : decode cX10_isWithin 5 = .ok (.iload_n 0, 1) := by decide +kernel
theorem dX10_isWithin_6 : decode cX10_isWithin 6 = .ok (.iload_n 2, 1) := by decide +kernel
theorem dX10_isWithin_7 : decode cX10_isWithin 7 = .ok (.if_icmp .gt 7, 3) := by decide +kernel
theorem dX10_isWithin_10 : decode cX10_isWithin 10 = .ok (.iconst 1, 1) := by decide +kernel
theorem dX10_isWithin_11 : decode cX10_isWithin 11 = .ok (.goto 4, 3) := by decide +kernel
theorem dX10_isWithin_14 : decode cX10_isWithin 14 = .ok (.iconst 0, 1) := by decide +kernel
theorem dX10_isWithin_15 : decode cX10_isWithin 15 = .ok (.ireturn, 1) := by decide +kernel
theorem dX10_isLine_0 : decode cX10_isLine 0 = .ok (.iload_n 0, 1) := by decide +kernel
theorem dX10_isLine_1 : decode cX10_isLine 1 = .ok (.iconst 0, 1) := by decide +kernel
theorem dX10_isLine_2 : decode cX10_isLine 2 = .ok (.bipush 7, 2) := by decide +kernel
theorem dX10_isLine_4 : decode cX10_isLine 4 = .ok (.invokestatic 105, 3) := by decide +kernel
theorem dX10_isLine_7 : decode cX10_isLine 7 = .ok (.ireturn, 1) := by decide +kernel
theorem dX10_isPlace_0 : decode cX10_isPlace 0 = .ok (.iload_n 0, 1) := by decide +kernel
theorem dX10_isPlace_1 : decode cX10_isPlace 1 = .ok (.invokestatic 101, 3) := by decide +kernel
theorem dX10_isPlace_4 : decode cX10_isPlace 4 = .ok (.ifCond .eq 17, 3) := by decide +kernel
theorem dX10_isPlace_7 : decode cX10_isPlace 7 = .ok (.iload_n 1, 1) := by decide +kernel
theorem dX10_isPlace_8 : decode cX10_isPlace 8 = .ok (.iconst 0, 1) := by decide +kernel
theorem dX10_isPlace_9 : decode cX10_isPlace 9 = .ok (.bipush 9, 2) := by decide +kernel
theorem dX10_isPlace_11 : decode cX10_isPlace 11 = .ok (.invokestatic 105, 3) := by decide +kernel
theorem dX10_isPlace_14 : decode cX10_isPlace 14 = .ok (.ifCond .eq 7, 3) := by decide +kernel
theorem dX10_isPlace_17 : decode cX10_isPlace 17 = .ok (.iconst 1, 1) := by decide +kernel
theorem dX10_isPlace_18 : decode cX10_isPlace 18 = .ok (.goto 4, 3) := by decide +kernel
theorem dX10_isPlace_21 : decode cX10_isPlace 21 = .ok (.iconst 0, 1) := by decide +kernel
theorem dX10_isPlace_22 : decode cX10_isPlace 22 = .ok (.ireturn, 1) := by decide +kernel
theorem dX10_isPaint_0 : decode cX10_isPaint 0 = .ok (.iload_n 0, 1) := by decide +kernel
theorem dX10_isPaint_1 : decode cX10_isPaint 1 = .ok (.iconst 0, 1) := by decide +kernel
theorem dX10_isPaint_2 : decode cX10_isPaint 2 = .ok (.sipush 200, 3) := by decide +kernel
theorem dX10_isPaint_5 : decode cX10_isPaint 5 = .ok (.invokestatic 105, 3) := by decide +kernel
theorem dX10_isPaint_8 : decode cX10_isPaint 8 = .ok (.ifCond .eq 29, 3) := by decide +kernel
theorem dX10_isPaint_11 : decode cX10_isPaint 11 = .ok (.iload_n 1, 1) := by decide +kernel
theorem dX10_isPaint_12 : decode cX10_isPaint 12 = .ok (.bipush (-60), 2) := by decide +kernel
theorem dX10_isPaint_14 : decode cX10_isPaint 14 = .ok (.bipush 60, 2) := by decide +kernel
theorem dX10_isPaint_16 : decode cX10_isPaint 16 = .ok (.invokestatic 105, 3) := by decide +kernel
theorem dX10_isPaint_19 : decode cX10_isPaint 19 = .ok (.ifCond .eq 18, 3) := by decide +kernel
theorem dX10_isPaint_22 : decode cX10_isPaint 22 = .ok (.iload_n 2, 1) := by decide +kernel
theorem dX10_isPaint_23 : decode cX10_isPaint 23 = .ok (.bipush (-60), 2) := by decide +kernel
theorem dX10_isPaint_25 : decode cX10_isPaint 25 = .ok (.bipush 60, 2) := by decide +kernel
theorem dX10_isPaint_27 : decode cX10_isPaint 27 = .ok (.invokestatic 105, 3) := by decide +kernel
theorem dX10_isPaint_30 : decode cX10_isPaint 30 = .ok (.ifCond .eq 7, 3) := by decide +kernel
theorem dX10_isPaint_33 : decode cX10_isPaint 33 = .ok (.iconst 1, 1) := by decide +kernel
theorem dX10_isPaint_34 : decode cX10_isPaint 34 = .ok (.goto 4, 3) := by decide +kernel
theorem dX10_isPaint_37 : decode cX10_isPaint 37 = .ok (.iconst 0, 1) := by decide +kernel
theorem dX10_isPaint_38 : decode cX10_isPaint 38 = .ok (.ireturn, 1) := by decide +kernel
theorem dX10_placeOf_0 : decode cX10_placeOf 0 = .ok (.iload_n 0, 1) := by decide +kernel
theorem dX10_placeOf_1 : decode cX10_placeOf 1 = .ok (.bipush 10, 2) := by decide +kernel
theorem dX10_placeOf_3 : decode cX10_placeOf 3 = .ok (.imul, 1) := by decide +kernel
theorem dX10_placeOf_4 : decode cX10_placeOf 4 = .ok (.iload_n 1, 1) := by decide +kernel
theorem dX10_placeOf_5 : decode cX10_placeOf 5 = .ok (.iadd, 1) := by decide +kernel
theorem dX10_placeOf_6 : decode cX10_placeOf 6 = .ok (.ireturn, 1) := by decide +kernel
theorem dX10_turnAt_0 : decode cX10_turnAt 0 = .ok (.iload_n 1, 1) := by decide +kernel
theorem dX10_turnAt_1 : decode cX10_turnAt 1 = .ok (.iconst 2, 1) := by decide +kernel
theorem dX10_turnAt_2 : decode cX10_turnAt 2 = .ok (.iload_n 0, 1) := by decide +kernel
theorem dX10_turnAt_3 : decode cX10_turnAt 3 = .ok (.imul, 1) := by decide +kernel
theorem dX10_turnAt_4 : decode cX10_turnAt 4 = .ok (.iadd, 1) := by decide +kernel
theorem dX10_turnAt_5 : decode cX10_turnAt 5 = .ok (.iconst 3, 1) := by decide +kernel
theorem dX10_turnAt_6 : decode cX10_turnAt 6 = .ok (.iand, 1) := by decide +kernel
theorem dX10_turnAt_7 : decode cX10_turnAt 7 = .ok (.ireturn, 1) := by decide +kernel
theorem dJ9_floorDiv_7cf53_0 : decode cJ9_floorDiv_7cf53 0 = .ok (.iload_n 0, 1) := by decide +kernel
theorem dJ9_floorDiv_7cf53_1 : decode cJ9_floorDiv_7cf53 1 = .ok (.iload_n 1, 1) := by decide +kernel
theorem dJ9_floorDiv_7cf53_2 : decode cJ9_floorDiv_7cf53 2 = .ok (.idiv, 1) := by decide +kernel
theorem dJ9_floorDiv_7cf53_3 : decode cJ9_floorDiv_7cf53 3 = .ok (.istore_n 2, 1) := by decide +kernel
theorem dJ9_floorDiv_7cf53_4 : decode cJ9_floorDiv_7cf53 4 = .ok (.iload_n 0, 1) := by decide +kernel
theorem dJ9_floorDiv_7cf53_5 : decode cJ9_floorDiv_7cf53 5 = .ok (.iload_n 1, 1) := by decide +kernel
theorem dJ9_floorDiv_7cf53_6 : decode cJ9_floorDiv_7cf53 6 = .ok (.ixor, 1) := by decide +kernel
theorem dJ9_floorDiv_7cf53_7 : decode cJ9_floorDiv_7cf53 7 = .ok (.ifCond .ge 14, 3) := by decide +kernel
theorem dJ9_floorDiv_7cf53_10 : decode cJ9_floorDiv_7cf53 10 = .ok (.iload_n 2, 1) := by decide +kernel
theorem dJ9_floorDiv_7cf53_11 : decode cJ9_floorDiv_7cf53 11 = .ok (.iload_n 1, 1) := by decide +kernel
theorem dJ9_floorDiv_7cf53_12 : decode cJ9_floorDiv_7cf53 12 = .ok (.imul, 1) := by decide +kernel
theorem dJ9_floorDiv_7cf53_13 : decode cJ9_floorDiv_7cf53 13 = .ok (.iload_n 0, 1) := by decide +kernel
theorem dJ9_floorDiv_7cf53_14 : decode cJ9_floorDiv_7cf53 14 = .ok (.if_icmp .eq 7, 3) := by decide +kernel
theorem dJ9_floorDiv_7cf53_17 : decode cJ9_floorDiv_7cf53 17 = .ok (.iload_n 2, 1) := by decide +kernel
theorem dJ9_floorDiv_7cf53_18 : decode cJ9_floorDiv_7cf53 18 = .ok (.iconst 1, 1) := by decide +kernel
theorem dJ9_floorDiv_7cf53_19 : decode cJ9_floorDiv_7cf53 19 = .ok (.isub, 1) := by decide +kernel
theorem dJ9_floorDiv_7cf53_20 : decode cJ9_floorDiv_7cf53 20 = .ok (.ireturn, 1) := by decide +kernel
theorem dJ9_floorDiv_7cf53_21 : decode cJ9_floorDiv_7cf53 21 = .ok (.iload_n 2, 1) := by decide +kernel
theorem dJ9_floorDiv_7cf53_22 : decode cJ9_floorDiv_7cf53 22 = .ok (.ireturn, 1) := by decide +kernel
theorem dJ9_floorMod_7cf53_0 : decode cJ9_floorMod_7cf53 0 = .ok (.iload_n 0, 1) := by decide +kernel
theorem dJ9_floorMod_7cf53_1 : decode cJ9_floorMod_7cf53 1 = .ok (.iload_n 1, 1) := by decide +kernel
theorem dJ9_floorMod_7cf53_2 : decode cJ9_floorMod_7cf53 2 = .ok (.irem, 1) := by decide +kernel
theorem dJ9_floorMod_7cf53_3 : decode cJ9_floorMod_7cf53 3 = .ok (.istore_n 2, 1) := by decide +kernel
theorem dJ9_floorMod_7cf53_4 : decode cJ9_floorMod_7cf53 4 = .ok (.iload_n 0, 1) := by decide +kernel
theorem dJ9_floorMod_7cf53_5 : decode cJ9_floorMod_7cf53 5 = .ok (.iload_n 1, 1) := by decide +kernel
theorem dJ9_floorMod_7cf53_6 : decode cJ9_floorMod_7cf53 6 = .ok (.ixor, 1) := by decide +kernel
theorem dJ9_floorMod_7cf53_7 : decode cJ9_floorMod_7cf53 7 = .ok (.ifCond .ge 11, 3) := by decide +kernel
theorem dJ9_floorMod_7cf53_10 : decode cJ9_floorMod_7cf53 10 = .ok (.iload_n 2, 1) := by decide +kernel
theorem dJ9_floorMod_7cf53_11 : decode cJ9_floorMod_7cf53 11 = .ok (.ifCond .eq 7, 3) := by decide +kernel
theorem dJ9_floorMod_7cf53_14 : decode cJ9_floorMod_7cf53 14 = .ok (.iload_n 2, 1) := by decide +kernel
theorem dJ9_floorMod_7cf53_15 : decode cJ9_floorMod_7cf53 15 = .ok (.iload_n 1, 1) := by decide +kernel
theorem dJ9_floorMod_7cf53_16 : decode cJ9_floorMod_7cf53 16 = .ok (.iadd, 1) := by decide +kernel
theorem dJ9_floorMod_7cf53_17 : decode cJ9_floorMod_7cf53 17 = .ok (.ireturn, 1) := by decide +kernel
theorem dJ9_floorMod_7cf53_18 : decode cJ9_floorMod_7cf53 18 = .ok (.iload_n 2, 1) := by decide +kernel
theorem dJ9_floorMod_7cf53_19 : decode cJ9_floorMod_7cf53 19 = .ok (.ireturn, 1) := by decide +kernel
theorem dJ9_abs_0f7a4_0 : decode cJ9_abs_0f7a4 0 = .ok (.iload_n 0, 1) := by decide +kernel
theorem dJ9_abs_0f7a4_1 : decode cJ9_abs_0f7a4 1 = .ok (.ifCond .ge 8, 3) := by decide +kernel
theorem dJ9_abs_0f7a4_4 : decode cJ9_abs_0f7a4 4 = .ok (.iload_n 0, 1) := by decide +kernel
theorem dJ9_abs_0f7a4_5 : decode cJ9_abs_0f7a4 5 = .ok (.ineg, 1) := by decide +kernel
theorem dJ9_abs_0f7a4_6 : decode cJ9_abs_0f7a4 6 = .ok (.goto 4, 3) := by decide +kernel
theorem dJ9_abs_0f7a4_9 : decode cJ9_abs_0f7a4 9 = .ok (.iload_n 0, 1) := by decide +kernel
theorem dJ9_abs_0f7a4_10 : decode cJ9_abs_0f7a4 10 = .ok (.ireturn, 1) := by decide +kernel
theorem dL_cell_0 : decode cL_cell 0 = .ok (.iload_n 1, 1) := by decide +kernel
theorem dL_cell_1 : decode cL_cell 1 = .ok (.aload_n 0, 1) := by decide +kernel
theorem dL_cell_2 : decode cL_cell 2 = .ok (.arraylength, 1) := by decide +kernel
theorem dL_cell_3 : decode cL_cell 3 = .ok (.if_icmp .ge 9, 3) := by decide +kernel
theorem dL_cell_6 : decode cL_cell 6 = .ok (.aload_n 0, 1) := by decide +kernel
theorem dL_cell_7 : decode cL_cell 7 = .ok (.iload_n 1, 1) := by decide +kernel
theorem dL_cell_8 : decode cL_cell 8 = .ok (.iaload, 1) := by decide +kernel
theorem dL_cell_9 : decode cL_cell 9 = .ok (.goto 11, 3) := by decide +kernel
theorem dL_cell_12 : decode cL_cell 12 = .ok (.ldc 7, 2) := by decide +kernel
theorem dL_cell_14 : decode cL_cell 14 = .ok (.iload_n 1, 1) := by decide +kernel
theorem dL_cell_15 : decode cL_cell 15 = .ok (.imul, 1) := by decide +kernel
theorem dL_cell_16 : decode cL_cell 16 = .ok (.sipush 5807, 3) := by decide +kernel
theorem dL_cell_19 : decode cL_cell 19 = .ok (.iadd, 1) := by decide +kernel
theorem dL_cell_20 : decode cL_cell 20 = .ok (.ireturn, 1) := by decide +kernel
theorem dL_low_0 : decode cL_low 0 = .ok (.iload_n 0, 1) := by decide +kernel
theorem dL_low_1 : decode cL_low 1 = .ok (.ldc 8, 2) := by decide +kernel
theorem dL_low_3 : decode cL_low 3 = .ok (.iand, 1) := by decide +kernel
theorem dL_low_4 : decode cL_low 4 = .ok (.iload_n 1, 1) := by decide +kernel
theorem dL_low_5 : decode cL_low 5 = .ok (.irem, 1) := by decide +kernel
theorem dL_low_6 : decode cL_low 6 = .ok (.ireturn, 1) := by decide +kernel
theorem dL_size_0 : decode cL_size 0 = .ok (.iload_n 0, 1) := by decide +kernel
theorem dL_size_1 : decode cL_size 1 = .ok (.ifCond .ge 8, 3) := by decide +kernel
theorem dL_size_4 : decode cL_size 4 = .ok (.iload_n 0, 1) := by decide +kernel
theorem dL_size_5 : decode cL_size 5 = .ok (.ineg, 1) := by decide +kernel
theorem dL_size_6 : decode cL_size 6 = .ok (.goto 4, 3) := by decide +kernel
theorem dL_size_9 : decode cL_size 9 = .ok (.iload_n 0, 1) := by decide +kernel
theorem dL_size_10 : decode cL_size 10 = .ok (.ireturn, 1) := by decide +kernel
theorem dL_floor_0 : decode cL_floor 0 = .ok (.iload_n 0, 1) := by decide +kernel
theorem dL_floor_1 : decode cL_floor 1 = .ok (.iload_n 0, 1) := by decide +kernel
theorem dL_floor_2 : decode cL_floor 2 = .ok (.iload_n 1, 1) := by decide +kernel
theorem dL_floor_3 : decode cL_floor 3 = .ok (.irem, 1) := by decide +kernel
theorem dL_floor_4 : decode cL_floor 4 = .ok (.iload_n 1, 1) := by decide +kernel
theorem dL_floor_5 : decode cL_floor 5 = .ok (.iadd, 1) := by decide +kernel
theorem dL_floor_6 : decode cL_floor 6 = .ok (.iload_n 1, 1) := by decide +kernel
theorem dL_floor_7 : decode cL_floor 7 = .ok (.irem, 1) := by decide +kernel
theorem dL_floor_8 : decode cL_floor 8 = .ok (.isub, 1) := by decide +kernel
theorem dL_floor_9 : decode cL_floor 9 = .ok (.iload_n 1, 1) := by decide +kernel
theorem dL_floor_10 : decode cL_floor 10 = .ok (.idiv, 1) := by decide +kernel
theorem dL_floor_11 : decode cL_floor 11 = .ok (.ireturn, 1) := by decide +kernel
theorem dL_at_0 : decode cL_at 0 = .ok (.iload_n 2, 1) := by decide +kernel
theorem dL_at_1 : decode cL_at 1 = .ok (.ifCond .lt 9, 3) := by decide +kernel
theorem dL_at_4 : decode cL_at 4 = .ok (.iload_n 2, 1) := by decide +kernel
theorem dL_at_5 : decode cL_at 5 = .ok (.bipush 111, 2) := by decide +kernel
theorem dL_at_7 : decode cL_at 7 = .ok (.if_icmp .le 7, 3) := by decide +kernel
theorem dL_at_10 : decode cL_at 10 = .ok (.iconst 0, 1) := by decide +kernel
theorem dL_at_11 : decode cL_at 11 = .ok (.goto 9, 3) := by decide +kernel
theorem dL_at_14 : decode cL_at 14 = .ok (.aload_n 0, 1) := by decide +kernel
theorem dL_at_15 : decode cL_at 15 = .ok (.iload_n 1, 1) := by decide +kernel
theorem dL_at_16 : decode cL_at 16 = .ok (.iload_n 2, 1) := by decide +kernel
theorem dL_at_17 : decode cL_at 17 = .ok (.invokevirtual 9, 3) := by decide +kernel
theorem dL_at_20 : decode cL_at 20 = .ok (.ireturn, 1) := by decide +kernel
theorem dL_sine_0 : decode cL_sine 0 = .ok (.iload_n 0, 1) := by decide +kernel
theorem dL_sine_1 : decode cL_sine 1 = .ok (.iconst 1, 1) := by decide +kernel
theorem dL_sine_2 : decode cL_sine 2 = .ok (.iand, 1) := by decide +kernel
theorem dL_sine_3 : decode cL_sine 3 = .ok (.ifCond .ne 7, 3) := by decide +kernel
theorem dL_sine_6 : decode cL_sine 6 = .ok (.iconst 0, 1) := by decide +kernel
theorem dL_sine_7 : decode cL_sine 7 = .ok (.goto 14, 3) := by decide +kernel
theorem dL_sine_10 : decode cL_sine 10 = .ok (.iload_n 0, 1) := by decide +kernel
theorem dL_sine_11 : decode cL_sine 11 = .ok (.iconst 2, 1) := by decide +kernel
theorem dL_sine_12 : decode cL_sine 12 = .ok (.iand, 1) := by decide +kernel
theorem dL_sine_13 : decode cL_sine 13 = .ok (.ifCond .ne 7, 3) := by decide +kernel
theorem dL_sine_16 : decode cL_sine 16 = .ok (.iconst 1, 1) := by decide +kernel
theorem dL_sine_17 : decode cL_sine 17 = .ok (.goto 4, 3) := by decide +kernel
theorem dL_sine_20 : decode cL_sine 20 = .ok (.iconst (-1), 1) := by decide +kernel
theorem dL_sine_21 : decode cL_sine 21 = .ok (.ireturn, 1) := by decide +kernel
theorem dL_cosine_0 : decode cL_cosine 0 = .ok (.iload_n 0, 1) := by decide +kernel
theorem dL_cosine_1 : decode cL_cosine 1 = .ok (.iconst 1, 1) := by decide +kernel
theorem dL_cosine_2 : decode cL_cosine 2 = .ok (.iadd, 1) := by decide +kernel
theorem dL_cosine_3 : decode cL_cosine 3 = .ok (.invokestatic 15, 3) := by decide +kernel
theorem dL_cosine_6 : decode cL_cosine 6 = .ok (.ireturn, 1) := by decide +kernel
theorem dL_lines_0 : decode cL_lines 0 = .ok (.bipush 32, 2) := by decide +kernel
theorem dL_lines_2 : decode cL_lines 2 = .ok (.istore_n 2, 1) := by decide +kernel
theorem dL_lines_3 : decode cL_lines 3 = .ok (.iconst 0, 1) := by decide +kernel
theorem dL_lines_4 : decode cL_lines 4 = .ok (.istore_n 3, 1) := by decide +kernel
theorem dL_lines_5 : decode cL_lines 5 = .ok (.iconst 0, 1) := by decide +kernel
theorem dL_lines_6 : decode cL_lines 6 = .ok (.istore 4, 2) := by decide +kernel
theorem dL_lines_8 : decode cL_lines 8 = .ok (.iconst 0, 1) := by decide +kernel
theorem dL_lines_9 : decode cL_lines 9 = .ok (.istore 5, 2) := by decide +kernel
theorem dL_lines_11 : decode cL_lines 11 = .ok (.iconst 0, 1) := by decide +kernel
theorem dL_lines_12 : decode cL_lines 12 = .ok (.istore 6, 2) := by decide +kernel
theorem dL_lines_14 : decode cL_lines 14 = .ok (.iconst 0, 1) := by decide +kernel
theorem dL_lines_15 : decode cL_lines 15 = .ok (.istore 7, 2) := by decide +kernel
theorem dL_lines_17 : decode cL_lines 17 = .ok (.iconst 1, 1) := by decide +kernel
theorem dL_lines_18 : decode cL_lines 18 = .ok (.istore 8, 2) := by decide +kernel
theorem dL_lines_20 : decode cL_lines 20 = .ok (.iconst 0, 1) := by decide +kernel
theorem dL_lines_21 : decode cL_lines 21 = .ok (.istore 9, 2) := by decide +kernel
theorem dL_lines_23 : decode cL_lines 23 = .ok (.iconst 0, 1) := by decide +kernel
theorem dL_lines_24 : decode cL_lines 24 = .ok (.istore 10, 2) := by decide +kernel
theorem dL_lines_26 : decode cL_lines 26 = .ok (.iconst 0, 1) := by decide +kernel
theorem dL_lines_27 : decode cL_lines 27 = .ok (.istore 11, 2) := by decide +kernel
theorem dL_lines_29 : decode cL_lines 29 = .ok (.iconst 0, 1) := by decide +kernel
theorem dL_lines_30 : decode cL_lines 30 = .ok (.istore 12, 2) := by decide +kernel
theorem dL_lines_32 : decode cL_lines 32 = .ok (.iconst 0, 1) := by decide +kernel
theorem dL_lines_33 : decode cL_lines 33 = .ok (.istore 13, 2) := by decide +kernel
theorem dL_lines_35 : decode cL_lines 35 = .ok (.iload 13, 2) := by decide +kernel
theorem dL_lines_37 : decode cL_lines 37 = .ok (.bipush 8, 2) := by decide +kernel
theorem dL_lines_39 : decode cL_lines 39 = .ok (.if_icmp .ge 691, 3) := by decide +kernel
theorem dL_lines_42 : decode cL_lines 42 = .ok (.ldc 21, 2) := by decide +kernel
theorem dL_lines_44 : decode cL_lines 44 = .ok (.istore 14, 2) := by decide +kernel
theorem dL_lines_46 : decode cL_lines 46 = .ok (.bipush 20, 2) := by decide +kernel
theorem dL_lines_48 : decode cL_lines 48 = .ok (.istore 15, 2) := by decide +kernel
theorem dL_lines_50 : decode cL_lines 50 = .ok (.iload 15, 2) := by decide +kernel
theorem dL_lines_52 : decode cL_lines 52 = .ok (.ifCond .lt 88, 3) := by decide +kernel
theorem dL_lines_55 : decode cL_lines 55 = .ok (.aload_n 0, 1) := by decide +kernel
theorem dL_lines_56 : decode cL_lines 56 = .ok (.iload 13, 2) := by decide +kernel
theorem dL_lines_58 : decode cL_lines 58 = .ok (.iload 15, 2) := by decide +kernel
theorem dL_lines_60 : decode cL_lines 60 = .ok (.invokestatic 22, 3) := by decide +kernel
theorem dL_lines_63 : decode cL_lines 63 = .ok (.bipush (-20), 2) := by decide +kernel
theorem dL_lines_65 : decode cL_lines 65 = .ok (.if_icmp .gt 52, 3) := by decide +kernel
theorem dL_lines_68 : decode cL_lines 68 = .ok (.aload_n 0, 1) := by decide +kernel
theorem dL_lines_69 : decode cL_lines 69 = .ok (.iload 13, 2) := by decide +kernel
theorem dL_lines_71 : decode cL_lines 71 = .ok (.iload 15, 2) := by decide +kernel
theorem dL_lines_73 : decode cL_lines 73 = .ok (.iconst 1, 1) := by decide +kernel
theorem dL_lines_74 : decode cL_lines 74 = .ok (.iadd, 1) := by decide +kernel
theorem dL_lines_75 : decode cL_lines 75 = .ok (.invokestatic 22, 3) := by decide +kernel
theorem dL_lines_78 : decode cL_lines 78 = .ok (.bipush (-20), 2) := by decide +kernel
theorem dL_lines_80 : decode cL_lines 80 = .ok (.if_icmp .gt 37, 3) := by decide +kernel
theorem dL_lines_83 : decode cL_lines 83 = .ok (.aload_n 0, 1) := by decide +kernel
theorem dL_lines_84 : decode cL_lines 84 = .ok (.iload 13, 2) := by decide +kernel
theorem dL_lines_86 : decode cL_lines 86 = .ok (.iload 15, 2) := by decide +kernel
theorem dL_lines_88 : decode cL_lines 88 = .ok (.iconst 2, 1) := by decide +kernel
theorem dL_lines_89 : decode cL_lines 89 = .ok (.iadd, 1) := by decide +kernel
theorem dL_lines_90 : decode cL_lines 90 = .ok (.invokestatic 22, 3) := by decide +kernel
theorem dL_lines_93 : decode cL_lines 93 = .ok (.bipush (-20), 2) := by decide +kernel
theorem dL_lines_95 : decode cL_lines 95 = .ok (.if_icmp .gt 22, 3) := by decide +kernel
theorem dL_lines_98 : decode cL_lines 98 = .ok (.aload_n 0, 1) := by decide +kernel
theorem dL_lines_99 : decode cL_lines 99 = .ok (.iload 13, 2) := by decide +kernel
theorem dL_lines_101 : decode cL_lines 101 = .ok (.iload 15, 2) := by decide +kernel
theorem dL_lines_103 : decode cL_lines 103 = .ok (.iconst 3, 1) := by decide +kernel
theorem dL_lines_104 : decode cL_lines 104 = .ok (.iadd, 1) := by decide +kernel
theorem dL_lines_105 : decode cL_lines 105 = .ok (.invokestatic 22, 3) := by decide +kernel
theorem dL_lines_108 : decode cL_lines 108 = .ok (.bipush (-20), 2) := by decide +kernel
theorem dL_lines_110 : decode cL_lines 110 = .ok (.if_icmp .gt 7, 3) := by decide +kernel
theorem dL_lines_113 : decode cL_lines 113 = .ok (.iconst 1, 1) := by decide +kernel
theorem dL_lines_114 : decode cL_lines 114 = .ok (.goto 4, 3) := by decide +kernel
theorem dL_lines_117 : decode cL_lines 117 = .ok (.iconst 0, 1) := by decide +kernel
theorem dL_lines_118 : decode cL_lines 118 = .ok (.istore 16, 2) := by decide +kernel
theorem dL_lines_120 : decode cL_lines 120 = .ok (.iload 16, 2) := by decide +kernel
theorem dL_lines_122 : decode cL_lines 122 = .ok (.ifCond .eq 8, 3) := by decide +kernel
theorem dL_lines_125 : decode cL_lines 125 = .ok (.iload 15, 2) := by decide +kernel
theorem dL_lines_127 : decode cL_lines 127 = .ok (.goto 5, 3) := by decide +kernel
theorem dL_lines_130 : decode cL_lines 130 = .ok (.iload 14, 2) := by decide +kernel
theorem dL_lines_132 : decode cL_lines 132 = .ok (.istore 14, 2) := by decide +kernel
theorem dL_lines_134 : decode cL_lines 134 = .ok (.iinc 15 (-1), 3) := by decide +kernel
theorem dL_lines_137 : decode cL_lines 137 = .ok (.goto (-87), 3) := by decide +kernel
theorem dL_lines_140 : decode cL_lines 140 = .ok (.iconst 4, 1) := by decide +kernel
theorem dL_lines_141 : decode cL_lines 141 = .ok (.iload 14, 2) := by decide +kernel
theorem dL_lines_143 : decode cL_lines 143 = .ok (.imul, 1) := by decide +kernel
theorem dL_lines_144 : decode cL_lines 144 = .ok (.iload_n 2, 1) := by decide +kernel
theorem dL_lines_145 : decode cL_lines 145 = .ok (.isub, 1) := by decide +kernel
theorem dL_lines_146 : decode cL_lines 146 = .ok (.istore 15, 2) := by decide +kernel
theorem dL_lines_148 : decode cL_lines 148 = .ok (.iload 14, 2) := by decide +kernel
theorem dL_lines_150 : decode cL_lines 150 = .ok (.ifCond .lt 21, 3) := by decide +kernel
theorem dL_lines_153 : decode cL_lines 153 = .ok (.iload 15, 2) := by decide +kernel
theorem dL_lines_155 : decode cL_lines 155 = .ok (.bipush (-12), 2) := by decide +kernel
theorem dL_lines_157 : decode cL_lines 157 = .ok (.if_icmp .lt 14, 3) := by decide +kernel
theorem dL_lines_160 : decode cL_lines 160 = .ok (.iload 15, 2) := by decide +kernel
theorem dL_lines_162 : decode cL_lines 162 = .ok (.bipush 12, 2) := by decide +kernel
theorem dL_lines_164 : decode cL_lines 164 = .ok (.if_icmp .gt 7, 3) := by decide +kernel
theorem dL_lines_167 : decode cL_lines 167 = .ok (.iconst 1, 1) := by decide +kernel
theorem dL_lines_168 : decode cL_lines 168 = .ok (.goto 4, 3) := by decide +kernel
theorem dL_lines_171 : decode cL_lines 171 = .ok (.iconst 0, 1) := by decide +kernel
theorem dL_lines_172 : decode cL_lines 172 = .ok (.istore 16, 2) := by decide +kernel
theorem dL_lines_174 : decode cL_lines 174 = .ok (.iload 16, 2) := by decide +kernel
theorem dL_lines_176 : decode cL_lines 176 = .ok (.ifCond .eq 13, 3) := by decide +kernel
theorem dL_lines_179 : decode cL_lines 179 = .ok (.iload_n 2, 1) := by decide +kernel
theorem dL_lines_180 : decode cL_lines 180 = .ok (.iload 15, 2) := by decide +kernel
theorem dL_lines_182 : decode cL_lines 182 = .ok (.iconst 2, 1) := by decide +kernel
theorem dL_lines_183 : decode cL_lines 183 = .ok (.idiv, 1) := by decide +kernel
theorem dL_lines_184 : decode cL_lines 184 = .ok (.iadd, 1) := by decide +kernel
theorem dL_lines_185 : decode cL_lines 185 = .ok (.istore_n 2, 1) := by decide +kernel
theorem dL_lines_186 : decode cL_lines 186 = .ok (.goto 18, 3) := by decide +kernel
theorem dL_lines_189 : decode cL_lines 189 = .ok (.iload 14, 2) := by decide +kernel
theorem dL_lines_191 : decode cL_lines 191 = .ok (.ifCond .lt 13, 3) := by decide +kernel
theorem dL_lines_194 : decode cL_lines 194 = .ok (.iload 5, 2) := by decide +kernel
theorem dL_lines_196 : decode cL_lines 196 = .ok (.ifCond .ne 8, 3) := by decide +kernel
theorem dL_lines_199 : decode cL_lines 199 = .ok (.iconst 4, 1) := by decide +kernel
theorem dL_lines_200 : decode cL_lines 200 = .ok (.iload 14, 2) := by decide +kernel
theorem dL_lines_202 : decode cL_lines 202 = .ok (.imul, 1) := by decide +kernel
theorem dL_lines_203 : decode cL_lines 203 = .ok (.istore_n 2, 1) := by decide +kernel
theorem dL_lines_204 : decode cL_lines 204 = .ok (.iload 16, 2) := by decide +kernel
theorem dL_lines_206 : decode cL_lines 206 = .ok (.ifCond .eq 9, 3) := by decide +kernel
theorem dL_lines_209 : decode cL_lines 209 = .ok (.iload_n 3, 1) := by decide +kernel
theorem dL_lines_210 : decode cL_lines 210 = .ok (.iconst 1, 1) := by decide +kernel
theorem dL_lines_211 : decode cL_lines 211 = .ok (.iadd, 1) := by decide +kernel
theorem dL_lines_212 : decode cL_lines 212 = .ok (.goto 4, 3) := by decide +kernel
theorem dL_lines_215 : decode cL_lines 215 = .ok (.iconst 0, 1) := by decide +kernel
theorem dL_lines_216 : decode cL_lines 216 = .ok (.istore_n 3, 1) := by decide +kernel
theorem dL_lines_217 : decode cL_lines 217 = .ok (.iload 16, 2) := by decide +kernel
theorem dL_lines_219 : decode cL_lines 219 = .ok (.ifCond .eq 7, 3) := by decide +kernel
theorem dL_lines_222 : decode cL_lines 222 = .ok (.iconst 0, 1) := by decide +kernel
theorem dL_lines_223 : decode cL_lines 223 = .ok (.goto 7, 3) := by decide +kernel
theorem dL_lines_226 : decode cL_lines 226 = .ok (.iload 4, 2) := by decide +kernel
theorem dL_lines_228 : decode cL_lines 228 = .ok (.iconst 1, 1) := by decide +kernel
theorem dL_lines_229 : decode cL_lines 229 = .ok (.iadd, 1) := by decide +kernel
theorem dL_lines_230 : decode cL_lines 230 = .ok (.istore 4, 2) := by decide +kernel
theorem dL_lines_232 : decode cL_lines 232 = .ok (.iload 5, 2) := by decide +kernel
theorem dL_lines_234 : decode cL_lines 234 = .ok (.ifCond .ne 8, 3) := by decide +kernel
theorem dL_lines_237 : decode cL_lines 237 = .ok (.iload_n 3, 1) := by decide +kernel
theorem dL_lines_238 : decode cL_lines 238 = .ok (.iconst 2, 1) := by decide +kernel
theorem dL_lines_239 : decode cL_lines 239 = .ok (.if_icmp .lt 13, 3) := by decide +kernel
theorem dL_lines_242 : decode cL_lines 242 = .ok (.iload 4, 2) := by decide +kernel
theorem dL_lines_244 : decode cL_lines 244 = .ok (.iconst 4, 1) := by decide +kernel
theorem dL_lines_245 : decode cL_lines 245 = .ok (.if_icmp .ge 7, 3) := by decide +kernel
theorem dL_lines_248 : decode cL_lines 248 = .ok (.iconst 1, 1) := by decide +kernel
theorem dL_lines_249 : decode cL_lines 249 = .ok (.goto 4, 3) := by decide +kernel
theorem dL_lines_252 : decode cL_lines 252 = .ok (.iconst 0, 1) := by decide +kernel
theorem dL_lines_253 : decode cL_lines 253 = .ok (.istore 5, 2) := by decide +kernel
theorem dL_lines_255 : decode cL_lines 255 = .ok (.iload 9, 2) := by decide +kernel
theorem dL_lines_257 : decode cL_lines 257 = .ok (.iload 5, 2) := by decide +kernel
theorem dL_lines_259 : decode cL_lines 259 = .ok (.ifCond .eq 7, 3) := by decide +kernel
theorem dL_lines_262 : decode cL_lines 262 = .ok (.iconst 1, 1) := by decide +kernel
theorem dL_lines_263 : decode cL_lines 263 = .ok (.goto 4, 3) := by decide +kernel
theorem dL_lines_266 : decode cL_lines 266 = .ok (.iconst 0, 1) := by decide +kernel
theorem dL_lines_267 : decode cL_lines 267 = .ok (.iadd, 1) := by decide +kernel
theorem dL_lines_268 : decode cL_lines 268 = .ok (.istore 9, 2) := by decide +kernel
theorem dL_lines_270 : decode cL_lines 270 = .ok (.iload 5, 2) := by decide +kernel
theorem dL_lines_272 : decode cL_lines 272 = .ok (.ifCond .ne 8, 3) := by decide +kernel
theorem dL_lines_275 : decode cL_lines 275 = .ok (.iload 14, 2) := by decide +kernel
theorem dL_lines_277 : decode cL_lines 277 = .ok (.ifCond .ge 13, 3) := by decide +kernel
theorem dL_lines_280 : decode cL_lines 280 = .ok (.iload_n 2, 1) := by decide +kernel
theorem dL_lines_281 : decode cL_lines 281 = .ok (.iconst 2, 1) := by decide +kernel
theorem dL_lines_282 : decode cL_lines 282 = .ok (.iadd, 1) := by decide +kernel
theorem dL_lines_283 : decode cL_lines 283 = .ok (.iconst 4, 1) := by decide +kernel
theorem dL_lines_284 : decode cL_lines 284 = .ok (.invokestatic 26, 3) := by decide +kernel
theorem dL_lines_287 : decode cL_lines 287 = .ok (.goto 5, 3) := by decide +kernel
theorem dL_lines_290 : decode cL_lines 290 = .ok (.iload 14, 2) := by decide +kernel
theorem dL_lines_292 : decode cL_lines 292 = .ok (.istore 17, 2) := by decide +kernel
theorem dL_lines_294 : decode cL_lines 294 = .ok (.iconst 0, 1) := by decide +kernel
theorem dL_lines_295 : decode cL_lines 295 = .ok (.istore 18, 2) := by decide +kernel
theorem dL_lines_297 : decode cL_lines 297 = .ok (.iconst 0, 1) := by decide +kernel
theorem dL_lines_298 : decode cL_lines 298 = .ok (.istore 19, 2) := by decide +kernel
theorem dL_lines_300 : decode cL_lines 300 = .ok (.iload 17, 2) := by decide +kernel
theorem dL_lines_302 : decode cL_lines 302 = .ok (.bipush 8, 2) := by decide +kernel
theorem dL_lines_304 : decode cL_lines 304 = .ok (.iadd, 1) := by decide +kernel
theorem dL_lines_305 : decode cL_lines 305 = .ok (.istore 20, 2) := by decide +kernel
theorem dL_lines_307 : decode cL_lines 307 = .ok (.iload 20, 2) := by decide +kernel
theorem dL_lines_309 : decode cL_lines 309 = .ok (.iload 17, 2) := by decide +kernel
theorem dL_lines_311 : decode cL_lines 311 = .ok (.bipush 16, 2) := by decide +kernel
theorem dL_lines_313 : decode cL_lines 313 = .ok (.iadd, 1) := by decide +kernel
theorem dL_lines_314 : decode cL_lines 314 = .ok (.if_icmp .ge 57, 3) := by decide +kernel
theorem dL_lines_317 : decode cL_lines 317 = .ok (.iload 18, 2) := by decide +kernel
theorem dL_lines_319 : decode cL_lines 319 = .ok (.aload_n 0, 1) := by decide +kernel
theorem dL_lines_320 : decode cL_lines 320 = .ok (.iload 13, 2) := by decide +kernel
theorem dL_lines_322 : decode cL_lines 322 = .ok (.iload 20, 2) := by decide +kernel
theorem dL_lines_324 : decode cL_lines 324 = .ok (.invokestatic 22, 3) := by decide +kernel
theorem dL_lines_327 : decode cL_lines 327 = .ok (.iload 20, 2) := by decide +kernel
theorem dL_lines_329 : decode cL_lines 329 = .ok (.iconst 2, 1) := by decide +kernel
theorem dL_lines_330 : decode cL_lines 330 = .ok (.iload 13, 2) := by decide +kernel
theorem dL_lines_332 : decode cL_lines 332 = .ok (.imul, 1) := by decide +kernel
theorem dL_lines_333 : decode cL_lines 333 = .ok (.iadd, 1) := by decide +kernel
theorem dL_lines_334 : decode cL_lines 334 = .ok (.invokestatic 15, 3) := by decide +kernel
theorem dL_lines_337 : decode cL_lines 337 = .ok (.imul, 1) := by decide +kernel
theorem dL_lines_338 : decode cL_lines 338 = .ok (.iadd, 1) := by decide +kernel
theorem dL_lines_339 : decode cL_lines 339 = .ok (.istore 18, 2) := by decide +kernel
theorem dL_lines_341 : decode cL_lines 341 = .ok (.iload 19, 2) := by decide +kernel
theorem dL_lines_343 : decode cL_lines 343 = .ok (.aload_n 0, 1) := by decide +kernel
theorem dL_lines_344 : decode cL_lines 344 = .ok (.iload 13, 2) := by decide +kernel
theorem dL_lines_346 : decode cL_lines 346 = .ok (.iload 20, 2) := by decide +kernel
theorem dL_lines_348 : decode cL_lines 348 = .ok (.invokestatic 22, 3) := by decide +kernel
theorem dL_lines_351 : decode cL_lines 351 = .ok (.iload 20, 2) := by decide +kernel
theorem dL_lines_353 : decode cL_lines 353 = .ok (.iconst 2, 1) := by decide +kernel
theorem dL_lines_354 : decode cL_lines 354 = .ok (.iload 13, 2) := by decide +kernel
theorem dL_lines_356 : decode cL_lines 356 = .ok (.imul, 1) := by decide +kernel
theorem dL_lines_357 : decode cL_lines 357 = .ok (.iadd, 1) := by decide +kernel
theorem dL_lines_358 : decode cL_lines 358 = .ok (.invokestatic 29, 3) := by decide +kernel
theorem dL_lines_361 : decode cL_lines 361 = .ok (.imul, 1) := by decide +kernel
theorem dL_lines_362 : decode cL_lines 362 = .ok (.iadd, 1) := by decide +kernel
theorem dL_lines_363 : decode cL_lines 363 = .ok (.istore 19, 2) := by decide +kernel
theorem dL_lines_365 : decode cL_lines 365 = .ok (.iinc 20 1, 3) := by decide +kernel
theorem dL_lines_368 : decode cL_lines 368 = .ok (.goto (-61), 3) := by decide +kernel
theorem dL_lines_371 : decode cL_lines 371 = .ok (.iload 18, 2) := by decide +kernel
theorem dL_lines_373 : decode cL_lines 373 = .ok (.invokestatic 32, 3) := by decide +kernel
theorem dL_lines_376 : decode cL_lines 376 = .ok (.iload 19, 2) := by decide +kernel
theorem dL_lines_378 : decode cL_lines 378 = .ok (.invokestatic 32, 3) := by decide +kernel
theorem dL_lines_381 : decode cL_lines 381 = .ok (.iadd, 1) := by decide +kernel
theorem dL_lines_382 : decode cL_lines 382 = .ok (.iconst 4, 1) := by decide +kernel
theorem dL_lines_383 : decode cL_lines 383 = .ok (.aload_n 0, 1) := by decide +kernel
theorem dL_lines_384 : decode cL_lines 384 = .ok (.bipush 15, 2) := by decide +kernel
theorem dL_lines_386 : decode cL_lines 386 = .ok (.invokevirtual 35, 3) := by decide +kernel
theorem dL_lines_389 : decode cL_lines 389 = .ok (.imul, 1) := by decide +kernel
theorem dL_lines_390 : decode cL_lines 390 = .ok (.if_icmp .lt 7, 3) := by decide +kernel
theorem dL_lines_393 : decode cL_lines 393 = .ok (.iconst 1, 1) := by decide +kernel
theorem dL_lines_394 : decode cL_lines 394 = .ok (.goto 4, 3) := by decide +kernel
theorem dL_lines_397 : decode cL_lines 397 = .ok (.iconst 0, 1) := by decide +kernel
theorem dL_lines_398 : decode cL_lines 398 = .ok (.istore 20, 2) := by decide +kernel
theorem dL_lines_400 : decode cL_lines 400 = .ok (.iload 20, 2) := by decide +kernel
theorem dL_lines_402 : decode cL_lines 402 = .ok (.ifCond .eq 10, 3) := by decide +kernel
theorem dL_lines_405 : decode cL_lines 405 = .ok (.iload 6, 2) := by decide +kernel
theorem dL_lines_407 : decode cL_lines 407 = .ok (.iconst 1, 1) := by decide +kernel
theorem dL_lines_408 : decode cL_lines 408 = .ok (.iadd, 1) := by decide +kernel
theorem dL_lines_409 : decode cL_lines 409 = .ok (.goto 4, 3) := by decide +kernel
theorem dL_lines_412 : decode cL_lines 412 = .ok (.iconst 0, 1) := by decide +kernel
theorem dL_lines_413 : decode cL_lines 413 = .ok (.istore 6, 2) := by decide +kernel
theorem dL_lines_415 : decode cL_lines 415 = .ok (.iload 20, 2) := by decide +kernel
theorem dL_lines_417 : decode cL_lines 417 = .ok (.ifCond .eq 7, 3) := by decide +kernel
theorem dL_lines_420 : decode cL_lines 420 = .ok (.iconst 0, 1) := by decide +kernel
theorem dL_lines_421 : decode cL_lines 421 = .ok (.goto 7, 3) := by decide +kernel
