theorem dX0_init_0 : decode cX0_init 0 = .ok (.aload_n 0, 1) := by decide +kernel
theorem dX0_init_1 : decode cX0_init 1 = .ok (.invokespecial 3, 3) := by decide +kernel
theorem dX0_init_4 : decode cX0_init 4 = .ok (.aload_n 0, 1) := by decide +kernel
theorem dX0_init_5 : decode cX0_init 5 = .ok (.new 9, 3) := by decide +kernel
theorem dX0_init_8 : decode cX0_init 8 = .ok (.dup, 1) := by decide +kernel
theorem dX0_init_9 : decode cX0_init 9 = .ok (.bipush 30, 2) := by decide +kernel
theorem dX0_init_11 : decode cX0_init 11 = .ok (.bipush 10, 2) := by decide +kernel
theorem dX0_init_13 : decode cX0_init 13 = .ok (.invokespecial 11, 3) := by decide +kernel
theorem dX0_init_16 : decode cX0_init 16 = .ok (.putfield 14, 3) := by decide +kernel
theorem dX0_init_19 : decode cX0_init 19 = .ok (.aload_n 0, 1) := by decide +kernel
theorem dX0_init_20 : decode cX0_init 20 = .ok (.bipush 8, 2) := by decide +kernel
theorem dX0_init_22 : decode cX0_init 22 = .ok (.bipush 30, 2) := by decide +kernel
theorem dX0_init_24 : decode cX0_init 24 = .ok (.multianewarray 20 2, 4) := by decide +kernel
theorem dX0_init_28 : decode cX0_init 28 = .ok (.putfield 22, 3) := by decide +kernel
theorem dX0_init_31 : decode cX0_init 31 = .ok (.aload_n 0, 1) := by decide +kernel
theorem dX0_init_32 : decode cX0_init 32 = .ok (.bipush 30, 2) := by decide +kernel
theorem dX0_init_34 : decode cX0_init 34 = .ok (.newarray .int, 2) := by decide +kernel
theorem dX0_init_36 : decode cX0_init 36 = .ok (.putfield 25, 3) := by decide +kernel
theorem dX0_init_39 : decode cX0_init 39 = .ok (.aload_n 0, 1) := by decide +kernel
theorem dX0_init_40 : decode cX0_init 40 = .ok (.new 9, 3) := by decide +kernel
theorem dX0_init_43 : decode cX0_init 43 = .ok (.dup, 1) := by decide +kernel
theorem dX0_init_44 : decode cX0_init 44 = .ok (.bipush 12, 2) := by decide +kernel
theorem dX0_init_46 : decode cX0_init 46 = .ok (.iconst 4, 1) := by decide +kernel
theorem dX0_init_47 : decode cX0_init 47 = .ok (.invokespecial 11, 3) := by decide +kernel
theorem dX0_init_50 : decode cX0_init 50 = .ok (.putfield 29, 3) := by decide +kernel
theorem dX0_init_53 : decode cX0_init 53 = .ok (.aload_n 0, 1) := by decide +kernel
theorem dX0_init_54 : decode cX0_init 54 = .ok (.bipush 50, 2) := by decide +kernel
theorem dX0_init_56 : decode cX0_init 56 = .ok (.newarray .int, 2) := by decide +kernel
theorem dX0_init_58 : decode cX0_init 58 = .ok (.putfield 32, 3) := by decide +kernel
theorem dX0_init_61 : decode cX0_init 61 = .ok (.aload_n 0, 1) := by decide +kernel
theorem dX0_init_62 : decode cX0_init 62 = .ok (.bipush 11, 2) := by decide +kernel
theorem dX0_init_64 : decode cX0_init 64 = .ok (.newarray .int, 2) := by decide +kernel
theorem dX0_init_66 : decode cX0_init 66 = .ok (.putfield 35, 3) := by decide +kernel
theorem dX0_init_69 : decode cX0_init 69 = .ok (.aload_n 0, 1) := by decide +kernel
theorem dX0_init_70 : decode cX0_init 70 = .ok (.sipush 4096, 3) := by decide +kernel
theorem dX0_init_73 : decode cX0_init 73 = .ok (.newarray .int, 2) := by decide +kernel
theorem dX0_init_75 : decode cX0_init 75 = .ok (.putfield 38, 3) := by decide +kernel
theorem dX0_init_78 : decode cX0_init 78 = .ok (.aload_n 0, 1) := by decide +kernel
theorem dX0_init_79 : decode cX0_init 79 = .ok (.sipush 4096, 3) := by decide +kernel
theorem dX0_init_82 : decode cX0_init 82 = .ok (.newarray .int, 2) := by decide +kernel
theorem dX0_init_84 : decode cX0_init 84 = .ok (.putfield 41, 3) := by decide +kernel
theorem dX0_init_87 : decode cX0_init 87 = .ok (.aload_n 0, 1) := by decide +kernel
theorem dX0_init_88 : decode cX0_init 88 = .ok (.aload_n 1, 1) := by decide +kernel
theorem dX0_init_89 : decode cX0_init 89 = .ok (.putfield 44, 3) := by decide +kernel
theorem dX0_init_92 : decode cX0_init 92 = .ok (.return_, 1) := by decide +kernel
theorem dX0_weighWords_0 : decode cX0_weighWords 0 = .ok (.iconst 0, 1) := by decide +kernel
theorem dX0_weighWords_1 : decode cX0_weighWords 1 = .ok (.istore_n 2, 1) := by decide +kernel
theorem dX0_weighWords_2 : decode cX0_weighWords 2 = .ok (.iload_n 2, 1) := by decide +kernel
theorem dX0_weighWords_3 : decode cX0_weighWords 3 = .ok (.aload_n 0, 1) := by decide +kernel
theorem dX0_weighWords_4 : decode cX0_weighWords 4 = .ok (.getfield 14, 3) := by decide +kernel
theorem dX0_weighWords_7 : decode cX0_weighWords 7 = .ok (.getfield 48, 3) := by decide +kernel
theorem dX0_weighWords_10 : decode cX0_weighWords 10 = .ok (.if_icmp .ge 43, 3) := by decide +kernel
theorem dX0_weighWords_13 : decode cX0_weighWords 13 = .ok (.aload_n 0, 1) := by decide +kernel
theorem dX0_weighWords_14 : decode cX0_weighWords 14 = .ok (.getfield 25, 3) := by decide +kernel
theorem dX0_weighWords_17 : decode cX0_weighWords 17 = .ok (.iload_n 2, 1) := by decide +kernel
theorem dX0_weighWords_18 : decode cX0_weighWords 18 = .ok (.aload_n 0, 1) := by decide +kernel
theorem dX0_weighWords_19 : decode cX0_weighWords 19 = .ok (.getfield 44, 3) := by decide +kernel
theorem dX0_weighWords_22 : decode cX0_weighWords 22 = .ok (.aload_n 1, 1) := by decide +kernel
theorem dX0_weighWords_23 : decode cX0_weighWords 23 = .ok (.aload_n 0, 1) := by decide +kernel
theorem dX0_weighWords_24 : decode cX0_weighWords 24 = .ok (.getfield 14, 3) := by decide +kernel
theorem dX0_weighWords_27 : decode cX0_weighWords 27 = .ok (.getfield 52, 3) := by decide +kernel
theorem dX0_weighWords_30 : decode cX0_weighWords 30 = .ok (.iload_n 2, 1) := by decide +kernel
theorem dX0_weighWords_31 : decode cX0_weighWords 31 = .ok (.bipush 10, 2) := by decide +kernel
theorem dX0_weighWords_33 : decode cX0_weighWords 33 = .ok (.imul, 1) := by decide +kernel
theorem dX0_weighWords_34 : decode cX0_weighWords 34 = .ok (.aload_n 0, 1) := by decide +kernel
theorem dX0_weighWords_35 : decode cX0_weighWords 35 = .ok (.getfield 14, 3) := by decide +kernel
theorem dX0_weighWords_38 : decode cX0_weighWords 38 = .ok (.getfield 55, 3) := by decide +kernel
theorem dX0_weighWords_41 : decode cX0_weighWords 41 = .ok (.iload_n 2, 1) := by decide +kernel
theorem dX0_weighWords_42 : decode cX0_weighWords 42 = .ok (.iaload, 1) := by decide +kernel
theorem dX0_weighWords_43 : decode cX0_weighWords 43 = .ok (.invokevirtual 58, 3) := by decide +kernel
theorem dX0_weighWords_46 : decode cX0_weighWords 46 = .ok (.iastore, 1) := by decide +kernel
theorem dX0_weighWords_47 : decode cX0_weighWords 47 = .ok (.iinc 2 1, 3) := by decide +kernel
theorem dX0_weighWords_50 : decode cX0_weighWords 50 = .ok (.goto (-48), 3) := by decide +kernel
theorem dX0_weighWords_53 : decode cX0_weighWords 53 = .ok (.return_, 1) := by decide +kernel
theorem dX0_canPrint_0 : decode cX0_canPrint 0 = .ok (.iconst 0, 1) := by decide +kernel
theorem dX0_canPrint_1 : decode cX0_canPrint 1 = .ok (.istore_n 2, 1) := by decide +kernel
theorem dX0_canPrint_2 : decode cX0_canPrint 2 = .ok (.iload_n 2, 1) := by decide +kernel
theorem dX0_canPrint_3 : decode cX0_canPrint 3 = .ok (.aload_n 0, 1) := by decide +kernel
theorem dX0_canPrint_4 : decode cX0_canPrint 4 = .ok (.getfield 14, 3) := by decide +kernel
theorem dX0_canPrint_7 : decode cX0_canPrint 7 = .ok (.getfield 48, 3) := by decide +kernel
theorem dX0_canPrint_10 : decode cX0_canPrint 10 = .ok (.if_icmp .ge 33, 3) := by decide +kernel
theorem dX0_canPrint_13 : decode cX0_canPrint 13 = .ok (.aload_n 0, 1) := by decide +kernel
theorem dX0_canPrint_14 : decode cX0_canPrint 14 = .ok (.getfield 22, 3) := by decide +kernel
theorem dX0_canPrint_17 : decode cX0_canPrint 17 = .ok (.iload_n 1, 1) := by decide +kernel
theorem dX0_canPrint_18 : decode cX0_canPrint 18 = .ok (.aaload, 1) := by decide +kernel
theorem dX0_canPrint_19 : decode cX0_canPrint 19 = .ok (.iload_n 2, 1) := by decide +kernel
theorem dX0_canPrint_20 : decode cX0_canPrint 20 = .ok (.iaload, 1) := by decide +kernel
theorem dX0_canPrint_21 : decode cX0_canPrint 21 = .ok (.ifCond .le 16, 3) := by decide +kernel
theorem dX0_canPrint_24 : decode cX0_canPrint 24 = .ok (.aload_n 0, 1) := by decide +kernel
theorem dX0_canPrint_25 : decode cX0_canPrint 25 = .ok (.getfield 25, 3) := by decide +kernel
theorem dX0_canPrint_28 : decode cX0_canPrint 28 = .ok (.iload_n 2, 1) := by decide +kernel
theorem dX0_canPrint_29 : decode cX0_canPrint 29 = .ok (.iaload, 1) := by decide +kernel
theorem dX0_canPrint_30 : decode cX0_canPrint 30 = .ok (.ldc 64, 2) := by decide +kernel
theorem dX0_canPrint_32 : decode cX0_canPrint 32 = .ok (.if_icmp .lt 5, 3) := by decide +kernel
theorem dX0_canPrint_35 : decode cX0_canPrint 35 = .ok (.iconst 0, 1) := by decide +kernel
theorem dX0_canPrint_36 : decode cX0_canPrint 36 = .ok (.ireturn, 1) := by decide +kernel
theorem dX0_canPrint_37 : decode cX0_canPrint 37 = .ok (.iinc 2 1, 3) := by decide +kernel
theorem dX0_canPrint_40 : decode cX0_canPrint 40 = .ok (.goto (-38), 3) := by decide +kernel
theorem dX0_canPrint_43 : decode cX0_canPrint 43 = .ok (.iconst 1, 1) := by decide +kernel
theorem dX0_canPrint_44 : decode cX0_canPrint 44 = .ok (.ireturn, 1) := by decide +kernel
theorem dX0_cellsOf_0 : decode cX0_cellsOf 0 = .ok (.iconst 0, 1) := by decide +kernel
theorem dX0_cellsOf_1 : decode cX0_cellsOf 1 = .ok (.istore_n 2, 1) := by decide +kernel
theorem dX0_cellsOf_2 : decode cX0_cellsOf 2 = .ok (.iconst 0, 1) := by decide +kernel
theorem dX0_cellsOf_3 : decode cX0_cellsOf 3 = .ok (.istore_n 3, 1) := by decide +kernel
theorem dX0_cellsOf_4 : decode cX0_cellsOf 4 = .ok (.iload_n 3, 1) := by decide +kernel
theorem dX0_cellsOf_5 : decode cX0_cellsOf 5 = .ok (.aload_n 0, 1) := by decide +kernel
theorem dX0_cellsOf_6 : decode cX0_cellsOf 6 = .ok (.getfield 14, 3) := by decide +kernel
theorem dX0_cellsOf_9 : decode cX0_cellsOf 9 = .ok (.getfield 48, 3) := by decide +kernel
theorem dX0_cellsOf_12 : decode cX0_cellsOf 12 = .ok (.if_icmp .ge 30, 3) := by decide +kernel
theorem dX0_cellsOf_15 : decode cX0_cellsOf 15 = .ok (.iload_n 2, 1) := by decide +kernel
theorem dX0_cellsOf_16 : decode cX0_cellsOf 16 = .ok (.aload_n 0, 1) := by decide +kernel
theorem dX0_cellsOf_17 : decode cX0_cellsOf 17 = .ok (.getfield 22, 3) := by decide +kernel
theorem dX0_cellsOf_20 : decode cX0_cellsOf 20 = .ok (.iload_n 1, 1) := by decide +kernel
theorem dX0_cellsOf_21 : decode cX0_cellsOf 21 = .ok (.aaload, 1) := by decide +kernel
theorem dX0_cellsOf_22 : decode cX0_cellsOf 22 = .ok (.iload_n 3, 1) := by decide +kernel
theorem dX0_cellsOf_23 : decode cX0_cellsOf 23 = .ok (.iaload, 1) := by decide +kernel
theorem dX0_cellsOf_24 : decode cX0_cellsOf 24 = .ok (.aload_n 0, 1) := by decide +kernel
theorem dX0_cellsOf_25 : decode cX0_cellsOf 25 = .ok (.getfield 25, 3) := by decide +kernel
theorem dX0_cellsOf_28 : decode cX0_cellsOf 28 = .ok (.iload_n 3, 1) := by decide +kernel
theorem dX0_cellsOf_29 : decode cX0_cellsOf 29 = .ok (.iaload, 1) := by decide +kernel
theorem dX0_cellsOf_30 : decode cX0_cellsOf 30 = .ok (.invokestatic 65, 3) := by decide +kernel
theorem dX0_cellsOf_33 : decode cX0_cellsOf 33 = .ok (.imul, 1) := by decide +kernel
theorem dX0_cellsOf_34 : decode cX0_cellsOf 34 = .ok (.iadd, 1) := by decide +kernel
theorem dX0_cellsOf_35 : decode cX0_cellsOf 35 = .ok (.istore_n 2, 1) := by decide +kernel
theorem dX0_cellsOf_36 : decode cX0_cellsOf 36 = .ok (.iinc 3 1, 3) := by decide +kernel
theorem dX0_cellsOf_39 : decode cX0_cellsOf 39 = .ok (.goto (-35), 3) := by decide +kernel
theorem dX0_cellsOf_42 : decode cX0_cellsOf 42 = .ok (.iload_n 2, 1) := by decide +kernel
theorem dX0_cellsOf_43 : decode cX0_cellsOf 43 = .ok (.ireturn, 1) := by decide +kernel
theorem dX0_pointsOf_0 : decode cX0_pointsOf 0 = .ok (.iconst 0, 1) := by decide +kernel
theorem dX0_pointsOf_1 : decode cX0_pointsOf 1 = .ok (.istore_n 2, 1) := by decide +kernel
theorem dX0_pointsOf_2 : decode cX0_pointsOf 2 = .ok (.iconst 0, 1) := by decide +kernel
theorem dX0_pointsOf_3 : decode cX0_pointsOf 3 = .ok (.istore_n 3, 1) := by decide +kernel
theorem dX0_pointsOf_4 : decode cX0_pointsOf 4 = .ok (.iload_n 3, 1) := by decide +kernel
theorem dX0_pointsOf_5 : decode cX0_pointsOf 5 = .ok (.aload_n 0, 1) := by decide +kernel
theorem dX0_pointsOf_6 : decode cX0_pointsOf 6 = .ok (.getfield 14, 3) := by decide +kernel
theorem dX0_pointsOf_9 : decode cX0_pointsOf 9 = .ok (.getfield 48, 3) := by decide +kernel
theorem dX0_pointsOf_12 : decode cX0_pointsOf 12 = .ok (.if_icmp .ge 30, 3) := by decide +kernel
theorem dX0_pointsOf_15 : decode cX0_pointsOf 15 = .ok (.iload_n 2, 1) := by decide +kernel
theorem dX0_pointsOf_16 : decode cX0_pointsOf 16 = .ok (.aload_n 0, 1) := by decide +kernel
theorem dX0_pointsOf_17 : decode cX0_pointsOf 17 = .ok (.getfield 22, 3) := by decide +kernel
theorem dX0_pointsOf_20 : decode cX0_pointsOf 20 = .ok (.iload_n 1, 1) := by decide +kernel
theorem dX0_pointsOf_21 : decode cX0_pointsOf 21 = .ok (.aaload, 1) := by decide +kernel
theorem dX0_pointsOf_22 : decode cX0_pointsOf 22 = .ok (.iload_n 3, 1) := by decide +kernel
theorem dX0_pointsOf_23 : decode cX0_pointsOf 23 = .ok (.iaload, 1) := by decide +kernel
theorem dX0_pointsOf_24 : decode cX0_pointsOf 24 = .ok (.aload_n 0, 1) := by decide +kernel
theorem dX0_pointsOf_25 : decode cX0_pointsOf 25 = .ok (.getfield 25, 3) := by decide +kernel
theorem dX0_pointsOf_28 : decode cX0_pointsOf 28 = .ok (.iload_n 3, 1) := by decide +kernel
theorem dX0_pointsOf_29 : decode cX0_pointsOf 29 = .ok (.iaload, 1) := by decide +kernel
theorem dX0_pointsOf_30 : decode cX0_pointsOf 30 = .ok (.invokestatic 69, 3) := by decide +kernel
theorem dX0_pointsOf_33 : decode cX0_pointsOf 33 = .ok (.imul, 1) := by decide +kernel
theorem dX0_pointsOf_34 : decode cX0_pointsOf 34 = .ok (.iadd, 1) := by decide +kernel
theorem dX0_pointsOf_35 : decode cX0_pointsOf 35 = .ok (.istore_n 2, 1) := by decide +kernel
theorem dX0_pointsOf_36 : decode cX0_pointsOf 36 = .ok (.iinc 3 1, 3) := by decide +kernel
theorem dX0_pointsOf_39 : decode cX0_pointsOf 39 = .ok (.goto (-35), 3) := by decide +kernel
theorem dX0_pointsOf_42 : decode cX0_pointsOf 42 = .ok (.iload_n 2, 1) := by decide +kernel
theorem dX0_pointsOf_43 : decode cX0_pointsOf 43 = .ok (.ireturn, 1) := by decide +kernel
theorem dX0_pagesOf_0 : decode cX0_pagesOf 0 = .ok (.aload_n 0, 1) := by decide +kernel
theorem dX0_pagesOf_1 : decode cX0_pagesOf 1 = .ok (.iload_n 1, 1) := by decide +kernel
theorem dX0_pagesOf_2 : decode cX0_pagesOf 2 = .ok (.invokevirtual 72, 3) := by decide +kernel
theorem dX0_pagesOf_5 : decode cX0_pagesOf 5 = .ok (.sipush 200, 3) := by decide +kernel
theorem dX0_pagesOf_8 : decode cX0_pagesOf 8 = .ok (.iadd, 1) := by decide +kernel
theorem dX0_pagesOf_9 : decode cX0_pagesOf 9 = .ok (.iconst 1, 1) := by decide +kernel
theorem dX0_pagesOf_10 : decode cX0_pagesOf 10 = .ok (.isub, 1) := by decide +kernel
theorem dX0_pagesOf_11 : decode cX0_pagesOf 11 = .ok (.sipush 200, 3) := by decide +kernel
theorem dX0_pagesOf_14 : decode cX0_pagesOf 14 = .ok (.idiv, 1) := by decide +kernel
theorem dX0_pagesOf_15 : decode cX0_pagesOf 15 = .ok (.ireturn, 1) := by decide +kernel
theorem dX0_chooseRows_0 : decode cX0_chooseRows 0 = .ok (.aload_n 0, 1) := by decide +kernel
theorem dX0_chooseRows_1 : decode cX0_chooseRows 1 = .ok (.iload_n 1, 1) := by decide +kernel
theorem dX0_chooseRows_2 : decode cX0_chooseRows 2 = .ok (.invokevirtual 73, 3) := by decide +kernel
theorem dX0_chooseRows_5 : decode cX0_chooseRows 5 = .ok (.istore 4, 2) := by decide +kernel
theorem dX0_chooseRows_7 : decode cX0_chooseRows 7 = .ok (.iconst 1, 1) := by decide +kernel
theorem dX0_chooseRows_8 : decode cX0_chooseRows 8 = .ok (.iload 4, 2) := by decide +kernel
theorem dX0_chooseRows_10 : decode cX0_chooseRows 10 = .ok (.invokestatic 76, 3) := by decide +kernel
theorem dX0_chooseRows_13 : decode cX0_chooseRows 13 = .ok (.ishl, 1) := by decide +kernel
theorem dX0_chooseRows_14 : decode cX0_chooseRows 14 = .ok (.istore 5, 2) := by decide +kernel
theorem dX0_chooseRows_16 : decode cX0_chooseRows 16 = .ok (.aload_n 0, 1) := by decide +kernel
theorem dX0_chooseRows_17 : decode cX0_chooseRows 17 = .ok (.iload_n 1, 1) := by decide +kernel
theorem dX0_chooseRows_18 : decode cX0_chooseRows 18 = .ok (.aload_n 2, 1) := by decide +kernel
theorem dX0_chooseRows_19 : decode cX0_chooseRows 19 = .ok (.iload 4, 2) := by decide +kernel
theorem dX0_chooseRows_21 : decode cX0_chooseRows 21 = .ok (.iload_n 3, 1) := by decide +kernel
theorem dX0_chooseRows_22 : decode cX0_chooseRows 22 = .ok (.invokevirtual 81, 3) := by decide +kernel
theorem dX0_chooseRows_25 : decode cX0_chooseRows 25 = .ok (.bipush (-6), 2) := by decide +kernel
theorem dX0_chooseRows_27 : decode cX0_chooseRows 27 = .ok (.istore 6, 2) := by decide +kernel
theorem dX0_chooseRows_29 : decode cX0_chooseRows 29 = .ok (.ldc 64, 2) := by decide +kernel
theorem dX0_chooseRows_31 : decode cX0_chooseRows 31 = .ok (.istore 7, 2) := by decide +kernel
theorem dX0_chooseRows_33 : decode cX0_chooseRows 33 = .ok (.iconst 0, 1) := by decide +kernel
theorem dX0_chooseRows_34 : decode cX0_chooseRows 34 = .ok (.istore 8, 2) := by decide +kernel
theorem dX0_chooseRows_36 : decode cX0_chooseRows 36 = .ok (.iconst 0, 1) := by decide +kernel
theorem dX0_chooseRows_37 : decode cX0_chooseRows 37 = .ok (.istore 9, 2) := by decide +kernel
theorem dX0_chooseRows_39 : decode cX0_chooseRows 39 = .ok (.iconst 0, 1) := by decide +kernel
theorem dX0_chooseRows_40 : decode cX0_chooseRows 40 = .ok (.istore 10, 2) := by decide +kernel
theorem dX0_chooseRows_42 : decode cX0_chooseRows 42 = .ok (.iload 10, 2) := by decide +kernel
theorem dX0_chooseRows_44 : decode cX0_chooseRows 44 = .ok (.iload 5, 2) := by decide +kernel
theorem dX0_chooseRows_46 : decode cX0_chooseRows 46 = .ok (.if_icmp .ge 91, 3) := by decide +kernel
theorem dX0_chooseRows_49 : decode cX0_chooseRows 49 = .ok (.iload 9, 2) := by decide +kernel
theorem dX0_chooseRows_51 : decode cX0_chooseRows 51 = .ok (.invokestatic 76, 3) := by decide +kernel
theorem dX0_chooseRows_54 : decode cX0_chooseRows 54 = .ok (.istore 11, 2) := by decide +kernel
theorem dX0_chooseRows_56 : decode cX0_chooseRows 56 = .ok (.aload_n 0, 1) := by decide +kernel
theorem dX0_chooseRows_57 : decode cX0_chooseRows 57 = .ok (.getfield 41, 3) := by decide +kernel
theorem dX0_chooseRows_60 : decode cX0_chooseRows 60 = .ok (.iload 9, 2) := by decide +kernel
theorem dX0_chooseRows_62 : decode cX0_chooseRows 62 = .ok (.iaload, 1) := by decide +kernel
theorem dX0_chooseRows_63 : decode cX0_chooseRows 63 = .ok (.iload 7, 2) := by decide +kernel
theorem dX0_chooseRows_65 : decode cX0_chooseRows 65 = .ok (.if_icmp .lt 22, 3) := by decide +kernel
theorem dX0_chooseRows_68 : decode cX0_chooseRows 68 = .ok (.aload_n 0, 1) := by decide +kernel
theorem dX0_chooseRows_69 : decode cX0_chooseRows 69 = .ok (.getfield 41, 3) := by decide +kernel
theorem dX0_chooseRows_72 : decode cX0_chooseRows 72 = .ok (.iload 9, 2) := by decide +kernel
theorem dX0_chooseRows_74 : decode cX0_chooseRows 74 = .ok (.iaload, 1) := by decide +kernel
theorem dX0_chooseRows_75 : decode cX0_chooseRows 75 = .ok (.iload 7, 2) := by decide +kernel
theorem dX0_chooseRows_77 : decode cX0_chooseRows 77 = .ok (.if_icmp .ne 14, 3) := by decide +kernel
theorem dX0_chooseRows_80 : decode cX0_chooseRows 80 = .ok (.iload 11, 2) := by decide +kernel
theorem dX0_chooseRows_82 : decode cX0_chooseRows 82 = .ok (.iload 8, 2) := by decide +kernel
theorem dX0_chooseRows_84 : decode cX0_chooseRows 84 = .ok (.if_icmp .ge 7, 3) := by decide +kernel
theorem dX0_chooseRows_87 : decode cX0_chooseRows 87 = .ok (.iconst 1, 1) := by decide +kernel
theorem dX0_chooseRows_88 : decode cX0_chooseRows 88 = .ok (.goto 4, 3) := by decide +kernel
theorem dX0_chooseRows_91 : decode cX0_chooseRows 91 = .ok (.iconst 0, 1) := by decide +kernel
theorem dX0_chooseRows_92 : decode cX0_chooseRows 92 = .ok (.istore 12, 2) := by decide +kernel
theorem dX0_chooseRows_94 : decode cX0_chooseRows 94 = .ok (.iload 11, 2) := by decide +kernel
theorem dX0_chooseRows_96 : decode cX0_chooseRows 96 = .ok (.iload_n 3, 1) := by decide +kernel
theorem dX0_chooseRows_97 : decode cX0_chooseRows 97 = .ok (.if_icmp .gt 25, 3) := by decide +kernel
theorem dX0_chooseRows_100 : decode cX0_chooseRows 100 = .ok (.iload 12, 2) := by decide +kernel
theorem dX0_chooseRows_102 : decode cX0_chooseRows 102 = .ok (.ifCond .eq 20, 3) := by decide +kernel
theorem dX0_chooseRows_105 : decode cX0_chooseRows 105 = .ok (.iload 9, 2) := by decide +kernel
theorem dX0_chooseRows_107 : decode cX0_chooseRows 107 = .ok (.istore 6, 2) := by decide +kernel
theorem dX0_chooseRows_109 : decode cX0_chooseRows 109 = .ok (.aload_n 0, 1) := by decide +kernel
theorem dX0_chooseRows_110 : decode cX0_chooseRows 110 = .ok (.getfield 41, 3) := by decide +kernel
theorem dX0_chooseRows_113 : decode cX0_chooseRows 113 = .ok (.iload 9, 2) := by decide +kernel
theorem dX0_chooseRows_115 : decode cX0_chooseRows 115 = .ok (.iaload, 1) := by decide +kernel
theorem dX0_chooseRows_116 : decode cX0_chooseRows 116 = .ok (.istore 7, 2) := by decide +kernel
theorem dX0_chooseRows_118 : decode cX0_chooseRows 118 = .ok (.iload 11, 2) := by decide +kernel
theorem dX0_chooseRows_120 : decode cX0_chooseRows 120 = .ok (.istore 8, 2) := by decide +kernel
theorem dX0_chooseRows_122 : decode cX0_chooseRows 122 = .ok (.iload 9, 2) := by decide +kernel
theorem dX0_chooseRows_124 : decode cX0_chooseRows 124 = .ok (.iload 4, 2) := by decide +kernel
theorem dX0_chooseRows_126 : decode cX0_chooseRows 126 = .ok (.invokestatic 85, 3) := by decide +kernel
theorem dX0_chooseRows_129 : decode cX0_chooseRows 129 = .ok (.istore 9, 2) := by decide +kernel
theorem dX0_chooseRows_131 : decode cX0_chooseRows 131 = .ok (.iinc 10 1, 3) := by decide +kernel
theorem dX0_chooseRows_134 : decode cX0_chooseRows 134 = .ok (.goto (-92), 3) := by decide +kernel
theorem dX0_chooseRows_137 : decode cX0_chooseRows 137 = .ok (.iload 6, 2) := by decide +kernel
theorem dX0_chooseRows_139 : decode cX0_chooseRows 139 = .ok (.ireturn, 1) := by decide +kernel
theorem dX0_nextSet_0 : decode cX0_nextSet 0 = .ok (.iload_n 0, 1) := by decide +kernel
theorem dX0_nextSet_1 : decode cX0_nextSet 1 = .ok (.iload_n 1, 1) := by decide +kernel
theorem dX0_nextSet_2 : decode cX0_nextSet 2 = .ok (.isub, 1) := by decide +kernel
theorem dX0_nextSet_3 : decode cX0_nextSet 3 = .ok (.iload_n 1, 1) := by decide +kernel
theorem dX0_nextSet_4 : decode cX0_nextSet 4 = .ok (.iand, 1) := by decide +kernel
theorem dX0_nextSet_5 : decode cX0_nextSet 5 = .ok (.ireturn, 1) := by decide +kernel
theorem dX0_times_0 : decode cX0_times 0 = .ok (.iload_n 1, 1) := by decide +kernel
theorem dX0_times_1 : decode cX0_times 1 = .ok (.ldc 64, 2) := by decide +kernel
theorem dX0_times_3 : decode cX0_times 3 = .ok (.if_icmp .lt 8, 3) := by decide +kernel
theorem dX0_times_6 : decode cX0_times 6 = .ok (.ldc 64, 2) := by decide +kernel
theorem dX0_times_8 : decode cX0_times 8 = .ok (.goto 6, 3) := by decide +kernel
theorem dX0_times_11 : decode cX0_times 11 = .ok (.iload_n 0, 1) := by decide +kernel
theorem dX0_times_12 : decode cX0_times 12 = .ok (.iload_n 1, 1) := by decide +kernel
theorem dX0_times_13 : decode cX0_times 13 = .ok (.imul, 1) := by decide +kernel
theorem dX0_times_14 : decode cX0_times 14 = .ok (.ireturn, 1) := by decide +kernel
theorem dX0_usefulRows_0 : decode cX0_usefulRows 0 = .ok (.iconst 0, 1) := by decide +kernel
theorem dX0_usefulRows_1 : decode cX0_usefulRows 1 = .ok (.istore_n 2, 1) := by decide +kernel
theorem dX0_usefulRows_2 : decode cX0_usefulRows 2 = .ok (.iconst 0, 1) := by decide +kernel
theorem dX0_usefulRows_3 : decode cX0_usefulRows 3 = .ok (.istore_n 3, 1) := by decide +kernel
theorem dX0_usefulRows_4 : decode cX0_usefulRows 4 = .ok (.iload_n 3, 1) := by decide +kernel
theorem dX0_usefulRows_5 : decode cX0_usefulRows 5 = .ok (.aload_n 0, 1) := by decide +kernel
theorem dX0_usefulRows_6 : decode cX0_usefulRows 6 = .ok (.getfield 14, 3) := by decide +kernel
theorem dX0_usefulRows_9 : decode cX0_usefulRows 9 = .ok (.getfield 48, 3) := by decide +kernel
theorem dX0_usefulRows_12 : decode cX0_usefulRows 12 = .ok (.if_icmp .ge 32, 3) := by decide +kernel
theorem dX0_usefulRows_15 : decode cX0_usefulRows 15 = .ok (.iload_n 2, 1) := by decide +kernel
theorem dX0_usefulRows_16 : decode cX0_usefulRows 16 = .ok (.aload_n 0, 1) := by decide +kernel
theorem dX0_usefulRows_17 : decode cX0_usefulRows 17 = .ok (.getfield 22, 3) := by decide +kernel
theorem dX0_usefulRows_20 : decode cX0_usefulRows 20 = .ok (.iload_n 1, 1) := by decide +kernel
theorem dX0_usefulRows_21 : decode cX0_usefulRows 21 = .ok (.aaload, 1) := by decide +kernel
theorem dX0_usefulRows_22 : decode cX0_usefulRows 22 = .ok (.iload_n 3, 1) := by decide +kernel
theorem dX0_usefulRows_23 : decode cX0_usefulRows 23 = .ok (.iaload, 1) := by decide +kernel
theorem dX0_usefulRows_24 : decode cX0_usefulRows 24 = .ok (.ifCond .le 11, 3) := by decide +kernel
theorem dX0_usefulRows_27 : decode cX0_usefulRows 27 = .ok (.aload_n 0, 1) := by decide +kernel
theorem dX0_usefulRows_28 : decode cX0_usefulRows 28 = .ok (.iload_n 3, 1) := by decide +kernel
theorem dX0_usefulRows_29 : decode cX0_usefulRows 29 = .ok (.invokevirtual 89, 3) := by decide +kernel
theorem dX0_usefulRows_32 : decode cX0_usefulRows 32 = .ok (.goto 4, 3) := by decide +kernel
theorem dX0_usefulRows_35 : decode cX0_usefulRows 35 = .ok (.iconst 0, 1) := by decide +kernel
theorem dX0_usefulRows_36 : decode cX0_usefulRows 36 = .ok (.ior, 1) := by decide +kernel
theorem dX0_usefulRows_37 : decode cX0_usefulRows 37 = .ok (.istore_n 2, 1) := by decide +kernel
theorem dX0_usefulRows_38 : decode cX0_usefulRows 38 = .ok (.iinc 3 1, 3) := by decide +kernel
theorem dX0_usefulRows_41 : decode cX0_usefulRows 41 = .ok (.goto (-37), 3) := by decide +kernel
theorem dX0_usefulRows_44 : decode cX0_usefulRows 44 = .ok (.iload_n 2, 1) := by decide +kernel
theorem dX0_usefulRows_45 : decode cX0_usefulRows 45 = .ok (.ireturn, 1) := by decide +kernel
theorem dX0_sumSets_0 : decode cX0_sumSets 0 = .ok (.iconst 1, 1) := by decide +kernel
theorem dX0_sumSets_1 : decode cX0_sumSets 1 = .ok (.iload_n 3, 1) := by decide +kernel
theorem dX0_sumSets_2 : decode cX0_sumSets 2 = .ok (.invokestatic 76, 3) := by decide +kernel
theorem dX0_sumSets_5 : decode cX0_sumSets 5 = .ok (.ishl, 1) := by decide +kernel
theorem dX0_sumSets_6 : decode cX0_sumSets 6 = .ok (.istore 5, 2) := by decide +kernel
theorem dX0_sumSets_8 : decode cX0_sumSets 8 = .ok (.aload_n 0, 1) := by decide +kernel
theorem dX0_sumSets_9 : decode cX0_sumSets 9 = .ok (.getfield 41, 3) := by decide +kernel
theorem dX0_sumSets_12 : decode cX0_sumSets 12 = .ok (.iconst 0, 1) := by decide +kernel
theorem dX0_sumSets_13 : decode cX0_sumSets 13 = .ok (.invokestatic 92, 3) := by decide +kernel
theorem dX0_sumSets_16 : decode cX0_sumSets 16 = .ok (.iconst 0, 1) := by decide +kernel
theorem dX0_sumSets_17 : decode cX0_sumSets 17 = .ok (.istore 6, 2) := by decide +kernel
theorem dX0_sumSets_19 : decode cX0_sumSets 19 = .ok (.iload 6, 2) := by decide +kernel
theorem dX0_sumSets_21 : decode cX0_sumSets 21 = .ok (.aload_n 0, 1) := by decide +kernel
theorem dX0_sumSets_22 : decode cX0_sumSets 22 = .ok (.getfield 14, 3) := by decide +kernel
theorem dX0_sumSets_25 : decode cX0_sumSets 25 = .ok (.getfield 48, 3) := by decide +kernel
theorem dX0_sumSets_28 : decode cX0_sumSets 28 = .ok (.if_icmp .ge 116, 3) := by decide +kernel
theorem dX0_sumSets_31 : decode cX0_sumSets 31 = .ok (.aload_n 0, 1) := by decide +kernel
theorem dX0_sumSets_32 : decode cX0_sumSets 32 = .ok (.getfield 22, 3) := by decide +kernel
theorem dX0_sumSets_35 : decode cX0_sumSets 35 = .ok (.iload_n 1, 1) := by decide +kernel
theorem dX0_sumSets_36 : decode cX0_sumSets 36 = .ok (.aaload, 1) := by decide +kernel
theorem dX0_sumSets_37 : decode cX0_sumSets 37 = .ok (.iload 6, 2) := by decide +kernel
theorem dX0_sumSets_39 : decode cX0_sumSets 39 = .ok (.iaload, 1) := by decide +kernel
theorem dX0_sumSets_40 : decode cX0_sumSets 40 = .ok (.istore 7, 2) := by decide +kernel
theorem dX0_sumSets_42 : decode cX0_sumSets 42 = .ok (.iload 7, 2) := by decide +kernel
theorem dX0_sumSets_44 : decode cX0_sumSets 44 = .ok (.ifCond .le 94, 3) := by decide +kernel
theorem dX0_sumSets_47 : decode cX0_sumSets 47 = .ok (.aload_n 0, 1) := by decide +kernel
theorem dX0_sumSets_48 : decode cX0_sumSets 48 = .ok (.iload 6, 2) := by decide +kernel
theorem dX0_sumSets_50 : decode cX0_sumSets 50 = .ok (.invokevirtual 89, 3) := by decide +kernel
theorem dX0_sumSets_53 : decode cX0_sumSets 53 = .ok (.istore 8, 2) := by decide +kernel
theorem dX0_sumSets_55 : decode cX0_sumSets 55 = .ok (.aload_n 0, 1) := by decide +kernel
theorem dX0_sumSets_56 : decode cX0_sumSets 56 = .ok (.iload 6, 2) := by decide +kernel
theorem dX0_sumSets_58 : decode cX0_sumSets 58 = .ok (.aload_n 2, 1) := by decide +kernel
theorem dX0_sumSets_59 : decode cX0_sumSets 59 = .ok (.iload 8, 2) := by decide +kernel
theorem dX0_sumSets_61 : decode cX0_sumSets 61 = .ok (.iload 4, 2) := by decide +kernel
theorem dX0_sumSets_63 : decode cX0_sumSets 63 = .ok (.invokevirtual 98, 3) := by decide +kernel
theorem dX0_sumSets_66 : decode cX0_sumSets 66 = .ok (.iconst 0, 1) := by decide +kernel
theorem dX0_sumSets_67 : decode cX0_sumSets 67 = .ok (.istore 9, 2) := by decide +kernel
theorem dX0_sumSets_69 : decode cX0_sumSets 69 = .ok (.iconst 0, 1) := by decide +kernel
theorem dX0_sumSets_70 : decode cX0_sumSets 70 = .ok (.istore 10, 2) := by decide +kernel
theorem dX0_sumSets_72 : decode cX0_sumSets 72 = .ok (.iload 10, 2) := by decide +kernel
theorem dX0_sumSets_74 : decode cX0_sumSets 74 = .ok (.iload 5, 2) := by decide +kernel
theorem dX0_sumSets_76 : decode cX0_sumSets 76 = .ok (.if_icmp .ge 62, 3) := by decide +kernel
theorem dX0_sumSets_79 : decode cX0_sumSets 79 = .ok (.iload 9, 2) := by decide +kernel
theorem dX0_sumSets_81 : decode cX0_sumSets 81 = .ok (.invokestatic 76, 3) := by decide +kernel
theorem dX0_sumSets_84 : decode cX0_sumSets 84 = .ok (.iload 4, 2) := by decide +kernel
theorem dX0_sumSets_86 : decode cX0_sumSets 86 = .ok (.if_icmp .gt 38, 3) := by decide +kernel
theorem dX0_sumSets_89 : decode cX0_sumSets 89 = .ok (.aload_n 0, 1) := by decide +kernel
theorem dX0_sumSets_90 : decode cX0_sumSets 90 = .ok (.getfield 41, 3) := by decide +kernel
theorem dX0_sumSets_93 : decode cX0_sumSets 93 = .ok (.iload 9, 2) := by decide +kernel
theorem dX0_sumSets_95 : decode cX0_sumSets 95 = .ok (.ldc 64, 2) := by decide +kernel
theorem dX0_sumSets_97 : decode cX0_sumSets 97 = .ok (.aload_n 0, 1) := by decide +kernel
theorem dX0_sumSets_98 : decode cX0_sumSets 98 = .ok (.getfield 41, 3) := by decide +kernel
theorem dX0_sumSets_101 : decode cX0_sumSets 101 = .ok (.iload 9, 2) := by decide +kernel
theorem dX0_sumSets_103 : decode cX0_sumSets 103 = .ok (.iaload, 1) := by decide +kernel
theorem dX0_sumSets_104 : decode cX0_sumSets 104 = .ok (.iload 7, 2) := by decide +kernel
theorem dX0_sumSets_106 : decode cX0_sumSets 106 = .ok (.aload_n 0, 1) := by decide +kernel
theorem dX0_sumSets_107 : decode cX0_sumSets 107 = .ok (.getfield 38, 3) := by decide +kernel
theorem dX0_sumSets_110 : decode cX0_sumSets 110 = .ok (.iload 9, 2) := by decide +kernel
theorem dX0_sumSets_112 : decode cX0_sumSets 112 = .ok (.iload 8, 2) := by decide +kernel
theorem dX0_sumSets_114 : decode cX0_sumSets 114 = .ok (.iand, 1) := by decide +kernel
theorem dX0_sumSets_115 : decode cX0_sumSets 115 = .ok (.iaload, 1) := by decide +kernel
theorem dX0_sumSets_116 : decode cX0_sumSets 116 = .ok (.invokestatic 101, 3) := by decide +kernel
theorem dX0_sumSets_119 : decode cX0_sumSets 119 = .ok (.iadd, 1) := by decide +kernel
theorem dX0_sumSets_120 : decode cX0_sumSets 120 = .ok (.invokestatic 104, 3) := by decide +kernel
theorem dX0_sumSets_123 : decode cX0_sumSets 123 = .ok (.iastore, 1) := by decide +kernel
theorem dX0_sumSets_124 : decode cX0_sumSets 124 = .ok (.iload 9, 2) := by decide +kernel
theorem dX0_sumSets_126 : decode cX0_sumSets 126 = .ok (.iload_n 3, 1) := by decide +kernel
theorem dX0_sumSets_127 : decode cX0_sumSets 127 = .ok (.invokestatic 85, 3) := by decide +kernel
theorem dX0_sumSets_130 : decode cX0_sumSets 130 = .ok (.istore 9, 2) := by decide +kernel
theorem dX0_sumSets_132 : decode cX0_sumSets 132 = .ok (.iinc 10 1, 3) := by decide +kernel
theorem dX0_sumSets_135 : decode cX0_sumSets 135 = .ok (.goto (-63), 3) := by decide +kernel
theorem dX0_sumSets_138 : decode cX0_sumSets 138 = .ok (.iinc 6 1, 3) := by decide +kernel
theorem dX0_sumSets_141 : decode cX0_sumSets 141 = .ok (.goto (-122), 3) := by decide +kernel
theorem dX0_sumSets_144 : decode cX0_sumSets 144 = .ok (.return_, 1) := by decide +kernel
theorem dX0_placeRows_0 : decode cX0_placeRows 0 = .ok (.aload_n 0, 1) := by decide +kernel
theorem dX0_placeRows_1 : decode cX0_placeRows 1 = .ok (.getfield 32, 3) := by decide +kernel
theorem dX0_placeRows_4 : decode cX0_placeRows 4 = .ok (.iconst 0, 1) := by decide +kernel
theorem dX0_placeRows_5 : decode cX0_placeRows 5 = .ok (.invokestatic 92, 3) := by decide +kernel
theorem dX0_placeRows_8 : decode cX0_placeRows 8 = .ok (.iconst 0, 1) := by decide +kernel
theorem dX0_placeRows_9 : decode cX0_placeRows 9 = .ok (.istore_n 2, 1) := by decide +kernel
theorem dX0_placeRows_10 : decode cX0_placeRows 10 = .ok (.iload_n 1, 1) := by decide +kernel
theorem dX0_placeRows_11 : decode cX0_placeRows 11 = .ok (.bipush 10, 2) := by decide +kernel
theorem dX0_placeRows_13 : decode cX0_placeRows 13 = .ok (.imul, 1) := by decide +kernel
theorem dX0_placeRows_14 : decode cX0_placeRows 14 = .ok (.istore_n 3, 1) := by decide +kernel
theorem dX0_placeRows_15 : decode cX0_placeRows 15 = .ok (.iconst 0, 1) := by decide +kernel
theorem dX0_placeRows_16 : decode cX0_placeRows 16 = .ok (.istore 4, 2) := by decide +kernel
theorem dX0_placeRows_18 : decode cX0_placeRows 18 = .ok (.iload 4, 2) := by decide +kernel
theorem dX0_placeRows_20 : decode cX0_placeRows 20 = .ok (.aload_n 0, 1) := by decide +kernel
theorem dX0_placeRows_21 : decode cX0_placeRows 21 = .ok (.getfield 14, 3) := by decide +kernel
theorem dX0_placeRows_24 : decode cX0_placeRows 24 = .ok (.getfield 55, 3) := by decide +kernel
theorem dX0_placeRows_27 : decode cX0_placeRows 27 = .ok (.iload_n 1, 1) := by decide +kernel
theorem dX0_placeRows_28 : decode cX0_placeRows 28 = .ok (.iaload, 1) := by decide +kernel
theorem dX0_placeRows_29 : decode cX0_placeRows 29 = .ok (.if_icmp .ge 109, 3) := by decide +kernel
theorem dX0_placeRows_32 : decode cX0_placeRows 32 = .ok (.iconst 0, 1) := by decide +kernel
theorem dX0_placeRows_33 : decode cX0_placeRows 33 = .ok (.istore 5, 2) := by decide +kernel
theorem dX0_placeRows_35 : decode cX0_placeRows 35 = .ok (.iload 5, 2) := by decide +kernel
theorem dX0_placeRows_37 : decode cX0_placeRows 37 = .ok (.aload_n 0, 1) := by decide +kernel
theorem dX0_placeRows_38 : decode cX0_placeRows 38 = .ok (.getfield 29, 3) := by decide +kernel
theorem dX0_placeRows_41 : decode cX0_placeRows 41 = .ok (.getfield 48, 3) := by decide +kernel
theorem dX0_placeRows_44 : decode cX0_placeRows 44 = .ok (.if_icmp .ge 88, 3) := by decide +kernel
theorem dX0_placeRows_47 : decode cX0_placeRows 47 = .ok (.iload 4, 2) := by decide +kernel
theorem dX0_placeRows_49 : decode cX0_placeRows 49 = .ok (.iconst 5, 1) := by decide +kernel
theorem dX0_placeRows_50 : decode cX0_placeRows 50 = .ok (.imul, 1) := by decide +kernel
theorem dX0_placeRows_51 : decode cX0_placeRows 51 = .ok (.aload_n 0, 1) := by decide +kernel
theorem dX0_placeRows_52 : decode cX0_placeRows 52 = .ok (.getfield 29, 3) := by decide +kernel
theorem dX0_placeRows_55 : decode cX0_placeRows 55 = .ok (.getfield 55, 3) := by decide +kernel
theorem dX0_placeRows_58 : decode cX0_placeRows 58 = .ok (.iload 5, 2) := by decide +kernel
theorem dX0_placeRows_60 : decode cX0_placeRows 60 = .ok (.iaload, 1) := by decide +kernel
theorem dX0_placeRows_61 : decode cX0_placeRows 61 = .ok (.iadd, 1) := by decide +kernel
theorem dX0_placeRows_62 : decode cX0_placeRows 62 = .ok (.istore 6, 2) := by decide +kernel
theorem dX0_placeRows_64 : decode cX0_placeRows 64 = .ok (.aload_n 0, 1) := by decide +kernel
theorem dX0_placeRows_65 : decode cX0_placeRows 65 = .ok (.getfield 32, 3) := by decide +kernel
theorem dX0_placeRows_68 : decode cX0_placeRows 68 = .ok (.iload 6, 2) := by decide +kernel
theorem dX0_placeRows_70 : decode cX0_placeRows 70 = .ok (.iaload, 1) := by decide +kernel
theorem dX0_placeRows_71 : decode cX0_placeRows 71 = .ok (.ifCond .ne 55, 3) := by decide +kernel
theorem dX0_placeRows_74 : decode cX0_placeRows 74 = .ok (.aload_n 0, 1) := by decide +kernel
theorem dX0_placeRows_75 : decode cX0_placeRows 75 = .ok (.getfield 29, 3) := by decide +kernel
theorem dX0_placeRows_78 : decode cX0_placeRows 78 = .ok (.iload 5, 2) := by decide +kernel
theorem dX0_placeRows_80 : decode cX0_placeRows 80 = .ok (.aload_n 0, 1) := by decide +kernel
theorem dX0_placeRows_81 : decode cX0_placeRows 81 = .ok (.getfield 14, 3) := by decide +kernel
theorem dX0_placeRows_84 : decode cX0_placeRows 84 = .ok (.getfield 52, 3) := by decide +kernel
theorem dX0_placeRows_87 : decode cX0_placeRows 87 = .ok (.iload_n 3, 1) := by decide +kernel
theorem dX0_placeRows_88 : decode cX0_placeRows 88 = .ok (.iload 4, 2) := by decide +kernel
theorem dX0_placeRows_90 : decode cX0_placeRows 90 = .ok (.iadd, 1) := by decide +kernel
theorem dX0_placeRows_91 : decode cX0_placeRows 91 = .ok (.iload_n 3, 1) := by decide +kernel
theorem dX0_placeRows_92 : decode cX0_placeRows 92 = .ok (.aload_n 0, 1) := by decide +kernel
theorem dX0_placeRows_93 : decode cX0_placeRows 93 = .ok (.getfield 14, 3) := by decide +kernel
theorem dX0_placeRows_96 : decode cX0_placeRows 96 = .ok (.getfield 55, 3) := by decide +kernel
theorem dX0_placeRows_99 : decode cX0_placeRows 99 = .ok (.iload_n 1, 1) := by decide +kernel
theorem dX0_placeRows_100 : decode cX0_placeRows 100 = .ok (.iaload, 1) := by decide +kernel
theorem dX0_placeRows_101 : decode cX0_placeRows 101 = .ok (.iadd, 1) := by decide +kernel
theorem dX0_placeRows_102 : decode cX0_placeRows 102 = .ok (.invokevirtual 109, 3) := by decide +kernel
theorem dX0_placeRows_105 : decode cX0_placeRows 105 = .ok (.ifCond .eq 21, 3) := by decide +kernel
theorem dX0_placeRows_108 : decode cX0_placeRows 108 = .ok (.aload_n 0, 1) := by decide +kernel
theorem dX0_placeRows_109 : decode cX0_placeRows 109 = .ok (.getfield 32, 3) := by decide +kernel
theorem dX0_placeRows_112 : decode cX0_placeRows 112 = .ok (.iload 6, 2) := by decide +kernel
theorem dX0_placeRows_114 : decode cX0_placeRows 114 = .ok (.iconst 1, 1) := by decide +kernel
theorem dX0_placeRows_115 : decode cX0_placeRows 115 = .ok (.iload 5, 2) := by decide +kernel
theorem dX0_placeRows_117 : decode cX0_placeRows 117 = .ok (.ishl, 1) := by decide +kernel
theorem dX0_placeRows_118 : decode cX0_placeRows 118 = .ok (.iastore, 1) := by decide +kernel
theorem dX0_placeRows_119 : decode cX0_placeRows 119 = .ok (.iload_n 2, 1) := by decide +kernel
theorem dX0_placeRows_120 : decode cX0_placeRows 120 = .ok (.iconst 1, 1) := by decide +kernel
theorem dX0_placeRows_121 : decode cX0_placeRows 121 = .ok (.iload 5, 2) := by decide +kernel
theorem dX0_placeRows_123 : decode cX0_placeRows 123 = .ok (.ishl, 1) := by decide +kernel
theorem dX0_placeRows_124 : decode cX0_placeRows 124 = .ok (.ior, 1) := by decide +kernel
theorem dX0_placeRows_125 : decode cX0_placeRows 125 = .ok (.istore_n 2, 1) := by decide +kernel
theorem dX0_placeRows_126 : decode cX0_placeRows 126 = .ok (.iinc 5 1, 3) := by decide +kernel
theorem dX0_placeRows_129 : decode cX0_placeRows 129 = .ok (.goto (-94), 3) := by decide +kernel
theorem dX0_placeRows_132 : decode cX0_placeRows 132 = .ok (.iinc 4 1, 3) := by decide +kernel
theorem dX0_placeRows_135 : decode cX0_placeRows 135 = .ok (.goto (-117), 3) := by decide +kernel
theorem dX0_placeRows_138 : decode cX0_placeRows 138 = .ok (.iload_n 2, 1) := by decide +kernel
theorem dX0_placeRows_139 : decode cX0_placeRows 139 = .ok (.ireturn, 1) := by decide +kernel
theorem dX0_measureSets_0 : decode cX0_measureSets 0 = .ok (.iconst 1, 1) := by decide +kernel
theorem dX0_measureSets_1 : decode cX0_measureSets 1 = .ok (.iload_n 3, 1) := by decide +kernel
theorem dX0_measureSets_2 : decode cX0_measureSets 2 = .ok (.invokestatic 76, 3) := by decide +kernel
theorem dX0_measureSets_5 : decode cX0_measureSets 5 = .ok (.ishl, 1) := by decide +kernel
theorem dX0_measureSets_6 : decode cX0_measureSets 6 = .ok (.istore 5, 2) := by decide +kernel
theorem dX0_measureSets_8 : decode cX0_measureSets 8 = .ok (.iconst 0, 1) := by decide +kernel
theorem dX0_measureSets_9 : decode cX0_measureSets 9 = .ok (.istore 6, 2) := by decide +kernel
theorem dX0_measureSets_11 : decode cX0_measureSets 11 = .ok (.iconst 0, 1) := by decide +kernel
theorem dX0_measureSets_12 : decode cX0_measureSets 12 = .ok (.istore 7, 2) := by decide +kernel
theorem dX0_measureSets_14 : decode cX0_measureSets 14 = .ok (.iload 7, 2) := by decide +kernel
theorem dX0_measureSets_16 : decode cX0_measureSets 16 = .ok (.iload 5, 2) := by decide +kernel
theorem dX0_measureSets_18 : decode cX0_measureSets 18 = .ok (.if_icmp .ge 42, 3) := by decide +kernel
theorem dX0_measureSets_21 : decode cX0_measureSets 21 = .ok (.iload 6, 2) := by decide +kernel
theorem dX0_measureSets_23 : decode cX0_measureSets 23 = .ok (.invokestatic 76, 3) := by decide +kernel
theorem dX0_measureSets_26 : decode cX0_measureSets 26 = .ok (.iload 4, 2) := by decide +kernel
theorem dX0_measureSets_28 : decode cX0_measureSets 28 = .ok (.if_icmp .gt 18, 3) := by decide +kernel
theorem dX0_measureSets_31 : decode cX0_measureSets 31 = .ok (.aload_n 0, 1) := by decide +kernel
theorem dX0_measureSets_32 : decode cX0_measureSets 32 = .ok (.getfield 38, 3) := by decide +kernel
theorem dX0_measureSets_35 : decode cX0_measureSets 35 = .ok (.iload 6, 2) := by decide +kernel
theorem dX0_measureSets_37 : decode cX0_measureSets 37 = .ok (.aload_n 0, 1) := by decide +kernel
theorem dX0_measureSets_38 : decode cX0_measureSets 38 = .ok (.iload_n 1, 1) := by decide +kernel
theorem dX0_measureSets_39 : decode cX0_measureSets 39 = .ok (.aload_n 2, 1) := by decide +kernel
theorem dX0_measureSets_40 : decode cX0_measureSets 40 = .ok (.iload 6, 2) := by decide +kernel
theorem dX0_measureSets_42 : decode cX0_measureSets 42 = .ok (.invokevirtual 113, 3) := by decide +kernel
theorem dX0_measureSets_45 : decode cX0_measureSets 45 = .ok (.iastore, 1) := by decide +kernel
theorem dX0_measureSets_46 : decode cX0_measureSets 46 = .ok (.iload 6, 2) := by decide +kernel
theorem dX0_measureSets_48 : decode cX0_measureSets 48 = .ok (.iload_n 3, 1) := by decide +kernel
theorem dX0_measureSets_49 : decode cX0_measureSets 49 = .ok (.invokestatic 85, 3) := by decide +kernel
theorem dX0_measureSets_52 : decode cX0_measureSets 52 = .ok (.istore 6, 2) := by decide +kernel
theorem dX0_measureSets_54 : decode cX0_measureSets 54 = .ok (.iinc 7 1, 3) := by decide +kernel
theorem dX0_measureSets_57 : decode cX0_measureSets 57 = .ok (.goto (-43), 3) := by decide +kernel
theorem dX0_measureSets_60 : decode cX0_measureSets 60 = .ok (.return_, 1) := by decide +kernel
theorem dX0_cellsWith_0 : decode cX0_cellsWith 0 = .ok (.aload_n 0, 1) := by decide +kernel
theorem dX0_cellsWith_1 : decode cX0_cellsWith 1 = .ok (.getfield 14, 3) := by decide +kernel
theorem dX0_cellsWith_4 : decode cX0_cellsWith 4 = .ok (.getfield 55, 3) := by decide +kernel
theorem dX0_cellsWith_7 : decode cX0_cellsWith 7 = .ok (.iload_n 1, 1) := by decide +kernel
theorem dX0_cellsWith_8 : decode cX0_cellsWith 8 = .ok (.iaload, 1) := by decide +kernel
theorem dX0_cellsWith_9 : decode cX0_cellsWith 9 = .ok (.istore 4, 2) := by decide +kernel
theorem dX0_cellsWith_11 : decode cX0_cellsWith 11 = .ok (.aload_n 0, 1) := by decide +kernel
theorem dX0_cellsWith_12 : decode cX0_cellsWith 12 = .ok (.getfield 35, 3) := by decide +kernel
theorem dX0_cellsWith_15 : decode cX0_cellsWith 15 = .ok (.iload 4, 2) := by decide +kernel
theorem dX0_cellsWith_17 : decode cX0_cellsWith 17 = .ok (.iconst 0, 1) := by decide +kernel
theorem dX0_cellsWith_18 : decode cX0_cellsWith 18 = .ok (.iastore, 1) := by decide +kernel
theorem dX0_cellsWith_19 : decode cX0_cellsWith 19 = .ok (.iload 4, 2) := by decide +kernel
theorem dX0_cellsWith_21 : decode cX0_cellsWith 21 = .ok (.iconst 1, 1) := by decide +kernel
theorem dX0_cellsWith_22 : decode cX0_cellsWith 22 = .ok (.isub, 1) := by decide +kernel
theorem dX0_cellsWith_23 : decode cX0_cellsWith 23 = .ok (.istore 5, 2) := by decide +kernel
theorem dX0_cellsWith_25 : decode cX0_cellsWith 25 = .ok (.iload 5, 2) := by decide +kernel
theorem dX0_cellsWith_27 : decode cX0_cellsWith 27 = .ok (.ifCond .lt 125, 3) := by decide +kernel
theorem dX0_cellsWith_30 : decode cX0_cellsWith 30 = .ok (.aload_n 2, 1) := by decide +kernel
theorem dX0_cellsWith_31 : decode cX0_cellsWith 31 = .ok (.getfield 117, 3) := by decide +kernel
theorem dX0_cellsWith_34 : decode cX0_cellsWith 34 = .ok (.aload_n 0, 1) := by decide +kernel
theorem dX0_cellsWith_35 : decode cX0_cellsWith 35 = .ok (.getfield 14, 3) := by decide +kernel
theorem dX0_cellsWith_38 : decode cX0_cellsWith 38 = .ok (.getfield 52, 3) := by decide +kernel
theorem dX0_cellsWith_41 : decode cX0_cellsWith 41 = .ok (.iload_n 1, 1) := by decide +kernel
theorem dX0_cellsWith_42 : decode cX0_cellsWith 42 = .ok (.bipush 10, 2) := by decide +kernel
theorem dX0_cellsWith_44 : decode cX0_cellsWith 44 = .ok (.imul, 1) := by decide +kernel
theorem dX0_cellsWith_45 : decode cX0_cellsWith 45 = .ok (.iload 5, 2) := by decide +kernel
theorem dX0_cellsWith_47 : decode cX0_cellsWith 47 = .ok (.iadd, 1) := by decide +kernel
theorem dX0_cellsWith_48 : decode cX0_cellsWith 48 = .ok (.iaload, 1) := by decide +kernel
theorem dX0_cellsWith_49 : decode cX0_cellsWith 49 = .ok (.iaload, 1) := by decide +kernel
theorem dX0_cellsWith_50 : decode cX0_cellsWith 50 = .ok (.ifCond .eq 7, 3) := by decide +kernel
theorem dX0_cellsWith_53 : decode cX0_cellsWith 53 = .ok (.iconst 1, 1) := by decide +kernel
theorem dX0_cellsWith_54 : decode cX0_cellsWith 54 = .ok (.goto 4, 3) := by decide +kernel
theorem dX0_cellsWith_57 : decode cX0_cellsWith 57 = .ok (.iconst 0, 1) := by decide +kernel
theorem dX0_cellsWith_58 : decode cX0_cellsWith 58 = .ok (.istore 6, 2) := by decide +kernel
theorem dX0_cellsWith_60 : decode cX0_cellsWith 60 = .ok (.iload 6, 2) := by decide +kernel
theorem dX0_cellsWith_62 : decode cX0_cellsWith 62 = .ok (.ifCond .eq 15, 3) := by decide +kernel
theorem dX0_cellsWith_65 : decode cX0_cellsWith 65 = .ok (.aload_n 0, 1) := by decide +kernel
theorem dX0_cellsWith_66 : decode cX0_cellsWith 66 = .ok (.getfield 35, 3) := by decide +kernel
theorem dX0_cellsWith_69 : decode cX0_cellsWith 69 = .ok (.iload 5, 2) := by decide +kernel
theorem dX0_cellsWith_71 : decode cX0_cellsWith 71 = .ok (.iconst 1, 1) := by decide +kernel
theorem dX0_cellsWith_72 : decode cX0_cellsWith 72 = .ok (.iadd, 1) := by decide +kernel
theorem dX0_cellsWith_73 : decode cX0_cellsWith 73 = .ok (.iaload, 1) := by decide +kernel
theorem dX0_cellsWith_74 : decode cX0_cellsWith 74 = .ok (.goto 5, 3) := by decide +kernel
theorem dX0_cellsWith_77 : decode cX0_cellsWith 77 = .ok (.ldc 64, 2) := by decide +kernel
theorem dX0_cellsWith_79 : decode cX0_cellsWith 79 = .ok (.istore 7, 2) := by decide +kernel
theorem dX0_cellsWith_81 : decode cX0_cellsWith 81 = .ok (.iconst 2, 1) := by decide +kernel
theorem dX0_cellsWith_82 : decode cX0_cellsWith 82 = .ok (.istore 8, 2) := by decide +kernel
theorem dX0_cellsWith_84 : decode cX0_cellsWith 84 = .ok (.iload 8, 2) := by decide +kernel
theorem dX0_cellsWith_86 : decode cX0_cellsWith 86 = .ok (.iconst 4, 1) := by decide +kernel
theorem dX0_cellsWith_87 : decode cX0_cellsWith 87 = .ok (.if_icmp .gt 43, 3) := by decide +kernel
theorem dX0_cellsWith_90 : decode cX0_cellsWith 90 = .ok (.aload_n 0, 1) := by decide +kernel
theorem dX0_cellsWith_91 : decode cX0_cellsWith 91 = .ok (.getfield 32, 3) := by decide +kernel
theorem dX0_cellsWith_94 : decode cX0_cellsWith 94 = .ok (.iload 5, 2) := by decide +kernel
theorem dX0_cellsWith_96 : decode cX0_cellsWith 96 = .ok (.iconst 5, 1) := by decide +kernel
theorem dX0_cellsWith_97 : decode cX0_cellsWith 97 = .ok (.imul, 1) := by decide +kernel
theorem dX0_cellsWith_98 : decode cX0_cellsWith 98 = .ok (.iload 8, 2) := by decide +kernel
theorem dX0_cellsWith_100 : decode cX0_cellsWith 100 = .ok (.iadd, 1) := by decide +kernel
theorem dX0_cellsWith_101 : decode cX0_cellsWith 101 = .ok (.iaload, 1) := by decide +kernel
theorem dX0_cellsWith_102 : decode cX0_cellsWith 102 = .ok (.iload_n 3, 1) := by decide +kernel
theorem dX0_cellsWith_103 : decode cX0_cellsWith 103 = .ok (.iand, 1) := by decide +kernel
theorem dX0_cellsWith_104 : decode cX0_cellsWith 104 = .ok (.ifCond .eq 20, 3) := by decide +kernel
theorem dX0_cellsWith_107 : decode cX0_cellsWith 107 = .ok (.iload 7, 2) := by decide +kernel
theorem dX0_cellsWith_109 : decode cX0_cellsWith 109 = .ok (.aload_n 0, 1) := by decide +kernel
theorem dX0_cellsWith_110 : decode cX0_cellsWith 110 = .ok (.getfield 35, 3) := by decide +kernel
theorem dX0_cellsWith_113 : decode cX0_cellsWith 113 = .ok (.iload 5, 2) := by decide +kernel
theorem dX0_cellsWith_115 : decode cX0_cellsWith 115 = .ok (.iload 8, 2) := by decide +kernel
theorem dX0_cellsWith_117 : decode cX0_cellsWith 117 = .ok (.iadd, 1) := by decide +kernel
theorem dX0_cellsWith_118 : decode cX0_cellsWith 118 = .ok (.iaload, 1) := by decide +kernel
theorem dX0_cellsWith_119 : decode cX0_cellsWith 119 = .ok (.invokestatic 104, 3) := by decide +kernel
theorem dX0_cellsWith_122 : decode cX0_cellsWith 122 = .ok (.istore 7, 2) := by decide +kernel
theorem dX0_cellsWith_124 : decode cX0_cellsWith 124 = .ok (.iinc 8 1, 3) := by decide +kernel
theorem dX0_cellsWith_127 : decode cX0_cellsWith 127 = .ok (.goto (-43), 3) := by decide +kernel
theorem dX0_cellsWith_130 : decode cX0_cellsWith 130 = .ok (.aload_n 0, 1) := by decide +kernel
theorem dX0_cellsWith_131 : decode cX0_cellsWith 131 = .ok (.getfield 35, 3) := by decide +kernel
theorem dX0_cellsWith_134 : decode cX0_cellsWith 134 = .ok (.iload 5, 2) := by decide +kernel
theorem dX0_cellsWith_136 : decode cX0_cellsWith 136 = .ok (.ldc 64, 2) := by decide +kernel
theorem dX0_cellsWith_138 : decode cX0_cellsWith 138 = .ok (.iload 7, 2) := by decide +kernel
theorem dX0_cellsWith_140 : decode cX0_cellsWith 140 = .ok (.iconst 1, 1) := by decide +kernel
theorem dX0_cellsWith_141 : decode cX0_cellsWith 141 = .ok (.iadd, 1) := by decide +kernel
theorem dX0_cellsWith_142 : decode cX0_cellsWith 142 = .ok (.invokestatic 104, 3) := by decide +kernel
theorem dX0_cellsWith_145 : decode cX0_cellsWith 145 = .ok (.iastore, 1) := by decide +kernel
theorem dX0_cellsWith_146 : decode cX0_cellsWith 146 = .ok (.iinc 5 (-1), 3) := by decide +kernel
theorem dX0_cellsWith_149 : decode cX0_cellsWith 149 = .ok (.goto (-124), 3) := by decide +kernel
theorem dX0_cellsWith_152 : decode cX0_cellsWith 152 = .ok (.aload_n 0, 1) := by decide +kernel
theorem dX0_cellsWith_153 : decode cX0_cellsWith 153 = .ok (.getfield 35, 3) := by decide +kernel
theorem dX0_cellsWith_156 : decode cX0_cellsWith 156 = .ok (.iconst 0, 1) := by decide +kernel
theorem dX0_cellsWith_157 : decode cX0_cellsWith 157 = .ok (.iaload, 1) := by decide +kernel
theorem dX0_cellsWith_158 : decode cX0_cellsWith 158 = .ok (.ireturn, 1) := by decide +kernel
theorem dX1_init_0 : decode cX1_init 0 = .ok (.aload_n 0, 1) := by decide +kernel
theorem dX1_init_1 : decode cX1_init 1 = .ok (.invokespecial 3, 3) := by decide +kernel
theorem dX1_init_4 : decode cX1_init 4 = .ok (.aload_n 0, 1) := by decide +kernel
theorem dX1_init_5 : decode cX1_init 5 = .ok (.bipush 26, 2) := by decide +kernel
theorem dX1_init_7 : decode cX1_init 7 = .ok (.newarray .int, 2) := by decide +kernel
theorem dX1_init_9 : decode cX1_init 9 = .ok (.putfield 9, 3) := by decide +kernel
theorem dX1_init_12 : decode cX1_init 12 = .ok (.aload_n 0, 1) := by decide +kernel
theorem dX1_init_13 : decode cX1_init 13 = .ok (.new 15, 3) := by decide +kernel
theorem dX1_init_16 : decode cX1_init 16 = .ok (.dup, 1) := by decide +kernel
theorem dX1_init_17 : decode cX1_init 17 = .ok (.bipush 12, 2) := by decide +kernel
theorem dX1_init_19 : decode cX1_init 19 = .ok (.iconst 4, 1) := by decide +kernel
theorem dX1_init_20 : decode cX1_init 20 = .ok (.invokespecial 17, 3) := by decide +kernel
theorem dX1_init_23 : decode cX1_init 23 = .ok (.putfield 20, 3) := by decide +kernel
theorem dX1_init_26 : decode cX1_init 26 = .ok (.aload_n 0, 1) := by decide +kernel
theorem dX1_init_27 : decode cX1_init 27 = .ok (.bipush 12, 2) := by decide +kernel
theorem dX1_init_29 : decode cX1_init 29 = .ok (.newarray .int, 2) := by decide +kernel
theorem dX1_init_31 : decode cX1_init 31 = .ok (.putfield 24, 3) := by decide +kernel
theorem dX1_init_34 : decode cX1_init 34 = .ok (.aload_n 0, 1) := by decide +kernel
theorem dX1_init_35 : decode cX1_init 35 = .ok (.bipush 12, 2) := by decide +kernel
theorem dX1_init_37 : decode cX1_init 37 = .ok (.newarray .int, 2) := by decide +kernel
theorem dX1_init_39 : decode cX1_init 39 = .ok (.putfield 27, 3) := by decide +kernel
theorem dX1_init_42 : decode cX1_init 42 = .ok (.return_, 1) := by decide +kernel
theorem dX1_addShort_0 : decode cX1_addShort 0 = .ok (.aload_n 0, 1) := by decide +kernel
theorem dX1_addShort_1 : decode cX1_addShort 1 = .ok (.getfield 20, 3) := by decide +kernel
theorem dX1_addShort_4 : decode cX1_addShort 4 = .ok (.aload_n 1, 1) := by decide +kernel
theorem dX1_addShort_5 : decode cX1_addShort 5 = .ok (.invokevirtual 30, 3) := by decide +kernel
theorem dX1_addShort_8 : decode cX1_addShort 8 = .ok (.istore_n 3, 1) := by decide +kernel
theorem dX1_addShort_9 : decode cX1_addShort 9 = .ok (.iload_n 3, 1) := by decide +kernel
theorem dX1_addShort_10 : decode cX1_addShort 10 = .ok (.ifCond .lt 42, 3) := by decide +kernel
theorem dX1_addShort_13 : decode cX1_addShort 13 = .ok (.aload_n 0, 1) := by decide +kernel
theorem dX1_addShort_14 : decode cX1_addShort 14 = .ok (.getfield 24, 3) := by decide +kernel
theorem dX1_addShort_17 : decode cX1_addShort 17 = .ok (.iload_n 3, 1) := by decide +kernel
theorem dX1_addShort_18 : decode cX1_addShort 18 = .ok (.aload_n 2, 1) := by decide +kernel
theorem dX1_addShort_19 : decode cX1_addShort 19 = .ok (.iconst 0, 1) := by decide +kernel
theorem dX1_addShort_20 : decode cX1_addShort 20 = .ok (.invokevirtual 34, 3) := by decide +kernel
theorem dX1_addShort_23 : decode cX1_addShort 23 = .ok (.iastore, 1) := by decide +kernel
theorem dX1_addShort_24 : decode cX1_addShort 24 = .ok (.aload_n 0, 1) := by decide +kernel
theorem dX1_addShort_25 : decode cX1_addShort 25 = .ok (.getfield 27, 3) := by decide +kernel
theorem dX1_addShort_28 : decode cX1_addShort 28 = .ok (.iload_n 3, 1) := by decide +kernel
theorem dX1_addShort_29 : decode cX1_addShort 29 = .ok (.aload_n 2, 1) := by decide +kernel
theorem dX1_addShort_30 : decode cX1_addShort 30 = .ok (.getfield 40, 3) := by decide +kernel
theorem dX1_addShort_33 : decode cX1_addShort 33 = .ok (.iconst 1, 1) := by decide +kernel
theorem dX1_addShort_34 : decode cX1_addShort 34 = .ok (.if_icmp .le 11, 3) := by decide +kernel
theorem dX1_addShort_37 : decode cX1_addShort 37 = .ok (.aload_n 2, 1) := by decide +kernel
theorem dX1_addShort_38 : decode cX1_addShort 38 = .ok (.iconst 1, 1) := by decide +kernel
theorem dX1_addShort_39 : decode cX1_addShort 39 = .ok (.invokevirtual 34, 3) := by decide +kernel
theorem dX1_addShort_42 : decode cX1_addShort 42 = .ok (.goto 4, 3) := by decide +kernel
theorem dX1_addShort_45 : decode cX1_addShort 45 = .ok (.iconst 0, 1) := by decide +kernel
theorem dX1_addShort_46 : decode cX1_addShort 46 = .ok (.iastore, 1) := by decide +kernel
theorem dX1_addShort_47 : decode cX1_addShort 47 = .ok (.aload_n 2, 1) := by decide +kernel
theorem dX1_addShort_48 : decode cX1_addShort 48 = .ok (.invokevirtual 44, 3) := by decide +kernel
theorem dX1_addShort_51 : decode cX1_addShort 51 = .ok (.pop, 1) := by decide +kernel
theorem dX1_addShort_52 : decode cX1_addShort 52 = .ok (.iload_n 3, 1) := by decide +kernel
theorem dX1_addShort_53 : decode cX1_addShort 53 = .ok (.ireturn, 1) := by decide +kernel
theorem dX1_cellsOfShort_0 : decode cX1_cellsOfShort 0 = .ok (.aload_n 0, 1) := by decide +kernel
theorem dX1_cellsOfShort_1 : decode cX1_cellsOfShort 1 = .ok (.getfield 27, 3) := by decide +kernel
theorem dX1_cellsOfShort_4 : decode cX1_cellsOfShort 4 = .ok (.iload_n 1, 1) := by decide +kernel
theorem dX1_cellsOfShort_5 : decode cX1_cellsOfShort 5 = .ok (.iaload, 1) := by decide +kernel
theorem dX1_cellsOfShort_6 : decode cX1_cellsOfShort 6 = .ok (.ifCond .ne 7, 3) := by decide +kernel
theorem dX1_cellsOfShort_9 : decode cX1_cellsOfShort 9 = .ok (.iconst 1, 1) := by decide +kernel
theorem dX1_cellsOfShort_10 : decode cX1_cellsOfShort 10 = .ok (.goto 4, 3) := by decide +kernel
theorem dX1_cellsOfShort_13 : decode cX1_cellsOfShort 13 = .ok (.iconst 2, 1) := by decide +kernel
theorem dX1_cellsOfShort_14 : decode cX1_cellsOfShort 14 = .ok (.ireturn, 1) := by decide +kernel
theorem dX1_pointsOfShort_0 : decode cX1_pointsOfShort 0 = .ok (.aload_n 0, 1) := by decide +kernel
theorem dX1_pointsOfShort_1 : decode cX1_pointsOfShort 1 = .ok (.getfield 24, 3) := by decide +kernel
theorem dX1_pointsOfShort_4 : decode cX1_pointsOfShort 4 = .ok (.iload_n 1, 1) := by decide +kernel
theorem dX1_pointsOfShort_5 : decode cX1_pointsOfShort 5 = .ok (.iaload, 1) := by decide +kernel
theorem dX1_pointsOfShort_6 : decode cX1_pointsOfShort 6 = .ok (.invokestatic 48, 3) := by decide +kernel
theorem dX1_pointsOfShort_9 : decode cX1_pointsOfShort 9 = .ok (.aload_n 0, 1) := by decide +kernel
theorem dX1_pointsOfShort_10 : decode cX1_pointsOfShort 10 = .ok (.getfield 27, 3) := by decide +kernel
theorem dX1_pointsOfShort_13 : decode cX1_pointsOfShort 13 = .ok (.iload_n 1, 1) := by decide +kernel
theorem dX1_pointsOfShort_14 : decode cX1_pointsOfShort 14 = .ok (.iaload, 1) := by decide +kernel
theorem dX1_pointsOfShort_15 : decode cX1_pointsOfShort 15 = .ok (.invokestatic 48, 3) := by decide +kernel
theorem dX1_pointsOfShort_18 : decode cX1_pointsOfShort 18 = .ok (.iadd, 1) := by decide +kernel
theorem dX1_pointsOfShort_19 : decode cX1_pointsOfShort 19 = .ok (.ireturn, 1) := by decide +kernel
theorem dX1_behindShort_0 : decode cX1_behindShort 0 = .ok (.aload_n 2, 1) := by decide +kernel
theorem dX1_behindShort_1 : decode cX1_behindShort 1 = .ok (.iload_n 3, 1) := by decide +kernel
theorem dX1_behindShort_2 : decode cX1_behindShort 2 = .ok (.invokevirtual 34, 3) := by decide +kernel
theorem dX1_behindShort_5 : decode cX1_behindShort 5 = .ok (.aload_n 0, 1) := by decide +kernel
theorem dX1_behindShort_6 : decode cX1_behindShort 6 = .ok (.getfield 24, 3) := by decide +kernel
theorem dX1_behindShort_9 : decode cX1_behindShort 9 = .ok (.iload_n 1, 1) := by decide +kernel
theorem dX1_behindShort_10 : decode cX1_behindShort 10 = .ok (.iaload, 1) := by decide +kernel
theorem dX1_behindShort_11 : decode cX1_behindShort 11 = .ok (.if_icmp .eq 6, 3) := by decide +kernel
theorem dX1_behindShort_14 : decode cX1_behindShort 14 = .ok (.bipush (-6), 2) := by decide +kernel
theorem dX1_behindShort_16 : decode cX1_behindShort 16 = .ok (.ireturn, 1) := by decide +kernel
theorem dX1_behindShort_17 : decode cX1_behindShort 17 = .ok (.aload_n 0, 1) := by decide +kernel
theorem dX1_behindShort_18 : decode cX1_behindShort 18 = .ok (.getfield 27, 3) := by decide +kernel
theorem dX1_behindShort_21 : decode cX1_behindShort 21 = .ok (.iload_n 1, 1) := by decide +kernel
theorem dX1_behindShort_22 : decode cX1_behindShort 22 = .ok (.iaload, 1) := by decide +kernel
theorem dX1_behindShort_23 : decode cX1_behindShort 23 = .ok (.ifCond .ne 7, 3) := by decide +kernel
theorem dX1_behindShort_26 : decode cX1_behindShort 26 = .ok (.iload_n 3, 1) := by decide +kernel
theorem dX1_behindShort_27 : decode cX1_behindShort 27 = .ok (.iconst 1, 1) := by decide +kernel
theorem dX1_behindShort_28 : decode cX1_behindShort 28 = .ok (.iadd, 1) := by decide +kernel
theorem dX1_behindShort_29 : decode cX1_behindShort 29 = .ok (.ireturn, 1) := by decide +kernel
theorem dX1_behindShort_30 : decode cX1_behindShort 30 = .ok (.aload_n 2, 1) := by decide +kernel
theorem dX1_behindShort_31 : decode cX1_behindShort 31 = .ok (.iload_n 3, 1) := by decide +kernel
theorem dX1_behindShort_32 : decode cX1_behindShort 32 = .ok (.iconst 1, 1) := by decide +kernel
theorem dX1_behindShort_33 : decode cX1_behindShort 33 = .ok (.iadd, 1) := by decide +kernel
theorem dX1_behindShort_34 : decode cX1_behindShort 34 = .ok (.invokevirtual 34, 3) := by decide +kernel
theorem dX1_behindShort_37 : decode cX1_behindShort 37 = .ok (.aload_n 0, 1) := by decide +kernel
theorem dX1_behindShort_38 : decode cX1_behindShort 38 = .ok (.getfield 27, 3) := by decide +kernel
theorem dX1_behindShort_41 : decode cX1_behindShort 41 = .ok (.iload_n 1, 1) := by decide +kernel
theorem dX1_behindShort_42 : decode cX1_behindShort 42 = .ok (.iaload, 1) := by decide +kernel
theorem dX1_behindShort_43 : decode cX1_behindShort 43 = .ok (.if_icmp .ne 9, 3) := by decide +kernel
theorem dX1_behindShort_46 : decode cX1_behindShort 46 = .ok (.iload_n 3, 1) := by decide +kernel
theorem dX1_behindShort_47 : decode cX1_behindShort 47 = .ok (.iconst 2, 1) := by decide +kernel
theorem dX1_behindShort_48 : decode cX1_behindShort 48 = .ok (.iadd, 1) := by decide +kernel
theorem dX1_behindShort_49 : decode cX1_behindShort 49 = .ok (.goto 5, 3) := by decide +kernel
theorem dX1_behindShort_52 : decode cX1_behindShort 52 = .ok (.bipush (-6), 2) := by decide +kernel
theorem dX1_behindShort_54 : decode cX1_behindShort 54 = .ok (.ireturn, 1) := by decide +kernel
theorem dX1_letterCount_0 : decode cX1_letterCount 0 = .ok (.iconst 0, 1) := by decide +kernel
theorem dX1_letterCount_1 : decode cX1_letterCount 1 = .ok (.istore_n 1, 1) := by decide +kernel
theorem dX1_letterCount_2 : decode cX1_letterCount 2 = .ok (.iconst 0, 1) := by decide +kernel
theorem dX1_letterCount_3 : decode cX1_letterCount 3 = .ok (.istore_n 2, 1) := by decide +kernel
theorem dX1_letterCount_4 : decode cX1_letterCount 4 = .ok (.iload_n 2, 1) := by decide +kernel
theorem dX1_letterCount_5 : decode cX1_letterCount 5 = .ok (.bipush 26, 2) := by decide +kernel
theorem dX1_letterCount_7 : decode cX1_letterCount 7 = .ok (.if_icmp .ge 26, 3) := by decide +kernel
theorem dX1_letterCount_10 : decode cX1_letterCount 10 = .ok (.iload_n 1, 1) := by decide +kernel
theorem dX1_letterCount_11 : decode cX1_letterCount 11 = .ok (.aload_n 0, 1) := by decide +kernel
theorem dX1_letterCount_12 : decode cX1_letterCount 12 = .ok (.getfield 9, 3) := by decide +kernel
theorem dX1_letterCount_15 : decode cX1_letterCount 15 = .ok (.iload_n 2, 1) := by decide +kernel
theorem dX1_letterCount_16 : decode cX1_letterCount 16 = .ok (.iaload, 1) := by decide +kernel
theorem dX1_letterCount_17 : decode cX1_letterCount 17 = .ok (.ifCond .ne 7, 3) := by decide +kernel
theorem dX1_letterCount_20 : decode cX1_letterCount 20 = .ok (.iconst 0, 1) := by decide +kernel
theorem dX1_letterCount_21 : decode cX1_letterCount 21 = .ok (.goto 4, 3) := by decide +kernel
theorem dX1_letterCount_24 : decode cX1_letterCount 24 = .ok (.iconst 1, 1) := by decide +kernel
theorem dX1_letterCount_25 : decode cX1_letterCount 25 = .ok (.iadd, 1) := by decide +kernel
theorem dX1_letterCount_26 : decode cX1_letterCount 26 = .ok (.istore_n 1, 1) := by decide +kernel
theorem dX1_letterCount_27 : decode cX1_letterCount 27 = .ok (.iinc 2 1, 3) := by decide +kernel
theorem dX1_letterCount_30 : decode cX1_letterCount 30 = .ok (.goto (-26), 3) := by decide +kernel
theorem dX1_letterCount_33 : decode cX1_letterCount 33 = .ok (.iload_n 1, 1) := by decide +kernel
theorem dX1_letterCount_34 : decode cX1_letterCount 34 = .ok (.ireturn, 1) := by decide +kernel
theorem dX1_likeOf_0 : decode cX1_likeOf 0 = .ok (.lconst 0, 1) := by decide +kernel
theorem dX1_likeOf_1 : decode cX1_likeOf 1 = .ok (.lstore_n 2, 1) := by decide +kernel
theorem dX1_likeOf_2 : decode cX1_likeOf 2 = .ok (.iconst 0, 1) := by decide +kernel
theorem dX1_likeOf_3 : decode cX1_likeOf 3 = .ok (.istore 4, 2) := by decide +kernel
theorem dX1_likeOf_5 : decode cX1_likeOf 5 = .ok (.iload 4, 2) := by decide +kernel
theorem dX1_likeOf_7 : decode cX1_likeOf 7 = .ok (.bipush 26, 2) := by decide +kernel
theorem dX1_likeOf_9 : decode cX1_likeOf 9 = .ok (.if_icmp .ge 35, 3) := by decide +kernel
theorem dX1_likeOf_12 : decode cX1_likeOf 12 = .ok (.lload_n 2, 1) := by decide +kernel
theorem dX1_likeOf_13 : decode cX1_likeOf 13 = .ok (.aload_n 0, 1) := by decide +kernel
theorem dX1_likeOf_14 : decode cX1_likeOf 14 = .ok (.getfield 9, 3) := by decide +kernel
theorem dX1_likeOf_17 : decode cX1_likeOf 17 = .ok (.iload 4, 2) := by decide +kernel
theorem dX1_likeOf_19 : decode cX1_likeOf 19 = .ok (.iaload, 1) := by decide +kernel
theorem dX1_likeOf_20 : decode cX1_likeOf 20 = .ok (.ifCond .ne 7, 3) := by decide +kernel
theorem dX1_likeOf_23 : decode cX1_likeOf 23 = .ok (.lconst 0, 1) := by decide +kernel
theorem dX1_likeOf_24 : decode cX1_likeOf 24 = .ok (.goto 12, 3) := by decide +kernel
theorem dX1_likeOf_27 : decode cX1_likeOf 27 = .ok (.lconst 1, 1) := by decide +kernel
theorem dX1_likeOf_28 : decode cX1_likeOf 28 = .ok (.aload_n 0, 1) := by decide +kernel
theorem dX1_likeOf_29 : decode cX1_likeOf 29 = .ok (.getfield 9, 3) := by decide +kernel
theorem dX1_likeOf_32 : decode cX1_likeOf 32 = .ok (.iload 4, 2) := by decide +kernel
theorem dX1_likeOf_34 : decode cX1_likeOf 34 = .ok (.iaload, 1) := by decide +kernel
theorem dX1_likeOf_35 : decode cX1_likeOf 35 = .ok (.lshl, 1) := by decide +kernel
theorem dX1_likeOf_36 : decode cX1_likeOf 36 = .ok (.lor, 1) := by decide +kernel
theorem dX1_likeOf_37 : decode cX1_likeOf 37 = .ok (.lstore_n 2, 1) := by decide +kernel
theorem dX1_likeOf_38 : decode cX1_likeOf 38 = .ok (.iinc 4 1, 3) := by decide +kernel
theorem dX1_likeOf_41 : decode cX1_likeOf 41 = .ok (.goto (-36), 3) := by decide +kernel
theorem dX1_likeOf_44 : decode cX1_likeOf 44 = .ok (.iconst 0, 1) := by decide +kernel
theorem dX1_likeOf_45 : decode cX1_likeOf 45 = .ok (.istore 4, 2) := by decide +kernel
theorem dX1_likeOf_47 : decode cX1_likeOf 47 = .ok (.iconst 0, 1) := by decide +kernel
theorem dX1_likeOf_48 : decode cX1_likeOf 48 = .ok (.istore 5, 2) := by decide +kernel
theorem dX1_likeOf_50 : decode cX1_likeOf 50 = .ok (.iload 5, 2) := by decide +kernel
theorem dX1_likeOf_52 : decode cX1_likeOf 52 = .ok (.bipush 6, 2) := by decide +kernel
theorem dX1_likeOf_54 : decode cX1_likeOf 54 = .ok (.if_icmp .ge 25, 3) := by decide +kernel
theorem dX1_likeOf_57 : decode cX1_likeOf 57 = .ok (.iload 4, 2) := by decide +kernel
theorem dX1_likeOf_59 : decode cX1_likeOf 59 = .ok (.lload_n 2, 1) := by decide +kernel
theorem dX1_likeOf_60 : decode cX1_likeOf 60 = .ok (.iload_n 1, 1) := by decide +kernel
theorem dX1_likeOf_61 : decode cX1_likeOf 61 = .ok (.iconst 1, 1) := by decide +kernel
theorem dX1_likeOf_62 : decode cX1_likeOf 62 = .ok (.iload 5, 2) := by decide +kernel
theorem dX1_likeOf_64 : decode cX1_likeOf 64 = .ok (.ishl, 1) := by decide +kernel
theorem dX1_likeOf_65 : decode cX1_likeOf 65 = .ok (.ixor, 1) := by decide +kernel
theorem dX1_likeOf_66 : decode cX1_likeOf 66 = .ok (.lushr, 1) := by decide +kernel
theorem dX1_likeOf_67 : decode cX1_likeOf 67 = .ok (.lconst 1, 1) := by decide +kernel
theorem dX1_likeOf_68 : decode cX1_likeOf 68 = .ok (.land, 1) := by decide +kernel
theorem dX1_likeOf_69 : decode cX1_likeOf 69 = .ok (.l2i, 1) := by decide +kernel
theorem dX1_likeOf_70 : decode cX1_likeOf 70 = .ok (.iadd, 1) := by decide +kernel
theorem dX1_likeOf_71 : decode cX1_likeOf 71 = .ok (.istore 4, 2) := by decide +kernel
theorem dX1_likeOf_73 : decode cX1_likeOf 73 = .ok (.iinc 5 1, 3) := by decide +kernel
theorem dX1_likeOf_76 : decode cX1_likeOf 76 = .ok (.goto (-26), 3) := by decide +kernel
theorem dX1_likeOf_79 : decode cX1_likeOf 79 = .ok (.iload 4, 2) := by decide +kernel
theorem dX1_likeOf_81 : decode cX1_likeOf 81 = .ok (.ireturn, 1) := by decide +kernel
theorem dX1_unlikeLetters_0 : decode cX1_unlikeLetters 0 = .ok (.iconst 0, 1) := by decide +kernel
theorem dX1_unlikeLetters_1 : decode cX1_unlikeLetters 1 = .ok (.istore_n 2, 1) := by decide +kernel
theorem dX1_unlikeLetters_2 : decode cX1_unlikeLetters 2 = .ok (.iconst 0, 1) := by decide +kernel
theorem dX1_unlikeLetters_3 : decode cX1_unlikeLetters 3 = .ok (.istore_n 3, 1) := by decide +kernel
theorem dX1_unlikeLetters_4 : decode cX1_unlikeLetters 4 = .ok (.iload_n 3, 1) := by decide +kernel
theorem dX1_unlikeLetters_5 : decode cX1_unlikeLetters 5 = .ok (.bipush 26, 2) := by decide +kernel
theorem dX1_unlikeLetters_7 : decode cX1_unlikeLetters 7 = .ok (.if_icmp .ge 40, 3) := by decide +kernel
theorem dX1_unlikeLetters_10 : decode cX1_unlikeLetters 10 = .ok (.aload_n 0, 1) := by decide +kernel
theorem dX1_unlikeLetters_11 : decode cX1_unlikeLetters 11 = .ok (.getfield 9, 3) := by decide +kernel
theorem dX1_unlikeLetters_14 : decode cX1_unlikeLetters 14 = .ok (.iload_n 3, 1) := by decide +kernel
theorem dX1_unlikeLetters_15 : decode cX1_unlikeLetters 15 = .ok (.iaload, 1) := by decide +kernel
theorem dX1_unlikeLetters_16 : decode cX1_unlikeLetters 16 = .ok (.ifCond .eq 25, 3) := by decide +kernel
theorem dX1_unlikeLetters_19 : decode cX1_unlikeLetters 19 = .ok (.aload_n 1, 1) := by decide +kernel
theorem dX1_unlikeLetters_20 : decode cX1_unlikeLetters 20 = .ok (.ifnull 18, 3) := by decide +kernel
theorem dX1_unlikeLetters_23 : decode cX1_unlikeLetters 23 = .ok (.aload_n 1, 1) := by decide +kernel
theorem dX1_unlikeLetters_24 : decode cX1_unlikeLetters 24 = .ok (.getfield 9, 3) := by decide +kernel
theorem dX1_unlikeLetters_27 : decode cX1_unlikeLetters 27 = .ok (.iload_n 3, 1) := by decide +kernel
theorem dX1_unlikeLetters_28 : decode cX1_unlikeLetters 28 = .ok (.iaload, 1) := by decide +kernel
theorem dX1_unlikeLetters_29 : decode cX1_unlikeLetters 29 = .ok (.aload_n 0, 1) := by decide +kernel
theorem dX1_unlikeLetters_30 : decode cX1_unlikeLetters 30 = .ok (.getfield 9, 3) := by decide +kernel
theorem dX1_unlikeLetters_33 : decode cX1_unlikeLetters 33 = .ok (.iload_n 3, 1) := by decide +kernel
theorem dX1_unlikeLetters_34 : decode cX1_unlikeLetters 34 = .ok (.iaload, 1) := by decide +kernel
theorem dX1_unlikeLetters_35 : decode cX1_unlikeLetters 35 = .ok (.if_icmp .eq 6, 3) := by decide +kernel
theorem dX1_unlikeLetters_38 : decode cX1_unlikeLetters 38 = .ok (.iinc 2 1, 3) := by decide +kernel
theorem dX1_unlikeLetters_41 : decode cX1_unlikeLetters 41 = .ok (.iinc 3 1, 3) := by decide +kernel
theorem dX1_unlikeLetters_44 : decode cX1_unlikeLetters 44 = .ok (.goto (-40), 3) := by decide +kernel
theorem dX1_unlikeLetters_47 : decode cX1_unlikeLetters 47 = .ok (.iload_n 2, 1) := by decide +kernel
theorem dX1_unlikeLetters_48 : decode cX1_unlikeLetters 48 = .ok (.ireturn, 1) := by decide +kernel
theorem dX2_init_0 : decode cX2_init 0 = .ok (.aload_n 0, 1) := by decide +kernel
theorem dX2_init_1 : decode cX2_init 1 = .ok (.invokespecial 3, 3) := by decide +kernel
theorem dX2_init_4 : decode cX2_init 4 = .ok (.aload_n 0, 1) := by decide +kernel
theorem dX2_init_5 : decode cX2_init 5 = .ok (.bipush 13, 2) := by decide +kernel
theorem dX2_init_7 : decode cX2_init 7 = .ok (.newarray .int, 2) := by decide +kernel
theorem dX2_init_9 : decode cX2_init 9 = .ok (.putfield 9, 3) := by decide +kernel
theorem dX2_init_12 : decode cX2_init 12 = .ok (.aload_n 0, 1) := by decide +kernel
theorem dX2_init_13 : decode cX2_init 13 = .ok (.new 15, 3) := by decide +kernel
theorem dX2_init_16 : decode cX2_init 16 = .ok (.dup, 1) := by decide +kernel
theorem dX2_init_17 : decode cX2_init 17 = .ok (.bipush 48, 2) := by decide +kernel
theorem dX2_init_19 : decode cX2_init 19 = .ok (.invokespecial 17, 3) := by decide +kernel
theorem dX2_init_22 : decode cX2_init 22 = .ok (.putfield 20, 3) := by decide +kernel
theorem dX2_init_25 : decode cX2_init 25 = .ok (.aload_n 0, 1) := by decide +kernel
theorem dX2_init_26 : decode cX2_init 26 = .ok (.bipush 64, 2) := by decide +kernel
theorem dX2_init_28 : decode cX2_init 28 = .ok (.newarray .int, 2) := by decide +kernel
theorem dX2_init_30 : decode cX2_init 30 = .ok (.putfield 24, 3) := by decide +kernel
theorem dX2_init_33 : decode cX2_init 33 = .ok (.aload_n 0, 1) := by decide +kernel
theorem dX2_init_34 : decode cX2_init 34 = .ok (.bipush 64, 2) := by decide +kernel
theorem dX2_init_36 : decode cX2_init 36 = .ok (.newarray .int, 2) := by decide +kernel
theorem dX2_init_38 : decode cX2_init 38 = .ok (.putfield 27, 3) := by decide +kernel
theorem dX2_init_41 : decode cX2_init 41 = .ok (.aload_n 0, 1) := by decide +kernel
theorem dX2_init_42 : decode cX2_init 42 = .ok (.new 15, 3) := by decide +kernel
theorem dX2_init_45 : decode cX2_init 45 = .ok (.dup, 1) := by decide +kernel
theorem dX2_init_46 : decode cX2_init 46 = .ok (.bipush 14, 2) := by decide +kernel
theorem dX2_init_48 : decode cX2_init 48 = .ok (.invokespecial 17, 3) := by decide +kernel
theorem dX2_init_51 : decode cX2_init 51 = .ok (.putfield 30, 3) := by decide +kernel
theorem dX2_init_54 : decode cX2_init 54 = .ok (.return_, 1) := by decide +kernel
theorem dX2_countWays_0 : decode cX2_countWays 0 = .ok (.aload_n 2, 1) := by decide +kernel
theorem dX2_countWays_1 : decode cX2_countWays 1 = .ok (.getfield 33, 3) := by decide +kernel
theorem dX2_countWays_4 : decode cX2_countWays 4 = .ok (.bipush 12, 2) := by decide +kernel
theorem dX2_countWays_6 : decode cX2_countWays 6 = .ok (.invokestatic 37, 3) := by decide +kernel
theorem dX2_countWays_9 : decode cX2_countWays 9 = .ok (.istore_n 3, 1) := by decide +kernel
theorem dX2_countWays_10 : decode cX2_countWays 10 = .ok (.aload_n 0, 1) := by decide +kernel
theorem dX2_countWays_11 : decode cX2_countWays 11 = .ok (.getfield 9, 3) := by decide +kernel
theorem dX2_countWays_14 : decode cX2_countWays 14 = .ok (.iload_n 3, 1) := by decide +kernel
theorem dX2_countWays_15 : decode cX2_countWays 15 = .ok (.iconst 1, 1) := by decide +kernel
theorem dX2_countWays_16 : decode cX2_countWays 16 = .ok (.iastore, 1) := by decide +kernel
theorem dX2_countWays_17 : decode cX2_countWays 17 = .ok (.iload_n 3, 1) := by decide +kernel
theorem dX2_countWays_18 : decode cX2_countWays 18 = .ok (.iconst 1, 1) := by decide +kernel
theorem dX2_countWays_19 : decode cX2_countWays 19 = .ok (.isub, 1) := by decide +kernel
theorem dX2_countWays_20 : decode cX2_countWays 20 = .ok (.istore 4, 2) := by decide +kernel
theorem dX2_countWays_22 : decode cX2_countWays 22 = .ok (.iload 4, 2) := by decide +kernel
theorem dX2_countWays_24 : decode cX2_countWays 24 = .ok (.ifCond .lt 133, 3) := by decide +kernel
theorem dX2_countWays_27 : decode cX2_countWays 27 = .ok (.iconst 0, 1) := by decide +kernel
theorem dX2_countWays_28 : decode cX2_countWays 28 = .ok (.istore 5, 2) := by decide +kernel
theorem dX2_countWays_30 : decode cX2_countWays 30 = .ok (.iconst 0, 1) := by decide +kernel
theorem dX2_countWays_31 : decode cX2_countWays 31 = .ok (.istore 6, 2) := by decide +kernel
theorem dX2_countWays_33 : decode cX2_countWays 33 = .ok (.iload 6, 2) := by decide +kernel
theorem dX2_countWays_35 : decode cX2_countWays 35 = .ok (.aload_n 1, 1) := by decide +kernel
theorem dX2_countWays_36 : decode cX2_countWays 36 = .ok (.getfield 43, 3) := by decide +kernel
theorem dX2_countWays_39 : decode cX2_countWays 39 = .ok (.getfield 49, 3) := by decide +kernel
theorem dX2_countWays_42 : decode cX2_countWays 42 = .ok (.if_icmp .ge 41, 3) := by decide +kernel
theorem dX2_countWays_45 : decode cX2_countWays 45 = .ok (.aload_n 1, 1) := by decide +kernel
theorem dX2_countWays_46 : decode cX2_countWays 46 = .ok (.iload 6, 2) := by decide +kernel
theorem dX2_countWays_48 : decode cX2_countWays 48 = .ok (.aload_n 2, 1) := by decide +kernel
theorem dX2_countWays_49 : decode cX2_countWays 49 = .ok (.iload 4, 2) := by decide +kernel
theorem dX2_countWays_51 : decode cX2_countWays 51 = .ok (.invokevirtual 54, 3) := by decide +kernel
theorem dX2_countWays_54 : decode cX2_countWays 54 = .ok (.istore 7, 2) := by decide +kernel
theorem dX2_countWays_56 : decode cX2_countWays 56 = .ok (.iload 5, 2) := by decide +kernel
theorem dX2_countWays_58 : decode cX2_countWays 58 = .ok (.iload 7, 2) := by decide +kernel
theorem dX2_countWays_60 : decode cX2_countWays 60 = .ok (.ifCond .ge 7, 3) := by decide +kernel
theorem dX2_countWays_63 : decode cX2_countWays 63 = .ok (.iconst 0, 1) := by decide +kernel
theorem dX2_countWays_64 : decode cX2_countWays 64 = .ok (.goto 10, 3) := by decide +kernel
theorem dX2_countWays_67 : decode cX2_countWays 67 = .ok (.aload_n 0, 1) := by decide +kernel
theorem dX2_countWays_68 : decode cX2_countWays 68 = .ok (.getfield 9, 3) := by decide +kernel
theorem dX2_countWays_71 : decode cX2_countWays 71 = .ok (.iload 7, 2) := by decide +kernel
theorem dX2_countWays_73 : decode cX2_countWays 73 = .ok (.iaload, 1) := by decide +kernel
theorem dX2_countWays_74 : decode cX2_countWays 74 = .ok (.iadd, 1) := by decide +kernel
theorem dX2_countWays_75 : decode cX2_countWays 75 = .ok (.istore 5, 2) := by decide +kernel
theorem dX2_countWays_77 : decode cX2_countWays 77 = .ok (.iinc 6 1, 3) := by decide +kernel
theorem dX2_countWays_80 : decode cX2_countWays 80 = .ok (.goto (-47), 3) := by decide +kernel
theorem dX2_countWays_83 : decode cX2_countWays 83 = .ok (.aload_n 2, 1) := by decide +kernel
theorem dX2_countWays_84 : decode cX2_countWays 84 = .ok (.iload 4, 2) := by decide +kernel
theorem dX2_countWays_86 : decode cX2_countWays 86 = .ok (.invokevirtual 58, 3) := by decide +kernel
theorem dX2_countWays_89 : decode cX2_countWays 89 = .ok (.istore 6, 2) := by decide +kernel
theorem dX2_countWays_91 : decode cX2_countWays 91 = .ok (.iconst 0, 1) := by decide +kernel
theorem dX2_countWays_92 : decode cX2_countWays 92 = .ok (.istore 7, 2) := by decide +kernel
theorem dX2_countWays_94 : decode cX2_countWays 94 = .ok (.iload 7, 2) := by decide +kernel
theorem dX2_countWays_96 : decode cX2_countWays 96 = .ok (.bipush 26, 2) := by decide +kernel
theorem dX2_countWays_98 : decode cX2_countWays 98 = .ok (.if_icmp .ge 39, 3) := by decide +kernel
theorem dX2_countWays_101 : decode cX2_countWays 101 = .ok (.iload 5, 2) := by decide +kernel
theorem dX2_countWays_103 : decode cX2_countWays 103 = .ok (.aload_n 1, 1) := by decide +kernel
theorem dX2_countWays_104 : decode cX2_countWays 104 = .ok (.getfield 62, 3) := by decide +kernel
theorem dX2_countWays_107 : decode cX2_countWays 107 = .ok (.iload 7, 2) := by decide +kernel
theorem dX2_countWays_109 : decode cX2_countWays 109 = .ok (.iaload, 1) := by decide +kernel
theorem dX2_countWays_110 : decode cX2_countWays 110 = .ok (.iload 6, 2) := by decide +kernel
theorem dX2_countWays_112 : decode cX2_countWays 112 = .ok (.if_icmp .ne 15, 3) := by decide +kernel
theorem dX2_countWays_115 : decode cX2_countWays 115 = .ok (.aload_n 0, 1) := by decide +kernel
theorem dX2_countWays_116 : decode cX2_countWays 116 = .ok (.getfield 9, 3) := by decide +kernel
theorem dX2_countWays_119 : decode cX2_countWays 119 = .ok (.iload 4, 2) := by decide +kernel
theorem dX2_countWays_121 : decode cX2_countWays 121 = .ok (.iconst 1, 1) := by decide +kernel
theorem dX2_countWays_122 : decode cX2_countWays 122 = .ok (.iadd, 1) := by decide +kernel
theorem dX2_countWays_123 : decode cX2_countWays 123 = .ok (.iaload, 1) := by decide +kernel
theorem dX2_countWays_124 : decode cX2_countWays 124 = .ok (.goto 4, 3) := by decide +kernel
theorem dX2_countWays_127 : decode cX2_countWays 127 = .ok (.iconst 0, 1) := by decide +kernel
theorem dX2_countWays_128 : decode cX2_countWays 128 = .ok (.iadd, 1) := by decide +kernel
theorem dX2_countWays_129 : decode cX2_countWays 129 = .ok (.istore 5, 2) := by decide +kernel
theorem dX2_countWays_131 : decode cX2_countWays 131 = .ok (.iinc 7 1, 3) := by decide +kernel
theorem dX2_countWays_134 : decode cX2_countWays 134 = .ok (.goto (-40), 3) := by decide +kernel
theorem dX2_countWays_137 : decode cX2_countWays 137 = .ok (.aload_n 0, 1) := by decide +kernel
theorem dX2_countWays_138 : decode cX2_countWays 138 = .ok (.getfield 9, 3) := by decide +kernel
theorem dX2_countWays_141 : decode cX2_countWays 141 = .ok (.iload 4, 2) := by decide +kernel
theorem dX2_countWays_143 : decode cX2_countWays 143 = .ok (.iload 5, 2) := by decide +kernel
theorem dX2_countWays_145 : decode cX2_countWays 145 = .ok (.ldc 65, 2) := by decide +kernel
theorem dX2_countWays_147 : decode cX2_countWays 147 = .ok (.invokestatic 37, 3) := by decide +kernel
theorem dX2_countWays_150 : decode cX2_countWays 150 = .ok (.iastore, 1) := by decide +kernel
theorem dX2_countWays_151 : decode cX2_countWays 151 = .ok (.iinc 4 (-1), 3) := by decide +kernel
theorem dX2_countWays_154 : decode cX2_countWays 154 = .ok (.goto (-132), 3) := by decide +kernel
theorem dX2_countWays_157 : decode cX2_countWays 157 = .ok (.aload_n 0, 1) := by decide +kernel
theorem dX2_countWays_158 : decode cX2_countWays 158 = .ok (.getfield 9, 3) := by decide +kernel
theorem dX2_countWays_161 : decode cX2_countWays 161 = .ok (.iconst 0, 1) := by decide +kernel
theorem dX2_countWays_162 : decode cX2_countWays 162 = .ok (.iaload, 1) := by decide +kernel
theorem dX2_countWays_163 : decode cX2_countWays 163 = .ok (.ireturn, 1) := by decide +kernel
theorem dX2_takeFirstWay_0 : decode cX2_takeFirstWay 0 = .ok (.aload_n 0, 1) := by decide +kernel
theorem dX2_takeFirstWay_1 : decode cX2_takeFirstWay 1 = .ok (.getfield 20, 3) := by decide +kernel
theorem dX2_takeFirstWay_4 : decode cX2_takeFirstWay 4 = .ok (.invokevirtual 66, 3) := by decide +kernel
theorem dX2_takeFirstWay_7 : decode cX2_takeFirstWay 7 = .ok (.pop, 1) := by decide +kernel
theorem dX2_takeFirstWay_8 : decode cX2_takeFirstWay 8 = .ok (.aload_n 2, 1) := by decide +kernel
theorem dX2_takeFirstWay_9 : decode cX2_takeFirstWay 9 = .ok (.getfield 33, 3) := by decide +kernel
theorem dX2_takeFirstWay_12 : decode cX2_takeFirstWay 12 = .ok (.bipush 12, 2) := by decide +kernel
theorem dX2_takeFirstWay_14 : decode cX2_takeFirstWay 14 = .ok (.invokestatic 37, 3) := by decide +kernel
theorem dX2_takeFirstWay_17 : decode cX2_takeFirstWay 17 = .ok (.istore_n 3, 1) := by decide +kernel
theorem dX2_takeFirstWay_18 : decode cX2_takeFirstWay 18 = .ok (.iconst 0, 1) := by decide +kernel
theorem dX2_takeFirstWay_19 : decode cX2_takeFirstWay 19 = .ok (.istore 4, 2) := by decide +kernel
theorem dX2_takeFirstWay_21 : decode cX2_takeFirstWay 21 = .ok (.iconst 0, 1) := by decide +kernel
theorem dX2_takeFirstWay_22 : decode cX2_takeFirstWay 22 = .ok (.istore 5, 2) := by decide +kernel
theorem dX2_takeFirstWay_24 : decode cX2_takeFirstWay 24 = .ok (.iload 5, 2) := by decide +kernel
theorem dX2_takeFirstWay_26 : decode cX2_takeFirstWay 26 = .ok (.bipush 12, 2) := by decide +kernel
theorem dX2_takeFirstWay_28 : decode cX2_takeFirstWay 28 = .ok (.if_icmp .ge 122, 3) := by decide +kernel
theorem dX2_takeFirstWay_31 : decode cX2_takeFirstWay 31 = .ok (.iload 4, 2) := by decide +kernel
theorem dX2_takeFirstWay_33 : decode cX2_takeFirstWay 33 = .ok (.iload_n 3, 1) := by decide +kernel
theorem dX2_takeFirstWay_34 : decode cX2_takeFirstWay 34 = .ok (.if_icmp .ge 116, 3) := by decide +kernel
theorem dX2_takeFirstWay_37 : decode cX2_takeFirstWay 37 = .ok (.aload_n 0, 1) := by decide +kernel
theorem dX2_takeFirstWay_38 : decode cX2_takeFirstWay 38 = .ok (.getfield 9, 3) := by decide +kernel
theorem dX2_takeFirstWay_41 : decode cX2_takeFirstWay 41 = .ok (.iload 4, 2) := by decide +kernel
theorem dX2_takeFirstWay_43 : decode cX2_takeFirstWay 43 = .ok (.iaload, 1) := by decide +kernel
theorem dX2_takeFirstWay_44 : decode cX2_takeFirstWay 44 = .ok (.ifCond .le 106, 3) := by decide +kernel
theorem dX2_takeFirstWay_47 : decode cX2_takeFirstWay 47 = .ok (.aload_n 0, 1) := by decide +kernel
theorem dX2_takeFirstWay_48 : decode cX2_takeFirstWay 48 = .ok (.aload_n 1, 1) := by decide +kernel
theorem dX2_takeFirstWay_49 : decode cX2_takeFirstWay 49 = .ok (.aload_n 2, 1) := by decide +kernel
theorem dX2_takeFirstWay_50 : decode cX2_takeFirstWay 50 = .ok (.iload 4, 2) := by decide +kernel
theorem dX2_takeFirstWay_52 : decode cX2_takeFirstWay 52 = .ok (.invokevirtual 70, 3) := by decide +kernel
theorem dX2_takeFirstWay_55 : decode cX2_takeFirstWay 55 = .ok (.istore 6, 2) := by decide +kernel
theorem dX2_takeFirstWay_57 : decode cX2_takeFirstWay 57 = .ok (.iload 6, 2) := by decide +kernel
theorem dX2_takeFirstWay_59 : decode cX2_takeFirstWay 59 = .ok (.ifCond .ge 27, 3) := by decide +kernel
theorem dX2_takeFirstWay_62 : decode cX2_takeFirstWay 62 = .ok (.aload_n 0, 1) := by decide +kernel
theorem dX2_takeFirstWay_63 : decode cX2_takeFirstWay 63 = .ok (.getfield 20, 3) := by decide +kernel
theorem dX2_takeFirstWay_66 : decode cX2_takeFirstWay 66 = .ok (.aload_n 1, 1) := by decide +kernel
theorem dX2_takeFirstWay_67 : decode cX2_takeFirstWay 67 = .ok (.aload_n 2, 1) := by decide +kernel
theorem dX2_takeFirstWay_68 : decode cX2_takeFirstWay 68 = .ok (.iload 4, 2) := by decide +kernel
theorem dX2_takeFirstWay_70 : decode cX2_takeFirstWay 70 = .ok (.invokevirtual 58, 3) := by decide +kernel
theorem dX2_takeFirstWay_73 : decode cX2_takeFirstWay 73 = .ok (.invokestatic 74, 3) := by decide +kernel
theorem dX2_takeFirstWay_76 : decode cX2_takeFirstWay 76 = .ok (.invokevirtual 78, 3) := by decide +kernel
theorem dX2_takeFirstWay_79 : decode cX2_takeFirstWay 79 = .ok (.pop, 1) := by decide +kernel
theorem dX2_takeFirstWay_80 : decode cX2_takeFirstWay 80 = .ok (.iinc 4 1, 3) := by decide +kernel
theorem dX2_takeFirstWay_83 : decode cX2_takeFirstWay 83 = .ok (.goto 61, 3) := by decide +kernel
theorem dX2_takeFirstWay_86 : decode cX2_takeFirstWay 86 = .ok (.iconst 0, 1) := by decide +kernel
theorem dX2_takeFirstWay_87 : decode cX2_takeFirstWay 87 = .ok (.istore 7, 2) := by decide +kernel
theorem dX2_takeFirstWay_89 : decode cX2_takeFirstWay 89 = .ok (.iload 7, 2) := by decide +kernel
theorem dX2_takeFirstWay_91 : decode cX2_takeFirstWay 91 = .ok (.aload_n 1, 1) := by decide +kernel
theorem dX2_takeFirstWay_92 : decode cX2_takeFirstWay 92 = .ok (.getfield 43, 3) := by decide +kernel
theorem dX2_takeFirstWay_95 : decode cX2_takeFirstWay 95 = .ok (.getfield 81, 3) := by decide +kernel
theorem dX2_takeFirstWay_98 : decode cX2_takeFirstWay 98 = .ok (.iload 6, 2) := by decide +kernel
theorem dX2_takeFirstWay_100 : decode cX2_takeFirstWay 100 = .ok (.iaload, 1) := by decide +kernel
theorem dX2_takeFirstWay_101 : decode cX2_takeFirstWay 101 = .ok (.if_icmp .ge 32, 3) := by decide +kernel
theorem dX2_takeFirstWay_104 : decode cX2_takeFirstWay 104 = .ok (.aload_n 0, 1) := by decide +kernel
theorem dX2_takeFirstWay_105 : decode cX2_takeFirstWay 105 = .ok (.getfield 20, 3) := by decide +kernel
theorem dX2_takeFirstWay_108 : decode cX2_takeFirstWay 108 = .ok (.aload_n 1, 1) := by decide +kernel
theorem dX2_takeFirstWay_109 : decode cX2_takeFirstWay 109 = .ok (.getfield 43, 3) := by decide +kernel
theorem dX2_takeFirstWay_112 : decode cX2_takeFirstWay 112 = .ok (.getfield 84, 3) := by decide +kernel
theorem dX2_takeFirstWay_115 : decode cX2_takeFirstWay 115 = .ok (.iload 6, 2) := by decide +kernel
theorem dX2_takeFirstWay_117 : decode cX2_takeFirstWay 117 = .ok (.iconst 4, 1) := by decide +kernel
theorem dX2_takeFirstWay_118 : decode cX2_takeFirstWay 118 = .ok (.imul, 1) := by decide +kernel
theorem dX2_takeFirstWay_119 : decode cX2_takeFirstWay 119 = .ok (.iload 7, 2) := by decide +kernel
theorem dX2_takeFirstWay_121 : decode cX2_takeFirstWay 121 = .ok (.iadd, 1) := by decide +kernel
theorem dX2_takeFirstWay_122 : decode cX2_takeFirstWay 122 = .ok (.iaload, 1) := by decide +kernel
theorem dX2_takeFirstWay_123 : decode cX2_takeFirstWay 123 = .ok (.invokevirtual 78, 3) := by decide +kernel
theorem dX2_takeFirstWay_126 : decode cX2_takeFirstWay 126 = .ok (.pop, 1) := by decide +kernel
theorem dX2_takeFirstWay_127 : decode cX2_takeFirstWay 127 = .ok (.iinc 7 1, 3) := by decide +kernel
theorem dX2_takeFirstWay_130 : decode cX2_takeFirstWay 130 = .ok (.goto (-41), 3) := by decide +kernel
theorem dX2_takeFirstWay_133 : decode cX2_takeFirstWay 133 = .ok (.iload 4, 2) := by decide +kernel
theorem dX2_takeFirstWay_135 : decode cX2_takeFirstWay 135 = .ok (.aload_n 1, 1) := by decide +kernel
theorem dX2_takeFirstWay_136 : decode cX2_takeFirstWay 136 = .ok (.iload 6, 2) := by decide +kernel
theorem dX2_takeFirstWay_138 : decode cX2_takeFirstWay 138 = .ok (.invokevirtual 87, 3) := by decide +kernel
theorem dX2_takeFirstWay_141 : decode cX2_takeFirstWay 141 = .ok (.iadd, 1) := by decide +kernel
theorem dX2_takeFirstWay_142 : decode cX2_takeFirstWay 142 = .ok (.istore 4, 2) := by decide +kernel
theorem dX2_takeFirstWay_144 : decode cX2_takeFirstWay 144 = .ok (.iinc 5 1, 3) := by decide +kernel
theorem dX2_takeFirstWay_147 : decode cX2_takeFirstWay 147 = .ok (.goto (-123), 3) := by decide +kernel
theorem dX2_takeFirstWay_150 : decode cX2_takeFirstWay 150 = .ok (.return_, 1) := by decide +kernel
theorem dX2_firstShort_0 : decode cX2_firstShort 0 = .ok (.iconst 0, 1) := by decide +kernel
theorem dX2_firstShort_1 : decode cX2_firstShort 1 = .ok (.istore 4, 2) := by decide +kernel
theorem dX2_firstShort_3 : decode cX2_firstShort 3 = .ok (.iload 4, 2) := by decide +kernel
theorem dX2_firstShort_5 : decode cX2_firstShort 5 = .ok (.aload_n 1, 1) := by decide +kernel
theorem dX2_firstShort_6 : decode cX2_firstShort 6 = .ok (.getfield 43, 3) := by decide +kernel
theorem dX2_firstShort_9 : decode cX2_firstShort 9 = .ok (.getfield 49, 3) := by decide +kernel
theorem dX2_firstShort_12 : decode cX2_firstShort 12 = .ok (.if_icmp .ge 37, 3) := by decide +kernel
theorem dX2_firstShort_15 : decode cX2_firstShort 15 = .ok (.aload_n 1, 1) := by decide +kernel
theorem dX2_firstShort_16 : decode cX2_firstShort 16 = .ok (.iload 4, 2) := by decide +kernel
theorem dX2_firstShort_18 : decode cX2_firstShort 18 = .ok (.aload_n 2, 1) := by decide +kernel
theorem dX2_firstShort_19 : decode cX2_firstShort 19 = .ok (.iload_n 3, 1) := by decide +kernel
theorem dX2_firstShort_20 : decode cX2_firstShort 20 = .ok (.invokevirtual 54, 3) := by decide +kernel
theorem dX2_firstShort_23 : decode cX2_firstShort 23 = .ok (.istore 5, 2) := by decide +kernel
theorem dX2_firstShort_25 : decode cX2_firstShort 25 = .ok (.iload 5, 2) := by decide +kernel
theorem dX2_firstShort_27 : decode cX2_firstShort 27 = .ok (.ifCond .lt 16, 3) := by decide +kernel
theorem dX2_firstShort_30 : decode cX2_firstShort 30 = .ok (.aload_n 0, 1) := by decide +kernel
theorem dX2_firstShort_31 : decode cX2_firstShort 31 = .ok (.getfield 9, 3) := by decide +kernel
theorem dX2_firstShort_34 : decode cX2_firstShort 34 = .ok (.iload 5, 2) := by decide +kernel
theorem dX2_firstShort_36 : decode cX2_firstShort 36 = .ok (.iaload, 1) := by decide +kernel
theorem dX2_firstShort_37 : decode cX2_firstShort 37 = .ok (.ifCond .le 6, 3) := by decide +kernel
theorem dX2_firstShort_40 : decode cX2_firstShort 40 = .ok (.iload 4, 2) := by decide +kernel
theorem dX2_firstShort_42 : decode cX2_firstShort 42 = .ok (.ireturn, 1) := by decide +kernel
theorem dX2_firstShort_43 : decode cX2_firstShort 43 = .ok (.iinc 4 1, 3) := by decide +kernel
theorem dX2_firstShort_46 : decode cX2_firstShort 46 = .ok (.goto (-43), 3) := by decide +kernel
theorem dX2_firstShort_49 : decode cX2_firstShort 49 = .ok (.bipush (-6), 2) := by decide +kernel
theorem dX2_firstShort_51 : decode cX2_firstShort 51 = .ok (.ireturn, 1) := by decide +kernel
theorem dX2_firstLetter_0 : decode cX2_firstLetter 0 = .ok (.iconst 0, 1) := by decide +kernel
theorem dX2_firstLetter_1 : decode cX2_firstLetter 1 = .ok (.istore_n 2, 1) := by decide +kernel
theorem dX2_firstLetter_2 : decode cX2_firstLetter 2 = .ok (.iload_n 2, 1) := by decide +kernel
theorem dX2_firstLetter_3 : decode cX2_firstLetter 3 = .ok (.bipush 26, 2) := by decide +kernel
theorem dX2_firstLetter_5 : decode cX2_firstLetter 5 = .ok (.if_icmp .ge 21, 3) := by decide +kernel
theorem dX2_firstLetter_8 : decode cX2_firstLetter 8 = .ok (.aload_n 0, 1) := by decide +kernel
theorem dX2_firstLetter_9 : decode cX2_firstLetter 9 = .ok (.getfield 62, 3) := by decide +kernel
theorem dX2_firstLetter_12 : decode cX2_firstLetter 12 = .ok (.iload_n 2, 1) := by decide +kernel
theorem dX2_firstLetter_13 : decode cX2_firstLetter 13 = .ok (.iaload, 1) := by decide +kernel
theorem dX2_firstLetter_14 : decode cX2_firstLetter 14 = .ok (.iload_n 1, 1) := by decide +kernel
theorem dX2_firstLetter_15 : decode cX2_firstLetter 15 = .ok (.if_icmp .ne 5, 3) := by decide +kernel
theorem dX2_firstLetter_18 : decode cX2_firstLetter 18 = .ok (.iload_n 2, 1) := by decide +kernel
theorem dX2_firstLetter_19 : decode cX2_firstLetter 19 = .ok (.ireturn, 1) := by decide +kernel
theorem dX2_firstLetter_20 : decode cX2_firstLetter 20 = .ok (.iinc 2 1, 3) := by decide +kernel
theorem dX2_firstLetter_23 : decode cX2_firstLetter 23 = .ok (.goto (-21), 3) := by decide +kernel
theorem dX2_firstLetter_26 : decode cX2_firstLetter 26 = .ok (.bipush (-6), 2) := by decide +kernel
theorem dX2_firstLetter_28 : decode cX2_firstLetter 28 = .ok (.ireturn, 1) := by decide +kernel
theorem dX2_findTwoWays_0 : decode cX2_findTwoWays 0 = .ok (.aload_n 0, 1) := by decide +kernel
theorem dX2_findTwoWays_1 : decode cX2_findTwoWays 1 = .ok (.getfield 30, 3) := by decide +kernel
theorem dX2_findTwoWays_4 : decode cX2_findTwoWays 4 = .ok (.invokevirtual 66, 3) := by decide +kernel
theorem dX2_findTwoWays_7 : decode cX2_findTwoWays 7 = .ok (.pop, 1) := by decide +kernel
theorem dX2_findTwoWays_8 : decode cX2_findTwoWays 8 = .ok (.aload_n 0, 1) := by decide +kernel
theorem dX2_findTwoWays_9 : decode cX2_findTwoWays 9 = .ok (.aload_n 1, 1) := by decide +kernel
theorem dX2_findTwoWays_10 : decode cX2_findTwoWays 10 = .ok (.invokevirtual 90, 3) := by decide +kernel
theorem dX2_findTwoWays_13 : decode cX2_findTwoWays 13 = .ok (.iconst 1, 1) := by decide +kernel
theorem dX2_findTwoWays_14 : decode cX2_findTwoWays 14 = .ok (.istore_n 2, 1) := by decide +kernel
theorem dX2_findTwoWays_15 : decode cX2_findTwoWays 15 = .ok (.iload_n 2, 1) := by decide +kernel
theorem dX2_findTwoWays_16 : decode cX2_findTwoWays 16 = .ok (.bipush 64, 2) := by decide +kernel
theorem dX2_findTwoWays_18 : decode cX2_findTwoWays 18 = .ok (.if_icmp .ge 29, 3) := by decide +kernel
theorem dX2_findTwoWays_21 : decode cX2_findTwoWays 21 = .ok (.aload_n 0, 1) := by decide +kernel
theorem dX2_findTwoWays_22 : decode cX2_findTwoWays 22 = .ok (.getfield 24, 3) := by decide +kernel
theorem dX2_findTwoWays_25 : decode cX2_findTwoWays 25 = .ok (.iload_n 2, 1) := by decide +kernel
theorem dX2_findTwoWays_26 : decode cX2_findTwoWays 26 = .ok (.iaload, 1) := by decide +kernel
theorem dX2_findTwoWays_27 : decode cX2_findTwoWays 27 = .ok (.iconst 1, 1) := by decide +kernel
theorem dX2_findTwoWays_28 : decode cX2_findTwoWays 28 = .ok (.if_icmp .le 13, 3) := by decide +kernel
theorem dX2_findTwoWays_31 : decode cX2_findTwoWays 31 = .ok (.aload_n 0, 1) := by decide +kernel
theorem dX2_findTwoWays_32 : decode cX2_findTwoWays 32 = .ok (.getfield 30, 3) := by decide +kernel
theorem dX2_findTwoWays_35 : decode cX2_findTwoWays 35 = .ok (.iload_n 2, 1) := by decide +kernel
theorem dX2_findTwoWays_36 : decode cX2_findTwoWays 36 = .ok (.invokevirtual 78, 3) := by decide +kernel
theorem dX2_findTwoWays_39 : decode cX2_findTwoWays 39 = .ok (.pop, 1) := by decide +kernel
theorem dX2_findTwoWays_40 : decode cX2_findTwoWays 40 = .ok (.return_, 1) := by decide +kernel
theorem dX2_findTwoWays_41 : decode cX2_findTwoWays 41 = .ok (.iinc 2 1, 3) := by decide +kernel
theorem dX2_findTwoWays_44 : decode cX2_findTwoWays 44 = .ok (.goto (-29), 3) := by decide +kernel
theorem dX2_findTwoWays_47 : decode cX2_findTwoWays 47 = .ok (.aload_n 0, 1) := by decide +kernel
theorem dX2_findTwoWays_48 : decode cX2_findTwoWays 48 = .ok (.aload_n 1, 1) := by decide +kernel
theorem dX2_findTwoWays_49 : decode cX2_findTwoWays 49 = .ok (.invokevirtual 94, 3) := by decide +kernel
theorem dX2_findTwoWays_52 : decode cX2_findTwoWays 52 = .ok (.aload_n 0, 1) := by decide +kernel
theorem dX2_findTwoWays_53 : decode cX2_findTwoWays 53 = .ok (.aload_n 1, 1) := by decide +kernel
theorem dX2_findTwoWays_54 : decode cX2_findTwoWays 54 = .ok (.invokevirtual 97, 3) := by decide +kernel
theorem dX2_findTwoWays_57 : decode cX2_findTwoWays 57 = .ok (.aload_n 1, 1) := by decide +kernel
theorem dX2_findTwoWays_58 : decode cX2_findTwoWays 58 = .ok (.invokestatic 100, 3) := by decide +kernel
theorem dX2_findTwoWays_61 : decode cX2_findTwoWays 61 = .ok (.istore_n 2, 1) := by decide +kernel
theorem dX2_findTwoWays_62 : decode cX2_findTwoWays 62 = .ok (.aload_n 0, 1) := by decide +kernel
theorem dX2_findTwoWays_63 : decode cX2_findTwoWays 63 = .ok (.getfield 30, 3) := by decide +kernel
theorem dX2_findTwoWays_66 : decode cX2_findTwoWays 66 = .ok (.getfield 33, 3) := by decide +kernel
theorem dX2_findTwoWays_69 : decode cX2_findTwoWays 69 = .ok (.iconst 2, 1) := by decide +kernel
theorem dX2_findTwoWays_70 : decode cX2_findTwoWays 70 = .ok (.if_icmp .ne 27, 3) := by decide +kernel
theorem dX2_findTwoWays_73 : decode cX2_findTwoWays 73 = .ok (.iload_n 2, 1) := by decide +kernel
theorem dX2_findTwoWays_74 : decode cX2_findTwoWays 74 = .ok (.aload_n 0, 1) := by decide +kernel
theorem dX2_findTwoWays_75 : decode cX2_findTwoWays 75 = .ok (.getfield 30, 3) := by decide +kernel
theorem dX2_findTwoWays_78 : decode cX2_findTwoWays 78 = .ok (.iconst 0, 1) := by decide +kernel
theorem dX2_findTwoWays_79 : decode cX2_findTwoWays 79 = .ok (.invokevirtual 58, 3) := by decide +kernel
theorem dX2_findTwoWays_82 : decode cX2_findTwoWays 82 = .ok (.bipush 64, 2) := by decide +kernel
theorem dX2_findTwoWays_84 : decode cX2_findTwoWays 84 = .ok (.imul, 1) := by decide +kernel
theorem dX2_findTwoWays_85 : decode cX2_findTwoWays 85 = .ok (.aload_n 0, 1) := by decide +kernel
theorem dX2_findTwoWays_86 : decode cX2_findTwoWays 86 = .ok (.getfield 30, 3) := by decide +kernel
theorem dX2_findTwoWays_89 : decode cX2_findTwoWays 89 = .ok (.iconst 1, 1) := by decide +kernel
theorem dX2_findTwoWays_90 : decode cX2_findTwoWays 90 = .ok (.invokevirtual 58, 3) := by decide +kernel
theorem dX2_findTwoWays_93 : decode cX2_findTwoWays 93 = .ok (.iadd, 1) := by decide +kernel
theorem dX2_findTwoWays_94 : decode cX2_findTwoWays 94 = .ok (.if_icmp .ge 7, 3) := by decide +kernel
theorem dX2_findTwoWays_97 : decode cX2_findTwoWays 97 = .ok (.iconst 1, 1) := by decide +kernel
theorem dX2_findTwoWays_98 : decode cX2_findTwoWays 98 = .ok (.goto 4, 3) := by decide +kernel
theorem dX2_findTwoWays_101 : decode cX2_findTwoWays 101 = .ok (.iconst 0, 1) := by decide +kernel
theorem dX2_findTwoWays_102 : decode cX2_findTwoWays 102 = .ok (.istore_n 3, 1) := by decide +kernel
theorem dX2_findTwoWays_103 : decode cX2_findTwoWays 103 = .ok (.iload_n 2, 1) := by decide +kernel
theorem dX2_findTwoWays_104 : decode cX2_findTwoWays 104 = .ok (.sipush 4096, 3) := by decide +kernel
theorem dX2_findTwoWays_107 : decode cX2_findTwoWays 107 = .ok (.if_icmp .ge 39, 3) := by decide +kernel
theorem dX2_findTwoWays_110 : decode cX2_findTwoWays 110 = .ok (.iload_n 3, 1) := by decide +kernel
theorem dX2_findTwoWays_111 : decode cX2_findTwoWays 111 = .ok (.ifCond .eq 35, 3) := by decide +kernel
theorem dX2_findTwoWays_114 : decode cX2_findTwoWays 114 = .ok (.aload_n 0, 1) := by decide +kernel
theorem dX2_findTwoWays_115 : decode cX2_findTwoWays 115 = .ok (.getfield 30, 3) := by decide +kernel
theorem dX2_findTwoWays_118 : decode cX2_findTwoWays 118 = .ok (.invokevirtual 66, 3) := by decide +kernel
theorem dX2_findTwoWays_121 : decode cX2_findTwoWays 121 = .ok (.pop, 1) := by decide +kernel
theorem dX2_findTwoWays_122 : decode cX2_findTwoWays 122 = .ok (.aload_n 0, 1) := by decide +kernel
theorem dX2_findTwoWays_123 : decode cX2_findTwoWays 123 = .ok (.getfield 30, 3) := by decide +kernel
theorem dX2_findTwoWays_126 : decode cX2_findTwoWays 126 = .ok (.iload_n 2, 1) := by decide +kernel
theorem dX2_findTwoWays_127 : decode cX2_findTwoWays 127 = .ok (.bipush 64, 2) := by decide +kernel
theorem dX2_findTwoWays_129 : decode cX2_findTwoWays 129 = .ok (.idiv, 1) := by decide +kernel
theorem dX2_findTwoWays_130 : decode cX2_findTwoWays 130 = .ok (.invokevirtual 78, 3) := by decide +kernel
theorem dX2_findTwoWays_133 : decode cX2_findTwoWays 133 = .ok (.pop, 1) := by decide +kernel
theorem dX2_findTwoWays_134 : decode cX2_findTwoWays 134 = .ok (.aload_n 0, 1) := by decide +kernel
theorem dX2_findTwoWays_135 : decode cX2_findTwoWays 135 = .ok (.getfield 30, 3) := by decide +kernel
theorem dX2_findTwoWays_138 : decode cX2_findTwoWays 138 = .ok (.iload_n 2, 1) := by decide +kernel
theorem dX2_findTwoWays_139 : decode cX2_findTwoWays 139 = .ok (.bipush 64, 2) := by decide +kernel
theorem dX2_findTwoWays_141 : decode cX2_findTwoWays 141 = .ok (.irem, 1) := by decide +kernel
theorem dX2_findTwoWays_142 : decode cX2_findTwoWays 142 = .ok (.invokevirtual 78, 3) := by decide +kernel
theorem dX2_findTwoWays_145 : decode cX2_findTwoWays 145 = .ok (.pop, 1) := by decide +kernel
theorem dX2_findTwoWays_146 : decode cX2_findTwoWays 146 = .ok (.return_, 1) := by decide +kernel
theorem dX2_countSingles_0 : decode cX2_countSingles 0 = .ok (.aload_n 0, 1) := by decide +kernel
theorem dX2_countSingles_1 : decode cX2_countSingles 1 = .ok (.getfield 24, 3) := by decide +kernel
theorem dX2_countSingles_4 : decode cX2_countSingles 4 = .ok (.iconst 0, 1) := by decide +kernel
theorem dX2_countSingles_5 : decode cX2_countSingles 5 = .ok (.invokestatic 104, 3) := by decide +kernel
theorem dX2_countSingles_8 : decode cX2_countSingles 8 = .ok (.iconst 0, 1) := by decide +kernel
theorem dX2_countSingles_9 : decode cX2_countSingles 9 = .ok (.istore_n 2, 1) := by decide +kernel
theorem dX2_countSingles_10 : decode cX2_countSingles 10 = .ok (.iload_n 2, 1) := by decide +kernel
theorem dX2_countSingles_11 : decode cX2_countSingles 11 = .ok (.bipush 26, 2) := by decide +kernel
theorem dX2_countSingles_13 : decode cX2_countSingles 13 = .ok (.if_icmp .ge 24, 3) := by decide +kernel
theorem dX2_countSingles_16 : decode cX2_countSingles 16 = .ok (.aload_n 0, 1) := by decide +kernel
theorem dX2_countSingles_17 : decode cX2_countSingles 17 = .ok (.getfield 24, 3) := by decide +kernel
theorem dX2_countSingles_20 : decode cX2_countSingles 20 = .ok (.aload_n 1, 1) := by decide +kernel
theorem dX2_countSingles_21 : decode cX2_countSingles 21 = .ok (.getfield 62, 3) := by decide +kernel
theorem dX2_countSingles_24 : decode cX2_countSingles 24 = .ok (.iload_n 2, 1) := by decide +kernel
theorem dX2_countSingles_25 : decode cX2_countSingles 25 = .ok (.iaload, 1) := by decide +kernel
theorem dX2_countSingles_26 : decode cX2_countSingles 26 = .ok (.dup2, 1) := by decide +kernel
theorem dX2_countSingles_27 : decode cX2_countSingles 27 = .ok (.iaload, 1) := by decide +kernel
theorem dX2_countSingles_28 : decode cX2_countSingles 28 = .ok (.iconst 1, 1) := by decide +kernel
theorem dX2_countSingles_29 : decode cX2_countSingles 29 = .ok (.iadd, 1) := by decide +kernel
theorem dX2_countSingles_30 : decode cX2_countSingles 30 = .ok (.iastore, 1) := by decide +kernel
theorem dX2_countSingles_31 : decode cX2_countSingles 31 = .ok (.iinc 2 1, 3) := by decide +kernel
theorem dX2_countSingles_34 : decode cX2_countSingles 34 = .ok (.goto (-24), 3) := by decide +kernel
theorem dX2_countSingles_37 : decode cX2_countSingles 37 = .ok (.aload_n 0, 1) := by decide +kernel
theorem dX2_countSingles_38 : decode cX2_countSingles 38 = .ok (.getfield 24, 3) := by decide +kernel
theorem dX2_countSingles_41 : decode cX2_countSingles 41 = .ok (.iconst 0, 1) := by decide +kernel
theorem dX2_countSingles_42 : decode cX2_countSingles 42 = .ok (.iconst 0, 1) := by decide +kernel
theorem dX2_countSingles_43 : decode cX2_countSingles 43 = .ok (.iastore, 1) := by decide +kernel
theorem dX2_countSingles_44 : decode cX2_countSingles 44 = .ok (.iconst 0, 1) := by decide +kernel
theorem dX2_countSingles_45 : decode cX2_countSingles 45 = .ok (.istore_n 2, 1) := by decide +kernel
theorem dX2_countSingles_46 : decode cX2_countSingles 46 = .ok (.iload_n 2, 1) := by decide +kernel
theorem dX2_countSingles_47 : decode cX2_countSingles 47 = .ok (.aload_n 1, 1) := by decide +kernel
theorem dX2_countSingles_48 : decode cX2_countSingles 48 = .ok (.getfield 43, 3) := by decide +kernel
theorem dX2_countSingles_51 : decode cX2_countSingles 51 = .ok (.getfield 49, 3) := by decide +kernel
theorem dX2_countSingles_54 : decode cX2_countSingles 54 = .ok (.if_icmp .ge 33, 3) := by decide +kernel
theorem dX2_countSingles_57 : decode cX2_countSingles 57 = .ok (.aload_n 1, 1) := by decide +kernel
theorem dX2_countSingles_58 : decode cX2_countSingles 58 = .ok (.getfield 110, 3) := by decide +kernel
theorem dX2_countSingles_61 : decode cX2_countSingles 61 = .ok (.iload_n 2, 1) := by decide +kernel
theorem dX2_countSingles_62 : decode cX2_countSingles 62 = .ok (.iaload, 1) := by decide +kernel
theorem dX2_countSingles_63 : decode cX2_countSingles 63 = .ok (.ifCond .ne 18, 3) := by decide +kernel
theorem dX2_countSingles_66 : decode cX2_countSingles 66 = .ok (.aload_n 0, 1) := by decide +kernel
theorem dX2_countSingles_67 : decode cX2_countSingles 67 = .ok (.getfield 24, 3) := by decide +kernel
theorem dX2_countSingles_70 : decode cX2_countSingles 70 = .ok (.aload_n 1, 1) := by decide +kernel
theorem dX2_countSingles_71 : decode cX2_countSingles 71 = .ok (.getfield 113, 3) := by decide +kernel
theorem dX2_countSingles_74 : decode cX2_countSingles 74 = .ok (.iload_n 2, 1) := by decide +kernel
theorem dX2_countSingles_75 : decode cX2_countSingles 75 = .ok (.iaload, 1) := by decide +kernel
theorem dX2_countSingles_76 : decode cX2_countSingles 76 = .ok (.dup2, 1) := by decide +kernel
theorem dX2_countSingles_77 : decode cX2_countSingles 77 = .ok (.iaload, 1) := by decide +kernel
theorem dX2_countSingles_78 : decode cX2_countSingles 78 = .ok (.iconst 1, 1) := by decide +kernel
theorem dX2_countSingles_79 : decode cX2_countSingles 79 = .ok (.iadd, 1) := by decide +kernel
theorem dX2_countSingles_80 : decode cX2_countSingles 80 = .ok (.iastore, 1) := by decide +kernel
theorem dX2_countSingles_81 : decode cX2_countSingles 81 = .ok (.iinc 2 1, 3) := by decide +kernel
theorem dX2_countSingles_84 : decode cX2_countSingles 84 = .ok (.goto (-38), 3) := by decide +kernel
theorem dX2_countSingles_87 : decode cX2_countSingles 87 = .ok (.return_, 1) := by decide +kernel
theorem dX2_measureFar_0 : decode cX2_measureFar 0 = .ok (.iconst 0, 1) := by decide +kernel
theorem dX2_measureFar_1 : decode cX2_measureFar 1 = .ok (.istore_n 2, 1) := by decide +kernel
theorem dX2_measureFar_2 : decode cX2_measureFar 2 = .ok (.iload_n 2, 1) := by decide +kernel
theorem dX2_measureFar_3 : decode cX2_measureFar 3 = .ok (.bipush 64, 2) := by decide +kernel
theorem dX2_measureFar_5 : decode cX2_measureFar 5 = .ok (.if_icmp .ge 31, 3) := by decide +kernel
theorem dX2_measureFar_8 : decode cX2_measureFar 8 = .ok (.aload_n 0, 1) := by decide +kernel
theorem dX2_measureFar_9 : decode cX2_measureFar 9 = .ok (.getfield 27, 3) := by decide +kernel
theorem dX2_measureFar_12 : decode cX2_measureFar 12 = .ok (.iload_n 2, 1) := by decide +kernel
theorem dX2_measureFar_13 : decode cX2_measureFar 13 = .ok (.aload_n 0, 1) := by decide +kernel
theorem dX2_measureFar_14 : decode cX2_measureFar 14 = .ok (.getfield 24, 3) := by decide +kernel
theorem dX2_measureFar_17 : decode cX2_measureFar 17 = .ok (.iload_n 2, 1) := by decide +kernel
theorem dX2_measureFar_18 : decode cX2_measureFar 18 = .ok (.iaload, 1) := by decide +kernel
theorem dX2_measureFar_19 : decode cX2_measureFar 19 = .ok (.ifCond .le 7, 3) := by decide +kernel
theorem dX2_measureFar_22 : decode cX2_measureFar 22 = .ok (.iconst 0, 1) := by decide +kernel
theorem dX2_measureFar_23 : decode cX2_measureFar 23 = .ok (.goto 6, 3) := by decide +kernel
theorem dX2_measureFar_26 : decode cX2_measureFar 26 = .ok (.sipush 1000, 3) := by decide +kernel
theorem dX2_measureFar_29 : decode cX2_measureFar 29 = .ok (.iastore, 1) := by decide +kernel
theorem dX2_measureFar_30 : decode cX2_measureFar 30 = .ok (.iinc 2 1, 3) := by decide +kernel
theorem dX2_measureFar_33 : decode cX2_measureFar 33 = .ok (.goto (-31), 3) := by decide +kernel
theorem dX2_measureFar_36 : decode cX2_measureFar 36 = .ok (.iconst 0, 1) := by decide +kernel
theorem dX2_measureFar_37 : decode cX2_measureFar 37 = .ok (.istore_n 2, 1) := by decide +kernel
theorem dX2_measureFar_38 : decode cX2_measureFar 38 = .ok (.iload_n 2, 1) := by decide +kernel
theorem dX2_measureFar_39 : decode cX2_measureFar 39 = .ok (.bipush 12, 2) := by decide +kernel
theorem dX2_measureFar_41 : decode cX2_measureFar 41 = .ok (.if_icmp .ge 75, 3) := by decide +kernel
theorem dX2_measureFar_44 : decode cX2_measureFar 44 = .ok (.iconst 0, 1) := by decide +kernel
theorem dX2_measureFar_45 : decode cX2_measureFar 45 = .ok (.istore_n 3, 1) := by decide +kernel
theorem dX2_measureFar_46 : decode cX2_measureFar 46 = .ok (.iload_n 3, 1) := by decide +kernel
theorem dX2_measureFar_47 : decode cX2_measureFar 47 = .ok (.aload_n 1, 1) := by decide +kernel
theorem dX2_measureFar_48 : decode cX2_measureFar 48 = .ok (.getfield 43, 3) := by decide +kernel
theorem dX2_measureFar_51 : decode cX2_measureFar 51 = .ok (.getfield 49, 3) := by decide +kernel
theorem dX2_measureFar_54 : decode cX2_measureFar 54 = .ok (.if_icmp .ge 56, 3) := by decide +kernel
theorem dX2_measureFar_57 : decode cX2_measureFar 57 = .ok (.aload_n 1, 1) := by decide +kernel
theorem dX2_measureFar_58 : decode cX2_measureFar 58 = .ok (.getfield 110, 3) := by decide +kernel
theorem dX2_measureFar_61 : decode cX2_measureFar 61 = .ok (.iload_n 3, 1) := by decide +kernel
theorem dX2_measureFar_62 : decode cX2_measureFar 62 = .ok (.iaload, 1) := by decide +kernel
theorem dX2_measureFar_63 : decode cX2_measureFar 63 = .ok (.ifCond .eq 41, 3) := by decide +kernel
theorem dX2_measureFar_66 : decode cX2_measureFar 66 = .ok (.aload_n 0, 1) := by decide +kernel
theorem dX2_measureFar_67 : decode cX2_measureFar 67 = .ok (.getfield 27, 3) := by decide +kernel
theorem dX2_measureFar_70 : decode cX2_measureFar 70 = .ok (.aload_n 1, 1) := by decide +kernel
theorem dX2_measureFar_71 : decode cX2_measureFar 71 = .ok (.getfield 113, 3) := by decide +kernel
theorem dX2_measureFar_74 : decode cX2_measureFar 74 = .ok (.iload_n 3, 1) := by decide +kernel
theorem dX2_measureFar_75 : decode cX2_measureFar 75 = .ok (.iaload, 1) := by decide +kernel
theorem dX2_measureFar_76 : decode cX2_measureFar 76 = .ok (.aload_n 0, 1) := by decide +kernel
theorem dX2_measureFar_77 : decode cX2_measureFar 77 = .ok (.getfield 27, 3) := by decide +kernel
theorem dX2_measureFar_80 : decode cX2_measureFar 80 = .ok (.aload_n 1, 1) := by decide +kernel
theorem dX2_measureFar_81 : decode cX2_measureFar 81 = .ok (.getfield 113, 3) := by decide +kernel
theorem dX2_measureFar_84 : decode cX2_measureFar 84 = .ok (.iload_n 3, 1) := by decide +kernel
theorem dX2_measureFar_85 : decode cX2_measureFar 85 = .ok (.iaload, 1) := by decide +kernel
theorem dX2_measureFar_86 : decode cX2_measureFar 86 = .ok (.iaload, 1) := by decide +kernel
theorem dX2_measureFar_87 : decode cX2_measureFar 87 = .ok (.aload_n 0, 1) := by decide +kernel
theorem dX2_measureFar_88 : decode cX2_measureFar 88 = .ok (.getfield 27, 3) := by decide +kernel
theorem dX2_measureFar_91 : decode cX2_measureFar 91 = .ok (.aload_n 1, 1) := by decide +kernel
theorem dX2_measureFar_92 : decode cX2_measureFar 92 = .ok (.getfield 110, 3) := by decide +kernel
theorem dX2_measureFar_95 : decode cX2_measureFar 95 = .ok (.iload_n 3, 1) := by decide +kernel
theorem dX2_measureFar_96 : decode cX2_measureFar 96 = .ok (.iaload, 1) := by decide +kernel
theorem dX2_measureFar_97 : decode cX2_measureFar 97 = .ok (.iaload, 1) := by decide +kernel
theorem dX2_measureFar_98 : decode cX2_measureFar 98 = .ok (.iconst 1, 1) := by decide +kernel
theorem dX2_measureFar_99 : decode cX2_measureFar 99 = .ok (.iadd, 1) := by decide +kernel
theorem dX2_measureFar_100 : decode cX2_measureFar 100 = .ok (.invokestatic 37, 3) := by decide +kernel
theorem dX2_measureFar_103 : decode cX2_measureFar 103 = .ok (.iastore, 1) := by decide +kernel
theorem dX2_measureFar_104 : decode cX2_measureFar 104 = .ok (.iinc 3 1, 3) := by decide +kernel
theorem dX2_measureFar_107 : decode cX2_measureFar 107 = .ok (.goto (-61), 3) := by decide +kernel
theorem dX2_measureFar_110 : decode cX2_measureFar 110 = .ok (.iinc 2 1, 3) := by decide +kernel
theorem dX2_measureFar_113 : decode cX2_measureFar 113 = .ok (.goto (-75), 3) := by decide +kernel
theorem dX2_measureFar_116 : decode cX2_measureFar 116 = .ok (.return_, 1) := by decide +kernel
theorem dX2_layChain_0 : decode cX2_layChain 0 = .ok (.sipush 1000, 3) := by decide +kernel
theorem dX2_layChain_3 : decode cX2_layChain 3 = .ok (.istore_n 2, 1) := by decide +kernel
theorem dX2_layChain_4 : decode cX2_layChain 4 = .ok (.iconst 0, 1) := by decide +kernel
theorem dX2_layChain_5 : decode cX2_layChain 5 = .ok (.istore_n 3, 1) := by decide +kernel
theorem dX2_layChain_6 : decode cX2_layChain 6 = .ok (.iload_n 3, 1) := by decide +kernel
theorem dX2_layChain_7 : decode cX2_layChain 7 = .ok (.aload_n 1, 1) := by decide +kernel
theorem dX2_layChain_8 : decode cX2_layChain 8 = .ok (.getfield 43, 3) := by decide +kernel
theorem dX2_layChain_11 : decode cX2_layChain 11 = .ok (.getfield 49, 3) := by decide +kernel
theorem dX2_layChain_14 : decode cX2_layChain 14 = .ok (.if_icmp .ge 50, 3) := by decide +kernel
theorem dX2_layChain_17 : decode cX2_layChain 17 = .ok (.aload_n 1, 1) := by decide +kernel
theorem dX2_layChain_18 : decode cX2_layChain 18 = .ok (.getfield 110, 3) := by decide +kernel
theorem dX2_layChain_21 : decode cX2_layChain 21 = .ok (.iload_n 3, 1) := by decide +kernel
theorem dX2_layChain_22 : decode cX2_layChain 22 = .ok (.iaload, 1) := by decide +kernel
theorem dX2_layChain_23 : decode cX2_layChain 23 = .ok (.ifCond .eq 35, 3) := by decide +kernel
theorem dX2_layChain_26 : decode cX2_layChain 26 = .ok (.aload_n 0, 1) := by decide +kernel
theorem dX2_layChain_27 : decode cX2_layChain 27 = .ok (.getfield 24, 3) := by decide +kernel
theorem dX2_layChain_30 : decode cX2_layChain 30 = .ok (.aload_n 1, 1) := by decide +kernel
theorem dX2_layChain_31 : decode cX2_layChain 31 = .ok (.getfield 113, 3) := by decide +kernel
theorem dX2_layChain_34 : decode cX2_layChain 34 = .ok (.iload_n 3, 1) := by decide +kernel
theorem dX2_layChain_35 : decode cX2_layChain 35 = .ok (.iaload, 1) := by decide +kernel
theorem dX2_layChain_36 : decode cX2_layChain 36 = .ok (.iaload, 1) := by decide +kernel
theorem dX2_layChain_37 : decode cX2_layChain 37 = .ok (.ifCond .le 21, 3) := by decide +kernel
theorem dX2_layChain_40 : decode cX2_layChain 40 = .ok (.iload_n 2, 1) := by decide +kernel
theorem dX2_layChain_41 : decode cX2_layChain 41 = .ok (.aload_n 0, 1) := by decide +kernel
theorem dX2_layChain_42 : decode cX2_layChain 42 = .ok (.getfield 27, 3) := by decide +kernel
theorem dX2_layChain_45 : decode cX2_layChain 45 = .ok (.aload_n 1, 1) := by decide +kernel
theorem dX2_layChain_46 : decode cX2_layChain 46 = .ok (.getfield 110, 3) := by decide +kernel
theorem dX2_layChain_49 : decode cX2_layChain 49 = .ok (.iload_n 3, 1) := by decide +kernel
theorem dX2_layChain_50 : decode cX2_layChain 50 = .ok (.iaload, 1) := by decide +kernel
theorem dX2_layChain_51 : decode cX2_layChain 51 = .ok (.iaload, 1) := by decide +kernel
theorem dX2_layChain_52 : decode cX2_layChain 52 = .ok (.iconst 1, 1) := by decide +kernel
theorem dX2_layChain_53 : decode cX2_layChain 53 = .ok (.iadd, 1) := by decide +kernel
theorem dX2_layChain_54 : decode cX2_layChain 54 = .ok (.invokestatic 37, 3) := by decide +kernel
theorem dX2_layChain_57 : decode cX2_layChain 57 = .ok (.istore_n 2, 1) := by decide +kernel
theorem dX2_layChain_58 : decode cX2_layChain 58 = .ok (.iinc 3 1, 3) := by decide +kernel
theorem dX2_layChain_61 : decode cX2_layChain 61 = .ok (.goto (-55), 3) := by decide +kernel
theorem dX2_layChain_64 : decode cX2_layChain 64 = .ok (.iload_n 2, 1) := by decide +kernel
theorem dX2_layChain_65 : decode cX2_layChain 65 = .ok (.sipush 1000, 3) := by decide +kernel
theorem dX2_layChain_68 : decode cX2_layChain 68 = .ok (.if_icmp .lt 4, 3) := by decide +kernel
theorem dX2_layChain_71 : decode cX2_layChain 71 = .ok (.return_, 1) := by decide +kernel
theorem dX2_layChain_72 : decode cX2_layChain 72 = .ok (.aload_n 0, 1) := by decide +kernel
theorem dX2_layChain_73 : decode cX2_layChain 73 = .ok (.aload_n 1, 1) := by decide +kernel
theorem dX2_layChain_74 : decode cX2_layChain 74 = .ok (.iload_n 2, 1) := by decide +kernel
theorem dX2_layChain_75 : decode cX2_layChain 75 = .ok (.invokevirtual 116, 3) := by decide +kernel
theorem dX2_layChain_78 : decode cX2_layChain 78 = .ok (.istore_n 3, 1) := by decide +kernel
theorem dX2_layChain_79 : decode cX2_layChain 79 = .ok (.aload_n 0, 1) := by decide +kernel
theorem dX2_layChain_80 : decode cX2_layChain 80 = .ok (.getfield 30, 3) := by decide +kernel
theorem dX2_layChain_83 : decode cX2_layChain 83 = .ok (.iload_n 3, 1) := by decide +kernel
theorem dX2_layChain_84 : decode cX2_layChain 84 = .ok (.invokevirtual 78, 3) := by decide +kernel
theorem dX2_layChain_87 : decode cX2_layChain 87 = .ok (.pop, 1) := by decide +kernel
theorem dX2_layChain_88 : decode cX2_layChain 88 = .ok (.iload_n 2, 1) := by decide +kernel
theorem dX2_layChain_89 : decode cX2_layChain 89 = .ok (.bipush 12, 2) := by decide +kernel
theorem dX2_layChain_91 : decode cX2_layChain 91 = .ok (.invokestatic 37, 3) := by decide +kernel
theorem dX2_layChain_94 : decode cX2_layChain 94 = .ok (.iconst 1, 1) := by decide +kernel
theorem dX2_layChain_95 : decode cX2_layChain 95 = .ok (.isub, 1) := by decide +kernel
theorem dX2_layChain_96 : decode cX2_layChain 96 = .ok (.istore 4, 2) := by decide +kernel
theorem dX2_layChain_98 : decode cX2_layChain 98 = .ok (.iload 4, 2) := by decide +kernel
theorem dX2_layChain_100 : decode cX2_layChain 100 = .ok (.ifCond .lt 27, 3) := by decide +kernel
theorem dX2_layChain_103 : decode cX2_layChain 103 = .ok (.aload_n 0, 1) := by decide +kernel
theorem dX2_layChain_104 : decode cX2_layChain 104 = .ok (.aload_n 1, 1) := by decide +kernel
theorem dX2_layChain_105 : decode cX2_layChain 105 = .ok (.iload_n 3, 1) := by decide +kernel
theorem dX2_layChain_106 : decode cX2_layChain 106 = .ok (.iload 4, 2) := by decide +kernel
theorem dX2_layChain_108 : decode cX2_layChain 108 = .ok (.invokevirtual 119, 3) := by decide +kernel
theorem dX2_layChain_111 : decode cX2_layChain 111 = .ok (.istore_n 3, 1) := by decide +kernel
theorem dX2_layChain_112 : decode cX2_layChain 112 = .ok (.aload_n 0, 1) := by decide +kernel
theorem dX2_layChain_113 : decode cX2_layChain 113 = .ok (.getfield 30, 3) := by decide +kernel
theorem dX2_layChain_116 : decode cX2_layChain 116 = .ok (.iload_n 3, 1) := by decide +kernel
theorem dX2_layChain_117 : decode cX2_layChain 117 = .ok (.invokevirtual 78, 3) := by decide +kernel
theorem dX2_layChain_120 : decode cX2_layChain 120 = .ok (.pop, 1) := by decide +kernel
theorem dX2_layChain_121 : decode cX2_layChain 121 = .ok (.iinc 4 (-1), 3) := by decide +kernel
theorem dX2_layChain_124 : decode cX2_layChain 124 = .ok (.goto (-26), 3) := by decide +kernel
theorem dX2_layChain_127 : decode cX2_layChain 127 = .ok (.return_, 1) := by decide +kernel
theorem dX2_leastStart_0 : decode cX2_leastStart 0 = .ok (.bipush 64, 2) := by decide +kernel
theorem dX2_leastStart_2 : decode cX2_leastStart 2 = .ok (.istore_n 3, 1) := by decide +kernel
theorem dX2_leastStart_3 : decode cX2_leastStart 3 = .ok (.iconst 0, 1) := by decide +kernel
theorem dX2_leastStart_4 : decode cX2_leastStart 4 = .ok (.istore 4, 2) := by decide +kernel
theorem dX2_leastStart_6 : decode cX2_leastStart 6 = .ok (.iload 4, 2) := by decide +kernel
theorem dX2_leastStart_8 : decode cX2_leastStart 8 = .ok (.aload_n 1, 1) := by decide +kernel
theorem dX2_leastStart_9 : decode cX2_leastStart 9 = .ok (.getfield 43, 3) := by decide +kernel
theorem dX2_leastStart_12 : decode cX2_leastStart 12 = .ok (.getfield 49, 3) := by decide +kernel
theorem dX2_leastStart_15 : decode cX2_leastStart 15 = .ok (.if_icmp .ge 63, 3) := by decide +kernel
theorem dX2_leastStart_18 : decode cX2_leastStart 18 = .ok (.aload_n 1, 1) := by decide +kernel
theorem dX2_leastStart_19 : decode cX2_leastStart 19 = .ok (.getfield 113, 3) := by decide +kernel
theorem dX2_leastStart_22 : decode cX2_leastStart 22 = .ok (.iload 4, 2) := by decide +kernel
theorem dX2_leastStart_24 : decode cX2_leastStart 24 = .ok (.iaload, 1) := by decide +kernel
theorem dX2_leastStart_25 : decode cX2_leastStart 25 = .ok (.istore 5, 2) := by decide +kernel
theorem dX2_leastStart_27 : decode cX2_leastStart 27 = .ok (.aload_n 1, 1) := by decide +kernel
theorem dX2_leastStart_28 : decode cX2_leastStart 28 = .ok (.getfield 110, 3) := by decide +kernel
theorem dX2_leastStart_31 : decode cX2_leastStart 31 = .ok (.iload 4, 2) := by decide +kernel
theorem dX2_leastStart_33 : decode cX2_leastStart 33 = .ok (.iaload, 1) := by decide +kernel
theorem dX2_leastStart_34 : decode cX2_leastStart 34 = .ok (.ifCond .eq 38, 3) := by decide +kernel
theorem dX2_leastStart_37 : decode cX2_leastStart 37 = .ok (.aload_n 0, 1) := by decide +kernel
theorem dX2_leastStart_38 : decode cX2_leastStart 38 = .ok (.getfield 24, 3) := by decide +kernel
theorem dX2_leastStart_41 : decode cX2_leastStart 41 = .ok (.iload 5, 2) := by decide +kernel
theorem dX2_leastStart_43 : decode cX2_leastStart 43 = .ok (.iaload, 1) := by decide +kernel
theorem dX2_leastStart_44 : decode cX2_leastStart 44 = .ok (.ifCond .le 28, 3) := by decide +kernel
theorem dX2_leastStart_47 : decode cX2_leastStart 47 = .ok (.aload_n 0, 1) := by decide +kernel
theorem dX2_leastStart_48 : decode cX2_leastStart 48 = .ok (.getfield 27, 3) := by decide +kernel
theorem dX2_leastStart_51 : decode cX2_leastStart 51 = .ok (.aload_n 1, 1) := by decide +kernel
theorem dX2_leastStart_52 : decode cX2_leastStart 52 = .ok (.getfield 110, 3) := by decide +kernel
theorem dX2_leastStart_55 : decode cX2_leastStart 55 = .ok (.iload 4, 2) := by decide +kernel
theorem dX2_leastStart_57 : decode cX2_leastStart 57 = .ok (.iaload, 1) := by decide +kernel
theorem dX2_leastStart_58 : decode cX2_leastStart 58 = .ok (.iaload, 1) := by decide +kernel
theorem dX2_leastStart_59 : decode cX2_leastStart 59 = .ok (.iconst 1, 1) := by decide +kernel
theorem dX2_leastStart_60 : decode cX2_leastStart 60 = .ok (.iadd, 1) := by decide +kernel
theorem dX2_leastStart_61 : decode cX2_leastStart 61 = .ok (.iload_n 2, 1) := by decide +kernel
theorem dX2_leastStart_62 : decode cX2_leastStart 62 = .ok (.if_icmp .ne 10, 3) := by decide +kernel
theorem dX2_leastStart_65 : decode cX2_leastStart 65 = .ok (.iload_n 3, 1) := by decide +kernel
theorem dX2_leastStart_66 : decode cX2_leastStart 66 = .ok (.iload 5, 2) := by decide +kernel
theorem dX2_leastStart_68 : decode cX2_leastStart 68 = .ok (.invokestatic 37, 3) := by decide +kernel
theorem dX2_leastStart_71 : decode cX2_leastStart 71 = .ok (.istore_n 3, 1) := by decide +kernel
theorem dX2_leastStart_72 : decode cX2_leastStart 72 = .ok (.iinc 4 1, 3) := by decide +kernel
theorem dX2_leastStart_75 : decode cX2_leastStart 75 = .ok (.goto (-69), 3) := by decide +kernel
theorem dX2_leastStart_78 : decode cX2_leastStart 78 = .ok (.iload_n 3, 1) := by decide +kernel
theorem dX2_leastStart_79 : decode cX2_leastStart 79 = .ok (.ireturn, 1) := by decide +kernel
theorem dX2_leastNext_0 : decode cX2_leastNext 0 = .ok (.bipush 64, 2) := by decide +kernel
theorem dX2_leastNext_2 : decode cX2_leastNext 2 = .ok (.istore 4, 2) := by decide +kernel
theorem dX2_leastNext_4 : decode cX2_leastNext 4 = .ok (.iconst 0, 1) := by decide +kernel
theorem dX2_leastNext_5 : decode cX2_leastNext 5 = .ok (.istore 5, 2) := by decide +kernel
theorem dX2_leastNext_7 : decode cX2_leastNext 7 = .ok (.iload 5, 2) := by decide +kernel
theorem dX2_leastNext_9 : decode cX2_leastNext 9 = .ok (.aload_n 1, 1) := by decide +kernel
theorem dX2_leastNext_10 : decode cX2_leastNext 10 = .ok (.getfield 43, 3) := by decide +kernel
theorem dX2_leastNext_13 : decode cX2_leastNext 13 = .ok (.getfield 49, 3) := by decide +kernel
theorem dX2_leastNext_16 : decode cX2_leastNext 16 = .ok (.if_icmp .ge 54, 3) := by decide +kernel
theorem dX2_leastNext_19 : decode cX2_leastNext 19 = .ok (.aload_n 1, 1) := by decide +kernel
theorem dX2_leastNext_20 : decode cX2_leastNext 20 = .ok (.getfield 110, 3) := by decide +kernel
theorem dX2_leastNext_23 : decode cX2_leastNext 23 = .ok (.iload 5, 2) := by decide +kernel
theorem dX2_leastNext_25 : decode cX2_leastNext 25 = .ok (.iaload, 1) := by decide +kernel
theorem dX2_leastNext_26 : decode cX2_leastNext 26 = .ok (.istore 6, 2) := by decide +kernel
theorem dX2_leastNext_28 : decode cX2_leastNext 28 = .ok (.iload 6, 2) := by decide +kernel
theorem dX2_leastNext_30 : decode cX2_leastNext 30 = .ok (.ifCond .eq 34, 3) := by decide +kernel
theorem dX2_leastNext_33 : decode cX2_leastNext 33 = .ok (.aload_n 1, 1) := by decide +kernel
theorem dX2_leastNext_34 : decode cX2_leastNext 34 = .ok (.getfield 113, 3) := by decide +kernel
theorem dX2_leastNext_37 : decode cX2_leastNext 37 = .ok (.iload 5, 2) := by decide +kernel
theorem dX2_leastNext_39 : decode cX2_leastNext 39 = .ok (.iaload, 1) := by decide +kernel
theorem dX2_leastNext_40 : decode cX2_leastNext 40 = .ok (.iload_n 2, 1) := by decide +kernel
theorem dX2_leastNext_41 : decode cX2_leastNext 41 = .ok (.if_icmp .ne 23, 3) := by decide +kernel
theorem dX2_leastNext_44 : decode cX2_leastNext 44 = .ok (.aload_n 0, 1) := by decide +kernel
theorem dX2_leastNext_45 : decode cX2_leastNext 45 = .ok (.getfield 27, 3) := by decide +kernel
theorem dX2_leastNext_48 : decode cX2_leastNext 48 = .ok (.iload 6, 2) := by decide +kernel
theorem dX2_leastNext_50 : decode cX2_leastNext 50 = .ok (.iaload, 1) := by decide +kernel
theorem dX2_leastNext_51 : decode cX2_leastNext 51 = .ok (.iload_n 3, 1) := by decide +kernel
theorem dX2_leastNext_52 : decode cX2_leastNext 52 = .ok (.if_icmp .ne 12, 3) := by decide +kernel
theorem dX2_leastNext_55 : decode cX2_leastNext 55 = .ok (.iload 4, 2) := by decide +kernel
theorem dX2_leastNext_57 : decode cX2_leastNext 57 = .ok (.iload 6, 2) := by decide +kernel
theorem dX2_leastNext_59 : decode cX2_leastNext 59 = .ok (.invokestatic 37, 3) := by decide +kernel
theorem dX2_leastNext_62 : decode cX2_leastNext 62 = .ok (.istore 4, 2) := by decide +kernel
theorem dX2_leastNext_64 : decode cX2_leastNext 64 = .ok (.iinc 5 1, 3) := by decide +kernel
theorem dX2_leastNext_67 : decode cX2_leastNext 67 = .ok (.goto (-60), 3) := by decide +kernel
theorem dX2_leastNext_70 : decode cX2_leastNext 70 = .ok (.iload 4, 2) := by decide +kernel
theorem dX2_leastNext_72 : decode cX2_leastNext 72 = .ok (.ireturn, 1) := by decide +kernel
theorem dX2_leastSharedPair_0 : decode cX2_leastSharedPair 0 = .ok (.sipush 4096, 3) := by decide +kernel
theorem dX2_leastSharedPair_3 : decode cX2_leastSharedPair 3 = .ok (.istore_n 1, 1) := by decide +kernel
theorem dX2_leastSharedPair_4 : decode cX2_leastSharedPair 4 = .ok (.iconst 0, 1) := by decide +kernel
theorem dX2_leastSharedPair_5 : decode cX2_leastSharedPair 5 = .ok (.istore_n 2, 1) := by decide +kernel
theorem dX2_leastSharedPair_6 : decode cX2_leastSharedPair 6 = .ok (.iload_n 2, 1) := by decide +kernel
theorem dX2_leastSharedPair_7 : decode cX2_leastSharedPair 7 = .ok (.aload_n 0, 1) := by decide +kernel
theorem dX2_leastSharedPair_8 : decode cX2_leastSharedPair 8 = .ok (.getfield 43, 3) := by decide +kernel
theorem dX2_leastSharedPair_11 : decode cX2_leastSharedPair 11 = .ok (.getfield 49, 3) := by decide +kernel
theorem dX2_leastSharedPair_14 : decode cX2_leastSharedPair 14 = .ok (.if_icmp .ge 94, 3) := by decide +kernel
theorem dX2_leastSharedPair_17 : decode cX2_leastSharedPair 17 = .ok (.iconst 0, 1) := by decide +kernel
theorem dX2_leastSharedPair_18 : decode cX2_leastSharedPair 18 = .ok (.istore_n 3, 1) := by decide +kernel
theorem dX2_leastSharedPair_19 : decode cX2_leastSharedPair 19 = .ok (.iload_n 3, 1) := by decide +kernel
theorem dX2_leastSharedPair_20 : decode cX2_leastSharedPair 20 = .ok (.iload_n 2, 1) := by decide +kernel
theorem dX2_leastSharedPair_21 : decode cX2_leastSharedPair 21 = .ok (.if_icmp .ge 81, 3) := by decide +kernel
theorem dX2_leastSharedPair_24 : decode cX2_leastSharedPair 24 = .ok (.aload_n 0, 1) := by decide +kernel
theorem dX2_leastSharedPair_25 : decode cX2_leastSharedPair 25 = .ok (.getfield 113, 3) := by decide +kernel
theorem dX2_leastSharedPair_28 : decode cX2_leastSharedPair 28 = .ok (.iload_n 2, 1) := by decide +kernel
theorem dX2_leastSharedPair_29 : decode cX2_leastSharedPair 29 = .ok (.iaload, 1) := by decide +kernel
theorem dX2_leastSharedPair_30 : decode cX2_leastSharedPair 30 = .ok (.aload_n 0, 1) := by decide +kernel
theorem dX2_leastSharedPair_31 : decode cX2_leastSharedPair 31 = .ok (.getfield 113, 3) := by decide +kernel
theorem dX2_leastSharedPair_34 : decode cX2_leastSharedPair 34 = .ok (.iload_n 3, 1) := by decide +kernel
theorem dX2_leastSharedPair_35 : decode cX2_leastSharedPair 35 = .ok (.iaload, 1) := by decide +kernel
theorem dX2_leastSharedPair_36 : decode cX2_leastSharedPair 36 = .ok (.if_icmp .ne 22, 3) := by decide +kernel
theorem dX2_leastSharedPair_39 : decode cX2_leastSharedPair 39 = .ok (.aload_n 0, 1) := by decide +kernel
theorem dX2_leastSharedPair_40 : decode cX2_leastSharedPair 40 = .ok (.getfield 110, 3) := by decide +kernel
theorem dX2_leastSharedPair_43 : decode cX2_leastSharedPair 43 = .ok (.iload_n 2, 1) := by decide +kernel
theorem dX2_leastSharedPair_44 : decode cX2_leastSharedPair 44 = .ok (.iaload, 1) := by decide +kernel
theorem dX2_leastSharedPair_45 : decode cX2_leastSharedPair 45 = .ok (.aload_n 0, 1) := by decide +kernel
theorem dX2_leastSharedPair_46 : decode cX2_leastSharedPair 46 = .ok (.getfield 110, 3) := by decide +kernel
theorem dX2_leastSharedPair_49 : decode cX2_leastSharedPair 49 = .ok (.iload_n 3, 1) := by decide +kernel
theorem dX2_leastSharedPair_50 : decode cX2_leastSharedPair 50 = .ok (.iaload, 1) := by decide +kernel
theorem dX2_leastSharedPair_51 : decode cX2_leastSharedPair 51 = .ok (.if_icmp .ne 7, 3) := by decide +kernel
theorem dX2_leastSharedPair_54 : decode cX2_leastSharedPair 54 = .ok (.iconst 1, 1) := by decide +kernel
theorem dX2_leastSharedPair_55 : decode cX2_leastSharedPair 55 = .ok (.goto 4, 3) := by decide +kernel
theorem dX2_leastSharedPair_58 : decode cX2_leastSharedPair 58 = .ok (.iconst 0, 1) := by decide +kernel
theorem dX2_leastSharedPair_59 : decode cX2_leastSharedPair 59 = .ok (.istore 4, 2) := by decide +kernel
theorem dX2_leastSharedPair_61 : decode cX2_leastSharedPair 61 = .ok (.iload 4, 2) := by decide +kernel
theorem dX2_leastSharedPair_63 : decode cX2_leastSharedPair 63 = .ok (.ifCond .eq 33, 3) := by decide +kernel
theorem dX2_leastSharedPair_66 : decode cX2_leastSharedPair 66 = .ok (.aload_n 0, 1) := by decide +kernel
theorem dX2_leastSharedPair_67 : decode cX2_leastSharedPair 67 = .ok (.getfield 110, 3) := by decide +kernel
theorem dX2_leastSharedPair_70 : decode cX2_leastSharedPair 70 = .ok (.iload_n 2, 1) := by decide +kernel
theorem dX2_leastSharedPair_71 : decode cX2_leastSharedPair 71 = .ok (.iaload, 1) := by decide +kernel
theorem dX2_leastSharedPair_72 : decode cX2_leastSharedPair 72 = .ok (.ifCond .eq 24, 3) := by decide +kernel
theorem dX2_leastSharedPair_75 : decode cX2_leastSharedPair 75 = .ok (.iload_n 1, 1) := by decide +kernel
theorem dX2_leastSharedPair_76 : decode cX2_leastSharedPair 76 = .ok (.aload_n 0, 1) := by decide +kernel
theorem dX2_leastSharedPair_77 : decode cX2_leastSharedPair 77 = .ok (.getfield 113, 3) := by decide +kernel
theorem dX2_leastSharedPair_80 : decode cX2_leastSharedPair 80 = .ok (.iload_n 2, 1) := by decide +kernel
theorem dX2_leastSharedPair_81 : decode cX2_leastSharedPair 81 = .ok (.iaload, 1) := by decide +kernel
theorem dX2_leastSharedPair_82 : decode cX2_leastSharedPair 82 = .ok (.bipush 64, 2) := by decide +kernel
theorem dX2_leastSharedPair_84 : decode cX2_leastSharedPair 84 = .ok (.imul, 1) := by decide +kernel
theorem dX2_leastSharedPair_85 : decode cX2_leastSharedPair 85 = .ok (.aload_n 0, 1) := by decide +kernel
theorem dX2_leastSharedPair_86 : decode cX2_leastSharedPair 86 = .ok (.getfield 110, 3) := by decide +kernel
theorem dX2_leastSharedPair_89 : decode cX2_leastSharedPair 89 = .ok (.iload_n 2, 1) := by decide +kernel
theorem dX2_leastSharedPair_90 : decode cX2_leastSharedPair 90 = .ok (.iaload, 1) := by decide +kernel
theorem dX2_leastSharedPair_91 : decode cX2_leastSharedPair 91 = .ok (.iadd, 1) := by decide +kernel
theorem dX2_leastSharedPair_92 : decode cX2_leastSharedPair 92 = .ok (.invokestatic 37, 3) := by decide +kernel
theorem dX2_leastSharedPair_95 : decode cX2_leastSharedPair 95 = .ok (.istore_n 1, 1) := by decide +kernel
theorem dX2_leastSharedPair_96 : decode cX2_leastSharedPair 96 = .ok (.iinc 3 1, 3) := by decide +kernel
theorem dX2_leastSharedPair_99 : decode cX2_leastSharedPair 99 = .ok (.goto (-80), 3) := by decide +kernel
theorem dX2_leastSharedPair_102 : decode cX2_leastSharedPair 102 = .ok (.iinc 2 1, 3) := by decide +kernel
theorem dX2_leastSharedPair_105 : decode cX2_leastSharedPair 105 = .ok (.goto (-99), 3) := by decide +kernel
theorem dX2_leastSharedPair_108 : decode cX2_leastSharedPair 108 = .ok (.iload_n 1, 1) := by decide +kernel
theorem dX2_leastSharedPair_109 : decode cX2_leastSharedPair 109 = .ok (.ireturn, 1) := by decide +kernel
theorem dX3_init_0 : decode cX3_init 0 = .ok (.aload_n 0, 1) := by decide +kernel
theorem dX3_init_1 : decode cX3_init 1 = .ok (.invokespecial 3, 3) := by decide +kernel
theorem dX3_init_4 : decode cX3_init 4 = .ok (.aload_n 0, 1) := by decide +kernel
theorem dX3_init_5 : decode cX3_init 5 = .ok (.bipush 8, 2) := by decide +kernel
theorem dX3_init_7 : decode cX3_init 7 = .ok (.newarray .int, 2) := by decide +kernel
theorem dX3_init_9 : decode cX3_init 9 = .ok (.putfield 9, 3) := by decide +kernel
theorem dX3_init_12 : decode cX3_init 12 = .ok (.aload_n 0, 1) := by decide +kernel
theorem dX3_init_13 : decode cX3_init 13 = .ok (.bipush 8, 2) := by decide +kernel
theorem dX3_init_15 : decode cX3_init 15 = .ok (.newarray .int, 2) := by decide +kernel
theorem dX3_init_17 : decode cX3_init 17 = .ok (.putfield 15, 3) := by decide +kernel
theorem dX3_init_20 : decode cX3_init 20 = .ok (.return_, 1) := by decide +kernel
theorem dX3_clear_0 : decode cX3_clear 0 = .ok (.aload_n 0, 1) := by decide +kernel
theorem dX3_clear_1 : decode cX3_clear 1 = .ok (.iconst 0, 1) := by decide +kernel
theorem dX3_clear_2 : decode cX3_clear 2 = .ok (.putfield 18, 3) := by decide +kernel
theorem dX3_clear_5 : decode cX3_clear 5 = .ok (.aload_n 0, 1) := by decide +kernel
theorem dX3_clear_6 : decode cX3_clear 6 = .ok (.bipush (-6), 2) := by decide +kernel
theorem dX3_clear_8 : decode cX3_clear 8 = .ok (.putfield 22, 3) := by decide +kernel
theorem dX3_clear_11 : decode cX3_clear 11 = .ok (.aload_n 0, 1) := by decide +kernel
theorem dX3_clear_12 : decode cX3_clear 12 = .ok (.iconst 0, 1) := by decide +kernel
theorem dX3_clear_13 : decode cX3_clear 13 = .ok (.putfield 25, 3) := by decide +kernel
theorem dX3_clear_16 : decode cX3_clear 16 = .ok (.aload_n 0, 1) := by decide +kernel
theorem dX3_clear_17 : decode cX3_clear 17 = .ok (.iconst 0, 1) := by decide +kernel
theorem dX3_clear_18 : decode cX3_clear 18 = .ok (.putfield 28, 3) := by decide +kernel
theorem dX3_clear_21 : decode cX3_clear 21 = .ok (.return_, 1) := by decide +kernel
theorem dX3_weigh_0 : decode cX3_weigh 0 = .ok (.aload_n 0, 1) := by decide +kernel
theorem dX3_weigh_1 : decode cX3_weigh 1 = .ok (.iload_n 2, 1) := by decide +kernel
theorem dX3_weigh_2 : decode cX3_weigh 2 = .ok (.invokevirtual 31, 3) := by decide +kernel
theorem dX3_weigh_5 : decode cX3_weigh 5 = .ok (.istore_n 3, 1) := by decide +kernel
theorem dX3_weigh_6 : decode cX3_weigh 6 = .ok (.iconst 1, 1) := by decide +kernel
theorem dX3_weigh_7 : decode cX3_weigh 7 = .ok (.istore 4, 2) := by decide +kernel
theorem dX3_weigh_9 : decode cX3_weigh 9 = .ok (.iload 4, 2) := by decide +kernel
theorem dX3_weigh_11 : decode cX3_weigh 11 = .ok (.sipush 256, 3) := by decide +kernel
theorem dX3_weigh_14 : decode cX3_weigh 14 = .ok (.if_icmp .ge 26, 3) := by decide +kernel
theorem dX3_weigh_17 : decode cX3_weigh 17 = .ok (.iload 4, 2) := by decide +kernel
theorem dX3_weigh_19 : decode cX3_weigh 19 = .ok (.iload_n 3, 1) := by decide +kernel
theorem dX3_weigh_20 : decode cX3_weigh 20 = .ok (.iconst (-1), 1) := by decide +kernel
theorem dX3_weigh_21 : decode cX3_weigh 21 = .ok (.ixor, 1) := by decide +kernel
theorem dX3_weigh_22 : decode cX3_weigh 22 = .ok (.iand, 1) := by decide +kernel
theorem dX3_weigh_23 : decode cX3_weigh 23 = .ok (.ifCond .ne 11, 3) := by decide +kernel
theorem dX3_weigh_26 : decode cX3_weigh 26 = .ok (.aload_n 0, 1) := by decide +kernel
theorem dX3_weigh_27 : decode cX3_weigh 27 = .ok (.iload_n 1, 1) := by decide +kernel
theorem dX3_weigh_28 : decode cX3_weigh 28 = .ok (.iload_n 2, 1) := by decide +kernel
theorem dX3_weigh_29 : decode cX3_weigh 29 = .ok (.iload 4, 2) := by decide +kernel
theorem dX3_weigh_31 : decode cX3_weigh 31 = .ok (.invokevirtual 35, 3) := by decide +kernel
theorem dX3_weigh_34 : decode cX3_weigh 34 = .ok (.iinc 4 1, 3) := by decide +kernel
theorem dX3_weigh_37 : decode cX3_weigh 37 = .ok (.goto (-28), 3) := by decide +kernel
theorem dX3_weigh_40 : decode cX3_weigh 40 = .ok (.return_, 1) := by decide +kernel
theorem dX3_affordableBooks_0 : decode cX3_affordableBooks 0 = .ok (.iconst 0, 1) := by decide +kernel
theorem dX3_affordableBooks_1 : decode cX3_affordableBooks 1 = .ok (.istore_n 2, 1) := by decide +kernel
theorem dX3_affordableBooks_2 : decode cX3_affordableBooks 2 = .ok (.iconst 0, 1) := by decide +kernel
theorem dX3_affordableBooks_3 : decode cX3_affordableBooks 3 = .ok (.istore_n 3, 1) := by decide +kernel
theorem dX3_affordableBooks_4 : decode cX3_affordableBooks 4 = .ok (.iload_n 3, 1) := by decide +kernel
theorem dX3_affordableBooks_5 : decode cX3_affordableBooks 5 = .ok (.bipush 8, 2) := by decide +kernel
theorem dX3_affordableBooks_7 : decode cX3_affordableBooks 7 = .ok (.if_icmp .ge 29, 3) := by decide +kernel
theorem dX3_affordableBooks_10 : decode cX3_affordableBooks 10 = .ok (.iload_n 2, 1) := by decide +kernel
theorem dX3_affordableBooks_11 : decode cX3_affordableBooks 11 = .ok (.aload_n 0, 1) := by decide +kernel
theorem dX3_affordableBooks_12 : decode cX3_affordableBooks 12 = .ok (.getfield 15, 3) := by decide +kernel
theorem dX3_affordableBooks_15 : decode cX3_affordableBooks 15 = .ok (.iload_n 3, 1) := by decide +kernel
theorem dX3_affordableBooks_16 : decode cX3_affordableBooks 16 = .ok (.iaload, 1) := by decide +kernel
theorem dX3_affordableBooks_17 : decode cX3_affordableBooks 17 = .ok (.iload_n 1, 1) := by decide +kernel
theorem dX3_affordableBooks_18 : decode cX3_affordableBooks 18 = .ok (.if_icmp .gt 9, 3) := by decide +kernel
theorem dX3_affordableBooks_21 : decode cX3_affordableBooks 21 = .ok (.iconst 1, 1) := by decide +kernel
theorem dX3_affordableBooks_22 : decode cX3_affordableBooks 22 = .ok (.iload_n 3, 1) := by decide +kernel
theorem dX3_affordableBooks_23 : decode cX3_affordableBooks 23 = .ok (.ishl, 1) := by decide +kernel
theorem dX3_affordableBooks_24 : decode cX3_affordableBooks 24 = .ok (.goto 4, 3) := by decide +kernel
theorem dX3_affordableBooks_27 : decode cX3_affordableBooks 27 = .ok (.iconst 0, 1) := by decide +kernel
theorem dX3_affordableBooks_28 : decode cX3_affordableBooks 28 = .ok (.ior, 1) := by decide +kernel
theorem dX3_affordableBooks_29 : decode cX3_affordableBooks 29 = .ok (.istore_n 2, 1) := by decide +kernel
theorem dX3_affordableBooks_30 : decode cX3_affordableBooks 30 = .ok (.iinc 3 1, 3) := by decide +kernel
theorem dX3_affordableBooks_33 : decode cX3_affordableBooks 33 = .ok (.goto (-29), 3) := by decide +kernel
theorem dX3_affordableBooks_36 : decode cX3_affordableBooks 36 = .ok (.iload_n 2, 1) := by decide +kernel
theorem dX3_affordableBooks_37 : decode cX3_affordableBooks 37 = .ok (.ireturn, 1) := by decide +kernel
theorem dX3_weighSet_0 : decode cX3_weighSet 0 = .ok (.iconst 0, 1) := by decide +kernel
theorem dX3_weighSet_1 : decode cX3_weighSet 1 = .ok (.istore 4, 2) := by decide +kernel
theorem dX3_weighSet_3 : decode cX3_weighSet 3 = .ok (.iconst 0, 1) := by decide +kernel
theorem dX3_weighSet_4 : decode cX3_weighSet 4 = .ok (.istore 5, 2) := by decide +kernel
theorem dX3_weighSet_6 : decode cX3_weighSet 6 = .ok (.iconst 0, 1) := by decide +kernel
theorem dX3_weighSet_7 : decode cX3_weighSet 7 = .ok (.istore 6, 2) := by decide +kernel
theorem dX3_weighSet_9 : decode cX3_weighSet 9 = .ok (.iload 6, 2) := by decide +kernel
theorem dX3_weighSet_11 : decode cX3_weighSet 11 = .ok (.bipush 8, 2) := by decide +kernel
theorem dX3_weighSet_13 : decode cX3_weighSet 13 = .ok (.if_icmp .ge 43, 3) := by decide +kernel
theorem dX3_weighSet_16 : decode cX3_weighSet 16 = .ok (.iload_n 3, 1) := by decide +kernel
theorem dX3_weighSet_17 : decode cX3_weighSet 17 = .ok (.iload 6, 2) := by decide +kernel
theorem dX3_weighSet_19 : decode cX3_weighSet 19 = .ok (.ishr, 1) := by decide +kernel
theorem dX3_weighSet_20 : decode cX3_weighSet 20 = .ok (.iconst 1, 1) := by decide +kernel
theorem dX3_weighSet_21 : decode cX3_weighSet 21 = .ok (.iand, 1) := by decide +kernel
theorem dX3_weighSet_22 : decode cX3_weighSet 22 = .ok (.iconst 1, 1) := by decide +kernel
theorem dX3_weighSet_23 : decode cX3_weighSet 23 = .ok (.if_icmp .ne 27, 3) := by decide +kernel
theorem dX3_weighSet_26 : decode cX3_weighSet 26 = .ok (.iload 4, 2) := by decide +kernel
theorem dX3_weighSet_28 : decode cX3_weighSet 28 = .ok (.aload_n 0, 1) := by decide +kernel
theorem dX3_weighSet_29 : decode cX3_weighSet 29 = .ok (.getfield 9, 3) := by decide +kernel
theorem dX3_weighSet_32 : decode cX3_weighSet 32 = .ok (.iload 6, 2) := by decide +kernel
theorem dX3_weighSet_34 : decode cX3_weighSet 34 = .ok (.iaload, 1) := by decide +kernel
theorem dX3_weighSet_35 : decode cX3_weighSet 35 = .ok (.iadd, 1) := by decide +kernel
theorem dX3_weighSet_36 : decode cX3_weighSet 36 = .ok (.istore 4, 2) := by decide +kernel
theorem dX3_weighSet_38 : decode cX3_weighSet 38 = .ok (.iload 5, 2) := by decide +kernel
theorem dX3_weighSet_40 : decode cX3_weighSet 40 = .ok (.aload_n 0, 1) := by decide +kernel
theorem dX3_weighSet_41 : decode cX3_weighSet 41 = .ok (.getfield 15, 3) := by decide +kernel
theorem dX3_weighSet_44 : decode cX3_weighSet 44 = .ok (.iload 6, 2) := by decide +kernel
theorem dX3_weighSet_46 : decode cX3_weighSet 46 = .ok (.iaload, 1) := by decide +kernel
theorem dX3_weighSet_47 : decode cX3_weighSet 47 = .ok (.iadd, 1) := by decide +kernel
theorem dX3_weighSet_48 : decode cX3_weighSet 48 = .ok (.istore 5, 2) := by decide +kernel
theorem dX3_weighSet_50 : decode cX3_weighSet 50 = .ok (.iinc 6 1, 3) := by decide +kernel
theorem dX3_weighSet_53 : decode cX3_weighSet 53 = .ok (.goto (-44), 3) := by decide +kernel
theorem dX3_weighSet_56 : decode cX3_weighSet 56 = .ok (.iload 4, 2) := by decide +kernel
theorem dX3_weighSet_58 : decode cX3_weighSet 58 = .ok (.aload_n 0, 1) := by decide +kernel
theorem dX3_weighSet_59 : decode cX3_weighSet 59 = .ok (.getfield 18, 3) := by decide +kernel
theorem dX3_weighSet_62 : decode cX3_weighSet 62 = .ok (.if_icmp .gt 29, 3) := by decide +kernel
theorem dX3_weighSet_65 : decode cX3_weighSet 65 = .ok (.iload 4, 2) := by decide +kernel
theorem dX3_weighSet_67 : decode cX3_weighSet 67 = .ok (.aload_n 0, 1) := by decide +kernel
theorem dX3_weighSet_68 : decode cX3_weighSet 68 = .ok (.getfield 18, 3) := by decide +kernel
theorem dX3_weighSet_71 : decode cX3_weighSet 71 = .ok (.if_icmp .ne 24, 3) := by decide +kernel
theorem dX3_weighSet_74 : decode cX3_weighSet 74 = .ok (.iload_n 1, 1) := by decide +kernel
theorem dX3_weighSet_75 : decode cX3_weighSet 75 = .ok (.aload_n 0, 1) := by decide +kernel
theorem dX3_weighSet_76 : decode cX3_weighSet 76 = .ok (.getfield 22, 3) := by decide +kernel
theorem dX3_weighSet_79 : decode cX3_weighSet 79 = .ok (.if_icmp .ne 16, 3) := by decide +kernel
theorem dX3_weighSet_82 : decode cX3_weighSet 82 = .ok (.iload 5, 2) := by decide +kernel
theorem dX3_weighSet_84 : decode cX3_weighSet 84 = .ok (.aload_n 0, 1) := by decide +kernel
theorem dX3_weighSet_85 : decode cX3_weighSet 85 = .ok (.getfield 28, 3) := by decide +kernel
theorem dX3_weighSet_88 : decode cX3_weighSet 88 = .ok (.if_icmp .ge 7, 3) := by decide +kernel
theorem dX3_weighSet_91 : decode cX3_weighSet 91 = .ok (.iconst 1, 1) := by decide +kernel
theorem dX3_weighSet_92 : decode cX3_weighSet 92 = .ok (.goto 4, 3) := by decide +kernel
theorem dX3_weighSet_95 : decode cX3_weighSet 95 = .ok (.iconst 0, 1) := by decide +kernel
theorem dX3_weighSet_96 : decode cX3_weighSet 96 = .ok (.istore 6, 2) := by decide +kernel
theorem dX3_weighSet_98 : decode cX3_weighSet 98 = .ok (.iload 5, 2) := by decide +kernel
theorem dX3_weighSet_100 : decode cX3_weighSet 100 = .ok (.iload_n 2, 1) := by decide +kernel
theorem dX3_weighSet_101 : decode cX3_weighSet 101 = .ok (.if_icmp .gt 30, 3) := by decide +kernel
theorem dX3_weighSet_104 : decode cX3_weighSet 104 = .ok (.iload 6, 2) := by decide +kernel
theorem dX3_weighSet_106 : decode cX3_weighSet 106 = .ok (.ifCond .eq 25, 3) := by decide +kernel
theorem dX3_weighSet_109 : decode cX3_weighSet 109 = .ok (.aload_n 0, 1) := by decide +kernel
theorem dX3_weighSet_110 : decode cX3_weighSet 110 = .ok (.iload 4, 2) := by decide +kernel
theorem dX3_weighSet_112 : decode cX3_weighSet 112 = .ok (.putfield 18, 3) := by decide +kernel
theorem dX3_weighSet_115 : decode cX3_weighSet 115 = .ok (.aload_n 0, 1) := by decide +kernel
theorem dX3_weighSet_116 : decode cX3_weighSet 116 = .ok (.iload_n 1, 1) := by decide +kernel
theorem dX3_weighSet_117 : decode cX3_weighSet 117 = .ok (.putfield 22, 3) := by decide +kernel
theorem dX3_weighSet_120 : decode cX3_weighSet 120 = .ok (.aload_n 0, 1) := by decide +kernel
theorem dX3_weighSet_121 : decode cX3_weighSet 121 = .ok (.iload_n 3, 1) := by decide +kernel
theorem dX3_weighSet_122 : decode cX3_weighSet 122 = .ok (.putfield 25, 3) := by decide +kernel
theorem dX3_weighSet_125 : decode cX3_weighSet 125 = .ok (.aload_n 0, 1) := by decide +kernel
theorem dX3_weighSet_126 : decode cX3_weighSet 126 = .ok (.iload 5, 2) := by decide +kernel
theorem dX3_weighSet_128 : decode cX3_weighSet 128 = .ok (.putfield 28, 3) := by decide +kernel
theorem dX3_weighSet_131 : decode cX3_weighSet 131 = .ok (.return_, 1) := by decide +kernel
theorem dX4_init_0 : decode cX4_init 0 = .ok (.aload_n 0, 1) := by decide +kernel
theorem dX4_init_1 : decode cX4_init 1 = .ok (.invokespecial 3, 3) := by decide +kernel
theorem dX4_init_4 : decode cX4_init 4 = .ok (.aload_n 0, 1) := by decide +kernel
theorem dX4_init_5 : decode cX4_init 5 = .ok (.bipush 26, 2) := by decide +kernel
theorem dX4_init_7 : decode cX4_init 7 = .ok (.newarray .int, 2) := by decide +kernel
theorem dX4_init_9 : decode cX4_init 9 = .ok (.putfield 9, 3) := by decide +kernel
theorem dX4_init_12 : decode cX4_init 12 = .ok (.aload_n 0, 1) := by decide +kernel
theorem dX4_init_13 : decode cX4_init 13 = .ok (.iconst 5, 1) := by decide +kernel
theorem dX4_init_14 : decode cX4_init 14 = .ok (.newarray .int, 2) := by decide +kernel
theorem dX4_init_16 : decode cX4_init 16 = .ok (.putfield 15, 3) := by decide +kernel
theorem dX4_init_19 : decode cX4_init 19 = .ok (.aload_n 0, 1) := by decide +kernel
theorem dX4_init_20 : decode cX4_init 20 = .ok (.bipush 7, 2) := by decide +kernel
theorem dX4_init_22 : decode cX4_init 22 = .ok (.newarray .int, 2) := by decide +kernel
theorem dX4_init_24 : decode cX4_init 24 = .ok (.putfield 18, 3) := by decide +kernel
theorem dX4_init_27 : decode cX4_init 27 = .ok (.aload_n 0, 1) := by decide +kernel
theorem dX4_init_28 : decode cX4_init 28 = .ok (.bipush 35, 2) := by decide +kernel
theorem dX4_init_30 : decode cX4_init 30 = .ok (.newarray .long, 2) := by decide +kernel
theorem dX4_init_32 : decode cX4_init 32 = .ok (.putfield 21, 3) := by decide +kernel
theorem dX4_init_35 : decode cX4_init 35 = .ok (.aload_n 0, 1) := by decide +kernel
theorem dX4_init_36 : decode cX4_init 36 = .ok (.bipush 35, 2) := by decide +kernel
theorem dX4_init_38 : decode cX4_init 38 = .ok (.newarray .int, 2) := by decide +kernel
theorem dX4_init_40 : decode cX4_init 40 = .ok (.putfield 25, 3) := by decide +kernel
theorem dX4_init_43 : decode cX4_init 43 = .ok (.aload_n 0, 1) := by decide +kernel
theorem dX4_init_44 : decode cX4_init 44 = .ok (.bipush 8, 2) := by decide +kernel
theorem dX4_init_46 : decode cX4_init 46 = .ok (.newarray .int, 2) := by decide +kernel
theorem dX4_init_48 : decode cX4_init 48 = .ok (.putfield 28, 3) := by decide +kernel
theorem dX4_init_51 : decode cX4_init 51 = .ok (.aload_n 0, 1) := by decide +kernel
theorem dX4_init_52 : decode cX4_init 52 = .ok (.aload_n 1, 1) := by decide +kernel
theorem dX4_init_53 : decode cX4_init 53 = .ok (.putfield 31, 3) := by decide +kernel
theorem dX4_init_56 : decode cX4_init 56 = .ok (.aload_n 0, 1) := by decide +kernel
theorem dX4_init_57 : decode cX4_init 57 = .ok (.getfield 9, 3) := by decide +kernel
theorem dX4_init_60 : decode cX4_init 60 = .ok (.iconst (-1), 1) := by decide +kernel
theorem dX4_init_61 : decode cX4_init 61 = .ok (.invokestatic 35, 3) := by decide +kernel
theorem dX4_init_64 : decode cX4_init 64 = .ok (.return_, 1) := by decide +kernel
theorem dX4_takeDigits_0 : decode cX4_takeDigits 0 = .ok (.iload_n 1, 1) := by decide +kernel
theorem dX4_takeDigits_1 : decode cX4_takeDigits 1 = .ok (.ifCond .ge 5, 3) := by decide +kernel
theorem dX4_takeDigits_4 : decode cX4_takeDigits 4 = .ok (.iconst 0, 1) := by decide +kernel
theorem dX4_takeDigits_5 : decode cX4_takeDigits 5 = .ok (.ireturn, 1) := by decide +kernel
theorem dX4_takeDigits_6 : decode cX4_takeDigits 6 = .ok (.iload_n 1, 1) := by decide +kernel
theorem dX4_takeDigits_7 : decode cX4_takeDigits 7 = .ok (.istore_n 2, 1) := by decide +kernel
theorem dX4_takeDigits_8 : decode cX4_takeDigits 8 = .ok (.bipush 6, 2) := by decide +kernel
theorem dX4_takeDigits_10 : decode cX4_takeDigits 10 = .ok (.istore_n 3, 1) := by decide +kernel
theorem dX4_takeDigits_11 : decode cX4_takeDigits 11 = .ok (.iload_n 3, 1) := by decide +kernel
theorem dX4_takeDigits_12 : decode cX4_takeDigits 12 = .ok (.ifCond .lt 36, 3) := by decide +kernel
theorem dX4_takeDigits_15 : decode cX4_takeDigits 15 = .ok (.aload_n 0, 1) := by decide +kernel
theorem dX4_takeDigits_16 : decode cX4_takeDigits 16 = .ok (.getfield 18, 3) := by decide +kernel
theorem dX4_takeDigits_19 : decode cX4_takeDigits 19 = .ok (.iload_n 3, 1) := by decide +kernel
theorem dX4_takeDigits_20 : decode cX4_takeDigits 20 = .ok (.iload_n 2, 1) := by decide +kernel
theorem dX4_takeDigits_21 : decode cX4_takeDigits 21 = .ok (.bipush 10, 2) := by decide +kernel
theorem dX4_takeDigits_23 : decode cX4_takeDigits 23 = .ok (.irem, 1) := by decide +kernel
theorem dX4_takeDigits_24 : decode cX4_takeDigits 24 = .ok (.iastore, 1) := by decide +kernel
theorem dX4_takeDigits_25 : decode cX4_takeDigits 25 = .ok (.aload_n 0, 1) := by decide +kernel
theorem dX4_takeDigits_26 : decode cX4_takeDigits 26 = .ok (.getfield 18, 3) := by decide +kernel
theorem dX4_takeDigits_29 : decode cX4_takeDigits 29 = .ok (.iload_n 3, 1) := by decide +kernel
theorem dX4_takeDigits_30 : decode cX4_takeDigits 30 = .ok (.iaload, 1) := by decide +kernel
theorem dX4_takeDigits_31 : decode cX4_takeDigits 31 = .ok (.iconst 5, 1) := by decide +kernel
theorem dX4_takeDigits_32 : decode cX4_takeDigits 32 = .ok (.if_icmp .lt 5, 3) := by decide +kernel
theorem dX4_takeDigits_35 : decode cX4_takeDigits 35 = .ok (.iconst 0, 1) := by decide +kernel
theorem dX4_takeDigits_36 : decode cX4_takeDigits 36 = .ok (.ireturn, 1) := by decide +kernel
theorem dX4_takeDigits_37 : decode cX4_takeDigits 37 = .ok (.iload_n 2, 1) := by decide +kernel
theorem dX4_takeDigits_38 : decode cX4_takeDigits 38 = .ok (.bipush 10, 2) := by decide +kernel
theorem dX4_takeDigits_40 : decode cX4_takeDigits 40 = .ok (.idiv, 1) := by decide +kernel
theorem dX4_takeDigits_41 : decode cX4_takeDigits 41 = .ok (.istore_n 2, 1) := by decide +kernel
theorem dX4_takeDigits_42 : decode cX4_takeDigits 42 = .ok (.iinc 3 (-1), 3) := by decide +kernel
theorem dX4_takeDigits_45 : decode cX4_takeDigits 45 = .ok (.goto (-34), 3) := by decide +kernel
theorem dX4_takeDigits_48 : decode cX4_takeDigits 48 = .ok (.iload_n 2, 1) := by decide +kernel
theorem dX4_takeDigits_49 : decode cX4_takeDigits 49 = .ok (.ifCond .ne 7, 3) := by decide +kernel
theorem dX4_takeDigits_52 : decode cX4_takeDigits 52 = .ok (.iconst 1, 1) := by decide +kernel
theorem dX4_takeDigits_53 : decode cX4_takeDigits 53 = .ok (.goto 4, 3) := by decide +kernel
theorem dX4_takeDigits_56 : decode cX4_takeDigits 56 = .ok (.iconst 0, 1) := by decide +kernel
theorem dX4_takeDigits_57 : decode cX4_takeDigits 57 = .ok (.ireturn, 1) := by decide +kernel
theorem dX4_mayBe_0 : decode cX4_mayBe 0 = .ok (.lconst 0, 1) := by decide +kernel
theorem dX4_mayBe_1 : decode cX4_mayBe 1 = .ok (.lstore_n 1, 1) := by decide +kernel
theorem dX4_mayBe_2 : decode cX4_mayBe 2 = .ok (.iconst 0, 1) := by decide +kernel
theorem dX4_mayBe_3 : decode cX4_mayBe 3 = .ok (.istore_n 3, 1) := by decide +kernel
theorem dX4_mayBe_4 : decode cX4_mayBe 4 = .ok (.iload_n 3, 1) := by decide +kernel
theorem dX4_mayBe_5 : decode cX4_mayBe 5 = .ok (.bipush 26, 2) := by decide +kernel
theorem dX4_mayBe_7 : decode cX4_mayBe 7 = .ok (.if_icmp .ge 59, 3) := by decide +kernel
theorem dX4_mayBe_10 : decode cX4_mayBe 10 = .ok (.aload_n 0, 1) := by decide +kernel
theorem dX4_mayBe_11 : decode cX4_mayBe 11 = .ok (.getfield 9, 3) := by decide +kernel
theorem dX4_mayBe_14 : decode cX4_mayBe 14 = .ok (.iload_n 3, 1) := by decide +kernel
theorem dX4_mayBe_15 : decode cX4_mayBe 15 = .ok (.iaload, 1) := by decide +kernel
theorem dX4_mayBe_16 : decode cX4_mayBe 16 = .ok (.ifCond .lt 44, 3) := by decide +kernel
theorem dX4_mayBe_19 : decode cX4_mayBe 19 = .ok (.aload_n 0, 1) := by decide +kernel
theorem dX4_mayBe_20 : decode cX4_mayBe 20 = .ok (.getfield 31, 3) := by decide +kernel
theorem dX4_mayBe_23 : decode cX4_mayBe 23 = .ok (.aload_n 0, 1) := by decide +kernel
theorem dX4_mayBe_24 : decode cX4_mayBe 24 = .ok (.getfield 18, 3) := by decide +kernel
theorem dX4_mayBe_27 : decode cX4_mayBe 27 = .ok (.aload_n 0, 1) := by decide +kernel
theorem dX4_mayBe_28 : decode cX4_mayBe 28 = .ok (.getfield 9, 3) := by decide +kernel
theorem dX4_mayBe_31 : decode cX4_mayBe 31 = .ok (.iload_n 3, 1) := by decide +kernel
theorem dX4_mayBe_32 : decode cX4_mayBe 32 = .ok (.iaload, 1) := by decide +kernel
theorem dX4_mayBe_33 : decode cX4_mayBe 33 = .ok (.iaload, 1) := by decide +kernel
theorem dX4_mayBe_34 : decode cX4_mayBe 34 = .ok (.aaload, 1) := by decide +kernel
theorem dX4_mayBe_35 : decode cX4_mayBe 35 = .ok (.getfield 41, 3) := by decide +kernel
theorem dX4_mayBe_38 : decode cX4_mayBe 38 = .ok (.iload_n 3, 1) := by decide +kernel
theorem dX4_mayBe_39 : decode cX4_mayBe 39 = .ok (.iaload, 1) := by decide +kernel
theorem dX4_mayBe_40 : decode cX4_mayBe 40 = .ok (.lload_n 1, 1) := by decide +kernel
theorem dX4_mayBe_41 : decode cX4_mayBe 41 = .ok (.invokestatic 46, 3) := by decide +kernel
theorem dX4_mayBe_44 : decode cX4_mayBe 44 = .ok (.lstore 4, 2) := by decide +kernel
theorem dX4_mayBe_46 : decode cX4_mayBe 46 = .ok (.lload 4, 2) := by decide +kernel
theorem dX4_mayBe_48 : decode cX4_mayBe 48 = .ok (.lconst 1, 1) := by decide +kernel
theorem dX4_mayBe_49 : decode cX4_mayBe 49 = .ok (.lcmp, 1) := by decide +kernel
theorem dX4_mayBe_50 : decode cX4_mayBe 50 = .ok (.ifCond .ne 5, 3) := by decide +kernel
theorem dX4_mayBe_53 : decode cX4_mayBe 53 = .ok (.iconst 0, 1) := by decide +kernel
theorem dX4_mayBe_54 : decode cX4_mayBe 54 = .ok (.ireturn, 1) := by decide +kernel
theorem dX4_mayBe_55 : decode cX4_mayBe 55 = .ok (.lload_n 1, 1) := by decide +kernel
theorem dX4_mayBe_56 : decode cX4_mayBe 56 = .ok (.lload 4, 2) := by decide +kernel
theorem dX4_mayBe_58 : decode cX4_mayBe 58 = .ok (.lor, 1) := by decide +kernel
theorem dX4_mayBe_59 : decode cX4_mayBe 59 = .ok (.lstore_n 1, 1) := by decide +kernel
theorem dX4_mayBe_60 : decode cX4_mayBe 60 = .ok (.iinc 3 1, 3) := by decide +kernel
theorem dX4_mayBe_63 : decode cX4_mayBe 63 = .ok (.goto (-59), 3) := by decide +kernel
theorem dX4_mayBe_66 : decode cX4_mayBe 66 = .ok (.iconst 1, 1) := by decide +kernel
theorem dX4_mayBe_67 : decode cX4_mayBe 67 = .ok (.ireturn, 1) := by decide +kernel
theorem dX4_cellBit_0 : decode cX4_cellBit 0 = .ok (.iload_n 0, 1) := by decide +kernel
theorem dX4_cellBit_1 : decode cX4_cellBit 1 = .ok (.ifCond .eq 13, 3) := by decide +kernel
theorem dX4_cellBit_4 : decode cX4_cellBit 4 = .ok (.lload_n 1, 1) := by decide +kernel
theorem dX4_cellBit_5 : decode cX4_cellBit 5 = .ok (.iload_n 0, 1) := by decide +kernel
theorem dX4_cellBit_6 : decode cX4_cellBit 6 = .ok (.lushr, 1) := by decide +kernel
theorem dX4_cellBit_7 : decode cX4_cellBit 7 = .ok (.lconst 1, 1) := by decide +kernel
theorem dX4_cellBit_8 : decode cX4_cellBit 8 = .ok (.land, 1) := by decide +kernel
theorem dX4_cellBit_9 : decode cX4_cellBit 9 = .ok (.lconst 1, 1) := by decide +kernel
theorem dX4_cellBit_10 : decode cX4_cellBit 10 = .ok (.lcmp, 1) := by decide +kernel
theorem dX4_cellBit_11 : decode cX4_cellBit 11 = .ok (.ifCond .ne 7, 3) := by decide +kernel
theorem dX4_cellBit_14 : decode cX4_cellBit 14 = .ok (.lconst 1, 1) := by decide +kernel
theorem dX4_cellBit_15 : decode cX4_cellBit 15 = .ok (.goto 6, 3) := by decide +kernel
theorem dX4_cellBit_18 : decode cX4_cellBit 18 = .ok (.lconst 1, 1) := by decide +kernel
theorem dX4_cellBit_19 : decode cX4_cellBit 19 = .ok (.iload_n 0, 1) := by decide +kernel
theorem dX4_cellBit_20 : decode cX4_cellBit 20 = .ok (.lshl, 1) := by decide +kernel
theorem dX4_cellBit_21 : decode cX4_cellBit 21 = .ok (.lreturn, 1) := by decide +kernel
theorem dX4_newToAll_0 : decode cX4_newToAll 0 = .ok (.iconst 0, 1) := by decide +kernel
theorem dX4_newToAll_1 : decode cX4_newToAll 1 = .ok (.istore_n 1, 1) := by decide +kernel
theorem dX4_newToAll_2 : decode cX4_newToAll 2 = .ok (.iconst 0, 1) := by decide +kernel
theorem dX4_newToAll_3 : decode cX4_newToAll 3 = .ok (.istore_n 2, 1) := by decide +kernel
theorem dX4_newToAll_4 : decode cX4_newToAll 4 = .ok (.iload_n 2, 1) := by decide +kernel
theorem dX4_newToAll_5 : decode cX4_newToAll 5 = .ok (.bipush 26, 2) := by decide +kernel
theorem dX4_newToAll_7 : decode cX4_newToAll 7 = .ok (.if_icmp .ge 47, 3) := by decide +kernel
theorem dX4_newToAll_10 : decode cX4_newToAll 10 = .ok (.aload_n 0, 1) := by decide +kernel
theorem dX4_newToAll_11 : decode cX4_newToAll 11 = .ok (.getfield 9, 3) := by decide +kernel
theorem dX4_newToAll_14 : decode cX4_newToAll 14 = .ok (.iload_n 2, 1) := by decide +kernel
theorem dX4_newToAll_15 : decode cX4_newToAll 15 = .ok (.iaload, 1) := by decide +kernel
theorem dX4_newToAll_16 : decode cX4_newToAll 16 = .ok (.ifCond .lt 32, 3) := by decide +kernel
theorem dX4_newToAll_19 : decode cX4_newToAll 19 = .ok (.iload_n 1, 1) := by decide +kernel
theorem dX4_newToAll_20 : decode cX4_newToAll 20 = .ok (.aload_n 0, 1) := by decide +kernel
theorem dX4_newToAll_21 : decode cX4_newToAll 21 = .ok (.iload_n 2, 1) := by decide +kernel
theorem dX4_newToAll_22 : decode cX4_newToAll 22 = .ok (.aload_n 0, 1) := by decide +kernel
theorem dX4_newToAll_23 : decode cX4_newToAll 23 = .ok (.getfield 31, 3) := by decide +kernel
theorem dX4_newToAll_26 : decode cX4_newToAll 26 = .ok (.aload_n 0, 1) := by decide +kernel
theorem dX4_newToAll_27 : decode cX4_newToAll 27 = .ok (.getfield 18, 3) := by decide +kernel
theorem dX4_newToAll_30 : decode cX4_newToAll 30 = .ok (.aload_n 0, 1) := by decide +kernel
theorem dX4_newToAll_31 : decode cX4_newToAll 31 = .ok (.getfield 9, 3) := by decide +kernel
theorem dX4_newToAll_34 : decode cX4_newToAll 34 = .ok (.iload_n 2, 1) := by decide +kernel
theorem dX4_newToAll_35 : decode cX4_newToAll 35 = .ok (.iaload, 1) := by decide +kernel
theorem dX4_newToAll_36 : decode cX4_newToAll 36 = .ok (.iaload, 1) := by decide +kernel
theorem dX4_newToAll_37 : decode cX4_newToAll 37 = .ok (.aaload, 1) := by decide +kernel
theorem dX4_newToAll_38 : decode cX4_newToAll 38 = .ok (.getfield 41, 3) := by decide +kernel
theorem dX4_newToAll_41 : decode cX4_newToAll 41 = .ok (.iload_n 2, 1) := by decide +kernel
theorem dX4_newToAll_42 : decode cX4_newToAll 42 = .ok (.iaload, 1) := by decide +kernel
theorem dX4_newToAll_43 : decode cX4_newToAll 43 = .ok (.invokevirtual 50, 3) := by decide +kernel
theorem dX4_newToAll_46 : decode cX4_newToAll 46 = .ok (.iadd, 1) := by decide +kernel
theorem dX4_newToAll_47 : decode cX4_newToAll 47 = .ok (.istore_n 1, 1) := by decide +kernel
theorem dX4_newToAll_48 : decode cX4_newToAll 48 = .ok (.iinc 2 1, 3) := by decide +kernel
theorem dX4_newToAll_51 : decode cX4_newToAll 51 = .ok (.goto (-47), 3) := by decide +kernel
theorem dX4_newToAll_54 : decode cX4_newToAll 54 = .ok (.iload_n 1, 1) := by decide +kernel
theorem dX4_newToAll_55 : decode cX4_newToAll 55 = .ok (.ireturn, 1) := by decide +kernel
theorem dX4_strangersTo_0 : decode cX4_strangersTo 0 = .ok (.iconst 0, 1) := by decide +kernel
theorem dX4_strangersTo_1 : decode cX4_strangersTo 1 = .ok (.istore_n 3, 1) := by decide +kernel
theorem dX4_strangersTo_2 : decode cX4_strangersTo 2 = .ok (.iconst 0, 1) := by decide +kernel
theorem dX4_strangersTo_3 : decode cX4_strangersTo 3 = .ok (.istore 4, 2) := by decide +kernel
theorem dX4_strangersTo_5 : decode cX4_strangersTo 5 = .ok (.iload 4, 2) := by decide +kernel
theorem dX4_strangersTo_7 : decode cX4_strangersTo 7 = .ok (.iconst 5, 1) := by decide +kernel
theorem dX4_strangersTo_8 : decode cX4_strangersTo 8 = .ok (.if_icmp .ge 39, 3) := by decide +kernel
theorem dX4_strangersTo_11 : decode cX4_strangersTo 11 = .ok (.iload_n 3, 1) := by decide +kernel
theorem dX4_strangersTo_12 : decode cX4_strangersTo 12 = .ok (.aload_n 0, 1) := by decide +kernel
theorem dX4_strangersTo_13 : decode cX4_strangersTo 13 = .ok (.getfield 31, 3) := by decide +kernel
theorem dX4_strangersTo_16 : decode cX4_strangersTo 16 = .ok (.iload 4, 2) := by decide +kernel
theorem dX4_strangersTo_18 : decode cX4_strangersTo 18 = .ok (.aaload, 1) := by decide +kernel
theorem dX4_strangersTo_19 : decode cX4_strangersTo 19 = .ok (.getfield 41, 3) := by decide +kernel
theorem dX4_strangersTo_22 : decode cX4_strangersTo 22 = .ok (.iload_n 1, 1) := by decide +kernel
theorem dX4_strangersTo_23 : decode cX4_strangersTo 23 = .ok (.iaload, 1) := by decide +kernel
theorem dX4_strangersTo_24 : decode cX4_strangersTo 24 = .ok (.iload_n 2, 1) := by decide +kernel
theorem dX4_strangersTo_25 : decode cX4_strangersTo 25 = .ok (.if_icmp .ne 7, 3) := by decide +kernel
theorem dX4_strangersTo_28 : decode cX4_strangersTo 28 = .ok (.iconst 0, 1) := by decide +kernel
theorem dX4_strangersTo_29 : decode cX4_strangersTo 29 = .ok (.goto 10, 3) := by decide +kernel
theorem dX4_strangersTo_32 : decode cX4_strangersTo 32 = .ok (.aload_n 0, 1) := by decide +kernel
theorem dX4_strangersTo_33 : decode cX4_strangersTo 33 = .ok (.getfield 15, 3) := by decide +kernel
theorem dX4_strangersTo_36 : decode cX4_strangersTo 36 = .ok (.iload 4, 2) := by decide +kernel
theorem dX4_strangersTo_38 : decode cX4_strangersTo 38 = .ok (.iaload, 1) := by decide +kernel
theorem dX4_strangersTo_39 : decode cX4_strangersTo 39 = .ok (.iadd, 1) := by decide +kernel
theorem dX4_strangersTo_40 : decode cX4_strangersTo 40 = .ok (.istore_n 3, 1) := by decide +kernel
theorem dX4_strangersTo_41 : decode cX4_strangersTo 41 = .ok (.iinc 4 1, 3) := by decide +kernel
theorem dX4_strangersTo_44 : decode cX4_strangersTo 44 = .ok (.goto (-39), 3) := by decide +kernel
theorem dX4_strangersTo_47 : decode cX4_strangersTo 47 = .ok (.iload_n 3, 1) := by decide +kernel
theorem dX4_strangersTo_48 : decode cX4_strangersTo 48 = .ok (.ireturn, 1) := by decide +kernel
theorem dX4_findBest_0 : decode cX4_findBest 0 = .ok (.iconst 0, 1) := by decide +kernel
theorem dX4_findBest_1 : decode cX4_findBest 1 = .ok (.istore_n 1, 1) := by decide +kernel
theorem dX4_findBest_2 : decode cX4_findBest 2 = .ok (.iload_n 1, 1) := by decide +kernel
theorem dX4_findBest_3 : decode cX4_findBest 3 = .ok (.bipush 7, 2) := by decide +kernel
theorem dX4_findBest_5 : decode cX4_findBest 5 = .ok (.if_icmp .ge 28, 3) := by decide +kernel
theorem dX4_findBest_8 : decode cX4_findBest 8 = .ok (.iconst 0, 1) := by decide +kernel
theorem dX4_findBest_9 : decode cX4_findBest 9 = .ok (.istore_n 2, 1) := by decide +kernel
theorem dX4_findBest_10 : decode cX4_findBest 10 = .ok (.iload_n 2, 1) := by decide +kernel
theorem dX4_findBest_11 : decode cX4_findBest 11 = .ok (.iconst 5, 1) := by decide +kernel
theorem dX4_findBest_12 : decode cX4_findBest 12 = .ok (.if_icmp .ge 15, 3) := by decide +kernel
theorem dX4_findBest_15 : decode cX4_findBest 15 = .ok (.aload_n 0, 1) := by decide +kernel
theorem dX4_findBest_16 : decode cX4_findBest 16 = .ok (.iload_n 1, 1) := by decide +kernel
theorem dX4_findBest_17 : decode cX4_findBest 17 = .ok (.iload_n 2, 1) := by decide +kernel
theorem dX4_findBest_18 : decode cX4_findBest 18 = .ok (.invokevirtual 54, 3) := by decide +kernel
theorem dX4_findBest_21 : decode cX4_findBest 21 = .ok (.iinc 2 1, 3) := by decide +kernel
theorem dX4_findBest_24 : decode cX4_findBest 24 = .ok (.goto (-14), 3) := by decide +kernel
theorem dX4_findBest_27 : decode cX4_findBest 27 = .ok (.iinc 1 1, 3) := by decide +kernel
theorem dX4_findBest_30 : decode cX4_findBest 30 = .ok (.goto (-28), 3) := by decide +kernel
theorem dX4_findBest_33 : decode cX4_findBest 33 = .ok (.aload_n 0, 1) := by decide +kernel
theorem dX4_findBest_34 : decode cX4_findBest 34 = .ok (.invokevirtual 58, 3) := by decide +kernel
theorem dX4_findBest_37 : decode cX4_findBest 37 = .ok (.aload_n 0, 1) := by decide +kernel
theorem dX4_findBest_38 : decode cX4_findBest 38 = .ok (.ldc 61, 2) := by decide +kernel
theorem dX4_findBest_40 : decode cX4_findBest 40 = .ok (.putfield 62, 3) := by decide +kernel
theorem dX4_findBest_43 : decode cX4_findBest 43 = .ok (.aload_n 0, 1) := by decide +kernel
theorem dX4_findBest_44 : decode cX4_findBest 44 = .ok (.bipush (-5), 2) := by decide +kernel
theorem dX4_findBest_46 : decode cX4_findBest 46 = .ok (.putfield 66, 3) := by decide +kernel
theorem dX4_findBest_49 : decode cX4_findBest 49 = .ok (.aload_n 0, 1) := by decide +kernel
theorem dX4_findBest_50 : decode cX4_findBest 50 = .ok (.iconst 0, 1) := by decide +kernel
theorem dX4_findBest_51 : decode cX4_findBest 51 = .ok (.lconst 0, 1) := by decide +kernel
theorem dX4_findBest_52 : decode cX4_findBest 52 = .ok (.iconst 0, 1) := by decide +kernel
theorem dX4_findBest_53 : decode cX4_findBest 53 = .ok (.iconst 0, 1) := by decide +kernel
theorem dX4_findBest_54 : decode cX4_findBest 54 = .ok (.invokevirtual 69, 3) := by decide +kernel
theorem dX4_findBest_57 : decode cX4_findBest 57 = .ok (.aload_n 0, 1) := by decide +kernel
theorem dX4_findBest_58 : decode cX4_findBest 58 = .ok (.getfield 66, 3) := by decide +kernel
theorem dX4_findBest_61 : decode cX4_findBest 61 = .ok (.ireturn, 1) := by decide +kernel
theorem dX4_weighPart_0 : decode cX4_weighPart 0 = .ok (.lconst 0, 1) := by decide +kernel
theorem dX4_weighPart_1 : decode cX4_weighPart 1 = .ok (.lstore_n 3, 1) := by decide +kernel
theorem dX4_weighPart_2 : decode cX4_weighPart 2 = .ok (.iconst 0, 1) := by decide +kernel
theorem dX4_weighPart_3 : decode cX4_weighPart 3 = .ok (.istore 5, 2) := by decide +kernel
theorem dX4_weighPart_5 : decode cX4_weighPart 5 = .ok (.iconst 0, 1) := by decide +kernel
theorem dX4_weighPart_6 : decode cX4_weighPart 6 = .ok (.istore 6, 2) := by decide +kernel
theorem dX4_weighPart_8 : decode cX4_weighPart 8 = .ok (.iload 6, 2) := by decide +kernel
theorem dX4_weighPart_10 : decode cX4_weighPart 10 = .ok (.bipush 26, 2) := by decide +kernel
theorem dX4_weighPart_12 : decode cX4_weighPart 12 = .ok (.if_icmp .ge 56, 3) := by decide +kernel
theorem dX4_weighPart_15 : decode cX4_weighPart 15 = .ok (.aload_n 0, 1) := by decide +kernel
theorem dX4_weighPart_16 : decode cX4_weighPart 16 = .ok (.getfield 9, 3) := by decide +kernel
theorem dX4_weighPart_19 : decode cX4_weighPart 19 = .ok (.iload 6, 2) := by decide +kernel
theorem dX4_weighPart_21 : decode cX4_weighPart 21 = .ok (.iaload, 1) := by decide +kernel
theorem dX4_weighPart_22 : decode cX4_weighPart 22 = .ok (.iload_n 1, 1) := by decide +kernel
theorem dX4_weighPart_23 : decode cX4_weighPart 23 = .ok (.if_icmp .ne 39, 3) := by decide +kernel
theorem dX4_weighPart_26 : decode cX4_weighPart 26 = .ok (.aload_n 0, 1) := by decide +kernel
theorem dX4_weighPart_27 : decode cX4_weighPart 27 = .ok (.getfield 31, 3) := by decide +kernel
theorem dX4_weighPart_30 : decode cX4_weighPart 30 = .ok (.iload_n 2, 1) := by decide +kernel
theorem dX4_weighPart_31 : decode cX4_weighPart 31 = .ok (.aaload, 1) := by decide +kernel
theorem dX4_weighPart_32 : decode cX4_weighPart 32 = .ok (.getfield 41, 3) := by decide +kernel
theorem dX4_weighPart_35 : decode cX4_weighPart 35 = .ok (.iload 6, 2) := by decide +kernel
theorem dX4_weighPart_37 : decode cX4_weighPart 37 = .ok (.iaload, 1) := by decide +kernel
theorem dX4_weighPart_38 : decode cX4_weighPart 38 = .ok (.istore 7, 2) := by decide +kernel
theorem dX4_weighPart_40 : decode cX4_weighPart 40 = .ok (.lload_n 3, 1) := by decide +kernel
theorem dX4_weighPart_41 : decode cX4_weighPart 41 = .ok (.iload 7, 2) := by decide +kernel
theorem dX4_weighPart_43 : decode cX4_weighPart 43 = .ok (.lload_n 3, 1) := by decide +kernel
theorem dX4_weighPart_44 : decode cX4_weighPart 44 = .ok (.invokestatic 46, 3) := by decide +kernel
theorem dX4_weighPart_47 : decode cX4_weighPart 47 = .ok (.lor, 1) := by decide +kernel
theorem dX4_weighPart_48 : decode cX4_weighPart 48 = .ok (.lstore_n 3, 1) := by decide +kernel
theorem dX4_weighPart_49 : decode cX4_weighPart 49 = .ok (.iload 5, 2) := by decide +kernel
theorem dX4_weighPart_51 : decode cX4_weighPart 51 = .ok (.aload_n 0, 1) := by decide +kernel
theorem dX4_weighPart_52 : decode cX4_weighPart 52 = .ok (.iload 6, 2) := by decide +kernel
theorem dX4_weighPart_54 : decode cX4_weighPart 54 = .ok (.iload 7, 2) := by decide +kernel
theorem dX4_weighPart_56 : decode cX4_weighPart 56 = .ok (.invokevirtual 50, 3) := by decide +kernel
theorem dX4_weighPart_59 : decode cX4_weighPart 59 = .ok (.iadd, 1) := by decide +kernel
theorem dX4_weighPart_60 : decode cX4_weighPart 60 = .ok (.istore 5, 2) := by decide +kernel
theorem dX4_weighPart_62 : decode cX4_weighPart 62 = .ok (.iinc 6 1, 3) := by decide +kernel
theorem dX4_weighPart_65 : decode cX4_weighPart 65 = .ok (.goto (-57), 3) := by decide +kernel
theorem dX4_weighPart_68 : decode cX4_weighPart 68 = .ok (.aload_n 0, 1) := by decide +kernel
theorem dX4_weighPart_69 : decode cX4_weighPart 69 = .ok (.getfield 21, 3) := by decide +kernel
theorem dX4_weighPart_72 : decode cX4_weighPart 72 = .ok (.iload_n 1, 1) := by decide +kernel
theorem dX4_weighPart_73 : decode cX4_weighPart 73 = .ok (.iconst 5, 1) := by decide +kernel
theorem dX4_weighPart_74 : decode cX4_weighPart 74 = .ok (.imul, 1) := by decide +kernel
theorem dX4_weighPart_75 : decode cX4_weighPart 75 = .ok (.iload_n 2, 1) := by decide +kernel
theorem dX4_weighPart_76 : decode cX4_weighPart 76 = .ok (.iadd, 1) := by decide +kernel
theorem dX4_weighPart_77 : decode cX4_weighPart 77 = .ok (.lload_n 3, 1) := by decide +kernel
theorem dX4_weighPart_78 : decode cX4_weighPart 78 = .ok (.lastore, 1) := by decide +kernel
theorem dX4_weighPart_79 : decode cX4_weighPart 79 = .ok (.aload_n 0, 1) := by decide +kernel
theorem dX4_weighPart_80 : decode cX4_weighPart 80 = .ok (.getfield 25, 3) := by decide +kernel
theorem dX4_weighPart_83 : decode cX4_weighPart 83 = .ok (.iload_n 1, 1) := by decide +kernel
theorem dX4_weighPart_84 : decode cX4_weighPart 84 = .ok (.iconst 5, 1) := by decide +kernel
theorem dX4_weighPart_85 : decode cX4_weighPart 85 = .ok (.imul, 1) := by decide +kernel
theorem dX4_weighPart_86 : decode cX4_weighPart 86 = .ok (.iload_n 2, 1) := by decide +kernel
theorem dX4_weighPart_87 : decode cX4_weighPart 87 = .ok (.iadd, 1) := by decide +kernel
theorem dX4_weighPart_88 : decode cX4_weighPart 88 = .ok (.iload 5, 2) := by decide +kernel
theorem dX4_weighPart_90 : decode cX4_weighPart 90 = .ok (.iastore, 1) := by decide +kernel
theorem dX4_weighPart_91 : decode cX4_weighPart 91 = .ok (.return_, 1) := by decide +kernel
theorem dX4_sumLeast_0 : decode cX4_sumLeast 0 = .ok (.aload_n 0, 1) := by decide +kernel
theorem dX4_sumLeast_1 : decode cX4_sumLeast 1 = .ok (.getfield 28, 3) := by decide +kernel
theorem dX4_sumLeast_4 : decode cX4_sumLeast 4 = .ok (.bipush 7, 2) := by decide +kernel
theorem dX4_sumLeast_6 : decode cX4_sumLeast 6 = .ok (.iconst 0, 1) := by decide +kernel
theorem dX4_sumLeast_7 : decode cX4_sumLeast 7 = .ok (.iastore, 1) := by decide +kernel
theorem dX4_sumLeast_8 : decode cX4_sumLeast 8 = .ok (.bipush 6, 2) := by decide +kernel
theorem dX4_sumLeast_10 : decode cX4_sumLeast 10 = .ok (.istore_n 1, 1) := by decide +kernel
theorem dX4_sumLeast_11 : decode cX4_sumLeast 11 = .ok (.iload_n 1, 1) := by decide +kernel
theorem dX4_sumLeast_12 : decode cX4_sumLeast 12 = .ok (.ifCond .lt 78, 3) := by decide +kernel
theorem dX4_sumLeast_15 : decode cX4_sumLeast 15 = .ok (.ldc 61, 2) := by decide +kernel
theorem dX4_sumLeast_17 : decode cX4_sumLeast 17 = .ok (.istore_n 2, 1) := by decide +kernel
theorem dX4_sumLeast_18 : decode cX4_sumLeast 18 = .ok (.iconst 0, 1) := by decide +kernel
theorem dX4_sumLeast_19 : decode cX4_sumLeast 19 = .ok (.istore_n 3, 1) := by decide +kernel
theorem dX4_sumLeast_20 : decode cX4_sumLeast 20 = .ok (.iload_n 3, 1) := by decide +kernel
theorem dX4_sumLeast_21 : decode cX4_sumLeast 21 = .ok (.iconst 5, 1) := by decide +kernel
theorem dX4_sumLeast_22 : decode cX4_sumLeast 22 = .ok (.if_icmp .ge 41, 3) := by decide +kernel
theorem dX4_sumLeast_25 : decode cX4_sumLeast 25 = .ok (.aload_n 0, 1) := by decide +kernel
theorem dX4_sumLeast_26 : decode cX4_sumLeast 26 = .ok (.getfield 21, 3) := by decide +kernel
theorem dX4_sumLeast_29 : decode cX4_sumLeast 29 = .ok (.iload_n 1, 1) := by decide +kernel
theorem dX4_sumLeast_30 : decode cX4_sumLeast 30 = .ok (.iconst 5, 1) := by decide +kernel
theorem dX4_sumLeast_31 : decode cX4_sumLeast 31 = .ok (.imul, 1) := by decide +kernel
theorem dX4_sumLeast_32 : decode cX4_sumLeast 32 = .ok (.iload_n 3, 1) := by decide +kernel
theorem dX4_sumLeast_33 : decode cX4_sumLeast 33 = .ok (.iadd, 1) := by decide +kernel
theorem dX4_sumLeast_34 : decode cX4_sumLeast 34 = .ok (.laload, 1) := by decide +kernel
theorem dX4_sumLeast_35 : decode cX4_sumLeast 35 = .ok (.lconst 1, 1) := by decide +kernel
theorem dX4_sumLeast_36 : decode cX4_sumLeast 36 = .ok (.land, 1) := by decide +kernel
theorem dX4_sumLeast_37 : decode cX4_sumLeast 37 = .ok (.lconst 0, 1) := by decide +kernel
theorem dX4_sumLeast_38 : decode cX4_sumLeast 38 = .ok (.lcmp, 1) := by decide +kernel
theorem dX4_sumLeast_39 : decode cX4_sumLeast 39 = .ok (.ifCond .ne 18, 3) := by decide +kernel
theorem dX4_sumLeast_42 : decode cX4_sumLeast 42 = .ok (.iload_n 2, 1) := by decide +kernel
theorem dX4_sumLeast_43 : decode cX4_sumLeast 43 = .ok (.aload_n 0, 1) := by decide +kernel
theorem dX4_sumLeast_44 : decode cX4_sumLeast 44 = .ok (.getfield 25, 3) := by decide +kernel
theorem dX4_sumLeast_47 : decode cX4_sumLeast 47 = .ok (.iload_n 1, 1) := by decide +kernel
theorem dX4_sumLeast_48 : decode cX4_sumLeast 48 = .ok (.iconst 5, 1) := by decide +kernel
theorem dX4_sumLeast_49 : decode cX4_sumLeast 49 = .ok (.imul, 1) := by decide +kernel
theorem dX4_sumLeast_50 : decode cX4_sumLeast 50 = .ok (.iload_n 3, 1) := by decide +kernel
theorem dX4_sumLeast_51 : decode cX4_sumLeast 51 = .ok (.iadd, 1) := by decide +kernel
theorem dX4_sumLeast_52 : decode cX4_sumLeast 52 = .ok (.iaload, 1) := by decide +kernel
theorem dX4_sumLeast_53 : decode cX4_sumLeast 53 = .ok (.invokestatic 73, 3) := by decide +kernel
theorem dX4_sumLeast_56 : decode cX4_sumLeast 56 = .ok (.istore_n 2, 1) := by decide +kernel
theorem dX4_sumLeast_57 : decode cX4_sumLeast 57 = .ok (.iinc 3 1, 3) := by decide +kernel
theorem dX4_sumLeast_60 : decode cX4_sumLeast 60 = .ok (.goto (-40), 3) := by decide +kernel
theorem dX4_sumLeast_63 : decode cX4_sumLeast 63 = .ok (.aload_n 0, 1) := by decide +kernel
theorem dX4_sumLeast_64 : decode cX4_sumLeast 64 = .ok (.getfield 28, 3) := by decide +kernel
theorem dX4_sumLeast_67 : decode cX4_sumLeast 67 = .ok (.iload_n 1, 1) := by decide +kernel
theorem dX4_sumLeast_68 : decode cX4_sumLeast 68 = .ok (.ldc 61, 2) := by decide +kernel
theorem dX4_sumLeast_70 : decode cX4_sumLeast 70 = .ok (.aload_n 0, 1) := by decide +kernel
theorem dX4_sumLeast_71 : decode cX4_sumLeast 71 = .ok (.getfield 28, 3) := by decide +kernel
theorem dX4_sumLeast_74 : decode cX4_sumLeast 74 = .ok (.iload_n 1, 1) := by decide +kernel
theorem dX4_sumLeast_75 : decode cX4_sumLeast 75 = .ok (.iconst 1, 1) := by decide +kernel
theorem dX4_sumLeast_76 : decode cX4_sumLeast 76 = .ok (.iadd, 1) := by decide +kernel
theorem dX4_sumLeast_77 : decode cX4_sumLeast 77 = .ok (.iaload, 1) := by decide +kernel
theorem dX4_sumLeast_78 : decode cX4_sumLeast 78 = .ok (.iload_n 2, 1) := by decide +kernel
theorem dX4_sumLeast_79 : decode cX4_sumLeast 79 = .ok (.iadd, 1) := by decide +kernel
theorem dX4_sumLeast_80 : decode cX4_sumLeast 80 = .ok (.invokestatic 73, 3) := by decide +kernel
theorem dX4_sumLeast_83 : decode cX4_sumLeast 83 = .ok (.iastore, 1) := by decide +kernel
theorem dX4_sumLeast_84 : decode cX4_sumLeast 84 = .ok (.iinc 1 (-1), 3) := by decide +kernel
theorem dX4_sumLeast_87 : decode cX4_sumLeast 87 = .ok (.goto (-76), 3) := by decide +kernel
theorem dX4_sumLeast_90 : decode cX4_sumLeast 90 = .ok (.return_, 1) := by decide +kernel
theorem dX4_search_0 : decode cX4_search 0 = .ok (.iload_n 1, 1) := by decide +kernel
theorem dX4_search_1 : decode cX4_search 1 = .ok (.bipush 7, 2) := by decide +kernel
theorem dX4_search_3 : decode cX4_search 3 = .ok (.if_icmp .lt 16, 3) := by decide +kernel
theorem dX4_search_6 : decode cX4_search 6 = .ok (.aload_n 0, 1) := by decide +kernel
theorem dX4_search_7 : decode cX4_search 7 = .ok (.iload 4, 2) := by decide +kernel
theorem dX4_search_9 : decode cX4_search 9 = .ok (.putfield 62, 3) := by decide +kernel
theorem dX4_search_12 : decode cX4_search 12 = .ok (.aload_n 0, 1) := by decide +kernel
theorem dX4_search_13 : decode cX4_search 13 = .ok (.iload 5, 2) := by decide +kernel
theorem dX4_search_15 : decode cX4_search 15 = .ok (.putfield 66, 3) := by decide +kernel
theorem dX4_search_18 : decode cX4_search 18 = .ok (.return_, 1) := by decide +kernel
theorem dX4_search_19 : decode cX4_search 19 = .ok (.iconst 0, 1) := by decide +kernel
theorem dX4_search_20 : decode cX4_search 20 = .ok (.istore 6, 2) := by decide +kernel
theorem dX4_search_22 : decode cX4_search 22 = .ok (.iload 6, 2) := by decide +kernel
theorem dX4_search_24 : decode cX4_search 24 = .ok (.iconst 5, 1) := by decide +kernel
theorem dX4_search_25 : decode cX4_search 25 = .ok (.if_icmp .ge 96, 3) := by decide +kernel
theorem dX4_search_28 : decode cX4_search 28 = .ok (.aload_n 0, 1) := by decide +kernel
theorem dX4_search_29 : decode cX4_search 29 = .ok (.getfield 21, 3) := by decide +kernel
theorem dX4_search_32 : decode cX4_search 32 = .ok (.iload_n 1, 1) := by decide +kernel
theorem dX4_search_33 : decode cX4_search 33 = .ok (.iconst 5, 1) := by decide +kernel
theorem dX4_search_34 : decode cX4_search 34 = .ok (.imul, 1) := by decide +kernel
theorem dX4_search_35 : decode cX4_search 35 = .ok (.iload 6, 2) := by decide +kernel
theorem dX4_search_37 : decode cX4_search 37 = .ok (.iadd, 1) := by decide +kernel
theorem dX4_search_38 : decode cX4_search 38 = .ok (.laload, 1) := by decide +kernel
theorem dX4_search_39 : decode cX4_search 39 = .ok (.lstore 7, 2) := by decide +kernel
theorem dX4_search_41 : decode cX4_search 41 = .ok (.iload 4, 2) := by decide +kernel
theorem dX4_search_43 : decode cX4_search 43 = .ok (.aload_n 0, 1) := by decide +kernel
theorem dX4_search_44 : decode cX4_search 44 = .ok (.getfield 25, 3) := by decide +kernel
theorem dX4_search_47 : decode cX4_search 47 = .ok (.iload_n 1, 1) := by decide +kernel
theorem dX4_search_48 : decode cX4_search 48 = .ok (.iconst 5, 1) := by decide +kernel
theorem dX4_search_49 : decode cX4_search 49 = .ok (.imul, 1) := by decide +kernel
theorem dX4_search_50 : decode cX4_search 50 = .ok (.iload 6, 2) := by decide +kernel
theorem dX4_search_52 : decode cX4_search 52 = .ok (.iadd, 1) := by decide +kernel
theorem dX4_search_53 : decode cX4_search 53 = .ok (.iaload, 1) := by decide +kernel
theorem dX4_search_54 : decode cX4_search 54 = .ok (.iadd, 1) := by decide +kernel
theorem dX4_search_55 : decode cX4_search 55 = .ok (.istore 9, 2) := by decide +kernel
theorem dX4_search_57 : decode cX4_search 57 = .ok (.lload 7, 2) := by decide +kernel
theorem dX4_search_59 : decode cX4_search 59 = .ok (.lload_n 2, 1) := by decide +kernel
theorem dX4_search_60 : decode cX4_search 60 = .ok (.lconst 1, 1) := by decide +kernel
theorem dX4_search_61 : decode cX4_search 61 = .ok (.lor, 1) := by decide +kernel
theorem dX4_search_62 : decode cX4_search 62 = .ok (.land, 1) := by decide +kernel
theorem dX4_search_63 : decode cX4_search 63 = .ok (.lconst 0, 1) := by decide +kernel
theorem dX4_search_64 : decode cX4_search 64 = .ok (.lcmp, 1) := by decide +kernel
theorem dX4_search_65 : decode cX4_search 65 = .ok (.ifCond .ne 42, 3) := by decide +kernel
theorem dX4_search_68 : decode cX4_search 68 = .ok (.iload 9, 2) := by decide +kernel
theorem dX4_search_70 : decode cX4_search 70 = .ok (.aload_n 0, 1) := by decide +kernel
theorem dX4_search_71 : decode cX4_search 71 = .ok (.getfield 28, 3) := by decide +kernel
theorem dX4_search_74 : decode cX4_search 74 = .ok (.iload_n 1, 1) := by decide +kernel
theorem dX4_search_75 : decode cX4_search 75 = .ok (.iconst 1, 1) := by decide +kernel
theorem dX4_search_76 : decode cX4_search 76 = .ok (.iadd, 1) := by decide +kernel
theorem dX4_search_77 : decode cX4_search 77 = .ok (.iaload, 1) := by decide +kernel
theorem dX4_search_78 : decode cX4_search 78 = .ok (.iadd, 1) := by decide +kernel
theorem dX4_search_79 : decode cX4_search 79 = .ok (.aload_n 0, 1) := by decide +kernel
theorem dX4_search_80 : decode cX4_search 80 = .ok (.getfield 62, 3) := by decide +kernel
theorem dX4_search_83 : decode cX4_search 83 = .ok (.if_icmp .ge 24, 3) := by decide +kernel
theorem dX4_search_86 : decode cX4_search 86 = .ok (.aload_n 0, 1) := by decide +kernel
theorem dX4_search_87 : decode cX4_search 87 = .ok (.iload_n 1, 1) := by decide +kernel
theorem dX4_search_88 : decode cX4_search 88 = .ok (.iconst 1, 1) := by decide +kernel
theorem dX4_search_89 : decode cX4_search 89 = .ok (.iadd, 1) := by decide +kernel
theorem dX4_search_90 : decode cX4_search 90 = .ok (.lload_n 2, 1) := by decide +kernel
theorem dX4_search_91 : decode cX4_search 91 = .ok (.lload 7, 2) := by decide +kernel
theorem dX4_search_93 : decode cX4_search 93 = .ok (.lor, 1) := by decide +kernel
theorem dX4_search_94 : decode cX4_search 94 = .ok (.iload 9, 2) := by decide +kernel
theorem dX4_search_96 : decode cX4_search 96 = .ok (.iload 5, 2) := by decide +kernel
theorem dX4_search_98 : decode cX4_search 98 = .ok (.bipush 10, 2) := by decide +kernel
theorem dX4_search_100 : decode cX4_search 100 = .ok (.imul, 1) := by decide +kernel
theorem dX4_search_101 : decode cX4_search 101 = .ok (.iload 6, 2) := by decide +kernel
theorem dX4_search_103 : decode cX4_search 103 = .ok (.iadd, 1) := by decide +kernel
theorem dX4_search_104 : decode cX4_search 104 = .ok (.invokevirtual 69, 3) := by decide +kernel
theorem dX4_search_107 : decode cX4_search 107 = .ok (.lload 7, 2) := by decide +kernel
theorem dX4_search_109 : decode cX4_search 109 = .ok (.lconst 0, 1) := by decide +kernel
theorem dX4_search_110 : decode cX4_search 110 = .ok (.lcmp, 1) := by decide +kernel
theorem dX4_search_111 : decode cX4_search 111 = .ok (.ifCond .ne 4, 3) := by decide +kernel
theorem dX4_search_114 : decode cX4_search 114 = .ok (.return_, 1) := by decide +kernel
theorem dX4_search_115 : decode cX4_search 115 = .ok (.iinc 6 1, 3) := by decide +kernel
theorem dX4_search_118 : decode cX4_search 118 = .ok (.goto (-96), 3) := by decide +kernel
theorem dX4_search_121 : decode cX4_search 121 = .ok (.return_, 1) := by decide +kernel
theorem dX5_init_0 : decode cX5_init 0 = .ok (.aload_n 0, 1) := by decide +kernel
theorem dX5_init_1 : decode cX5_init 1 = .ok (.invokespecial 3, 3) := by decide +kernel
theorem dX5_init_4 : decode cX5_init 4 = .ok (.aload_n 0, 1) := by decide +kernel
theorem dX5_init_5 : decode cX5_init 5 = .ok (.iload_n 1, 1) := by decide +kernel
theorem dX5_init_6 : decode cX5_init 6 = .ok (.iconst 0, 1) := by decide +kernel
theorem dX5_init_7 : decode cX5_init 7 = .ok (.invokestatic 9, 3) := by decide +kernel
theorem dX5_init_10 : decode cX5_init 10 = .ok (.newarray .int, 2) := by decide +kernel
theorem dX5_init_12 : decode cX5_init 12 = .ok (.putfield 15, 3) := by decide +kernel
theorem dX5_init_15 : decode cX5_init 15 = .ok (.aload_n 0, 1) := by decide +kernel
theorem dX5_init_16 : decode cX5_init 16 = .ok (.iconst 0, 1) := by decide +kernel
theorem dX5_init_17 : decode cX5_init 17 = .ok (.putfield 21, 3) := by decide +kernel
theorem dX5_init_20 : decode cX5_init 20 = .ok (.return_, 1) := by decide +kernel
theorem dX5_isFull_0 : decode cX5_isFull 0 = .ok (.aload_n 0, 1) := by decide +kernel
theorem dX5_isFull_1 : decode cX5_isFull 1 = .ok (.getfield 21, 3) := by decide +kernel
theorem dX5_isFull_4 : decode cX5_isFull 4 = .ok (.aload_n 0, 1) := by decide +kernel
theorem dX5_isFull_5 : decode cX5_isFull 5 = .ok (.getfield 15, 3) := by decide +kernel
theorem dX5_isFull_8 : decode cX5_isFull 8 = .ok (.arraylength, 1) := by decide +kernel
theorem dX5_isFull_9 : decode cX5_isFull 9 = .ok (.if_icmp .lt 7, 3) := by decide +kernel
theorem dX5_isFull_12 : decode cX5_isFull 12 = .ok (.iconst 1, 1) := by decide +kernel
theorem dX5_isFull_13 : decode cX5_isFull 13 = .ok (.goto 4, 3) := by decide +kernel
theorem dX5_isFull_16 : decode cX5_isFull 16 = .ok (.iconst 0, 1) := by decide +kernel
theorem dX5_isFull_17 : decode cX5_isFull 17 = .ok (.ireturn, 1) := by decide +kernel
theorem dX5_add_0 : decode cX5_add 0 = .ok (.aload_n 0, 1) := by decide +kernel
theorem dX5_add_1 : decode cX5_add 1 = .ok (.getfield 21, 3) := by decide +kernel
theorem dX5_add_4 : decode cX5_add 4 = .ok (.aload_n 0, 1) := by decide +kernel
theorem dX5_add_5 : decode cX5_add 5 = .ok (.getfield 15, 3) := by decide +kernel
theorem dX5_add_8 : decode cX5_add 8 = .ok (.arraylength, 1) := by decide +kernel
theorem dX5_add_9 : decode cX5_add 9 = .ok (.if_icmp .ge 23, 3) := by decide +kernel
theorem dX5_add_12 : decode cX5_add 12 = .ok (.aload_n 0, 1) := by decide +kernel
theorem dX5_add_13 : decode cX5_add 13 = .ok (.getfield 15, 3) := by decide +kernel
theorem dX5_add_16 : decode cX5_add 16 = .ok (.aload_n 0, 1) := by decide +kernel
theorem dX5_add_17 : decode cX5_add 17 = .ok (.getfield 21, 3) := by decide +kernel
theorem dX5_add_20 : decode cX5_add 20 = .ok (.iload_n 1, 1) := by decide +kernel
theorem dX5_add_21 : decode cX5_add 21 = .ok (.iastore, 1) := by decide +kernel
theorem dX5_add_22 : decode cX5_add 22 = .ok (.aload_n 0, 1) := by decide +kernel
theorem dX5_add_23 : decode cX5_add 23 = .ok (.dup, 1) := by decide +kernel
theorem dX5_add_24 : decode cX5_add 24 = .ok (.getfield 21, 3) := by decide +kernel
theorem dX5_add_27 : decode cX5_add 27 = .ok (.iconst 1, 1) := by decide +kernel
theorem dX5_add_28 : decode cX5_add 28 = .ok (.iadd, 1) := by decide +kernel
theorem dX5_add_29 : decode cX5_add 29 = .ok (.putfield 21, 3) := by decide +kernel
theorem dX5_add_32 : decode cX5_add 32 = .ok (.aload_n 0, 1) := by decide +kernel
theorem dX5_add_33 : decode cX5_add 33 = .ok (.getfield 21, 3) := by decide +kernel
theorem dX5_add_36 : decode cX5_add 36 = .ok (.ireturn, 1) := by decide +kernel
theorem dX5_empty_0 : decode cX5_empty 0 = .ok (.aload_n 0, 1) := by decide +kernel
theorem dX5_empty_1 : decode cX5_empty 1 = .ok (.getfield 21, 3) := by decide +kernel
theorem dX5_empty_4 : decode cX5_empty 4 = .ok (.istore_n 1, 1) := by decide +kernel
theorem dX5_empty_5 : decode cX5_empty 5 = .ok (.aload_n 0, 1) := by decide +kernel
theorem dX5_empty_6 : decode cX5_empty 6 = .ok (.iconst 0, 1) := by decide +kernel
theorem dX5_empty_7 : decode cX5_empty 7 = .ok (.putfield 21, 3) := by decide +kernel
theorem dX5_empty_10 : decode cX5_empty 10 = .ok (.iload_n 1, 1) := by decide +kernel
theorem dX5_empty_11 : decode cX5_empty 11 = .ok (.ireturn, 1) := by decide +kernel
theorem dX5_at_0 : decode cX5_at 0 = .ok (.iload_n 1, 1) := by decide +kernel
theorem dX5_at_1 : decode cX5_at 1 = .ok (.ifCond .lt 20, 3) := by decide +kernel
theorem dX5_at_4 : decode cX5_at 4 = .ok (.iload_n 1, 1) := by decide +kernel
theorem dX5_at_5 : decode cX5_at 5 = .ok (.aload_n 0, 1) := by decide +kernel
theorem dX5_at_6 : decode cX5_at 6 = .ok (.getfield 21, 3) := by decide +kernel
theorem dX5_at_9 : decode cX5_at 9 = .ok (.if_icmp .ge 12, 3) := by decide +kernel
theorem dX5_at_12 : decode cX5_at 12 = .ok (.aload_n 0, 1) := by decide +kernel
theorem dX5_at_13 : decode cX5_at 13 = .ok (.getfield 15, 3) := by decide +kernel
theorem dX5_at_16 : decode cX5_at 16 = .ok (.iload_n 1, 1) := by decide +kernel
theorem dX5_at_17 : decode cX5_at 17 = .ok (.iaload, 1) := by decide +kernel
theorem dX5_at_18 : decode cX5_at 18 = .ok (.goto 5, 3) := by decide +kernel
theorem dX5_at_21 : decode cX5_at 21 = .ok (.bipush (-6), 2) := by decide +kernel
theorem dX5_at_23 : decode cX5_at 23 = .ok (.ireturn, 1) := by decide +kernel
theorem dX6_init_0 : decode cX6_init 0 = .ok (.aload_n 0, 1) := by decide +kernel
theorem dX6_init_1 : decode cX6_init 1 = .ok (.invokespecial 3, 3) := by decide +kernel
theorem dX6_init_4 : decode cX6_init 4 = .ok (.aload_n 0, 1) := by decide +kernel
theorem dX6_init_5 : decode cX6_init 5 = .ok (.iconst 5, 1) := by decide +kernel
theorem dX6_init_6 : decode cX6_init 6 = .ok (.newarray .int, 2) := by decide +kernel
theorem dX6_init_8 : decode cX6_init 8 = .ok (.putfield 9, 3) := by decide +kernel
theorem dX6_init_11 : decode cX6_init 11 = .ok (.return_, 1) := by decide +kernel
theorem dX6_ownCode_0 : decode cX6_ownCode 0 = .ok (.bipush (-6), 2) := by decide +kernel
theorem dX6_ownCode_2 : decode cX6_ownCode 2 = .ok (.istore_n 1, 1) := by decide +kernel
theorem dX6_ownCode_3 : decode cX6_ownCode 3 = .ok (.iconst 0, 1) := by decide +kernel
theorem dX6_ownCode_4 : decode cX6_ownCode 4 = .ok (.istore_n 2, 1) := by decide +kernel
theorem dX6_ownCode_5 : decode cX6_ownCode 5 = .ok (.iconst 0, 1) := by decide +kernel
theorem dX6_ownCode_6 : decode cX6_ownCode 6 = .ok (.istore_n 3, 1) := by decide +kernel
theorem dX6_ownCode_7 : decode cX6_ownCode 7 = .ok (.iload_n 3, 1) := by decide +kernel
theorem dX6_ownCode_8 : decode cX6_ownCode 8 = .ok (.iconst 5, 1) := by decide +kernel
theorem dX6_ownCode_9 : decode cX6_ownCode 9 = .ok (.if_icmp .ge 28, 3) := by decide +kernel
theorem dX6_ownCode_12 : decode cX6_ownCode 12 = .ok (.aload_n 0, 1) := by decide +kernel
theorem dX6_ownCode_13 : decode cX6_ownCode 13 = .ok (.getfield 9, 3) := by decide +kernel
theorem dX6_ownCode_16 : decode cX6_ownCode 16 = .ok (.iload_n 3, 1) := by decide +kernel
theorem dX6_ownCode_17 : decode cX6_ownCode 17 = .ok (.iaload, 1) := by decide +kernel
theorem dX6_ownCode_18 : decode cX6_ownCode 18 = .ok (.iload_n 2, 1) := by decide +kernel
theorem dX6_ownCode_19 : decode cX6_ownCode 19 = .ok (.if_icmp .le 12, 3) := by decide +kernel
theorem dX6_ownCode_22 : decode cX6_ownCode 22 = .ok (.aload_n 0, 1) := by decide +kernel
theorem dX6_ownCode_23 : decode cX6_ownCode 23 = .ok (.getfield 9, 3) := by decide +kernel
theorem dX6_ownCode_26 : decode cX6_ownCode 26 = .ok (.iload_n 3, 1) := by decide +kernel
theorem dX6_ownCode_27 : decode cX6_ownCode 27 = .ok (.iaload, 1) := by decide +kernel
theorem dX6_ownCode_28 : decode cX6_ownCode 28 = .ok (.istore_n 2, 1) := by decide +kernel
theorem dX6_ownCode_29 : decode cX6_ownCode 29 = .ok (.iload_n 3, 1) := by decide +kernel
theorem dX6_ownCode_30 : decode cX6_ownCode 30 = .ok (.istore_n 1, 1) := by decide +kernel
theorem dX6_ownCode_31 : decode cX6_ownCode 31 = .ok (.iinc 3 1, 3) := by decide +kernel
theorem dX6_ownCode_34 : decode cX6_ownCode 34 = .ok (.goto (-27), 3) := by decide +kernel
theorem dX6_ownCode_37 : decode cX6_ownCode 37 = .ok (.iload_n 1, 1) := by decide +kernel
theorem dX6_ownCode_38 : decode cX6_ownCode 38 = .ok (.ireturn, 1) := by decide +kernel
theorem dX6_mostYears_0 : decode cX6_mostYears 0 = .ok (.iconst 0, 1) := by decide +kernel
theorem dX6_mostYears_1 : decode cX6_mostYears 1 = .ok (.istore_n 1, 1) := by decide +kernel
theorem dX6_mostYears_2 : decode cX6_mostYears 2 = .ok (.iconst 0, 1) := by decide +kernel
theorem dX6_mostYears_3 : decode cX6_mostYears 3 = .ok (.istore_n 2, 1) := by decide +kernel
theorem dX6_mostYears_4 : decode cX6_mostYears 4 = .ok (.iload_n 2, 1) := by decide +kernel
theorem dX6_mostYears_5 : decode cX6_mostYears 5 = .ok (.iconst 5, 1) := by decide +kernel
theorem dX6_mostYears_6 : decode cX6_mostYears 6 = .ok (.if_icmp .ge 20, 3) := by decide +kernel
theorem dX6_mostYears_9 : decode cX6_mostYears 9 = .ok (.iload_n 1, 1) := by decide +kernel
theorem dX6_mostYears_10 : decode cX6_mostYears 10 = .ok (.aload_n 0, 1) := by decide +kernel
theorem dX6_mostYears_11 : decode cX6_mostYears 11 = .ok (.getfield 9, 3) := by decide +kernel
theorem dX6_mostYears_14 : decode cX6_mostYears 14 = .ok (.iload_n 2, 1) := by decide +kernel
theorem dX6_mostYears_15 : decode cX6_mostYears 15 = .ok (.iaload, 1) := by decide +kernel
theorem dX6_mostYears_16 : decode cX6_mostYears 16 = .ok (.invokestatic 15, 3) := by decide +kernel
theorem dX6_mostYears_19 : decode cX6_mostYears 19 = .ok (.istore_n 1, 1) := by decide +kernel
theorem dX6_mostYears_20 : decode cX6_mostYears 20 = .ok (.iinc 2 1, 3) := by decide +kernel
theorem dX6_mostYears_23 : decode cX6_mostYears 23 = .ok (.goto (-19), 3) := by decide +kernel
theorem dX6_mostYears_26 : decode cX6_mostYears 26 = .ok (.iload_n 1, 1) := by decide +kernel
theorem dX6_mostYears_27 : decode cX6_mostYears 27 = .ok (.ireturn, 1) := by decide +kernel
theorem dX6_knownCodes_0 : decode cX6_knownCodes 0 = .ok (.iconst 0, 1) := by decide +kernel
theorem dX6_knownCodes_1 : decode cX6_knownCodes 1 = .ok (.istore_n 1, 1) := by decide +kernel
theorem dX6_knownCodes_2 : decode cX6_knownCodes 2 = .ok (.iconst 0, 1) := by decide +kernel
theorem dX6_knownCodes_3 : decode cX6_knownCodes 3 = .ok (.istore_n 2, 1) := by decide +kernel
theorem dX6_knownCodes_4 : decode cX6_knownCodes 4 = .ok (.iload_n 2, 1) := by decide +kernel
theorem dX6_knownCodes_5 : decode cX6_knownCodes 5 = .ok (.iconst 5, 1) := by decide +kernel
theorem dX6_knownCodes_6 : decode cX6_knownCodes 6 = .ok (.if_icmp .ge 28, 3) := by decide +kernel
theorem dX6_knownCodes_9 : decode cX6_knownCodes 9 = .ok (.iload_n 1, 1) := by decide +kernel
theorem dX6_knownCodes_10 : decode cX6_knownCodes 10 = .ok (.aload_n 0, 1) := by decide +kernel
theorem dX6_knownCodes_11 : decode cX6_knownCodes 11 = .ok (.getfield 9, 3) := by decide +kernel
theorem dX6_knownCodes_14 : decode cX6_knownCodes 14 = .ok (.iload_n 2, 1) := by decide +kernel
theorem dX6_knownCodes_15 : decode cX6_knownCodes 15 = .ok (.iaload, 1) := by decide +kernel
theorem dX6_knownCodes_16 : decode cX6_knownCodes 16 = .ok (.ifCond .le 9, 3) := by decide +kernel
theorem dX6_knownCodes_19 : decode cX6_knownCodes 19 = .ok (.iconst 1, 1) := by decide +kernel
theorem dX6_knownCodes_20 : decode cX6_knownCodes 20 = .ok (.iload_n 2, 1) := by decide +kernel
theorem dX6_knownCodes_21 : decode cX6_knownCodes 21 = .ok (.ishl, 1) := by decide +kernel
theorem dX6_knownCodes_22 : decode cX6_knownCodes 22 = .ok (.goto 4, 3) := by decide +kernel
theorem dX6_knownCodes_25 : decode cX6_knownCodes 25 = .ok (.iconst 0, 1) := by decide +kernel
theorem dX6_knownCodes_26 : decode cX6_knownCodes 26 = .ok (.ior, 1) := by decide +kernel
theorem dX6_knownCodes_27 : decode cX6_knownCodes 27 = .ok (.istore_n 1, 1) := by decide +kernel
theorem dX6_knownCodes_28 : decode cX6_knownCodes 28 = .ok (.iinc 2 1, 3) := by decide +kernel
theorem dX6_knownCodes_31 : decode cX6_knownCodes 31 = .ok (.goto (-27), 3) := by decide +kernel
theorem dX6_knownCodes_34 : decode cX6_knownCodes 34 = .ok (.iload_n 1, 1) := by decide +kernel
theorem dX6_knownCodes_35 : decode cX6_knownCodes 35 = .ok (.ireturn, 1) := by decide +kernel
theorem dX7_faultOf_0 : decode cX7_faultOf 0 = .ok (.iconst 0, 1) := by decide +kernel
theorem dX7_faultOf_1 : decode cX7_faultOf 1 = .ok (.istore_n 1, 1) := by decide +kernel
theorem dX7_faultOf_2 : decode cX7_faultOf 2 = .ok (.iconst 0, 1) := by decide +kernel
theorem dX7_faultOf_3 : decode cX7_faultOf 3 = .ok (.istore_n 2, 1) := by decide +kernel
theorem dX7_faultOf_4 : decode cX7_faultOf 4 = .ok (.iload_n 2, 1) := by decide +kernel
theorem dX7_faultOf_5 : decode cX7_faultOf 5 = .ok (.aload_n 0, 1) := by decide +kernel
theorem dX7_faultOf_6 : decode cX7_faultOf 6 = .ok (.getfield 11, 3) := by decide +kernel
theorem dX7_faultOf_9 : decode cX7_faultOf 9 = .ok (.if_icmp .ge 27, 3) := by decide +kernel
theorem dX7_faultOf_12 : decode cX7_faultOf 12 = .ok (.iload_n 1, 1) := by decide +kernel
theorem dX7_faultOf_13 : decode cX7_faultOf 13 = .ok (.aload_n 0, 1) := by decide +kernel
theorem dX7_faultOf_14 : decode cX7_faultOf 14 = .ok (.iload_n 2, 1) := by decide +kernel
theorem dX7_faultOf_15 : decode cX7_faultOf 15 = .ok (.invokevirtual 17, 3) := by decide +kernel
theorem dX7_faultOf_18 : decode cX7_faultOf 18 = .ok (.invokestatic 21, 3) := by decide +kernel
theorem dX7_faultOf_21 : decode cX7_faultOf 21 = .ok (.istore_n 1, 1) := by decide +kernel
theorem dX7_faultOf_22 : decode cX7_faultOf 22 = .ok (.iload_n 1, 1) := by decide +kernel
theorem dX7_faultOf_23 : decode cX7_faultOf 23 = .ok (.bipush (-6), 2) := by decide +kernel
theorem dX7_faultOf_25 : decode cX7_faultOf 25 = .ok (.if_icmp .ne 5, 3) := by decide +kernel
theorem dX7_faultOf_28 : decode cX7_faultOf 28 = .ok (.iload_n 2, 1) := by decide +kernel
theorem dX7_faultOf_29 : decode cX7_faultOf 29 = .ok (.ireturn, 1) := by decide +kernel
theorem dX7_faultOf_30 : decode cX7_faultOf 30 = .ok (.iinc 2 1, 3) := by decide +kernel
theorem dX7_faultOf_33 : decode cX7_faultOf 33 = .ok (.goto (-29), 3) := by decide +kernel
theorem dX7_faultOf_36 : decode cX7_faultOf 36 = .ok (.iload_n 1, 1) := by decide +kernel
theorem dX7_faultOf_37 : decode cX7_faultOf 37 = .ok (.iconst 3, 1) := by decide +kernel
theorem dX7_faultOf_38 : decode cX7_faultOf 38 = .ok (.if_icmp .lt 8, 3) := by decide +kernel
theorem dX7_faultOf_41 : decode cX7_faultOf 41 = .ok (.bipush (-6), 2) := by decide +kernel
theorem dX7_faultOf_43 : decode cX7_faultOf 43 = .ok (.goto 7, 3) := by decide +kernel
theorem dX7_faultOf_46 : decode cX7_faultOf 46 = .ok (.aload_n 0, 1) := by decide +kernel
theorem dX7_faultOf_47 : decode cX7_faultOf 47 = .ok (.getfield 11, 3) := by decide +kernel
theorem dX7_faultOf_50 : decode cX7_faultOf 50 = .ok (.ireturn, 1) := by decide +kernel
theorem dX7_stateAfter_0 : decode cX7_stateAfter 0 = .ok (.iload_n 0, 1) := by decide +kernel
theorem dX7_stateAfter_1 : decode cX7_stateAfter 1 = .ok (.ifCond .ne 17, 3) := by decide +kernel
theorem dX7_stateAfter_4 : decode cX7_stateAfter 4 = .ok (.iload_n 1, 1) := by decide +kernel
theorem dX7_stateAfter_5 : decode cX7_stateAfter 5 = .ok (.invokestatic 25, 3) := by decide +kernel
theorem dX7_stateAfter_8 : decode cX7_stateAfter 8 = .ok (.ifCond .eq 7, 3) := by decide +kernel
theorem dX7_stateAfter_11 : decode cX7_stateAfter 11 = .ok (.iconst 1, 1) := by decide +kernel
theorem dX7_stateAfter_12 : decode cX7_stateAfter 12 = .ok (.goto 5, 3) := by decide +kernel
theorem dX7_stateAfter_15 : decode cX7_stateAfter 15 = .ok (.bipush (-6), 2) := by decide +kernel
theorem dX7_stateAfter_17 : decode cX7_stateAfter 17 = .ok (.ireturn, 1) := by decide +kernel
theorem dX7_stateAfter_18 : decode cX7_stateAfter 18 = .ok (.iload_n 0, 1) := by decide +kernel
theorem dX7_stateAfter_19 : decode cX7_stateAfter 19 = .ok (.iconst 1, 1) := by decide +kernel
theorem dX7_stateAfter_20 : decode cX7_stateAfter 20 = .ok (.if_icmp .ne 17, 3) := by decide +kernel
theorem dX7_stateAfter_23 : decode cX7_stateAfter 23 = .ok (.iload_n 1, 1) := by decide +kernel
theorem dX7_stateAfter_24 : decode cX7_stateAfter 24 = .ok (.invokestatic 29, 3) := by decide +kernel
theorem dX7_stateAfter_27 : decode cX7_stateAfter 27 = .ok (.ifCond .eq 7, 3) := by decide +kernel
theorem dX7_stateAfter_30 : decode cX7_stateAfter 30 = .ok (.iconst 2, 1) := by decide +kernel
theorem dX7_stateAfter_31 : decode cX7_stateAfter 31 = .ok (.goto 5, 3) := by decide +kernel
theorem dX7_stateAfter_34 : decode cX7_stateAfter 34 = .ok (.bipush (-6), 2) := by decide +kernel
theorem dX7_stateAfter_36 : decode cX7_stateAfter 36 = .ok (.ireturn, 1) := by decide +kernel
theorem dX7_stateAfter_37 : decode cX7_stateAfter 37 = .ok (.iload_n 1, 1) := by decide +kernel
theorem dX7_stateAfter_38 : decode cX7_stateAfter 38 = .ok (.invokestatic 32, 3) := by decide +kernel
theorem dX7_stateAfter_41 : decode cX7_stateAfter 41 = .ok (.ifCond .eq 17, 3) := by decide +kernel
theorem dX7_stateAfter_44 : decode cX7_stateAfter 44 = .ok (.iload_n 0, 1) := by decide +kernel
theorem dX7_stateAfter_45 : decode cX7_stateAfter 45 = .ok (.iconst 5, 1) := by decide +kernel
theorem dX7_stateAfter_46 : decode cX7_stateAfter 46 = .ok (.if_icmp .ge 9, 3) := by decide +kernel
theorem dX7_stateAfter_49 : decode cX7_stateAfter 49 = .ok (.iload_n 0, 1) := by decide +kernel
theorem dX7_stateAfter_50 : decode cX7_stateAfter 50 = .ok (.iconst 1, 1) := by decide +kernel
theorem dX7_stateAfter_51 : decode cX7_stateAfter 51 = .ok (.iadd, 1) := by decide +kernel
theorem dX7_stateAfter_52 : decode cX7_stateAfter 52 = .ok (.goto 5, 3) := by decide +kernel
theorem dX7_stateAfter_55 : decode cX7_stateAfter 55 = .ok (.bipush (-6), 2) := by decide +kernel
theorem dX7_stateAfter_57 : decode cX7_stateAfter 57 = .ok (.ireturn, 1) := by decide +kernel
theorem dX7_stateAfter_58 : decode cX7_stateAfter 58 = .ok (.iload_n 0, 1) := by decide +kernel
theorem dX7_stateAfter_59 : decode cX7_stateAfter 59 = .ok (.iconst 3, 1) := by decide +kernel
theorem dX7_stateAfter_60 : decode cX7_stateAfter 60 = .ok (.if_icmp .lt 14, 3) := by decide +kernel
theorem dX7_stateAfter_63 : decode cX7_stateAfter 63 = .ok (.iload_n 1, 1) := by decide +kernel
theorem dX7_stateAfter_64 : decode cX7_stateAfter 64 = .ok (.invokestatic 35, 3) := by decide +kernel
theorem dX7_stateAfter_67 : decode cX7_stateAfter 67 = .ok (.ifCond .eq 7, 3) := by decide +kernel
theorem dX7_stateAfter_70 : decode cX7_stateAfter 70 = .ok (.iconst 0, 1) := by decide +kernel
theorem dX7_stateAfter_71 : decode cX7_stateAfter 71 = .ok (.goto 5, 3) := by decide +kernel
theorem dX7_stateAfter_74 : decode cX7_stateAfter 74 = .ok (.bipush (-6), 2) := by decide +kernel
theorem dX7_stateAfter_76 : decode cX7_stateAfter 76 = .ok (.ireturn, 1) := by decide +kernel
theorem dX7_isSubject_0 : decode cX7_isSubject 0 = .ok (.iload_n 0, 1) := by decide +kernel
theorem dX7_isSubject_1 : decode cX7_isSubject 1 = .ok (.bipush 97, 2) := by decide +kernel
theorem dX7_isSubject_3 : decode cX7_isSubject 3 = .ok (.if_icmp .eq 21, 3) := by decide +kernel
theorem dX7_isSubject_6 : decode cX7_isSubject 6 = .ok (.iload_n 0, 1) := by decide +kernel
theorem dX7_isSubject_7 : decode cX7_isSubject 7 = .ok (.bipush 121, 2) := by decide +kernel
theorem dX7_isSubject_9 : decode cX7_isSubject 9 = .ok (.if_icmp .eq 15, 3) := by decide +kernel
theorem dX7_isSubject_12 : decode cX7_isSubject 12 = .ok (.iload_n 0, 1) := by decide +kernel
theorem dX7_isSubject_13 : decode cX7_isSubject 13 = .ok (.bipush 107, 2) := by decide +kernel
theorem dX7_isSubject_15 : decode cX7_isSubject 15 = .ok (.if_icmp .eq 9, 3) := by decide +kernel
theorem dX7_isSubject_18 : decode cX7_isSubject 18 = .ok (.iload_n 0, 1) := by decide +kernel
theorem dX7_isSubject_19 : decode cX7_isSubject 19 = .ok (.bipush 115, 2) := by decide +kernel
theorem dX7_isSubject_21 : decode cX7_isSubject 21 = .ok (.if_icmp .ne 7, 3) := by decide +kernel
theorem dX7_isSubject_24 : decode cX7_isSubject 24 = .ok (.iconst 1, 1) := by decide +kernel
theorem dX7_isSubject_25 : decode cX7_isSubject 25 = .ok (.goto 4, 3) := by decide +kernel
theorem dX7_isSubject_28 : decode cX7_isSubject 28 = .ok (.iconst 0, 1) := by decide +kernel
theorem dX7_isSubject_29 : decode cX7_isSubject 29 = .ok (.ireturn, 1) := by decide +kernel
theorem dX7_isComparison_0 : decode cX7_isComparison 0 = .ok (.iload_n 0, 1) := by decide +kernel
theorem dX7_isComparison_1 : decode cX7_isComparison 1 = .ok (.bipush 60, 2) := by decide +kernel
theorem dX7_isComparison_3 : decode cX7_isComparison 3 = .ok (.if_icmp .eq 15, 3) := by decide +kernel
theorem dX7_isComparison_6 : decode cX7_isComparison 6 = .ok (.iload_n 0, 1) := by decide +kernel
theorem dX7_isComparison_7 : decode cX7_isComparison 7 = .ok (.bipush 62, 2) := by decide +kernel
theorem dX7_isComparison_9 : decode cX7_isComparison 9 = .ok (.if_icmp .eq 9, 3) := by decide +kernel
theorem dX7_isComparison_12 : decode cX7_isComparison 12 = .ok (.iload_n 0, 1) := by decide +kernel
theorem dX7_isComparison_13 : decode cX7_isComparison 13 = .ok (.bipush 61, 2) := by decide +kernel
theorem dX7_isComparison_15 : decode cX7_isComparison 15 = .ok (.if_icmp .ne 7, 3) := by decide +kernel
theorem dX7_isComparison_18 : decode cX7_isComparison 18 = .ok (.iconst 1, 1) := by decide +kernel
theorem dX7_isComparison_19 : decode cX7_isComparison 19 = .ok (.goto 4, 3) := by decide +kernel
theorem dX7_isComparison_22 : decode cX7_isComparison 22 = .ok (.iconst 0, 1) := by decide +kernel
theorem dX7_isComparison_23 : decode cX7_isComparison 23 = .ok (.ireturn, 1) := by decide +kernel
theorem dX7_isDigit_0 : decode cX7_isDigit 0 = .ok (.iload_n 0, 1) := by decide +kernel
theorem dX7_isDigit_1 : decode cX7_isDigit 1 = .ok (.bipush 48, 2) := by decide +kernel
theorem dX7_isDigit_3 : decode cX7_isDigit 3 = .ok (.if_icmp .lt 13, 3) := by decide +kernel
theorem dX7_isDigit_6 : decode cX7_isDigit 6 = .ok (.iload_n 0, 1) := by decide +kernel
theorem dX7_isDigit_7 : decode cX7_isDigit 7 = .ok (.bipush 57, 2) := by decide +kernel
theorem dX7_isDigit_9 : decode cX7_isDigit 9 = .ok (.if_icmp .gt 7, 3) := by decide +kernel
theorem dX7_isDigit_12 : decode cX7_isDigit 12 = .ok (.iconst 1, 1) := by decide +kernel
theorem dX7_isDigit_13 : decode cX7_isDigit 13 = .ok (.goto 4, 3) := by decide +kernel
theorem dX7_isDigit_16 : decode cX7_isDigit 16 = .ok (.iconst 0, 1) := by decide +kernel
theorem dX7_isDigit_17 : decode cX7_isDigit 17 = .ok (.ireturn, 1) := by decide +kernel
theorem dX7_isJoint_0 : decode cX7_isJoint 0 = .ok (.iload_n 0, 1) := by decide +kernel
theorem dX7_isJoint_1 : decode cX7_isJoint 1 = .ok (.bipush 38, 2) := by decide +kernel
theorem dX7_isJoint_3 : decode cX7_isJoint 3 = .ok (.if_icmp .eq 9, 3) := by decide +kernel
theorem dX7_isJoint_6 : decode cX7_isJoint 6 = .ok (.iload_n 0, 1) := by decide +kernel
theorem dX7_isJoint_7 : decode cX7_isJoint 7 = .ok (.bipush 124, 2) := by decide +kernel
theorem dX7_isJoint_9 : decode cX7_isJoint 9 = .ok (.if_icmp .ne 7, 3) := by decide +kernel
theorem dX7_isJoint_12 : decode cX7_isJoint 12 = .ok (.iconst 1, 1) := by decide +kernel
theorem dX7_isJoint_13 : decode cX7_isJoint 13 = .ok (.goto 4, 3) := by decide +kernel
theorem dX7_isJoint_16 : decode cX7_isJoint 16 = .ok (.iconst 0, 1) := by decide +kernel
theorem dX7_isJoint_17 : decode cX7_isJoint 17 = .ok (.ireturn, 1) := by decide +kernel
theorem dX7_allows_0 : decode cX7_allows 0 = .ok (.aload_n 0, 1) := by decide +kernel
theorem dX7_allows_1 : decode cX7_allows 1 = .ok (.getfield 11, 3) := by decide +kernel
theorem dX7_allows_4 : decode cX7_allows 4 = .ok (.ifCond .le 7, 3) := by decide +kernel
theorem dX7_allows_7 : decode cX7_allows 7 = .ok (.iconst 1, 1) := by decide +kernel
theorem dX7_allows_8 : decode cX7_allows 8 = .ok (.goto 4, 3) := by decide +kernel
theorem dX7_allows_11 : decode cX7_allows 11 = .ok (.iconst 0, 1) := by decide +kernel
theorem dX7_allows_12 : decode cX7_allows 12 = .ok (.istore_n 2, 1) := by decide +kernel
theorem dX7_allows_13 : decode cX7_allows 13 = .ok (.iconst 0, 1) := by decide +kernel
theorem dX7_allows_14 : decode cX7_allows 14 = .ok (.istore_n 3, 1) := by decide +kernel
theorem dX7_allows_15 : decode cX7_allows 15 = .ok (.iconst 0, 1) := by decide +kernel
theorem dX7_allows_16 : decode cX7_allows 16 = .ok (.istore 4, 2) := by decide +kernel
theorem dX7_allows_18 : decode cX7_allows 18 = .ok (.iconst 0, 1) := by decide +kernel
theorem dX7_allows_19 : decode cX7_allows 19 = .ok (.istore 5, 2) := by decide +kernel
theorem dX7_allows_21 : decode cX7_allows 21 = .ok (.iconst 0, 1) := by decide +kernel
theorem dX7_allows_22 : decode cX7_allows 22 = .ok (.istore 6, 2) := by decide +kernel
theorem dX7_allows_24 : decode cX7_allows 24 = .ok (.iload 6, 2) := by decide +kernel
theorem dX7_allows_26 : decode cX7_allows 26 = .ok (.aload_n 0, 1) := by decide +kernel
theorem dX7_allows_27 : decode cX7_allows 27 = .ok (.getfield 11, 3) := by decide +kernel
theorem dX7_allows_30 : decode cX7_allows 30 = .ok (.if_icmp .ge 113, 3) := by decide +kernel
theorem dX7_allows_33 : decode cX7_allows 33 = .ok (.aload_n 0, 1) := by decide +kernel
theorem dX7_allows_34 : decode cX7_allows 34 = .ok (.iload 6, 2) := by decide +kernel
theorem dX7_allows_36 : decode cX7_allows 36 = .ok (.invokevirtual 17, 3) := by decide +kernel
theorem dX7_allows_39 : decode cX7_allows 39 = .ok (.istore 7, 2) := by decide +kernel
theorem dX7_allows_41 : decode cX7_allows 41 = .ok (.iload 7, 2) := by decide +kernel
theorem dX7_allows_43 : decode cX7_allows 43 = .ok (.invokestatic 32, 3) := by decide +kernel
theorem dX7_allows_46 : decode cX7_allows 46 = .ok (.ifCond .eq 19, 3) := by decide +kernel
theorem dX7_allows_49 : decode cX7_allows 49 = .ok (.iload 5, 2) := by decide +kernel
theorem dX7_allows_51 : decode cX7_allows 51 = .ok (.bipush 10, 2) := by decide +kernel
theorem dX7_allows_53 : decode cX7_allows 53 = .ok (.imul, 1) := by decide +kernel
theorem dX7_allows_54 : decode cX7_allows 54 = .ok (.iload 7, 2) := by decide +kernel
theorem dX7_allows_56 : decode cX7_allows 56 = .ok (.iadd, 1) := by decide +kernel
theorem dX7_allows_57 : decode cX7_allows 57 = .ok (.bipush 48, 2) := by decide +kernel
theorem dX7_allows_59 : decode cX7_allows 59 = .ok (.isub, 1) := by decide +kernel
theorem dX7_allows_60 : decode cX7_allows 60 = .ok (.istore 5, 2) := by decide +kernel
theorem dX7_allows_62 : decode cX7_allows 62 = .ok (.goto 75, 3) := by decide +kernel
theorem dX7_allows_65 : decode cX7_allows 65 = .ok (.iload 7, 2) := by decide +kernel
theorem dX7_allows_67 : decode cX7_allows 67 = .ok (.invokestatic 29, 3) := by decide +kernel
theorem dX7_allows_70 : decode cX7_allows 70 = .ok (.ifCond .eq 10, 3) := by decide +kernel
theorem dX7_allows_73 : decode cX7_allows 73 = .ok (.iload 7, 2) := by decide +kernel
theorem dX7_allows_75 : decode cX7_allows 75 = .ok (.istore 4, 2) := by decide +kernel
theorem dX7_allows_77 : decode cX7_allows 77 = .ok (.goto 60, 3) := by decide +kernel
theorem dX7_allows_80 : decode cX7_allows 80 = .ok (.iload 7, 2) := by decide +kernel
theorem dX7_allows_82 : decode cX7_allows 82 = .ok (.invokestatic 25, 3) := by decide +kernel
theorem dX7_allows_85 : decode cX7_allows 85 = .ok (.ifCond .eq 13, 3) := by decide +kernel
theorem dX7_allows_88 : decode cX7_allows 88 = .ok (.iload 7, 2) := by decide +kernel
theorem dX7_allows_90 : decode cX7_allows 90 = .ok (.aload_n 1, 1) := by decide +kernel
theorem dX7_allows_91 : decode cX7_allows 91 = .ok (.invokestatic 38, 3) := by decide +kernel
theorem dX7_allows_94 : decode cX7_allows 94 = .ok (.istore_n 3, 1) := by decide +kernel
theorem dX7_allows_95 : decode cX7_allows 95 = .ok (.goto 42, 3) := by decide +kernel
theorem dX7_allows_98 : decode cX7_allows 98 = .ok (.iload_n 2, 1) := by decide +kernel
theorem dX7_allows_99 : decode cX7_allows 99 = .ok (.ifCond .eq 18, 3) := by decide +kernel
theorem dX7_allows_102 : decode cX7_allows 102 = .ok (.iload_n 3, 1) := by decide +kernel
theorem dX7_allows_103 : decode cX7_allows 103 = .ok (.iload 4, 2) := by decide +kernel
theorem dX7_allows_105 : decode cX7_allows 105 = .ok (.iload 5, 2) := by decide +kernel
theorem dX7_allows_107 : decode cX7_allows 107 = .ok (.invokestatic 42, 3) := by decide +kernel
theorem dX7_allows_110 : decode cX7_allows 110 = .ok (.ifCond .eq 7, 3) := by decide +kernel
theorem dX7_allows_113 : decode cX7_allows 113 = .ok (.iconst 1, 1) := by decide +kernel
theorem dX7_allows_114 : decode cX7_allows 114 = .ok (.goto 4, 3) := by decide +kernel
theorem dX7_allows_117 : decode cX7_allows 117 = .ok (.iconst 0, 1) := by decide +kernel
theorem dX7_allows_118 : decode cX7_allows 118 = .ok (.istore_n 2, 1) := by decide +kernel
theorem dX7_allows_119 : decode cX7_allows 119 = .ok (.iconst 0, 1) := by decide +kernel
theorem dX7_allows_120 : decode cX7_allows 120 = .ok (.istore 5, 2) := by decide +kernel
theorem dX7_allows_122 : decode cX7_allows 122 = .ok (.iload 7, 2) := by decide +kernel
theorem dX7_allows_124 : decode cX7_allows 124 = .ok (.bipush 124, 2) := by decide +kernel
theorem dX7_allows_126 : decode cX7_allows 126 = .ok (.if_icmp .ne 11, 3) := by decide +kernel
theorem dX7_allows_129 : decode cX7_allows 129 = .ok (.iload_n 2, 1) := by decide +kernel
theorem dX7_allows_130 : decode cX7_allows 130 = .ok (.ifCond .eq 5, 3) := by decide +kernel
theorem dX7_allows_133 : decode cX7_allows 133 = .ok (.iconst 1, 1) := by decide +kernel
theorem dX7_allows_134 : decode cX7_allows 134 = .ok (.ireturn, 1) := by decide +kernel
theorem dX7_allows_135 : decode cX7_allows 135 = .ok (.iconst 1, 1) := by decide +kernel
theorem dX7_allows_136 : decode cX7_allows 136 = .ok (.istore_n 2, 1) := by decide +kernel
theorem dX7_allows_137 : decode cX7_allows 137 = .ok (.iinc 6 1, 3) := by decide +kernel
theorem dX7_allows_140 : decode cX7_allows 140 = .ok (.goto (-116), 3) := by decide +kernel
theorem dX7_allows_143 : decode cX7_allows 143 = .ok (.iload_n 2, 1) := by decide +kernel
theorem dX7_allows_144 : decode cX7_allows 144 = .ok (.ifCond .eq 18, 3) := by decide +kernel
theorem dX7_allows_147 : decode cX7_allows 147 = .ok (.iload_n 3, 1) := by decide +kernel
theorem dX7_allows_148 : decode cX7_allows 148 = .ok (.iload 4, 2) := by decide +kernel
theorem dX7_allows_150 : decode cX7_allows 150 = .ok (.iload 5, 2) := by decide +kernel
theorem dX7_allows_152 : decode cX7_allows 152 = .ok (.invokestatic 42, 3) := by decide +kernel
theorem dX7_allows_155 : decode cX7_allows 155 = .ok (.ifCond .eq 7, 3) := by decide +kernel
theorem dX7_allows_158 : decode cX7_allows 158 = .ok (.iconst 1, 1) := by decide +kernel
theorem dX7_allows_159 : decode cX7_allows 159 = .ok (.goto 4, 3) := by decide +kernel
theorem dX7_allows_162 : decode cX7_allows 162 = .ok (.iconst 0, 1) := by decide +kernel
theorem dX7_allows_163 : decode cX7_allows 163 = .ok (.ireturn, 1) := by decide +kernel
theorem dX7_valueOf_0 : decode cX7_valueOf 0 = .ok (.iload_n 0, 1) := by decide +kernel
theorem dX7_valueOf_1 : decode cX7_valueOf 1 = .ok (.lookupswitch 53 #[(97, 35), (107, 45), (121, 40)], 35) := by decide +kernel
theorem dX7_valueOf_36 : decode cX7_valueOf 36 = .ok (.aload_n 1, 1) := by decide +kernel
theorem dX7_valueOf_37 : decode cX7_valueOf 37 = .ok (.getfield 46, 3) := by decide +kernel
theorem dX7_valueOf_40 : decode cX7_valueOf 40 = .ok (.ireturn, 1) := by decide +kernel
theorem dX7_valueOf_41 : decode cX7_valueOf 41 = .ok (.aload_n 1, 1) := by decide +kernel
theorem dX7_valueOf_42 : decode cX7_valueOf 42 = .ok (.invokevirtual 51, 3) := by decide +kernel
theorem dX7_valueOf_45 : decode cX7_valueOf 45 = .ok (.ireturn, 1) := by decide +kernel
theorem dX7_valueOf_46 : decode cX7_valueOf 46 = .ok (.aload_n 1, 1) := by decide +kernel
theorem dX7_valueOf_47 : decode cX7_valueOf 47 = .ok (.invokevirtual 55, 3) := by decide +kernel
theorem dX7_valueOf_50 : decode cX7_valueOf 50 = .ok (.invokestatic 58, 3) := by decide +kernel
theorem dX7_valueOf_53 : decode cX7_valueOf 53 = .ok (.ireturn, 1) := by decide +kernel
theorem dX7_valueOf_54 : decode cX7_valueOf 54 = .ok (.aload_n 1, 1) := by decide +kernel
theorem dX7_valueOf_55 : decode cX7_valueOf 55 = .ok (.getfield 63, 3) := by decide +kernel
theorem dX7_valueOf_58 : decode cX7_valueOf 58 = .ok (.ireturn, 1) := by decide +kernel
theorem dX7_holds_0 : decode cX7_holds 0 = .ok (.iload_n 1, 1) := by decide +kernel
theorem dX7_holds_1 : decode cX7_holds 1 = .ok (.bipush 60, 2) := by decide +kernel
theorem dX7_holds_3 : decode cX7_holds 3 = .ok (.if_icmp .ne 14, 3) := by decide +kernel
theorem dX7_holds_6 : decode cX7_holds 6 = .ok (.iload_n 0, 1) := by decide +kernel
theorem dX7_holds_7 : decode cX7_holds 7 = .ok (.iload_n 2, 1) := by decide +kernel
theorem dX7_holds_8 : decode cX7_holds 8 = .ok (.if_icmp .ge 7, 3) := by decide +kernel
theorem dX7_holds_11 : decode cX7_holds 11 = .ok (.iconst 1, 1) := by decide +kernel
theorem dX7_holds_12 : decode cX7_holds 12 = .ok (.goto 4, 3) := by decide +kernel
theorem dX7_holds_15 : decode cX7_holds 15 = .ok (.iconst 0, 1) := by decide +kernel
theorem dX7_holds_16 : decode cX7_holds 16 = .ok (.ireturn, 1) := by decide +kernel
theorem dX7_holds_17 : decode cX7_holds 17 = .ok (.iload_n 1, 1) := by decide +kernel
theorem dX7_holds_18 : decode cX7_holds 18 = .ok (.bipush 62, 2) := by decide +kernel
theorem dX7_holds_20 : decode cX7_holds 20 = .ok (.if_icmp .ne 16, 3) := by decide +kernel
theorem dX7_holds_23 : decode cX7_holds 23 = .ok (.iload_n 0, 1) := by decide +kernel
theorem dX7_holds_24 : decode cX7_holds 24 = .ok (.iload_n 2, 1) := by decide +kernel
theorem dX7_holds_25 : decode cX7_holds 25 = .ok (.if_icmp .le 7, 3) := by decide +kernel
theorem dX7_holds_28 : decode cX7_holds 28 = .ok (.iconst 1, 1) := by decide +kernel
theorem dX7_holds_29 : decode cX7_holds 29 = .ok (.goto 17, 3) := by decide +kernel
theorem dX7_holds_32 : decode cX7_holds 32 = .ok (.iconst 0, 1) := by decide +kernel
theorem dX7_holds_33 : decode cX7_holds 33 = .ok (.goto 13, 3) := by decide +kernel
theorem dX7_holds_36 : decode cX7_holds 36 = .ok (.iload_n 0, 1) := by decide +kernel
theorem dX7_holds_37 : decode cX7_holds 37 = .ok (.iload_n 2, 1) := by decide +kernel
theorem dX7_holds_38 : decode cX7_holds 38 = .ok (.if_icmp .ne 7, 3) := by decide +kernel
theorem dX7_holds_41 : decode cX7_holds 41 = .ok (.iconst 1, 1) := by decide +kernel
theorem dX7_holds_42 : decode cX7_holds 42 = .ok (.goto 4, 3) := by decide +kernel
theorem dX7_holds_45 : decode cX7_holds 45 = .ok (.iconst 0, 1) := by decide +kernel
theorem dX7_holds_46 : decode cX7_holds 46 = .ok (.ireturn, 1) := by decide +kernel
theorem dX8_init_0 : decode cX8_init 0 = .ok (.aload_n 0, 1) := by decide +kernel
theorem dX8_init_1 : decode cX8_init 1 = .ok (.invokespecial 3, 3) := by decide +kernel
theorem dX8_init_4 : decode cX8_init 4 = .ok (.aload_n 0, 1) := by decide +kernel
theorem dX8_init_5 : decode cX8_init 5 = .ok (.bipush 8, 2) := by decide +kernel
theorem dX8_init_7 : decode cX8_init 7 = .ok (.iconst 5, 1) := by decide +kernel
theorem dX8_init_8 : decode cX8_init 8 = .ok (.multianewarray 9 2, 4) := by decide +kernel
theorem dX8_init_12 : decode cX8_init 12 = .ok (.putfield 11, 3) := by decide +kernel
theorem dX8_init_15 : decode cX8_init 15 = .ok (.aload_n 0, 1) := by decide +kernel
theorem dX8_init_16 : decode cX8_init 16 = .ok (.new 16, 3) := by decide +kernel
theorem dX8_init_19 : decode cX8_init 19 = .ok (.dup, 1) := by decide +kernel
theorem dX8_init_20 : decode cX8_init 20 = .ok (.bipush 40, 2) := by decide +kernel
theorem dX8_init_22 : decode cX8_init 22 = .ok (.invokespecial 18, 3) := by decide +kernel
theorem dX8_init_25 : decode cX8_init 25 = .ok (.putfield 21, 3) := by decide +kernel
theorem dX8_init_28 : decode cX8_init 28 = .ok (.return_, 1) := by decide +kernel
theorem dX8_booksIn_0 : decode cX8_booksIn 0 = .ok (.iconst 0, 1) := by decide +kernel
theorem dX8_booksIn_1 : decode cX8_booksIn 1 = .ok (.istore_n 2, 1) := by decide +kernel
theorem dX8_booksIn_2 : decode cX8_booksIn 2 = .ok (.iconst 0, 1) := by decide +kernel
theorem dX8_booksIn_3 : decode cX8_booksIn 3 = .ok (.istore_n 3, 1) := by decide +kernel
theorem dX8_booksIn_4 : decode cX8_booksIn 4 = .ok (.iload_n 3, 1) := by decide +kernel
theorem dX8_booksIn_5 : decode cX8_booksIn 5 = .ok (.bipush 8, 2) := by decide +kernel
theorem dX8_booksIn_7 : decode cX8_booksIn 7 = .ok (.if_icmp .ge 52, 3) := by decide +kernel
theorem dX8_booksIn_10 : decode cX8_booksIn 10 = .ok (.iconst 0, 1) := by decide +kernel
theorem dX8_booksIn_11 : decode cX8_booksIn 11 = .ok (.istore 4, 2) := by decide +kernel
theorem dX8_booksIn_13 : decode cX8_booksIn 13 = .ok (.iload 4, 2) := by decide +kernel
theorem dX8_booksIn_15 : decode cX8_booksIn 15 = .ok (.iconst 5, 1) := by decide +kernel
theorem dX8_booksIn_16 : decode cX8_booksIn 16 = .ok (.if_icmp .ge 37, 3) := by decide +kernel
theorem dX8_booksIn_19 : decode cX8_booksIn 19 = .ok (.iload_n 1, 1) := by decide +kernel
theorem dX8_booksIn_20 : decode cX8_booksIn 20 = .ok (.iload 4, 2) := by decide +kernel
theorem dX8_booksIn_22 : decode cX8_booksIn 22 = .ok (.ishr, 1) := by decide +kernel
theorem dX8_booksIn_23 : decode cX8_booksIn 23 = .ok (.iconst 1, 1) := by decide +kernel
theorem dX8_booksIn_24 : decode cX8_booksIn 24 = .ok (.iand, 1) := by decide +kernel
theorem dX8_booksIn_25 : decode cX8_booksIn 25 = .ok (.iconst 1, 1) := by decide +kernel
theorem dX8_booksIn_26 : decode cX8_booksIn 26 = .ok (.if_icmp .ne 21, 3) := by decide +kernel
theorem dX8_booksIn_29 : decode cX8_booksIn 29 = .ok (.aload_n 0, 1) := by decide +kernel
theorem dX8_booksIn_30 : decode cX8_booksIn 30 = .ok (.getfield 11, 3) := by decide +kernel
theorem dX8_booksIn_33 : decode cX8_booksIn 33 = .ok (.iload_n 3, 1) := by decide +kernel
theorem dX8_booksIn_34 : decode cX8_booksIn 34 = .ok (.aaload, 1) := by decide +kernel
theorem dX8_booksIn_35 : decode cX8_booksIn 35 = .ok (.iload 4, 2) := by decide +kernel
theorem dX8_booksIn_37 : decode cX8_booksIn 37 = .ok (.iaload, 1) := by decide +kernel
theorem dX8_booksIn_38 : decode cX8_booksIn 38 = .ok (.ifCond .le 9, 3) := by decide +kernel
theorem dX8_booksIn_41 : decode cX8_booksIn 41 = .ok (.iload_n 2, 1) := by decide +kernel
theorem dX8_booksIn_42 : decode cX8_booksIn 42 = .ok (.iconst 1, 1) := by decide +kernel
theorem dX8_booksIn_43 : decode cX8_booksIn 43 = .ok (.iload_n 3, 1) := by decide +kernel
theorem dX8_booksIn_44 : decode cX8_booksIn 44 = .ok (.ishl, 1) := by decide +kernel
theorem dX8_booksIn_45 : decode cX8_booksIn 45 = .ok (.ior, 1) := by decide +kernel
theorem dX8_booksIn_46 : decode cX8_booksIn 46 = .ok (.istore_n 2, 1) := by decide +kernel
theorem dX8_booksIn_47 : decode cX8_booksIn 47 = .ok (.iinc 4 1, 3) := by decide +kernel
theorem dX8_booksIn_50 : decode cX8_booksIn 50 = .ok (.goto (-37), 3) := by decide +kernel
theorem dX8_booksIn_53 : decode cX8_booksIn 53 = .ok (.iinc 3 1, 3) := by decide +kernel
theorem dX8_booksIn_56 : decode cX8_booksIn 56 = .ok (.goto (-52), 3) := by decide +kernel
theorem dX8_booksIn_59 : decode cX8_booksIn 59 = .ok (.iload_n 2, 1) := by decide +kernel
theorem dX8_booksIn_60 : decode cX8_booksIn 60 = .ok (.ireturn, 1) := by decide +kernel
theorem dX8_copiesBeyond_0 : decode cX8_copiesBeyond 0 = .ok (.iconst 0, 1) := by decide +kernel
theorem dX8_copiesBeyond_1 : decode cX8_copiesBeyond 1 = .ok (.istore_n 2, 1) := by decide +kernel
theorem dX8_copiesBeyond_2 : decode cX8_copiesBeyond 2 = .ok (.iconst 0, 1) := by decide +kernel
theorem dX8_copiesBeyond_3 : decode cX8_copiesBeyond 3 = .ok (.istore_n 3, 1) := by decide +kernel
theorem dX8_copiesBeyond_4 : decode cX8_copiesBeyond 4 = .ok (.iload_n 3, 1) := by decide +kernel
theorem dX8_copiesBeyond_5 : decode cX8_copiesBeyond 5 = .ok (.bipush 8, 2) := by decide +kernel
theorem dX8_copiesBeyond_7 : decode cX8_copiesBeyond 7 = .ok (.if_icmp .ge 50, 3) := by decide +kernel
theorem dX8_copiesBeyond_10 : decode cX8_copiesBeyond 10 = .ok (.iconst 0, 1) := by decide +kernel
theorem dX8_copiesBeyond_11 : decode cX8_copiesBeyond 11 = .ok (.istore 4, 2) := by decide +kernel
theorem dX8_copiesBeyond_13 : decode cX8_copiesBeyond 13 = .ok (.iload 4, 2) := by decide +kernel
theorem dX8_copiesBeyond_15 : decode cX8_copiesBeyond 15 = .ok (.iconst 5, 1) := by decide +kernel
theorem dX8_copiesBeyond_16 : decode cX8_copiesBeyond 16 = .ok (.if_icmp .ge 35, 3) := by decide +kernel
theorem dX8_copiesBeyond_19 : decode cX8_copiesBeyond 19 = .ok (.iload_n 2, 1) := by decide +kernel
theorem dX8_copiesBeyond_20 : decode cX8_copiesBeyond 20 = .ok (.iload_n 1, 1) := by decide +kernel
theorem dX8_copiesBeyond_21 : decode cX8_copiesBeyond 21 = .ok (.iload 4, 2) := by decide +kernel
theorem dX8_copiesBeyond_23 : decode cX8_copiesBeyond 23 = .ok (.ishr, 1) := by decide +kernel
theorem dX8_copiesBeyond_24 : decode cX8_copiesBeyond 24 = .ok (.iconst 1, 1) := by decide +kernel
theorem dX8_copiesBeyond_25 : decode cX8_copiesBeyond 25 = .ok (.iand, 1) := by decide +kernel
theorem dX8_copiesBeyond_26 : decode cX8_copiesBeyond 26 = .ok (.iconst 1, 1) := by decide +kernel
theorem dX8_copiesBeyond_27 : decode cX8_copiesBeyond 27 = .ok (.if_icmp .ne 7, 3) := by decide +kernel
theorem dX8_copiesBeyond_30 : decode cX8_copiesBeyond 30 = .ok (.iconst 0, 1) := by decide +kernel
theorem dX8_copiesBeyond_31 : decode cX8_copiesBeyond 31 = .ok (.goto 12, 3) := by decide +kernel
theorem dX8_copiesBeyond_34 : decode cX8_copiesBeyond 34 = .ok (.aload_n 0, 1) := by decide +kernel
theorem dX8_copiesBeyond_35 : decode cX8_copiesBeyond 35 = .ok (.getfield 11, 3) := by decide +kernel
theorem dX8_copiesBeyond_38 : decode cX8_copiesBeyond 38 = .ok (.iload_n 3, 1) := by decide +kernel
theorem dX8_copiesBeyond_39 : decode cX8_copiesBeyond 39 = .ok (.aaload, 1) := by decide +kernel
theorem dX8_copiesBeyond_40 : decode cX8_copiesBeyond 40 = .ok (.iload 4, 2) := by decide +kernel
theorem dX8_copiesBeyond_42 : decode cX8_copiesBeyond 42 = .ok (.iaload, 1) := by decide +kernel
theorem dX8_copiesBeyond_43 : decode cX8_copiesBeyond 43 = .ok (.iadd, 1) := by decide +kernel
theorem dX8_copiesBeyond_44 : decode cX8_copiesBeyond 44 = .ok (.istore_n 2, 1) := by decide +kernel
theorem dX8_copiesBeyond_45 : decode cX8_copiesBeyond 45 = .ok (.iinc 4 1, 3) := by decide +kernel
theorem dX8_copiesBeyond_48 : decode cX8_copiesBeyond 48 = .ok (.goto (-35), 3) := by decide +kernel
theorem dX8_copiesBeyond_51 : decode cX8_copiesBeyond 51 = .ok (.iinc 3 1, 3) := by decide +kernel
theorem dX8_copiesBeyond_54 : decode cX8_copiesBeyond 54 = .ok (.goto (-50), 3) := by decide +kernel
theorem dX8_copiesBeyond_57 : decode cX8_copiesBeyond 57 = .ok (.iload_n 2, 1) := by decide +kernel
theorem dX8_copiesBeyond_58 : decode cX8_copiesBeyond 58 = .ok (.ireturn, 1) := by decide +kernel
theorem dX9_init_0 : decode cX9_init 0 = .ok (.aload_n 0, 1) := by decide +kernel
theorem dX9_init_1 : decode cX9_init 1 = .ok (.invokespecial 3, 3) := by decide +kernel
theorem dX9_init_4 : decode cX9_init 4 = .ok (.aload_n 0, 1) := by decide +kernel
theorem dX9_init_5 : decode cX9_init 5 = .ok (.iload_n 2, 1) := by decide +kernel
theorem dX9_init_6 : decode cX9_init 6 = .ok (.iconst 0, 1) := by decide +kernel
theorem dX9_init_7 : decode cX9_init 7 = .ok (.invokestatic 9, 3) := by decide +kernel
theorem dX9_init_10 : decode cX9_init 10 = .ok (.putfield 15, 3) := by decide +kernel
theorem dX9_init_13 : decode cX9_init 13 = .ok (.aload_n 0, 1) := by decide +kernel
theorem dX9_init_14 : decode cX9_init 14 = .ok (.iload_n 1, 1) := by decide +kernel
theorem dX9_init_15 : decode cX9_init 15 = .ok (.iconst 0, 1) := by decide +kernel
theorem dX9_init_16 : decode cX9_init 16 = .ok (.invokestatic 9, 3) := by decide +kernel
theorem dX9_init_19 : decode cX9_init 19 = .ok (.aload_n 0, 1) := by decide +kernel
theorem dX9_init_20 : decode cX9_init 20 = .ok (.getfield 15, 3) := by decide +kernel
theorem dX9_init_23 : decode cX9_init 23 = .ok (.imul, 1) := by decide +kernel
theorem dX9_init_24 : decode cX9_init 24 = .ok (.newarray .int, 2) := by decide +kernel
theorem dX9_init_26 : decode cX9_init 26 = .ok (.putfield 21, 3) := by decide +kernel
theorem dX9_init_29 : decode cX9_init 29 = .ok (.aload_n 0, 1) := by decide +kernel
theorem dX9_init_30 : decode cX9_init 30 = .ok (.iload_n 1, 1) := by decide +kernel
theorem dX9_init_31 : decode cX9_init 31 = .ok (.iconst 0, 1) := by decide +kernel
theorem dX9_init_32 : decode cX9_init 32 = .ok (.invokestatic 9, 3) := by decide +kernel
theorem dX9_init_35 : decode cX9_init 35 = .ok (.newarray .int, 2) := by decide +kernel
theorem dX9_init_37 : decode cX9_init 37 = .ok (.putfield 25, 3) := by decide +kernel
theorem dX9_init_40 : decode cX9_init 40 = .ok (.aload_n 0, 1) := by decide +kernel
theorem dX9_init_41 : decode cX9_init 41 = .ok (.iconst 0, 1) := by decide +kernel
theorem dX9_init_42 : decode cX9_init 42 = .ok (.putfield 28, 3) := by decide +kernel
theorem dX9_init_45 : decode cX9_init 45 = .ok (.return_, 1) := by decide +kernel
theorem dX9_isFull_0 : decode cX9_isFull 0 = .ok (.aload_n 0, 1) := by decide +kernel
theorem dX9_isFull_1 : decode cX9_isFull 1 = .ok (.getfield 28, 3) := by decide +kernel
theorem dX9_isFull_4 : decode cX9_isFull 4 = .ok (.aload_n 0, 1) := by decide +kernel
theorem dX9_isFull_5 : decode cX9_isFull 5 = .ok (.getfield 25, 3) := by decide +kernel
theorem dX9_isFull_8 : decode cX9_isFull 8 = .ok (.arraylength, 1) := by decide +kernel
theorem dX9_isFull_9 : decode cX9_isFull 9 = .ok (.if_icmp .lt 7, 3) := by decide +kernel
theorem dX9_isFull_12 : decode cX9_isFull 12 = .ok (.iconst 1, 1) := by decide +kernel
theorem dX9_isFull_13 : decode cX9_isFull 13 = .ok (.goto 4, 3) := by decide +kernel
theorem dX9_isFull_16 : decode cX9_isFull 16 = .ok (.iconst 0, 1) := by decide +kernel
theorem dX9_isFull_17 : decode cX9_isFull 17 = .ok (.ireturn, 1) := by decide +kernel
theorem dX9_take_0 : decode cX9_take 0 = .ok (.aload_n 0, 1) := by decide +kernel
theorem dX9_take_1 : decode cX9_take 1 = .ok (.invokevirtual 31, 3) := by decide +kernel
theorem dX9_take_4 : decode cX9_take 4 = .ok (.ifCond .ne 14, 3) := by decide +kernel
theorem dX9_take_7 : decode cX9_take 7 = .ok (.aload_n 1, 1) := by decide +kernel
theorem dX9_take_8 : decode cX9_take 8 = .ok (.getfield 35, 3) := by decide +kernel
theorem dX9_take_11 : decode cX9_take 11 = .ok (.aload_n 0, 1) := by decide +kernel
theorem dX9_take_12 : decode cX9_take 12 = .ok (.getfield 15, 3) := by decide +kernel
theorem dX9_take_15 : decode cX9_take 15 = .ok (.if_icmp .le 6, 3) := by decide +kernel
theorem dX9_take_18 : decode cX9_take 18 = .ok (.bipush (-5), 2) := by decide +kernel
theorem dX9_take_20 : decode cX9_take 20 = .ok (.ireturn, 1) := by decide +kernel
theorem dX9_take_21 : decode cX9_take 21 = .ok (.aload_n 1, 1) := by decide +kernel
theorem dX9_take_22 : decode cX9_take 22 = .ok (.getfield 40, 3) := by decide +kernel
theorem dX9_take_25 : decode cX9_take 25 = .ok (.iconst 0, 1) := by decide +kernel
theorem dX9_take_26 : decode cX9_take 26 = .ok (.aload_n 0, 1) := by decide +kernel
theorem dX9_take_27 : decode cX9_take 27 = .ok (.getfield 21, 3) := by decide +kernel
theorem dX9_take_30 : decode cX9_take 30 = .ok (.aload_n 0, 1) := by decide +kernel
theorem dX9_take_31 : decode cX9_take 31 = .ok (.getfield 28, 3) := by decide +kernel
theorem dX9_take_34 : decode cX9_take 34 = .ok (.aload_n 0, 1) := by decide +kernel
theorem dX9_take_35 : decode cX9_take 35 = .ok (.getfield 15, 3) := by decide +kernel
theorem dX9_take_38 : decode cX9_take 38 = .ok (.imul, 1) := by decide +kernel
theorem dX9_take_39 : decode cX9_take 39 = .ok (.aload_n 1, 1) := by decide +kernel
theorem dX9_take_40 : decode cX9_take 40 = .ok (.getfield 35, 3) := by decide +kernel
theorem dX9_take_43 : decode cX9_take 43 = .ok (.invokestatic 43, 3) := by decide +kernel
theorem dX9_take_46 : decode cX9_take 46 = .ok (.aload_n 0, 1) := by decide +kernel
theorem dX9_take_47 : decode cX9_take 47 = .ok (.getfield 25, 3) := by decide +kernel
theorem dX9_take_50 : decode cX9_take 50 = .ok (.aload_n 0, 1) := by decide +kernel
theorem dX9_take_51 : decode cX9_take 51 = .ok (.getfield 28, 3) := by decide +kernel
theorem dX9_take_54 : decode cX9_take 54 = .ok (.aload_n 1, 1) := by decide +kernel
theorem dX9_take_55 : decode cX9_take 55 = .ok (.getfield 35, 3) := by decide +kernel
theorem dX9_take_58 : decode cX9_take 58 = .ok (.iastore, 1) := by decide +kernel
theorem dX9_take_59 : decode cX9_take 59 = .ok (.aload_n 1, 1) := by decide +kernel
theorem dX9_take_60 : decode cX9_take 60 = .ok (.invokevirtual 49, 3) := by decide +kernel
theorem dX9_take_63 : decode cX9_take 63 = .ok (.pop, 1) := by decide +kernel
theorem dX9_take_64 : decode cX9_take 64 = .ok (.aload_n 0, 1) := by decide +kernel
theorem dX9_take_65 : decode cX9_take 65 = .ok (.dup, 1) := by decide +kernel
theorem dX9_take_66 : decode cX9_take 66 = .ok (.getfield 28, 3) := by decide +kernel
theorem dX9_take_69 : decode cX9_take 69 = .ok (.iconst 1, 1) := by decide +kernel
theorem dX9_take_70 : decode cX9_take 70 = .ok (.iadd, 1) := by decide +kernel
theorem dX9_take_71 : decode cX9_take 71 = .ok (.putfield 28, 3) := by decide +kernel
theorem dX9_take_74 : decode cX9_take 74 = .ok (.aload_n 0, 1) := by decide +kernel
theorem dX9_take_75 : decode cX9_take 75 = .ok (.getfield 28, 3) := by decide +kernel
theorem dX9_take_78 : decode cX9_take 78 = .ok (.iconst 1, 1) := by decide +kernel
theorem dX9_take_79 : decode cX9_take 79 = .ok (.isub, 1) := by decide +kernel
theorem dX9_take_80 : decode cX9_take 80 = .ok (.ireturn, 1) := by decide +kernel
theorem dX9_standsAt_0 : decode cX9_standsAt 0 = .ok (.aload_n 0, 1) := by decide +kernel
theorem dX9_standsAt_1 : decode cX9_standsAt 1 = .ok (.getfield 25, 3) := by decide +kernel
theorem dX9_standsAt_4 : decode cX9_standsAt 4 = .ok (.iload_n 1, 1) := by decide +kernel
theorem dX9_standsAt_5 : decode cX9_standsAt 5 = .ok (.iaload, 1) := by decide +kernel
theorem dX9_standsAt_6 : decode cX9_standsAt 6 = .ok (.istore 5, 2) := by decide +kernel
theorem dX9_standsAt_8 : decode cX9_standsAt 8 = .ok (.iload 5, 2) := by decide +kernel
theorem dX9_standsAt_10 : decode cX9_standsAt 10 = .ok (.iload 4, 2) := by decide +kernel
theorem dX9_standsAt_12 : decode cX9_standsAt 12 = .ok (.iload_n 3, 1) := by decide +kernel
theorem dX9_standsAt_13 : decode cX9_standsAt 13 = .ok (.isub, 1) := by decide +kernel
theorem dX9_standsAt_14 : decode cX9_standsAt 14 = .ok (.if_icmp .le 5, 3) := by decide +kernel
theorem dX9_standsAt_17 : decode cX9_standsAt 17 = .ok (.iconst 0, 1) := by decide +kernel
theorem dX9_standsAt_18 : decode cX9_standsAt 18 = .ok (.ireturn, 1) := by decide +kernel
theorem dX9_standsAt_19 : decode cX9_standsAt 19 = .ok (.iload_n 1, 1) := by decide +kernel
theorem dX9_standsAt_20 : decode cX9_standsAt 20 = .ok (.aload_n 0, 1) := by decide +kernel
theorem dX9_standsAt_21 : decode cX9_standsAt 21 = .ok (.getfield 15, 3) := by decide +kernel
theorem dX9_standsAt_24 : decode cX9_standsAt 24 = .ok (.imul, 1) := by decide +kernel
theorem dX9_standsAt_25 : decode cX9_standsAt 25 = .ok (.istore 6, 2) := by decide +kernel
theorem dX9_standsAt_27 : decode cX9_standsAt 27 = .ok (.iconst 0, 1) := by decide +kernel
theorem dX9_standsAt_28 : decode cX9_standsAt 28 = .ok (.istore 7, 2) := by decide +kernel
theorem dX9_standsAt_30 : decode cX9_standsAt 30 = .ok (.iload 7, 2) := by decide +kernel
theorem dX9_standsAt_32 : decode cX9_standsAt 32 = .ok (.iload 5, 2) := by decide +kernel
theorem dX9_standsAt_34 : decode cX9_standsAt 34 = .ok (.if_icmp .ge 30, 3) := by decide +kernel
theorem dX9_standsAt_37 : decode cX9_standsAt 37 = .ok (.aload_n 0, 1) := by decide +kernel
theorem dX9_standsAt_38 : decode cX9_standsAt 38 = .ok (.getfield 21, 3) := by decide +kernel
theorem dX9_standsAt_41 : decode cX9_standsAt 41 = .ok (.iload 6, 2) := by decide +kernel
theorem dX9_standsAt_43 : decode cX9_standsAt 43 = .ok (.iload 7, 2) := by decide +kernel
theorem dX9_standsAt_45 : decode cX9_standsAt 45 = .ok (.iadd, 1) := by decide +kernel
theorem dX9_standsAt_46 : decode cX9_standsAt 46 = .ok (.iaload, 1) := by decide +kernel
theorem dX9_standsAt_47 : decode cX9_standsAt 47 = .ok (.aload_n 2, 1) := by decide +kernel
theorem dX9_standsAt_48 : decode cX9_standsAt 48 = .ok (.iload_n 3, 1) := by decide +kernel
theorem dX9_standsAt_49 : decode cX9_standsAt 49 = .ok (.iload 7, 2) := by decide +kernel
theorem dX9_standsAt_51 : decode cX9_standsAt 51 = .ok (.iadd, 1) := by decide +kernel
theorem dX9_standsAt_52 : decode cX9_standsAt 52 = .ok (.iaload, 1) := by decide +kernel
theorem dX9_standsAt_53 : decode cX9_standsAt 53 = .ok (.if_icmp .eq 5, 3) := by decide +kernel
theorem dX9_standsAt_56 : decode cX9_standsAt 56 = .ok (.iconst 0, 1) := by decide +kernel
theorem dX9_standsAt_57 : decode cX9_standsAt 57 = .ok (.ireturn, 1) := by decide +kernel
theorem dX9_standsAt_58 : decode cX9_standsAt 58 = .ok (.iinc 7 1, 3) := by decide +kernel
theorem dX9_standsAt_61 : decode cX9_standsAt 61 = .ok (.goto (-31), 3) := by decide +kernel
theorem dX9_standsAt_64 : decode cX9_standsAt 64 = .ok (.iconst 1, 1) := by decide +kernel
theorem dX9_standsAt_65 : decode cX9_standsAt 65 = .ok (.ireturn, 1) := by decide +kernel
theorem dX10_init_0 : decode cX10_init 0 = .ok (.aload_n 0, 1) := by decide +kernel
theorem dX10_init_1 : decode cX10_init 1 = .ok (.invokespecial 3, 3) := by decide +kernel
theorem dX10_init_4 : decode cX10_init 4 = .ok (.aload_n 0, 1) := by decide +kernel
theorem dX10_init_5 : decode cX10_init 5 = .ok (.bipush 11, 2) := by decide +kernel
theorem dX10_init_7 : decode cX10_init 7 = .ok (.newarray .int, 2) := by decide +kernel
theorem dX10_init_9 : decode cX10_init 9 = .ok (.putfield 9, 3) := by decide +kernel
theorem dX10_init_12 : decode cX10_init 12 = .ok (.aload_n 0, 1) := by decide +kernel
theorem dX10_init_13 : decode cX10_init 13 = .ok (.bipush 11, 2) := by decide +kernel
theorem dX10_init_15 : decode cX10_init 15 = .ok (.newarray .int, 2) := by decide +kernel
theorem dX10_init_17 : decode cX10_init 17 = .ok (.putfield 15, 3) := by decide +kernel
theorem dX10_init_20 : decode cX10_init 20 = .ok (.aload_n 0, 1) := by decide +kernel
theorem dX10_init_21 : decode cX10_init 21 = .ok (.new 18, 3) := by decide +kernel
theorem dX10_init_24 : decode cX10_init 24 = .ok (.dup, 1) := by decide +kernel
theorem dX10_init_25 : decode cX10_init 25 = .ok (.bipush 20, 2) := by decide +kernel
theorem dX10_init_27 : decode cX10_init 27 = .ok (.invokespecial 20, 3) := by decide +kernel
theorem dX10_init_30 : decode cX10_init 30 = .ok (.putfield 23, 3) := by decide +kernel
theorem dX10_init_33 : decode cX10_init 33 = .ok (.return_, 1) := by decide +kernel
theorem dX10_cellsOf_0 : decode cX10_cellsOf 0 = .ok (.iload_n 0, 1) := by decide +kernel
theorem dX10_cellsOf_1 : decode cX10_cellsOf 1 = .ok (.sipush 1024, 3) := by decide +kernel
theorem dX10_cellsOf_4 : decode cX10_cellsOf 4 = .ok (.idiv, 1) := by decide +kernel
theorem dX10_cellsOf_5 : decode cX10_cellsOf 5 = .ok (.ireturn, 1) := by decide +kernel
theorem dX10_pointsOf_0 : decode cX10_pointsOf 0 = .ok (.iload_n 0, 1) := by decide +kernel
theorem dX10_pointsOf_1 : decode cX10_pointsOf 1 = .ok (.sipush 1024, 3) := by decide +kernel
theorem dX10_pointsOf_4 : decode cX10_pointsOf 4 = .ok (.irem, 1) := by decide +kernel
theorem dX10_pointsOf_5 : decode cX10_pointsOf 5 = .ok (.ireturn, 1) := by decide +kernel
theorem dX10_weigh_0 : decode cX10_weigh 0 = .ok (.iload 4, 2) := by decide +kernel
theorem dX10_weigh_2 : decode cX10_weigh 2 = .ok (.ifCond .lt 23, 3) := by decide +kernel
theorem dX10_weigh_5 : decode cX10_weigh 5 = .ok (.iload 4, 2) := by decide +kernel
theorem dX10_weigh_7 : decode cX10_weigh 7 = .ok (.bipush 10, 2) := by decide +kernel
theorem dX10_weigh_9 : decode cX10_weigh 9 = .ok (.if_icmp .gt 16, 3) := by decide +kernel
theorem dX10_weigh_12 : decode cX10_weigh 12 = .ok (.iload_n 3, 1) := by decide +kernel
theorem dX10_weigh_13 : decode cX10_weigh 13 = .ok (.ifCond .lt 12, 3) := by decide +kernel
theorem dX10_weigh_16 : decode cX10_weigh 16 = .ok (.iload_n 3, 1) := by decide +kernel
theorem dX10_weigh_17 : decode cX10_weigh 17 = .ok (.aload_n 2, 1) := by decide +kernel
theorem dX10_weigh_18 : decode cX10_weigh 18 = .ok (.arraylength, 1) := by decide +kernel
theorem dX10_weigh_19 : decode cX10_weigh 19 = .ok (.iload 4, 2) := by decide +kernel
theorem dX10_weigh_21 : decode cX10_weigh 21 = .ok (.isub, 1) := by decide +kernel
theorem dX10_weigh_22 : decode cX10_weigh 22 = .ok (.if_icmp .le 6, 3) := by decide +kernel
theorem dX10_weigh_25 : decode cX10_weigh 25 = .ok (.ldc 27, 2) := by decide +kernel
theorem dX10_weigh_27 : decode cX10_weigh 27 = .ok (.ireturn, 1) := by decide +kernel
theorem dX10_weigh_28 : decode cX10_weigh 28 = .ok (.aload_n 0, 1) := by decide +kernel
theorem dX10_weigh_29 : decode cX10_weigh 29 = .ok (.getfield 9, 3) := by decide +kernel
theorem dX10_weigh_32 : decode cX10_weigh 32 = .ok (.iload 4, 2) := by decide +kernel
theorem dX10_weigh_34 : decode cX10_weigh 34 = .ok (.iconst 0, 1) := by decide +kernel
theorem dX10_weigh_35 : decode cX10_weigh 35 = .ok (.iastore, 1) := by decide +kernel
theorem dX10_weigh_36 : decode cX10_weigh 36 = .ok (.iload 4, 2) := by decide +kernel
theorem dX10_weigh_38 : decode cX10_weigh 38 = .ok (.iconst 1, 1) := by decide +kernel
theorem dX10_weigh_39 : decode cX10_weigh 39 = .ok (.isub, 1) := by decide +kernel
theorem dX10_weigh_40 : decode cX10_weigh 40 = .ok (.istore 5, 2) := by decide +kernel
theorem dX10_weigh_42 : decode cX10_weigh 42 = .ok (.iload 5, 2) := by decide +kernel
theorem dX10_weigh_44 : decode cX10_weigh 44 = .ok (.ifCond .lt 151, 3) := by decide +kernel
theorem dX10_weigh_47 : decode cX10_weigh 47 = .ok (.aload_n 0, 1) := by decide +kernel
theorem dX10_weigh_48 : decode cX10_weigh 48 = .ok (.getfield 9, 3) := by decide +kernel
theorem dX10_weigh_51 : decode cX10_weigh 51 = .ok (.iload 5, 2) := by decide +kernel
theorem dX10_weigh_53 : decode cX10_weigh 53 = .ok (.ldc 27, 2) := by decide +kernel
theorem dX10_weigh_55 : decode cX10_weigh 55 = .ok (.iastore, 1) := by decide +kernel
theorem dX10_weigh_56 : decode cX10_weigh 56 = .ok (.iconst 0, 1) := by decide +kernel
theorem dX10_weigh_57 : decode cX10_weigh 57 = .ok (.istore 6, 2) := by decide +kernel
theorem dX10_weigh_59 : decode cX10_weigh 59 = .ok (.iload 6, 2) := by decide +kernel
theorem dX10_weigh_61 : decode cX10_weigh 61 = .ok (.aload_n 1, 1) := by decide +kernel
theorem dX10_weigh_62 : decode cX10_weigh 62 = .ok (.getfield 28, 3) := by decide +kernel
theorem dX10_weigh_65 : decode cX10_weigh 65 = .ok (.getfield 34, 3) := by decide +kernel
theorem dX10_weigh_68 : decode cX10_weigh 68 = .ok (.if_icmp .ge 77, 3) := by decide +kernel
theorem dX10_weigh_71 : decode cX10_weigh 71 = .ok (.aload_n 1, 1) := by decide +kernel
theorem dX10_weigh_72 : decode cX10_weigh 72 = .ok (.getfield 28, 3) := by decide +kernel
theorem dX10_weigh_75 : decode cX10_weigh 75 = .ok (.iload 6, 2) := by decide +kernel
theorem dX10_weigh_77 : decode cX10_weigh 77 = .ok (.aload_n 2, 1) := by decide +kernel
theorem dX10_weigh_78 : decode cX10_weigh 78 = .ok (.iload_n 3, 1) := by decide +kernel
theorem dX10_weigh_79 : decode cX10_weigh 79 = .ok (.iload 5, 2) := by decide +kernel
theorem dX10_weigh_81 : decode cX10_weigh 81 = .ok (.iadd, 1) := by decide +kernel
theorem dX10_weigh_82 : decode cX10_weigh 82 = .ok (.iload_n 3, 1) := by decide +kernel
theorem dX10_weigh_83 : decode cX10_weigh 83 = .ok (.iload 4, 2) := by decide +kernel
theorem dX10_weigh_85 : decode cX10_weigh 85 = .ok (.iadd, 1) := by decide +kernel
theorem dX10_weigh_86 : decode cX10_weigh 86 = .ok (.invokevirtual 40, 3) := by decide +kernel
theorem dX10_weigh_89 : decode cX10_weigh 89 = .ok (.ifCond .eq 50, 3) := by decide +kernel
theorem dX10_weigh_92 : decode cX10_weigh 92 = .ok (.aload_n 1, 1) := by decide +kernel
theorem dX10_weigh_93 : decode cX10_weigh 93 = .ok (.iload 6, 2) := by decide +kernel
theorem dX10_weigh_95 : decode cX10_weigh 95 = .ok (.invokevirtual 44, 3) := by decide +kernel
theorem dX10_weigh_98 : decode cX10_weigh 98 = .ok (.sipush 1024, 3) := by decide +kernel
theorem dX10_weigh_101 : decode cX10_weigh 101 = .ok (.imul, 1) := by decide +kernel
theorem dX10_weigh_102 : decode cX10_weigh 102 = .ok (.aload_n 1, 1) := by decide +kernel
theorem dX10_weigh_103 : decode cX10_weigh 103 = .ok (.iload 6, 2) := by decide +kernel
theorem dX10_weigh_105 : decode cX10_weigh 105 = .ok (.invokevirtual 48, 3) := by decide +kernel
theorem dX10_weigh_108 : decode cX10_weigh 108 = .ok (.iadd, 1) := by decide +kernel
theorem dX10_weigh_109 : decode cX10_weigh 109 = .ok (.istore 7, 2) := by decide +kernel
theorem dX10_weigh_111 : decode cX10_weigh 111 = .ok (.aload_n 0, 1) := by decide +kernel
theorem dX10_weigh_112 : decode cX10_weigh 112 = .ok (.iload 6, 2) := by decide +kernel
theorem dX10_weigh_114 : decode cX10_weigh 114 = .ok (.iload 5, 2) := by decide +kernel
theorem dX10_weigh_116 : decode cX10_weigh 116 = .ok (.iload 7, 2) := by decide +kernel
theorem dX10_weigh_118 : decode cX10_weigh 118 = .ok (.aload_n 0, 1) := by decide +kernel
theorem dX10_weigh_119 : decode cX10_weigh 119 = .ok (.getfield 9, 3) := by decide +kernel
theorem dX10_weigh_122 : decode cX10_weigh 122 = .ok (.iload 5, 2) := by decide +kernel
theorem dX10_weigh_124 : decode cX10_weigh 124 = .ok (.aload_n 1, 1) := by decide +kernel
theorem dX10_weigh_125 : decode cX10_weigh 125 = .ok (.getfield 28, 3) := by decide +kernel
theorem dX10_weigh_128 : decode cX10_weigh 128 = .ok (.getfield 51, 3) := by decide +kernel
theorem dX10_weigh_131 : decode cX10_weigh 131 = .ok (.iload 6, 2) := by decide +kernel
theorem dX10_weigh_133 : decode cX10_weigh 133 = .ok (.iaload, 1) := by decide +kernel
theorem dX10_weigh_134 : decode cX10_weigh 134 = .ok (.iadd, 1) := by decide +kernel
theorem dX10_weigh_135 : decode cX10_weigh 135 = .ok (.iaload, 1) := by decide +kernel
theorem dX10_weigh_136 : decode cX10_weigh 136 = .ok (.invokevirtual 54, 3) := by decide +kernel
theorem dX10_weigh_139 : decode cX10_weigh 139 = .ok (.iinc 6 1, 3) := by decide +kernel
theorem dX10_weigh_142 : decode cX10_weigh 142 = .ok (.goto (-83), 3) := by decide +kernel
theorem dX10_weigh_145 : decode cX10_weigh 145 = .ok (.aload_n 1, 1) := by decide +kernel
theorem dX10_weigh_146 : decode cX10_weigh 146 = .ok (.getfield 58, 3) := by decide +kernel
theorem dX10_weigh_149 : decode cX10_weigh 149 = .ok (.aload_n 2, 1) := by decide +kernel
theorem dX10_weigh_150 : decode cX10_weigh 150 = .ok (.iload_n 3, 1) := by decide +kernel
theorem dX10_weigh_151 : decode cX10_weigh 151 = .ok (.iload 5, 2) := by decide +kernel
theorem dX10_weigh_153 : decode cX10_weigh 153 = .ok (.iadd, 1) := by decide +kernel
theorem dX10_weigh_154 : decode cX10_weigh 154 = .ok (.iaload, 1) := by decide +kernel
theorem dX10_weigh_155 : decode cX10_weigh 155 = .ok (.iaload, 1) := by decide +kernel
theorem dX10_weigh_156 : decode cX10_weigh 156 = .ok (.istore 6, 2) := by decide +kernel
theorem dX10_weigh_158 : decode cX10_weigh 158 = .ok (.iload 6, 2) := by decide +kernel
theorem dX10_weigh_160 : decode cX10_weigh 160 = .ok (.ifCond .eq 29, 3) := by decide +kernel
theorem dX10_weigh_163 : decode cX10_weigh 163 = .ok (.aload_n 0, 1) := by decide +kernel
theorem dX10_weigh_164 : decode cX10_weigh 164 = .ok (.bipush 12, 2) := by decide +kernel
theorem dX10_weigh_166 : decode cX10_weigh 166 = .ok (.iload 5, 2) := by decide +kernel
theorem dX10_weigh_168 : decode cX10_weigh 168 = .ok (.sipush 1024, 3) := by decide +kernel
theorem dX10_weigh_171 : decode cX10_weigh 171 = .ok (.iload 6, 2) := by decide +kernel
theorem dX10_weigh_173 : decode cX10_weigh 173 = .ok (.invokestatic 61, 3) := by decide +kernel
theorem dX10_weigh_176 : decode cX10_weigh 176 = .ok (.iadd, 1) := by decide +kernel
theorem dX10_weigh_177 : decode cX10_weigh 177 = .ok (.aload_n 0, 1) := by decide +kernel
theorem dX10_weigh_178 : decode cX10_weigh 178 = .ok (.getfield 9, 3) := by decide +kernel
theorem dX10_weigh_181 : decode cX10_weigh 181 = .ok (.iload 5, 2) := by decide +kernel
theorem dX10_weigh_183 : decode cX10_weigh 183 = .ok (.iconst 1, 1) := by decide +kernel
theorem dX10_weigh_184 : decode cX10_weigh 184 = .ok (.iadd, 1) := by decide +kernel
theorem dX10_weigh_185 : decode cX10_weigh 185 = .ok (.iaload, 1) := by decide +kernel
theorem dX10_weigh_186 : decode cX10_weigh 186 = .ok (.invokevirtual 54, 3) := by decide +kernel
theorem dX10_weigh_189 : decode cX10_weigh 189 = .ok (.iinc 5 (-1), 3) := by decide +kernel
theorem dX10_weigh_192 : decode cX10_weigh 192 = .ok (.goto (-150), 3) := by decide +kernel
theorem dX10_weigh_195 : decode cX10_weigh 195 = .ok (.aload_n 0, 1) := by decide +kernel
theorem dX10_weigh_196 : decode cX10_weigh 196 = .ok (.getfield 9, 3) := by decide +kernel
theorem dX10_weigh_199 : decode cX10_weigh 199 = .ok (.iconst 0, 1) := by decide +kernel
theorem dX10_weigh_200 : decode cX10_weigh 200 = .ok (.iaload, 1) := by decide +kernel
theorem dX10_weigh_201 : decode cX10_weigh 201 = .ok (.ireturn, 1) := by decide +kernel
theorem dX10_tryItem_0 : decode cX10_tryItem 0 = .ok (.iload 4, 2) := by decide +kernel
theorem dX10_tryItem_2 : decode cX10_tryItem 2 = .ok (.ldc 27, 2) := by decide +kernel
theorem dX10_tryItem_4 : decode cX10_tryItem 4 = .ok (.if_icmp .ge 33, 3) := by decide +kernel
theorem dX10_tryItem_7 : decode cX10_tryItem 7 = .ok (.iload_n 3, 1) := by decide +kernel
theorem dX10_tryItem_8 : decode cX10_tryItem 8 = .ok (.iload 4, 2) := by decide +kernel
theorem dX10_tryItem_10 : decode cX10_tryItem 10 = .ok (.iadd, 1) := by decide +kernel
theorem dX10_tryItem_11 : decode cX10_tryItem 11 = .ok (.aload_n 0, 1) := by decide +kernel
theorem dX10_tryItem_12 : decode cX10_tryItem 12 = .ok (.getfield 9, 3) := by decide +kernel
theorem dX10_tryItem_15 : decode cX10_tryItem 15 = .ok (.iload_n 2, 1) := by decide +kernel
theorem dX10_tryItem_16 : decode cX10_tryItem 16 = .ok (.iaload, 1) := by decide +kernel
theorem dX10_tryItem_17 : decode cX10_tryItem 17 = .ok (.if_icmp .ge 20, 3) := by decide +kernel
theorem dX10_tryItem_20 : decode cX10_tryItem 20 = .ok (.aload_n 0, 1) := by decide +kernel
theorem dX10_tryItem_21 : decode cX10_tryItem 21 = .ok (.getfield 9, 3) := by decide +kernel
theorem dX10_tryItem_24 : decode cX10_tryItem 24 = .ok (.iload_n 2, 1) := by decide +kernel
theorem dX10_tryItem_25 : decode cX10_tryItem 25 = .ok (.iload_n 3, 1) := by decide +kernel
theorem dX10_tryItem_26 : decode cX10_tryItem 26 = .ok (.iload 4, 2) := by decide +kernel
theorem dX10_tryItem_28 : decode cX10_tryItem 28 = .ok (.iadd, 1) := by decide +kernel
theorem dX10_tryItem_29 : decode cX10_tryItem 29 = .ok (.iastore, 1) := by decide +kernel
theorem dX10_tryItem_30 : decode cX10_tryItem 30 = .ok (.aload_n 0, 1) := by decide +kernel
theorem dX10_tryItem_31 : decode cX10_tryItem 31 = .ok (.getfield 15, 3) := by decide +kernel
theorem dX10_tryItem_34 : decode cX10_tryItem 34 = .ok (.iload_n 2, 1) := by decide +kernel
theorem dX10_tryItem_35 : decode cX10_tryItem 35 = .ok (.iload_n 1, 1) := by decide +kernel
theorem dX10_tryItem_36 : decode cX10_tryItem 36 = .ok (.iastore, 1) := by decide +kernel
theorem dX10_tryItem_37 : decode cX10_tryItem 37 = .ok (.return_, 1) := by decide +kernel
theorem dX10_layOut_0 : decode cX10_layOut 0 = .ok (.aload_n 0, 1) := by decide +kernel
theorem dX10_layOut_1 : decode cX10_layOut 1 = .ok (.getfield 23, 3) := by decide +kernel
theorem dX10_layOut_4 : decode cX10_layOut 4 = .ok (.invokevirtual 66, 3) := by decide +kernel
theorem dX10_layOut_7 : decode cX10_layOut 7 = .ok (.pop, 1) := by decide +kernel
theorem dX10_layOut_8 : decode cX10_layOut 8 = .ok (.aload_n 0, 1) := by decide +kernel
theorem dX10_layOut_9 : decode cX10_layOut 9 = .ok (.aload_n 1, 1) := by decide +kernel
theorem dX10_layOut_10 : decode cX10_layOut 10 = .ok (.aload_n 2, 1) := by decide +kernel
theorem dX10_layOut_11 : decode cX10_layOut 11 = .ok (.getfield 70, 3) := by decide +kernel
theorem dX10_layOut_14 : decode cX10_layOut 14 = .ok (.iconst 0, 1) := by decide +kernel
theorem dX10_layOut_15 : decode cX10_layOut 15 = .ok (.aload_n 2, 1) := by decide +kernel
theorem dX10_layOut_16 : decode cX10_layOut 16 = .ok (.getfield 73, 3) := by decide +kernel
theorem dX10_layOut_19 : decode cX10_layOut 19 = .ok (.invokevirtual 76, 3) := by decide +kernel
theorem dX10_layOut_22 : decode cX10_layOut 22 = .ok (.ldc 27, 2) := by decide +kernel
theorem dX10_layOut_24 : decode cX10_layOut 24 = .ok (.if_icmp .lt 5, 3) := by decide +kernel
theorem dX10_layOut_27 : decode cX10_layOut 27 = .ok (.iconst 0, 1) := by decide +kernel
theorem dX10_layOut_28 : decode cX10_layOut 28 = .ok (.ireturn, 1) := by decide +kernel
theorem dX10_layOut_29 : decode cX10_layOut 29 = .ok (.iconst 0, 1) := by decide +kernel
theorem dX10_layOut_30 : decode cX10_layOut 30 = .ok (.istore_n 3, 1) := by decide +kernel
theorem dX10_layOut_31 : decode cX10_layOut 31 = .ok (.iconst 0, 1) := by decide +kernel
theorem dX10_layOut_32 : decode cX10_layOut 32 = .ok (.istore 4, 2) := by decide +kernel
theorem dX10_layOut_34 : decode cX10_layOut 34 = .ok (.iload 4, 2) := by decide +kernel
theorem dX10_layOut_36 : decode cX10_layOut 36 = .ok (.bipush 10, 2) := by decide +kernel
theorem dX10_layOut_38 : decode cX10_layOut 38 = .ok (.if_icmp .ge 110, 3) := by decide +kernel
theorem dX10_layOut_41 : decode cX10_layOut 41 = .ok (.iload_n 3, 1) := by decide +kernel
theorem dX10_layOut_42 : decode cX10_layOut 42 = .ok (.aload_n 2, 1) := by decide +kernel
theorem dX10_layOut_43 : decode cX10_layOut 43 = .ok (.getfield 73, 3) := by decide +kernel
theorem dX10_layOut_46 : decode cX10_layOut 46 = .ok (.if_icmp .ge 102, 3) := by decide +kernel
theorem dX10_layOut_49 : decode cX10_layOut 49 = .ok (.aload_n 0, 1) := by decide +kernel
theorem dX10_layOut_50 : decode cX10_layOut 50 = .ok (.getfield 15, 3) := by decide +kernel
theorem dX10_layOut_53 : decode cX10_layOut 53 = .ok (.iload_n 3, 1) := by decide +kernel
theorem dX10_layOut_54 : decode cX10_layOut 54 = .ok (.iaload, 1) := by decide +kernel
theorem dX10_layOut_55 : decode cX10_layOut 55 = .ok (.istore 5, 2) := by decide +kernel
theorem dX10_layOut_57 : decode cX10_layOut 57 = .ok (.iload 5, 2) := by decide +kernel
theorem dX10_layOut_59 : decode cX10_layOut 59 = .ok (.bipush 12, 2) := by decide +kernel
theorem dX10_layOut_61 : decode cX10_layOut 61 = .ok (.if_icmp .ge 59, 3) := by decide +kernel
theorem dX10_layOut_64 : decode cX10_layOut 64 = .ok (.aload_n 0, 1) := by decide +kernel
theorem dX10_layOut_65 : decode cX10_layOut 65 = .ok (.getfield 23, 3) := by decide +kernel
theorem dX10_layOut_68 : decode cX10_layOut 68 = .ok (.aload_n 1, 1) := by decide +kernel
theorem dX10_layOut_69 : decode cX10_layOut 69 = .ok (.getfield 80, 3) := by decide +kernel
theorem dX10_layOut_72 : decode cX10_layOut 72 = .ok (.iload 5, 2) := by decide +kernel
theorem dX10_layOut_74 : decode cX10_layOut 74 = .ok (.iaload, 1) := by decide +kernel
theorem dX10_layOut_75 : decode cX10_layOut 75 = .ok (.invokevirtual 83, 3) := by decide +kernel
theorem dX10_layOut_78 : decode cX10_layOut 78 = .ok (.pop, 1) := by decide +kernel
theorem dX10_layOut_79 : decode cX10_layOut 79 = .ok (.aload_n 1, 1) := by decide +kernel
theorem dX10_layOut_80 : decode cX10_layOut 80 = .ok (.getfield 86, 3) := by decide +kernel
theorem dX10_layOut_83 : decode cX10_layOut 83 = .ok (.iload 5, 2) := by decide +kernel
theorem dX10_layOut_85 : decode cX10_layOut 85 = .ok (.iaload, 1) := by decide +kernel
theorem dX10_layOut_86 : decode cX10_layOut 86 = .ok (.ifCond .eq 18, 3) := by decide +kernel
theorem dX10_layOut_89 : decode cX10_layOut 89 = .ok (.aload_n 0, 1) := by decide +kernel
theorem dX10_layOut_90 : decode cX10_layOut 90 = .ok (.getfield 23, 3) := by decide +kernel
theorem dX10_layOut_93 : decode cX10_layOut 93 = .ok (.aload_n 1, 1) := by decide +kernel
theorem dX10_layOut_94 : decode cX10_layOut 94 = .ok (.getfield 86, 3) := by decide +kernel
theorem dX10_layOut_97 : decode cX10_layOut 97 = .ok (.iload 5, 2) := by decide +kernel
theorem dX10_layOut_99 : decode cX10_layOut 99 = .ok (.iaload, 1) := by decide +kernel
theorem dX10_layOut_100 : decode cX10_layOut 100 = .ok (.invokevirtual 83, 3) := by decide +kernel
theorem dX10_layOut_103 : decode cX10_layOut 103 = .ok (.pop, 1) := by decide +kernel
theorem dX10_layOut_104 : decode cX10_layOut 104 = .ok (.iload_n 3, 1) := by decide +kernel
theorem dX10_layOut_105 : decode cX10_layOut 105 = .ok (.aload_n 1, 1) := by decide +kernel
theorem dX10_layOut_106 : decode cX10_layOut 106 = .ok (.getfield 28, 3) := by decide +kernel
theorem dX10_layOut_109 : decode cX10_layOut 109 = .ok (.getfield 51, 3) := by decide +kernel
theorem dX10_layOut_112 : decode cX10_layOut 112 = .ok (.iload 5, 2) := by decide +kernel
theorem dX10_layOut_114 : decode cX10_layOut 114 = .ok (.iaload, 1) := by decide +kernel
theorem dX10_layOut_115 : decode cX10_layOut 115 = .ok (.iadd, 1) := by decide +kernel
theorem dX10_layOut_116 : decode cX10_layOut 116 = .ok (.istore_n 3, 1) := by decide +kernel
theorem dX10_layOut_117 : decode cX10_layOut 117 = .ok (.goto 25, 3) := by decide +kernel
theorem dX10_layOut_120 : decode cX10_layOut 120 = .ok (.aload_n 0, 1) := by decide +kernel
theorem dX10_layOut_121 : decode cX10_layOut 121 = .ok (.getfield 23, 3) := by decide +kernel
theorem dX10_layOut_124 : decode cX10_layOut 124 = .ok (.aload_n 1, 1) := by decide +kernel
theorem dX10_layOut_125 : decode cX10_layOut 125 = .ok (.getfield 58, 3) := by decide +kernel
theorem dX10_layOut_128 : decode cX10_layOut 128 = .ok (.aload_n 2, 1) := by decide +kernel
theorem dX10_layOut_129 : decode cX10_layOut 129 = .ok (.getfield 70, 3) := by decide +kernel
theorem dX10_layOut_132 : decode cX10_layOut 132 = .ok (.iload_n 3, 1) := by decide +kernel
theorem dX10_layOut_133 : decode cX10_layOut 133 = .ok (.iaload, 1) := by decide +kernel
theorem dX10_layOut_134 : decode cX10_layOut 134 = .ok (.iaload, 1) := by decide +kernel
theorem dX10_layOut_135 : decode cX10_layOut 135 = .ok (.invokevirtual 83, 3) := by decide +kernel
theorem dX10_layOut_138 : decode cX10_layOut 138 = .ok (.pop, 1) := by decide +kernel
theorem dX10_layOut_139 : decode cX10_layOut 139 = .ok (.iinc 3 1, 3) := by decide +kernel
theorem dX10_layOut_142 : decode cX10_layOut 142 = .ok (.iinc 4 1, 3) := by decide +kernel
theorem dX10_layOut_145 : decode cX10_layOut 145 = .ok (.goto (-111), 3) := by decide +kernel
theorem dX10_layOut_148 : decode cX10_layOut 148 = .ok (.iconst 1, 1) := by decide +kernel
theorem dX10_layOut_149 : decode cX10_layOut 149 = .ok (.ireturn, 1) := by decide +kernel
theorem dX10_pointsOfLine_0 : decode cX10_pointsOfLine 0 = .ok (.aload_n 0, 1) := by decide +kernel
theorem dX10_pointsOfLine_1 : decode cX10_pointsOfLine 1 = .ok (.getfield 9, 3) := by decide +kernel
theorem dX10_pointsOfLine_4 : decode cX10_pointsOfLine 4 = .ok (.iconst 0, 1) := by decide +kernel
theorem dX10_pointsOfLine_5 : decode cX10_pointsOfLine 5 = .ok (.iaload, 1) := by decide +kernel
theorem dX10_pointsOfLine_6 : decode cX10_pointsOfLine 6 = .ok (.invokestatic 89, 3) := by decide +kernel
theorem dX10_pointsOfLine_9 : decode cX10_pointsOfLine 9 = .ok (.ireturn, 1) := by decide +kernel
