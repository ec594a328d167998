/-! decode rows of the class, as printed -/
theorem dX0_init_0 : decode cX0_init 0 = .ok (.aload_n 0, 1) := by decide +kernel
theorem dX0_init_1 : decode cX0_init 1 = .ok (.invokespecial 3, 3) := by decide +kernel
theorem dX0_init_4 : decode cX0_init 4 = .ok (.aload_n 0, 1) := by decide +kernel
theorem dX0_init_5 : decode cX0_init 5 = .ok (.bipush 61, 2) := by decide +kernel
theorem dX0_init_7 : decode cX0_init 7 = .ok (.newarray .long, 2) := by decide +kernel
theorem dX0_init_9 : decode cX0_init 9 = .ok (.putfield 9, 3) := by decide +kernel
theorem dX0_init_12 : decode cX0_init 12 = .ok (.aload_n 0, 1) := by decide +kernel
theorem dX0_init_13 : decode cX0_init 13 = .ok (.bipush 61, 2) := by decide +kernel
theorem dX0_init_15 : decode cX0_init 15 = .ok (.newarray .long, 2) := by decide +kernel
theorem dX0_init_17 : decode cX0_init 17 = .ok (.putfield 15, 3) := by decide +kernel
theorem dX0_init_20 : decode cX0_init 20 = .ok (.return_, 1) := by decide +kernel
theorem dX0_gather_0 : decode cX0_gather 0 = .ok (.iconst 0, 1) := by decide +kernel
theorem dX0_gather_1 : decode cX0_gather 1 = .ok (.istore_n 3, 1) := by decide +kernel
theorem dX0_gather_2 : decode cX0_gather 2 = .ok (.iload_n 3, 1) := by decide +kernel
theorem dX0_gather_3 : decode cX0_gather 3 = .ok (.bipush 60, 2) := by decide +kernel
theorem dX0_gather_5 : decode cX0_gather 5 = .ok (.if_icmp .gt 23, 3) := by decide +kernel
theorem dX0_gather_8 : decode cX0_gather 8 = .ok (.aload_n 0, 1) := by decide +kernel
theorem dX0_gather_9 : decode cX0_gather 9 = .ok (.getfield 9, 3) := by decide +kernel
theorem dX0_gather_12 : decode cX0_gather 12 = .ok (.iload_n 3, 1) := by decide +kernel
theorem dX0_gather_13 : decode cX0_gather 13 = .ok (.lconst 0, 1) := by decide +kernel
theorem dX0_gather_14 : decode cX0_gather 14 = .ok (.lastore, 1) := by decide +kernel
theorem dX0_gather_15 : decode cX0_gather 15 = .ok (.aload_n 0, 1) := by decide +kernel
theorem dX0_gather_16 : decode cX0_gather 16 = .ok (.getfield 15, 3) := by decide +kernel
theorem dX0_gather_19 : decode cX0_gather 19 = .ok (.iload_n 3, 1) := by decide +kernel
theorem dX0_gather_20 : decode cX0_gather 20 = .ok (.lconst 0, 1) := by decide +kernel
theorem dX0_gather_21 : decode cX0_gather 21 = .ok (.lastore, 1) := by decide +kernel
theorem dX0_gather_22 : decode cX0_gather 22 = .ok (.iinc 3 1, 3) := by decide +kernel
theorem dX0_gather_25 : decode cX0_gather 25 = .ok (.goto (-23), 3) := by decide +kernel
theorem dX0_gather_28 : decode cX0_gather 28 = .ok (.aload_n 1, 1) := by decide +kernel
theorem dX0_gather_29 : decode cX0_gather 29 = .ok (.aload_n 2, 1) := by decide +kernel
theorem dX0_gather_30 : decode cX0_gather 30 = .ok (.aload_n 2, 1) := by decide +kernel
theorem dX0_gather_31 : decode cX0_gather 31 = .ok (.getfield 18, 3) := by decide +kernel
theorem dX0_gather_34 : decode cX0_gather 34 = .ok (.iconst 0, 1) := by decide +kernel
theorem dX0_gather_35 : decode cX0_gather 35 = .ok (.invokevirtual 24, 3) := by decide +kernel
theorem dX0_gather_38 : decode cX0_gather 38 = .ok (.istore_n 3, 1) := by decide +kernel
theorem dX0_gather_39 : decode cX0_gather 39 = .ok (.iconst 0, 1) := by decide +kernel
theorem dX0_gather_40 : decode cX0_gather 40 = .ok (.istore 4, 2) := by decide +kernel
theorem dX0_gather_42 : decode cX0_gather 42 = .ok (.iload 4, 2) := by decide +kernel
theorem dX0_gather_44 : decode cX0_gather 44 = .ok (.iload_n 3, 1) := by decide +kernel
theorem dX0_gather_45 : decode cX0_gather 45 = .ok (.if_icmp .ge 43, 3) := by decide +kernel
theorem dX0_gather_48 : decode cX0_gather 48 = .ok (.aload_n 0, 1) := by decide +kernel
theorem dX0_gather_49 : decode cX0_gather 49 = .ok (.getfield 9, 3) := by decide +kernel
theorem dX0_gather_52 : decode cX0_gather 52 = .ok (.aload_n 1, 1) := by decide +kernel
theorem dX0_gather_53 : decode cX0_gather 53 = .ok (.getfield 30, 3) := by decide +kernel
theorem dX0_gather_56 : decode cX0_gather 56 = .ok (.aload_n 1, 1) := by decide +kernel
theorem dX0_gather_57 : decode cX0_gather 57 = .ok (.getfield 32, 3) := by decide +kernel
theorem dX0_gather_60 : decode cX0_gather 60 = .ok (.invokestatic 36, 3) := by decide +kernel
theorem dX0_gather_63 : decode cX0_gather 63 = .ok (.aload_n 0, 1) := by decide +kernel
theorem dX0_gather_64 : decode cX0_gather 64 = .ok (.getfield 15, 3) := by decide +kernel
theorem dX0_gather_67 : decode cX0_gather 67 = .ok (.aload_n 1, 1) := by decide +kernel
theorem dX0_gather_68 : decode cX0_gather 68 = .ok (.getfield 40, 3) := by decide +kernel
theorem dX0_gather_71 : decode cX0_gather 71 = .ok (.aload_n 1, 1) := by decide +kernel
theorem dX0_gather_72 : decode cX0_gather 72 = .ok (.getfield 32, 3) := by decide +kernel
theorem dX0_gather_75 : decode cX0_gather 75 = .ok (.invokestatic 36, 3) := by decide +kernel
theorem dX0_gather_78 : decode cX0_gather 78 = .ok (.aload_n 1, 1) := by decide +kernel
theorem dX0_gather_79 : decode cX0_gather 79 = .ok (.invokevirtual 42, 3) := by decide +kernel
theorem dX0_gather_82 : decode cX0_gather 82 = .ok (.iinc 4 1, 3) := by decide +kernel
theorem dX0_gather_85 : decode cX0_gather 85 = .ok (.goto (-43), 3) := by decide +kernel
theorem dX0_gather_88 : decode cX0_gather 88 = .ok (.return_, 1) := by decide +kernel
theorem dX0_addTo_0 : decode cX0_addTo 0 = .ok (.iload_n 1, 1) := by decide +kernel
theorem dX0_addTo_1 : decode cX0_addTo 1 = .ok (.ifCond .lt 16, 3) := by decide +kernel
theorem dX0_addTo_4 : decode cX0_addTo 4 = .ok (.iload_n 1, 1) := by decide +kernel
theorem dX0_addTo_5 : decode cX0_addTo 5 = .ok (.aload_n 0, 1) := by decide +kernel
theorem dX0_addTo_6 : decode cX0_addTo 6 = .ok (.arraylength, 1) := by decide +kernel
theorem dX0_addTo_7 : decode cX0_addTo 7 = .ok (.if_icmp .ge 10, 3) := by decide +kernel
theorem dX0_addTo_10 : decode cX0_addTo 10 = .ok (.aload_n 0, 1) := by decide +kernel
theorem dX0_addTo_11 : decode cX0_addTo 11 = .ok (.iload_n 1, 1) := by decide +kernel
theorem dX0_addTo_12 : decode cX0_addTo 12 = .ok (.dup2, 1) := by decide +kernel
theorem dX0_addTo_13 : decode cX0_addTo 13 = .ok (.laload, 1) := by decide +kernel
theorem dX0_addTo_14 : decode cX0_addTo 14 = .ok (.lload_n 2, 1) := by decide +kernel
theorem dX0_addTo_15 : decode cX0_addTo 15 = .ok (.ladd, 1) := by decide +kernel
theorem dX0_addTo_16 : decode cX0_addTo 16 = .ok (.lastore, 1) := by decide +kernel
theorem dX0_addTo_17 : decode cX0_addTo 17 = .ok (.return_, 1) := by decide +kernel
theorem dX0_pick_0 : decode cX0_pick 0 = .ok (.bipush 60, 2) := by decide +kernel
theorem dX0_pick_2 : decode cX0_pick 2 = .ok (.istore_n 1, 1) := by decide +kernel
theorem dX0_pick_3 : decode cX0_pick 3 = .ok (.lconst 0, 1) := by decide +kernel
theorem dX0_pick_4 : decode cX0_pick 4 = .ok (.lstore_n 2, 1) := by decide +kernel
theorem dX0_pick_5 : decode cX0_pick 5 = .ok (.lconst 0, 1) := by decide +kernel
theorem dX0_pick_6 : decode cX0_pick 6 = .ok (.lstore 4, 2) := by decide +kernel
theorem dX0_pick_8 : decode cX0_pick 8 = .ok (.lconst 0, 1) := by decide +kernel
theorem dX0_pick_9 : decode cX0_pick 9 = .ok (.lstore 6, 2) := by decide +kernel
theorem dX0_pick_11 : decode cX0_pick 11 = .ok (.lconst 0, 1) := by decide +kernel
theorem dX0_pick_12 : decode cX0_pick 12 = .ok (.lstore 8, 2) := by decide +kernel
theorem dX0_pick_14 : decode cX0_pick 14 = .ok (.bipush 60, 2) := by decide +kernel
theorem dX0_pick_16 : decode cX0_pick 16 = .ok (.istore 10, 2) := by decide +kernel
theorem dX0_pick_18 : decode cX0_pick 18 = .ok (.iload 10, 2) := by decide +kernel
theorem dX0_pick_20 : decode cX0_pick 20 = .ok (.ifCond .lt 76, 3) := by decide +kernel
theorem dX0_pick_23 : decode cX0_pick 23 = .ok (.lload 4, 2) := by decide +kernel
theorem dX0_pick_25 : decode cX0_pick 25 = .ok (.aload_n 0, 1) := by decide +kernel
theorem dX0_pick_26 : decode cX0_pick 26 = .ok (.getfield 9, 3) := by decide +kernel
theorem dX0_pick_29 : decode cX0_pick 29 = .ok (.iload 10, 2) := by decide +kernel
theorem dX0_pick_31 : decode cX0_pick 31 = .ok (.laload, 1) := by decide +kernel
theorem dX0_pick_32 : decode cX0_pick 32 = .ok (.ladd, 1) := by decide +kernel
theorem dX0_pick_33 : decode cX0_pick 33 = .ok (.lstore 4, 2) := by decide +kernel
theorem dX0_pick_35 : decode cX0_pick 35 = .ok (.lload 6, 2) := by decide +kernel
theorem dX0_pick_37 : decode cX0_pick 37 = .ok (.aload_n 0, 1) := by decide +kernel
theorem dX0_pick_38 : decode cX0_pick 38 = .ok (.getfield 15, 3) := by decide +kernel
theorem dX0_pick_41 : decode cX0_pick 41 = .ok (.iload 10, 2) := by decide +kernel
theorem dX0_pick_43 : decode cX0_pick 43 = .ok (.laload, 1) := by decide +kernel
theorem dX0_pick_44 : decode cX0_pick 44 = .ok (.ladd, 1) := by decide +kernel
theorem dX0_pick_45 : decode cX0_pick 45 = .ok (.lstore 6, 2) := by decide +kernel
theorem dX0_pick_47 : decode cX0_pick 47 = .ok (.lload 8, 2) := by decide +kernel
theorem dX0_pick_49 : decode cX0_pick 49 = .ok (.iload 10, 2) := by decide +kernel
theorem dX0_pick_51 : decode cX0_pick 51 = .ok (.i2l, 1) := by decide +kernel
theorem dX0_pick_52 : decode cX0_pick 52 = .ok (.aload_n 0, 1) := by decide +kernel
theorem dX0_pick_53 : decode cX0_pick 53 = .ok (.getfield 15, 3) := by decide +kernel
theorem dX0_pick_56 : decode cX0_pick 56 = .ok (.iload 10, 2) := by decide +kernel
theorem dX0_pick_58 : decode cX0_pick 58 = .ok (.laload, 1) := by decide +kernel
theorem dX0_pick_59 : decode cX0_pick 59 = .ok (.lmul, 1) := by decide +kernel
theorem dX0_pick_60 : decode cX0_pick 60 = .ok (.ladd, 1) := by decide +kernel
theorem dX0_pick_61 : decode cX0_pick 61 = .ok (.lstore 8, 2) := by decide +kernel
theorem dX0_pick_63 : decode cX0_pick 63 = .ok (.lload 8, 2) := by decide +kernel
theorem dX0_pick_65 : decode cX0_pick 65 = .ok (.iload 10, 2) := by decide +kernel
theorem dX0_pick_67 : decode cX0_pick 67 = .ok (.i2l, 1) := by decide +kernel
theorem dX0_pick_68 : decode cX0_pick 68 = .ok (.lload 4, 2) := by decide +kernel
theorem dX0_pick_70 : decode cX0_pick 70 = .ok (.lload 6, 2) := by decide +kernel
theorem dX0_pick_72 : decode cX0_pick 72 = .ok (.lsub, 1) := by decide +kernel
theorem dX0_pick_73 : decode cX0_pick 73 = .ok (.lmul, 1) := by decide +kernel
theorem dX0_pick_74 : decode cX0_pick 74 = .ok (.ladd, 1) := by decide +kernel
theorem dX0_pick_75 : decode cX0_pick 75 = .ok (.lstore 11, 2) := by decide +kernel
theorem dX0_pick_77 : decode cX0_pick 77 = .ok (.lload 11, 2) := by decide +kernel
theorem dX0_pick_79 : decode cX0_pick 79 = .ok (.lload_n 2, 1) := by decide +kernel
theorem dX0_pick_80 : decode cX0_pick 80 = .ok (.lcmp, 1) := by decide +kernel
theorem dX0_pick_81 : decode cX0_pick 81 = .ok (.ifCond .lt 9, 3) := by decide +kernel
theorem dX0_pick_84 : decode cX0_pick 84 = .ok (.lload 11, 2) := by decide +kernel
theorem dX0_pick_86 : decode cX0_pick 86 = .ok (.lstore_n 2, 1) := by decide +kernel
theorem dX0_pick_87 : decode cX0_pick 87 = .ok (.iload 10, 2) := by decide +kernel
theorem dX0_pick_89 : decode cX0_pick 89 = .ok (.istore_n 1, 1) := by decide +kernel
theorem dX0_pick_90 : decode cX0_pick 90 = .ok (.iinc 10 (-1), 3) := by decide +kernel
theorem dX0_pick_93 : decode cX0_pick 93 = .ok (.goto (-75), 3) := by decide +kernel
theorem dX0_pick_96 : decode cX0_pick 96 = .ok (.iload_n 1, 1) := by decide +kernel
theorem dX0_pick_97 : decode cX0_pick 97 = .ok (.ireturn, 1) := by decide +kernel
theorem dX1_init_0 : decode cX1_init 0 = .ok (.aload_n 0, 1) := by decide +kernel
theorem dX1_init_1 : decode cX1_init 1 = .ok (.invokespecial 3, 3) := by decide +kernel
theorem dX1_init_4 : decode cX1_init 4 = .ok (.aload_n 0, 1) := by decide +kernel
theorem dX1_init_5 : decode cX1_init 5 = .ok (.bipush 20, 2) := by decide +kernel
theorem dX1_init_7 : decode cX1_init 7 = .ok (.newarray .int, 2) := by decide +kernel
theorem dX1_init_9 : decode cX1_init 9 = .ok (.putfield 9, 3) := by decide +kernel
theorem dX1_init_12 : decode cX1_init 12 = .ok (.aload_n 0, 1) := by decide +kernel
theorem dX1_init_13 : decode cX1_init 13 = .ok (.iconst 4, 1) := by decide +kernel
theorem dX1_init_14 : decode cX1_init 14 = .ok (.newarray .int, 2) := by decide +kernel
theorem dX1_init_16 : decode cX1_init 16 = .ok (.putfield 15, 3) := by decide +kernel
theorem dX1_init_19 : decode cX1_init 19 = .ok (.aload_n 0, 1) := by decide +kernel
theorem dX1_init_20 : decode cX1_init 20 = .ok (.bipush 40, 2) := by decide +kernel
theorem dX1_init_22 : decode cX1_init 22 = .ok (.newarray .long, 2) := by decide +kernel
theorem dX1_init_24 : decode cX1_init 24 = .ok (.putfield 18, 3) := by decide +kernel
theorem dX1_init_27 : decode cX1_init 27 = .ok (.aload_n 0, 1) := by decide +kernel
theorem dX1_init_28 : decode cX1_init 28 = .ok (.new 22, 3) := by decide +kernel
theorem dX1_init_31 : decode cX1_init 31 = .ok (.dup, 1) := by decide +kernel
theorem dX1_init_32 : decode cX1_init 32 = .ok (.invokespecial 24, 3) := by decide +kernel
theorem dX1_init_35 : decode cX1_init 35 = .ok (.putfield 25, 3) := by decide +kernel
theorem dX1_init_38 : decode cX1_init 38 = .ok (.aload_n 0, 1) := by decide +kernel
theorem dX1_init_39 : decode cX1_init 39 = .ok (.iconst 0, 1) := by decide +kernel
theorem dX1_init_40 : decode cX1_init 40 = .ok (.putfield 29, 3) := by decide +kernel
theorem dX1_init_43 : decode cX1_init 43 = .ok (.aload_n 0, 1) := by decide +kernel
theorem dX1_init_44 : decode cX1_init 44 = .ok (.iconst 0, 1) := by decide +kernel
theorem dX1_init_45 : decode cX1_init 45 = .ok (.putfield 33, 3) := by decide +kernel
theorem dX1_init_48 : decode cX1_init 48 = .ok (.aload_n 0, 1) := by decide +kernel
theorem dX1_init_49 : decode cX1_init 49 = .ok (.lconst 0, 1) := by decide +kernel
theorem dX1_init_50 : decode cX1_init 50 = .ok (.putfield 36, 3) := by decide +kernel
theorem dX1_init_53 : decode cX1_init 53 = .ok (.aload_n 0, 1) := by decide +kernel
theorem dX1_init_54 : decode cX1_init 54 = .ok (.lconst 0, 1) := by decide +kernel
theorem dX1_init_55 : decode cX1_init 55 = .ok (.putfield 40, 3) := by decide +kernel
theorem dX1_init_58 : decode cX1_init 58 = .ok (.aload_n 0, 1) := by decide +kernel
theorem dX1_init_59 : decode cX1_init 59 = .ok (.iconst (-1), 1) := by decide +kernel
theorem dX1_init_60 : decode cX1_init 60 = .ok (.putfield 43, 3) := by decide +kernel
theorem dX1_init_63 : decode cX1_init 63 = .ok (.aload_n 0, 1) := by decide +kernel
theorem dX1_init_64 : decode cX1_init 64 = .ok (.iconst 0, 1) := by decide +kernel
theorem dX1_init_65 : decode cX1_init 65 = .ok (.putfield 46, 3) := by decide +kernel
theorem dX1_init_68 : decode cX1_init 68 = .ok (.aload_n 0, 1) := by decide +kernel
theorem dX1_init_69 : decode cX1_init 69 = .ok (.iconst (-1), 1) := by decide +kernel
theorem dX1_init_70 : decode cX1_init 70 = .ok (.putfield 49, 3) := by decide +kernel
theorem dX1_init_73 : decode cX1_init 73 = .ok (.aload_n 0, 1) := by decide +kernel
theorem dX1_init_74 : decode cX1_init 74 = .ok (.iconst 0, 1) := by decide +kernel
theorem dX1_init_75 : decode cX1_init 75 = .ok (.putfield 52, 3) := by decide +kernel
theorem dX1_init_78 : decode cX1_init 78 = .ok (.return_, 1) := by decide +kernel
theorem dX1_bidBy_0 : decode cX1_bidBy 0 = .ok (.iload_n 1, 1) := by decide +kernel
theorem dX1_bidBy_1 : decode cX1_bidBy 1 = .ok (.ifCond .lt 28, 3) := by decide +kernel
theorem dX1_bidBy_4 : decode cX1_bidBy 4 = .ok (.iload_n 1, 1) := by decide +kernel
theorem dX1_bidBy_5 : decode cX1_bidBy 5 = .ok (.iconst 4, 1) := by decide +kernel
theorem dX1_bidBy_6 : decode cX1_bidBy 6 = .ok (.if_icmp .ge 23, 3) := by decide +kernel
theorem dX1_bidBy_9 : decode cX1_bidBy 9 = .ok (.iload_n 2, 1) := by decide +kernel
theorem dX1_bidBy_10 : decode cX1_bidBy 10 = .ok (.ifCond .lt 19, 3) := by decide +kernel
theorem dX1_bidBy_13 : decode cX1_bidBy 13 = .ok (.iload_n 2, 1) := by decide +kernel
theorem dX1_bidBy_14 : decode cX1_bidBy 14 = .ok (.iconst 5, 1) := by decide +kernel
theorem dX1_bidBy_15 : decode cX1_bidBy 15 = .ok (.if_icmp .ge 14, 3) := by decide +kernel
theorem dX1_bidBy_18 : decode cX1_bidBy 18 = .ok (.aload_n 0, 1) := by decide +kernel
theorem dX1_bidBy_19 : decode cX1_bidBy 19 = .ok (.getfield 9, 3) := by decide +kernel
theorem dX1_bidBy_22 : decode cX1_bidBy 22 = .ok (.iload_n 1, 1) := by decide +kernel
theorem dX1_bidBy_23 : decode cX1_bidBy 23 = .ok (.iconst 5, 1) := by decide +kernel
theorem dX1_bidBy_24 : decode cX1_bidBy 24 = .ok (.imul, 1) := by decide +kernel
theorem dX1_bidBy_25 : decode cX1_bidBy 25 = .ok (.iload_n 2, 1) := by decide +kernel
theorem dX1_bidBy_26 : decode cX1_bidBy 26 = .ok (.iadd, 1) := by decide +kernel
theorem dX1_bidBy_27 : decode cX1_bidBy 27 = .ok (.iload_n 3, 1) := by decide +kernel
theorem dX1_bidBy_28 : decode cX1_bidBy 28 = .ok (.iastore, 1) := by decide +kernel
theorem dX1_bidBy_29 : decode cX1_bidBy 29 = .ok (.return_, 1) := by decide +kernel
theorem dX1_bidNow_0 : decode cX1_bidNow 0 = .ok (.aload_n 0, 1) := by decide +kernel
theorem dX1_bidNow_1 : decode cX1_bidNow 1 = .ok (.getfield 9, 3) := by decide +kernel
theorem dX1_bidNow_4 : decode cX1_bidNow 4 = .ok (.iload_n 1, 1) := by decide +kernel
theorem dX1_bidNow_5 : decode cX1_bidNow 5 = .ok (.iconst 5, 1) := by decide +kernel
theorem dX1_bidNow_6 : decode cX1_bidNow 6 = .ok (.imul, 1) := by decide +kernel
theorem dX1_bidNow_7 : decode cX1_bidNow 7 = .ok (.aload_n 0, 1) := by decide +kernel
theorem dX1_bidNow_8 : decode cX1_bidNow 8 = .ok (.getfield 15, 3) := by decide +kernel
theorem dX1_bidNow_11 : decode cX1_bidNow 11 = .ok (.iload_n 1, 1) := by decide +kernel
theorem dX1_bidNow_12 : decode cX1_bidNow 12 = .ok (.iaload, 1) := by decide +kernel
theorem dX1_bidNow_13 : decode cX1_bidNow 13 = .ok (.iadd, 1) := by decide +kernel
theorem dX1_bidNow_14 : decode cX1_bidNow 14 = .ok (.iaload, 1) := by decide +kernel
theorem dX1_bidNow_15 : decode cX1_bidNow 15 = .ok (.ireturn, 1) := by decide +kernel
theorem dX1_withSign_0 : decode cX1_withSign 0 = .ok (.iconst 0, 1) := by decide +kernel
theorem dX1_withSign_1 : decode cX1_withSign 1 = .ok (.istore_n 3, 1) := by decide +kernel
theorem dX1_withSign_2 : decode cX1_withSign 2 = .ok (.iload_n 3, 1) := by decide +kernel
theorem dX1_withSign_3 : decode cX1_withSign 3 = .ok (.aload_n 1, 1) := by decide +kernel
theorem dX1_withSign_4 : decode cX1_withSign 4 = .ok (.getfield 55, 3) := by decide +kernel
theorem dX1_withSign_7 : decode cX1_withSign 7 = .ok (.if_icmp .ge 30, 3) := by decide +kernel
theorem dX1_withSign_10 : decode cX1_withSign 10 = .ok (.aload_n 0, 1) := by decide +kernel
theorem dX1_withSign_11 : decode cX1_withSign 11 = .ok (.getfield 18, 3) := by decide +kernel
theorem dX1_withSign_14 : decode cX1_withSign 14 = .ok (.iload_n 3, 1) := by decide +kernel
theorem dX1_withSign_15 : decode cX1_withSign 15 = .ok (.aload_n 1, 1) := by decide +kernel
theorem dX1_withSign_16 : decode cX1_withSign 16 = .ok (.getfield 58, 3) := by decide +kernel
theorem dX1_withSign_19 : decode cX1_withSign 19 = .ok (.iload_n 3, 1) := by decide +kernel
theorem dX1_withSign_20 : decode cX1_withSign 20 = .ok (.iaload, 1) := by decide +kernel
theorem dX1_withSign_21 : decode cX1_withSign 21 = .ok (.i2l, 1) := by decide +kernel
theorem dX1_withSign_22 : decode cX1_withSign 22 = .ok (.aload_n 1, 1) := by decide +kernel
theorem dX1_withSign_23 : decode cX1_withSign 23 = .ok (.iload_n 3, 1) := by decide +kernel
theorem dX1_withSign_24 : decode cX1_withSign 24 = .ok (.iload_n 2, 1) := by decide +kernel
theorem dX1_withSign_25 : decode cX1_withSign 25 = .ok (.invokevirtual 60, 3) := by decide +kernel
theorem dX1_withSign_28 : decode cX1_withSign 28 = .ok (.i2l, 1) := by decide +kernel
theorem dX1_withSign_29 : decode cX1_withSign 29 = .ok (.lmul, 1) := by decide +kernel
theorem dX1_withSign_30 : decode cX1_withSign 30 = .ok (.lastore, 1) := by decide +kernel
theorem dX1_withSign_31 : decode cX1_withSign 31 = .ok (.iinc 3 1, 3) := by decide +kernel
theorem dX1_withSign_34 : decode cX1_withSign 34 = .ok (.goto (-32), 3) := by decide +kernel
theorem dX1_withSign_37 : decode cX1_withSign 37 = .ok (.return_, 1) := by decide +kernel
theorem dX1_withTruth_0 : decode cX1_withTruth 0 = .ok (.iconst 0, 1) := by decide +kernel
theorem dX1_withTruth_1 : decode cX1_withTruth 1 = .ok (.istore_n 3, 1) := by decide +kernel
theorem dX1_withTruth_2 : decode cX1_withTruth 2 = .ok (.iload_n 3, 1) := by decide +kernel
theorem dX1_withTruth_3 : decode cX1_withTruth 3 = .ok (.aload_n 1, 1) := by decide +kernel
theorem dX1_withTruth_4 : decode cX1_withTruth 4 = .ok (.getfield 55, 3) := by decide +kernel
theorem dX1_withTruth_7 : decode cX1_withTruth 7 = .ok (.if_icmp .ge 31, 3) := by decide +kernel
theorem dX1_withTruth_10 : decode cX1_withTruth 10 = .ok (.aload_n 0, 1) := by decide +kernel
theorem dX1_withTruth_11 : decode cX1_withTruth 11 = .ok (.getfield 18, 3) := by decide +kernel
theorem dX1_withTruth_14 : decode cX1_withTruth 14 = .ok (.iload_n 3, 1) := by decide +kernel
theorem dX1_withTruth_15 : decode cX1_withTruth 15 = .ok (.iload_n 3, 1) := by decide +kernel
theorem dX1_withTruth_16 : decode cX1_withTruth 16 = .ok (.iload_n 2, 1) := by decide +kernel
theorem dX1_withTruth_17 : decode cX1_withTruth 17 = .ok (.if_icmp .ne 13, 3) := by decide +kernel
theorem dX1_withTruth_20 : decode cX1_withTruth 20 = .ok (.aload_n 1, 1) := by decide +kernel
theorem dX1_withTruth_21 : decode cX1_withTruth 21 = .ok (.getfield 58, 3) := by decide +kernel
theorem dX1_withTruth_24 : decode cX1_withTruth 24 = .ok (.iload_n 3, 1) := by decide +kernel
theorem dX1_withTruth_25 : decode cX1_withTruth 25 = .ok (.iaload, 1) := by decide +kernel
theorem dX1_withTruth_26 : decode cX1_withTruth 26 = .ok (.i2l, 1) := by decide +kernel
theorem dX1_withTruth_27 : decode cX1_withTruth 27 = .ok (.goto 4, 3) := by decide +kernel
theorem dX1_withTruth_30 : decode cX1_withTruth 30 = .ok (.lconst 0, 1) := by decide +kernel
theorem dX1_withTruth_31 : decode cX1_withTruth 31 = .ok (.lastore, 1) := by decide +kernel
theorem dX1_withTruth_32 : decode cX1_withTruth 32 = .ok (.iinc 3 1, 3) := by decide +kernel
theorem dX1_withTruth_35 : decode cX1_withTruth 35 = .ok (.goto (-33), 3) := by decide +kernel
theorem dX1_withTruth_38 : decode cX1_withTruth 38 = .ok (.return_, 1) := by decide +kernel
theorem dX1_begin_0 : decode cX1_begin 0 = .ok (.aload_n 0, 1) := by decide +kernel
theorem dX1_begin_1 : decode cX1_begin 1 = .ok (.aload_n 1, 1) := by decide +kernel
theorem dX1_begin_2 : decode cX1_begin 2 = .ok (.putfield 25, 3) := by decide +kernel
theorem dX1_begin_5 : decode cX1_begin 5 = .ok (.aload_n 0, 1) := by decide +kernel
theorem dX1_begin_6 : decode cX1_begin 6 = .ok (.iload_n 2, 1) := by decide +kernel
theorem dX1_begin_7 : decode cX1_begin 7 = .ok (.putfield 29, 3) := by decide +kernel
theorem dX1_begin_10 : decode cX1_begin 10 = .ok (.aload_n 0, 1) := by decide +kernel
theorem dX1_begin_11 : decode cX1_begin 11 = .ok (.iload_n 3, 1) := by decide +kernel
theorem dX1_begin_12 : decode cX1_begin 12 = .ok (.putfield 33, 3) := by decide +kernel
theorem dX1_begin_15 : decode cX1_begin 15 = .ok (.iconst 1, 1) := by decide +kernel
theorem dX1_begin_16 : decode cX1_begin 16 = .ok (.istore 4, 2) := by decide +kernel
theorem dX1_begin_18 : decode cX1_begin 18 = .ok (.iconst 0, 1) := by decide +kernel
theorem dX1_begin_19 : decode cX1_begin 19 = .ok (.istore 5, 2) := by decide +kernel
theorem dX1_begin_21 : decode cX1_begin 21 = .ok (.iload 5, 2) := by decide +kernel
theorem dX1_begin_23 : decode cX1_begin 23 = .ok (.aload_n 0, 1) := by decide +kernel
theorem dX1_begin_24 : decode cX1_begin 24 = .ok (.getfield 29, 3) := by decide +kernel
theorem dX1_begin_27 : decode cX1_begin 27 = .ok (.if_icmp .ge 26, 3) := by decide +kernel
theorem dX1_begin_30 : decode cX1_begin 30 = .ok (.aload_n 0, 1) := by decide +kernel
theorem dX1_begin_31 : decode cX1_begin 31 = .ok (.getfield 15, 3) := by decide +kernel
theorem dX1_begin_34 : decode cX1_begin 34 = .ok (.iload 5, 2) := by decide +kernel
theorem dX1_begin_36 : decode cX1_begin 36 = .ok (.iconst 0, 1) := by decide +kernel
theorem dX1_begin_37 : decode cX1_begin 37 = .ok (.iastore, 1) := by decide +kernel
theorem dX1_begin_38 : decode cX1_begin 38 = .ok (.iload 4, 2) := by decide +kernel
theorem dX1_begin_40 : decode cX1_begin 40 = .ok (.aload_n 1, 1) := by decide +kernel
theorem dX1_begin_41 : decode cX1_begin 41 = .ok (.getfield 64, 3) := by decide +kernel
theorem dX1_begin_44 : decode cX1_begin 44 = .ok (.imul, 1) := by decide +kernel
theorem dX1_begin_45 : decode cX1_begin 45 = .ok (.istore 4, 2) := by decide +kernel
theorem dX1_begin_47 : decode cX1_begin 47 = .ok (.iinc 5 1, 3) := by decide +kernel
theorem dX1_begin_50 : decode cX1_begin 50 = .ok (.goto (-29), 3) := by decide +kernel
theorem dX1_begin_53 : decode cX1_begin 53 = .ok (.aload_n 0, 1) := by decide +kernel
theorem dX1_begin_54 : decode cX1_begin 54 = .ok (.iconst 0, 1) := by decide +kernel
theorem dX1_begin_55 : decode cX1_begin 55 = .ok (.invokevirtual 67, 3) := by decide +kernel
theorem dX1_begin_58 : decode cX1_begin 58 = .ok (.iload 4, 2) := by decide +kernel
theorem dX1_begin_60 : decode cX1_begin 60 = .ok (.ireturn, 1) := by decide +kernel
theorem dX1_step_0 : decode cX1_step 0 = .ok (.aload_n 0, 1) := by decide +kernel
theorem dX1_step_1 : decode cX1_step 1 = .ok (.getfield 29, 3) := by decide +kernel
theorem dX1_step_4 : decode cX1_step 4 = .ok (.iconst 1, 1) := by decide +kernel
theorem dX1_step_5 : decode cX1_step 5 = .ok (.isub, 1) := by decide +kernel
theorem dX1_step_6 : decode cX1_step 6 = .ok (.istore_n 1, 1) := by decide +kernel
theorem dX1_step_7 : decode cX1_step 7 = .ok (.iload_n 1, 1) := by decide +kernel
theorem dX1_step_8 : decode cX1_step 8 = .ok (.ifCond .lt 50, 3) := by decide +kernel
theorem dX1_step_11 : decode cX1_step 11 = .ok (.aload_n 0, 1) := by decide +kernel
theorem dX1_step_12 : decode cX1_step 12 = .ok (.getfield 15, 3) := by decide +kernel
theorem dX1_step_15 : decode cX1_step 15 = .ok (.iload_n 1, 1) := by decide +kernel
theorem dX1_step_16 : decode cX1_step 16 = .ok (.iaload, 1) := by decide +kernel
theorem dX1_step_17 : decode cX1_step 17 = .ok (.iconst 1, 1) := by decide +kernel
theorem dX1_step_18 : decode cX1_step 18 = .ok (.iadd, 1) := by decide +kernel
theorem dX1_step_19 : decode cX1_step 19 = .ok (.aload_n 0, 1) := by decide +kernel
theorem dX1_step_20 : decode cX1_step 20 = .ok (.getfield 25, 3) := by decide +kernel
theorem dX1_step_23 : decode cX1_step 23 = .ok (.getfield 64, 3) := by decide +kernel
theorem dX1_step_26 : decode cX1_step 26 = .ok (.if_icmp .ge 19, 3) := by decide +kernel
theorem dX1_step_29 : decode cX1_step 29 = .ok (.aload_n 0, 1) := by decide +kernel
theorem dX1_step_30 : decode cX1_step 30 = .ok (.getfield 15, 3) := by decide +kernel
theorem dX1_step_33 : decode cX1_step 33 = .ok (.iload_n 1, 1) := by decide +kernel
theorem dX1_step_34 : decode cX1_step 34 = .ok (.dup2, 1) := by decide +kernel
theorem dX1_step_35 : decode cX1_step 35 = .ok (.iaload, 1) := by decide +kernel
theorem dX1_step_36 : decode cX1_step 36 = .ok (.iconst 1, 1) := by decide +kernel
theorem dX1_step_37 : decode cX1_step 37 = .ok (.iadd, 1) := by decide +kernel
theorem dX1_step_38 : decode cX1_step 38 = .ok (.iastore, 1) := by decide +kernel
theorem dX1_step_39 : decode cX1_step 39 = .ok (.aload_n 0, 1) := by decide +kernel
theorem dX1_step_40 : decode cX1_step 40 = .ok (.iload_n 1, 1) := by decide +kernel
theorem dX1_step_41 : decode cX1_step 41 = .ok (.invokevirtual 67, 3) := by decide +kernel
theorem dX1_step_44 : decode cX1_step 44 = .ok (.return_, 1) := by decide +kernel
theorem dX1_step_45 : decode cX1_step 45 = .ok (.aload_n 0, 1) := by decide +kernel
theorem dX1_step_46 : decode cX1_step 46 = .ok (.getfield 15, 3) := by decide +kernel
theorem dX1_step_49 : decode cX1_step 49 = .ok (.iload_n 1, 1) := by decide +kernel
theorem dX1_step_50 : decode cX1_step 50 = .ok (.iconst 0, 1) := by decide +kernel
theorem dX1_step_51 : decode cX1_step 51 = .ok (.iastore, 1) := by decide +kernel
theorem dX1_step_52 : decode cX1_step 52 = .ok (.iinc 1 (-1), 3) := by decide +kernel
theorem dX1_step_55 : decode cX1_step 55 = .ok (.goto (-48), 3) := by decide +kernel
theorem dX1_step_58 : decode cX1_step 58 = .ok (.return_, 1) := by decide +kernel
theorem dX1_reckon_0 : decode cX1_reckon 0 = .ok (.iload_n 1, 1) := by decide +kernel
theorem dX1_reckon_1 : decode cX1_reckon 1 = .ok (.istore_n 2, 1) := by decide +kernel
theorem dX1_reckon_2 : decode cX1_reckon 2 = .ok (.iload_n 2, 1) := by decide +kernel
theorem dX1_reckon_3 : decode cX1_reckon 3 = .ok (.aload_n 0, 1) := by decide +kernel
theorem dX1_reckon_4 : decode cX1_reckon 4 = .ok (.getfield 29, 3) := by decide +kernel
theorem dX1_reckon_7 : decode cX1_reckon 7 = .ok (.if_icmp .ge 77, 3) := by decide +kernel
theorem dX1_reckon_10 : decode cX1_reckon 10 = .ok (.iload_n 2, 1) := by decide +kernel
theorem dX1_reckon_11 : decode cX1_reckon 11 = .ok (.bipush 8, 2) := by decide +kernel
theorem dX1_reckon_13 : decode cX1_reckon 13 = .ok (.imul, 1) := by decide +kernel
theorem dX1_reckon_14 : decode cX1_reckon 14 = .ok (.istore_n 3, 1) := by decide +kernel
theorem dX1_reckon_15 : decode cX1_reckon 15 = .ok (.iconst 0, 1) := by decide +kernel
theorem dX1_reckon_16 : decode cX1_reckon 16 = .ok (.istore 4, 2) := by decide +kernel
theorem dX1_reckon_18 : decode cX1_reckon 18 = .ok (.iload 4, 2) := by decide +kernel
theorem dX1_reckon_20 : decode cX1_reckon 20 = .ok (.aload_n 0, 1) := by decide +kernel
theorem dX1_reckon_21 : decode cX1_reckon 21 = .ok (.getfield 25, 3) := by decide +kernel
theorem dX1_reckon_24 : decode cX1_reckon 24 = .ok (.getfield 55, 3) := by decide +kernel
theorem dX1_reckon_27 : decode cX1_reckon 27 = .ok (.if_icmp .ge 51, 3) := by decide +kernel
theorem dX1_reckon_30 : decode cX1_reckon 30 = .ok (.aload_n 0, 1) := by decide +kernel
theorem dX1_reckon_31 : decode cX1_reckon 31 = .ok (.getfield 18, 3) := by decide +kernel
theorem dX1_reckon_34 : decode cX1_reckon 34 = .ok (.iload_n 3, 1) := by decide +kernel
theorem dX1_reckon_35 : decode cX1_reckon 35 = .ok (.bipush 8, 2) := by decide +kernel
theorem dX1_reckon_37 : decode cX1_reckon 37 = .ok (.iadd, 1) := by decide +kernel
theorem dX1_reckon_38 : decode cX1_reckon 38 = .ok (.iload 4, 2) := by decide +kernel
theorem dX1_reckon_40 : decode cX1_reckon 40 = .ok (.iadd, 1) := by decide +kernel
theorem dX1_reckon_41 : decode cX1_reckon 41 = .ok (.aload_n 0, 1) := by decide +kernel
theorem dX1_reckon_42 : decode cX1_reckon 42 = .ok (.getfield 18, 3) := by decide +kernel
theorem dX1_reckon_45 : decode cX1_reckon 45 = .ok (.iload_n 3, 1) := by decide +kernel
theorem dX1_reckon_46 : decode cX1_reckon 46 = .ok (.iload 4, 2) := by decide +kernel
theorem dX1_reckon_48 : decode cX1_reckon 48 = .ok (.iadd, 1) := by decide +kernel
theorem dX1_reckon_49 : decode cX1_reckon 49 = .ok (.laload, 1) := by decide +kernel
theorem dX1_reckon_50 : decode cX1_reckon 50 = .ok (.aload_n 0, 1) := by decide +kernel
theorem dX1_reckon_51 : decode cX1_reckon 51 = .ok (.getfield 25, 3) := by decide +kernel
theorem dX1_reckon_54 : decode cX1_reckon 54 = .ok (.getfield 71, 3) := by decide +kernel
theorem dX1_reckon_57 : decode cX1_reckon 57 = .ok (.iload 4, 2) := by decide +kernel
theorem dX1_reckon_59 : decode cX1_reckon 59 = .ok (.iconst 5, 1) := by decide +kernel
theorem dX1_reckon_60 : decode cX1_reckon 60 = .ok (.imul, 1) := by decide +kernel
theorem dX1_reckon_61 : decode cX1_reckon 61 = .ok (.aload_n 0, 1) := by decide +kernel
theorem dX1_reckon_62 : decode cX1_reckon 62 = .ok (.getfield 15, 3) := by decide +kernel
theorem dX1_reckon_65 : decode cX1_reckon 65 = .ok (.iload_n 2, 1) := by decide +kernel
theorem dX1_reckon_66 : decode cX1_reckon 66 = .ok (.iaload, 1) := by decide +kernel
theorem dX1_reckon_67 : decode cX1_reckon 67 = .ok (.iadd, 1) := by decide +kernel
theorem dX1_reckon_68 : decode cX1_reckon 68 = .ok (.iaload, 1) := by decide +kernel
theorem dX1_reckon_69 : decode cX1_reckon 69 = .ok (.i2l, 1) := by decide +kernel
theorem dX1_reckon_70 : decode cX1_reckon 70 = .ok (.lmul, 1) := by decide +kernel
theorem dX1_reckon_71 : decode cX1_reckon 71 = .ok (.lastore, 1) := by decide +kernel
theorem dX1_reckon_72 : decode cX1_reckon 72 = .ok (.iinc 4 1, 3) := by decide +kernel
theorem dX1_reckon_75 : decode cX1_reckon 75 = .ok (.goto (-57), 3) := by decide +kernel
theorem dX1_reckon_78 : decode cX1_reckon 78 = .ok (.iinc 2 1, 3) := by decide +kernel
theorem dX1_reckon_81 : decode cX1_reckon 81 = .ok (.goto (-79), 3) := by decide +kernel
theorem dX1_reckon_84 : decode cX1_reckon 84 = .ok (.aload_n 0, 1) := by decide +kernel
theorem dX1_reckon_85 : decode cX1_reckon 85 = .ok (.lconst 0, 1) := by decide +kernel
theorem dX1_reckon_86 : decode cX1_reckon 86 = .ok (.putfield 36, 3) := by decide +kernel
theorem dX1_reckon_89 : decode cX1_reckon 89 = .ok (.aload_n 0, 1) := by decide +kernel
theorem dX1_reckon_90 : decode cX1_reckon 90 = .ok (.lconst 0, 1) := by decide +kernel
theorem dX1_reckon_91 : decode cX1_reckon 91 = .ok (.putfield 40, 3) := by decide +kernel
theorem dX1_reckon_94 : decode cX1_reckon 94 = .ok (.iconst 0, 1) := by decide +kernel
theorem dX1_reckon_95 : decode cX1_reckon 95 = .ok (.istore_n 2, 1) := by decide +kernel
theorem dX1_reckon_96 : decode cX1_reckon 96 = .ok (.iload_n 2, 1) := by decide +kernel
theorem dX1_reckon_97 : decode cX1_reckon 97 = .ok (.aload_n 0, 1) := by decide +kernel
theorem dX1_reckon_98 : decode cX1_reckon 98 = .ok (.getfield 25, 3) := by decide +kernel
theorem dX1_reckon_101 : decode cX1_reckon 101 = .ok (.getfield 55, 3) := by decide +kernel
theorem dX1_reckon_104 : decode cX1_reckon 104 = .ok (.if_icmp .ge 55, 3) := by decide +kernel
theorem dX1_reckon_107 : decode cX1_reckon 107 = .ok (.aload_n 0, 1) := by decide +kernel
theorem dX1_reckon_108 : decode cX1_reckon 108 = .ok (.getfield 18, 3) := by decide +kernel
theorem dX1_reckon_111 : decode cX1_reckon 111 = .ok (.aload_n 0, 1) := by decide +kernel
theorem dX1_reckon_112 : decode cX1_reckon 112 = .ok (.getfield 29, 3) := by decide +kernel
theorem dX1_reckon_115 : decode cX1_reckon 115 = .ok (.bipush 8, 2) := by decide +kernel
theorem dX1_reckon_117 : decode cX1_reckon 117 = .ok (.imul, 1) := by decide +kernel
theorem dX1_reckon_118 : decode cX1_reckon 118 = .ok (.iload_n 2, 1) := by decide +kernel
theorem dX1_reckon_119 : decode cX1_reckon 119 = .ok (.iadd, 1) := by decide +kernel
theorem dX1_reckon_120 : decode cX1_reckon 120 = .ok (.laload, 1) := by decide +kernel
theorem dX1_reckon_121 : decode cX1_reckon 121 = .ok (.lstore_n 3, 1) := by decide +kernel
theorem dX1_reckon_122 : decode cX1_reckon 122 = .ok (.aload_n 0, 1) := by decide +kernel
theorem dX1_reckon_123 : decode cX1_reckon 123 = .ok (.dup, 1) := by decide +kernel
theorem dX1_reckon_124 : decode cX1_reckon 124 = .ok (.getfield 36, 3) := by decide +kernel
theorem dX1_reckon_127 : decode cX1_reckon 127 = .ok (.lload_n 3, 1) := by decide +kernel
theorem dX1_reckon_128 : decode cX1_reckon 128 = .ok (.ladd, 1) := by decide +kernel
theorem dX1_reckon_129 : decode cX1_reckon 129 = .ok (.putfield 36, 3) := by decide +kernel
theorem dX1_reckon_132 : decode cX1_reckon 132 = .ok (.aload_n 0, 1) := by decide +kernel
theorem dX1_reckon_133 : decode cX1_reckon 133 = .ok (.dup, 1) := by decide +kernel
theorem dX1_reckon_134 : decode cX1_reckon 134 = .ok (.getfield 40, 3) := by decide +kernel
theorem dX1_reckon_137 : decode cX1_reckon 137 = .ok (.lload_n 3, 1) := by decide +kernel
theorem dX1_reckon_138 : decode cX1_reckon 138 = .ok (.aload_n 0, 1) := by decide +kernel
theorem dX1_reckon_139 : decode cX1_reckon 139 = .ok (.getfield 25, 3) := by decide +kernel
theorem dX1_reckon_142 : decode cX1_reckon 142 = .ok (.getfield 74, 3) := by decide +kernel
theorem dX1_reckon_145 : decode cX1_reckon 145 = .ok (.iload_n 2, 1) := by decide +kernel
theorem dX1_reckon_146 : decode cX1_reckon 146 = .ok (.iaload, 1) := by decide +kernel
theorem dX1_reckon_147 : decode cX1_reckon 147 = .ok (.i2l, 1) := by decide +kernel
theorem dX1_reckon_148 : decode cX1_reckon 148 = .ok (.lmul, 1) := by decide +kernel
theorem dX1_reckon_149 : decode cX1_reckon 149 = .ok (.ladd, 1) := by decide +kernel
theorem dX1_reckon_150 : decode cX1_reckon 150 = .ok (.putfield 40, 3) := by decide +kernel
theorem dX1_reckon_153 : decode cX1_reckon 153 = .ok (.iinc 2 1, 3) := by decide +kernel
theorem dX1_reckon_156 : decode cX1_reckon 156 = .ok (.goto (-60), 3) := by decide +kernel
theorem dX1_reckon_159 : decode cX1_reckon 159 = .ok (.aload_n 0, 1) := by decide +kernel
theorem dX1_reckon_160 : decode cX1_reckon 160 = .ok (.invokevirtual 77, 3) := by decide +kernel
theorem dX1_reckon_163 : decode cX1_reckon 163 = .ok (.return_, 1) := by decide +kernel
theorem dX1_rank_0 : decode cX1_rank 0 = .ok (.aload_n 0, 1) := by decide +kernel
theorem dX1_rank_1 : decode cX1_rank 1 = .ok (.iconst (-1), 1) := by decide +kernel
theorem dX1_rank_2 : decode cX1_rank 2 = .ok (.putfield 43, 3) := by decide +kernel
theorem dX1_rank_5 : decode cX1_rank 5 = .ok (.aload_n 0, 1) := by decide +kernel
theorem dX1_rank_6 : decode cX1_rank 6 = .ok (.iconst 0, 1) := by decide +kernel
theorem dX1_rank_7 : decode cX1_rank 7 = .ok (.putfield 46, 3) := by decide +kernel
theorem dX1_rank_10 : decode cX1_rank 10 = .ok (.aload_n 0, 1) := by decide +kernel
theorem dX1_rank_11 : decode cX1_rank 11 = .ok (.iconst (-1), 1) := by decide +kernel
theorem dX1_rank_12 : decode cX1_rank 12 = .ok (.putfield 49, 3) := by decide +kernel
theorem dX1_rank_15 : decode cX1_rank 15 = .ok (.aload_n 0, 1) := by decide +kernel
theorem dX1_rank_16 : decode cX1_rank 16 = .ok (.iconst 0, 1) := by decide +kernel
theorem dX1_rank_17 : decode cX1_rank 17 = .ok (.putfield 52, 3) := by decide +kernel
theorem dX1_rank_20 : decode cX1_rank 20 = .ok (.iconst 0, 1) := by decide +kernel
theorem dX1_rank_21 : decode cX1_rank 21 = .ok (.istore_n 1, 1) := by decide +kernel
theorem dX1_rank_22 : decode cX1_rank 22 = .ok (.iload_n 1, 1) := by decide +kernel
theorem dX1_rank_23 : decode cX1_rank 23 = .ok (.aload_n 0, 1) := by decide +kernel
theorem dX1_rank_24 : decode cX1_rank 24 = .ok (.getfield 29, 3) := by decide +kernel
theorem dX1_rank_27 : decode cX1_rank 27 = .ok (.if_icmp .ge 114, 3) := by decide +kernel
theorem dX1_rank_30 : decode cX1_rank 30 = .ok (.aload_n 0, 1) := by decide +kernel
theorem dX1_rank_31 : decode cX1_rank 31 = .ok (.getfield 9, 3) := by decide +kernel
theorem dX1_rank_34 : decode cX1_rank 34 = .ok (.iload_n 1, 1) := by decide +kernel
theorem dX1_rank_35 : decode cX1_rank 35 = .ok (.iconst 5, 1) := by decide +kernel
theorem dX1_rank_36 : decode cX1_rank 36 = .ok (.imul, 1) := by decide +kernel
theorem dX1_rank_37 : decode cX1_rank 37 = .ok (.aload_n 0, 1) := by decide +kernel
theorem dX1_rank_38 : decode cX1_rank 38 = .ok (.getfield 15, 3) := by decide +kernel
theorem dX1_rank_41 : decode cX1_rank 41 = .ok (.iload_n 1, 1) := by decide +kernel
theorem dX1_rank_42 : decode cX1_rank 42 = .ok (.iaload, 1) := by decide +kernel
theorem dX1_rank_43 : decode cX1_rank 43 = .ok (.iadd, 1) := by decide +kernel
theorem dX1_rank_44 : decode cX1_rank 44 = .ok (.iaload, 1) := by decide +kernel
theorem dX1_rank_45 : decode cX1_rank 45 = .ok (.istore_n 2, 1) := by decide +kernel
theorem dX1_rank_46 : decode cX1_rank 46 = .ok (.iload_n 2, 1) := by decide +kernel
theorem dX1_rank_47 : decode cX1_rank 47 = .ok (.aload_n 0, 1) := by decide +kernel
theorem dX1_rank_48 : decode cX1_rank 48 = .ok (.getfield 33, 3) := by decide +kernel
theorem dX1_rank_51 : decode cX1_rank 51 = .ok (.if_icmp .ge 6, 3) := by decide +kernel
theorem dX1_rank_54 : decode cX1_rank 54 = .ok (.goto 81, 3) := by decide +kernel
theorem dX1_rank_57 : decode cX1_rank 57 = .ok (.aload_n 0, 1) := by decide +kernel
theorem dX1_rank_58 : decode cX1_rank 58 = .ok (.dup, 1) := by decide +kernel
theorem dX1_rank_59 : decode cX1_rank 59 = .ok (.getfield 52, 3) := by decide +kernel
theorem dX1_rank_62 : decode cX1_rank 62 = .ok (.iload_n 2, 1) := by decide +kernel
theorem dX1_rank_63 : decode cX1_rank 63 = .ok (.iadd, 1) := by decide +kernel
theorem dX1_rank_64 : decode cX1_rank 64 = .ok (.putfield 52, 3) := by decide +kernel
theorem dX1_rank_67 : decode cX1_rank 67 = .ok (.iload_n 2, 1) := by decide +kernel
theorem dX1_rank_68 : decode cX1_rank 68 = .ok (.aload_n 0, 1) := by decide +kernel
theorem dX1_rank_69 : decode cX1_rank 69 = .ok (.getfield 43, 3) := by decide +kernel
theorem dX1_rank_72 : decode cX1_rank 72 = .ok (.if_icmp .le 24, 3) := by decide +kernel
theorem dX1_rank_75 : decode cX1_rank 75 = .ok (.aload_n 0, 1) := by decide +kernel
theorem dX1_rank_76 : decode cX1_rank 76 = .ok (.aload_n 0, 1) := by decide +kernel
theorem dX1_rank_77 : decode cX1_rank 77 = .ok (.getfield 43, 3) := by decide +kernel
theorem dX1_rank_80 : decode cX1_rank 80 = .ok (.putfield 49, 3) := by decide +kernel
theorem dX1_rank_83 : decode cX1_rank 83 = .ok (.aload_n 0, 1) := by decide +kernel
theorem dX1_rank_84 : decode cX1_rank 84 = .ok (.iload_n 2, 1) := by decide +kernel
theorem dX1_rank_85 : decode cX1_rank 85 = .ok (.putfield 43, 3) := by decide +kernel
theorem dX1_rank_88 : decode cX1_rank 88 = .ok (.aload_n 0, 1) := by decide +kernel
theorem dX1_rank_89 : decode cX1_rank 89 = .ok (.iconst 1, 1) := by decide +kernel
theorem dX1_rank_90 : decode cX1_rank 90 = .ok (.putfield 46, 3) := by decide +kernel
theorem dX1_rank_93 : decode cX1_rank 93 = .ok (.goto 42, 3) := by decide +kernel
theorem dX1_rank_96 : decode cX1_rank 96 = .ok (.iload_n 2, 1) := by decide +kernel
theorem dX1_rank_97 : decode cX1_rank 97 = .ok (.aload_n 0, 1) := by decide +kernel
theorem dX1_rank_98 : decode cX1_rank 98 = .ok (.getfield 43, 3) := by decide +kernel
theorem dX1_rank_101 : decode cX1_rank 101 = .ok (.if_icmp .ne 21, 3) := by decide +kernel
theorem dX1_rank_104 : decode cX1_rank 104 = .ok (.aload_n 0, 1) := by decide +kernel
theorem dX1_rank_105 : decode cX1_rank 105 = .ok (.iload_n 2, 1) := by decide +kernel
theorem dX1_rank_106 : decode cX1_rank 106 = .ok (.putfield 49, 3) := by decide +kernel
theorem dX1_rank_109 : decode cX1_rank 109 = .ok (.aload_n 0, 1) := by decide +kernel
theorem dX1_rank_110 : decode cX1_rank 110 = .ok (.dup, 1) := by decide +kernel
theorem dX1_rank_111 : decode cX1_rank 111 = .ok (.getfield 46, 3) := by decide +kernel
theorem dX1_rank_114 : decode cX1_rank 114 = .ok (.iconst 1, 1) := by decide +kernel
theorem dX1_rank_115 : decode cX1_rank 115 = .ok (.iadd, 1) := by decide +kernel
theorem dX1_rank_116 : decode cX1_rank 116 = .ok (.putfield 46, 3) := by decide +kernel
theorem dX1_rank_119 : decode cX1_rank 119 = .ok (.goto 16, 3) := by decide +kernel
theorem dX1_rank_122 : decode cX1_rank 122 = .ok (.iload_n 2, 1) := by decide +kernel
theorem dX1_rank_123 : decode cX1_rank 123 = .ok (.aload_n 0, 1) := by decide +kernel
theorem dX1_rank_124 : decode cX1_rank 124 = .ok (.getfield 49, 3) := by decide +kernel
theorem dX1_rank_127 : decode cX1_rank 127 = .ok (.if_icmp .le 8, 3) := by decide +kernel
theorem dX1_rank_130 : decode cX1_rank 130 = .ok (.aload_n 0, 1) := by decide +kernel
theorem dX1_rank_131 : decode cX1_rank 131 = .ok (.iload_n 2, 1) := by decide +kernel
theorem dX1_rank_132 : decode cX1_rank 132 = .ok (.putfield 49, 3) := by decide +kernel
theorem dX1_rank_135 : decode cX1_rank 135 = .ok (.iinc 1 1, 3) := by decide +kernel
theorem dX1_rank_138 : decode cX1_rank 138 = .ok (.goto (-116), 3) := by decide +kernel
theorem dX1_rank_141 : decode cX1_rank 141 = .ok (.return_, 1) := by decide +kernel
theorem dX1_price_0 : decode cX1_price 0 = .ok (.aload_n 0, 1) := by decide +kernel
theorem dX1_price_1 : decode cX1_price 1 = .ok (.getfield 25, 3) := by decide +kernel
theorem dX1_price_4 : decode cX1_price 4 = .ok (.getfield 80, 3) := by decide +kernel
theorem dX1_price_7 : decode cX1_price 7 = .ok (.iconst 1, 1) := by decide +kernel
theorem dX1_price_8 : decode cX1_price 8 = .ok (.if_icmp .eq 8, 3) := by decide +kernel
theorem dX1_price_11 : decode cX1_price 11 = .ok (.aload_n 0, 1) := by decide +kernel
theorem dX1_price_12 : decode cX1_price 12 = .ok (.getfield 43, 3) := by decide +kernel
theorem dX1_price_15 : decode cX1_price 15 = .ok (.ireturn, 1) := by decide +kernel
theorem dX1_price_16 : decode cX1_price 16 = .ok (.aload_n 0, 1) := by decide +kernel
theorem dX1_price_17 : decode cX1_price 17 = .ok (.getfield 49, 3) := by decide +kernel
theorem dX1_price_20 : decode cX1_price 20 = .ok (.iconst (-1), 1) := by decide +kernel
theorem dX1_price_21 : decode cX1_price 21 = .ok (.if_icmp .ne 10, 3) := by decide +kernel
theorem dX1_price_24 : decode cX1_price 24 = .ok (.aload_n 0, 1) := by decide +kernel
theorem dX1_price_25 : decode cX1_price 25 = .ok (.getfield 33, 3) := by decide +kernel
theorem dX1_price_28 : decode cX1_price 28 = .ok (.goto 7, 3) := by decide +kernel
theorem dX1_price_31 : decode cX1_price 31 = .ok (.aload_n 0, 1) := by decide +kernel
theorem dX1_price_32 : decode cX1_price 32 = .ok (.getfield 49, 3) := by decide +kernel
theorem dX1_price_35 : decode cX1_price 35 = .ok (.ireturn, 1) := by decide +kernel
theorem dX1_weightBelow_0 : decode cX1_weightBelow 0 = .ok (.lconst 0, 1) := by decide +kernel
theorem dX1_weightBelow_1 : decode cX1_weightBelow 1 = .ok (.lstore_n 2, 1) := by decide +kernel
theorem dX1_weightBelow_2 : decode cX1_weightBelow 2 = .ok (.iconst 0, 1) := by decide +kernel
theorem dX1_weightBelow_3 : decode cX1_weightBelow 3 = .ok (.istore 4, 2) := by decide +kernel
theorem dX1_weightBelow_5 : decode cX1_weightBelow 5 = .ok (.iload 4, 2) := by decide +kernel
theorem dX1_weightBelow_7 : decode cX1_weightBelow 7 = .ok (.aload_n 0, 1) := by decide +kernel
theorem dX1_weightBelow_8 : decode cX1_weightBelow 8 = .ok (.getfield 25, 3) := by decide +kernel
theorem dX1_weightBelow_11 : decode cX1_weightBelow 11 = .ok (.getfield 55, 3) := by decide +kernel
theorem dX1_weightBelow_14 : decode cX1_weightBelow 14 = .ok (.if_icmp .ge 41, 3) := by decide +kernel
theorem dX1_weightBelow_17 : decode cX1_weightBelow 17 = .ok (.aload_n 0, 1) := by decide +kernel
theorem dX1_weightBelow_18 : decode cX1_weightBelow 18 = .ok (.getfield 25, 3) := by decide +kernel
theorem dX1_weightBelow_21 : decode cX1_weightBelow 21 = .ok (.getfield 74, 3) := by decide +kernel
theorem dX1_weightBelow_24 : decode cX1_weightBelow 24 = .ok (.iload 4, 2) := by decide +kernel
theorem dX1_weightBelow_26 : decode cX1_weightBelow 26 = .ok (.iaload, 1) := by decide +kernel
theorem dX1_weightBelow_27 : decode cX1_weightBelow 27 = .ok (.iload_n 1, 1) := by decide +kernel
theorem dX1_weightBelow_28 : decode cX1_weightBelow 28 = .ok (.if_icmp .ge 21, 3) := by decide +kernel
theorem dX1_weightBelow_31 : decode cX1_weightBelow 31 = .ok (.lload_n 2, 1) := by decide +kernel
theorem dX1_weightBelow_32 : decode cX1_weightBelow 32 = .ok (.aload_n 0, 1) := by decide +kernel
theorem dX1_weightBelow_33 : decode cX1_weightBelow 33 = .ok (.getfield 18, 3) := by decide +kernel
theorem dX1_weightBelow_36 : decode cX1_weightBelow 36 = .ok (.aload_n 0, 1) := by decide +kernel
theorem dX1_weightBelow_37 : decode cX1_weightBelow 37 = .ok (.getfield 29, 3) := by decide +kernel
theorem dX1_weightBelow_40 : decode cX1_weightBelow 40 = .ok (.bipush 8, 2) := by decide +kernel
theorem dX1_weightBelow_42 : decode cX1_weightBelow 42 = .ok (.imul, 1) := by decide +kernel
theorem dX1_weightBelow_43 : decode cX1_weightBelow 43 = .ok (.iload 4, 2) := by decide +kernel
theorem dX1_weightBelow_45 : decode cX1_weightBelow 45 = .ok (.iadd, 1) := by decide +kernel
theorem dX1_weightBelow_46 : decode cX1_weightBelow 46 = .ok (.laload, 1) := by decide +kernel
theorem dX1_weightBelow_47 : decode cX1_weightBelow 47 = .ok (.ladd, 1) := by decide +kernel
theorem dX1_weightBelow_48 : decode cX1_weightBelow 48 = .ok (.lstore_n 2, 1) := by decide +kernel
theorem dX1_weightBelow_49 : decode cX1_weightBelow 49 = .ok (.iinc 4 1, 3) := by decide +kernel
theorem dX1_weightBelow_52 : decode cX1_weightBelow 52 = .ok (.goto (-47), 3) := by decide +kernel
theorem dX1_weightBelow_55 : decode cX1_weightBelow 55 = .ok (.lload_n 2, 1) := by decide +kernel
theorem dX1_weightBelow_56 : decode cX1_weightBelow 56 = .ok (.lreturn, 1) := by decide +kernel
theorem dX2_init_0 : decode cX2_init 0 = .ok (.aload_n 0, 1) := by decide +kernel
theorem dX2_init_1 : decode cX2_init 1 = .ok (.invokespecial 3, 3) := by decide +kernel
theorem dX2_init_4 : decode cX2_init 4 = .ok (.aload_n 0, 1) := by decide +kernel
theorem dX2_init_5 : decode cX2_init 5 = .ok (.bipush 20, 2) := by decide +kernel
theorem dX2_init_7 : decode cX2_init 7 = .ok (.newarray .int, 2) := by decide +kernel
theorem dX2_init_9 : decode cX2_init 9 = .ok (.putfield 9, 3) := by decide +kernel
theorem dX2_init_12 : decode cX2_init 12 = .ok (.aload_n 0, 1) := by decide +kernel
theorem dX2_init_13 : decode cX2_init 13 = .ok (.iconst 4, 1) := by decide +kernel
theorem dX2_init_14 : decode cX2_init 14 = .ok (.newarray .int, 2) := by decide +kernel
theorem dX2_init_16 : decode cX2_init 16 = .ok (.putfield 15, 3) := by decide +kernel
theorem dX2_init_19 : decode cX2_init 19 = .ok (.aload_n 0, 1) := by decide +kernel
theorem dX2_init_20 : decode cX2_init 20 = .ok (.iconst 4, 1) := by decide +kernel
theorem dX2_init_21 : decode cX2_init 21 = .ok (.newarray .int, 2) := by decide +kernel
theorem dX2_init_23 : decode cX2_init 23 = .ok (.putfield 18, 3) := by decide +kernel
theorem dX2_init_26 : decode cX2_init 26 = .ok (.aload_n 0, 1) := by decide +kernel
theorem dX2_init_27 : decode cX2_init 27 = .ok (.new 21, 3) := by decide +kernel
theorem dX2_init_30 : decode cX2_init 30 = .ok (.dup, 1) := by decide +kernel
theorem dX2_init_31 : decode cX2_init 31 = .ok (.invokespecial 23, 3) := by decide +kernel
theorem dX2_init_34 : decode cX2_init 34 = .ok (.putfield 24, 3) := by decide +kernel
theorem dX2_init_37 : decode cX2_init 37 = .ok (.aload_n 0, 1) := by decide +kernel
theorem dX2_init_38 : decode cX2_init 38 = .ok (.lconst 0, 1) := by decide +kernel
theorem dX2_init_39 : decode cX2_init 39 = .ok (.putfield 28, 3) := by decide +kernel
theorem dX2_init_42 : decode cX2_init 42 = .ok (.aload_n 0, 1) := by decide +kernel
theorem dX2_init_43 : decode cX2_init 43 = .ok (.iconst 0, 1) := by decide +kernel
theorem dX2_init_44 : decode cX2_init 44 = .ok (.putfield 32, 3) := by decide +kernel
theorem dX2_init_47 : decode cX2_init 47 = .ok (.aload_n 0, 1) := by decide +kernel
theorem dX2_init_48 : decode cX2_init 48 = .ok (.iconst 0, 1) := by decide +kernel
theorem dX2_init_49 : decode cX2_init 49 = .ok (.putfield 36, 3) := by decide +kernel
theorem dX2_init_52 : decode cX2_init 52 = .ok (.aload_n 0, 1) := by decide +kernel
theorem dX2_init_53 : decode cX2_init 53 = .ok (.iconst 0, 1) := by decide +kernel
theorem dX2_init_54 : decode cX2_init 54 = .ok (.putfield 39, 3) := by decide +kernel
theorem dX2_init_57 : decode cX2_init 57 = .ok (.return_, 1) := by decide +kernel
theorem dX2_begin_0 : decode cX2_begin 0 = .ok (.aload_n 0, 1) := by decide +kernel
theorem dX2_begin_1 : decode cX2_begin 1 = .ok (.aload_n 1, 1) := by decide +kernel
theorem dX2_begin_2 : decode cX2_begin 2 = .ok (.putfield 24, 3) := by decide +kernel
theorem dX2_begin_5 : decode cX2_begin 5 = .ok (.aload_n 0, 1) := by decide +kernel
theorem dX2_begin_6 : decode cX2_begin 6 = .ok (.lload_n 2, 1) := by decide +kernel
theorem dX2_begin_7 : decode cX2_begin 7 = .ok (.putfield 28, 3) := by decide +kernel
theorem dX2_begin_10 : decode cX2_begin 10 = .ok (.aload_n 0, 1) := by decide +kernel
theorem dX2_begin_11 : decode cX2_begin 11 = .ok (.aload_n 1, 1) := by decide +kernel
theorem dX2_begin_12 : decode cX2_begin 12 = .ok (.getfield 42, 3) := by decide +kernel
theorem dX2_begin_15 : decode cX2_begin 15 = .ok (.putfield 32, 3) := by decide +kernel
theorem dX2_begin_18 : decode cX2_begin 18 = .ok (.aload_n 0, 1) := by decide +kernel
theorem dX2_begin_19 : decode cX2_begin 19 = .ok (.iconst 0, 1) := by decide +kernel
theorem dX2_begin_20 : decode cX2_begin 20 = .ok (.putfield 36, 3) := by decide +kernel
theorem dX2_begin_23 : decode cX2_begin 23 = .ok (.aload_n 0, 1) := by decide +kernel
theorem dX2_begin_24 : decode cX2_begin 24 = .ok (.iconst 0, 1) := by decide +kernel
theorem dX2_begin_25 : decode cX2_begin 25 = .ok (.putfield 39, 3) := by decide +kernel
theorem dX2_begin_28 : decode cX2_begin 28 = .ok (.iconst 0, 1) := by decide +kernel
theorem dX2_begin_29 : decode cX2_begin 29 = .ok (.istore 4, 2) := by decide +kernel
theorem dX2_begin_31 : decode cX2_begin 31 = .ok (.iload 4, 2) := by decide +kernel
theorem dX2_begin_33 : decode cX2_begin 33 = .ok (.iconst 4, 1) := by decide +kernel
theorem dX2_begin_34 : decode cX2_begin 34 = .ok (.if_icmp .ge 17, 3) := by decide +kernel
theorem dX2_begin_37 : decode cX2_begin 37 = .ok (.aload_n 0, 1) := by decide +kernel
theorem dX2_begin_38 : decode cX2_begin 38 = .ok (.getfield 15, 3) := by decide +kernel
theorem dX2_begin_41 : decode cX2_begin 41 = .ok (.iload 4, 2) := by decide +kernel
theorem dX2_begin_43 : decode cX2_begin 43 = .ok (.iconst 0, 1) := by decide +kernel
theorem dX2_begin_44 : decode cX2_begin 44 = .ok (.iastore, 1) := by decide +kernel
theorem dX2_begin_45 : decode cX2_begin 45 = .ok (.iinc 4 1, 3) := by decide +kernel
theorem dX2_begin_48 : decode cX2_begin 48 = .ok (.goto (-17), 3) := by decide +kernel
theorem dX2_begin_51 : decode cX2_begin 51 = .ok (.iconst 0, 1) := by decide +kernel
theorem dX2_begin_52 : decode cX2_begin 52 = .ok (.istore 4, 2) := by decide +kernel
theorem dX2_begin_54 : decode cX2_begin 54 = .ok (.iload 4, 2) := by decide +kernel
theorem dX2_begin_56 : decode cX2_begin 56 = .ok (.bipush 20, 2) := by decide +kernel
theorem dX2_begin_58 : decode cX2_begin 58 = .ok (.if_icmp .ge 17, 3) := by decide +kernel
theorem dX2_begin_61 : decode cX2_begin 61 = .ok (.aload_n 0, 1) := by decide +kernel
theorem dX2_begin_62 : decode cX2_begin 62 = .ok (.getfield 9, 3) := by decide +kernel
theorem dX2_begin_65 : decode cX2_begin 65 = .ok (.iload 4, 2) := by decide +kernel
theorem dX2_begin_67 : decode cX2_begin 67 = .ok (.iconst 0, 1) := by decide +kernel
theorem dX2_begin_68 : decode cX2_begin 68 = .ok (.iastore, 1) := by decide +kernel
theorem dX2_begin_69 : decode cX2_begin 69 = .ok (.iinc 4 1, 3) := by decide +kernel
theorem dX2_begin_72 : decode cX2_begin 72 = .ok (.goto (-18), 3) := by decide +kernel
theorem dX2_begin_75 : decode cX2_begin 75 = .ok (.return_, 1) := by decide +kernel
theorem dX2_round_0 : decode cX2_round 0 = .ok (.aload_n 0, 1) := by decide +kernel
theorem dX2_round_1 : decode cX2_round 1 = .ok (.invokevirtual 43, 3) := by decide +kernel
theorem dX2_round_4 : decode cX2_round 4 = .ok (.istore_n 1, 1) := by decide +kernel
theorem dX2_round_5 : decode cX2_round 5 = .ok (.iconst 0, 1) := by decide +kernel
theorem dX2_round_6 : decode cX2_round 6 = .ok (.istore_n 2, 1) := by decide +kernel
theorem dX2_round_7 : decode cX2_round 7 = .ok (.iload_n 2, 1) := by decide +kernel
theorem dX2_round_8 : decode cX2_round 8 = .ok (.aload_n 0, 1) := by decide +kernel
theorem dX2_round_9 : decode cX2_round 9 = .ok (.getfield 32, 3) := by decide +kernel
theorem dX2_round_12 : decode cX2_round 12 = .ok (.if_icmp .ge 20, 3) := by decide +kernel
theorem dX2_round_15 : decode cX2_round 15 = .ok (.aload_n 0, 1) := by decide +kernel
theorem dX2_round_16 : decode cX2_round 16 = .ok (.getfield 18, 3) := by decide +kernel
theorem dX2_round_19 : decode cX2_round 19 = .ok (.iload_n 2, 1) := by decide +kernel
theorem dX2_round_20 : decode cX2_round 20 = .ok (.aload_n 0, 1) := by decide +kernel
theorem dX2_round_21 : decode cX2_round 21 = .ok (.iload_n 1, 1) := by decide +kernel
theorem dX2_round_22 : decode cX2_round 22 = .ok (.invokevirtual 47, 3) := by decide +kernel
theorem dX2_round_25 : decode cX2_round 25 = .ok (.iastore, 1) := by decide +kernel
theorem dX2_round_26 : decode cX2_round 26 = .ok (.iinc 2 1, 3) := by decide +kernel
theorem dX2_round_29 : decode cX2_round 29 = .ok (.goto (-22), 3) := by decide +kernel
theorem dX2_round_32 : decode cX2_round 32 = .ok (.aload_n 0, 1) := by decide +kernel
theorem dX2_round_33 : decode cX2_round 33 = .ok (.iconst (-1), 1) := by decide +kernel
theorem dX2_round_34 : decode cX2_round 34 = .ok (.invokevirtual 51, 3) := by decide +kernel
theorem dX2_round_37 : decode cX2_round 37 = .ok (.istore_n 2, 1) := by decide +kernel
theorem dX2_round_38 : decode cX2_round 38 = .ok (.iload_n 2, 1) := by decide +kernel
theorem dX2_round_39 : decode cX2_round 39 = .ok (.iconst (-1), 1) := by decide +kernel
theorem dX2_round_40 : decode cX2_round 40 = .ok (.if_icmp .ne 19, 3) := by decide +kernel
theorem dX2_round_43 : decode cX2_round 43 = .ok (.aload_n 0, 1) := by decide +kernel
theorem dX2_round_44 : decode cX2_round 44 = .ok (.aload_n 0, 1) := by decide +kernel
theorem dX2_round_45 : decode cX2_round 45 = .ok (.getfield 24, 3) := by decide +kernel
theorem dX2_round_48 : decode cX2_round 48 = .ok (.getfield 54, 3) := by decide +kernel
theorem dX2_round_51 : decode cX2_round 51 = .ok (.iload_n 1, 1) := by decide +kernel
theorem dX2_round_52 : decode cX2_round 52 = .ok (.iaload, 1) := by decide +kernel
theorem dX2_round_53 : decode cX2_round 53 = .ok (.invokevirtual 57, 3) := by decide +kernel
theorem dX2_round_56 : decode cX2_round 56 = .ok (.goto 21, 3) := by decide +kernel
theorem dX2_round_59 : decode cX2_round 59 = .ok (.aload_n 0, 1) := by decide +kernel
theorem dX2_round_60 : decode cX2_round 60 = .ok (.aload_n 0, 1) := by decide +kernel
theorem dX2_round_61 : decode cX2_round 61 = .ok (.getfield 24, 3) := by decide +kernel
theorem dX2_round_64 : decode cX2_round 64 = .ok (.getfield 54, 3) := by decide +kernel
theorem dX2_round_67 : decode cX2_round 67 = .ok (.iload_n 1, 1) := by decide +kernel
theorem dX2_round_68 : decode cX2_round 68 = .ok (.iaload, 1) := by decide +kernel
theorem dX2_round_69 : decode cX2_round 69 = .ok (.aload_n 0, 1) := by decide +kernel
theorem dX2_round_70 : decode cX2_round 70 = .ok (.iload_n 2, 1) := by decide +kernel
theorem dX2_round_71 : decode cX2_round 71 = .ok (.invokevirtual 61, 3) := by decide +kernel
theorem dX2_round_74 : decode cX2_round 74 = .ok (.invokevirtual 64, 3) := by decide +kernel
theorem dX2_round_77 : decode cX2_round 77 = .ok (.return_, 1) := by decide +kernel
theorem dX2_draw_0 : decode cX2_draw 0 = .ok (.aload_n 0, 1) := by decide +kernel
theorem dX2_draw_1 : decode cX2_draw 1 = .ok (.aload_n 0, 1) := by decide +kernel
theorem dX2_draw_2 : decode cX2_draw 2 = .ok (.getfield 28, 3) := by decide +kernel
theorem dX2_draw_5 : decode cX2_draw 5 = .ok (.ldc2_w 68, 3) := by decide +kernel
theorem dX2_draw_8 : decode cX2_draw 8 = .ok (.lmul, 1) := by decide +kernel
theorem dX2_draw_9 : decode cX2_draw 9 = .ok (.ldc2_w 70, 3) := by decide +kernel
theorem dX2_draw_12 : decode cX2_draw 12 = .ok (.ladd, 1) := by decide +kernel
theorem dX2_draw_13 : decode cX2_draw 13 = .ok (.putfield 28, 3) := by decide +kernel
theorem dX2_draw_16 : decode cX2_draw 16 = .ok (.iload_n 1, 1) := by decide +kernel
theorem dX2_draw_17 : decode cX2_draw 17 = .ok (.ifCond .le 17, 3) := by decide +kernel
theorem dX2_draw_20 : decode cX2_draw 20 = .ok (.aload_n 0, 1) := by decide +kernel
theorem dX2_draw_21 : decode cX2_draw 21 = .ok (.getfield 28, 3) := by decide +kernel
theorem dX2_draw_24 : decode cX2_draw 24 = .ok (.bipush 33, 2) := by decide +kernel
theorem dX2_draw_26 : decode cX2_draw 26 = .ok (.lushr, 1) := by decide +kernel
theorem dX2_draw_27 : decode cX2_draw 27 = .ok (.iload_n 1, 1) := by decide +kernel
theorem dX2_draw_28 : decode cX2_draw 28 = .ok (.i2l, 1) := by decide +kernel
theorem dX2_draw_29 : decode cX2_draw 29 = .ok (.lrem, 1) := by decide +kernel
theorem dX2_draw_30 : decode cX2_draw 30 = .ok (.l2i, 1) := by decide +kernel
theorem dX2_draw_31 : decode cX2_draw 31 = .ok (.goto 4, 3) := by decide +kernel
theorem dX2_draw_34 : decode cX2_draw 34 = .ok (.iconst 0, 1) := by decide +kernel
theorem dX2_draw_35 : decode cX2_draw 35 = .ok (.ireturn, 1) := by decide +kernel
theorem dX2_drawTruth_0 : decode cX2_drawTruth 0 = .ok (.aload_n 0, 1) := by decide +kernel
theorem dX2_drawTruth_1 : decode cX2_drawTruth 1 = .ok (.aload_n 0, 1) := by decide +kernel
theorem dX2_drawTruth_2 : decode cX2_drawTruth 2 = .ok (.getfield 24, 3) := by decide +kernel
theorem dX2_drawTruth_5 : decode cX2_drawTruth 5 = .ok (.invokevirtual 72, 3) := by decide +kernel
theorem dX2_drawTruth_8 : decode cX2_drawTruth 8 = .ok (.invokevirtual 75, 3) := by decide +kernel
theorem dX2_drawTruth_11 : decode cX2_drawTruth 11 = .ok (.istore_n 1, 1) := by decide +kernel
theorem dX2_drawTruth_12 : decode cX2_drawTruth 12 = .ok (.iconst 0, 1) := by decide +kernel
theorem dX2_drawTruth_13 : decode cX2_drawTruth 13 = .ok (.istore_n 2, 1) := by decide +kernel
theorem dX2_drawTruth_14 : decode cX2_drawTruth 14 = .ok (.iload_n 2, 1) := by decide +kernel
theorem dX2_drawTruth_15 : decode cX2_drawTruth 15 = .ok (.aload_n 0, 1) := by decide +kernel
theorem dX2_drawTruth_16 : decode cX2_drawTruth 16 = .ok (.getfield 24, 3) := by decide +kernel
theorem dX2_drawTruth_19 : decode cX2_drawTruth 19 = .ok (.getfield 78, 3) := by decide +kernel
theorem dX2_drawTruth_22 : decode cX2_drawTruth 22 = .ok (.iconst 1, 1) := by decide +kernel
theorem dX2_drawTruth_23 : decode cX2_drawTruth 23 = .ok (.isub, 1) := by decide +kernel
theorem dX2_drawTruth_24 : decode cX2_drawTruth 24 = .ok (.if_icmp .ge 27, 3) := by decide +kernel
theorem dX2_drawTruth_27 : decode cX2_drawTruth 27 = .ok (.iload_n 1, 1) := by decide +kernel
theorem dX2_drawTruth_28 : decode cX2_drawTruth 28 = .ok (.aload_n 0, 1) := by decide +kernel
theorem dX2_drawTruth_29 : decode cX2_drawTruth 29 = .ok (.getfield 24, 3) := by decide +kernel
theorem dX2_drawTruth_32 : decode cX2_drawTruth 32 = .ok (.getfield 81, 3) := by decide +kernel
theorem dX2_drawTruth_35 : decode cX2_drawTruth 35 = .ok (.iload_n 2, 1) := by decide +kernel
theorem dX2_drawTruth_36 : decode cX2_drawTruth 36 = .ok (.iaload, 1) := by decide +kernel
theorem dX2_drawTruth_37 : decode cX2_drawTruth 37 = .ok (.isub, 1) := by decide +kernel
theorem dX2_drawTruth_38 : decode cX2_drawTruth 38 = .ok (.istore_n 1, 1) := by decide +kernel
theorem dX2_drawTruth_39 : decode cX2_drawTruth 39 = .ok (.iload_n 1, 1) := by decide +kernel
theorem dX2_drawTruth_40 : decode cX2_drawTruth 40 = .ok (.ifCond .ge 5, 3) := by decide +kernel
theorem dX2_drawTruth_43 : decode cX2_drawTruth 43 = .ok (.iload_n 2, 1) := by decide +kernel
theorem dX2_drawTruth_44 : decode cX2_drawTruth 44 = .ok (.ireturn, 1) := by decide +kernel
theorem dX2_drawTruth_45 : decode cX2_drawTruth 45 = .ok (.iinc 2 1, 3) := by decide +kernel
theorem dX2_drawTruth_48 : decode cX2_drawTruth 48 = .ok (.goto (-34), 3) := by decide +kernel
theorem dX2_drawTruth_51 : decode cX2_drawTruth 51 = .ok (.aload_n 0, 1) := by decide +kernel
theorem dX2_drawTruth_52 : decode cX2_drawTruth 52 = .ok (.getfield 24, 3) := by decide +kernel
theorem dX2_drawTruth_55 : decode cX2_drawTruth 55 = .ok (.getfield 78, 3) := by decide +kernel
theorem dX2_drawTruth_58 : decode cX2_drawTruth 58 = .ok (.ifCond .le 15, 3) := by decide +kernel
theorem dX2_drawTruth_61 : decode cX2_drawTruth 61 = .ok (.aload_n 0, 1) := by decide +kernel
theorem dX2_drawTruth_62 : decode cX2_drawTruth 62 = .ok (.getfield 24, 3) := by decide +kernel
theorem dX2_drawTruth_65 : decode cX2_drawTruth 65 = .ok (.getfield 78, 3) := by decide +kernel
theorem dX2_drawTruth_68 : decode cX2_drawTruth 68 = .ok (.iconst 1, 1) := by decide +kernel
theorem dX2_drawTruth_69 : decode cX2_drawTruth 69 = .ok (.isub, 1) := by decide +kernel
theorem dX2_drawTruth_70 : decode cX2_drawTruth 70 = .ok (.goto 4, 3) := by decide +kernel
theorem dX2_drawTruth_73 : decode cX2_drawTruth 73 = .ok (.iconst 0, 1) := by decide +kernel
theorem dX2_drawTruth_74 : decode cX2_drawTruth 74 = .ok (.ireturn, 1) := by decide +kernel
theorem dX2_drawSign_0 : decode cX2_drawSign 0 = .ok (.aload_n 0, 1) := by decide +kernel
theorem dX2_drawSign_1 : decode cX2_drawSign 1 = .ok (.bipush 10, 2) := by decide +kernel
theorem dX2_drawSign_3 : decode cX2_drawSign 3 = .ok (.invokevirtual 75, 3) := by decide +kernel
theorem dX2_drawSign_6 : decode cX2_drawSign 6 = .ok (.istore_n 2, 1) := by decide +kernel
theorem dX2_drawSign_7 : decode cX2_drawSign 7 = .ok (.iconst 0, 1) := by decide +kernel
theorem dX2_drawSign_8 : decode cX2_drawSign 8 = .ok (.istore_n 3, 1) := by decide +kernel
theorem dX2_drawSign_9 : decode cX2_drawSign 9 = .ok (.iload_n 3, 1) := by decide +kernel
theorem dX2_drawSign_10 : decode cX2_drawSign 10 = .ok (.aload_n 0, 1) := by decide +kernel
theorem dX2_drawSign_11 : decode cX2_drawSign 11 = .ok (.getfield 24, 3) := by decide +kernel
theorem dX2_drawSign_14 : decode cX2_drawSign 14 = .ok (.getfield 84, 3) := by decide +kernel
theorem dX2_drawSign_17 : decode cX2_drawSign 17 = .ok (.iconst 1, 1) := by decide +kernel
theorem dX2_drawSign_18 : decode cX2_drawSign 18 = .ok (.isub, 1) := by decide +kernel
theorem dX2_drawSign_19 : decode cX2_drawSign 19 = .ok (.if_icmp .ge 27, 3) := by decide +kernel
theorem dX2_drawSign_22 : decode cX2_drawSign 22 = .ok (.iload_n 2, 1) := by decide +kernel
theorem dX2_drawSign_23 : decode cX2_drawSign 23 = .ok (.aload_n 0, 1) := by decide +kernel
theorem dX2_drawSign_24 : decode cX2_drawSign 24 = .ok (.getfield 24, 3) := by decide +kernel
theorem dX2_drawSign_27 : decode cX2_drawSign 27 = .ok (.iload_n 1, 1) := by decide +kernel
theorem dX2_drawSign_28 : decode cX2_drawSign 28 = .ok (.iload_n 3, 1) := by decide +kernel
theorem dX2_drawSign_29 : decode cX2_drawSign 29 = .ok (.invokevirtual 87, 3) := by decide +kernel
theorem dX2_drawSign_32 : decode cX2_drawSign 32 = .ok (.isub, 1) := by decide +kernel
theorem dX2_drawSign_33 : decode cX2_drawSign 33 = .ok (.istore_n 2, 1) := by decide +kernel
theorem dX2_drawSign_34 : decode cX2_drawSign 34 = .ok (.iload_n 2, 1) := by decide +kernel
theorem dX2_drawSign_35 : decode cX2_drawSign 35 = .ok (.ifCond .ge 5, 3) := by decide +kernel
theorem dX2_drawSign_38 : decode cX2_drawSign 38 = .ok (.iload_n 3, 1) := by decide +kernel
theorem dX2_drawSign_39 : decode cX2_drawSign 39 = .ok (.ireturn, 1) := by decide +kernel
theorem dX2_drawSign_40 : decode cX2_drawSign 40 = .ok (.iinc 3 1, 3) := by decide +kernel
theorem dX2_drawSign_43 : decode cX2_drawSign 43 = .ok (.goto (-34), 3) := by decide +kernel
theorem dX2_drawSign_46 : decode cX2_drawSign 46 = .ok (.aload_n 0, 1) := by decide +kernel
theorem dX2_drawSign_47 : decode cX2_drawSign 47 = .ok (.getfield 24, 3) := by decide +kernel
theorem dX2_drawSign_50 : decode cX2_drawSign 50 = .ok (.getfield 84, 3) := by decide +kernel
theorem dX2_drawSign_53 : decode cX2_drawSign 53 = .ok (.ifCond .le 15, 3) := by decide +kernel
theorem dX2_drawSign_56 : decode cX2_drawSign 56 = .ok (.aload_n 0, 1) := by decide +kernel
theorem dX2_drawSign_57 : decode cX2_drawSign 57 = .ok (.getfield 24, 3) := by decide +kernel
theorem dX2_drawSign_60 : decode cX2_drawSign 60 = .ok (.getfield 84, 3) := by decide +kernel
theorem dX2_drawSign_63 : decode cX2_drawSign 63 = .ok (.iconst 1, 1) := by decide +kernel
theorem dX2_drawSign_64 : decode cX2_drawSign 64 = .ok (.isub, 1) := by decide +kernel
theorem dX2_drawSign_65 : decode cX2_drawSign 65 = .ok (.goto 4, 3) := by decide +kernel
theorem dX2_drawSign_68 : decode cX2_drawSign 68 = .ok (.iconst 0, 1) := by decide +kernel
theorem dX2_drawSign_69 : decode cX2_drawSign 69 = .ok (.ireturn, 1) := by decide +kernel
theorem dX2_drawWinner_0 : decode cX2_drawWinner 0 = .ok (.iconst 0, 1) := by decide +kernel
theorem dX2_drawWinner_1 : decode cX2_drawWinner 1 = .ok (.istore_n 2, 1) := by decide +kernel
theorem dX2_drawWinner_2 : decode cX2_drawWinner 2 = .ok (.iconst 0, 1) := by decide +kernel
theorem dX2_drawWinner_3 : decode cX2_drawWinner 3 = .ok (.istore_n 3, 1) := by decide +kernel
theorem dX2_drawWinner_4 : decode cX2_drawWinner 4 = .ok (.iload_n 3, 1) := by decide +kernel
theorem dX2_drawWinner_5 : decode cX2_drawWinner 5 = .ok (.aload_n 0, 1) := by decide +kernel
theorem dX2_drawWinner_6 : decode cX2_drawWinner 6 = .ok (.getfield 32, 3) := by decide +kernel
theorem dX2_drawWinner_9 : decode cX2_drawWinner 9 = .ok (.if_icmp .ge 21, 3) := by decide +kernel
theorem dX2_drawWinner_12 : decode cX2_drawWinner 12 = .ok (.aload_n 0, 1) := by decide +kernel
theorem dX2_drawWinner_13 : decode cX2_drawWinner 13 = .ok (.iload_n 3, 1) := by decide +kernel
theorem dX2_drawWinner_14 : decode cX2_drawWinner 14 = .ok (.invokevirtual 91, 3) := by decide +kernel
theorem dX2_drawWinner_17 : decode cX2_drawWinner 17 = .ok (.iload_n 1, 1) := by decide +kernel
theorem dX2_drawWinner_18 : decode cX2_drawWinner 18 = .ok (.if_icmp .ne 6, 3) := by decide +kernel
theorem dX2_drawWinner_21 : decode cX2_drawWinner 21 = .ok (.iinc 2 1, 3) := by decide +kernel
theorem dX2_drawWinner_24 : decode cX2_drawWinner 24 = .ok (.iinc 3 1, 3) := by decide +kernel
theorem dX2_drawWinner_27 : decode cX2_drawWinner 27 = .ok (.goto (-23), 3) := by decide +kernel
theorem dX2_drawWinner_30 : decode cX2_drawWinner 30 = .ok (.aload_n 0, 1) := by decide +kernel
theorem dX2_drawWinner_31 : decode cX2_drawWinner 31 = .ok (.iload_n 2, 1) := by decide +kernel
theorem dX2_drawWinner_32 : decode cX2_drawWinner 32 = .ok (.invokevirtual 75, 3) := by decide +kernel
theorem dX2_drawWinner_35 : decode cX2_drawWinner 35 = .ok (.istore_n 3, 1) := by decide +kernel
theorem dX2_drawWinner_36 : decode cX2_drawWinner 36 = .ok (.iconst 0, 1) := by decide +kernel
theorem dX2_drawWinner_37 : decode cX2_drawWinner 37 = .ok (.istore 4, 2) := by decide +kernel
theorem dX2_drawWinner_39 : decode cX2_drawWinner 39 = .ok (.iload 4, 2) := by decide +kernel
theorem dX2_drawWinner_41 : decode cX2_drawWinner 41 = .ok (.aload_n 0, 1) := by decide +kernel
theorem dX2_drawWinner_42 : decode cX2_drawWinner 42 = .ok (.getfield 32, 3) := by decide +kernel
theorem dX2_drawWinner_45 : decode cX2_drawWinner 45 = .ok (.if_icmp .ge 29, 3) := by decide +kernel
theorem dX2_drawWinner_48 : decode cX2_drawWinner 48 = .ok (.aload_n 0, 1) := by decide +kernel
theorem dX2_drawWinner_49 : decode cX2_drawWinner 49 = .ok (.iload 4, 2) := by decide +kernel
theorem dX2_drawWinner_51 : decode cX2_drawWinner 51 = .ok (.invokevirtual 91, 3) := by decide +kernel
theorem dX2_drawWinner_54 : decode cX2_drawWinner 54 = .ok (.iload_n 1, 1) := by decide +kernel
theorem dX2_drawWinner_55 : decode cX2_drawWinner 55 = .ok (.if_icmp .ne 13, 3) := by decide +kernel
theorem dX2_drawWinner_58 : decode cX2_drawWinner 58 = .ok (.iload_n 3, 1) := by decide +kernel
theorem dX2_drawWinner_59 : decode cX2_drawWinner 59 = .ok (.ifCond .ne 6, 3) := by decide +kernel
theorem dX2_drawWinner_62 : decode cX2_drawWinner 62 = .ok (.iload 4, 2) := by decide +kernel
theorem dX2_drawWinner_64 : decode cX2_drawWinner 64 = .ok (.ireturn, 1) := by decide +kernel
theorem dX2_drawWinner_65 : decode cX2_drawWinner 65 = .ok (.iinc 3 (-1), 3) := by decide +kernel
theorem dX2_drawWinner_68 : decode cX2_drawWinner 68 = .ok (.iinc 4 1, 3) := by decide +kernel
theorem dX2_drawWinner_71 : decode cX2_drawWinner 71 = .ok (.goto (-32), 3) := by decide +kernel
theorem dX2_drawWinner_74 : decode cX2_drawWinner 74 = .ok (.iconst 0, 1) := by decide +kernel
theorem dX2_drawWinner_75 : decode cX2_drawWinner 75 = .ok (.ireturn, 1) := by decide +kernel
theorem dX2_bidNow_0 : decode cX2_bidNow 0 = .ok (.aload_n 0, 1) := by decide +kernel
theorem dX2_bidNow_1 : decode cX2_bidNow 1 = .ok (.getfield 9, 3) := by decide +kernel
theorem dX2_bidNow_4 : decode cX2_bidNow 4 = .ok (.iload_n 1, 1) := by decide +kernel
theorem dX2_bidNow_5 : decode cX2_bidNow 5 = .ok (.iconst 5, 1) := by decide +kernel
theorem dX2_bidNow_6 : decode cX2_bidNow 6 = .ok (.imul, 1) := by decide +kernel
theorem dX2_bidNow_7 : decode cX2_bidNow 7 = .ok (.aload_n 0, 1) := by decide +kernel
theorem dX2_bidNow_8 : decode cX2_bidNow 8 = .ok (.getfield 18, 3) := by decide +kernel
theorem dX2_bidNow_11 : decode cX2_bidNow 11 = .ok (.iload_n 1, 1) := by decide +kernel
theorem dX2_bidNow_12 : decode cX2_bidNow 12 = .ok (.iaload, 1) := by decide +kernel
theorem dX2_bidNow_13 : decode cX2_bidNow 13 = .ok (.iadd, 1) := by decide +kernel
theorem dX2_bidNow_14 : decode cX2_bidNow 14 = .ok (.iaload, 1) := by decide +kernel
theorem dX2_bidNow_15 : decode cX2_bidNow 15 = .ok (.ireturn, 1) := by decide +kernel
theorem dX2_highest_0 : decode cX2_highest 0 = .ok (.iconst (-1), 1) := by decide +kernel
theorem dX2_highest_1 : decode cX2_highest 1 = .ok (.istore_n 2, 1) := by decide +kernel
theorem dX2_highest_2 : decode cX2_highest 2 = .ok (.iconst 0, 1) := by decide +kernel
theorem dX2_highest_3 : decode cX2_highest 3 = .ok (.istore_n 3, 1) := by decide +kernel
theorem dX2_highest_4 : decode cX2_highest 4 = .ok (.iload_n 3, 1) := by decide +kernel
theorem dX2_highest_5 : decode cX2_highest 5 = .ok (.aload_n 0, 1) := by decide +kernel
theorem dX2_highest_6 : decode cX2_highest 6 = .ok (.getfield 32, 3) := by decide +kernel
theorem dX2_highest_9 : decode cX2_highest 9 = .ok (.if_icmp .ge 42, 3) := by decide +kernel
theorem dX2_highest_12 : decode cX2_highest 12 = .ok (.aload_n 0, 1) := by decide +kernel
theorem dX2_highest_13 : decode cX2_highest 13 = .ok (.iload_n 3, 1) := by decide +kernel
theorem dX2_highest_14 : decode cX2_highest 14 = .ok (.invokevirtual 91, 3) := by decide +kernel
theorem dX2_highest_17 : decode cX2_highest 17 = .ok (.istore 4, 2) := by decide +kernel
theorem dX2_highest_19 : decode cX2_highest 19 = .ok (.iload_n 3, 1) := by decide +kernel
theorem dX2_highest_20 : decode cX2_highest 20 = .ok (.iload_n 1, 1) := by decide +kernel
theorem dX2_highest_21 : decode cX2_highest 21 = .ok (.if_icmp .eq 24, 3) := by decide +kernel
theorem dX2_highest_24 : decode cX2_highest 24 = .ok (.iload 4, 2) := by decide +kernel
theorem dX2_highest_26 : decode cX2_highest 26 = .ok (.aload_n 0, 1) := by decide +kernel
theorem dX2_highest_27 : decode cX2_highest 27 = .ok (.getfield 24, 3) := by decide +kernel
theorem dX2_highest_30 : decode cX2_highest 30 = .ok (.getfield 94, 3) := by decide +kernel
theorem dX2_highest_33 : decode cX2_highest 33 = .ok (.if_icmp .lt 12, 3) := by decide +kernel
theorem dX2_highest_36 : decode cX2_highest 36 = .ok (.iload 4, 2) := by decide +kernel
theorem dX2_highest_38 : decode cX2_highest 38 = .ok (.iload_n 2, 1) := by decide +kernel
theorem dX2_highest_39 : decode cX2_highest 39 = .ok (.if_icmp .le 6, 3) := by decide +kernel
theorem dX2_highest_42 : decode cX2_highest 42 = .ok (.iload 4, 2) := by decide +kernel
theorem dX2_highest_44 : decode cX2_highest 44 = .ok (.istore_n 2, 1) := by decide +kernel
theorem dX2_highest_45 : decode cX2_highest 45 = .ok (.iinc 3 1, 3) := by decide +kernel
theorem dX2_highest_48 : decode cX2_highest 48 = .ok (.goto (-44), 3) := by decide +kernel
theorem dX2_highest_51 : decode cX2_highest 51 = .ok (.iload_n 2, 1) := by decide +kernel
theorem dX2_highest_52 : decode cX2_highest 52 = .ok (.ireturn, 1) := by decide +kernel
theorem dX2_noneBids_0 : decode cX2_noneBids 0 = .ok (.iconst 0, 1) := by decide +kernel
theorem dX2_noneBids_1 : decode cX2_noneBids 1 = .ok (.istore_n 2, 1) := by decide +kernel
theorem dX2_noneBids_2 : decode cX2_noneBids 2 = .ok (.iload_n 2, 1) := by decide +kernel
theorem dX2_noneBids_3 : decode cX2_noneBids 3 = .ok (.aload_n 0, 1) := by decide +kernel
theorem dX2_noneBids_4 : decode cX2_noneBids 4 = .ok (.getfield 32, 3) := by decide +kernel
theorem dX2_noneBids_7 : decode cX2_noneBids 7 = .ok (.if_icmp .ge 26, 3) := by decide +kernel
theorem dX2_noneBids_10 : decode cX2_noneBids 10 = .ok (.iload_n 1, 1) := by decide +kernel
theorem dX2_noneBids_11 : decode cX2_noneBids 11 = .ok (.aload_n 0, 1) := by decide +kernel
theorem dX2_noneBids_12 : decode cX2_noneBids 12 = .ok (.getfield 24, 3) := by decide +kernel
theorem dX2_noneBids_15 : decode cX2_noneBids 15 = .ok (.getfield 94, 3) := by decide +kernel
theorem dX2_noneBids_18 : decode cX2_noneBids 18 = .ok (.if_icmp .lt 15, 3) := by decide +kernel
theorem dX2_noneBids_21 : decode cX2_noneBids 21 = .ok (.aload_n 0, 1) := by decide +kernel
theorem dX2_noneBids_22 : decode cX2_noneBids 22 = .ok (.iload_n 2, 1) := by decide +kernel
theorem dX2_noneBids_23 : decode cX2_noneBids 23 = .ok (.iconst 1, 1) := by decide +kernel
theorem dX2_noneBids_24 : decode cX2_noneBids 24 = .ok (.invokevirtual 97, 3) := by decide +kernel
theorem dX2_noneBids_27 : decode cX2_noneBids 27 = .ok (.iinc 2 1, 3) := by decide +kernel
theorem dX2_noneBids_30 : decode cX2_noneBids 30 = .ok (.goto (-28), 3) := by decide +kernel
theorem dX2_noneBids_33 : decode cX2_noneBids 33 = .ok (.return_, 1) := by decide +kernel
theorem dX2_oneWins_0 : decode cX2_oneWins 0 = .ok (.aload_n 0, 1) := by decide +kernel
theorem dX2_oneWins_1 : decode cX2_oneWins 1 = .ok (.iload_n 2, 1) := by decide +kernel
theorem dX2_oneWins_2 : decode cX2_oneWins 2 = .ok (.invokevirtual 91, 3) := by decide +kernel
theorem dX2_oneWins_5 : decode cX2_oneWins 5 = .ok (.istore_n 3, 1) := by decide +kernel
theorem dX2_oneWins_6 : decode cX2_oneWins 6 = .ok (.aload_n 0, 1) := by decide +kernel
theorem dX2_oneWins_7 : decode cX2_oneWins 7 = .ok (.getfield 24, 3) := by decide +kernel
theorem dX2_oneWins_10 : decode cX2_oneWins 10 = .ok (.getfield 100, 3) := by decide +kernel
theorem dX2_oneWins_13 : decode cX2_oneWins 13 = .ok (.iconst 1, 1) := by decide +kernel
theorem dX2_oneWins_14 : decode cX2_oneWins 14 = .ok (.if_icmp .ne 29, 3) := by decide +kernel
theorem dX2_oneWins_17 : decode cX2_oneWins 17 = .ok (.aload_n 0, 1) := by decide +kernel
theorem dX2_oneWins_18 : decode cX2_oneWins 18 = .ok (.iload_n 2, 1) := by decide +kernel
theorem dX2_oneWins_19 : decode cX2_oneWins 19 = .ok (.invokevirtual 51, 3) := by decide +kernel
theorem dX2_oneWins_22 : decode cX2_oneWins 22 = .ok (.istore 4, 2) := by decide +kernel
theorem dX2_oneWins_24 : decode cX2_oneWins 24 = .ok (.iload 4, 2) := by decide +kernel
theorem dX2_oneWins_26 : decode cX2_oneWins 26 = .ok (.iconst (-1), 1) := by decide +kernel
theorem dX2_oneWins_27 : decode cX2_oneWins 27 = .ok (.if_icmp .ne 13, 3) := by decide +kernel
theorem dX2_oneWins_30 : decode cX2_oneWins 30 = .ok (.aload_n 0, 1) := by decide +kernel
theorem dX2_oneWins_31 : decode cX2_oneWins 31 = .ok (.getfield 24, 3) := by decide +kernel
theorem dX2_oneWins_34 : decode cX2_oneWins 34 = .ok (.getfield 94, 3) := by decide +kernel
theorem dX2_oneWins_37 : decode cX2_oneWins 37 = .ok (.goto 5, 3) := by decide +kernel
theorem dX2_oneWins_40 : decode cX2_oneWins 40 = .ok (.iload 4, 2) := by decide +kernel
theorem dX2_oneWins_42 : decode cX2_oneWins 42 = .ok (.istore_n 3, 1) := by decide +kernel
theorem dX2_oneWins_43 : decode cX2_oneWins 43 = .ok (.aload_n 0, 1) := by decide +kernel
theorem dX2_oneWins_44 : decode cX2_oneWins 44 = .ok (.getfield 15, 3) := by decide +kernel
theorem dX2_oneWins_47 : decode cX2_oneWins 47 = .ok (.iload_n 2, 1) := by decide +kernel
theorem dX2_oneWins_48 : decode cX2_oneWins 48 = .ok (.dup2, 1) := by decide +kernel
theorem dX2_oneWins_49 : decode cX2_oneWins 49 = .ok (.iaload, 1) := by decide +kernel
theorem dX2_oneWins_50 : decode cX2_oneWins 50 = .ok (.iload_n 1, 1) := by decide +kernel
theorem dX2_oneWins_51 : decode cX2_oneWins 51 = .ok (.iadd, 1) := by decide +kernel
theorem dX2_oneWins_52 : decode cX2_oneWins 52 = .ok (.iastore, 1) := by decide +kernel
theorem dX2_oneWins_53 : decode cX2_oneWins 53 = .ok (.iconst 0, 1) := by decide +kernel
theorem dX2_oneWins_54 : decode cX2_oneWins 54 = .ok (.istore 4, 2) := by decide +kernel
theorem dX2_oneWins_56 : decode cX2_oneWins 56 = .ok (.iload 4, 2) := by decide +kernel
theorem dX2_oneWins_58 : decode cX2_oneWins 58 = .ok (.aload_n 0, 1) := by decide +kernel
theorem dX2_oneWins_59 : decode cX2_oneWins 59 = .ok (.getfield 32, 3) := by decide +kernel
theorem dX2_oneWins_62 : decode cX2_oneWins 62 = .ok (.if_icmp .ge 81, 3) := by decide +kernel
theorem dX2_oneWins_65 : decode cX2_oneWins 65 = .ok (.aload_n 0, 1) := by decide +kernel
theorem dX2_oneWins_66 : decode cX2_oneWins 66 = .ok (.iload 4, 2) := by decide +kernel
theorem dX2_oneWins_68 : decode cX2_oneWins 68 = .ok (.invokevirtual 91, 3) := by decide +kernel
theorem dX2_oneWins_71 : decode cX2_oneWins 71 = .ok (.istore 5, 2) := by decide +kernel
theorem dX2_oneWins_73 : decode cX2_oneWins 73 = .ok (.iload 4, 2) := by decide +kernel
theorem dX2_oneWins_75 : decode cX2_oneWins 75 = .ok (.iload_n 2, 1) := by decide +kernel
theorem dX2_oneWins_76 : decode cX2_oneWins 76 = .ok (.if_icmp .ne 7, 3) := by decide +kernel
theorem dX2_oneWins_79 : decode cX2_oneWins 79 = .ok (.iload_n 3, 1) := by decide +kernel
theorem dX2_oneWins_80 : decode cX2_oneWins 80 = .ok (.goto 32, 3) := by decide +kernel
theorem dX2_oneWins_83 : decode cX2_oneWins 83 = .ok (.aload_n 0, 1) := by decide +kernel
theorem dX2_oneWins_84 : decode cX2_oneWins 84 = .ok (.getfield 24, 3) := by decide +kernel
theorem dX2_oneWins_87 : decode cX2_oneWins 87 = .ok (.getfield 100, 3) := by decide +kernel
theorem dX2_oneWins_90 : decode cX2_oneWins 90 = .ok (.iconst 2, 1) := by decide +kernel
theorem dX2_oneWins_91 : decode cX2_oneWins 91 = .ok (.if_icmp .ne 20, 3) := by decide +kernel
theorem dX2_oneWins_94 : decode cX2_oneWins 94 = .ok (.iload 5, 2) := by decide +kernel
theorem dX2_oneWins_96 : decode cX2_oneWins 96 = .ok (.aload_n 0, 1) := by decide +kernel
theorem dX2_oneWins_97 : decode cX2_oneWins 97 = .ok (.getfield 24, 3) := by decide +kernel
theorem dX2_oneWins_100 : decode cX2_oneWins 100 = .ok (.getfield 94, 3) := by decide +kernel
theorem dX2_oneWins_103 : decode cX2_oneWins 103 = .ok (.if_icmp .lt 8, 3) := by decide +kernel
theorem dX2_oneWins_106 : decode cX2_oneWins 106 = .ok (.iload 5, 2) := by decide +kernel
theorem dX2_oneWins_108 : decode cX2_oneWins 108 = .ok (.goto 4, 3) := by decide +kernel
theorem dX2_oneWins_111 : decode cX2_oneWins 111 = .ok (.iconst 0, 1) := by decide +kernel
theorem dX2_oneWins_112 : decode cX2_oneWins 112 = .ok (.istore 6, 2) := by decide +kernel
theorem dX2_oneWins_114 : decode cX2_oneWins 114 = .ok (.aload_n 0, 1) := by decide +kernel
theorem dX2_oneWins_115 : decode cX2_oneWins 115 = .ok (.getfield 15, 3) := by decide +kernel
theorem dX2_oneWins_118 : decode cX2_oneWins 118 = .ok (.iload 4, 2) := by decide +kernel
theorem dX2_oneWins_120 : decode cX2_oneWins 120 = .ok (.dup2, 1) := by decide +kernel
theorem dX2_oneWins_121 : decode cX2_oneWins 121 = .ok (.iaload, 1) := by decide +kernel
theorem dX2_oneWins_122 : decode cX2_oneWins 122 = .ok (.iload 6, 2) := by decide +kernel
theorem dX2_oneWins_124 : decode cX2_oneWins 124 = .ok (.isub, 1) := by decide +kernel
theorem dX2_oneWins_125 : decode cX2_oneWins 125 = .ok (.iastore, 1) := by decide +kernel
theorem dX2_oneWins_126 : decode cX2_oneWins 126 = .ok (.aload_n 0, 1) := by decide +kernel
theorem dX2_oneWins_127 : decode cX2_oneWins 127 = .ok (.dup, 1) := by decide +kernel
theorem dX2_oneWins_128 : decode cX2_oneWins 128 = .ok (.getfield 36, 3) := by decide +kernel
theorem dX2_oneWins_131 : decode cX2_oneWins 131 = .ok (.iload 6, 2) := by decide +kernel
theorem dX2_oneWins_133 : decode cX2_oneWins 133 = .ok (.iadd, 1) := by decide +kernel
theorem dX2_oneWins_134 : decode cX2_oneWins 134 = .ok (.putfield 36, 3) := by decide +kernel
theorem dX2_oneWins_137 : decode cX2_oneWins 137 = .ok (.iinc 4 1, 3) := by decide +kernel
theorem dX2_oneWins_140 : decode cX2_oneWins 140 = .ok (.goto (-84), 3) := by decide +kernel
theorem dX2_oneWins_143 : decode cX2_oneWins 143 = .ok (.iload_n 3, 1) := by decide +kernel
theorem dX2_oneWins_144 : decode cX2_oneWins 144 = .ok (.iload_n 1, 1) := by decide +kernel
theorem dX2_oneWins_145 : decode cX2_oneWins 145 = .ok (.if_icmp .le 19, 3) := by decide +kernel
theorem dX2_oneWins_148 : decode cX2_oneWins 148 = .ok (.aload_n 0, 1) := by decide +kernel
theorem dX2_oneWins_149 : decode cX2_oneWins 149 = .ok (.dup, 1) := by decide +kernel
theorem dX2_oneWins_150 : decode cX2_oneWins 150 = .ok (.getfield 39, 3) := by decide +kernel
theorem dX2_oneWins_153 : decode cX2_oneWins 153 = .ok (.iconst 1, 1) := by decide +kernel
theorem dX2_oneWins_154 : decode cX2_oneWins 154 = .ok (.iadd, 1) := by decide +kernel
theorem dX2_oneWins_155 : decode cX2_oneWins 155 = .ok (.putfield 39, 3) := by decide +kernel
theorem dX2_oneWins_158 : decode cX2_oneWins 158 = .ok (.aload_n 0, 1) := by decide +kernel
theorem dX2_oneWins_159 : decode cX2_oneWins 159 = .ok (.iload_n 2, 1) := by decide +kernel
theorem dX2_oneWins_160 : decode cX2_oneWins 160 = .ok (.iconst (-1), 1) := by decide +kernel
theorem dX2_oneWins_161 : decode cX2_oneWins 161 = .ok (.invokevirtual 97, 3) := by decide +kernel
theorem dX2_oneWins_164 : decode cX2_oneWins 164 = .ok (.iconst 0, 1) := by decide +kernel
theorem dX2_oneWins_165 : decode cX2_oneWins 165 = .ok (.istore 4, 2) := by decide +kernel
theorem dX2_oneWins_167 : decode cX2_oneWins 167 = .ok (.iload 4, 2) := by decide +kernel
theorem dX2_oneWins_169 : decode cX2_oneWins 169 = .ok (.aload_n 0, 1) := by decide +kernel
theorem dX2_oneWins_170 : decode cX2_oneWins 170 = .ok (.getfield 32, 3) := by decide +kernel
theorem dX2_oneWins_173 : decode cX2_oneWins 173 = .ok (.if_icmp .ge 27, 3) := by decide +kernel
theorem dX2_oneWins_176 : decode cX2_oneWins 176 = .ok (.iload_n 1, 1) := by decide +kernel
theorem dX2_oneWins_177 : decode cX2_oneWins 177 = .ok (.iload_n 3, 1) := by decide +kernel
theorem dX2_oneWins_178 : decode cX2_oneWins 178 = .ok (.if_icmp .le 22, 3) := by decide +kernel
theorem dX2_oneWins_181 : decode cX2_oneWins 181 = .ok (.iload 4, 2) := by decide +kernel
theorem dX2_oneWins_183 : decode cX2_oneWins 183 = .ok (.iload_n 2, 1) := by decide +kernel
theorem dX2_oneWins_184 : decode cX2_oneWins 184 = .ok (.if_icmp .eq 10, 3) := by decide +kernel
theorem dX2_oneWins_187 : decode cX2_oneWins 187 = .ok (.aload_n 0, 1) := by decide +kernel
theorem dX2_oneWins_188 : decode cX2_oneWins 188 = .ok (.iload 4, 2) := by decide +kernel
theorem dX2_oneWins_190 : decode cX2_oneWins 190 = .ok (.iconst 1, 1) := by decide +kernel
theorem dX2_oneWins_191 : decode cX2_oneWins 191 = .ok (.invokevirtual 97, 3) := by decide +kernel
theorem dX2_oneWins_194 : decode cX2_oneWins 194 = .ok (.iinc 4 1, 3) := by decide +kernel
theorem dX2_oneWins_197 : decode cX2_oneWins 197 = .ok (.goto (-30), 3) := by decide +kernel
theorem dX2_oneWins_200 : decode cX2_oneWins 200 = .ok (.return_, 1) := by decide +kernel
theorem dX2_move_0 : decode cX2_move 0 = .ok (.iload_n 1, 1) := by decide +kernel
theorem dX2_move_1 : decode cX2_move 1 = .ok (.iconst 5, 1) := by decide +kernel
theorem dX2_move_2 : decode cX2_move 2 = .ok (.imul, 1) := by decide +kernel
theorem dX2_move_3 : decode cX2_move 3 = .ok (.aload_n 0, 1) := by decide +kernel
theorem dX2_move_4 : decode cX2_move 4 = .ok (.getfield 18, 3) := by decide +kernel
theorem dX2_move_7 : decode cX2_move 7 = .ok (.iload_n 1, 1) := by decide +kernel
theorem dX2_move_8 : decode cX2_move 8 = .ok (.iaload, 1) := by decide +kernel
theorem dX2_move_9 : decode cX2_move 9 = .ok (.iadd, 1) := by decide +kernel
theorem dX2_move_10 : decode cX2_move 10 = .ok (.istore_n 3, 1) := by decide +kernel
theorem dX2_move_11 : decode cX2_move 11 = .ok (.aload_n 0, 1) := by decide +kernel
theorem dX2_move_12 : decode cX2_move 12 = .ok (.getfield 9, 3) := by decide +kernel
theorem dX2_move_15 : decode cX2_move 15 = .ok (.iload_n 3, 1) := by decide +kernel
theorem dX2_move_16 : decode cX2_move 16 = .ok (.iconst 0, 1) := by decide +kernel
theorem dX2_move_17 : decode cX2_move 17 = .ok (.bipush 60, 2) := by decide +kernel
theorem dX2_move_19 : decode cX2_move 19 = .ok (.aload_n 0, 1) := by decide +kernel
theorem dX2_move_20 : decode cX2_move 20 = .ok (.getfield 9, 3) := by decide +kernel
theorem dX2_move_23 : decode cX2_move 23 = .ok (.iload_n 3, 1) := by decide +kernel
theorem dX2_move_24 : decode cX2_move 24 = .ok (.iaload, 1) := by decide +kernel
theorem dX2_move_25 : decode cX2_move 25 = .ok (.iload_n 2, 1) := by decide +kernel
theorem dX2_move_26 : decode cX2_move 26 = .ok (.iadd, 1) := by decide +kernel
theorem dX2_move_27 : decode cX2_move 27 = .ok (.invokestatic 103, 3) := by decide +kernel
theorem dX2_move_30 : decode cX2_move 30 = .ok (.invokestatic 108, 3) := by decide +kernel
theorem dX2_move_33 : decode cX2_move 33 = .ok (.iastore, 1) := by decide +kernel
theorem dX2_move_34 : decode cX2_move 34 = .ok (.return_, 1) := by decide +kernel
theorem dX3_init_0 : decode cX3_init 0 = .ok (.aload_n 0, 1) := by decide +kernel
theorem dX3_init_1 : decode cX3_init 1 = .ok (.invokespecial 3, 3) := by decide +kernel
theorem dX3_init_4 : decode cX3_init 4 = .ok (.aload_n 0, 1) := by decide +kernel
theorem dX3_init_5 : decode cX3_init 5 = .ok (.iconst 4, 1) := by decide +kernel
theorem dX3_init_6 : decode cX3_init 6 = .ok (.newarray .int, 2) := by decide +kernel
theorem dX3_init_8 : decode cX3_init 8 = .ok (.putfield 9, 3) := by decide +kernel
theorem dX3_init_11 : decode cX3_init 11 = .ok (.aload_n 0, 1) := by decide +kernel
theorem dX3_init_12 : decode cX3_init 12 = .ok (.iconst 4, 1) := by decide +kernel
theorem dX3_init_13 : decode cX3_init 13 = .ok (.newarray .int, 2) := by decide +kernel
theorem dX3_init_15 : decode cX3_init 15 = .ok (.putfield 15, 3) := by decide +kernel
theorem dX3_init_18 : decode cX3_init 18 = .ok (.aload_n 0, 1) := by decide +kernel
theorem dX3_init_19 : decode cX3_init 19 = .ok (.iconst 4, 1) := by decide +kernel
theorem dX3_init_20 : decode cX3_init 20 = .ok (.newarray .boolean, 2) := by decide +kernel
theorem dX3_init_22 : decode cX3_init 22 = .ok (.putfield 18, 3) := by decide +kernel
theorem dX3_init_25 : decode cX3_init 25 = .ok (.aload_n 0, 1) := by decide +kernel
theorem dX3_init_26 : decode cX3_init 26 = .ok (.iconst 4, 1) := by decide +kernel
theorem dX3_init_27 : decode cX3_init 27 = .ok (.newarray .int, 2) := by decide +kernel
theorem dX3_init_29 : decode cX3_init 29 = .ok (.putfield 22, 3) := by decide +kernel
theorem dX3_init_32 : decode cX3_init 32 = .ok (.aload_n 0, 1) := by decide +kernel
theorem dX3_init_33 : decode cX3_init 33 = .ok (.iconst 0, 1) := by decide +kernel
theorem dX3_init_34 : decode cX3_init 34 = .ok (.putfield 25, 3) := by decide +kernel
theorem dX3_init_37 : decode cX3_init 37 = .ok (.aload_n 0, 1) := by decide +kernel
theorem dX3_init_38 : decode cX3_init 38 = .ok (.iconst (-1), 1) := by decide +kernel
theorem dX3_init_39 : decode cX3_init 39 = .ok (.putfield 29, 3) := by decide +kernel
theorem dX3_init_42 : decode cX3_init 42 = .ok (.aload_n 0, 1) := by decide +kernel
theorem dX3_init_43 : decode cX3_init 43 = .ok (.iconst 0, 1) := by decide +kernel
theorem dX3_init_44 : decode cX3_init 44 = .ok (.putfield 32, 3) := by decide +kernel
theorem dX3_init_47 : decode cX3_init 47 = .ok (.return_, 1) := by decide +kernel
theorem dX3_rise_0 : decode cX3_rise 0 = .ok (.aload_n 0, 1) := by decide +kernel
theorem dX3_rise_1 : decode cX3_rise 1 = .ok (.iconst 0, 1) := by decide +kernel
theorem dX3_rise_2 : decode cX3_rise 2 = .ok (.putfield 25, 3) := by decide +kernel
theorem dX3_rise_5 : decode cX3_rise 5 = .ok (.aload_n 0, 1) := by decide +kernel
theorem dX3_rise_6 : decode cX3_rise 6 = .ok (.aload_n 1, 1) := by decide +kernel
theorem dX3_rise_7 : decode cX3_rise 7 = .ok (.getfield 35, 3) := by decide +kernel
theorem dX3_rise_10 : decode cX3_rise 10 = .ok (.putfield 32, 3) := by decide +kernel
theorem dX3_rise_13 : decode cX3_rise 13 = .ok (.iconst 0, 1) := by decide +kernel
theorem dX3_rise_14 : decode cX3_rise 14 = .ok (.istore_n 3, 1) := by decide +kernel
theorem dX3_rise_15 : decode cX3_rise 15 = .ok (.iload_n 3, 1) := by decide +kernel
theorem dX3_rise_16 : decode cX3_rise 16 = .ok (.iconst 4, 1) := by decide +kernel
theorem dX3_rise_17 : decode cX3_rise 17 = .ok (.if_icmp .ge 16, 3) := by decide +kernel
theorem dX3_rise_20 : decode cX3_rise 20 = .ok (.aload_n 0, 1) := by decide +kernel
theorem dX3_rise_21 : decode cX3_rise 21 = .ok (.getfield 18, 3) := by decide +kernel
theorem dX3_rise_24 : decode cX3_rise 24 = .ok (.iload_n 3, 1) := by decide +kernel
theorem dX3_rise_25 : decode cX3_rise 25 = .ok (.iconst 0, 1) := by decide +kernel
theorem dX3_rise_26 : decode cX3_rise 26 = .ok (.bastore, 1) := by decide +kernel
theorem dX3_rise_27 : decode cX3_rise 27 = .ok (.iinc 3 1, 3) := by decide +kernel
theorem dX3_rise_30 : decode cX3_rise 30 = .ok (.goto (-15), 3) := by decide +kernel
theorem dX3_rise_33 : decode cX3_rise 33 = .ok (.iconst 1, 1) := by decide +kernel
theorem dX3_rise_34 : decode cX3_rise 34 = .ok (.istore_n 3, 1) := by decide +kernel
theorem dX3_rise_35 : decode cX3_rise 35 = .ok (.iload_n 3, 1) := by decide +kernel
theorem dX3_rise_36 : decode cX3_rise 36 = .ok (.aload_n 1, 1) := by decide +kernel
theorem dX3_rise_37 : decode cX3_rise 37 = .ok (.getfield 40, 3) := by decide +kernel
theorem dX3_rise_40 : decode cX3_rise 40 = .ok (.if_icmp .ge 15, 3) := by decide +kernel
theorem dX3_rise_43 : decode cX3_rise 43 = .ok (.aload_n 0, 1) := by decide +kernel
theorem dX3_rise_44 : decode cX3_rise 44 = .ok (.aload_n 1, 1) := by decide +kernel
theorem dX3_rise_45 : decode cX3_rise 45 = .ok (.aload_n 2, 1) := by decide +kernel
theorem dX3_rise_46 : decode cX3_rise 46 = .ok (.invokevirtual 43, 3) := by decide +kernel
theorem dX3_rise_49 : decode cX3_rise 49 = .ok (.iinc 3 1, 3) := by decide +kernel
theorem dX3_rise_52 : decode cX3_rise 52 = .ok (.goto (-17), 3) := by decide +kernel
theorem dX3_rise_55 : decode cX3_rise 55 = .ok (.aload_n 0, 1) := by decide +kernel
theorem dX3_rise_56 : decode cX3_rise 56 = .ok (.iconst (-1), 1) := by decide +kernel
theorem dX3_rise_57 : decode cX3_rise 57 = .ok (.putfield 29, 3) := by decide +kernel
theorem dX3_rise_60 : decode cX3_rise 60 = .ok (.iconst 0, 1) := by decide +kernel
theorem dX3_rise_61 : decode cX3_rise 61 = .ok (.istore_n 3, 1) := by decide +kernel
theorem dX3_rise_62 : decode cX3_rise 62 = .ok (.iload_n 3, 1) := by decide +kernel
theorem dX3_rise_63 : decode cX3_rise 63 = .ok (.aload_n 1, 1) := by decide +kernel
theorem dX3_rise_64 : decode cX3_rise 64 = .ok (.getfield 40, 3) := by decide +kernel
theorem dX3_rise_67 : decode cX3_rise 67 = .ok (.if_icmp .ge 23, 3) := by decide +kernel
theorem dX3_rise_70 : decode cX3_rise 70 = .ok (.aload_n 0, 1) := by decide +kernel
theorem dX3_rise_71 : decode cX3_rise 71 = .ok (.getfield 18, 3) := by decide +kernel
theorem dX3_rise_74 : decode cX3_rise 74 = .ok (.iload_n 3, 1) := by decide +kernel
theorem dX3_rise_75 : decode cX3_rise 75 = .ok (.baload, 1) := by decide +kernel
theorem dX3_rise_76 : decode cX3_rise 76 = .ok (.ifCond .ne 8, 3) := by decide +kernel
theorem dX3_rise_79 : decode cX3_rise 79 = .ok (.aload_n 0, 1) := by decide +kernel
theorem dX3_rise_80 : decode cX3_rise 80 = .ok (.iload_n 3, 1) := by decide +kernel
theorem dX3_rise_81 : decode cX3_rise 81 = .ok (.putfield 29, 3) := by decide +kernel
theorem dX3_rise_84 : decode cX3_rise 84 = .ok (.iinc 3 1, 3) := by decide +kernel
theorem dX3_rise_87 : decode cX3_rise 87 = .ok (.goto (-25), 3) := by decide +kernel
theorem dX3_rise_90 : decode cX3_rise 90 = .ok (.return_, 1) := by decide +kernel
theorem dX3_oneLeaves_0 : decode cX3_oneLeaves 0 = .ok (.iconst (-1), 1) := by decide +kernel
theorem dX3_oneLeaves_1 : decode cX3_oneLeaves 1 = .ok (.istore_n 3, 1) := by decide +kernel
theorem dX3_oneLeaves_2 : decode cX3_oneLeaves 2 = .ok (.iconst 0, 1) := by decide +kernel
theorem dX3_oneLeaves_3 : decode cX3_oneLeaves 3 = .ok (.istore 4, 2) := by decide +kernel
theorem dX3_oneLeaves_5 : decode cX3_oneLeaves 5 = .ok (.iconst 0, 1) := by decide +kernel
theorem dX3_oneLeaves_6 : decode cX3_oneLeaves 6 = .ok (.istore 5, 2) := by decide +kernel
theorem dX3_oneLeaves_8 : decode cX3_oneLeaves 8 = .ok (.iload 5, 2) := by decide +kernel
theorem dX3_oneLeaves_10 : decode cX3_oneLeaves 10 = .ok (.aload_n 1, 1) := by decide +kernel
theorem dX3_oneLeaves_11 : decode cX3_oneLeaves 11 = .ok (.getfield 40, 3) := by decide +kernel
theorem dX3_oneLeaves_14 : decode cX3_oneLeaves 14 = .ok (.if_icmp .ge 51, 3) := by decide +kernel
theorem dX3_oneLeaves_17 : decode cX3_oneLeaves 17 = .ok (.aload_n 0, 1) := by decide +kernel
theorem dX3_oneLeaves_18 : decode cX3_oneLeaves 18 = .ok (.getfield 18, 3) := by decide +kernel
theorem dX3_oneLeaves_21 : decode cX3_oneLeaves 21 = .ok (.iload 5, 2) := by decide +kernel
theorem dX3_oneLeaves_23 : decode cX3_oneLeaves 23 = .ok (.baload, 1) := by decide +kernel
theorem dX3_oneLeaves_24 : decode cX3_oneLeaves 24 = .ok (.ifCond .eq 6, 3) := by decide +kernel
theorem dX3_oneLeaves_27 : decode cX3_oneLeaves 27 = .ok (.goto 32, 3) := by decide +kernel
theorem dX3_oneLeaves_30 : decode cX3_oneLeaves 30 = .ok (.aload_n 0, 1) := by decide +kernel
theorem dX3_oneLeaves_31 : decode cX3_oneLeaves 31 = .ok (.aload_n 1, 1) := by decide +kernel
theorem dX3_oneLeaves_32 : decode cX3_oneLeaves 32 = .ok (.aload_n 2, 1) := by decide +kernel
theorem dX3_oneLeaves_33 : decode cX3_oneLeaves 33 = .ok (.iload 5, 2) := by decide +kernel
theorem dX3_oneLeaves_35 : decode cX3_oneLeaves 35 = .ok (.invokevirtual 47, 3) := by decide +kernel
theorem dX3_oneLeaves_38 : decode cX3_oneLeaves 38 = .ok (.istore 6, 2) := by decide +kernel
theorem dX3_oneLeaves_40 : decode cX3_oneLeaves 40 = .ok (.iload_n 3, 1) := by decide +kernel
theorem dX3_oneLeaves_41 : decode cX3_oneLeaves 41 = .ok (.iconst (-1), 1) := by decide +kernel
theorem dX3_oneLeaves_42 : decode cX3_oneLeaves 42 = .ok (.if_icmp .eq 10, 3) := by decide +kernel
theorem dX3_oneLeaves_45 : decode cX3_oneLeaves 45 = .ok (.iload 6, 2) := by decide +kernel
theorem dX3_oneLeaves_47 : decode cX3_oneLeaves 47 = .ok (.iload 4, 2) := by decide +kernel
theorem dX3_oneLeaves_49 : decode cX3_oneLeaves 49 = .ok (.if_icmp .ge 10, 3) := by decide +kernel
theorem dX3_oneLeaves_52 : decode cX3_oneLeaves 52 = .ok (.iload 5, 2) := by decide +kernel
theorem dX3_oneLeaves_54 : decode cX3_oneLeaves 54 = .ok (.istore_n 3, 1) := by decide +kernel
theorem dX3_oneLeaves_55 : decode cX3_oneLeaves 55 = .ok (.iload 6, 2) := by decide +kernel
theorem dX3_oneLeaves_57 : decode cX3_oneLeaves 57 = .ok (.istore 4, 2) := by decide +kernel
theorem dX3_oneLeaves_59 : decode cX3_oneLeaves 59 = .ok (.iinc 5 1, 3) := by decide +kernel
theorem dX3_oneLeaves_62 : decode cX3_oneLeaves 62 = .ok (.goto (-54), 3) := by decide +kernel
theorem dX3_oneLeaves_65 : decode cX3_oneLeaves 65 = .ok (.iload_n 3, 1) := by decide +kernel
theorem dX3_oneLeaves_66 : decode cX3_oneLeaves 66 = .ok (.iconst (-1), 1) := by decide +kernel
theorem dX3_oneLeaves_67 : decode cX3_oneLeaves 67 = .ok (.if_icmp .eq 11, 3) := by decide +kernel
theorem dX3_oneLeaves_70 : decode cX3_oneLeaves 70 = .ok (.aload_n 0, 1) := by decide +kernel
theorem dX3_oneLeaves_71 : decode cX3_oneLeaves 71 = .ok (.getfield 25, 3) := by decide +kernel
theorem dX3_oneLeaves_74 : decode cX3_oneLeaves 74 = .ok (.iconst 4, 1) := by decide +kernel
theorem dX3_oneLeaves_75 : decode cX3_oneLeaves 75 = .ok (.if_icmp .lt 4, 3) := by decide +kernel
theorem dX3_oneLeaves_78 : decode cX3_oneLeaves 78 = .ok (.return_, 1) := by decide +kernel
theorem dX3_oneLeaves_79 : decode cX3_oneLeaves 79 = .ok (.aload_n 0, 1) := by decide +kernel
theorem dX3_oneLeaves_80 : decode cX3_oneLeaves 80 = .ok (.aload_n 0, 1) := by decide +kernel
theorem dX3_oneLeaves_81 : decode cX3_oneLeaves 81 = .ok (.getfield 32, 3) := by decide +kernel
theorem dX3_oneLeaves_84 : decode cX3_oneLeaves 84 = .ok (.iload 4, 2) := by decide +kernel
theorem dX3_oneLeaves_86 : decode cX3_oneLeaves 86 = .ok (.invokestatic 51, 3) := by decide +kernel
theorem dX3_oneLeaves_89 : decode cX3_oneLeaves 89 = .ok (.putfield 32, 3) := by decide +kernel
theorem dX3_oneLeaves_92 : decode cX3_oneLeaves 92 = .ok (.aload_n 0, 1) := by decide +kernel
theorem dX3_oneLeaves_93 : decode cX3_oneLeaves 93 = .ok (.getfield 18, 3) := by decide +kernel
theorem dX3_oneLeaves_96 : decode cX3_oneLeaves 96 = .ok (.iload_n 3, 1) := by decide +kernel
theorem dX3_oneLeaves_97 : decode cX3_oneLeaves 97 = .ok (.iconst 1, 1) := by decide +kernel
theorem dX3_oneLeaves_98 : decode cX3_oneLeaves 98 = .ok (.bastore, 1) := by decide +kernel
theorem dX3_oneLeaves_99 : decode cX3_oneLeaves 99 = .ok (.aload_n 0, 1) := by decide +kernel
theorem dX3_oneLeaves_100 : decode cX3_oneLeaves 100 = .ok (.getfield 9, 3) := by decide +kernel
theorem dX3_oneLeaves_103 : decode cX3_oneLeaves 103 = .ok (.aload_n 0, 1) := by decide +kernel
theorem dX3_oneLeaves_104 : decode cX3_oneLeaves 104 = .ok (.getfield 25, 3) := by decide +kernel
theorem dX3_oneLeaves_107 : decode cX3_oneLeaves 107 = .ok (.iload_n 3, 1) := by decide +kernel
theorem dX3_oneLeaves_108 : decode cX3_oneLeaves 108 = .ok (.iastore, 1) := by decide +kernel
theorem dX3_oneLeaves_109 : decode cX3_oneLeaves 109 = .ok (.aload_n 0, 1) := by decide +kernel
theorem dX3_oneLeaves_110 : decode cX3_oneLeaves 110 = .ok (.getfield 15, 3) := by decide +kernel
theorem dX3_oneLeaves_113 : decode cX3_oneLeaves 113 = .ok (.aload_n 0, 1) := by decide +kernel
theorem dX3_oneLeaves_114 : decode cX3_oneLeaves 114 = .ok (.getfield 25, 3) := by decide +kernel
theorem dX3_oneLeaves_117 : decode cX3_oneLeaves 117 = .ok (.aload_n 0, 1) := by decide +kernel
theorem dX3_oneLeaves_118 : decode cX3_oneLeaves 118 = .ok (.getfield 32, 3) := by decide +kernel
theorem dX3_oneLeaves_121 : decode cX3_oneLeaves 121 = .ok (.iastore, 1) := by decide +kernel
theorem dX3_oneLeaves_122 : decode cX3_oneLeaves 122 = .ok (.aload_n 0, 1) := by decide +kernel
theorem dX3_oneLeaves_123 : decode cX3_oneLeaves 123 = .ok (.dup, 1) := by decide +kernel
theorem dX3_oneLeaves_124 : decode cX3_oneLeaves 124 = .ok (.getfield 25, 3) := by decide +kernel
theorem dX3_oneLeaves_127 : decode cX3_oneLeaves 127 = .ok (.iconst 1, 1) := by decide +kernel
theorem dX3_oneLeaves_128 : decode cX3_oneLeaves 128 = .ok (.iadd, 1) := by decide +kernel
theorem dX3_oneLeaves_129 : decode cX3_oneLeaves 129 = .ok (.putfield 25, 3) := by decide +kernel
theorem dX3_oneLeaves_132 : decode cX3_oneLeaves 132 = .ok (.return_, 1) := by decide +kernel
theorem dX3_limitOf_0 : decode cX3_limitOf 0 = .ok (.iconst 0, 1) := by decide +kernel
theorem dX3_limitOf_1 : decode cX3_limitOf 1 = .ok (.istore 4, 2) := by decide +kernel
theorem dX3_limitOf_3 : decode cX3_limitOf 3 = .ok (.iload 4, 2) := by decide +kernel
theorem dX3_limitOf_5 : decode cX3_limitOf 5 = .ok (.iconst 4, 1) := by decide +kernel
theorem dX3_limitOf_6 : decode cX3_limitOf 6 = .ok (.if_icmp .ge 49, 3) := by decide +kernel
theorem dX3_limitOf_9 : decode cX3_limitOf 9 = .ok (.aload_n 0, 1) := by decide +kernel
theorem dX3_limitOf_10 : decode cX3_limitOf 10 = .ok (.getfield 22, 3) := by decide +kernel
theorem dX3_limitOf_13 : decode cX3_limitOf 13 = .ok (.iload 4, 2) := by decide +kernel
theorem dX3_limitOf_15 : decode cX3_limitOf 15 = .ok (.iload 4, 2) := by decide +kernel
theorem dX3_limitOf_17 : decode cX3_limitOf 17 = .ok (.aload_n 1, 1) := by decide +kernel
theorem dX3_limitOf_18 : decode cX3_limitOf 18 = .ok (.getfield 40, 3) := by decide +kernel
theorem dX3_limitOf_21 : decode cX3_limitOf 21 = .ok (.if_icmp .lt 7, 3) := by decide +kernel
theorem dX3_limitOf_24 : decode cX3_limitOf 24 = .ok (.iconst (-1), 1) := by decide +kernel
theorem dX3_limitOf_25 : decode cX3_limitOf 25 = .ok (.goto 23, 3) := by decide +kernel
theorem dX3_limitOf_28 : decode cX3_limitOf 28 = .ok (.aload_n 0, 1) := by decide +kernel
theorem dX3_limitOf_29 : decode cX3_limitOf 29 = .ok (.getfield 18, 3) := by decide +kernel
theorem dX3_limitOf_32 : decode cX3_limitOf 32 = .ok (.iload 4, 2) := by decide +kernel
theorem dX3_limitOf_34 : decode cX3_limitOf 34 = .ok (.baload, 1) := by decide +kernel
theorem dX3_limitOf_35 : decode cX3_limitOf 35 = .ok (.ifCond .eq 10, 3) := by decide +kernel
theorem dX3_limitOf_38 : decode cX3_limitOf 38 = .ok (.aload_n 2, 1) := by decide +kernel
theorem dX3_limitOf_39 : decode cX3_limitOf 39 = .ok (.iload 4, 2) := by decide +kernel
theorem dX3_limitOf_41 : decode cX3_limitOf 41 = .ok (.iaload, 1) := by decide +kernel
theorem dX3_limitOf_42 : decode cX3_limitOf 42 = .ok (.goto 6, 3) := by decide +kernel
theorem dX3_limitOf_45 : decode cX3_limitOf 45 = .ok (.aload_n 2, 1) := by decide +kernel
theorem dX3_limitOf_46 : decode cX3_limitOf 46 = .ok (.iload_n 3, 1) := by decide +kernel
theorem dX3_limitOf_47 : decode cX3_limitOf 47 = .ok (.iaload, 1) := by decide +kernel
theorem dX3_limitOf_48 : decode cX3_limitOf 48 = .ok (.iastore, 1) := by decide +kernel
theorem dX3_limitOf_49 : decode cX3_limitOf 49 = .ok (.iinc 4 1, 3) := by decide +kernel
theorem dX3_limitOf_52 : decode cX3_limitOf 52 = .ok (.goto (-49), 3) := by decide +kernel
theorem dX3_limitOf_55 : decode cX3_limitOf 55 = .ok (.aload_n 1, 1) := by decide +kernel
theorem dX3_limitOf_56 : decode cX3_limitOf 56 = .ok (.aload_n 0, 1) := by decide +kernel
theorem dX3_limitOf_57 : decode cX3_limitOf 57 = .ok (.getfield 22, 3) := by decide +kernel
theorem dX3_limitOf_60 : decode cX3_limitOf 60 = .ok (.iconst 0, 1) := by decide +kernel
theorem dX3_limitOf_61 : decode cX3_limitOf 61 = .ok (.iaload, 1) := by decide +kernel
theorem dX3_limitOf_62 : decode cX3_limitOf 62 = .ok (.aload_n 0, 1) := by decide +kernel
theorem dX3_limitOf_63 : decode cX3_limitOf 63 = .ok (.getfield 22, 3) := by decide +kernel
theorem dX3_limitOf_66 : decode cX3_limitOf 66 = .ok (.iconst 1, 1) := by decide +kernel
theorem dX3_limitOf_67 : decode cX3_limitOf 67 = .ok (.iaload, 1) := by decide +kernel
theorem dX3_limitOf_68 : decode cX3_limitOf 68 = .ok (.aload_n 0, 1) := by decide +kernel
theorem dX3_limitOf_69 : decode cX3_limitOf 69 = .ok (.getfield 22, 3) := by decide +kernel
theorem dX3_limitOf_72 : decode cX3_limitOf 72 = .ok (.iconst 2, 1) := by decide +kernel
theorem dX3_limitOf_73 : decode cX3_limitOf 73 = .ok (.iaload, 1) := by decide +kernel
theorem dX3_limitOf_74 : decode cX3_limitOf 74 = .ok (.aload_n 0, 1) := by decide +kernel
theorem dX3_limitOf_75 : decode cX3_limitOf 75 = .ok (.getfield 22, 3) := by decide +kernel
theorem dX3_limitOf_78 : decode cX3_limitOf 78 = .ok (.iconst 3, 1) := by decide +kernel
theorem dX3_limitOf_79 : decode cX3_limitOf 79 = .ok (.iaload, 1) := by decide +kernel
theorem dX3_limitOf_80 : decode cX3_limitOf 80 = .ok (.invokevirtual 57, 3) := by decide +kernel
theorem dX3_limitOf_83 : decode cX3_limitOf 83 = .ok (.ireturn, 1) := by decide +kernel
theorem dX4_init_0 : decode cX4_init 0 = .ok (.aload_n 0, 1) := by decide +kernel
theorem dX4_init_1 : decode cX4_init 1 = .ok (.invokespecial 3, 3) := by decide +kernel
theorem dX4_init_4 : decode cX4_init 4 = .ok (.aload_n 0, 1) := by decide +kernel
theorem dX4_init_5 : decode cX4_init 5 = .ok (.sipush 244, 3) := by decide +kernel
theorem dX4_init_8 : decode cX4_init 8 = .ok (.newarray .long, 2) := by decide +kernel
theorem dX4_init_10 : decode cX4_init 10 = .ok (.putfield 9, 3) := by decide +kernel
theorem dX4_init_13 : decode cX4_init 13 = .ok (.aload_n 0, 1) := by decide +kernel
theorem dX4_init_14 : decode cX4_init 14 = .ok (.sipush 244, 3) := by decide +kernel
theorem dX4_init_17 : decode cX4_init 17 = .ok (.newarray .long, 2) := by decide +kernel
theorem dX4_init_19 : decode cX4_init 19 = .ok (.putfield 15, 3) := by decide +kernel
theorem dX4_init_22 : decode cX4_init 22 = .ok (.aload_n 0, 1) := by decide +kernel
theorem dX4_init_23 : decode cX4_init 23 = .ok (.lconst 0, 1) := by decide +kernel
theorem dX4_init_24 : decode cX4_init 24 = .ok (.putfield 18, 3) := by decide +kernel
theorem dX4_init_27 : decode cX4_init 27 = .ok (.aload_n 0, 1) := by decide +kernel
theorem dX4_init_28 : decode cX4_init 28 = .ok (.lconst 0, 1) := by decide +kernel
theorem dX4_init_29 : decode cX4_init 29 = .ok (.putfield 22, 3) := by decide +kernel
theorem dX4_init_32 : decode cX4_init 32 = .ok (.aload_n 0, 1) := by decide +kernel
theorem dX4_init_33 : decode cX4_init 33 = .ok (.bipush 61, 2) := by decide +kernel
theorem dX4_init_35 : decode cX4_init 35 = .ok (.newarray .long, 2) := by decide +kernel
theorem dX4_init_37 : decode cX4_init 37 = .ok (.putfield 25, 3) := by decide +kernel
theorem dX4_init_40 : decode cX4_init 40 = .ok (.return_, 1) := by decide +kernel
theorem dX4_gather_0 : decode cX4_gather 0 = .ok (.iconst 0, 1) := by decide +kernel
theorem dX4_gather_1 : decode cX4_gather 1 = .ok (.istore 4, 2) := by decide +kernel
theorem dX4_gather_3 : decode cX4_gather 3 = .ok (.iload 4, 2) := by decide +kernel
theorem dX4_gather_5 : decode cX4_gather 5 = .ok (.sipush 244, 3) := by decide +kernel
theorem dX4_gather_8 : decode cX4_gather 8 = .ok (.if_icmp .ge 25, 3) := by decide +kernel
theorem dX4_gather_11 : decode cX4_gather 11 = .ok (.aload_n 0, 1) := by decide +kernel
theorem dX4_gather_12 : decode cX4_gather 12 = .ok (.getfield 9, 3) := by decide +kernel
theorem dX4_gather_15 : decode cX4_gather 15 = .ok (.iload 4, 2) := by decide +kernel
theorem dX4_gather_17 : decode cX4_gather 17 = .ok (.lconst 0, 1) := by decide +kernel
theorem dX4_gather_18 : decode cX4_gather 18 = .ok (.lastore, 1) := by decide +kernel
theorem dX4_gather_19 : decode cX4_gather 19 = .ok (.aload_n 0, 1) := by decide +kernel
theorem dX4_gather_20 : decode cX4_gather 20 = .ok (.getfield 15, 3) := by decide +kernel
theorem dX4_gather_23 : decode cX4_gather 23 = .ok (.iload 4, 2) := by decide +kernel
theorem dX4_gather_25 : decode cX4_gather 25 = .ok (.lconst 0, 1) := by decide +kernel
theorem dX4_gather_26 : decode cX4_gather 26 = .ok (.lastore, 1) := by decide +kernel
theorem dX4_gather_27 : decode cX4_gather 27 = .ok (.iinc 4 1, 3) := by decide +kernel
theorem dX4_gather_30 : decode cX4_gather 30 = .ok (.goto (-27), 3) := by decide +kernel
theorem dX4_gather_33 : decode cX4_gather 33 = .ok (.aload_n 0, 1) := by decide +kernel
theorem dX4_gather_34 : decode cX4_gather 34 = .ok (.lconst 0, 1) := by decide +kernel
theorem dX4_gather_35 : decode cX4_gather 35 = .ok (.putfield 18, 3) := by decide +kernel
theorem dX4_gather_38 : decode cX4_gather 38 = .ok (.aload_n 0, 1) := by decide +kernel
theorem dX4_gather_39 : decode cX4_gather 39 = .ok (.lconst 0, 1) := by decide +kernel
theorem dX4_gather_40 : decode cX4_gather 40 = .ok (.putfield 22, 3) := by decide +kernel
theorem dX4_gather_43 : decode cX4_gather 43 = .ok (.aload_n 1, 1) := by decide +kernel
theorem dX4_gather_44 : decode cX4_gather 44 = .ok (.aload_n 2, 1) := by decide +kernel
theorem dX4_gather_45 : decode cX4_gather 45 = .ok (.iload_n 3, 1) := by decide +kernel
theorem dX4_gather_46 : decode cX4_gather 46 = .ok (.aload_n 2, 1) := by decide +kernel
theorem dX4_gather_47 : decode cX4_gather 47 = .ok (.getfield 28, 3) := by decide +kernel
theorem dX4_gather_50 : decode cX4_gather 50 = .ok (.invokevirtual 34, 3) := by decide +kernel
theorem dX4_gather_53 : decode cX4_gather 53 = .ok (.istore 4, 2) := by decide +kernel
theorem dX4_gather_55 : decode cX4_gather 55 = .ok (.iconst 0, 1) := by decide +kernel
theorem dX4_gather_56 : decode cX4_gather 56 = .ok (.istore 5, 2) := by decide +kernel
theorem dX4_gather_58 : decode cX4_gather 58 = .ok (.iload 5, 2) := by decide +kernel
theorem dX4_gather_60 : decode cX4_gather 60 = .ok (.iload 4, 2) := by decide +kernel
theorem dX4_gather_62 : decode cX4_gather 62 = .ok (.if_icmp .ge 18, 3) := by decide +kernel
theorem dX4_gather_65 : decode cX4_gather 65 = .ok (.aload_n 0, 1) := by decide +kernel
theorem dX4_gather_66 : decode cX4_gather 66 = .ok (.aload_n 1, 1) := by decide +kernel
theorem dX4_gather_67 : decode cX4_gather 67 = .ok (.invokevirtual 40, 3) := by decide +kernel
theorem dX4_gather_70 : decode cX4_gather 70 = .ok (.aload_n 1, 1) := by decide +kernel
theorem dX4_gather_71 : decode cX4_gather 71 = .ok (.invokevirtual 44, 3) := by decide +kernel
theorem dX4_gather_74 : decode cX4_gather 74 = .ok (.iinc 5 1, 3) := by decide +kernel
theorem dX4_gather_77 : decode cX4_gather 77 = .ok (.goto (-19), 3) := by decide +kernel
theorem dX4_gather_80 : decode cX4_gather 80 = .ok (.aload_n 0, 1) := by decide +kernel
theorem dX4_gather_81 : decode cX4_gather 81 = .ok (.aload_n 2, 1) := by decide +kernel
theorem dX4_gather_82 : decode cX4_gather 82 = .ok (.getfield 28, 3) := by decide +kernel
theorem dX4_gather_85 : decode cX4_gather 85 = .ok (.aload_n 2, 1) := by decide +kernel
theorem dX4_gather_86 : decode cX4_gather 86 = .ok (.getfield 47, 3) := by decide +kernel
theorem dX4_gather_89 : decode cX4_gather 89 = .ok (.invokevirtual 50, 3) := by decide +kernel
theorem dX4_gather_92 : decode cX4_gather 92 = .ok (.return_, 1) := by decide +kernel
theorem dX4_addCases_0 : decode cX4_addCases 0 = .ok (.aload_n 1, 1) := by decide +kernel
theorem dX4_addCases_1 : decode cX4_addCases 1 = .ok (.getfield 54, 3) := by decide +kernel
theorem dX4_addCases_4 : decode cX4_addCases 4 = .ok (.ifCond .ne 30, 3) := by decide +kernel
theorem dX4_addCases_7 : decode cX4_addCases 7 = .ok (.aload_n 0, 1) := by decide +kernel
theorem dX4_addCases_8 : decode cX4_addCases 8 = .ok (.dup, 1) := by decide +kernel
theorem dX4_addCases_9 : decode cX4_addCases 9 = .ok (.getfield 18, 3) := by decide +kernel
theorem dX4_addCases_12 : decode cX4_addCases 12 = .ok (.aload_n 1, 1) := by decide +kernel
theorem dX4_addCases_13 : decode cX4_addCases 13 = .ok (.getfield 57, 3) := by decide +kernel
theorem dX4_addCases_16 : decode cX4_addCases 16 = .ok (.ladd, 1) := by decide +kernel
theorem dX4_addCases_17 : decode cX4_addCases 17 = .ok (.putfield 18, 3) := by decide +kernel
theorem dX4_addCases_20 : decode cX4_addCases 20 = .ok (.aload_n 0, 1) := by decide +kernel
theorem dX4_addCases_21 : decode cX4_addCases 21 = .ok (.dup, 1) := by decide +kernel
theorem dX4_addCases_22 : decode cX4_addCases 22 = .ok (.getfield 22, 3) := by decide +kernel
theorem dX4_addCases_25 : decode cX4_addCases 25 = .ok (.aload_n 1, 1) := by decide +kernel
theorem dX4_addCases_26 : decode cX4_addCases 26 = .ok (.getfield 59, 3) := by decide +kernel
theorem dX4_addCases_29 : decode cX4_addCases 29 = .ok (.ladd, 1) := by decide +kernel
theorem dX4_addCases_30 : decode cX4_addCases 30 = .ok (.putfield 22, 3) := by decide +kernel
theorem dX4_addCases_33 : decode cX4_addCases 33 = .ok (.return_, 1) := by decide +kernel
theorem dX4_addCases_34 : decode cX4_addCases 34 = .ok (.aload_n 1, 1) := by decide +kernel
theorem dX4_addCases_35 : decode cX4_addCases 35 = .ok (.getfield 61, 3) := by decide +kernel
theorem dX4_addCases_38 : decode cX4_addCases 38 = .ok (.iconst 4, 1) := by decide +kernel
theorem dX4_addCases_39 : decode cX4_addCases 39 = .ok (.imul, 1) := by decide +kernel
theorem dX4_addCases_40 : decode cX4_addCases 40 = .ok (.aload_n 1, 1) := by decide +kernel
theorem dX4_addCases_41 : decode cX4_addCases 41 = .ok (.getfield 54, 3) := by decide +kernel
theorem dX4_addCases_44 : decode cX4_addCases 44 = .ok (.iadd, 1) := by decide +kernel
theorem dX4_addCases_45 : decode cX4_addCases 45 = .ok (.istore_n 2, 1) := by decide +kernel
theorem dX4_addCases_46 : decode cX4_addCases 46 = .ok (.iload_n 2, 1) := by decide +kernel
theorem dX4_addCases_47 : decode cX4_addCases 47 = .ok (.ifCond .lt 36, 3) := by decide +kernel
theorem dX4_addCases_50 : decode cX4_addCases 50 = .ok (.iload_n 2, 1) := by decide +kernel
theorem dX4_addCases_51 : decode cX4_addCases 51 = .ok (.sipush 244, 3) := by decide +kernel
theorem dX4_addCases_54 : decode cX4_addCases 54 = .ok (.if_icmp .ge 29, 3) := by decide +kernel
theorem dX4_addCases_57 : decode cX4_addCases 57 = .ok (.aload_n 0, 1) := by decide +kernel
theorem dX4_addCases_58 : decode cX4_addCases 58 = .ok (.getfield 9, 3) := by decide +kernel
theorem dX4_addCases_61 : decode cX4_addCases 61 = .ok (.iload_n 2, 1) := by decide +kernel
theorem dX4_addCases_62 : decode cX4_addCases 62 = .ok (.dup2, 1) := by decide +kernel
theorem dX4_addCases_63 : decode cX4_addCases 63 = .ok (.laload, 1) := by decide +kernel
theorem dX4_addCases_64 : decode cX4_addCases 64 = .ok (.aload_n 1, 1) := by decide +kernel
theorem dX4_addCases_65 : decode cX4_addCases 65 = .ok (.getfield 57, 3) := by decide +kernel
theorem dX4_addCases_68 : decode cX4_addCases 68 = .ok (.ladd, 1) := by decide +kernel
theorem dX4_addCases_69 : decode cX4_addCases 69 = .ok (.lastore, 1) := by decide +kernel
theorem dX4_addCases_70 : decode cX4_addCases 70 = .ok (.aload_n 0, 1) := by decide +kernel
theorem dX4_addCases_71 : decode cX4_addCases 71 = .ok (.getfield 15, 3) := by decide +kernel
theorem dX4_addCases_74 : decode cX4_addCases 74 = .ok (.iload_n 2, 1) := by decide +kernel
theorem dX4_addCases_75 : decode cX4_addCases 75 = .ok (.dup2, 1) := by decide +kernel
theorem dX4_addCases_76 : decode cX4_addCases 76 = .ok (.laload, 1) := by decide +kernel
theorem dX4_addCases_77 : decode cX4_addCases 77 = .ok (.aload_n 1, 1) := by decide +kernel
theorem dX4_addCases_78 : decode cX4_addCases 78 = .ok (.getfield 59, 3) := by decide +kernel
theorem dX4_addCases_81 : decode cX4_addCases 81 = .ok (.ladd, 1) := by decide +kernel
theorem dX4_addCases_82 : decode cX4_addCases 82 = .ok (.lastore, 1) := by decide +kernel
theorem dX4_addCases_83 : decode cX4_addCases 83 = .ok (.return_, 1) := by decide +kernel
theorem dX4_reckon_0 : decode cX4_reckon 0 = .ok (.aload_n 0, 1) := by decide +kernel
theorem dX4_reckon_1 : decode cX4_reckon 1 = .ok (.getfield 18, 3) := by decide +kernel
theorem dX4_reckon_4 : decode cX4_reckon 4 = .ok (.lstore_n 3, 1) := by decide +kernel
theorem dX4_reckon_5 : decode cX4_reckon 5 = .ok (.iconst 0, 1) := by decide +kernel
theorem dX4_reckon_6 : decode cX4_reckon 6 = .ok (.istore 5, 2) := by decide +kernel
theorem dX4_reckon_8 : decode cX4_reckon 8 = .ok (.iload 5, 2) := by decide +kernel
theorem dX4_reckon_10 : decode cX4_reckon 10 = .ok (.sipush 244, 3) := by decide +kernel
theorem dX4_reckon_13 : decode cX4_reckon 13 = .ok (.if_icmp .ge 19, 3) := by decide +kernel
theorem dX4_reckon_16 : decode cX4_reckon 16 = .ok (.lload_n 3, 1) := by decide +kernel
theorem dX4_reckon_17 : decode cX4_reckon 17 = .ok (.aload_n 0, 1) := by decide +kernel
theorem dX4_reckon_18 : decode cX4_reckon 18 = .ok (.getfield 9, 3) := by decide +kernel
theorem dX4_reckon_21 : decode cX4_reckon 21 = .ok (.iload 5, 2) := by decide +kernel
theorem dX4_reckon_23 : decode cX4_reckon 23 = .ok (.laload, 1) := by decide +kernel
theorem dX4_reckon_24 : decode cX4_reckon 24 = .ok (.ladd, 1) := by decide +kernel
theorem dX4_reckon_25 : decode cX4_reckon 25 = .ok (.lstore_n 3, 1) := by decide +kernel
theorem dX4_reckon_26 : decode cX4_reckon 26 = .ok (.iinc 5 1, 3) := by decide +kernel
theorem dX4_reckon_29 : decode cX4_reckon 29 = .ok (.goto (-21), 3) := by decide +kernel
theorem dX4_reckon_32 : decode cX4_reckon 32 = .ok (.aload_n 0, 1) := by decide +kernel
theorem dX4_reckon_33 : decode cX4_reckon 33 = .ok (.getfield 18, 3) := by decide +kernel
theorem dX4_reckon_36 : decode cX4_reckon 36 = .ok (.lstore 5, 2) := by decide +kernel
theorem dX4_reckon_38 : decode cX4_reckon 38 = .ok (.aload_n 0, 1) := by decide +kernel
theorem dX4_reckon_39 : decode cX4_reckon 39 = .ok (.getfield 22, 3) := by decide +kernel
theorem dX4_reckon_42 : decode cX4_reckon 42 = .ok (.lstore 7, 2) := by decide +kernel
theorem dX4_reckon_44 : decode cX4_reckon 44 = .ok (.aload_n 0, 1) := by decide +kernel
theorem dX4_reckon_45 : decode cX4_reckon 45 = .ok (.getfield 18, 3) := by decide +kernel
theorem dX4_reckon_48 : decode cX4_reckon 48 = .ok (.iload_n 1, 1) := by decide +kernel
theorem dX4_reckon_49 : decode cX4_reckon 49 = .ok (.i2l, 1) := by decide +kernel
theorem dX4_reckon_50 : decode cX4_reckon 50 = .ok (.lmul, 1) := by decide +kernel
theorem dX4_reckon_51 : decode cX4_reckon 51 = .ok (.lstore 9, 2) := by decide +kernel
theorem dX4_reckon_53 : decode cX4_reckon 53 = .ok (.iconst 0, 1) := by decide +kernel
theorem dX4_reckon_54 : decode cX4_reckon 54 = .ok (.istore 11, 2) := by decide +kernel
theorem dX4_reckon_56 : decode cX4_reckon 56 = .ok (.iload 11, 2) := by decide +kernel
theorem dX4_reckon_58 : decode cX4_reckon 58 = .ok (.bipush 60, 2) := by decide +kernel
theorem dX4_reckon_60 : decode cX4_reckon 60 = .ok (.if_icmp .gt 193, 3) := by decide +kernel
theorem dX4_reckon_63 : decode cX4_reckon 63 = .ok (.iload 11, 2) := by decide +kernel
theorem dX4_reckon_65 : decode cX4_reckon 65 = .ok (.iload_n 1, 1) := by decide +kernel
theorem dX4_reckon_66 : decode cX4_reckon 66 = .ok (.if_icmp .ge 14, 3) := by decide +kernel
theorem dX4_reckon_69 : decode cX4_reckon 69 = .ok (.aload_n 0, 1) := by decide +kernel
theorem dX4_reckon_70 : decode cX4_reckon 70 = .ok (.getfield 25, 3) := by decide +kernel
theorem dX4_reckon_73 : decode cX4_reckon 73 = .ok (.iload 11, 2) := by decide +kernel
theorem dX4_reckon_75 : decode cX4_reckon 75 = .ok (.lconst 0, 1) := by decide +kernel
theorem dX4_reckon_76 : decode cX4_reckon 76 = .ok (.lastore, 1) := by decide +kernel
theorem dX4_reckon_77 : decode cX4_reckon 77 = .ok (.goto 170, 3) := by decide +kernel
theorem dX4_reckon_80 : decode cX4_reckon 80 = .ok (.ldc2_w 64, 3) := by decide +kernel
theorem dX4_reckon_83 : decode cX4_reckon 83 = .ok (.lload 7, 2) := by decide +kernel
theorem dX4_reckon_85 : decode cX4_reckon 85 = .ok (.lmul, 1) := by decide +kernel
theorem dX4_reckon_86 : decode cX4_reckon 86 = .ok (.lstore 12, 2) := by decide +kernel
theorem dX4_reckon_88 : decode cX4_reckon 88 = .ok (.ldc2_w 64, 3) := by decide +kernel
theorem dX4_reckon_91 : decode cX4_reckon 91 = .ok (.iload_n 2, 1) := by decide +kernel
theorem dX4_reckon_92 : decode cX4_reckon 92 = .ok (.iconst 1, 1) := by decide +kernel
theorem dX4_reckon_93 : decode cX4_reckon 93 = .ok (.if_icmp .ne 8, 3) := by decide +kernel
theorem dX4_reckon_96 : decode cX4_reckon 96 = .ok (.lload 9, 2) := by decide +kernel
theorem dX4_reckon_98 : decode cX4_reckon 98 = .ok (.goto 9, 3) := by decide +kernel
theorem dX4_reckon_101 : decode cX4_reckon 101 = .ok (.lload 5, 2) := by decide +kernel
theorem dX4_reckon_103 : decode cX4_reckon 103 = .ok (.iload 11, 2) := by decide +kernel
theorem dX4_reckon_105 : decode cX4_reckon 105 = .ok (.i2l, 1) := by decide +kernel
theorem dX4_reckon_106 : decode cX4_reckon 106 = .ok (.lmul, 1) := by decide +kernel
theorem dX4_reckon_107 : decode cX4_reckon 107 = .ok (.lmul, 1) := by decide +kernel
theorem dX4_reckon_108 : decode cX4_reckon 108 = .ok (.lstore 14, 2) := by decide +kernel
theorem dX4_reckon_110 : decode cX4_reckon 110 = .ok (.iconst 1, 1) := by decide +kernel
theorem dX4_reckon_111 : decode cX4_reckon 111 = .ok (.istore 16, 2) := by decide +kernel
theorem dX4_reckon_113 : decode cX4_reckon 113 = .ok (.iload 16, 2) := by decide +kernel
theorem dX4_reckon_115 : decode cX4_reckon 115 = .ok (.iconst 4, 1) := by decide +kernel
theorem dX4_reckon_116 : decode cX4_reckon 116 = .ok (.if_icmp .ge 102, 3) := by decide +kernel
theorem dX4_reckon_119 : decode cX4_reckon 119 = .ok (.iload 11, 2) := by decide +kernel
theorem dX4_reckon_121 : decode cX4_reckon 121 = .ok (.iconst 4, 1) := by decide +kernel
theorem dX4_reckon_122 : decode cX4_reckon 122 = .ok (.imul, 1) := by decide +kernel
theorem dX4_reckon_123 : decode cX4_reckon 123 = .ok (.iload 16, 2) := by decide +kernel
theorem dX4_reckon_125 : decode cX4_reckon 125 = .ok (.iadd, 1) := by decide +kernel
theorem dX4_reckon_126 : decode cX4_reckon 126 = .ok (.istore 17, 2) := by decide +kernel
theorem dX4_reckon_128 : decode cX4_reckon 128 = .ok (.bipush 12, 2) := by decide +kernel
theorem dX4_reckon_130 : decode cX4_reckon 130 = .ok (.iload 16, 2) := by decide +kernel
theorem dX4_reckon_132 : decode cX4_reckon 132 = .ok (.iconst 1, 1) := by decide +kernel
theorem dX4_reckon_133 : decode cX4_reckon 133 = .ok (.iadd, 1) := by decide +kernel
theorem dX4_reckon_134 : decode cX4_reckon 134 = .ok (.idiv, 1) := by decide +kernel
theorem dX4_reckon_135 : decode cX4_reckon 135 = .ok (.i2l, 1) := by decide +kernel
theorem dX4_reckon_136 : decode cX4_reckon 136 = .ok (.lstore 18, 2) := by decide +kernel
theorem dX4_reckon_138 : decode cX4_reckon 138 = .ok (.lload 12, 2) := by decide +kernel
theorem dX4_reckon_140 : decode cX4_reckon 140 = .ok (.lload 18, 2) := by decide +kernel
theorem dX4_reckon_142 : decode cX4_reckon 142 = .ok (.aload_n 0, 1) := by decide +kernel
theorem dX4_reckon_143 : decode cX4_reckon 143 = .ok (.getfield 15, 3) := by decide +kernel
theorem dX4_reckon_146 : decode cX4_reckon 146 = .ok (.iload 17, 2) := by decide +kernel
theorem dX4_reckon_148 : decode cX4_reckon 148 = .ok (.laload, 1) := by decide +kernel
theorem dX4_reckon_149 : decode cX4_reckon 149 = .ok (.lmul, 1) := by decide +kernel
theorem dX4_reckon_150 : decode cX4_reckon 150 = .ok (.ladd, 1) := by decide +kernel
theorem dX4_reckon_151 : decode cX4_reckon 151 = .ok (.lstore 12, 2) := by decide +kernel
theorem dX4_reckon_153 : decode cX4_reckon 153 = .ok (.lload 14, 2) := by decide +kernel
theorem dX4_reckon_155 : decode cX4_reckon 155 = .ok (.lload 18, 2) := by decide +kernel
theorem dX4_reckon_157 : decode cX4_reckon 157 = .ok (.aload_n 0, 1) := by decide +kernel
theorem dX4_reckon_158 : decode cX4_reckon 158 = .ok (.getfield 9, 3) := by decide +kernel
theorem dX4_reckon_161 : decode cX4_reckon 161 = .ok (.iload 17, 2) := by decide +kernel
theorem dX4_reckon_163 : decode cX4_reckon 163 = .ok (.laload, 1) := by decide +kernel
theorem dX4_reckon_164 : decode cX4_reckon 164 = .ok (.lmul, 1) := by decide +kernel
theorem dX4_reckon_165 : decode cX4_reckon 165 = .ok (.iload 11, 2) := by decide +kernel
theorem dX4_reckon_167 : decode cX4_reckon 167 = .ok (.i2l, 1) := by decide +kernel
theorem dX4_reckon_168 : decode cX4_reckon 168 = .ok (.lmul, 1) := by decide +kernel
theorem dX4_reckon_169 : decode cX4_reckon 169 = .ok (.ladd, 1) := by decide +kernel
theorem dX4_reckon_170 : decode cX4_reckon 170 = .ok (.lstore 14, 2) := by decide +kernel
theorem dX4_reckon_172 : decode cX4_reckon 172 = .ok (.lload 5, 2) := by decide +kernel
theorem dX4_reckon_174 : decode cX4_reckon 174 = .ok (.aload_n 0, 1) := by decide +kernel
theorem dX4_reckon_175 : decode cX4_reckon 175 = .ok (.getfield 9, 3) := by decide +kernel
theorem dX4_reckon_178 : decode cX4_reckon 178 = .ok (.iload 17, 2) := by decide +kernel
theorem dX4_reckon_180 : decode cX4_reckon 180 = .ok (.laload, 1) := by decide +kernel
theorem dX4_reckon_181 : decode cX4_reckon 181 = .ok (.ladd, 1) := by decide +kernel
theorem dX4_reckon_182 : decode cX4_reckon 182 = .ok (.lstore 5, 2) := by decide +kernel
theorem dX4_reckon_184 : decode cX4_reckon 184 = .ok (.lload 7, 2) := by decide +kernel
theorem dX4_reckon_186 : decode cX4_reckon 186 = .ok (.aload_n 0, 1) := by decide +kernel
theorem dX4_reckon_187 : decode cX4_reckon 187 = .ok (.getfield 15, 3) := by decide +kernel
theorem dX4_reckon_190 : decode cX4_reckon 190 = .ok (.iload 17, 2) := by decide +kernel
theorem dX4_reckon_192 : decode cX4_reckon 192 = .ok (.laload, 1) := by decide +kernel
theorem dX4_reckon_193 : decode cX4_reckon 193 = .ok (.ladd, 1) := by decide +kernel
theorem dX4_reckon_194 : decode cX4_reckon 194 = .ok (.lstore 7, 2) := by decide +kernel
theorem dX4_reckon_196 : decode cX4_reckon 196 = .ok (.lload 9, 2) := by decide +kernel
theorem dX4_reckon_198 : decode cX4_reckon 198 = .ok (.aload_n 0, 1) := by decide +kernel
theorem dX4_reckon_199 : decode cX4_reckon 199 = .ok (.getfield 9, 3) := by decide +kernel
theorem dX4_reckon_202 : decode cX4_reckon 202 = .ok (.iload 17, 2) := by decide +kernel
theorem dX4_reckon_204 : decode cX4_reckon 204 = .ok (.laload, 1) := by decide +kernel
theorem dX4_reckon_205 : decode cX4_reckon 205 = .ok (.iload 11, 2) := by decide +kernel
theorem dX4_reckon_207 : decode cX4_reckon 207 = .ok (.i2l, 1) := by decide +kernel
theorem dX4_reckon_208 : decode cX4_reckon 208 = .ok (.lmul, 1) := by decide +kernel
theorem dX4_reckon_209 : decode cX4_reckon 209 = .ok (.ladd, 1) := by decide +kernel
theorem dX4_reckon_210 : decode cX4_reckon 210 = .ok (.lstore 9, 2) := by decide +kernel
theorem dX4_reckon_212 : decode cX4_reckon 212 = .ok (.iinc 16 1, 3) := by decide +kernel
theorem dX4_reckon_215 : decode cX4_reckon 215 = .ok (.goto (-102), 3) := by decide +kernel
theorem dX4_reckon_218 : decode cX4_reckon 218 = .ok (.aload_n 0, 1) := by decide +kernel
theorem dX4_reckon_219 : decode cX4_reckon 219 = .ok (.getfield 25, 3) := by decide +kernel
theorem dX4_reckon_222 : decode cX4_reckon 222 = .ok (.iload 11, 2) := by decide +kernel
theorem dX4_reckon_224 : decode cX4_reckon 224 = .ok (.lload 12, 2) := by decide +kernel
theorem dX4_reckon_226 : decode cX4_reckon 226 = .ok (.iload_n 2, 1) := by decide +kernel
theorem dX4_reckon_227 : decode cX4_reckon 227 = .ok (.iconst 2, 1) := by decide +kernel
theorem dX4_reckon_228 : decode cX4_reckon 228 = .ok (.if_icmp .ne 15, 3) := by decide +kernel
theorem dX4_reckon_231 : decode cX4_reckon 231 = .ok (.ldc2_w 64, 3) := by decide +kernel
theorem dX4_reckon_234 : decode cX4_reckon 234 = .ok (.lload_n 3, 1) := by decide +kernel
theorem dX4_reckon_235 : decode cX4_reckon 235 = .ok (.lmul, 1) := by decide +kernel
theorem dX4_reckon_236 : decode cX4_reckon 236 = .ok (.iload 11, 2) := by decide +kernel
theorem dX4_reckon_238 : decode cX4_reckon 238 = .ok (.i2l, 1) := by decide +kernel
theorem dX4_reckon_239 : decode cX4_reckon 239 = .ok (.lmul, 1) := by decide +kernel
theorem dX4_reckon_240 : decode cX4_reckon 240 = .ok (.goto 5, 3) := by decide +kernel
theorem dX4_reckon_243 : decode cX4_reckon 243 = .ok (.lload 14, 2) := by decide +kernel
theorem dX4_reckon_245 : decode cX4_reckon 245 = .ok (.lsub, 1) := by decide +kernel
theorem dX4_reckon_246 : decode cX4_reckon 246 = .ok (.lastore, 1) := by decide +kernel
theorem dX4_reckon_247 : decode cX4_reckon 247 = .ok (.iinc 11 1, 3) := by decide +kernel
theorem dX4_reckon_250 : decode cX4_reckon 250 = .ok (.goto (-194), 3) := by decide +kernel
theorem dX4_reckon_253 : decode cX4_reckon 253 = .ok (.return_, 1) := by decide +kernel
theorem dX4_pick_0 : decode cX4_pick 0 = .ok (.iconst 0, 1) := by decide +kernel
theorem dX4_pick_1 : decode cX4_pick 1 = .ok (.istore_n 1, 1) := by decide +kernel
theorem dX4_pick_2 : decode cX4_pick 2 = .ok (.iconst 1, 1) := by decide +kernel
theorem dX4_pick_3 : decode cX4_pick 3 = .ok (.istore_n 2, 1) := by decide +kernel
theorem dX4_pick_4 : decode cX4_pick 4 = .ok (.iload_n 2, 1) := by decide +kernel
theorem dX4_pick_5 : decode cX4_pick 5 = .ok (.bipush 60, 2) := by decide +kernel
theorem dX4_pick_7 : decode cX4_pick 7 = .ok (.if_icmp .gt 27, 3) := by decide +kernel
theorem dX4_pick_10 : decode cX4_pick 10 = .ok (.aload_n 0, 1) := by decide +kernel
theorem dX4_pick_11 : decode cX4_pick 11 = .ok (.getfield 25, 3) := by decide +kernel
theorem dX4_pick_14 : decode cX4_pick 14 = .ok (.iload_n 2, 1) := by decide +kernel
theorem dX4_pick_15 : decode cX4_pick 15 = .ok (.laload, 1) := by decide +kernel
theorem dX4_pick_16 : decode cX4_pick 16 = .ok (.aload_n 0, 1) := by decide +kernel
theorem dX4_pick_17 : decode cX4_pick 17 = .ok (.getfield 25, 3) := by decide +kernel
theorem dX4_pick_20 : decode cX4_pick 20 = .ok (.iload_n 1, 1) := by decide +kernel
theorem dX4_pick_21 : decode cX4_pick 21 = .ok (.laload, 1) := by decide +kernel
theorem dX4_pick_22 : decode cX4_pick 22 = .ok (.lcmp, 1) := by decide +kernel
theorem dX4_pick_23 : decode cX4_pick 23 = .ok (.ifCond .le 5, 3) := by decide +kernel
theorem dX4_pick_26 : decode cX4_pick 26 = .ok (.iload_n 2, 1) := by decide +kernel
theorem dX4_pick_27 : decode cX4_pick 27 = .ok (.istore_n 1, 1) := by decide +kernel
theorem dX4_pick_28 : decode cX4_pick 28 = .ok (.iinc 2 1, 3) := by decide +kernel
theorem dX4_pick_31 : decode cX4_pick 31 = .ok (.goto (-27), 3) := by decide +kernel
theorem dX4_pick_34 : decode cX4_pick 34 = .ok (.iload_n 1, 1) := by decide +kernel
theorem dX4_pick_35 : decode cX4_pick 35 = .ok (.ireturn, 1) := by decide +kernel
theorem dX4_most_0 : decode cX4_most 0 = .ok (.aload_n 0, 1) := by decide +kernel
theorem dX4_most_1 : decode cX4_most 1 = .ok (.getfield 25, 3) := by decide +kernel
theorem dX4_most_4 : decode cX4_most 4 = .ok (.aload_n 0, 1) := by decide +kernel
theorem dX4_most_5 : decode cX4_most 5 = .ok (.invokevirtual 66, 3) := by decide +kernel
theorem dX4_most_8 : decode cX4_most 8 = .ok (.laload, 1) := by decide +kernel
theorem dX4_most_9 : decode cX4_most 9 = .ok (.lreturn, 1) := by decide +kernel
theorem dX4_isMost_0 : decode cX4_isMost 0 = .ok (.iload_n 1, 1) := by decide +kernel
theorem dX4_isMost_1 : decode cX4_isMost 1 = .ok (.ifCond .lt 27, 3) := by decide +kernel
theorem dX4_isMost_4 : decode cX4_isMost 4 = .ok (.iload_n 1, 1) := by decide +kernel
theorem dX4_isMost_5 : decode cX4_isMost 5 = .ok (.bipush 60, 2) := by decide +kernel
theorem dX4_isMost_7 : decode cX4_isMost 7 = .ok (.if_icmp .gt 21, 3) := by decide +kernel
theorem dX4_isMost_10 : decode cX4_isMost 10 = .ok (.aload_n 0, 1) := by decide +kernel
theorem dX4_isMost_11 : decode cX4_isMost 11 = .ok (.getfield 25, 3) := by decide +kernel
theorem dX4_isMost_14 : decode cX4_isMost 14 = .ok (.iload_n 1, 1) := by decide +kernel
theorem dX4_isMost_15 : decode cX4_isMost 15 = .ok (.laload, 1) := by decide +kernel
theorem dX4_isMost_16 : decode cX4_isMost 16 = .ok (.aload_n 0, 1) := by decide +kernel
theorem dX4_isMost_17 : decode cX4_isMost 17 = .ok (.invokevirtual 70, 3) := by decide +kernel
theorem dX4_isMost_20 : decode cX4_isMost 20 = .ok (.lcmp, 1) := by decide +kernel
theorem dX4_isMost_21 : decode cX4_isMost 21 = .ok (.ifCond .ne 7, 3) := by decide +kernel
theorem dX4_isMost_24 : decode cX4_isMost 24 = .ok (.iconst 1, 1) := by decide +kernel
theorem dX4_isMost_25 : decode cX4_isMost 25 = .ok (.goto 4, 3) := by decide +kernel
theorem dX4_isMost_28 : decode cX4_isMost 28 = .ok (.iconst 0, 1) := by decide +kernel
theorem dX4_isMost_29 : decode cX4_isMost 29 = .ok (.ireturn, 1) := by decide +kernel
theorem dX5_init_0 : decode cX5_init 0 = .ok (.aload_n 0, 1) := by decide +kernel
theorem dX5_init_1 : decode cX5_init 1 = .ok (.invokespecial 3, 3) := by decide +kernel
theorem dX5_init_4 : decode cX5_init 4 = .ok (.aload_n 0, 1) := by decide +kernel
theorem dX5_init_5 : decode cX5_init 5 = .ok (.bipush 8, 2) := by decide +kernel
theorem dX5_init_7 : decode cX5_init 7 = .ok (.newarray .int, 2) := by decide +kernel
theorem dX5_init_9 : decode cX5_init 9 = .ok (.putfield 9, 3) := by decide +kernel
theorem dX5_init_12 : decode cX5_init 12 = .ok (.aload_n 0, 1) := by decide +kernel
theorem dX5_init_13 : decode cX5_init 13 = .ok (.bipush 8, 2) := by decide +kernel
theorem dX5_init_15 : decode cX5_init 15 = .ok (.newarray .int, 2) := by decide +kernel
theorem dX5_init_17 : decode cX5_init 17 = .ok (.putfield 15, 3) := by decide +kernel
theorem dX5_init_20 : decode cX5_init 20 = .ok (.aload_n 0, 1) := by decide +kernel
theorem dX5_init_21 : decode cX5_init 21 = .ok (.bipush 40, 2) := by decide +kernel
theorem dX5_init_23 : decode cX5_init 23 = .ok (.newarray .int, 2) := by decide +kernel
theorem dX5_init_25 : decode cX5_init 25 = .ok (.putfield 18, 3) := by decide +kernel
theorem dX5_init_28 : decode cX5_init 28 = .ok (.aload_n 0, 1) := by decide +kernel
theorem dX5_init_29 : decode cX5_init 29 = .ok (.iconst 4, 1) := by decide +kernel
theorem dX5_init_30 : decode cX5_init 30 = .ok (.newarray .int, 2) := by decide +kernel
theorem dX5_init_32 : decode cX5_init 32 = .ok (.putfield 21, 3) := by decide +kernel
theorem dX5_init_35 : decode cX5_init 35 = .ok (.aload_n 0, 1) := by decide +kernel
theorem dX5_init_36 : decode cX5_init 36 = .ok (.iconst 0, 1) := by decide +kernel
theorem dX5_init_37 : decode cX5_init 37 = .ok (.putfield 24, 3) := by decide +kernel
theorem dX5_init_40 : decode cX5_init 40 = .ok (.aload_n 0, 1) := by decide +kernel
theorem dX5_init_41 : decode cX5_init 41 = .ok (.iconst 0, 1) := by decide +kernel
theorem dX5_init_42 : decode cX5_init 42 = .ok (.putfield 28, 3) := by decide +kernel
theorem dX5_init_45 : decode cX5_init 45 = .ok (.aload_n 0, 1) := by decide +kernel
theorem dX5_init_46 : decode cX5_init 46 = .ok (.iconst 2, 1) := by decide +kernel
theorem dX5_init_47 : decode cX5_init 47 = .ok (.putfield 31, 3) := by decide +kernel
theorem dX5_init_50 : decode cX5_init 50 = .ok (.aload_n 0, 1) := by decide +kernel
theorem dX5_init_51 : decode cX5_init 51 = .ok (.iconst 0, 1) := by decide +kernel
theorem dX5_init_52 : decode cX5_init 52 = .ok (.putfield 34, 3) := by decide +kernel
theorem dX5_init_55 : decode cX5_init 55 = .ok (.aload_n 0, 1) := by decide +kernel
theorem dX5_init_56 : decode cX5_init 56 = .ok (.iconst 0, 1) := by decide +kernel
theorem dX5_init_57 : decode cX5_init 57 = .ok (.putfield 37, 3) := by decide +kernel
theorem dX5_init_60 : decode cX5_init 60 = .ok (.aload_n 0, 1) := by decide +kernel
theorem dX5_init_61 : decode cX5_init 61 = .ok (.lconst 0, 1) := by decide +kernel
theorem dX5_init_62 : decode cX5_init 62 = .ok (.putfield 40, 3) := by decide +kernel
theorem dX5_init_65 : decode cX5_init 65 = .ok (.aload_n 0, 1) := by decide +kernel
theorem dX5_init_66 : decode cX5_init 66 = .ok (.lconst 0, 1) := by decide +kernel
theorem dX5_init_67 : decode cX5_init 67 = .ok (.putfield 44, 3) := by decide +kernel
theorem dX5_init_70 : decode cX5_init 70 = .ok (.return_, 1) := by decide +kernel
theorem dX5_clear_0 : decode cX5_clear 0 = .ok (.aload_n 0, 1) := by decide +kernel
theorem dX5_clear_1 : decode cX5_clear 1 = .ok (.iconst 0, 1) := by decide +kernel
theorem dX5_clear_2 : decode cX5_clear 2 = .ok (.putfield 24, 3) := by decide +kernel
theorem dX5_clear_5 : decode cX5_clear 5 = .ok (.aload_n 0, 1) := by decide +kernel
theorem dX5_clear_6 : decode cX5_clear 6 = .ok (.iconst 0, 1) := by decide +kernel
theorem dX5_clear_7 : decode cX5_clear 7 = .ok (.putfield 28, 3) := by decide +kernel
theorem dX5_clear_10 : decode cX5_clear 10 = .ok (.aload_n 0, 1) := by decide +kernel
theorem dX5_clear_11 : decode cX5_clear 11 = .ok (.iconst 2, 1) := by decide +kernel
theorem dX5_clear_12 : decode cX5_clear 12 = .ok (.putfield 31, 3) := by decide +kernel
theorem dX5_clear_15 : decode cX5_clear 15 = .ok (.aload_n 0, 1) := by decide +kernel
theorem dX5_clear_16 : decode cX5_clear 16 = .ok (.iconst 0, 1) := by decide +kernel
theorem dX5_clear_17 : decode cX5_clear 17 = .ok (.putfield 34, 3) := by decide +kernel
theorem dX5_clear_20 : decode cX5_clear 20 = .ok (.aload_n 0, 1) := by decide +kernel
theorem dX5_clear_21 : decode cX5_clear 21 = .ok (.iconst 0, 1) := by decide +kernel
theorem dX5_clear_22 : decode cX5_clear 22 = .ok (.putfield 37, 3) := by decide +kernel
theorem dX5_clear_25 : decode cX5_clear 25 = .ok (.iconst 0, 1) := by decide +kernel
theorem dX5_clear_26 : decode cX5_clear 26 = .ok (.istore_n 1, 1) := by decide +kernel
theorem dX5_clear_27 : decode cX5_clear 27 = .ok (.iload_n 1, 1) := by decide +kernel
theorem dX5_clear_28 : decode cX5_clear 28 = .ok (.iconst 4, 1) := by decide +kernel
theorem dX5_clear_29 : decode cX5_clear 29 = .ok (.if_icmp .ge 16, 3) := by decide +kernel
theorem dX5_clear_32 : decode cX5_clear 32 = .ok (.aload_n 0, 1) := by decide +kernel
theorem dX5_clear_33 : decode cX5_clear 33 = .ok (.getfield 21, 3) := by decide +kernel
theorem dX5_clear_36 : decode cX5_clear 36 = .ok (.iload_n 1, 1) := by decide +kernel
theorem dX5_clear_37 : decode cX5_clear 37 = .ok (.iconst (-1), 1) := by decide +kernel
theorem dX5_clear_38 : decode cX5_clear 38 = .ok (.iastore, 1) := by decide +kernel
theorem dX5_clear_39 : decode cX5_clear 39 = .ok (.iinc 1 1, 3) := by decide +kernel
theorem dX5_clear_42 : decode cX5_clear 42 = .ok (.goto (-15), 3) := by decide +kernel
theorem dX5_clear_45 : decode cX5_clear 45 = .ok (.return_, 1) := by decide +kernel
theorem dX5_hasSign_0 : decode cX5_hasSign 0 = .ok (.iload_n 1, 1) := by decide +kernel
theorem dX5_hasSign_1 : decode cX5_hasSign 1 = .ok (.ifCond .lt 15, 3) := by decide +kernel
theorem dX5_hasSign_4 : decode cX5_hasSign 4 = .ok (.iload_n 1, 1) := by decide +kernel
theorem dX5_hasSign_5 : decode cX5_hasSign 5 = .ok (.aload_n 0, 1) := by decide +kernel
theorem dX5_hasSign_6 : decode cX5_hasSign 6 = .ok (.getfield 24, 3) := by decide +kernel
theorem dX5_hasSign_9 : decode cX5_hasSign 9 = .ok (.if_icmp .ge 7, 3) := by decide +kernel
theorem dX5_hasSign_12 : decode cX5_hasSign 12 = .ok (.iconst 1, 1) := by decide +kernel
theorem dX5_hasSign_13 : decode cX5_hasSign 13 = .ok (.goto 4, 3) := by decide +kernel
theorem dX5_hasSign_16 : decode cX5_hasSign 16 = .ok (.iconst 0, 1) := by decide +kernel
theorem dX5_hasSign_17 : decode cX5_hasSign 17 = .ok (.ireturn, 1) := by decide +kernel
theorem dX5_hasSeat_0 : decode cX5_hasSeat 0 = .ok (.iload_n 1, 1) := by decide +kernel
theorem dX5_hasSeat_1 : decode cX5_hasSeat 1 = .ok (.ifCond .lt 15, 3) := by decide +kernel
theorem dX5_hasSeat_4 : decode cX5_hasSeat 4 = .ok (.iload_n 1, 1) := by decide +kernel
theorem dX5_hasSeat_5 : decode cX5_hasSeat 5 = .ok (.aload_n 0, 1) := by decide +kernel
theorem dX5_hasSeat_6 : decode cX5_hasSeat 6 = .ok (.getfield 31, 3) := by decide +kernel
theorem dX5_hasSeat_9 : decode cX5_hasSeat 9 = .ok (.if_icmp .ge 7, 3) := by decide +kernel
theorem dX5_hasSeat_12 : decode cX5_hasSeat 12 = .ok (.iconst 1, 1) := by decide +kernel
theorem dX5_hasSeat_13 : decode cX5_hasSeat 13 = .ok (.goto 4, 3) := by decide +kernel
theorem dX5_hasSeat_16 : decode cX5_hasSeat 16 = .ok (.iconst 0, 1) := by decide +kernel
theorem dX5_hasSeat_17 : decode cX5_hasSeat 17 = .ok (.ireturn, 1) := by decide +kernel
theorem dX5_allWeights_0 : decode cX5_allWeights 0 = .ok (.iconst 0, 1) := by decide +kernel
theorem dX5_allWeights_1 : decode cX5_allWeights 1 = .ok (.istore_n 1, 1) := by decide +kernel
theorem dX5_allWeights_2 : decode cX5_allWeights 2 = .ok (.iconst 0, 1) := by decide +kernel
theorem dX5_allWeights_3 : decode cX5_allWeights 3 = .ok (.istore_n 2, 1) := by decide +kernel
theorem dX5_allWeights_4 : decode cX5_allWeights 4 = .ok (.iload_n 2, 1) := by decide +kernel
theorem dX5_allWeights_5 : decode cX5_allWeights 5 = .ok (.aload_n 0, 1) := by decide +kernel
theorem dX5_allWeights_6 : decode cX5_allWeights 6 = .ok (.getfield 28, 3) := by decide +kernel
theorem dX5_allWeights_9 : decode cX5_allWeights 9 = .ok (.if_icmp .ge 18, 3) := by decide +kernel
theorem dX5_allWeights_12 : decode cX5_allWeights 12 = .ok (.iload_n 1, 1) := by decide +kernel
theorem dX5_allWeights_13 : decode cX5_allWeights 13 = .ok (.aload_n 0, 1) := by decide +kernel
theorem dX5_allWeights_14 : decode cX5_allWeights 14 = .ok (.getfield 15, 3) := by decide +kernel
theorem dX5_allWeights_17 : decode cX5_allWeights 17 = .ok (.iload_n 2, 1) := by decide +kernel
theorem dX5_allWeights_18 : decode cX5_allWeights 18 = .ok (.iaload, 1) := by decide +kernel
theorem dX5_allWeights_19 : decode cX5_allWeights 19 = .ok (.iadd, 1) := by decide +kernel
theorem dX5_allWeights_20 : decode cX5_allWeights 20 = .ok (.istore_n 1, 1) := by decide +kernel
theorem dX5_allWeights_21 : decode cX5_allWeights 21 = .ok (.iinc 2 1, 3) := by decide +kernel
theorem dX5_allWeights_24 : decode cX5_allWeights 24 = .ok (.goto (-20), 3) := by decide +kernel
theorem dX5_allWeights_27 : decode cX5_allWeights 27 = .ok (.iload_n 1, 1) := by decide +kernel
theorem dX5_allWeights_28 : decode cX5_allWeights 28 = .ok (.ireturn, 1) := by decide +kernel
theorem dX5_seeing_0 : decode cX5_seeing 0 = .ok (.iload_n 2, 1) := by decide +kernel
theorem dX5_seeing_1 : decode cX5_seeing 1 = .ok (.ifCond .lt 24, 3) := by decide +kernel
theorem dX5_seeing_4 : decode cX5_seeing 4 = .ok (.iload_n 2, 1) := by decide +kernel
theorem dX5_seeing_5 : decode cX5_seeing 5 = .ok (.aload_n 0, 1) := by decide +kernel
theorem dX5_seeing_6 : decode cX5_seeing 6 = .ok (.getfield 24, 3) := by decide +kernel
theorem dX5_seeing_9 : decode cX5_seeing 9 = .ok (.if_icmp .ge 16, 3) := by decide +kernel
theorem dX5_seeing_12 : decode cX5_seeing 12 = .ok (.aload_n 0, 1) := by decide +kernel
theorem dX5_seeing_13 : decode cX5_seeing 13 = .ok (.getfield 18, 3) := by decide +kernel
theorem dX5_seeing_16 : decode cX5_seeing 16 = .ok (.iload_n 1, 1) := by decide +kernel
theorem dX5_seeing_17 : decode cX5_seeing 17 = .ok (.iconst 5, 1) := by decide +kernel
theorem dX5_seeing_18 : decode cX5_seeing 18 = .ok (.imul, 1) := by decide +kernel
theorem dX5_seeing_19 : decode cX5_seeing 19 = .ok (.iload_n 2, 1) := by decide +kernel
theorem dX5_seeing_20 : decode cX5_seeing 20 = .ok (.iadd, 1) := by decide +kernel
theorem dX5_seeing_21 : decode cX5_seeing 21 = .ok (.iaload, 1) := by decide +kernel
theorem dX5_seeing_22 : decode cX5_seeing 22 = .ok (.goto 4, 3) := by decide +kernel
theorem dX5_seeing_25 : decode cX5_seeing 25 = .ok (.iconst 1, 1) := by decide +kernel
theorem dX5_seeing_26 : decode cX5_seeing 26 = .ok (.ireturn, 1) := by decide +kernel
theorem dX5_weigh_0 : decode cX5_weigh 0 = .ok (.aload_n 0, 1) := by decide +kernel
theorem dX5_weigh_1 : decode cX5_weigh 1 = .ok (.lconst 0, 1) := by decide +kernel
theorem dX5_weigh_2 : decode cX5_weigh 2 = .ok (.putfield 40, 3) := by decide +kernel
theorem dX5_weigh_5 : decode cX5_weigh 5 = .ok (.aload_n 0, 1) := by decide +kernel
theorem dX5_weigh_6 : decode cX5_weigh 6 = .ok (.lconst 0, 1) := by decide +kernel
theorem dX5_weigh_7 : decode cX5_weigh 7 = .ok (.putfield 44, 3) := by decide +kernel
theorem dX5_weigh_10 : decode cX5_weigh 10 = .ok (.iconst 0, 1) := by decide +kernel
theorem dX5_weigh_11 : decode cX5_weigh 11 = .ok (.istore 5, 2) := by decide +kernel
theorem dX5_weigh_13 : decode cX5_weigh 13 = .ok (.iload 5, 2) := by decide +kernel
theorem dX5_weigh_15 : decode cX5_weigh 15 = .ok (.aload_n 0, 1) := by decide +kernel
theorem dX5_weigh_16 : decode cX5_weigh 16 = .ok (.getfield 28, 3) := by decide +kernel
theorem dX5_weigh_19 : decode cX5_weigh 19 = .ok (.if_icmp .ge 87, 3) := by decide +kernel
theorem dX5_weigh_22 : decode cX5_weigh 22 = .ok (.aload_n 0, 1) := by decide +kernel
theorem dX5_weigh_23 : decode cX5_weigh 23 = .ok (.getfield 15, 3) := by decide +kernel
theorem dX5_weigh_26 : decode cX5_weigh 26 = .ok (.iload 5, 2) := by decide +kernel
theorem dX5_weigh_28 : decode cX5_weigh 28 = .ok (.iaload, 1) := by decide +kernel
theorem dX5_weigh_29 : decode cX5_weigh 29 = .ok (.i2l, 1) := by decide +kernel
theorem dX5_weigh_30 : decode cX5_weigh 30 = .ok (.aload_n 0, 1) := by decide +kernel
theorem dX5_weigh_31 : decode cX5_weigh 31 = .ok (.iload 5, 2) := by decide +kernel
theorem dX5_weigh_33 : decode cX5_weigh 33 = .ok (.iload_n 1, 1) := by decide +kernel
theorem dX5_weigh_34 : decode cX5_weigh 34 = .ok (.invokevirtual 47, 3) := by decide +kernel
theorem dX5_weigh_37 : decode cX5_weigh 37 = .ok (.i2l, 1) := by decide +kernel
theorem dX5_weigh_38 : decode cX5_weigh 38 = .ok (.lmul, 1) := by decide +kernel
theorem dX5_weigh_39 : decode cX5_weigh 39 = .ok (.aload_n 0, 1) := by decide +kernel
theorem dX5_weigh_40 : decode cX5_weigh 40 = .ok (.iload 5, 2) := by decide +kernel
theorem dX5_weigh_42 : decode cX5_weigh 42 = .ok (.iload_n 2, 1) := by decide +kernel
theorem dX5_weigh_43 : decode cX5_weigh 43 = .ok (.invokevirtual 47, 3) := by decide +kernel
theorem dX5_weigh_46 : decode cX5_weigh 46 = .ok (.i2l, 1) := by decide +kernel
theorem dX5_weigh_47 : decode cX5_weigh 47 = .ok (.lmul, 1) := by decide +kernel
theorem dX5_weigh_48 : decode cX5_weigh 48 = .ok (.aload_n 0, 1) := by decide +kernel
theorem dX5_weigh_49 : decode cX5_weigh 49 = .ok (.iload 5, 2) := by decide +kernel
theorem dX5_weigh_51 : decode cX5_weigh 51 = .ok (.iload_n 3, 1) := by decide +kernel
theorem dX5_weigh_52 : decode cX5_weigh 52 = .ok (.invokevirtual 47, 3) := by decide +kernel
theorem dX5_weigh_55 : decode cX5_weigh 55 = .ok (.i2l, 1) := by decide +kernel
theorem dX5_weigh_56 : decode cX5_weigh 56 = .ok (.lmul, 1) := by decide +kernel
theorem dX5_weigh_57 : decode cX5_weigh 57 = .ok (.aload_n 0, 1) := by decide +kernel
theorem dX5_weigh_58 : decode cX5_weigh 58 = .ok (.iload 5, 2) := by decide +kernel
theorem dX5_weigh_60 : decode cX5_weigh 60 = .ok (.iload 4, 2) := by decide +kernel
theorem dX5_weigh_62 : decode cX5_weigh 62 = .ok (.invokevirtual 47, 3) := by decide +kernel
theorem dX5_weigh_65 : decode cX5_weigh 65 = .ok (.i2l, 1) := by decide +kernel
theorem dX5_weigh_66 : decode cX5_weigh 66 = .ok (.lmul, 1) := by decide +kernel
theorem dX5_weigh_67 : decode cX5_weigh 67 = .ok (.lstore 6, 2) := by decide +kernel
theorem dX5_weigh_69 : decode cX5_weigh 69 = .ok (.aload_n 0, 1) := by decide +kernel
theorem dX5_weigh_70 : decode cX5_weigh 70 = .ok (.dup, 1) := by decide +kernel
theorem dX5_weigh_71 : decode cX5_weigh 71 = .ok (.getfield 40, 3) := by decide +kernel
theorem dX5_weigh_74 : decode cX5_weigh 74 = .ok (.lload 6, 2) := by decide +kernel
theorem dX5_weigh_76 : decode cX5_weigh 76 = .ok (.aload_n 0, 1) := by decide +kernel
theorem dX5_weigh_77 : decode cX5_weigh 77 = .ok (.getfield 9, 3) := by decide +kernel
theorem dX5_weigh_80 : decode cX5_weigh 80 = .ok (.iload 5, 2) := by decide +kernel
theorem dX5_weigh_82 : decode cX5_weigh 82 = .ok (.iaload, 1) := by decide +kernel
theorem dX5_weigh_83 : decode cX5_weigh 83 = .ok (.i2l, 1) := by decide +kernel
theorem dX5_weigh_84 : decode cX5_weigh 84 = .ok (.lmul, 1) := by decide +kernel
theorem dX5_weigh_85 : decode cX5_weigh 85 = .ok (.ladd, 1) := by decide +kernel
theorem dX5_weigh_86 : decode cX5_weigh 86 = .ok (.putfield 40, 3) := by decide +kernel
theorem dX5_weigh_89 : decode cX5_weigh 89 = .ok (.aload_n 0, 1) := by decide +kernel
theorem dX5_weigh_90 : decode cX5_weigh 90 = .ok (.dup, 1) := by decide +kernel
theorem dX5_weigh_91 : decode cX5_weigh 91 = .ok (.getfield 44, 3) := by decide +kernel
theorem dX5_weigh_94 : decode cX5_weigh 94 = .ok (.lload 6, 2) := by decide +kernel
theorem dX5_weigh_96 : decode cX5_weigh 96 = .ok (.ladd, 1) := by decide +kernel
theorem dX5_weigh_97 : decode cX5_weigh 97 = .ok (.putfield 44, 3) := by decide +kernel
theorem dX5_weigh_100 : decode cX5_weigh 100 = .ok (.iinc 5 1, 3) := by decide +kernel
theorem dX5_weigh_103 : decode cX5_weigh 103 = .ok (.goto (-90), 3) := by decide +kernel
theorem dX5_weigh_106 : decode cX5_weigh 106 = .ok (.aload_n 0, 1) := by decide +kernel
theorem dX5_weigh_107 : decode cX5_weigh 107 = .ok (.getfield 44, 3) := by decide +kernel
theorem dX5_weigh_110 : decode cX5_weigh 110 = .ok (.lconst 0, 1) := by decide +kernel
theorem dX5_weigh_111 : decode cX5_weigh 111 = .ok (.lcmp, 1) := by decide +kernel
theorem dX5_weigh_112 : decode cX5_weigh 112 = .ok (.ifCond .le 7, 3) := by decide +kernel
theorem dX5_weigh_115 : decode cX5_weigh 115 = .ok (.iconst 1, 1) := by decide +kernel
theorem dX5_weigh_116 : decode cX5_weigh 116 = .ok (.goto 4, 3) := by decide +kernel
theorem dX5_weigh_119 : decode cX5_weigh 119 = .ok (.iconst 0, 1) := by decide +kernel
theorem dX5_weigh_120 : decode cX5_weigh 120 = .ok (.ireturn, 1) := by decide +kernel
theorem dX5_held_0 : decode cX5_held 0 = .ok (.aload_n 0, 1) := by decide +kernel
theorem dX5_held_1 : decode cX5_held 1 = .ok (.iload_n 1, 1) := by decide +kernel
theorem dX5_held_2 : decode cX5_held 2 = .ok (.iload_n 2, 1) := by decide +kernel
theorem dX5_held_3 : decode cX5_held 3 = .ok (.iload_n 3, 1) := by decide +kernel
theorem dX5_held_4 : decode cX5_held 4 = .ok (.iload 4, 2) := by decide +kernel
theorem dX5_held_6 : decode cX5_held 6 = .ok (.invokevirtual 51, 3) := by decide +kernel
theorem dX5_held_9 : decode cX5_held 9 = .ok (.ifCond .eq 25, 3) := by decide +kernel
theorem dX5_held_12 : decode cX5_held 12 = .ok (.aload_n 0, 1) := by decide +kernel
theorem dX5_held_13 : decode cX5_held 13 = .ok (.getfield 44, 3) := by decide +kernel
theorem dX5_held_16 : decode cX5_held 16 = .ok (.lconst 0, 1) := by decide +kernel
theorem dX5_held_17 : decode cX5_held 17 = .ok (.lcmp, 1) := by decide +kernel
theorem dX5_held_18 : decode cX5_held 18 = .ok (.ifCond .le 16, 3) := by decide +kernel
theorem dX5_held_21 : decode cX5_held 21 = .ok (.aload_n 0, 1) := by decide +kernel
theorem dX5_held_22 : decode cX5_held 22 = .ok (.getfield 40, 3) := by decide +kernel
theorem dX5_held_25 : decode cX5_held 25 = .ok (.aload_n 0, 1) := by decide +kernel
theorem dX5_held_26 : decode cX5_held 26 = .ok (.getfield 44, 3) := by decide +kernel
theorem dX5_held_29 : decode cX5_held 29 = .ok (.ldiv, 1) := by decide +kernel
theorem dX5_held_30 : decode cX5_held 30 = .ok (.l2i, 1) := by decide +kernel
theorem dX5_held_31 : decode cX5_held 31 = .ok (.goto 4, 3) := by decide +kernel
theorem dX5_held_34 : decode cX5_held 34 = .ok (.iconst 0, 1) := by decide +kernel
theorem dX5_held_35 : decode cX5_held 35 = .ok (.ireturn, 1) := by decide +kernel
theorem dX6_init_0 : decode cX6_init 0 = .ok (.aload_n 0, 1) := by decide +kernel
theorem dX6_init_1 : decode cX6_init 1 = .ok (.invokespecial 3, 3) := by decide +kernel
theorem dX6_init_4 : decode cX6_init 4 = .ok (.aload_n 0, 1) := by decide +kernel
theorem dX6_init_5 : decode cX6_init 5 = .ok (.lconst 0, 1) := by decide +kernel
theorem dX6_init_6 : decode cX6_init 6 = .ok (.putfield 9, 3) := by decide +kernel
theorem dX6_init_9 : decode cX6_init 9 = .ok (.aload_n 0, 1) := by decide +kernel
theorem dX6_init_10 : decode cX6_init 10 = .ok (.lconst 0, 1) := by decide +kernel
theorem dX6_init_11 : decode cX6_init 11 = .ok (.putfield 15, 3) := by decide +kernel
theorem dX6_init_14 : decode cX6_init 14 = .ok (.aload_n 0, 1) := by decide +kernel
theorem dX6_init_15 : decode cX6_init 15 = .ok (.lconst 0, 1) := by decide +kernel
theorem dX6_init_16 : decode cX6_init 16 = .ok (.putfield 18, 3) := by decide +kernel
theorem dX6_init_19 : decode cX6_init 19 = .ok (.aload_n 0, 1) := by decide +kernel
theorem dX6_init_20 : decode cX6_init 20 = .ok (.lconst 0, 1) := by decide +kernel
theorem dX6_init_21 : decode cX6_init 21 = .ok (.putfield 21, 3) := by decide +kernel
theorem dX6_init_24 : decode cX6_init 24 = .ok (.aload_n 0, 1) := by decide +kernel
theorem dX6_init_25 : decode cX6_init 25 = .ok (.iconst 4, 1) := by decide +kernel
theorem dX6_init_26 : decode cX6_init 26 = .ok (.newarray .long, 2) := by decide +kernel
theorem dX6_init_28 : decode cX6_init 28 = .ok (.putfield 24, 3) := by decide +kernel
theorem dX6_init_31 : decode cX6_init 31 = .ok (.aload_n 0, 1) := by decide +kernel
theorem dX6_init_32 : decode cX6_init 32 = .ok (.bipush 20, 2) := by decide +kernel
theorem dX6_init_34 : decode cX6_init 34 = .ok (.newarray .long, 2) := by decide +kernel
theorem dX6_init_36 : decode cX6_init 36 = .ok (.putfield 28, 3) := by decide +kernel
theorem dX6_init_39 : decode cX6_init 39 = .ok (.aload_n 0, 1) := by decide +kernel
theorem dX6_init_40 : decode cX6_init 40 = .ok (.bipush 20, 2) := by decide +kernel
theorem dX6_init_42 : decode cX6_init 42 = .ok (.newarray .long, 2) := by decide +kernel
theorem dX6_init_44 : decode cX6_init 44 = .ok (.putfield 31, 3) := by decide +kernel
theorem dX6_init_47 : decode cX6_init 47 = .ok (.return_, 1) := by decide +kernel
theorem dX6_clear_0 : decode cX6_clear 0 = .ok (.aload_n 0, 1) := by decide +kernel
theorem dX6_clear_1 : decode cX6_clear 1 = .ok (.lconst 0, 1) := by decide +kernel
theorem dX6_clear_2 : decode cX6_clear 2 = .ok (.putfield 9, 3) := by decide +kernel
theorem dX6_clear_5 : decode cX6_clear 5 = .ok (.aload_n 0, 1) := by decide +kernel
theorem dX6_clear_6 : decode cX6_clear 6 = .ok (.lconst 0, 1) := by decide +kernel
theorem dX6_clear_7 : decode cX6_clear 7 = .ok (.putfield 15, 3) := by decide +kernel
theorem dX6_clear_10 : decode cX6_clear 10 = .ok (.aload_n 0, 1) := by decide +kernel
theorem dX6_clear_11 : decode cX6_clear 11 = .ok (.lconst 0, 1) := by decide +kernel
theorem dX6_clear_12 : decode cX6_clear 12 = .ok (.putfield 18, 3) := by decide +kernel
theorem dX6_clear_15 : decode cX6_clear 15 = .ok (.aload_n 0, 1) := by decide +kernel
theorem dX6_clear_16 : decode cX6_clear 16 = .ok (.lconst 0, 1) := by decide +kernel
theorem dX6_clear_17 : decode cX6_clear 17 = .ok (.putfield 21, 3) := by decide +kernel
theorem dX6_clear_20 : decode cX6_clear 20 = .ok (.iconst 0, 1) := by decide +kernel
theorem dX6_clear_21 : decode cX6_clear 21 = .ok (.istore_n 1, 1) := by decide +kernel
theorem dX6_clear_22 : decode cX6_clear 22 = .ok (.iload_n 1, 1) := by decide +kernel
theorem dX6_clear_23 : decode cX6_clear 23 = .ok (.iconst 4, 1) := by decide +kernel
theorem dX6_clear_24 : decode cX6_clear 24 = .ok (.if_icmp .ge 16, 3) := by decide +kernel
theorem dX6_clear_27 : decode cX6_clear 27 = .ok (.aload_n 0, 1) := by decide +kernel
theorem dX6_clear_28 : decode cX6_clear 28 = .ok (.getfield 24, 3) := by decide +kernel
theorem dX6_clear_31 : decode cX6_clear 31 = .ok (.iload_n 1, 1) := by decide +kernel
theorem dX6_clear_32 : decode cX6_clear 32 = .ok (.lconst 0, 1) := by decide +kernel
theorem dX6_clear_33 : decode cX6_clear 33 = .ok (.lastore, 1) := by decide +kernel
theorem dX6_clear_34 : decode cX6_clear 34 = .ok (.iinc 1 1, 3) := by decide +kernel
theorem dX6_clear_37 : decode cX6_clear 37 = .ok (.goto (-15), 3) := by decide +kernel
theorem dX6_clear_40 : decode cX6_clear 40 = .ok (.iconst 0, 1) := by decide +kernel
theorem dX6_clear_41 : decode cX6_clear 41 = .ok (.istore_n 1, 1) := by decide +kernel
theorem dX6_clear_42 : decode cX6_clear 42 = .ok (.iload_n 1, 1) := by decide +kernel
theorem dX6_clear_43 : decode cX6_clear 43 = .ok (.bipush 20, 2) := by decide +kernel
theorem dX6_clear_45 : decode cX6_clear 45 = .ok (.if_icmp .ge 23, 3) := by decide +kernel
theorem dX6_clear_48 : decode cX6_clear 48 = .ok (.aload_n 0, 1) := by decide +kernel
theorem dX6_clear_49 : decode cX6_clear 49 = .ok (.getfield 28, 3) := by decide +kernel
theorem dX6_clear_52 : decode cX6_clear 52 = .ok (.iload_n 1, 1) := by decide +kernel
theorem dX6_clear_53 : decode cX6_clear 53 = .ok (.lconst 0, 1) := by decide +kernel
theorem dX6_clear_54 : decode cX6_clear 54 = .ok (.lastore, 1) := by decide +kernel
theorem dX6_clear_55 : decode cX6_clear 55 = .ok (.aload_n 0, 1) := by decide +kernel
theorem dX6_clear_56 : decode cX6_clear 56 = .ok (.getfield 31, 3) := by decide +kernel
theorem dX6_clear_59 : decode cX6_clear 59 = .ok (.iload_n 1, 1) := by decide +kernel
theorem dX6_clear_60 : decode cX6_clear 60 = .ok (.lconst 0, 1) := by decide +kernel
theorem dX6_clear_61 : decode cX6_clear 61 = .ok (.lastore, 1) := by decide +kernel
theorem dX6_clear_62 : decode cX6_clear 62 = .ok (.iinc 1 1, 3) := by decide +kernel
theorem dX6_clear_65 : decode cX6_clear 65 = .ok (.goto (-23), 3) := by decide +kernel
theorem dX6_clear_68 : decode cX6_clear 68 = .ok (.return_, 1) := by decide +kernel
theorem dX6_add_0 : decode cX6_add 0 = .ok (.aload_n 1, 1) := by decide +kernel
theorem dX6_add_1 : decode cX6_add 1 = .ok (.aload_n 2, 1) := by decide +kernel
theorem dX6_add_2 : decode cX6_add 2 = .ok (.iload_n 3, 1) := by decide +kernel
theorem dX6_add_3 : decode cX6_add 3 = .ok (.aload_n 2, 1) := by decide +kernel
theorem dX6_add_4 : decode cX6_add 4 = .ok (.getfield 34, 3) := by decide +kernel
theorem dX6_add_7 : decode cX6_add 7 = .ok (.invokevirtual 40, 3) := by decide +kernel
theorem dX6_add_10 : decode cX6_add 10 = .ok (.istore 4, 2) := by decide +kernel
theorem dX6_add_12 : decode cX6_add 12 = .ok (.iconst 0, 1) := by decide +kernel
theorem dX6_add_13 : decode cX6_add 13 = .ok (.istore 5, 2) := by decide +kernel
theorem dX6_add_15 : decode cX6_add 15 = .ok (.iload 5, 2) := by decide +kernel
theorem dX6_add_17 : decode cX6_add 17 = .ok (.iload 4, 2) := by decide +kernel
theorem dX6_add_19 : decode cX6_add 19 = .ok (.if_icmp .ge 31, 3) := by decide +kernel
theorem dX6_add_22 : decode cX6_add 22 = .ok (.aload_n 0, 1) := by decide +kernel
theorem dX6_add_23 : decode cX6_add 23 = .ok (.aload_n 1, 1) := by decide +kernel
theorem dX6_add_24 : decode cX6_add 24 = .ok (.aload_n 2, 1) := by decide +kernel
theorem dX6_add_25 : decode cX6_add 25 = .ok (.getfield 46, 3) := by decide +kernel
theorem dX6_add_28 : decode cX6_add 28 = .ok (.iconst 2, 1) := by decide +kernel
theorem dX6_add_29 : decode cX6_add 29 = .ok (.if_icmp .ne 7, 3) := by decide +kernel
theorem dX6_add_32 : decode cX6_add 32 = .ok (.iconst 1, 1) := by decide +kernel
theorem dX6_add_33 : decode cX6_add 33 = .ok (.goto 4, 3) := by decide +kernel
theorem dX6_add_36 : decode cX6_add 36 = .ok (.iconst 0, 1) := by decide +kernel
theorem dX6_add_37 : decode cX6_add 37 = .ok (.invokevirtual 49, 3) := by decide +kernel
theorem dX6_add_40 : decode cX6_add 40 = .ok (.aload_n 1, 1) := by decide +kernel
theorem dX6_add_41 : decode cX6_add 41 = .ok (.invokevirtual 53, 3) := by decide +kernel
theorem dX6_add_44 : decode cX6_add 44 = .ok (.iinc 5 1, 3) := by decide +kernel
theorem dX6_add_47 : decode cX6_add 47 = .ok (.goto (-32), 3) := by decide +kernel
theorem dX6_add_50 : decode cX6_add 50 = .ok (.return_, 1) := by decide +kernel
theorem dX6_addCases_0 : decode cX6_addCases 0 = .ok (.aload_n 0, 1) := by decide +kernel
theorem dX6_addCases_1 : decode cX6_addCases 1 = .ok (.dup, 1) := by decide +kernel
theorem dX6_addCases_2 : decode cX6_addCases 2 = .ok (.getfield 9, 3) := by decide +kernel
theorem dX6_addCases_5 : decode cX6_addCases 5 = .ok (.ldc2_w 56, 3) := by decide +kernel
theorem dX6_addCases_8 : decode cX6_addCases 8 = .ok (.aload_n 1, 1) := by decide +kernel
theorem dX6_addCases_9 : decode cX6_addCases 9 = .ok (.getfield 58, 3) := by decide +kernel
theorem dX6_addCases_12 : decode cX6_addCases 12 = .ok (.lmul, 1) := by decide +kernel
theorem dX6_addCases_13 : decode cX6_addCases 13 = .ok (.ladd, 1) := by decide +kernel
theorem dX6_addCases_14 : decode cX6_addCases 14 = .ok (.putfield 9, 3) := by decide +kernel
theorem dX6_addCases_17 : decode cX6_addCases 17 = .ok (.aload_n 1, 1) := by decide +kernel
theorem dX6_addCases_18 : decode cX6_addCases 18 = .ok (.getfield 61, 3) := by decide +kernel
theorem dX6_addCases_21 : decode cX6_addCases 21 = .ok (.ifCond .ne 21, 3) := by decide +kernel
theorem dX6_addCases_24 : decode cX6_addCases 24 = .ok (.aload_n 0, 1) := by decide +kernel
theorem dX6_addCases_25 : decode cX6_addCases 25 = .ok (.dup, 1) := by decide +kernel
theorem dX6_addCases_26 : decode cX6_addCases 26 = .ok (.getfield 21, 3) := by decide +kernel
theorem dX6_addCases_29 : decode cX6_addCases 29 = .ok (.ldc2_w 56, 3) := by decide +kernel
theorem dX6_addCases_32 : decode cX6_addCases 32 = .ok (.aload_n 1, 1) := by decide +kernel
theorem dX6_addCases_33 : decode cX6_addCases 33 = .ok (.getfield 58, 3) := by decide +kernel
theorem dX6_addCases_36 : decode cX6_addCases 36 = .ok (.lmul, 1) := by decide +kernel
theorem dX6_addCases_37 : decode cX6_addCases 37 = .ok (.ladd, 1) := by decide +kernel
theorem dX6_addCases_38 : decode cX6_addCases 38 = .ok (.putfield 21, 3) := by decide +kernel
theorem dX6_addCases_41 : decode cX6_addCases 41 = .ok (.return_, 1) := by decide +kernel
theorem dX6_addCases_42 : decode cX6_addCases 42 = .ok (.aload_n 1, 1) := by decide +kernel
theorem dX6_addCases_43 : decode cX6_addCases 43 = .ok (.invokevirtual 64, 3) := by decide +kernel
theorem dX6_addCases_46 : decode cX6_addCases 46 = .ok (.istore_n 3, 1) := by decide +kernel
theorem dX6_addCases_47 : decode cX6_addCases 47 = .ok (.aload_n 0, 1) := by decide +kernel
theorem dX6_addCases_48 : decode cX6_addCases 48 = .ok (.dup, 1) := by decide +kernel
theorem dX6_addCases_49 : decode cX6_addCases 49 = .ok (.getfield 15, 3) := by decide +kernel
theorem dX6_addCases_52 : decode cX6_addCases 52 = .ok (.ldc2_w 56, 3) := by decide +kernel
theorem dX6_addCases_55 : decode cX6_addCases 55 = .ok (.aload_n 1, 1) := by decide +kernel
theorem dX6_addCases_56 : decode cX6_addCases 56 = .ok (.getfield 58, 3) := by decide +kernel
theorem dX6_addCases_59 : decode cX6_addCases 59 = .ok (.lmul, 1) := by decide +kernel
theorem dX6_addCases_60 : decode cX6_addCases 60 = .ok (.iload_n 2, 1) := by decide +kernel
theorem dX6_addCases_61 : decode cX6_addCases 61 = .ok (.ifCond .eq 10, 3) := by decide +kernel
theorem dX6_addCases_64 : decode cX6_addCases 64 = .ok (.aload_n 1, 1) := by decide +kernel
theorem dX6_addCases_65 : decode cX6_addCases 65 = .ok (.getfield 68, 3) := by decide +kernel
theorem dX6_addCases_68 : decode cX6_addCases 68 = .ok (.goto 4, 3) := by decide +kernel
theorem dX6_addCases_71 : decode cX6_addCases 71 = .ok (.iload_n 3, 1) := by decide +kernel
theorem dX6_addCases_72 : decode cX6_addCases 72 = .ok (.i2l, 1) := by decide +kernel
theorem dX6_addCases_73 : decode cX6_addCases 73 = .ok (.lmul, 1) := by decide +kernel
theorem dX6_addCases_74 : decode cX6_addCases 74 = .ok (.ladd, 1) := by decide +kernel
theorem dX6_addCases_75 : decode cX6_addCases 75 = .ok (.putfield 15, 3) := by decide +kernel
theorem dX6_addCases_78 : decode cX6_addCases 78 = .ok (.aload_n 0, 1) := by decide +kernel
theorem dX6_addCases_79 : decode cX6_addCases 79 = .ok (.dup, 1) := by decide +kernel
theorem dX6_addCases_80 : decode cX6_addCases 80 = .ok (.getfield 18, 3) := by decide +kernel
theorem dX6_addCases_83 : decode cX6_addCases 83 = .ok (.ldc2_w 56, 3) := by decide +kernel
theorem dX6_addCases_86 : decode cX6_addCases 86 = .ok (.aload_n 1, 1) := by decide +kernel
theorem dX6_addCases_87 : decode cX6_addCases 87 = .ok (.iload_n 3, 1) := by decide +kernel
theorem dX6_addCases_88 : decode cX6_addCases 88 = .ok (.invokevirtual 71, 3) := by decide +kernel
theorem dX6_addCases_91 : decode cX6_addCases 91 = .ok (.lmul, 1) := by decide +kernel
theorem dX6_addCases_92 : decode cX6_addCases 92 = .ok (.ladd, 1) := by decide +kernel
theorem dX6_addCases_93 : decode cX6_addCases 93 = .ok (.putfield 18, 3) := by decide +kernel
theorem dX6_addCases_96 : decode cX6_addCases 96 = .ok (.bipush 12, 2) := by decide +kernel
theorem dX6_addCases_98 : decode cX6_addCases 98 = .ok (.aload_n 1, 1) := by decide +kernel
theorem dX6_addCases_99 : decode cX6_addCases 99 = .ok (.getfield 61, 3) := by decide +kernel
theorem dX6_addCases_102 : decode cX6_addCases 102 = .ok (.idiv, 1) := by decide +kernel
theorem dX6_addCases_103 : decode cX6_addCases 103 = .ok (.i2l, 1) := by decide +kernel
theorem dX6_addCases_104 : decode cX6_addCases 104 = .ok (.lstore 4, 2) := by decide +kernel
theorem dX6_addCases_106 : decode cX6_addCases 106 = .ok (.iconst 0, 1) := by decide +kernel
theorem dX6_addCases_107 : decode cX6_addCases 107 = .ok (.istore 6, 2) := by decide +kernel
theorem dX6_addCases_109 : decode cX6_addCases 109 = .ok (.iload 6, 2) := by decide +kernel
theorem dX6_addCases_111 : decode cX6_addCases 111 = .ok (.aload_n 1, 1) := by decide +kernel
theorem dX6_addCases_112 : decode cX6_addCases 112 = .ok (.getfield 75, 3) := by decide +kernel
theorem dX6_addCases_115 : decode cX6_addCases 115 = .ok (.if_icmp .ge 114, 3) := by decide +kernel
theorem dX6_addCases_118 : decode cX6_addCases 118 = .ok (.aload_n 1, 1) := by decide +kernel
theorem dX6_addCases_119 : decode cX6_addCases 119 = .ok (.iload 6, 2) := by decide +kernel
theorem dX6_addCases_121 : decode cX6_addCases 121 = .ok (.invokevirtual 78, 3) := by decide +kernel
theorem dX6_addCases_124 : decode cX6_addCases 124 = .ok (.istore 7, 2) := by decide +kernel
theorem dX6_addCases_126 : decode cX6_addCases 126 = .ok (.iload 7, 2) := by decide +kernel
theorem dX6_addCases_128 : decode cX6_addCases 128 = .ok (.aload_n 1, 1) := by decide +kernel
theorem dX6_addCases_129 : decode cX6_addCases 129 = .ok (.getfield 82, 3) := by decide +kernel
theorem dX6_addCases_132 : decode cX6_addCases 132 = .ok (.if_icmp .ne 68, 3) := by decide +kernel
theorem dX6_addCases_135 : decode cX6_addCases 135 = .ok (.iload 6, 2) := by decide +kernel
theorem dX6_addCases_137 : decode cX6_addCases 137 = .ok (.iconst 5, 1) := by decide +kernel
theorem dX6_addCases_138 : decode cX6_addCases 138 = .ok (.imul, 1) := by decide +kernel
theorem dX6_addCases_139 : decode cX6_addCases 139 = .ok (.aload_n 1, 1) := by decide +kernel
theorem dX6_addCases_140 : decode cX6_addCases 140 = .ok (.getfield 85, 3) := by decide +kernel
theorem dX6_addCases_143 : decode cX6_addCases 143 = .ok (.iload 6, 2) := by decide +kernel
theorem dX6_addCases_145 : decode cX6_addCases 145 = .ok (.iaload, 1) := by decide +kernel
theorem dX6_addCases_146 : decode cX6_addCases 146 = .ok (.iadd, 1) := by decide +kernel
theorem dX6_addCases_147 : decode cX6_addCases 147 = .ok (.istore 8, 2) := by decide +kernel
theorem dX6_addCases_149 : decode cX6_addCases 149 = .ok (.aload_n 0, 1) := by decide +kernel
theorem dX6_addCases_150 : decode cX6_addCases 150 = .ok (.getfield 28, 3) := by decide +kernel
theorem dX6_addCases_153 : decode cX6_addCases 153 = .ok (.iload 8, 2) := by decide +kernel
theorem dX6_addCases_155 : decode cX6_addCases 155 = .ok (.dup2, 1) := by decide +kernel
theorem dX6_addCases_156 : decode cX6_addCases 156 = .ok (.laload, 1) := by decide +kernel
theorem dX6_addCases_157 : decode cX6_addCases 157 = .ok (.lload 4, 2) := by decide +kernel
theorem dX6_addCases_159 : decode cX6_addCases 159 = .ok (.aload_n 1, 1) := by decide +kernel
theorem dX6_addCases_160 : decode cX6_addCases 160 = .ok (.getfield 89, 3) := by decide +kernel
theorem dX6_addCases_163 : decode cX6_addCases 163 = .ok (.lmul, 1) := by decide +kernel
theorem dX6_addCases_164 : decode cX6_addCases 164 = .ok (.ladd, 1) := by decide +kernel
theorem dX6_addCases_165 : decode cX6_addCases 165 = .ok (.lastore, 1) := by decide +kernel
theorem dX6_addCases_166 : decode cX6_addCases 166 = .ok (.aload_n 0, 1) := by decide +kernel
theorem dX6_addCases_167 : decode cX6_addCases 167 = .ok (.getfield 31, 3) := by decide +kernel
theorem dX6_addCases_170 : decode cX6_addCases 170 = .ok (.iload 8, 2) := by decide +kernel
theorem dX6_addCases_172 : decode cX6_addCases 172 = .ok (.dup2, 1) := by decide +kernel
theorem dX6_addCases_173 : decode cX6_addCases 173 = .ok (.laload, 1) := by decide +kernel
theorem dX6_addCases_174 : decode cX6_addCases 174 = .ok (.lload 4, 2) := by decide +kernel
theorem dX6_addCases_176 : decode cX6_addCases 176 = .ok (.aload_n 1, 1) := by decide +kernel
theorem dX6_addCases_177 : decode cX6_addCases 177 = .ok (.getfield 58, 3) := by decide +kernel
theorem dX6_addCases_180 : decode cX6_addCases 180 = .ok (.lmul, 1) := by decide +kernel
theorem dX6_addCases_181 : decode cX6_addCases 181 = .ok (.ladd, 1) := by decide +kernel
theorem dX6_addCases_182 : decode cX6_addCases 182 = .ok (.lastore, 1) := by decide +kernel
theorem dX6_addCases_183 : decode cX6_addCases 183 = .ok (.aload_n 0, 1) := by decide +kernel
theorem dX6_addCases_184 : decode cX6_addCases 184 = .ok (.getfield 24, 3) := by decide +kernel
theorem dX6_addCases_187 : decode cX6_addCases 187 = .ok (.iload 6, 2) := by decide +kernel
theorem dX6_addCases_189 : decode cX6_addCases 189 = .ok (.dup2, 1) := by decide +kernel
theorem dX6_addCases_190 : decode cX6_addCases 190 = .ok (.laload, 1) := by decide +kernel
theorem dX6_addCases_191 : decode cX6_addCases 191 = .ok (.lload 4, 2) := by decide +kernel
theorem dX6_addCases_193 : decode cX6_addCases 193 = .ok (.aload_n 1, 1) := by decide +kernel
theorem dX6_addCases_194 : decode cX6_addCases 194 = .ok (.getfield 89, 3) := by decide +kernel
theorem dX6_addCases_197 : decode cX6_addCases 197 = .ok (.lmul, 1) := by decide +kernel
theorem dX6_addCases_198 : decode cX6_addCases 198 = .ok (.ladd, 1) := by decide +kernel
theorem dX6_addCases_199 : decode cX6_addCases 199 = .ok (.lastore, 1) := by decide +kernel
theorem dX6_addCases_200 : decode cX6_addCases 200 = .ok (.aload_n 0, 1) := by decide +kernel
theorem dX6_addCases_201 : decode cX6_addCases 201 = .ok (.getfield 24, 3) := by decide +kernel
theorem dX6_addCases_204 : decode cX6_addCases 204 = .ok (.iload 6, 2) := by decide +kernel
theorem dX6_addCases_206 : decode cX6_addCases 206 = .ok (.dup2, 1) := by decide +kernel
theorem dX6_addCases_207 : decode cX6_addCases 207 = .ok (.laload, 1) := by decide +kernel
theorem dX6_addCases_208 : decode cX6_addCases 208 = .ok (.aload_n 1, 1) := by decide +kernel
theorem dX6_addCases_209 : decode cX6_addCases 209 = .ok (.getfield 58, 3) := by decide +kernel
theorem dX6_addCases_212 : decode cX6_addCases 212 = .ok (.aload_n 1, 1) := by decide +kernel
theorem dX6_addCases_213 : decode cX6_addCases 213 = .ok (.iload 7, 2) := by decide +kernel
theorem dX6_addCases_215 : decode cX6_addCases 215 = .ok (.iload_n 3, 1) := by decide +kernel
theorem dX6_addCases_216 : decode cX6_addCases 216 = .ok (.iload_n 2, 1) := by decide +kernel
theorem dX6_addCases_217 : decode cX6_addCases 217 = .ok (.invokestatic 92, 3) := by decide +kernel
theorem dX6_addCases_220 : decode cX6_addCases 220 = .ok (.lmul, 1) := by decide +kernel
theorem dX6_addCases_221 : decode cX6_addCases 221 = .ok (.lsub, 1) := by decide +kernel
theorem dX6_addCases_222 : decode cX6_addCases 222 = .ok (.lastore, 1) := by decide +kernel
theorem dX6_addCases_223 : decode cX6_addCases 223 = .ok (.iinc 6 1, 3) := by decide +kernel
theorem dX6_addCases_226 : decode cX6_addCases 226 = .ok (.goto (-117), 3) := by decide +kernel
theorem dX6_addCases_229 : decode cX6_addCases 229 = .ok (.return_, 1) := by decide +kernel
theorem dX6_paidBy_0 : decode cX6_paidBy 0 = .ok (.iload_n 3, 1) := by decide +kernel
theorem dX6_paidBy_1 : decode cX6_paidBy 1 = .ok (.ifCond .eq 21, 3) := by decide +kernel
theorem dX6_paidBy_4 : decode cX6_paidBy 4 = .ok (.iload_n 1, 1) := by decide +kernel
theorem dX6_paidBy_5 : decode cX6_paidBy 5 = .ok (.aload_n 0, 1) := by decide +kernel
theorem dX6_paidBy_6 : decode cX6_paidBy 6 = .ok (.getfield 96, 3) := by decide +kernel
theorem dX6_paidBy_9 : decode cX6_paidBy 9 = .ok (.if_icmp .lt 11, 3) := by decide +kernel
theorem dX6_paidBy_12 : decode cX6_paidBy 12 = .ok (.bipush 12, 2) := by decide +kernel
theorem dX6_paidBy_14 : decode cX6_paidBy 14 = .ok (.iload_n 1, 1) := by decide +kernel
theorem dX6_paidBy_15 : decode cX6_paidBy 15 = .ok (.imul, 1) := by decide +kernel
theorem dX6_paidBy_16 : decode cX6_paidBy 16 = .ok (.i2l, 1) := by decide +kernel
theorem dX6_paidBy_17 : decode cX6_paidBy 17 = .ok (.goto 4, 3) := by decide +kernel
theorem dX6_paidBy_20 : decode cX6_paidBy 20 = .ok (.lconst 0, 1) := by decide +kernel
theorem dX6_paidBy_21 : decode cX6_paidBy 21 = .ok (.lreturn, 1) := by decide +kernel
theorem dX6_paidBy_22 : decode cX6_paidBy 22 = .ok (.iload_n 1, 1) := by decide +kernel
theorem dX6_paidBy_23 : decode cX6_paidBy 23 = .ok (.aload_n 0, 1) := by decide +kernel
theorem dX6_paidBy_24 : decode cX6_paidBy 24 = .ok (.getfield 82, 3) := by decide +kernel
theorem dX6_paidBy_27 : decode cX6_paidBy 27 = .ok (.if_icmp .ne 23, 3) := by decide +kernel
theorem dX6_paidBy_30 : decode cX6_paidBy 30 = .ok (.aload_n 0, 1) := by decide +kernel
theorem dX6_paidBy_31 : decode cX6_paidBy 31 = .ok (.getfield 61, 3) := by decide +kernel
theorem dX6_paidBy_34 : decode cX6_paidBy 34 = .ok (.ifCond .le 16, 3) := by decide +kernel
theorem dX6_paidBy_37 : decode cX6_paidBy 37 = .ok (.bipush 12, 2) := by decide +kernel
theorem dX6_paidBy_39 : decode cX6_paidBy 39 = .ok (.aload_n 0, 1) := by decide +kernel
theorem dX6_paidBy_40 : decode cX6_paidBy 40 = .ok (.getfield 61, 3) := by decide +kernel
theorem dX6_paidBy_43 : decode cX6_paidBy 43 = .ok (.idiv, 1) := by decide +kernel
theorem dX6_paidBy_44 : decode cX6_paidBy 44 = .ok (.iload_n 2, 1) := by decide +kernel
theorem dX6_paidBy_45 : decode cX6_paidBy 45 = .ok (.imul, 1) := by decide +kernel
theorem dX6_paidBy_46 : decode cX6_paidBy 46 = .ok (.i2l, 1) := by decide +kernel
theorem dX6_paidBy_47 : decode cX6_paidBy 47 = .ok (.goto 4, 3) := by decide +kernel
theorem dX6_paidBy_50 : decode cX6_paidBy 50 = .ok (.lconst 0, 1) := by decide +kernel
theorem dX6_paidBy_51 : decode cX6_paidBy 51 = .ok (.lreturn, 1) := by decide +kernel
theorem dX7_init_0 : decode cX7_init 0 = .ok (.aload_n 0, 1) := by decide +kernel
theorem dX7_init_1 : decode cX7_init 1 = .ok (.invokespecial 3, 3) := by decide +kernel
theorem dX7_init_4 : decode cX7_init 4 = .ok (.aload_n 0, 1) := by decide +kernel
theorem dX7_init_5 : decode cX7_init 5 = .ok (.sipush 240, 3) := by decide +kernel
theorem dX7_init_8 : decode cX7_init 8 = .ok (.newarray .int, 2) := by decide +kernel
theorem dX7_init_10 : decode cX7_init 10 = .ok (.putfield 9, 3) := by decide +kernel
theorem dX7_init_13 : decode cX7_init 13 = .ok (.aload_n 0, 1) := by decide +kernel
theorem dX7_init_14 : decode cX7_init 14 = .ok (.iconst 0, 1) := by decide +kernel
theorem dX7_init_15 : decode cX7_init 15 = .ok (.putfield 15, 3) := by decide +kernel
theorem dX7_init_18 : decode cX7_init 18 = .ok (.aload_n 0, 1) := by decide +kernel
theorem dX7_init_19 : decode cX7_init 19 = .ok (.new 19, 3) := by decide +kernel
theorem dX7_init_22 : decode cX7_init 22 = .ok (.dup, 1) := by decide +kernel
theorem dX7_init_23 : decode cX7_init 23 = .ok (.invokespecial 21, 3) := by decide +kernel
theorem dX7_init_26 : decode cX7_init 26 = .ok (.putfield 22, 3) := by decide +kernel
theorem dX7_init_29 : decode cX7_init 29 = .ok (.aload_n 0, 1) := by decide +kernel
theorem dX7_init_30 : decode cX7_init 30 = .ok (.iconst 0, 1) := by decide +kernel
theorem dX7_init_31 : decode cX7_init 31 = .ok (.putfield 26, 3) := by decide +kernel
theorem dX7_init_34 : decode cX7_init 34 = .ok (.aload_n 0, 1) := by decide +kernel
theorem dX7_init_35 : decode cX7_init 35 = .ok (.iconst (-1), 1) := by decide +kernel
theorem dX7_init_36 : decode cX7_init 36 = .ok (.putfield 29, 3) := by decide +kernel
theorem dX7_init_39 : decode cX7_init 39 = .ok (.return_, 1) := by decide +kernel
theorem dX7_bytesIn_0 : decode cX7_bytesIn 0 = .ok (.iconst 0, 1) := by decide +kernel
theorem dX7_bytesIn_1 : decode cX7_bytesIn 1 = .ok (.istore_n 1, 1) := by decide +kernel
theorem dX7_bytesIn_2 : decode cX7_bytesIn 2 = .ok (.bipush 24, 2) := by decide +kernel
theorem dX7_bytesIn_4 : decode cX7_bytesIn 4 = .ok (.istore_n 2, 1) := by decide +kernel
theorem dX7_bytesIn_5 : decode cX7_bytesIn 5 = .ok (.iload_n 2, 1) := by decide +kernel
theorem dX7_bytesIn_6 : decode cX7_bytesIn 6 = .ok (.ifCond .lt 22, 3) := by decide +kernel
theorem dX7_bytesIn_9 : decode cX7_bytesIn 9 = .ok (.iload_n 0, 1) := by decide +kernel
theorem dX7_bytesIn_10 : decode cX7_bytesIn 10 = .ok (.iload_n 2, 1) := by decide +kernel
theorem dX7_bytesIn_11 : decode cX7_bytesIn 11 = .ok (.iushr, 1) := by decide +kernel
theorem dX7_bytesIn_12 : decode cX7_bytesIn 12 = .ok (.sipush 255, 3) := by decide +kernel
theorem dX7_bytesIn_15 : decode cX7_bytesIn 15 = .ok (.iand, 1) := by decide +kernel
theorem dX7_bytesIn_16 : decode cX7_bytesIn 16 = .ok (.ifCond .eq 6, 3) := by decide +kernel
theorem dX7_bytesIn_19 : decode cX7_bytesIn 19 = .ok (.iinc 1 1, 3) := by decide +kernel
theorem dX7_bytesIn_22 : decode cX7_bytesIn 22 = .ok (.iinc 2 (-8), 3) := by decide +kernel
theorem dX7_bytesIn_25 : decode cX7_bytesIn 25 = .ok (.goto (-20), 3) := by decide +kernel
theorem dX7_bytesIn_28 : decode cX7_bytesIn 28 = .ok (.iload_n 1, 1) := by decide +kernel
theorem dX7_bytesIn_29 : decode cX7_bytesIn 29 = .ok (.ireturn, 1) := by decide +kernel
theorem dX7_put_0 : decode cX7_put 0 = .ok (.bipush 24, 2) := by decide +kernel
theorem dX7_put_2 : decode cX7_put 2 = .ok (.istore_n 2, 1) := by decide +kernel
theorem dX7_put_3 : decode cX7_put 3 = .ok (.iload_n 2, 1) := by decide +kernel
theorem dX7_put_4 : decode cX7_put 4 = .ok (.ifCond .lt 51, 3) := by decide +kernel
theorem dX7_put_7 : decode cX7_put 7 = .ok (.iload_n 1, 1) := by decide +kernel
theorem dX7_put_8 : decode cX7_put 8 = .ok (.iload_n 2, 1) := by decide +kernel
theorem dX7_put_9 : decode cX7_put 9 = .ok (.iushr, 1) := by decide +kernel
theorem dX7_put_10 : decode cX7_put 10 = .ok (.sipush 255, 3) := by decide +kernel
theorem dX7_put_13 : decode cX7_put 13 = .ok (.iand, 1) := by decide +kernel
theorem dX7_put_14 : decode cX7_put 14 = .ok (.istore_n 3, 1) := by decide +kernel
theorem dX7_put_15 : decode cX7_put 15 = .ok (.iload_n 3, 1) := by decide +kernel
theorem dX7_put_16 : decode cX7_put 16 = .ok (.ifCond .eq 33, 3) := by decide +kernel
theorem dX7_put_19 : decode cX7_put 19 = .ok (.aload_n 0, 1) := by decide +kernel
theorem dX7_put_20 : decode cX7_put 20 = .ok (.getfield 15, 3) := by decide +kernel
theorem dX7_put_23 : decode cX7_put 23 = .ok (.sipush 240, 3) := by decide +kernel
theorem dX7_put_26 : decode cX7_put 26 = .ok (.if_icmp .ge 23, 3) := by decide +kernel
theorem dX7_put_29 : decode cX7_put 29 = .ok (.aload_n 0, 1) := by decide +kernel
theorem dX7_put_30 : decode cX7_put 30 = .ok (.getfield 9, 3) := by decide +kernel
theorem dX7_put_33 : decode cX7_put 33 = .ok (.aload_n 0, 1) := by decide +kernel
theorem dX7_put_34 : decode cX7_put 34 = .ok (.getfield 15, 3) := by decide +kernel
theorem dX7_put_37 : decode cX7_put 37 = .ok (.iload_n 3, 1) := by decide +kernel
theorem dX7_put_38 : decode cX7_put 38 = .ok (.iastore, 1) := by decide +kernel
theorem dX7_put_39 : decode cX7_put 39 = .ok (.aload_n 0, 1) := by decide +kernel
theorem dX7_put_40 : decode cX7_put 40 = .ok (.dup, 1) := by decide +kernel
theorem dX7_put_41 : decode cX7_put 41 = .ok (.getfield 15, 3) := by decide +kernel
theorem dX7_put_44 : decode cX7_put 44 = .ok (.iconst 1, 1) := by decide +kernel
theorem dX7_put_45 : decode cX7_put 45 = .ok (.iadd, 1) := by decide +kernel
theorem dX7_put_46 : decode cX7_put 46 = .ok (.putfield 15, 3) := by decide +kernel
theorem dX7_put_49 : decode cX7_put 49 = .ok (.iinc 2 (-8), 3) := by decide +kernel
theorem dX7_put_52 : decode cX7_put 52 = .ok (.goto (-49), 3) := by decide +kernel
theorem dX7_put_55 : decode cX7_put 55 = .ok (.return_, 1) := by decide +kernel
theorem dX7_takeDraft_0 : decode cX7_takeDraft 0 = .ok (.aload_n 0, 1) := by decide +kernel
theorem dX7_takeDraft_1 : decode cX7_takeDraft 1 = .ok (.getfield 22, 3) := by decide +kernel
theorem dX7_takeDraft_4 : decode cX7_takeDraft 4 = .ok (.astore_n 1, 1) := by decide +kernel
theorem dX7_takeDraft_5 : decode cX7_takeDraft 5 = .ok (.aload_n 0, 1) := by decide +kernel
theorem dX7_takeDraft_6 : decode cX7_takeDraft 6 = .ok (.new 19, 3) := by decide +kernel
theorem dX7_takeDraft_9 : decode cX7_takeDraft 9 = .ok (.dup, 1) := by decide +kernel
theorem dX7_takeDraft_10 : decode cX7_takeDraft 10 = .ok (.invokespecial 21, 3) := by decide +kernel
theorem dX7_takeDraft_13 : decode cX7_takeDraft 13 = .ok (.putfield 22, 3) := by decide +kernel
theorem dX7_takeDraft_16 : decode cX7_takeDraft 16 = .ok (.aload_n 0, 1) := by decide +kernel
theorem dX7_takeDraft_17 : decode cX7_takeDraft 17 = .ok (.iconst 0, 1) := by decide +kernel
theorem dX7_takeDraft_18 : decode cX7_takeDraft 18 = .ok (.putfield 15, 3) := by decide +kernel
theorem dX7_takeDraft_21 : decode cX7_takeDraft 21 = .ok (.aload_n 1, 1) := by decide +kernel
theorem dX7_takeDraft_22 : decode cX7_takeDraft 22 = .ok (.areturn, 1) := by decide +kernel
theorem dX7_read_0 : decode cX7_read 0 = .ok (.aload_n 0, 1) := by decide +kernel
theorem dX7_read_1 : decode cX7_read 1 = .ok (.getfield 22, 3) := by decide +kernel
theorem dX7_read_4 : decode cX7_read 4 = .ok (.invokevirtual 32, 3) := by decide +kernel
theorem dX7_read_7 : decode cX7_read 7 = .ok (.aload_n 0, 1) := by decide +kernel
theorem dX7_read_8 : decode cX7_read 8 = .ok (.iconst 0, 1) := by decide +kernel
theorem dX7_read_9 : decode cX7_read 9 = .ok (.putfield 26, 3) := by decide +kernel
theorem dX7_read_12 : decode cX7_read 12 = .ok (.aload_n 0, 1) := by decide +kernel
theorem dX7_read_13 : decode cX7_read 13 = .ok (.iconst (-1), 1) := by decide +kernel
theorem dX7_read_14 : decode cX7_read 14 = .ok (.putfield 29, 3) := by decide +kernel
theorem dX7_read_17 : decode cX7_read 17 = .ok (.aload_n 0, 1) := by decide +kernel
theorem dX7_read_18 : decode cX7_read 18 = .ok (.invokevirtual 35, 3) := by decide +kernel
theorem dX7_read_21 : decode cX7_read 21 = .ok (.aload_n 0, 1) := by decide +kernel
theorem dX7_read_22 : decode cX7_read 22 = .ok (.invokevirtual 38, 3) := by decide +kernel
theorem dX7_read_25 : decode cX7_read 25 = .ok (.bipush 115, 2) := by decide +kernel
theorem dX7_read_27 : decode cX7_read 27 = .ok (.if_icmp .eq 8, 3) := by decide +kernel
theorem dX7_read_30 : decode cX7_read 30 = .ok (.aload_n 0, 1) := by decide +kernel
theorem dX7_read_31 : decode cX7_read 31 = .ok (.getfield 26, 3) := by decide +kernel
theorem dX7_read_34 : decode cX7_read 34 = .ok (.ireturn, 1) := by decide +kernel
theorem dX7_read_35 : decode cX7_read 35 = .ok (.aload_n 0, 1) := by decide +kernel
theorem dX7_read_36 : decode cX7_read 36 = .ok (.dup, 1) := by decide +kernel
theorem dX7_read_37 : decode cX7_read 37 = .ok (.getfield 26, 3) := by decide +kernel
theorem dX7_read_40 : decode cX7_read 40 = .ok (.iconst 1, 1) := by decide +kernel
theorem dX7_read_41 : decode cX7_read 41 = .ok (.iadd, 1) := by decide +kernel
theorem dX7_read_42 : decode cX7_read 42 = .ok (.putfield 26, 3) := by decide +kernel
theorem dX7_read_45 : decode cX7_read 45 = .ok (.aload_n 0, 1) := by decide +kernel
theorem dX7_read_46 : decode cX7_read 46 = .ok (.getfield 22, 3) := by decide +kernel
theorem dX7_read_49 : decode cX7_read 49 = .ok (.aload_n 0, 1) := by decide +kernel
theorem dX7_read_50 : decode cX7_read 50 = .ok (.iconst 2, 1) := by decide +kernel
theorem dX7_read_51 : decode cX7_read 51 = .ok (.iconst 5, 1) := by decide +kernel
theorem dX7_read_52 : decode cX7_read 52 = .ok (.invokevirtual 42, 3) := by decide +kernel
theorem dX7_read_55 : decode cX7_read 55 = .ok (.putfield 46, 3) := by decide +kernel
theorem dX7_read_58 : decode cX7_read 58 = .ok (.iconst 0, 1) := by decide +kernel
theorem dX7_read_59 : decode cX7_read 59 = .ok (.istore_n 1, 1) := by decide +kernel
theorem dX7_read_60 : decode cX7_read 60 = .ok (.iload_n 1, 1) := by decide +kernel
theorem dX7_read_61 : decode cX7_read 61 = .ok (.sipush 240, 3) := by decide +kernel
theorem dX7_read_64 : decode cX7_read 64 = .ok (.if_icmp .gt 79, 3) := by decide +kernel
theorem dX7_read_67 : decode cX7_read 67 = .ok (.aload_n 0, 1) := by decide +kernel
theorem dX7_read_68 : decode cX7_read 68 = .ok (.getfield 29, 3) := by decide +kernel
theorem dX7_read_71 : decode cX7_read 71 = .ok (.iconst (-1), 1) := by decide +kernel
theorem dX7_read_72 : decode cX7_read 72 = .ok (.if_icmp .ne 71, 3) := by decide +kernel
theorem dX7_read_75 : decode cX7_read 75 = .ok (.aload_n 0, 1) := by decide +kernel
theorem dX7_read_76 : decode cX7_read 76 = .ok (.invokevirtual 35, 3) := by decide +kernel
theorem dX7_read_79 : decode cX7_read 79 = .ok (.aload_n 0, 1) := by decide +kernel
theorem dX7_read_80 : decode cX7_read 80 = .ok (.getfield 26, 3) := by decide +kernel
theorem dX7_read_83 : decode cX7_read 83 = .ok (.aload_n 0, 1) := by decide +kernel
theorem dX7_read_84 : decode cX7_read 84 = .ok (.getfield 15, 3) := by decide +kernel
theorem dX7_read_87 : decode cX7_read 87 = .ok (.if_icmp .lt 22, 3) := by decide +kernel
theorem dX7_read_90 : decode cX7_read 90 = .ok (.aload_n 0, 1) := by decide +kernel
theorem dX7_read_91 : decode cX7_read 91 = .ok (.getfield 22, 3) := by decide +kernel
theorem dX7_read_94 : decode cX7_read 94 = .ok (.getfield 49, 3) := by decide +kernel
theorem dX7_read_97 : decode cX7_read 97 = .ok (.ifCond .le 7, 3) := by decide +kernel
theorem dX7_read_100 : decode cX7_read 100 = .ok (.iconst (-1), 1) := by decide +kernel
theorem dX7_read_101 : decode cX7_read 101 = .ok (.goto 7, 3) := by decide +kernel
theorem dX7_read_104 : decode cX7_read 104 = .ok (.aload_n 0, 1) := by decide +kernel
theorem dX7_read_105 : decode cX7_read 105 = .ok (.getfield 26, 3) := by decide +kernel
theorem dX7_read_108 : decode cX7_read 108 = .ok (.ireturn, 1) := by decide +kernel
theorem dX7_read_109 : decode cX7_read 109 = .ok (.aload_n 0, 1) := by decide +kernel
theorem dX7_read_110 : decode cX7_read 110 = .ok (.invokevirtual 38, 3) := by decide +kernel
theorem dX7_read_113 : decode cX7_read 113 = .ok (.bipush 59, 2) := by decide +kernel
theorem dX7_read_115 : decode cX7_read 115 = .ok (.if_icmp .eq 8, 3) := by decide +kernel
theorem dX7_read_118 : decode cX7_read 118 = .ok (.aload_n 0, 1) := by decide +kernel
theorem dX7_read_119 : decode cX7_read 119 = .ok (.getfield 26, 3) := by decide +kernel
theorem dX7_read_122 : decode cX7_read 122 = .ok (.ireturn, 1) := by decide +kernel
theorem dX7_read_123 : decode cX7_read 123 = .ok (.aload_n 0, 1) := by decide +kernel
theorem dX7_read_124 : decode cX7_read 124 = .ok (.dup, 1) := by decide +kernel
theorem dX7_read_125 : decode cX7_read 125 = .ok (.getfield 26, 3) := by decide +kernel
theorem dX7_read_128 : decode cX7_read 128 = .ok (.iconst 1, 1) := by decide +kernel
theorem dX7_read_129 : decode cX7_read 129 = .ok (.iadd, 1) := by decide +kernel
theorem dX7_read_130 : decode cX7_read 130 = .ok (.putfield 26, 3) := by decide +kernel
theorem dX7_read_133 : decode cX7_read 133 = .ok (.aload_n 0, 1) := by decide +kernel
theorem dX7_read_134 : decode cX7_read 134 = .ok (.invokevirtual 52, 3) := by decide +kernel
theorem dX7_read_137 : decode cX7_read 137 = .ok (.iinc 1 1, 3) := by decide +kernel
theorem dX7_read_140 : decode cX7_read 140 = .ok (.goto (-80), 3) := by decide +kernel
theorem dX7_read_143 : decode cX7_read 143 = .ok (.aload_n 0, 1) := by decide +kernel
theorem dX7_read_144 : decode cX7_read 144 = .ok (.getfield 29, 3) := by decide +kernel
theorem dX7_read_147 : decode cX7_read 147 = .ok (.ireturn, 1) := by decide +kernel
theorem dX7_look_0 : decode cX7_look 0 = .ok (.aload_n 0, 1) := by decide +kernel
theorem dX7_look_1 : decode cX7_look 1 = .ok (.getfield 26, 3) := by decide +kernel
theorem dX7_look_4 : decode cX7_look 4 = .ok (.aload_n 0, 1) := by decide +kernel
theorem dX7_look_5 : decode cX7_look 5 = .ok (.getfield 15, 3) := by decide +kernel
theorem dX7_look_8 : decode cX7_look 8 = .ok (.if_icmp .ge 25, 3) := by decide +kernel
theorem dX7_look_11 : decode cX7_look 11 = .ok (.aload_n 0, 1) := by decide +kernel
theorem dX7_look_12 : decode cX7_look 12 = .ok (.getfield 26, 3) := by decide +kernel
theorem dX7_look_15 : decode cX7_look 15 = .ok (.sipush 240, 3) := by decide +kernel
theorem dX7_look_18 : decode cX7_look 18 = .ok (.if_icmp .ge 15, 3) := by decide +kernel
theorem dX7_look_21 : decode cX7_look 21 = .ok (.aload_n 0, 1) := by decide +kernel
theorem dX7_look_22 : decode cX7_look 22 = .ok (.getfield 9, 3) := by decide +kernel
theorem dX7_look_25 : decode cX7_look 25 = .ok (.aload_n 0, 1) := by decide +kernel
theorem dX7_look_26 : decode cX7_look 26 = .ok (.getfield 26, 3) := by decide +kernel
theorem dX7_look_29 : decode cX7_look 29 = .ok (.iaload, 1) := by decide +kernel
theorem dX7_look_30 : decode cX7_look 30 = .ok (.goto 4, 3) := by decide +kernel
theorem dX7_look_33 : decode cX7_look 33 = .ok (.iconst (-1), 1) := by decide +kernel
theorem dX7_look_34 : decode cX7_look 34 = .ok (.ireturn, 1) := by decide +kernel
theorem dX7_skip_0 : decode cX7_skip 0 = .ok (.iconst 0, 1) := by decide +kernel
theorem dX7_skip_1 : decode cX7_skip 1 = .ok (.istore_n 1, 1) := by decide +kernel
theorem dX7_skip_2 : decode cX7_skip 2 = .ok (.iload_n 1, 1) := by decide +kernel
theorem dX7_skip_3 : decode cX7_skip 3 = .ok (.sipush 240, 3) := by decide +kernel
theorem dX7_skip_6 : decode cX7_skip 6 = .ok (.if_icmp .ge 28, 3) := by decide +kernel
theorem dX7_skip_9 : decode cX7_skip 9 = .ok (.aload_n 0, 1) := by decide +kernel
theorem dX7_skip_10 : decode cX7_skip 10 = .ok (.invokevirtual 38, 3) := by decide +kernel
theorem dX7_skip_13 : decode cX7_skip 13 = .ok (.bipush 32, 2) := by decide +kernel
theorem dX7_skip_15 : decode cX7_skip 15 = .ok (.if_icmp .ne 19, 3) := by decide +kernel
theorem dX7_skip_18 : decode cX7_skip 18 = .ok (.aload_n 0, 1) := by decide +kernel
theorem dX7_skip_19 : decode cX7_skip 19 = .ok (.dup, 1) := by decide +kernel
theorem dX7_skip_20 : decode cX7_skip 20 = .ok (.getfield 26, 3) := by decide +kernel
theorem dX7_skip_23 : decode cX7_skip 23 = .ok (.iconst 1, 1) := by decide +kernel
theorem dX7_skip_24 : decode cX7_skip 24 = .ok (.iadd, 1) := by decide +kernel
theorem dX7_skip_25 : decode cX7_skip 25 = .ok (.putfield 26, 3) := by decide +kernel
theorem dX7_skip_28 : decode cX7_skip 28 = .ok (.iinc 1 1, 3) := by decide +kernel
theorem dX7_skip_31 : decode cX7_skip 31 = .ok (.goto (-29), 3) := by decide +kernel
theorem dX7_skip_34 : decode cX7_skip 34 = .ok (.return_, 1) := by decide +kernel
theorem dX7_clause_0 : decode cX7_clause 0 = .ok (.aload_n 0, 1) := by decide +kernel
theorem dX7_clause_1 : decode cX7_clause 1 = .ok (.invokevirtual 35, 3) := by decide +kernel
theorem dX7_clause_4 : decode cX7_clause 4 = .ok (.aload_n 0, 1) := by decide +kernel
theorem dX7_clause_5 : decode cX7_clause 5 = .ok (.invokevirtual 38, 3) := by decide +kernel
theorem dX7_clause_8 : decode cX7_clause 8 = .ok (.istore_n 1, 1) := by decide +kernel
theorem dX7_clause_9 : decode cX7_clause 9 = .ok (.iload_n 1, 1) := by decide +kernel
theorem dX7_clause_10 : decode cX7_clause 10 = .ok (.bipush 116, 2) := by decide +kernel
theorem dX7_clause_12 : decode cX7_clause 12 = .ok (.if_icmp .ne 39, 3) := by decide +kernel
theorem dX7_clause_15 : decode cX7_clause 15 = .ok (.aload_n 0, 1) := by decide +kernel
theorem dX7_clause_16 : decode cX7_clause 16 = .ok (.getfield 22, 3) := by decide +kernel
theorem dX7_clause_19 : decode cX7_clause 19 = .ok (.getfield 49, 3) := by decide +kernel
theorem dX7_clause_22 : decode cX7_clause 22 = .ok (.bipush 8, 2) := by decide +kernel
theorem dX7_clause_24 : decode cX7_clause 24 = .ok (.if_icmp .ge 27, 3) := by decide +kernel
theorem dX7_clause_27 : decode cX7_clause 27 = .ok (.aload_n 0, 1) := by decide +kernel
theorem dX7_clause_28 : decode cX7_clause 28 = .ok (.dup, 1) := by decide +kernel
theorem dX7_clause_29 : decode cX7_clause 29 = .ok (.getfield 26, 3) := by decide +kernel
theorem dX7_clause_32 : decode cX7_clause 32 = .ok (.iconst 1, 1) := by decide +kernel
theorem dX7_clause_33 : decode cX7_clause 33 = .ok (.iadd, 1) := by decide +kernel
theorem dX7_clause_34 : decode cX7_clause 34 = .ok (.putfield 26, 3) := by decide +kernel
theorem dX7_clause_37 : decode cX7_clause 37 = .ok (.aload_n 0, 1) := by decide +kernel
theorem dX7_clause_38 : decode cX7_clause 38 = .ok (.aload_n 0, 1) := by decide +kernel
theorem dX7_clause_39 : decode cX7_clause 39 = .ok (.getfield 22, 3) := by decide +kernel
theorem dX7_clause_42 : decode cX7_clause 42 = .ok (.getfield 49, 3) := by decide +kernel
theorem dX7_clause_45 : decode cX7_clause 45 = .ok (.invokevirtual 55, 3) := by decide +kernel
theorem dX7_clause_48 : decode cX7_clause 48 = .ok (.goto 108, 3) := by decide +kernel
theorem dX7_clause_51 : decode cX7_clause 51 = .ok (.iload_n 1, 1) := by decide +kernel
theorem dX7_clause_52 : decode cX7_clause 52 = .ok (.bipush 110, 2) := by decide +kernel
theorem dX7_clause_54 : decode cX7_clause 54 = .ok (.if_icmp .ne 29, 3) := by decide +kernel
theorem dX7_clause_57 : decode cX7_clause 57 = .ok (.aload_n 0, 1) := by decide +kernel
theorem dX7_clause_58 : decode cX7_clause 58 = .ok (.dup, 1) := by decide +kernel
theorem dX7_clause_59 : decode cX7_clause 59 = .ok (.getfield 26, 3) := by decide +kernel
theorem dX7_clause_62 : decode cX7_clause 62 = .ok (.iconst 1, 1) := by decide +kernel
theorem dX7_clause_63 : decode cX7_clause 63 = .ok (.iadd, 1) := by decide +kernel
theorem dX7_clause_64 : decode cX7_clause 64 = .ok (.putfield 26, 3) := by decide +kernel
theorem dX7_clause_67 : decode cX7_clause 67 = .ok (.aload_n 0, 1) := by decide +kernel
theorem dX7_clause_68 : decode cX7_clause 68 = .ok (.getfield 22, 3) := by decide +kernel
theorem dX7_clause_71 : decode cX7_clause 71 = .ok (.aload_n 0, 1) := by decide +kernel
theorem dX7_clause_72 : decode cX7_clause 72 = .ok (.iconst 1, 1) := by decide +kernel
theorem dX7_clause_73 : decode cX7_clause 73 = .ok (.iconst 4, 1) := by decide +kernel
theorem dX7_clause_74 : decode cX7_clause 74 = .ok (.invokevirtual 42, 3) := by decide +kernel
theorem dX7_clause_77 : decode cX7_clause 77 = .ok (.putfield 59, 3) := by decide +kernel
theorem dX7_clause_80 : decode cX7_clause 80 = .ok (.goto 76, 3) := by decide +kernel
theorem dX7_clause_83 : decode cX7_clause 83 = .ok (.iload_n 1, 1) := by decide +kernel
theorem dX7_clause_84 : decode cX7_clause 84 = .ok (.bipush 108, 2) := by decide +kernel
theorem dX7_clause_86 : decode cX7_clause 86 = .ok (.if_icmp .ne 30, 3) := by decide +kernel
theorem dX7_clause_89 : decode cX7_clause 89 = .ok (.aload_n 0, 1) := by decide +kernel
theorem dX7_clause_90 : decode cX7_clause 90 = .ok (.dup, 1) := by decide +kernel
theorem dX7_clause_91 : decode cX7_clause 91 = .ok (.getfield 26, 3) := by decide +kernel
theorem dX7_clause_94 : decode cX7_clause 94 = .ok (.iconst 1, 1) := by decide +kernel
theorem dX7_clause_95 : decode cX7_clause 95 = .ok (.iadd, 1) := by decide +kernel
theorem dX7_clause_96 : decode cX7_clause 96 = .ok (.putfield 26, 3) := by decide +kernel
theorem dX7_clause_99 : decode cX7_clause 99 = .ok (.aload_n 0, 1) := by decide +kernel
theorem dX7_clause_100 : decode cX7_clause 100 = .ok (.getfield 22, 3) := by decide +kernel
theorem dX7_clause_103 : decode cX7_clause 103 = .ok (.aload_n 0, 1) := by decide +kernel
theorem dX7_clause_104 : decode cX7_clause 104 = .ok (.iconst 0, 1) := by decide +kernel
theorem dX7_clause_105 : decode cX7_clause 105 = .ok (.bipush 60, 2) := by decide +kernel
theorem dX7_clause_107 : decode cX7_clause 107 = .ok (.invokevirtual 42, 3) := by decide +kernel
theorem dX7_clause_110 : decode cX7_clause 110 = .ok (.putfield 62, 3) := by decide +kernel
theorem dX7_clause_113 : decode cX7_clause 113 = .ok (.goto 43, 3) := by decide +kernel
theorem dX7_clause_116 : decode cX7_clause 116 = .ok (.iload_n 1, 1) := by decide +kernel
theorem dX7_clause_117 : decode cX7_clause 117 = .ok (.bipush 119, 2) := by decide +kernel
theorem dX7_clause_119 : decode cX7_clause 119 = .ok (.if_icmp .ne 29, 3) := by decide +kernel
theorem dX7_clause_122 : decode cX7_clause 122 = .ok (.aload_n 0, 1) := by decide +kernel
theorem dX7_clause_123 : decode cX7_clause 123 = .ok (.dup, 1) := by decide +kernel
theorem dX7_clause_124 : decode cX7_clause 124 = .ok (.getfield 26, 3) := by decide +kernel
theorem dX7_clause_127 : decode cX7_clause 127 = .ok (.iconst 1, 1) := by decide +kernel
theorem dX7_clause_128 : decode cX7_clause 128 = .ok (.iadd, 1) := by decide +kernel
theorem dX7_clause_129 : decode cX7_clause 129 = .ok (.putfield 26, 3) := by decide +kernel
theorem dX7_clause_132 : decode cX7_clause 132 = .ok (.aload_n 0, 1) := by decide +kernel
theorem dX7_clause_133 : decode cX7_clause 133 = .ok (.getfield 22, 3) := by decide +kernel
theorem dX7_clause_136 : decode cX7_clause 136 = .ok (.aload_n 0, 1) := by decide +kernel
theorem dX7_clause_137 : decode cX7_clause 137 = .ok (.iconst 0, 1) := by decide +kernel
theorem dX7_clause_138 : decode cX7_clause 138 = .ok (.iconst 2, 1) := by decide +kernel
theorem dX7_clause_139 : decode cX7_clause 139 = .ok (.invokevirtual 42, 3) := by decide +kernel
theorem dX7_clause_142 : decode cX7_clause 142 = .ok (.putfield 65, 3) := by decide +kernel
theorem dX7_clause_145 : decode cX7_clause 145 = .ok (.goto 11, 3) := by decide +kernel
theorem dX7_clause_148 : decode cX7_clause 148 = .ok (.aload_n 0, 1) := by decide +kernel
theorem dX7_clause_149 : decode cX7_clause 149 = .ok (.aload_n 0, 1) := by decide +kernel
theorem dX7_clause_150 : decode cX7_clause 150 = .ok (.getfield 26, 3) := by decide +kernel
theorem dX7_clause_153 : decode cX7_clause 153 = .ok (.putfield 29, 3) := by decide +kernel
theorem dX7_clause_156 : decode cX7_clause 156 = .ok (.return_, 1) := by decide +kernel
theorem dX7_truthClause_0 : decode cX7_truthClause 0 = .ok (.aload_n 0, 1) := by decide +kernel
theorem dX7_truthClause_1 : decode cX7_truthClause 1 = .ok (.getfield 22, 3) := by decide +kernel
theorem dX7_truthClause_4 : decode cX7_truthClause 4 = .ok (.getfield 68, 3) := by decide +kernel
theorem dX7_truthClause_7 : decode cX7_truthClause 7 = .ok (.iload_n 1, 1) := by decide +kernel
theorem dX7_truthClause_8 : decode cX7_truthClause 8 = .ok (.aload_n 0, 1) := by decide +kernel
theorem dX7_truthClause_9 : decode cX7_truthClause 9 = .ok (.iconst 0, 1) := by decide +kernel
theorem dX7_truthClause_10 : decode cX7_truthClause 10 = .ok (.bipush 60, 2) := by decide +kernel
theorem dX7_truthClause_12 : decode cX7_truthClause 12 = .ok (.invokevirtual 42, 3) := by decide +kernel
theorem dX7_truthClause_15 : decode cX7_truthClause 15 = .ok (.iastore, 1) := by decide +kernel
theorem dX7_truthClause_16 : decode cX7_truthClause 16 = .ok (.aload_n 0, 1) := by decide +kernel
theorem dX7_truthClause_17 : decode cX7_truthClause 17 = .ok (.getfield 22, 3) := by decide +kernel
theorem dX7_truthClause_20 : decode cX7_truthClause 20 = .ok (.getfield 71, 3) := by decide +kernel
theorem dX7_truthClause_23 : decode cX7_truthClause 23 = .ok (.iload_n 1, 1) := by decide +kernel
theorem dX7_truthClause_24 : decode cX7_truthClause 24 = .ok (.aload_n 0, 1) := by decide +kernel
theorem dX7_truthClause_25 : decode cX7_truthClause 25 = .ok (.iconst 1, 1) := by decide +kernel
theorem dX7_truthClause_26 : decode cX7_truthClause 26 = .ok (.bipush 9, 2) := by decide +kernel
theorem dX7_truthClause_28 : decode cX7_truthClause 28 = .ok (.invokevirtual 42, 3) := by decide +kernel
theorem dX7_truthClause_31 : decode cX7_truthClause 31 = .ok (.iastore, 1) := by decide +kernel
theorem dX7_truthClause_32 : decode cX7_truthClause 32 = .ok (.bipush 10, 2) := by decide +kernel
theorem dX7_truthClause_34 : decode cX7_truthClause 34 = .ok (.istore_n 2, 1) := by decide +kernel
theorem dX7_truthClause_35 : decode cX7_truthClause 35 = .ok (.iconst 0, 1) := by decide +kernel
theorem dX7_truthClause_36 : decode cX7_truthClause 36 = .ok (.istore_n 3, 1) := by decide +kernel
theorem dX7_truthClause_37 : decode cX7_truthClause 37 = .ok (.iload_n 3, 1) := by decide +kernel
theorem dX7_truthClause_38 : decode cX7_truthClause 38 = .ok (.aload_n 0, 1) := by decide +kernel
theorem dX7_truthClause_39 : decode cX7_truthClause 39 = .ok (.getfield 22, 3) := by decide +kernel
theorem dX7_truthClause_42 : decode cX7_truthClause 42 = .ok (.getfield 46, 3) := by decide +kernel
theorem dX7_truthClause_45 : decode cX7_truthClause 45 = .ok (.if_icmp .ge 66, 3) := by decide +kernel
theorem dX7_truthClause_48 : decode cX7_truthClause 48 = .ok (.aload_n 0, 1) := by decide +kernel
theorem dX7_truthClause_49 : decode cX7_truthClause 49 = .ok (.getfield 29, 3) := by decide +kernel
theorem dX7_truthClause_52 : decode cX7_truthClause 52 = .ok (.iconst (-1), 1) := by decide +kernel
theorem dX7_truthClause_53 : decode cX7_truthClause 53 = .ok (.if_icmp .ne 58, 3) := by decide +kernel
theorem dX7_truthClause_56 : decode cX7_truthClause 56 = .ok (.iload_n 3, 1) := by decide +kernel
theorem dX7_truthClause_57 : decode cX7_truthClause 57 = .ok (.aload_n 0, 1) := by decide +kernel
theorem dX7_truthClause_58 : decode cX7_truthClause 58 = .ok (.getfield 22, 3) := by decide +kernel
theorem dX7_truthClause_61 : decode cX7_truthClause 61 = .ok (.getfield 46, 3) := by decide +kernel
theorem dX7_truthClause_64 : decode cX7_truthClause 64 = .ok (.iconst 1, 1) := by decide +kernel
theorem dX7_truthClause_65 : decode cX7_truthClause 65 = .ok (.isub, 1) := by decide +kernel
theorem dX7_truthClause_66 : decode cX7_truthClause 66 = .ok (.if_icmp .ne 7, 3) := by decide +kernel
theorem dX7_truthClause_69 : decode cX7_truthClause 69 = .ok (.iload_n 2, 1) := by decide +kernel
theorem dX7_truthClause_70 : decode cX7_truthClause 70 = .ok (.goto 4, 3) := by decide +kernel
theorem dX7_truthClause_73 : decode cX7_truthClause 73 = .ok (.iconst 0, 1) := by decide +kernel
theorem dX7_truthClause_74 : decode cX7_truthClause 74 = .ok (.istore 4, 2) := by decide +kernel
theorem dX7_truthClause_76 : decode cX7_truthClause 76 = .ok (.aload_n 0, 1) := by decide +kernel
theorem dX7_truthClause_77 : decode cX7_truthClause 77 = .ok (.iload 4, 2) := by decide +kernel
theorem dX7_truthClause_79 : decode cX7_truthClause 79 = .ok (.iload_n 2, 1) := by decide +kernel
theorem dX7_truthClause_80 : decode cX7_truthClause 80 = .ok (.invokevirtual 42, 3) := by decide +kernel
theorem dX7_truthClause_83 : decode cX7_truthClause 83 = .ok (.istore 5, 2) := by decide +kernel
theorem dX7_truthClause_85 : decode cX7_truthClause 85 = .ok (.aload_n 0, 1) := by decide +kernel
theorem dX7_truthClause_86 : decode cX7_truthClause 86 = .ok (.getfield 22, 3) := by decide +kernel
theorem dX7_truthClause_89 : decode cX7_truthClause 89 = .ok (.getfield 74, 3) := by decide +kernel
theorem dX7_truthClause_92 : decode cX7_truthClause 92 = .ok (.iload_n 1, 1) := by decide +kernel
theorem dX7_truthClause_93 : decode cX7_truthClause 93 = .ok (.iconst 5, 1) := by decide +kernel
theorem dX7_truthClause_94 : decode cX7_truthClause 94 = .ok (.imul, 1) := by decide +kernel
theorem dX7_truthClause_95 : decode cX7_truthClause 95 = .ok (.iload_n 3, 1) := by decide +kernel
theorem dX7_truthClause_96 : decode cX7_truthClause 96 = .ok (.iadd, 1) := by decide +kernel
theorem dX7_truthClause_97 : decode cX7_truthClause 97 = .ok (.iload 5, 2) := by decide +kernel
theorem dX7_truthClause_99 : decode cX7_truthClause 99 = .ok (.iastore, 1) := by decide +kernel
theorem dX7_truthClause_100 : decode cX7_truthClause 100 = .ok (.iload_n 2, 1) := by decide +kernel
theorem dX7_truthClause_101 : decode cX7_truthClause 101 = .ok (.iload 5, 2) := by decide +kernel
theorem dX7_truthClause_103 : decode cX7_truthClause 103 = .ok (.isub, 1) := by decide +kernel
theorem dX7_truthClause_104 : decode cX7_truthClause 104 = .ok (.istore_n 2, 1) := by decide +kernel
theorem dX7_truthClause_105 : decode cX7_truthClause 105 = .ok (.iinc 3 1, 3) := by decide +kernel
theorem dX7_truthClause_108 : decode cX7_truthClause 108 = .ok (.goto (-71), 3) := by decide +kernel
theorem dX7_truthClause_111 : decode cX7_truthClause 111 = .ok (.aload_n 0, 1) := by decide +kernel
theorem dX7_truthClause_112 : decode cX7_truthClause 112 = .ok (.getfield 22, 3) := by decide +kernel
theorem dX7_truthClause_115 : decode cX7_truthClause 115 = .ok (.dup, 1) := by decide +kernel
theorem dX7_truthClause_116 : decode cX7_truthClause 116 = .ok (.getfield 49, 3) := by decide +kernel
theorem dX7_truthClause_119 : decode cX7_truthClause 119 = .ok (.iconst 1, 1) := by decide +kernel
theorem dX7_truthClause_120 : decode cX7_truthClause 120 = .ok (.iadd, 1) := by decide +kernel
theorem dX7_truthClause_121 : decode cX7_truthClause 121 = .ok (.putfield 49, 3) := by decide +kernel
theorem dX7_truthClause_124 : decode cX7_truthClause 124 = .ok (.return_, 1) := by decide +kernel
theorem dX7_number_0 : decode cX7_number 0 = .ok (.aload_n 0, 1) := by decide +kernel
theorem dX7_number_1 : decode cX7_number 1 = .ok (.getfield 29, 3) := by decide +kernel
theorem dX7_number_4 : decode cX7_number 4 = .ok (.iconst (-1), 1) := by decide +kernel
theorem dX7_number_5 : decode cX7_number 5 = .ok (.if_icmp .eq 5, 3) := by decide +kernel
theorem dX7_number_8 : decode cX7_number 8 = .ok (.iconst 0, 1) := by decide +kernel
theorem dX7_number_9 : decode cX7_number 9 = .ok (.ireturn, 1) := by decide +kernel
theorem dX7_number_10 : decode cX7_number 10 = .ok (.aload_n 0, 1) := by decide +kernel
theorem dX7_number_11 : decode cX7_number 11 = .ok (.getfield 26, 3) := by decide +kernel
theorem dX7_number_14 : decode cX7_number 14 = .ok (.istore_n 3, 1) := by decide +kernel
theorem dX7_number_15 : decode cX7_number 15 = .ok (.aload_n 0, 1) := by decide +kernel
theorem dX7_number_16 : decode cX7_number 16 = .ok (.invokevirtual 35, 3) := by decide +kernel
theorem dX7_number_19 : decode cX7_number 19 = .ok (.aload_n 0, 1) := by decide +kernel
theorem dX7_number_20 : decode cX7_number 20 = .ok (.invokevirtual 77, 3) := by decide +kernel
theorem dX7_number_23 : decode cX7_number 23 = .ok (.istore 4, 2) := by decide +kernel
theorem dX7_number_25 : decode cX7_number 25 = .ok (.aload_n 0, 1) := by decide +kernel
theorem dX7_number_26 : decode cX7_number 26 = .ok (.getfield 26, 3) := by decide +kernel
theorem dX7_number_29 : decode cX7_number 29 = .ok (.iload_n 3, 1) := by decide +kernel
theorem dX7_number_30 : decode cX7_number 30 = .ok (.if_icmp .eq 9, 3) := by decide +kernel
theorem dX7_number_33 : decode cX7_number 33 = .ok (.iload 4, 2) := by decide +kernel
theorem dX7_number_35 : decode cX7_number 35 = .ok (.iconst (-1), 1) := by decide +kernel
theorem dX7_number_36 : decode cX7_number 36 = .ok (.if_icmp .ne 13, 3) := by decide +kernel
theorem dX7_number_39 : decode cX7_number 39 = .ok (.aload_n 0, 1) := by decide +kernel
theorem dX7_number_40 : decode cX7_number 40 = .ok (.aload_n 0, 1) := by decide +kernel
theorem dX7_number_41 : decode cX7_number 41 = .ok (.getfield 26, 3) := by decide +kernel
theorem dX7_number_44 : decode cX7_number 44 = .ok (.putfield 29, 3) := by decide +kernel
theorem dX7_number_47 : decode cX7_number 47 = .ok (.iconst 0, 1) := by decide +kernel
theorem dX7_number_48 : decode cX7_number 48 = .ok (.ireturn, 1) := by decide +kernel
theorem dX7_number_49 : decode cX7_number 49 = .ok (.aload_n 0, 1) := by decide +kernel
theorem dX7_number_50 : decode cX7_number 50 = .ok (.dup, 1) := by decide +kernel
theorem dX7_number_51 : decode cX7_number 51 = .ok (.getfield 26, 3) := by decide +kernel
theorem dX7_number_54 : decode cX7_number 54 = .ok (.iconst 1, 1) := by decide +kernel
theorem dX7_number_55 : decode cX7_number 55 = .ok (.iadd, 1) := by decide +kernel
theorem dX7_number_56 : decode cX7_number 56 = .ok (.putfield 26, 3) := by decide +kernel
theorem dX7_number_59 : decode cX7_number 59 = .ok (.aload_n 0, 1) := by decide +kernel
theorem dX7_number_60 : decode cX7_number 60 = .ok (.invokevirtual 77, 3) := by decide +kernel
theorem dX7_number_63 : decode cX7_number 63 = .ok (.istore 5, 2) := by decide +kernel
theorem dX7_number_65 : decode cX7_number 65 = .ok (.iload 5, 2) := by decide +kernel
theorem dX7_number_67 : decode cX7_number 67 = .ok (.iconst (-1), 1) := by decide +kernel
theorem dX7_number_68 : decode cX7_number 68 = .ok (.if_icmp .eq 23, 3) := by decide +kernel
theorem dX7_number_71 : decode cX7_number 71 = .ok (.iload 4, 2) := by decide +kernel
theorem dX7_number_73 : decode cX7_number 73 = .ok (.bipush 10, 2) := by decide +kernel
theorem dX7_number_75 : decode cX7_number 75 = .ok (.imul, 1) := by decide +kernel
theorem dX7_number_76 : decode cX7_number 76 = .ok (.iload 5, 2) := by decide +kernel
theorem dX7_number_78 : decode cX7_number 78 = .ok (.iadd, 1) := by decide +kernel
theorem dX7_number_79 : decode cX7_number 79 = .ok (.istore 4, 2) := by decide +kernel
theorem dX7_number_81 : decode cX7_number 81 = .ok (.aload_n 0, 1) := by decide +kernel
theorem dX7_number_82 : decode cX7_number 82 = .ok (.dup, 1) := by decide +kernel
theorem dX7_number_83 : decode cX7_number 83 = .ok (.getfield 26, 3) := by decide +kernel
theorem dX7_number_86 : decode cX7_number 86 = .ok (.iconst 1, 1) := by decide +kernel
theorem dX7_number_87 : decode cX7_number 87 = .ok (.iadd, 1) := by decide +kernel
theorem dX7_number_88 : decode cX7_number 88 = .ok (.putfield 26, 3) := by decide +kernel
theorem dX7_number_91 : decode cX7_number 91 = .ok (.iload 4, 2) := by decide +kernel
theorem dX7_number_93 : decode cX7_number 93 = .ok (.iload_n 1, 1) := by decide +kernel
theorem dX7_number_94 : decode cX7_number 94 = .ok (.if_icmp .lt 9, 3) := by decide +kernel
theorem dX7_number_97 : decode cX7_number 97 = .ok (.iload 4, 2) := by decide +kernel
theorem dX7_number_99 : decode cX7_number 99 = .ok (.iload_n 2, 1) := by decide +kernel
theorem dX7_number_100 : decode cX7_number 100 = .ok (.if_icmp .le 15, 3) := by decide +kernel
theorem dX7_number_103 : decode cX7_number 103 = .ok (.aload_n 0, 1) := by decide +kernel
theorem dX7_number_104 : decode cX7_number 104 = .ok (.aload_n 0, 1) := by decide +kernel
theorem dX7_number_105 : decode cX7_number 105 = .ok (.getfield 26, 3) := by decide +kernel
theorem dX7_number_108 : decode cX7_number 108 = .ok (.iconst 1, 1) := by decide +kernel
theorem dX7_number_109 : decode cX7_number 109 = .ok (.isub, 1) := by decide +kernel
theorem dX7_number_110 : decode cX7_number 110 = .ok (.putfield 29, 3) := by decide +kernel
theorem dX7_number_113 : decode cX7_number 113 = .ok (.iconst 0, 1) := by decide +kernel
theorem dX7_number_114 : decode cX7_number 114 = .ok (.ireturn, 1) := by decide +kernel
theorem dX7_number_115 : decode cX7_number 115 = .ok (.iload 4, 2) := by decide +kernel
theorem dX7_number_117 : decode cX7_number 117 = .ok (.ireturn, 1) := by decide +kernel
theorem dX7_digit_0 : decode cX7_digit 0 = .ok (.aload_n 0, 1) := by decide +kernel
theorem dX7_digit_1 : decode cX7_digit 1 = .ok (.invokevirtual 38, 3) := by decide +kernel
theorem dX7_digit_4 : decode cX7_digit 4 = .ok (.istore_n 1, 1) := by decide +kernel
theorem dX7_digit_5 : decode cX7_digit 5 = .ok (.iload_n 1, 1) := by decide +kernel
theorem dX7_digit_6 : decode cX7_digit 6 = .ok (.bipush 48, 2) := by decide +kernel
theorem dX7_digit_8 : decode cX7_digit 8 = .ok (.if_icmp .lt 16, 3) := by decide +kernel
theorem dX7_digit_11 : decode cX7_digit 11 = .ok (.iload_n 1, 1) := by decide +kernel
theorem dX7_digit_12 : decode cX7_digit 12 = .ok (.bipush 57, 2) := by decide +kernel
theorem dX7_digit_14 : decode cX7_digit 14 = .ok (.if_icmp .gt 10, 3) := by decide +kernel
theorem dX7_digit_17 : decode cX7_digit 17 = .ok (.iload_n 1, 1) := by decide +kernel
theorem dX7_digit_18 : decode cX7_digit 18 = .ok (.bipush 48, 2) := by decide +kernel
theorem dX7_digit_20 : decode cX7_digit 20 = .ok (.isub, 1) := by decide +kernel
theorem dX7_digit_21 : decode cX7_digit 21 = .ok (.goto 4, 3) := by decide +kernel
theorem dX7_digit_24 : decode cX7_digit 24 = .ok (.iconst (-1), 1) := by decide +kernel
theorem dX7_digit_25 : decode cX7_digit 25 = .ok (.ireturn, 1) := by decide +kernel
theorem dX8_init_0 : decode cX8_init 0 = .ok (.aload_n 0, 1) := by decide +kernel
theorem dX8_init_1 : decode cX8_init 1 = .ok (.invokespecial 3, 3) := by decide +kernel
theorem dX8_init_4 : decode cX8_init 4 = .ok (.aload_n 0, 1) := by decide +kernel
theorem dX8_init_5 : decode cX8_init 5 = .ok (.bipush 105, 2) := by decide +kernel
theorem dX8_init_7 : decode cX8_init 7 = .ok (.newarray .int, 2) := by decide +kernel
theorem dX8_init_9 : decode cX8_init 9 = .ok (.putfield 9, 3) := by decide +kernel
theorem dX8_init_12 : decode cX8_init 12 = .ok (.aload_n 0, 1) := by decide +kernel
theorem dX8_init_13 : decode cX8_init 13 = .ok (.iconst 5, 1) := by decide +kernel
theorem dX8_init_14 : decode cX8_init 14 = .ok (.newarray .int, 2) := by decide +kernel
theorem dX8_init_16 : decode cX8_init 16 = .ok (.putfield 15, 3) := by decide +kernel
theorem dX8_init_19 : decode cX8_init 19 = .ok (.aload_n 0, 1) := by decide +kernel
theorem dX8_init_20 : decode cX8_init 20 = .ok (.iconst 5, 1) := by decide +kernel
theorem dX8_init_21 : decode cX8_init 21 = .ok (.newarray .int, 2) := by decide +kernel
theorem dX8_init_23 : decode cX8_init 23 = .ok (.putfield 18, 3) := by decide +kernel
theorem dX8_init_26 : decode cX8_init 26 = .ok (.aload_n 0, 1) := by decide +kernel
theorem dX8_init_27 : decode cX8_init 27 = .ok (.iconst 0, 1) := by decide +kernel
theorem dX8_init_28 : decode cX8_init 28 = .ok (.putfield 21, 3) := by decide +kernel
theorem dX8_init_31 : decode cX8_init 31 = .ok (.aload_n 0, 1) := by decide +kernel
theorem dX8_init_32 : decode cX8_init 32 = .ok (.iconst 0, 1) := by decide +kernel
theorem dX8_init_33 : decode cX8_init 33 = .ok (.putfield 25, 3) := by decide +kernel
theorem dX8_init_36 : decode cX8_init 36 = .ok (.aload_n 0, 1) := by decide +kernel
theorem dX8_init_37 : decode cX8_init 37 = .ok (.iconst 2, 1) := by decide +kernel
theorem dX8_init_38 : decode cX8_init 38 = .ok (.putfield 28, 3) := by decide +kernel
theorem dX8_init_41 : decode cX8_init 41 = .ok (.return_, 1) := by decide +kernel
theorem dX8_begin_0 : decode cX8_begin 0 = .ok (.aload_n 0, 1) := by decide +kernel
theorem dX8_begin_1 : decode cX8_begin 1 = .ok (.iload_n 1, 1) := by decide +kernel
theorem dX8_begin_2 : decode cX8_begin 2 = .ok (.putfield 21, 3) := by decide +kernel
theorem dX8_begin_5 : decode cX8_begin 5 = .ok (.aload_n 0, 1) := by decide +kernel
theorem dX8_begin_6 : decode cX8_begin 6 = .ok (.iconst 0, 1) := by decide +kernel
theorem dX8_begin_7 : decode cX8_begin 7 = .ok (.putfield 25, 3) := by decide +kernel
theorem dX8_begin_10 : decode cX8_begin 10 = .ok (.aload_n 0, 1) := by decide +kernel
theorem dX8_begin_11 : decode cX8_begin 11 = .ok (.iconst 2, 1) := by decide +kernel
theorem dX8_begin_12 : decode cX8_begin 12 = .ok (.putfield 28, 3) := by decide +kernel
theorem dX8_begin_15 : decode cX8_begin 15 = .ok (.aload_n 0, 1) := by decide +kernel
theorem dX8_begin_16 : decode cX8_begin 16 = .ok (.invokevirtual 31, 3) := by decide +kernel
theorem dX8_begin_19 : decode cX8_begin 19 = .ok (.return_, 1) := by decide +kernel
theorem dX8_goesOn_0 : decode cX8_goesOn 0 = .ok (.aload_n 0, 1) := by decide +kernel
theorem dX8_goesOn_1 : decode cX8_goesOn 1 = .ok (.getfield 28, 3) := by decide +kernel
theorem dX8_goesOn_4 : decode cX8_goesOn 4 = .ok (.iconst 2, 1) := by decide +kernel
theorem dX8_goesOn_5 : decode cX8_goesOn 5 = .ok (.if_icmp .ne 7, 3) := by decide +kernel
theorem dX8_goesOn_8 : decode cX8_goesOn 8 = .ok (.iconst 1, 1) := by decide +kernel
theorem dX8_goesOn_9 : decode cX8_goesOn 9 = .ok (.goto 4, 3) := by decide +kernel
theorem dX8_goesOn_12 : decode cX8_goesOn 12 = .ok (.iconst 0, 1) := by decide +kernel
theorem dX8_goesOn_13 : decode cX8_goesOn 13 = .ok (.ireturn, 1) := by decide +kernel
theorem dX8_close_0 : decode cX8_close 0 = .ok (.iconst 0, 1) := by decide +kernel
theorem dX8_close_1 : decode cX8_close 1 = .ok (.istore_n 1, 1) := by decide +kernel
theorem dX8_close_2 : decode cX8_close 2 = .ok (.iload_n 1, 1) := by decide +kernel
theorem dX8_close_3 : decode cX8_close 3 = .ok (.aload_n 0, 1) := by decide +kernel
theorem dX8_close_4 : decode cX8_close 4 = .ok (.getfield 25, 3) := by decide +kernel
theorem dX8_close_7 : decode cX8_close 7 = .ok (.if_icmp .ge 44, 3) := by decide +kernel
theorem dX8_close_10 : decode cX8_close 10 = .ok (.aload_n 0, 1) := by decide +kernel
theorem dX8_close_11 : decode cX8_close 11 = .ok (.getfield 28, 3) := by decide +kernel
theorem dX8_close_14 : decode cX8_close 14 = .ok (.iconst 2, 1) := by decide +kernel
theorem dX8_close_15 : decode cX8_close 15 = .ok (.if_icmp .ne 36, 3) := by decide +kernel
theorem dX8_close_18 : decode cX8_close 18 = .ok (.aload_n 0, 1) := by decide +kernel
theorem dX8_close_19 : decode cX8_close 19 = .ok (.iload_n 1, 1) := by decide +kernel
theorem dX8_close_20 : decode cX8_close 20 = .ok (.invokevirtual 34, 3) := by decide +kernel
theorem dX8_close_23 : decode cX8_close 23 = .ok (.ifCond .eq 22, 3) := by decide +kernel
theorem dX8_close_26 : decode cX8_close 26 = .ok (.aload_n 0, 1) := by decide +kernel
theorem dX8_close_27 : decode cX8_close 27 = .ok (.iload_n 1, 1) := by decide +kernel
theorem dX8_close_28 : decode cX8_close 28 = .ok (.aload_n 0, 1) := by decide +kernel
theorem dX8_close_29 : decode cX8_close 29 = .ok (.getfield 25, 3) := by decide +kernel
theorem dX8_close_32 : decode cX8_close 32 = .ok (.iconst 1, 1) := by decide +kernel
theorem dX8_close_33 : decode cX8_close 33 = .ok (.isub, 1) := by decide +kernel
theorem dX8_close_34 : decode cX8_close 34 = .ok (.if_icmp .ne 7, 3) := by decide +kernel
theorem dX8_close_37 : decode cX8_close 37 = .ok (.iconst 0, 1) := by decide +kernel
theorem dX8_close_38 : decode cX8_close 38 = .ok (.goto 4, 3) := by decide +kernel
theorem dX8_close_41 : decode cX8_close 41 = .ok (.iconst 1, 1) := by decide +kernel
theorem dX8_close_42 : decode cX8_close 42 = .ok (.putfield 28, 3) := by decide +kernel
theorem dX8_close_45 : decode cX8_close 45 = .ok (.iinc 1 1, 3) := by decide +kernel
theorem dX8_close_48 : decode cX8_close 48 = .ok (.goto (-46), 3) := by decide +kernel
theorem dX8_close_51 : decode cX8_close 51 = .ok (.aload_n 0, 1) := by decide +kernel
theorem dX8_close_52 : decode cX8_close 52 = .ok (.invokevirtual 31, 3) := by decide +kernel
theorem dX8_close_55 : decode cX8_close 55 = .ok (.return_, 1) := by decide +kernel
theorem dX8_isRow_0 : decode cX8_isRow 0 = .ok (.iconst 0, 1) := by decide +kernel
theorem dX8_isRow_1 : decode cX8_isRow 1 = .ok (.istore_n 2, 1) := by decide +kernel
theorem dX8_isRow_2 : decode cX8_isRow 2 = .ok (.iload_n 2, 1) := by decide +kernel
theorem dX8_isRow_3 : decode cX8_isRow 3 = .ok (.aload_n 0, 1) := by decide +kernel
theorem dX8_isRow_4 : decode cX8_isRow 4 = .ok (.getfield 21, 3) := by decide +kernel
theorem dX8_isRow_7 : decode cX8_isRow 7 = .ok (.if_icmp .ge 30, 3) := by decide +kernel
theorem dX8_isRow_10 : decode cX8_isRow 10 = .ok (.aload_n 0, 1) := by decide +kernel
theorem dX8_isRow_11 : decode cX8_isRow 11 = .ok (.getfield 9, 3) := by decide +kernel
theorem dX8_isRow_14 : decode cX8_isRow 14 = .ok (.iload_n 1, 1) := by decide +kernel
theorem dX8_isRow_15 : decode cX8_isRow 15 = .ok (.iconst 5, 1) := by decide +kernel
theorem dX8_isRow_16 : decode cX8_isRow 16 = .ok (.imul, 1) := by decide +kernel
theorem dX8_isRow_17 : decode cX8_isRow 17 = .ok (.iload_n 2, 1) := by decide +kernel
theorem dX8_isRow_18 : decode cX8_isRow 18 = .ok (.iadd, 1) := by decide +kernel
theorem dX8_isRow_19 : decode cX8_isRow 19 = .ok (.iaload, 1) := by decide +kernel
theorem dX8_isRow_20 : decode cX8_isRow 20 = .ok (.aload_n 0, 1) := by decide +kernel
theorem dX8_isRow_21 : decode cX8_isRow 21 = .ok (.getfield 18, 3) := by decide +kernel
theorem dX8_isRow_24 : decode cX8_isRow 24 = .ok (.iload_n 2, 1) := by decide +kernel
theorem dX8_isRow_25 : decode cX8_isRow 25 = .ok (.iaload, 1) := by decide +kernel
theorem dX8_isRow_26 : decode cX8_isRow 26 = .ok (.if_icmp .eq 5, 3) := by decide +kernel
theorem dX8_isRow_29 : decode cX8_isRow 29 = .ok (.iconst 0, 1) := by decide +kernel
theorem dX8_isRow_30 : decode cX8_isRow 30 = .ok (.ireturn, 1) := by decide +kernel
theorem dX8_isRow_31 : decode cX8_isRow 31 = .ok (.iinc 2 1, 3) := by decide +kernel
theorem dX8_isRow_34 : decode cX8_isRow 34 = .ok (.goto (-32), 3) := by decide +kernel
theorem dX8_isRow_37 : decode cX8_isRow 37 = .ok (.iconst 1, 1) := by decide +kernel
theorem dX8_isRow_38 : decode cX8_isRow 38 = .ok (.ireturn, 1) := by decide +kernel
theorem dX8_keep_0 : decode cX8_keep 0 = .ok (.iconst 0, 1) := by decide +kernel
theorem dX8_keep_1 : decode cX8_keep 1 = .ok (.istore_n 1, 1) := by decide +kernel
theorem dX8_keep_2 : decode cX8_keep 2 = .ok (.iload_n 1, 1) := by decide +kernel
theorem dX8_keep_3 : decode cX8_keep 3 = .ok (.aload_n 0, 1) := by decide +kernel
theorem dX8_keep_4 : decode cX8_keep 4 = .ok (.getfield 21, 3) := by decide +kernel
theorem dX8_keep_7 : decode cX8_keep 7 = .ok (.if_icmp .ge 49, 3) := by decide +kernel
theorem dX8_keep_10 : decode cX8_keep 10 = .ok (.aload_n 0, 1) := by decide +kernel
theorem dX8_keep_11 : decode cX8_keep 11 = .ok (.getfield 25, 3) := by decide +kernel
theorem dX8_keep_14 : decode cX8_keep 14 = .ok (.bipush 20, 2) := by decide +kernel
theorem dX8_keep_16 : decode cX8_keep 16 = .ok (.if_icmp .gt 40, 3) := by decide +kernel
theorem dX8_keep_19 : decode cX8_keep 19 = .ok (.aload_n 0, 1) := by decide +kernel
theorem dX8_keep_20 : decode cX8_keep 20 = .ok (.getfield 9, 3) := by decide +kernel
theorem dX8_keep_23 : decode cX8_keep 23 = .ok (.aload_n 0, 1) := by decide +kernel
theorem dX8_keep_24 : decode cX8_keep 24 = .ok (.getfield 25, 3) := by decide +kernel
theorem dX8_keep_27 : decode cX8_keep 27 = .ok (.iconst 5, 1) := by decide +kernel
theorem dX8_keep_28 : decode cX8_keep 28 = .ok (.imul, 1) := by decide +kernel
theorem dX8_keep_29 : decode cX8_keep 29 = .ok (.iload_n 1, 1) := by decide +kernel
theorem dX8_keep_30 : decode cX8_keep 30 = .ok (.iadd, 1) := by decide +kernel
theorem dX8_keep_31 : decode cX8_keep 31 = .ok (.aload_n 0, 1) := by decide +kernel
theorem dX8_keep_32 : decode cX8_keep 32 = .ok (.getfield 18, 3) := by decide +kernel
theorem dX8_keep_35 : decode cX8_keep 35 = .ok (.iload_n 1, 1) := by decide +kernel
theorem dX8_keep_36 : decode cX8_keep 36 = .ok (.iaload, 1) := by decide +kernel
theorem dX8_keep_37 : decode cX8_keep 37 = .ok (.iastore, 1) := by decide +kernel
theorem dX8_keep_38 : decode cX8_keep 38 = .ok (.aload_n 0, 1) := by decide +kernel
theorem dX8_keep_39 : decode cX8_keep 39 = .ok (.getfield 15, 3) := by decide +kernel
theorem dX8_keep_42 : decode cX8_keep 42 = .ok (.iload_n 1, 1) := by decide +kernel
theorem dX8_keep_43 : decode cX8_keep 43 = .ok (.aload_n 0, 1) := by decide +kernel
theorem dX8_keep_44 : decode cX8_keep 44 = .ok (.getfield 18, 3) := by decide +kernel
theorem dX8_keep_47 : decode cX8_keep 47 = .ok (.iload_n 1, 1) := by decide +kernel
theorem dX8_keep_48 : decode cX8_keep 48 = .ok (.iaload, 1) := by decide +kernel
theorem dX8_keep_49 : decode cX8_keep 49 = .ok (.iastore, 1) := by decide +kernel
theorem dX8_keep_50 : decode cX8_keep 50 = .ok (.iinc 1 1, 3) := by decide +kernel
theorem dX8_keep_53 : decode cX8_keep 53 = .ok (.goto (-51), 3) := by decide +kernel
theorem dX8_keep_56 : decode cX8_keep 56 = .ok (.aload_n 0, 1) := by decide +kernel
theorem dX8_keep_57 : decode cX8_keep 57 = .ok (.dup, 1) := by decide +kernel
theorem dX8_keep_58 : decode cX8_keep 58 = .ok (.getfield 25, 3) := by decide +kernel
theorem dX8_keep_61 : decode cX8_keep 61 = .ok (.iconst 1, 1) := by decide +kernel
theorem dX8_keep_62 : decode cX8_keep 62 = .ok (.iadd, 1) := by decide +kernel
theorem dX8_keep_63 : decode cX8_keep 63 = .ok (.putfield 25, 3) := by decide +kernel
theorem dX8_keep_66 : decode cX8_keep 66 = .ok (.return_, 1) := by decide +kernel
theorem dX9_init_0 : decode cX9_init 0 = .ok (.aload_n 0, 1) := by decide +kernel
theorem dX9_init_1 : decode cX9_init 1 = .ok (.invokespecial 1, 3) := by decide +kernel
theorem dX9_init_4 : decode cX9_init 4 = .ok (.aload_n 0, 1) := by decide +kernel
theorem dX9_init_5 : decode cX9_init 5 = .ok (.new 7, 3) := by decide +kernel
theorem dX9_init_8 : decode cX9_init 8 = .ok (.dup, 1) := by decide +kernel
theorem dX9_init_9 : decode cX9_init 9 = .ok (.invokespecial 9, 3) := by decide +kernel
theorem dX9_init_12 : decode cX9_init 12 = .ok (.putfield 10, 3) := by decide +kernel
theorem dX9_init_15 : decode cX9_init 15 = .ok (.aload_n 0, 1) := by decide +kernel
theorem dX9_init_16 : decode cX9_init 16 = .ok (.bipush 8, 2) := by decide +kernel
theorem dX9_init_18 : decode cX9_init 18 = .ok (.anewarray 16, 3) := by decide +kernel
theorem dX9_init_21 : decode cX9_init 21 = .ok (.putfield 18, 3) := by decide +kernel
theorem dX9_init_24 : decode cX9_init 24 = .ok (.aload_n 0, 1) := by decide +kernel
theorem dX9_init_25 : decode cX9_init 25 = .ok (.iconst 0, 1) := by decide +kernel
theorem dX9_init_26 : decode cX9_init 26 = .ok (.putfield 22, 3) := by decide +kernel
theorem dX9_init_29 : decode cX9_init 29 = .ok (.aload_n 0, 1) := by decide +kernel
theorem dX9_init_30 : decode cX9_init 30 = .ok (.bipush 50, 2) := by decide +kernel
theorem dX9_init_32 : decode cX9_init 32 = .ok (.newarray .int, 2) := by decide +kernel
theorem dX9_init_34 : decode cX9_init 34 = .ok (.putfield 26, 3) := by decide +kernel
theorem dX9_init_37 : decode cX9_init 37 = .ok (.aload_n 0, 1) := by decide +kernel
theorem dX9_init_38 : decode cX9_init 38 = .ok (.iconst 0, 1) := by decide +kernel
theorem dX9_init_39 : decode cX9_init 39 = .ok (.putfield 30, 3) := by decide +kernel
theorem dX9_init_42 : decode cX9_init 42 = .ok (.aload_n 0, 1) := by decide +kernel
theorem dX9_init_43 : decode cX9_init 43 = .ok (.iconst 4, 1) := by decide +kernel
theorem dX9_init_44 : decode cX9_init 44 = .ok (.newarray .int, 2) := by decide +kernel
theorem dX9_init_46 : decode cX9_init 46 = .ok (.putfield 33, 3) := by decide +kernel
theorem dX9_init_49 : decode cX9_init 49 = .ok (.aload_n 0, 1) := by decide +kernel
theorem dX9_init_50 : decode cX9_init 50 = .ok (.new 36, 3) := by decide +kernel
theorem dX9_init_53 : decode cX9_init 53 = .ok (.dup, 1) := by decide +kernel
theorem dX9_init_54 : decode cX9_init 54 = .ok (.invokespecial 38, 3) := by decide +kernel
theorem dX9_init_57 : decode cX9_init 57 = .ok (.putfield 39, 3) := by decide +kernel
theorem dX9_init_60 : decode cX9_init 60 = .ok (.aload_n 0, 1) := by decide +kernel
theorem dX9_init_61 : decode cX9_init 61 = .ok (.new 43, 3) := by decide +kernel
theorem dX9_init_64 : decode cX9_init 64 = .ok (.dup, 1) := by decide +kernel
theorem dX9_init_65 : decode cX9_init 65 = .ok (.invokespecial 45, 3) := by decide +kernel
theorem dX9_init_68 : decode cX9_init 68 = .ok (.putfield 46, 3) := by decide +kernel
theorem dX9_init_71 : decode cX9_init 71 = .ok (.aload_n 0, 1) := by decide +kernel
theorem dX9_init_72 : decode cX9_init 72 = .ok (.new 50, 3) := by decide +kernel
theorem dX9_init_75 : decode cX9_init 75 = .ok (.dup, 1) := by decide +kernel
theorem dX9_init_76 : decode cX9_init 76 = .ok (.invokespecial 52, 3) := by decide +kernel
theorem dX9_init_79 : decode cX9_init 79 = .ok (.putfield 53, 3) := by decide +kernel
theorem dX9_init_82 : decode cX9_init 82 = .ok (.aload_n 0, 1) := by decide +kernel
theorem dX9_init_83 : decode cX9_init 83 = .ok (.new 57, 3) := by decide +kernel
theorem dX9_init_86 : decode cX9_init 86 = .ok (.dup, 1) := by decide +kernel
theorem dX9_init_87 : decode cX9_init 87 = .ok (.invokespecial 59, 3) := by decide +kernel
theorem dX9_init_90 : decode cX9_init 90 = .ok (.putfield 60, 3) := by decide +kernel
theorem dX9_init_93 : decode cX9_init 93 = .ok (.aload_n 0, 1) := by decide +kernel
theorem dX9_init_94 : decode cX9_init 94 = .ok (.new 64, 3) := by decide +kernel
theorem dX9_init_97 : decode cX9_init 97 = .ok (.dup, 1) := by decide +kernel
theorem dX9_init_98 : decode cX9_init 98 = .ok (.invokespecial 66, 3) := by decide +kernel
theorem dX9_init_101 : decode cX9_init 101 = .ok (.putfield 67, 3) := by decide +kernel
theorem dX9_init_104 : decode cX9_init 104 = .ok (.aload_n 0, 1) := by decide +kernel
theorem dX9_init_105 : decode cX9_init 105 = .ok (.new 71, 3) := by decide +kernel
theorem dX9_init_108 : decode cX9_init 108 = .ok (.dup, 1) := by decide +kernel
theorem dX9_init_109 : decode cX9_init 109 = .ok (.invokespecial 73, 3) := by decide +kernel
theorem dX9_init_112 : decode cX9_init 112 = .ok (.putfield 74, 3) := by decide +kernel
theorem dX9_init_115 : decode cX9_init 115 = .ok (.aload_n 0, 1) := by decide +kernel
theorem dX9_init_116 : decode cX9_init 116 = .ok (.new 78, 3) := by decide +kernel
theorem dX9_init_119 : decode cX9_init 119 = .ok (.dup, 1) := by decide +kernel
theorem dX9_init_120 : decode cX9_init 120 = .ok (.invokespecial 80, 3) := by decide +kernel
theorem dX9_init_123 : decode cX9_init 123 = .ok (.putfield 81, 3) := by decide +kernel
theorem dX9_init_126 : decode cX9_init 126 = .ok (.return_, 1) := by decide +kernel
theorem dX9_feed_0 : decode cX9_feed 0 = .ok (.iload_n 1, 1) := by decide +kernel
theorem dX9_feed_1 : decode cX9_feed 1 = .ok (.invokestatic 85, 3) := by decide +kernel
theorem dX9_feed_4 : decode cX9_feed 4 = .ok (.iload_n 2, 1) := by decide +kernel
theorem dX9_feed_5 : decode cX9_feed 5 = .ok (.invokestatic 85, 3) := by decide +kernel
theorem dX9_feed_8 : decode cX9_feed 8 = .ok (.iadd, 1) := by decide +kernel
theorem dX9_feed_9 : decode cX9_feed 9 = .ok (.iload_n 3, 1) := by decide +kernel
theorem dX9_feed_10 : decode cX9_feed 10 = .ok (.invokestatic 85, 3) := by decide +kernel
theorem dX9_feed_13 : decode cX9_feed 13 = .ok (.iadd, 1) := by decide +kernel
theorem dX9_feed_14 : decode cX9_feed 14 = .ok (.iload 4, 2) := by decide +kernel
theorem dX9_feed_16 : decode cX9_feed 16 = .ok (.invokestatic 85, 3) := by decide +kernel
theorem dX9_feed_19 : decode cX9_feed 19 = .ok (.iadd, 1) := by decide +kernel
theorem dX9_feed_20 : decode cX9_feed 20 = .ok (.iload 5, 2) := by decide +kernel
theorem dX9_feed_22 : decode cX9_feed 22 = .ok (.invokestatic 85, 3) := by decide +kernel
theorem dX9_feed_25 : decode cX9_feed 25 = .ok (.iadd, 1) := by decide +kernel
theorem dX9_feed_26 : decode cX9_feed 26 = .ok (.istore 6, 2) := by decide +kernel
theorem dX9_feed_28 : decode cX9_feed 28 = .ok (.aload_n 0, 1) := by decide +kernel
theorem dX9_feed_29 : decode cX9_feed 29 = .ok (.getfield 10, 3) := by decide +kernel
theorem dX9_feed_32 : decode cX9_feed 32 = .ok (.getfield 89, 3) := by decide +kernel
theorem dX9_feed_35 : decode cX9_feed 35 = .ok (.iload 6, 2) := by decide +kernel
theorem dX9_feed_37 : decode cX9_feed 37 = .ok (.iadd, 1) := by decide +kernel
theorem dX9_feed_38 : decode cX9_feed 38 = .ok (.sipush 240, 3) := by decide +kernel
theorem dX9_feed_41 : decode cX9_feed 41 = .ok (.if_icmp .le 5, 3) := by decide +kernel
theorem dX9_feed_44 : decode cX9_feed 44 = .ok (.iconst (-1), 1) := by decide +kernel
theorem dX9_feed_45 : decode cX9_feed 45 = .ok (.ireturn, 1) := by decide +kernel
theorem dX9_feed_46 : decode cX9_feed 46 = .ok (.aload_n 0, 1) := by decide +kernel
theorem dX9_feed_47 : decode cX9_feed 47 = .ok (.getfield 10, 3) := by decide +kernel
theorem dX9_feed_50 : decode cX9_feed 50 = .ok (.iload_n 1, 1) := by decide +kernel
theorem dX9_feed_51 : decode cX9_feed 51 = .ok (.invokevirtual 92, 3) := by decide +kernel
theorem dX9_feed_54 : decode cX9_feed 54 = .ok (.aload_n 0, 1) := by decide +kernel
theorem dX9_feed_55 : decode cX9_feed 55 = .ok (.getfield 10, 3) := by decide +kernel
theorem dX9_feed_58 : decode cX9_feed 58 = .ok (.iload_n 2, 1) := by decide +kernel
theorem dX9_feed_59 : decode cX9_feed 59 = .ok (.invokevirtual 92, 3) := by decide +kernel
theorem dX9_feed_62 : decode cX9_feed 62 = .ok (.aload_n 0, 1) := by decide +kernel
theorem dX9_feed_63 : decode cX9_feed 63 = .ok (.getfield 10, 3) := by decide +kernel
theorem dX9_feed_66 : decode cX9_feed 66 = .ok (.iload_n 3, 1) := by decide +kernel
theorem dX9_feed_67 : decode cX9_feed 67 = .ok (.invokevirtual 92, 3) := by decide +kernel
theorem dX9_feed_70 : decode cX9_feed 70 = .ok (.aload_n 0, 1) := by decide +kernel
theorem dX9_feed_71 : decode cX9_feed 71 = .ok (.getfield 10, 3) := by decide +kernel
theorem dX9_feed_74 : decode cX9_feed 74 = .ok (.iload 4, 2) := by decide +kernel
theorem dX9_feed_76 : decode cX9_feed 76 = .ok (.invokevirtual 92, 3) := by decide +kernel
theorem dX9_feed_79 : decode cX9_feed 79 = .ok (.aload_n 0, 1) := by decide +kernel
theorem dX9_feed_80 : decode cX9_feed 80 = .ok (.getfield 10, 3) := by decide +kernel
theorem dX9_feed_83 : decode cX9_feed 83 = .ok (.iload 5, 2) := by decide +kernel
theorem dX9_feed_85 : decode cX9_feed 85 = .ok (.invokevirtual 92, 3) := by decide +kernel
theorem dX9_feed_88 : decode cX9_feed 88 = .ok (.aload_n 0, 1) := by decide +kernel
theorem dX9_feed_89 : decode cX9_feed 89 = .ok (.getfield 10, 3) := by decide +kernel
theorem dX9_feed_92 : decode cX9_feed 92 = .ok (.getfield 89, 3) := by decide +kernel
theorem dX9_feed_95 : decode cX9_feed 95 = .ok (.ireturn, 1) := by decide +kernel
theorem dX9_end_0 : decode cX9_end 0 = .ok (.iload_n 1, 1) := by decide +kernel
theorem dX9_end_1 : decode cX9_end 1 = .ok (.ifCond .lt 14, 3) := by decide +kernel
theorem dX9_end_4 : decode cX9_end 4 = .ok (.iload_n 1, 1) := by decide +kernel
theorem dX9_end_5 : decode cX9_end 5 = .ok (.aload_n 0, 1) := by decide +kernel
theorem dX9_end_6 : decode cX9_end 6 = .ok (.getfield 10, 3) := by decide +kernel
theorem dX9_end_9 : decode cX9_end 9 = .ok (.getfield 89, 3) := by decide +kernel
theorem dX9_end_12 : decode cX9_end 12 = .ok (.if_icmp .le 5, 3) := by decide +kernel
theorem dX9_end_15 : decode cX9_end 15 = .ok (.iconst 0, 1) := by decide +kernel
theorem dX9_end_16 : decode cX9_end 16 = .ok (.ireturn, 1) := by decide +kernel
theorem dX9_end_17 : decode cX9_end 17 = .ok (.aload_n 0, 1) := by decide +kernel
theorem dX9_end_18 : decode cX9_end 18 = .ok (.getfield 10, 3) := by decide +kernel
theorem dX9_end_21 : decode cX9_end 21 = .ok (.iload_n 1, 1) := by decide +kernel
theorem dX9_end_22 : decode cX9_end 22 = .ok (.putfield 89, 3) := by decide +kernel
theorem dX9_end_25 : decode cX9_end 25 = .ok (.iconst 1, 1) := by decide +kernel
theorem dX9_end_26 : decode cX9_end 26 = .ok (.ireturn, 1) := by decide +kernel
theorem dX9_fault_0 : decode cX9_fault 0 = .ok (.aload_n 0, 1) := by decide +kernel
theorem dX9_fault_1 : decode cX9_fault 1 = .ok (.getfield 10, 3) := by decide +kernel
theorem dX9_fault_4 : decode cX9_fault 4 = .ok (.invokevirtual 96, 3) := by decide +kernel
theorem dX9_fault_7 : decode cX9_fault 7 = .ok (.ireturn, 1) := by decide +kernel
theorem dX9_sale_0 : decode cX9_sale 0 = .ok (.aload_n 0, 1) := by decide +kernel
theorem dX9_sale_1 : decode cX9_sale 1 = .ok (.getfield 22, 3) := by decide +kernel
theorem dX9_sale_4 : decode cX9_sale 4 = .ok (.bipush 8, 2) := by decide +kernel
theorem dX9_sale_6 : decode cX9_sale 6 = .ok (.if_icmp .ge 14, 3) := by decide +kernel
theorem dX9_sale_9 : decode cX9_sale 9 = .ok (.aload_n 0, 1) := by decide +kernel
theorem dX9_sale_10 : decode cX9_sale 10 = .ok (.getfield 10, 3) := by decide +kernel
theorem dX9_sale_13 : decode cX9_sale 13 = .ok (.invokevirtual 96, 3) := by decide +kernel
theorem dX9_sale_16 : decode cX9_sale 16 = .ok (.iconst (-1), 1) := by decide +kernel
theorem dX9_sale_17 : decode cX9_sale 17 = .ok (.if_icmp .eq 5, 3) := by decide +kernel
theorem dX9_sale_20 : decode cX9_sale 20 = .ok (.iconst (-1), 1) := by decide +kernel
theorem dX9_sale_21 : decode cX9_sale 21 = .ok (.ireturn, 1) := by decide +kernel
theorem dX9_sale_22 : decode cX9_sale 22 = .ok (.aload_n 0, 1) := by decide +kernel
theorem dX9_sale_23 : decode cX9_sale 23 = .ok (.getfield 18, 3) := by decide +kernel
theorem dX9_sale_26 : decode cX9_sale 26 = .ok (.aload_n 0, 1) := by decide +kernel
theorem dX9_sale_27 : decode cX9_sale 27 = .ok (.getfield 22, 3) := by decide +kernel
theorem dX9_sale_30 : decode cX9_sale 30 = .ok (.aload_n 0, 1) := by decide +kernel
theorem dX9_sale_31 : decode cX9_sale 31 = .ok (.getfield 10, 3) := by decide +kernel
theorem dX9_sale_34 : decode cX9_sale 34 = .ok (.invokevirtual 100, 3) := by decide +kernel
theorem dX9_sale_37 : decode cX9_sale 37 = .ok (.aastore, 1) := by decide +kernel
theorem dX9_sale_38 : decode cX9_sale 38 = .ok (.aload_n 0, 1) := by decide +kernel
theorem dX9_sale_39 : decode cX9_sale 39 = .ok (.dup, 1) := by decide +kernel
theorem dX9_sale_40 : decode cX9_sale 40 = .ok (.getfield 22, 3) := by decide +kernel
theorem dX9_sale_43 : decode cX9_sale 43 = .ok (.iconst 1, 1) := by decide +kernel
theorem dX9_sale_44 : decode cX9_sale 44 = .ok (.iadd, 1) := by decide +kernel
theorem dX9_sale_45 : decode cX9_sale 45 = .ok (.putfield 22, 3) := by decide +kernel
theorem dX9_sale_48 : decode cX9_sale 48 = .ok (.aload_n 0, 1) := by decide +kernel
theorem dX9_sale_49 : decode cX9_sale 49 = .ok (.getfield 22, 3) := by decide +kernel
theorem dX9_sale_52 : decode cX9_sale 52 = .ok (.iconst 1, 1) := by decide +kernel
theorem dX9_sale_53 : decode cX9_sale 53 = .ok (.isub, 1) := by decide +kernel
theorem dX9_sale_54 : decode cX9_sale 54 = .ok (.ireturn, 1) := by decide +kernel
theorem dX9_told_0 : decode cX9_told 0 = .ok (.aload_n 0, 1) := by decide +kernel
theorem dX9_told_1 : decode cX9_told 1 = .ok (.iload_n 1, 1) := by decide +kernel
theorem dX9_told_2 : decode cX9_told 2 = .ok (.invokevirtual 104, 3) := by decide +kernel
theorem dX9_told_5 : decode cX9_told 5 = .ok (.astore_n 3, 1) := by decide +kernel
theorem dX9_told_6 : decode cX9_told 6 = .ok (.aload_n 3, 1) := by decide +kernel
theorem dX9_told_7 : decode cX9_told 7 = .ok (.ifnonnull 5, 3) := by decide +kernel
theorem dX9_told_10 : decode cX9_told 10 = .ok (.iconst (-1), 1) := by decide +kernel
theorem dX9_told_11 : decode cX9_told 11 = .ok (.ireturn, 1) := by decide +kernel
theorem dX9_told_12 : decode cX9_told 12 = .ok (.iload_n 2, 1) := by decide +kernel
theorem dX9_told_13 : decode cX9_told 13 = .ok (.tableswitch 69 0 5 #[39, 44, 49, 54, 59, 64], 39) := by decide +kernel
theorem dX9_told_52 : decode cX9_told 52 = .ok (.aload_n 3, 1) := by decide +kernel
theorem dX9_told_53 : decode cX9_told 53 = .ok (.getfield 108, 3) := by decide +kernel
theorem dX9_told_56 : decode cX9_told 56 = .ok (.ireturn, 1) := by decide +kernel
theorem dX9_told_57 : decode cX9_told 57 = .ok (.aload_n 3, 1) := by decide +kernel
theorem dX9_told_58 : decode cX9_told 58 = .ok (.getfield 111, 3) := by decide +kernel
theorem dX9_told_61 : decode cX9_told 61 = .ok (.ireturn, 1) := by decide +kernel
theorem dX9_told_62 : decode cX9_told 62 = .ok (.aload_n 3, 1) := by decide +kernel
theorem dX9_told_63 : decode cX9_told 63 = .ok (.getfield 114, 3) := by decide +kernel
theorem dX9_told_66 : decode cX9_told 66 = .ok (.ireturn, 1) := by decide +kernel
theorem dX9_told_67 : decode cX9_told 67 = .ok (.aload_n 3, 1) := by decide +kernel
theorem dX9_told_68 : decode cX9_told 68 = .ok (.getfield 117, 3) := by decide +kernel
theorem dX9_told_71 : decode cX9_told 71 = .ok (.ireturn, 1) := by decide +kernel
theorem dX9_told_72 : decode cX9_told 72 = .ok (.aload_n 3, 1) := by decide +kernel
theorem dX9_told_73 : decode cX9_told 73 = .ok (.getfield 120, 3) := by decide +kernel
theorem dX9_told_76 : decode cX9_told 76 = .ok (.ireturn, 1) := by decide +kernel
theorem dX9_told_77 : decode cX9_told 77 = .ok (.aload_n 3, 1) := by decide +kernel
theorem dX9_told_78 : decode cX9_told 78 = .ok (.invokevirtual 123, 3) := by decide +kernel
theorem dX9_told_81 : decode cX9_told 81 = .ok (.ireturn, 1) := by decide +kernel
theorem dX9_told_82 : decode cX9_told 82 = .ok (.iconst (-1), 1) := by decide +kernel
theorem dX9_told_83 : decode cX9_told 83 = .ok (.ireturn, 1) := by decide +kernel
theorem dX9_truth_0 : decode cX9_truth 0 = .ok (.aload_n 0, 1) := by decide +kernel
theorem dX9_truth_1 : decode cX9_truth 1 = .ok (.iload_n 1, 1) := by decide +kernel
theorem dX9_truth_2 : decode cX9_truth 2 = .ok (.invokevirtual 104, 3) := by decide +kernel
theorem dX9_truth_5 : decode cX9_truth 5 = .ok (.astore 4, 2) := by decide +kernel
theorem dX9_truth_7 : decode cX9_truth 7 = .ok (.aload 4, 2) := by decide +kernel
theorem dX9_truth_9 : decode cX9_truth 9 = .ok (.ifnull 16, 3) := by decide +kernel
theorem dX9_truth_12 : decode cX9_truth 12 = .ok (.iload_n 2, 1) := by decide +kernel
theorem dX9_truth_13 : decode cX9_truth 13 = .ok (.ifCond .lt 12, 3) := by decide +kernel
theorem dX9_truth_16 : decode cX9_truth 16 = .ok (.iload_n 2, 1) := by decide +kernel
theorem dX9_truth_17 : decode cX9_truth 17 = .ok (.aload 4, 2) := by decide +kernel
theorem dX9_truth_19 : decode cX9_truth 19 = .ok (.getfield 111, 3) := by decide +kernel
theorem dX9_truth_22 : decode cX9_truth 22 = .ok (.if_icmp .lt 13, 3) := by decide +kernel
theorem dX9_truth_25 : decode cX9_truth 25 = .ok (.new 126, 3) := by decide +kernel
theorem dX9_truth_28 : decode cX9_truth 28 = .ok (.dup, 1) := by decide +kernel
theorem dX9_truth_29 : decode cX9_truth 29 = .ok (.ldc 128, 2) := by decide +kernel
theorem dX9_truth_31 : decode cX9_truth 31 = .ok (.invokespecial 130, 3) := by decide +kernel
theorem dX9_truth_34 : decode cX9_truth 34 = .ok (.athrow, 1) := by decide +kernel
theorem dX9_truth_35 : decode cX9_truth 35 = .ok (.iload_n 3, 1) := by decide +kernel
theorem dX9_truth_36 : decode cX9_truth 36 = .ok (.iconst 5, 1) := by decide +kernel
theorem dX9_truth_37 : decode cX9_truth 37 = .ok (.if_icmp .ne 11, 3) := by decide +kernel
theorem dX9_truth_40 : decode cX9_truth 40 = .ok (.aload 4, 2) := by decide +kernel
theorem dX9_truth_42 : decode cX9_truth 42 = .ok (.getfield 133, 3) := by decide +kernel
theorem dX9_truth_45 : decode cX9_truth 45 = .ok (.iload_n 2, 1) := by decide +kernel
theorem dX9_truth_46 : decode cX9_truth 46 = .ok (.iaload, 1) := by decide +kernel
theorem dX9_truth_47 : decode cX9_truth 47 = .ok (.ireturn, 1) := by decide +kernel
theorem dX9_truth_48 : decode cX9_truth 48 = .ok (.iload_n 3, 1) := by decide +kernel
theorem dX9_truth_49 : decode cX9_truth 49 = .ok (.bipush 6, 2) := by decide +kernel
theorem dX9_truth_51 : decode cX9_truth 51 = .ok (.if_icmp .ne 11, 3) := by decide +kernel
theorem dX9_truth_54 : decode cX9_truth 54 = .ok (.aload 4, 2) := by decide +kernel
theorem dX9_truth_56 : decode cX9_truth 56 = .ok (.getfield 136, 3) := by decide +kernel
theorem dX9_truth_59 : decode cX9_truth 59 = .ok (.iload_n 2, 1) := by decide +kernel
theorem dX9_truth_60 : decode cX9_truth 60 = .ok (.iaload, 1) := by decide +kernel
theorem dX9_truth_61 : decode cX9_truth 61 = .ok (.ireturn, 1) := by decide +kernel
theorem dX9_truth_62 : decode cX9_truth 62 = .ok (.iload_n 3, 1) := by decide +kernel
theorem dX9_truth_63 : decode cX9_truth 63 = .ok (.ifCond .lt 12, 3) := by decide +kernel
theorem dX9_truth_66 : decode cX9_truth 66 = .ok (.iload_n 3, 1) := by decide +kernel
theorem dX9_truth_67 : decode cX9_truth 67 = .ok (.aload 4, 2) := by decide +kernel
theorem dX9_truth_69 : decode cX9_truth 69 = .ok (.getfield 108, 3) := by decide +kernel
theorem dX9_truth_72 : decode cX9_truth 72 = .ok (.if_icmp .lt 13, 3) := by decide +kernel
theorem dX9_truth_75 : decode cX9_truth 75 = .ok (.new 126, 3) := by decide +kernel
theorem dX9_truth_78 : decode cX9_truth 78 = .ok (.dup, 1) := by decide +kernel
theorem dX9_truth_79 : decode cX9_truth 79 = .ok (.ldc 139, 2) := by decide +kernel
theorem dX9_truth_81 : decode cX9_truth 81 = .ok (.invokespecial 130, 3) := by decide +kernel
theorem dX9_truth_84 : decode cX9_truth 84 = .ok (.athrow, 1) := by decide +kernel
theorem dX9_truth_85 : decode cX9_truth 85 = .ok (.aload 4, 2) := by decide +kernel
theorem dX9_truth_87 : decode cX9_truth 87 = .ok (.iload_n 2, 1) := by decide +kernel
theorem dX9_truth_88 : decode cX9_truth 88 = .ok (.iload_n 3, 1) := by decide +kernel
theorem dX9_truth_89 : decode cX9_truth 89 = .ok (.invokevirtual 141, 3) := by decide +kernel
theorem dX9_truth_92 : decode cX9_truth 92 = .ok (.ireturn, 1) := by decide +kernel
theorem dX9_change_0 : decode cX9_change 0 = .ok (.aload_n 0, 1) := by decide +kernel
theorem dX9_change_1 : decode cX9_change 1 = .ok (.iload_n 1, 1) := by decide +kernel
theorem dX9_change_2 : decode cX9_change 2 = .ok (.invokevirtual 104, 3) := by decide +kernel
theorem dX9_change_5 : decode cX9_change 5 = .ok (.astore 4, 2) := by decide +kernel
theorem dX9_change_7 : decode cX9_change 7 = .ok (.aload 4, 2) := by decide +kernel
theorem dX9_change_9 : decode cX9_change 9 = .ok (.ifnonnull 5, 3) := by decide +kernel
theorem dX9_change_12 : decode cX9_change 12 = .ok (.iconst 0, 1) := by decide +kernel
theorem dX9_change_13 : decode cX9_change 13 = .ok (.ireturn, 1) := by decide +kernel
theorem dX9_change_14 : decode cX9_change 14 = .ok (.iload_n 2, 1) := by decide +kernel
theorem dX9_change_15 : decode cX9_change 15 = .ok (.ifCond .ne 21, 3) := by decide +kernel
theorem dX9_change_18 : decode cX9_change 18 = .ok (.iload_n 3, 1) := by decide +kernel
theorem dX9_change_19 : decode cX9_change 19 = .ok (.iconst 1, 1) := by decide +kernel
theorem dX9_change_20 : decode cX9_change 20 = .ok (.if_icmp .lt 16, 3) := by decide +kernel
theorem dX9_change_23 : decode cX9_change 23 = .ok (.iload_n 3, 1) := by decide +kernel
theorem dX9_change_24 : decode cX9_change 24 = .ok (.iconst 4, 1) := by decide +kernel
theorem dX9_change_25 : decode cX9_change 25 = .ok (.if_icmp .gt 11, 3) := by decide +kernel
theorem dX9_change_28 : decode cX9_change 28 = .ok (.aload 4, 2) := by decide +kernel
theorem dX9_change_30 : decode cX9_change 30 = .ok (.iload_n 3, 1) := by decide +kernel
theorem dX9_change_31 : decode cX9_change 31 = .ok (.putfield 114, 3) := by decide +kernel
theorem dX9_change_34 : decode cX9_change 34 = .ok (.iconst 1, 1) := by decide +kernel
theorem dX9_change_35 : decode cX9_change 35 = .ok (.ireturn, 1) := by decide +kernel
theorem dX9_change_36 : decode cX9_change 36 = .ok (.iload_n 2, 1) := by decide +kernel
theorem dX9_change_37 : decode cX9_change 37 = .ok (.iconst 1, 1) := by decide +kernel
theorem dX9_change_38 : decode cX9_change 38 = .ok (.if_icmp .ne 21, 3) := by decide +kernel
theorem dX9_change_41 : decode cX9_change 41 = .ok (.iload_n 3, 1) := by decide +kernel
theorem dX9_change_42 : decode cX9_change 42 = .ok (.ifCond .lt 17, 3) := by decide +kernel
theorem dX9_change_45 : decode cX9_change 45 = .ok (.iload_n 3, 1) := by decide +kernel
theorem dX9_change_46 : decode cX9_change 46 = .ok (.bipush 60, 2) := by decide +kernel
theorem dX9_change_48 : decode cX9_change 48 = .ok (.if_icmp .gt 11, 3) := by decide +kernel
theorem dX9_change_51 : decode cX9_change 51 = .ok (.aload 4, 2) := by decide +kernel
theorem dX9_change_53 : decode cX9_change 53 = .ok (.iload_n 3, 1) := by decide +kernel
theorem dX9_change_54 : decode cX9_change 54 = .ok (.putfield 117, 3) := by decide +kernel
theorem dX9_change_57 : decode cX9_change 57 = .ok (.iconst 1, 1) := by decide +kernel
theorem dX9_change_58 : decode cX9_change 58 = .ok (.ireturn, 1) := by decide +kernel
theorem dX9_change_59 : decode cX9_change 59 = .ok (.iload_n 2, 1) := by decide +kernel
theorem dX9_change_60 : decode cX9_change 60 = .ok (.iconst 2, 1) := by decide +kernel
theorem dX9_change_61 : decode cX9_change 61 = .ok (.if_icmp .ne 20, 3) := by decide +kernel
theorem dX9_change_64 : decode cX9_change 64 = .ok (.iload_n 3, 1) := by decide +kernel
theorem dX9_change_65 : decode cX9_change 65 = .ok (.ifCond .lt 16, 3) := by decide +kernel
theorem dX9_change_68 : decode cX9_change 68 = .ok (.iload_n 3, 1) := by decide +kernel
theorem dX9_change_69 : decode cX9_change 69 = .ok (.iconst 2, 1) := by decide +kernel
theorem dX9_change_70 : decode cX9_change 70 = .ok (.if_icmp .gt 11, 3) := by decide +kernel
theorem dX9_change_73 : decode cX9_change 73 = .ok (.aload 4, 2) := by decide +kernel
theorem dX9_change_75 : decode cX9_change 75 = .ok (.iload_n 3, 1) := by decide +kernel
theorem dX9_change_76 : decode cX9_change 76 = .ok (.putfield 120, 3) := by decide +kernel
theorem dX9_change_79 : decode cX9_change 79 = .ok (.iconst 1, 1) := by decide +kernel
theorem dX9_change_80 : decode cX9_change 80 = .ok (.ireturn, 1) := by decide +kernel
theorem dX9_change_81 : decode cX9_change 81 = .ok (.iconst 0, 1) := by decide +kernel
theorem dX9_change_82 : decode cX9_change 82 = .ok (.ireturn, 1) := by decide +kernel
theorem dX9_worth_0 : decode cX9_worth 0 = .ok (.aload_n 0, 1) := by decide +kernel
theorem dX9_worth_1 : decode cX9_worth 1 = .ok (.iload_n 1, 1) := by decide +kernel
theorem dX9_worth_2 : decode cX9_worth 2 = .ok (.invokevirtual 104, 3) := by decide +kernel
theorem dX9_worth_5 : decode cX9_worth 5 = .ok (.astore 7, 2) := by decide +kernel
theorem dX9_worth_7 : decode cX9_worth 7 = .ok (.aload 7, 2) := by decide +kernel
theorem dX9_worth_9 : decode cX9_worth 9 = .ok (.ifnull 20, 3) := by decide +kernel
theorem dX9_worth_12 : decode cX9_worth 12 = .ok (.aload 7, 2) := by decide +kernel
theorem dX9_worth_14 : decode cX9_worth 14 = .ok (.iload_n 2, 1) := by decide +kernel
theorem dX9_worth_15 : decode cX9_worth 15 = .ok (.invokevirtual 145, 3) := by decide +kernel
theorem dX9_worth_18 : decode cX9_worth 18 = .ok (.ifCond .eq 11, 3) := by decide +kernel
theorem dX9_worth_21 : decode cX9_worth 21 = .ok (.iload 6, 2) := by decide +kernel
theorem dX9_worth_23 : decode cX9_worth 23 = .ok (.invokestatic 149, 3) := by decide +kernel
theorem dX9_worth_26 : decode cX9_worth 26 = .ok (.ifCond .ne 5, 3) := by decide +kernel
theorem dX9_worth_29 : decode cX9_worth 29 = .ok (.iconst (-1), 1) := by decide +kernel
theorem dX9_worth_30 : decode cX9_worth 30 = .ok (.ireturn, 1) := by decide +kernel
theorem dX9_worth_31 : decode cX9_worth 31 = .ok (.aload 7, 2) := by decide +kernel
theorem dX9_worth_33 : decode cX9_worth 33 = .ok (.iload_n 3, 1) := by decide +kernel
theorem dX9_worth_34 : decode cX9_worth 34 = .ok (.invokestatic 152, 3) := by decide +kernel
theorem dX9_worth_37 : decode cX9_worth 37 = .ok (.ifCond .eq 37, 3) := by decide +kernel
theorem dX9_worth_40 : decode cX9_worth 40 = .ok (.aload 7, 2) := by decide +kernel
theorem dX9_worth_42 : decode cX9_worth 42 = .ok (.iload 4, 2) := by decide +kernel
theorem dX9_worth_44 : decode cX9_worth 44 = .ok (.invokestatic 152, 3) := by decide +kernel
theorem dX9_worth_47 : decode cX9_worth 47 = .ok (.ifCond .eq 27, 3) := by decide +kernel
theorem dX9_worth_50 : decode cX9_worth 50 = .ok (.aload 7, 2) := by decide +kernel
theorem dX9_worth_52 : decode cX9_worth 52 = .ok (.iload 5, 2) := by decide +kernel
theorem dX9_worth_54 : decode cX9_worth 54 = .ok (.invokestatic 152, 3) := by decide +kernel
theorem dX9_worth_57 : decode cX9_worth 57 = .ok (.ifCond .eq 17, 3) := by decide +kernel
theorem dX9_worth_60 : decode cX9_worth 60 = .ok (.aload 7, 2) := by decide +kernel
theorem dX9_worth_62 : decode cX9_worth 62 = .ok (.iload_n 2, 1) := by decide +kernel
theorem dX9_worth_63 : decode cX9_worth 63 = .ok (.iload_n 3, 1) := by decide +kernel
theorem dX9_worth_64 : decode cX9_worth 64 = .ok (.iload 4, 2) := by decide +kernel
theorem dX9_worth_66 : decode cX9_worth 66 = .ok (.iload 5, 2) := by decide +kernel
theorem dX9_worth_68 : decode cX9_worth 68 = .ok (.invokevirtual 156, 3) := by decide +kernel
theorem dX9_worth_71 : decode cX9_worth 71 = .ok (.ifCond .ne 5, 3) := by decide +kernel
theorem dX9_worth_74 : decode cX9_worth 74 = .ok (.iconst (-1), 1) := by decide +kernel
theorem dX9_worth_75 : decode cX9_worth 75 = .ok (.ireturn, 1) := by decide +kernel
theorem dX9_worth_76 : decode cX9_worth 76 = .ok (.aload 7, 2) := by decide +kernel
theorem dX9_worth_78 : decode cX9_worth 78 = .ok (.getfield 160, 3) := by decide +kernel
theorem dX9_worth_81 : decode cX9_worth 81 = .ok (.aload 7, 2) := by decide +kernel
theorem dX9_worth_83 : decode cX9_worth 83 = .ok (.getfield 164, 3) := by decide +kernel
theorem dX9_worth_86 : decode cX9_worth 86 = .ok (.iload 6, 2) := by decide +kernel
theorem dX9_worth_88 : decode cX9_worth 88 = .ok (.invokestatic 167, 3) := by decide +kernel
theorem dX9_worth_91 : decode cX9_worth 91 = .ok (.l2i, 1) := by decide +kernel
theorem dX9_worth_92 : decode cX9_worth 92 = .ok (.ireturn, 1) := by decide +kernel
theorem dX9_table_0 : decode cX9_table 0 = .ok (.aload_n 0, 1) := by decide +kernel
theorem dX9_table_1 : decode cX9_table 1 = .ok (.getfield 30, 3) := by decide +kernel
theorem dX9_table_4 : decode cX9_table 4 = .ok (.bipush 10, 2) := by decide +kernel
theorem dX9_table_6 : decode cX9_table 6 = .ok (.if_icmp .lt 5, 3) := by decide +kernel
theorem dX9_table_9 : decode cX9_table 9 = .ok (.iconst (-1), 1) := by decide +kernel
theorem dX9_table_10 : decode cX9_table 10 = .ok (.ireturn, 1) := by decide +kernel
theorem dX9_table_11 : decode cX9_table 11 = .ok (.aload_n 0, 1) := by decide +kernel
theorem dX9_table_12 : decode cX9_table 12 = .ok (.dup, 1) := by decide +kernel
theorem dX9_table_13 : decode cX9_table 13 = .ok (.getfield 30, 3) := by decide +kernel
theorem dX9_table_16 : decode cX9_table 16 = .ok (.iconst 1, 1) := by decide +kernel
theorem dX9_table_17 : decode cX9_table 17 = .ok (.iadd, 1) := by decide +kernel
theorem dX9_table_18 : decode cX9_table 18 = .ok (.putfield 30, 3) := by decide +kernel
theorem dX9_table_21 : decode cX9_table 21 = .ok (.aload_n 0, 1) := by decide +kernel
theorem dX9_table_22 : decode cX9_table 22 = .ok (.getfield 30, 3) := by decide +kernel
theorem dX9_table_25 : decode cX9_table 25 = .ok (.iconst 1, 1) := by decide +kernel
theorem dX9_table_26 : decode cX9_table 26 = .ok (.isub, 1) := by decide +kernel
theorem dX9_table_27 : decode cX9_table 27 = .ok (.ireturn, 1) := by decide +kernel
theorem dX9_bid_0 : decode cX9_bid 0 = .ok (.aload_n 0, 1) := by decide +kernel
theorem dX9_bid_1 : decode cX9_bid 1 = .ok (.iload_n 1, 1) := by decide +kernel
theorem dX9_bid_2 : decode cX9_bid 2 = .ok (.invokevirtual 171, 3) := by decide +kernel
theorem dX9_bid_5 : decode cX9_bid 5 = .ok (.ifCond .eq 22, 3) := by decide +kernel
theorem dX9_bid_8 : decode cX9_bid 8 = .ok (.iload_n 2, 1) := by decide +kernel
theorem dX9_bid_9 : decode cX9_bid 9 = .ok (.ifCond .lt 18, 3) := by decide +kernel
theorem dX9_bid_12 : decode cX9_bid 12 = .ok (.iload_n 2, 1) := by decide +kernel
theorem dX9_bid_13 : decode cX9_bid 13 = .ok (.iconst 5, 1) := by decide +kernel
theorem dX9_bid_14 : decode cX9_bid 14 = .ok (.if_icmp .ge 13, 3) := by decide +kernel
theorem dX9_bid_17 : decode cX9_bid 17 = .ok (.iload_n 3, 1) := by decide +kernel
theorem dX9_bid_18 : decode cX9_bid 18 = .ok (.ifCond .lt 9, 3) := by decide +kernel
theorem dX9_bid_21 : decode cX9_bid 21 = .ok (.iload_n 3, 1) := by decide +kernel
theorem dX9_bid_22 : decode cX9_bid 22 = .ok (.bipush 60, 2) := by decide +kernel
theorem dX9_bid_24 : decode cX9_bid 24 = .ok (.if_icmp .le 5, 3) := by decide +kernel
theorem dX9_bid_27 : decode cX9_bid 27 = .ok (.iconst 0, 1) := by decide +kernel
theorem dX9_bid_28 : decode cX9_bid 28 = .ok (.ireturn, 1) := by decide +kernel
theorem dX9_bid_29 : decode cX9_bid 29 = .ok (.aload_n 0, 1) := by decide +kernel
theorem dX9_bid_30 : decode cX9_bid 30 = .ok (.getfield 26, 3) := by decide +kernel
theorem dX9_bid_33 : decode cX9_bid 33 = .ok (.iload_n 1, 1) := by decide +kernel
theorem dX9_bid_34 : decode cX9_bid 34 = .ok (.iconst 5, 1) := by decide +kernel
theorem dX9_bid_35 : decode cX9_bid 35 = .ok (.imul, 1) := by decide +kernel
theorem dX9_bid_36 : decode cX9_bid 36 = .ok (.iload_n 2, 1) := by decide +kernel
theorem dX9_bid_37 : decode cX9_bid 37 = .ok (.iadd, 1) := by decide +kernel
theorem dX9_bid_38 : decode cX9_bid 38 = .ok (.iload_n 3, 1) := by decide +kernel
theorem dX9_bid_39 : decode cX9_bid 39 = .ok (.iastore, 1) := by decide +kernel
theorem dX9_bid_40 : decode cX9_bid 40 = .ok (.iconst 1, 1) := by decide +kernel
theorem dX9_bid_41 : decode cX9_bid 41 = .ok (.ireturn, 1) := by decide +kernel
theorem dX9_seat_0 : decode cX9_seat 0 = .ok (.aload_n 0, 1) := by decide +kernel
theorem dX9_seat_1 : decode cX9_seat 1 = .ok (.iload_n 1, 1) := by decide +kernel
theorem dX9_seat_2 : decode cX9_seat 2 = .ok (.invokevirtual 104, 3) := by decide +kernel
theorem dX9_seat_5 : decode cX9_seat 5 = .ok (.astore 4, 2) := by decide +kernel
theorem dX9_seat_7 : decode cX9_seat 7 = .ok (.aload 4, 2) := by decide +kernel
theorem dX9_seat_9 : decode cX9_seat 9 = .ok (.ifnull 12, 3) := by decide +kernel
theorem dX9_seat_12 : decode cX9_seat 12 = .ok (.iload_n 2, 1) := by decide +kernel
theorem dX9_seat_13 : decode cX9_seat 13 = .ok (.ifCond .lt 8, 3) := by decide +kernel
theorem dX9_seat_16 : decode cX9_seat 16 = .ok (.iload_n 2, 1) := by decide +kernel
theorem dX9_seat_17 : decode cX9_seat 17 = .ok (.iconst 4, 1) := by decide +kernel
theorem dX9_seat_18 : decode cX9_seat 18 = .ok (.if_icmp .lt 5, 3) := by decide +kernel
theorem dX9_seat_21 : decode cX9_seat 21 = .ok (.iconst 0, 1) := by decide +kernel
theorem dX9_seat_22 : decode cX9_seat 22 = .ok (.ireturn, 1) := by decide +kernel
theorem dX9_seat_23 : decode cX9_seat 23 = .ok (.iload_n 3, 1) := by decide +kernel
theorem dX9_seat_24 : decode cX9_seat 24 = .ok (.iconst (-1), 1) := by decide +kernel
theorem dX9_seat_25 : decode cX9_seat 25 = .ok (.if_icmp .eq 19, 3) := by decide +kernel
theorem dX9_seat_28 : decode cX9_seat 28 = .ok (.iload_n 3, 1) := by decide +kernel
theorem dX9_seat_29 : decode cX9_seat 29 = .ok (.bipush (-2), 2) := by decide +kernel
theorem dX9_seat_31 : decode cX9_seat 31 = .ok (.if_icmp .eq 13, 3) := by decide +kernel
theorem dX9_seat_34 : decode cX9_seat 34 = .ok (.aload_n 0, 1) := by decide +kernel
theorem dX9_seat_35 : decode cX9_seat 35 = .ok (.iload_n 3, 1) := by decide +kernel
theorem dX9_seat_36 : decode cX9_seat 36 = .ok (.invokevirtual 171, 3) := by decide +kernel
theorem dX9_seat_39 : decode cX9_seat 39 = .ok (.ifCond .ne 5, 3) := by decide +kernel
theorem dX9_seat_42 : decode cX9_seat 42 = .ok (.iconst 0, 1) := by decide +kernel
theorem dX9_seat_43 : decode cX9_seat 43 = .ok (.ireturn, 1) := by decide +kernel
theorem dX9_seat_44 : decode cX9_seat 44 = .ok (.aload 4, 2) := by decide +kernel
theorem dX9_seat_46 : decode cX9_seat 46 = .ok (.getfield 174, 3) := by decide +kernel
theorem dX9_seat_49 : decode cX9_seat 49 = .ok (.iload_n 2, 1) := by decide +kernel
theorem dX9_seat_50 : decode cX9_seat 50 = .ok (.iload_n 3, 1) := by decide +kernel
theorem dX9_seat_51 : decode cX9_seat 51 = .ok (.iastore, 1) := by decide +kernel
theorem dX9_seat_52 : decode cX9_seat 52 = .ok (.iconst 1, 1) := by decide +kernel
theorem dX9_seat_53 : decode cX9_seat 53 = .ok (.ireturn, 1) := by decide +kernel
theorem dX9_bids_0 : decode cX9_bids 0 = .ok (.aload_n 0, 1) := by decide +kernel
theorem dX9_bids_1 : decode cX9_bids 1 = .ok (.iload_n 1, 1) := by decide +kernel
theorem dX9_bids_2 : decode cX9_bids 2 = .ok (.invokevirtual 104, 3) := by decide +kernel
theorem dX9_bids_5 : decode cX9_bids 5 = .ok (.astore 4, 2) := by decide +kernel
theorem dX9_bids_7 : decode cX9_bids 7 = .ok (.aload 4, 2) := by decide +kernel
theorem dX9_bids_9 : decode cX9_bids 9 = .ok (.ifnull 21, 3) := by decide +kernel
theorem dX9_bids_12 : decode cX9_bids 12 = .ok (.aload 4, 2) := by decide +kernel
theorem dX9_bids_14 : decode cX9_bids 14 = .ok (.iload_n 2, 1) := by decide +kernel
theorem dX9_bids_15 : decode cX9_bids 15 = .ok (.invokevirtual 177, 3) := by decide +kernel
theorem dX9_bids_18 : decode cX9_bids 18 = .ok (.ifCond .eq 12, 3) := by decide +kernel
theorem dX9_bids_21 : decode cX9_bids 21 = .ok (.aload 4, 2) := by decide +kernel
theorem dX9_bids_23 : decode cX9_bids 23 = .ok (.iload_n 3, 1) := by decide +kernel
theorem dX9_bids_24 : decode cX9_bids 24 = .ok (.invokevirtual 145, 3) := by decide +kernel
theorem dX9_bids_27 : decode cX9_bids 27 = .ok (.ifCond .ne 5, 3) := by decide +kernel
theorem dX9_bids_30 : decode cX9_bids 30 = .ok (.iconst (-1), 1) := by decide +kernel
theorem dX9_bids_31 : decode cX9_bids 31 = .ok (.ireturn, 1) := by decide +kernel
theorem dX9_bids_32 : decode cX9_bids 32 = .ok (.aload_n 0, 1) := by decide +kernel
theorem dX9_bids_33 : decode cX9_bids 33 = .ok (.aload 4, 2) := by decide +kernel
theorem dX9_bids_35 : decode cX9_bids 35 = .ok (.iload_n 2, 1) := by decide +kernel
theorem dX9_bids_36 : decode cX9_bids 36 = .ok (.iload_n 3, 1) := by decide +kernel
theorem dX9_bids_37 : decode cX9_bids 37 = .ok (.iconst (-1), 1) := by decide +kernel
theorem dX9_bids_38 : decode cX9_bids 38 = .ok (.invokevirtual 180, 3) := by decide +kernel
theorem dX9_bids_41 : decode cX9_bids 41 = .ok (.ireturn, 1) := by decide +kernel
theorem dX9_cases_0 : decode cX9_cases 0 = .ok (.aload_n 0, 1) := by decide +kernel
theorem dX9_cases_1 : decode cX9_cases 1 = .ok (.iload_n 1, 1) := by decide +kernel
theorem dX9_cases_2 : decode cX9_cases 2 = .ok (.invokevirtual 104, 3) := by decide +kernel
theorem dX9_cases_5 : decode cX9_cases 5 = .ok (.astore_n 3, 1) := by decide +kernel
theorem dX9_cases_6 : decode cX9_cases 6 = .ok (.aload_n 3, 1) := by decide +kernel
theorem dX9_cases_7 : decode cX9_cases 7 = .ok (.ifnull 12, 3) := by decide +kernel
theorem dX9_cases_10 : decode cX9_cases 10 = .ok (.iload_n 2, 1) := by decide +kernel
theorem dX9_cases_11 : decode cX9_cases 11 = .ok (.ifCond .lt 8, 3) := by decide +kernel
theorem dX9_cases_14 : decode cX9_cases 14 = .ok (.iload_n 2, 1) := by decide +kernel
theorem dX9_cases_15 : decode cX9_cases 15 = .ok (.iconst 3, 1) := by decide +kernel
theorem dX9_cases_16 : decode cX9_cases 16 = .ok (.if_icmp .le 7, 3) := by decide +kernel
theorem dX9_cases_19 : decode cX9_cases 19 = .ok (.ldc2_w 184, 3) := by decide +kernel
theorem dX9_cases_22 : decode cX9_cases 22 = .ok (.lreturn, 1) := by decide +kernel
theorem dX9_cases_23 : decode cX9_cases 23 = .ok (.aload_n 0, 1) := by decide +kernel
theorem dX9_cases_24 : decode cX9_cases 24 = .ok (.aload_n 3, 1) := by decide +kernel
theorem dX9_cases_25 : decode cX9_cases 25 = .ok (.invokevirtual 186, 3) := by decide +kernel
theorem dX9_cases_28 : decode cX9_cases 28 = .ok (.iload_n 2, 1) := by decide +kernel
theorem dX9_cases_29 : decode cX9_cases 29 = .ok (.tableswitch 51 0 2 #[27, 35, 43], 27) := by decide +kernel
theorem dX9_cases_56 : decode cX9_cases 56 = .ok (.aload_n 0, 1) := by decide +kernel
theorem dX9_cases_57 : decode cX9_cases 57 = .ok (.getfield 46, 3) := by decide +kernel
theorem dX9_cases_60 : decode cX9_cases 60 = .ok (.getfield 190, 3) := by decide +kernel
theorem dX9_cases_63 : decode cX9_cases 63 = .ok (.lreturn, 1) := by decide +kernel
theorem dX9_cases_64 : decode cX9_cases 64 = .ok (.aload_n 0, 1) := by decide +kernel
theorem dX9_cases_65 : decode cX9_cases 65 = .ok (.getfield 46, 3) := by decide +kernel
theorem dX9_cases_68 : decode cX9_cases 68 = .ok (.getfield 193, 3) := by decide +kernel
theorem dX9_cases_71 : decode cX9_cases 71 = .ok (.lreturn, 1) := by decide +kernel
theorem dX9_cases_72 : decode cX9_cases 72 = .ok (.aload_n 0, 1) := by decide +kernel
theorem dX9_cases_73 : decode cX9_cases 73 = .ok (.getfield 46, 3) := by decide +kernel
theorem dX9_cases_76 : decode cX9_cases 76 = .ok (.getfield 196, 3) := by decide +kernel
theorem dX9_cases_79 : decode cX9_cases 79 = .ok (.lreturn, 1) := by decide +kernel
theorem dX9_cases_80 : decode cX9_cases 80 = .ok (.aload_n 0, 1) := by decide +kernel
theorem dX9_cases_81 : decode cX9_cases 81 = .ok (.getfield 46, 3) := by decide +kernel
theorem dX9_cases_84 : decode cX9_cases 84 = .ok (.getfield 199, 3) := by decide +kernel
theorem dX9_cases_87 : decode cX9_cases 87 = .ok (.lreturn, 1) := by decide +kernel
theorem dX9_gain_0 : decode cX9_gain 0 = .ok (.aload_n 0, 1) := by decide +kernel
theorem dX9_gain_1 : decode cX9_gain 1 = .ok (.iload_n 1, 1) := by decide +kernel
theorem dX9_gain_2 : decode cX9_gain 2 = .ok (.invokevirtual 104, 3) := by decide +kernel
theorem dX9_gain_5 : decode cX9_gain 5 = .ok (.astore_n 3, 1) := by decide +kernel
theorem dX9_gain_6 : decode cX9_gain 6 = .ok (.aload_n 3, 1) := by decide +kernel
theorem dX9_gain_7 : decode cX9_gain 7 = .ok (.ifnull 11, 3) := by decide +kernel
theorem dX9_gain_10 : decode cX9_gain 10 = .ok (.aload_n 3, 1) := by decide +kernel
theorem dX9_gain_11 : decode cX9_gain 11 = .ok (.iload_n 2, 1) := by decide +kernel
theorem dX9_gain_12 : decode cX9_gain 12 = .ok (.invokevirtual 177, 3) := by decide +kernel
theorem dX9_gain_15 : decode cX9_gain 15 = .ok (.ifCond .ne 7, 3) := by decide +kernel
theorem dX9_gain_18 : decode cX9_gain 18 = .ok (.ldc2_w 202, 3) := by decide +kernel
theorem dX9_gain_21 : decode cX9_gain 21 = .ok (.lreturn, 1) := by decide +kernel
theorem dX9_gain_22 : decode cX9_gain 22 = .ok (.aload_n 0, 1) := by decide +kernel
theorem dX9_gain_23 : decode cX9_gain 23 = .ok (.aload_n 3, 1) := by decide +kernel
theorem dX9_gain_24 : decode cX9_gain 24 = .ok (.invokevirtual 186, 3) := by decide +kernel
theorem dX9_gain_27 : decode cX9_gain 27 = .ok (.aload_n 0, 1) := by decide +kernel
theorem dX9_gain_28 : decode cX9_gain 28 = .ok (.getfield 46, 3) := by decide +kernel
theorem dX9_gain_31 : decode cX9_gain 31 = .ok (.getfield 204, 3) := by decide +kernel
theorem dX9_gain_34 : decode cX9_gain 34 = .ok (.iload_n 2, 1) := by decide +kernel
theorem dX9_gain_35 : decode cX9_gain 35 = .ok (.laload, 1) := by decide +kernel
theorem dX9_gain_36 : decode cX9_gain 36 = .ok (.lreturn, 1) := by decide +kernel
theorem dX9_won_0 : decode cX9_won 0 = .ok (.aload_n 0, 1) := by decide +kernel
theorem dX9_won_1 : decode cX9_won 1 = .ok (.iload_n 1, 1) := by decide +kernel
theorem dX9_won_2 : decode cX9_won 2 = .ok (.invokevirtual 104, 3) := by decide +kernel
theorem dX9_won_5 : decode cX9_won 5 = .ok (.astore 5, 2) := by decide +kernel
theorem dX9_won_7 : decode cX9_won 7 = .ok (.aload 5, 2) := by decide +kernel
theorem dX9_won_9 : decode cX9_won 9 = .ok (.ifnull 29, 3) := by decide +kernel
theorem dX9_won_12 : decode cX9_won 12 = .ok (.iload 4, 2) := by decide +kernel
theorem dX9_won_14 : decode cX9_won 14 = .ok (.invokestatic 149, 3) := by decide +kernel
theorem dX9_won_17 : decode cX9_won 17 = .ok (.ifCond .eq 21, 3) := by decide +kernel
theorem dX9_won_20 : decode cX9_won 20 = .ok (.aload 5, 2) := by decide +kernel
theorem dX9_won_22 : decode cX9_won 22 = .ok (.iload_n 2, 1) := by decide +kernel
theorem dX9_won_23 : decode cX9_won 23 = .ok (.invokevirtual 177, 3) := by decide +kernel
theorem dX9_won_26 : decode cX9_won 26 = .ok (.ifCond .eq 12, 3) := by decide +kernel
theorem dX9_won_29 : decode cX9_won 29 = .ok (.aload 5, 2) := by decide +kernel
theorem dX9_won_31 : decode cX9_won 31 = .ok (.iload_n 3, 1) := by decide +kernel
theorem dX9_won_32 : decode cX9_won 32 = .ok (.invokevirtual 145, 3) := by decide +kernel
theorem dX9_won_35 : decode cX9_won 35 = .ok (.ifCond .ne 7, 3) := by decide +kernel
theorem dX9_won_38 : decode cX9_won 38 = .ok (.ldc2_w 184, 3) := by decide +kernel
theorem dX9_won_41 : decode cX9_won 41 = .ok (.lreturn, 1) := by decide +kernel
theorem dX9_won_42 : decode cX9_won 42 = .ok (.aload_n 0, 1) := by decide +kernel
theorem dX9_won_43 : decode cX9_won 43 = .ok (.aload 5, 2) := by decide +kernel
theorem dX9_won_45 : decode cX9_won 45 = .ok (.invokevirtual 186, 3) := by decide +kernel
theorem dX9_won_48 : decode cX9_won 48 = .ok (.iload_n 2, 1) := by decide +kernel
theorem dX9_won_49 : decode cX9_won 49 = .ok (.iconst 5, 1) := by decide +kernel
theorem dX9_won_50 : decode cX9_won 50 = .ok (.imul, 1) := by decide +kernel
theorem dX9_won_51 : decode cX9_won 51 = .ok (.iload_n 3, 1) := by decide +kernel
theorem dX9_won_52 : decode cX9_won 52 = .ok (.iadd, 1) := by decide +kernel
theorem dX9_won_53 : decode cX9_won 53 = .ok (.istore 6, 2) := by decide +kernel
theorem dX9_won_55 : decode cX9_won 55 = .ok (.aload_n 0, 1) := by decide +kernel
theorem dX9_won_56 : decode cX9_won 56 = .ok (.getfield 46, 3) := by decide +kernel
theorem dX9_won_59 : decode cX9_won 59 = .ok (.getfield 208, 3) := by decide +kernel
theorem dX9_won_62 : decode cX9_won 62 = .ok (.iload 6, 2) := by decide +kernel
theorem dX9_won_64 : decode cX9_won 64 = .ok (.laload, 1) := by decide +kernel
theorem dX9_won_65 : decode cX9_won 65 = .ok (.lconst 0, 1) := by decide +kernel
theorem dX9_won_66 : decode cX9_won 66 = .ok (.lcmp, 1) := by decide +kernel
theorem dX9_won_67 : decode cX9_won 67 = .ok (.ifCond .le 31, 3) := by decide +kernel
theorem dX9_won_70 : decode cX9_won 70 = .ok (.aload_n 0, 1) := by decide +kernel
theorem dX9_won_71 : decode cX9_won 71 = .ok (.getfield 46, 3) := by decide +kernel
theorem dX9_won_74 : decode cX9_won 74 = .ok (.getfield 211, 3) := by decide +kernel
theorem dX9_won_77 : decode cX9_won 77 = .ok (.iload 6, 2) := by decide +kernel
theorem dX9_won_79 : decode cX9_won 79 = .ok (.laload, 1) := by decide +kernel
theorem dX9_won_80 : decode cX9_won 80 = .ok (.aload_n 0, 1) := by decide +kernel
theorem dX9_won_81 : decode cX9_won 81 = .ok (.getfield 46, 3) := by decide +kernel
theorem dX9_won_84 : decode cX9_won 84 = .ok (.getfield 208, 3) := by decide +kernel
theorem dX9_won_87 : decode cX9_won 87 = .ok (.iload 6, 2) := by decide +kernel
theorem dX9_won_89 : decode cX9_won 89 = .ok (.laload, 1) := by decide +kernel
theorem dX9_won_90 : decode cX9_won 90 = .ok (.iload 4, 2) := by decide +kernel
theorem dX9_won_92 : decode cX9_won 92 = .ok (.invokestatic 167, 3) := by decide +kernel
theorem dX9_won_95 : decode cX9_won 95 = .ok (.goto 6, 3) := by decide +kernel
theorem dX9_won_98 : decode cX9_won 98 = .ok (.ldc2_w 184, 3) := by decide +kernel
theorem dX9_won_101 : decode cX9_won 101 = .ok (.lreturn, 1) := by decide +kernel
theorem dX9_less_0 : decode cX9_less 0 = .ok (.aload_n 0, 1) := by decide +kernel
theorem dX9_less_1 : decode cX9_less 1 = .ok (.iload_n 1, 1) := by decide +kernel
theorem dX9_less_2 : decode cX9_less 2 = .ok (.invokevirtual 104, 3) := by decide +kernel
theorem dX9_less_5 : decode cX9_less 5 = .ok (.astore 5, 2) := by decide +kernel
theorem dX9_less_7 : decode cX9_less 7 = .ok (.aload 5, 2) := by decide +kernel
theorem dX9_less_9 : decode cX9_less 9 = .ok (.ifnull 29, 3) := by decide +kernel
theorem dX9_less_12 : decode cX9_less 12 = .ok (.iload 4, 2) := by decide +kernel
theorem dX9_less_14 : decode cX9_less 14 = .ok (.invokestatic 149, 3) := by decide +kernel
theorem dX9_less_17 : decode cX9_less 17 = .ok (.ifCond .eq 21, 3) := by decide +kernel
theorem dX9_less_20 : decode cX9_less 20 = .ok (.aload 5, 2) := by decide +kernel
theorem dX9_less_22 : decode cX9_less 22 = .ok (.iload_n 2, 1) := by decide +kernel
theorem dX9_less_23 : decode cX9_less 23 = .ok (.invokevirtual 177, 3) := by decide +kernel
theorem dX9_less_26 : decode cX9_less 26 = .ok (.ifCond .eq 12, 3) := by decide +kernel
theorem dX9_less_29 : decode cX9_less 29 = .ok (.aload 5, 2) := by decide +kernel
theorem dX9_less_31 : decode cX9_less 31 = .ok (.iload_n 3, 1) := by decide +kernel
theorem dX9_less_32 : decode cX9_less 32 = .ok (.invokevirtual 145, 3) := by decide +kernel
theorem dX9_less_35 : decode cX9_less 35 = .ok (.ifCond .ne 7, 3) := by decide +kernel
theorem dX9_less_38 : decode cX9_less 38 = .ok (.ldc2_w 202, 3) := by decide +kernel
theorem dX9_less_41 : decode cX9_less 41 = .ok (.lreturn, 1) := by decide +kernel
theorem dX9_less_42 : decode cX9_less 42 = .ok (.aload_n 0, 1) := by decide +kernel
theorem dX9_less_43 : decode cX9_less 43 = .ok (.aload 5, 2) := by decide +kernel
theorem dX9_less_45 : decode cX9_less 45 = .ok (.invokevirtual 186, 3) := by decide +kernel
theorem dX9_less_48 : decode cX9_less 48 = .ok (.iload_n 2, 1) := by decide +kernel
theorem dX9_less_49 : decode cX9_less 49 = .ok (.iconst 5, 1) := by decide +kernel
theorem dX9_less_50 : decode cX9_less 50 = .ok (.imul, 1) := by decide +kernel
theorem dX9_less_51 : decode cX9_less 51 = .ok (.iload_n 3, 1) := by decide +kernel
theorem dX9_less_52 : decode cX9_less 52 = .ok (.iadd, 1) := by decide +kernel
theorem dX9_less_53 : decode cX9_less 53 = .ok (.istore 6, 2) := by decide +kernel
theorem dX9_less_55 : decode cX9_less 55 = .ok (.aload_n 0, 1) := by decide +kernel
theorem dX9_less_56 : decode cX9_less 56 = .ok (.getfield 46, 3) := by decide +kernel
theorem dX9_less_59 : decode cX9_less 59 = .ok (.getfield 208, 3) := by decide +kernel
theorem dX9_less_62 : decode cX9_less 62 = .ok (.iload 6, 2) := by decide +kernel
theorem dX9_less_64 : decode cX9_less 64 = .ok (.laload, 1) := by decide +kernel
theorem dX9_less_65 : decode cX9_less 65 = .ok (.lconst 0, 1) := by decide +kernel
theorem dX9_less_66 : decode cX9_less 66 = .ok (.lcmp, 1) := by decide +kernel
theorem dX9_less_67 : decode cX9_less 67 = .ok (.ifCond .le 15, 3) := by decide +kernel
theorem dX9_less_70 : decode cX9_less 70 = .ok (.aload 5, 2) := by decide +kernel
theorem dX9_less_72 : decode cX9_less 72 = .ok (.iload_n 3, 1) := by decide +kernel
theorem dX9_less_73 : decode cX9_less 73 = .ok (.iconst (-1), 1) := by decide +kernel
theorem dX9_less_74 : decode cX9_less 74 = .ok (.iconst (-1), 1) := by decide +kernel
theorem dX9_less_75 : decode cX9_less 75 = .ok (.iconst (-1), 1) := by decide +kernel
theorem dX9_less_76 : decode cX9_less 76 = .ok (.invokevirtual 156, 3) := by decide +kernel
theorem dX9_less_79 : decode cX9_less 79 = .ok (.ifCond .ne 7, 3) := by decide +kernel
theorem dX9_less_82 : decode cX9_less 82 = .ok (.ldc2_w 202, 3) := by decide +kernel
theorem dX9_less_85 : decode cX9_less 85 = .ok (.lreturn, 1) := by decide +kernel
theorem dX9_less_86 : decode cX9_less 86 = .ok (.aload 5, 2) := by decide +kernel
theorem dX9_less_88 : decode cX9_less 88 = .ok (.getfield 160, 3) := by decide +kernel
theorem dX9_less_91 : decode cX9_less 91 = .ok (.aload_n 0, 1) := by decide +kernel
theorem dX9_less_92 : decode cX9_less 92 = .ok (.getfield 46, 3) := by decide +kernel
theorem dX9_less_95 : decode cX9_less 95 = .ok (.getfield 208, 3) := by decide +kernel
theorem dX9_less_98 : decode cX9_less 98 = .ok (.iload 6, 2) := by decide +kernel
theorem dX9_less_100 : decode cX9_less 100 = .ok (.laload, 1) := by decide +kernel
theorem dX9_less_101 : decode cX9_less 101 = .ok (.lmul, 1) := by decide +kernel
theorem dX9_less_102 : decode cX9_less 102 = .ok (.aload_n 0, 1) := by decide +kernel
theorem dX9_less_103 : decode cX9_less 103 = .ok (.getfield 46, 3) := by decide +kernel
theorem dX9_less_106 : decode cX9_less 106 = .ok (.getfield 211, 3) := by decide +kernel
theorem dX9_less_109 : decode cX9_less 109 = .ok (.iload 6, 2) := by decide +kernel
theorem dX9_less_111 : decode cX9_less 111 = .ok (.laload, 1) := by decide +kernel
theorem dX9_less_112 : decode cX9_less 112 = .ok (.aload 5, 2) := by decide +kernel
theorem dX9_less_114 : decode cX9_less 114 = .ok (.getfield 164, 3) := by decide +kernel
theorem dX9_less_117 : decode cX9_less 117 = .ok (.lmul, 1) := by decide +kernel
theorem dX9_less_118 : decode cX9_less 118 = .ok (.lsub, 1) := by decide +kernel
theorem dX9_less_119 : decode cX9_less 119 = .ok (.lstore 7, 2) := by decide +kernel
theorem dX9_less_121 : decode cX9_less 121 = .ok (.lload 7, 2) := by decide +kernel
theorem dX9_less_123 : decode cX9_less 123 = .ok (.aload 5, 2) := by decide +kernel
theorem dX9_less_125 : decode cX9_less 125 = .ok (.getfield 164, 3) := by decide +kernel
theorem dX9_less_128 : decode cX9_less 128 = .ok (.aload_n 0, 1) := by decide +kernel
theorem dX9_less_129 : decode cX9_less 129 = .ok (.getfield 46, 3) := by decide +kernel
theorem dX9_less_132 : decode cX9_less 132 = .ok (.getfield 208, 3) := by decide +kernel
theorem dX9_less_135 : decode cX9_less 135 = .ok (.iload 6, 2) := by decide +kernel
theorem dX9_less_137 : decode cX9_less 137 = .ok (.laload, 1) := by decide +kernel
theorem dX9_less_138 : decode cX9_less 138 = .ok (.lmul, 1) := by decide +kernel
theorem dX9_less_139 : decode cX9_less 139 = .ok (.iload 4, 2) := by decide +kernel
theorem dX9_less_141 : decode cX9_less 141 = .ok (.invokestatic 167, 3) := by decide +kernel
theorem dX9_less_144 : decode cX9_less 144 = .ok (.lreturn, 1) := by decide +kernel
theorem dX9_best_0 : decode cX9_best 0 = .ok (.aload_n 0, 1) := by decide +kernel
theorem dX9_best_1 : decode cX9_best 1 = .ok (.iload_n 1, 1) := by decide +kernel
theorem dX9_best_2 : decode cX9_best 2 = .ok (.invokevirtual 104, 3) := by decide +kernel
theorem dX9_best_5 : decode cX9_best 5 = .ok (.astore 4, 2) := by decide +kernel
theorem dX9_best_7 : decode cX9_best 7 = .ok (.aload 4, 2) := by decide +kernel
theorem dX9_best_9 : decode cX9_best 9 = .ok (.ifnull 21, 3) := by decide +kernel
theorem dX9_best_12 : decode cX9_best 12 = .ok (.aload 4, 2) := by decide +kernel
theorem dX9_best_14 : decode cX9_best 14 = .ok (.iload_n 2, 1) := by decide +kernel
theorem dX9_best_15 : decode cX9_best 15 = .ok (.invokevirtual 177, 3) := by decide +kernel
theorem dX9_best_18 : decode cX9_best 18 = .ok (.ifCond .eq 12, 3) := by decide +kernel
theorem dX9_best_21 : decode cX9_best 21 = .ok (.aload 4, 2) := by decide +kernel
theorem dX9_best_23 : decode cX9_best 23 = .ok (.iload_n 3, 1) := by decide +kernel
theorem dX9_best_24 : decode cX9_best 24 = .ok (.invokevirtual 145, 3) := by decide +kernel
theorem dX9_best_27 : decode cX9_best 27 = .ok (.ifCond .ne 5, 3) := by decide +kernel
theorem dX9_best_30 : decode cX9_best 30 = .ok (.iconst (-1), 1) := by decide +kernel
theorem dX9_best_31 : decode cX9_best 31 = .ok (.ireturn, 1) := by decide +kernel
theorem dX9_best_32 : decode cX9_best 32 = .ok (.aload_n 0, 1) := by decide +kernel
theorem dX9_best_33 : decode cX9_best 33 = .ok (.aload 4, 2) := by decide +kernel
theorem dX9_best_35 : decode cX9_best 35 = .ok (.iload_n 2, 1) := by decide +kernel
theorem dX9_best_36 : decode cX9_best 36 = .ok (.invokevirtual 214, 3) := by decide +kernel
theorem dX9_best_39 : decode cX9_best 39 = .ok (.aload_n 0, 1) := by decide +kernel
theorem dX9_best_40 : decode cX9_best 40 = .ok (.aload 4, 2) := by decide +kernel
theorem dX9_best_42 : decode cX9_best 42 = .ok (.iload_n 3, 1) := by decide +kernel
theorem dX9_best_43 : decode cX9_best 43 = .ok (.invokevirtual 218, 3) := by decide +kernel
theorem dX9_best_46 : decode cX9_best 46 = .ok (.aload_n 0, 1) := by decide +kernel
theorem dX9_best_47 : decode cX9_best 47 = .ok (.getfield 53, 3) := by decide +kernel
theorem dX9_best_50 : decode cX9_best 50 = .ok (.invokevirtual 221, 3) := by decide +kernel
theorem dX9_best_53 : decode cX9_best 53 = .ok (.ireturn, 1) := by decide +kernel
theorem dX9_judge_0 : decode cX9_judge 0 = .ok (.aload_n 0, 1) := by decide +kernel
theorem dX9_judge_1 : decode cX9_judge 1 = .ok (.iload_n 1, 1) := by decide +kernel
theorem dX9_judge_2 : decode cX9_judge 2 = .ok (.invokevirtual 104, 3) := by decide +kernel
theorem dX9_judge_5 : decode cX9_judge 5 = .ok (.astore_n 2, 1) := by decide +kernel
theorem dX9_judge_6 : decode cX9_judge 6 = .ok (.aload_n 2, 1) := by decide +kernel
theorem dX9_judge_7 : decode cX9_judge 7 = .ok (.ifnonnull 5, 3) := by decide +kernel
theorem dX9_judge_10 : decode cX9_judge 10 = .ok (.iconst (-1), 1) := by decide +kernel
theorem dX9_judge_11 : decode cX9_judge 11 = .ok (.ireturn, 1) := by decide +kernel
theorem dX9_judge_12 : decode cX9_judge 12 = .ok (.iconst 0, 1) := by decide +kernel
theorem dX9_judge_13 : decode cX9_judge 13 = .ok (.istore_n 3, 1) := by decide +kernel
theorem dX9_judge_14 : decode cX9_judge 14 = .ok (.iload_n 3, 1) := by decide +kernel
theorem dX9_judge_15 : decode cX9_judge 15 = .ok (.aload_n 2, 1) := by decide +kernel
theorem dX9_judge_16 : decode cX9_judge 16 = .ok (.getfield 114, 3) := by decide +kernel
theorem dX9_judge_19 : decode cX9_judge 19 = .ok (.if_icmp .ge 67, 3) := by decide +kernel
theorem dX9_judge_22 : decode cX9_judge 22 = .ok (.aload_n 0, 1) := by decide +kernel
theorem dX9_judge_23 : decode cX9_judge 23 = .ok (.aload_n 2, 1) := by decide +kernel
theorem dX9_judge_24 : decode cX9_judge 24 = .ok (.iload_n 3, 1) := by decide +kernel
theorem dX9_judge_25 : decode cX9_judge 25 = .ok (.invokevirtual 214, 3) := by decide +kernel
theorem dX9_judge_28 : decode cX9_judge 28 = .ok (.iconst 0, 1) := by decide +kernel
theorem dX9_judge_29 : decode cX9_judge 29 = .ok (.istore 4, 2) := by decide +kernel
theorem dX9_judge_31 : decode cX9_judge 31 = .ok (.iload 4, 2) := by decide +kernel
theorem dX9_judge_33 : decode cX9_judge 33 = .ok (.aload_n 2, 1) := by decide +kernel
theorem dX9_judge_34 : decode cX9_judge 34 = .ok (.getfield 108, 3) := by decide +kernel
theorem dX9_judge_37 : decode cX9_judge 37 = .ok (.if_icmp .ge 43, 3) := by decide +kernel
theorem dX9_judge_40 : decode cX9_judge 40 = .ok (.aload_n 0, 1) := by decide +kernel
theorem dX9_judge_41 : decode cX9_judge 41 = .ok (.aload_n 2, 1) := by decide +kernel
theorem dX9_judge_42 : decode cX9_judge 42 = .ok (.iload 4, 2) := by decide +kernel
theorem dX9_judge_44 : decode cX9_judge 44 = .ok (.invokevirtual 218, 3) := by decide +kernel
theorem dX9_judge_47 : decode cX9_judge 47 = .ok (.aload_n 0, 1) := by decide +kernel
theorem dX9_judge_48 : decode cX9_judge 48 = .ok (.getfield 53, 3) := by decide +kernel
theorem dX9_judge_51 : decode cX9_judge 51 = .ok (.aload_n 0, 1) := by decide +kernel
theorem dX9_judge_52 : decode cX9_judge 52 = .ok (.aload_n 2, 1) := by decide +kernel
theorem dX9_judge_53 : decode cX9_judge 53 = .ok (.iload_n 3, 1) := by decide +kernel
theorem dX9_judge_54 : decode cX9_judge 54 = .ok (.iload 4, 2) := by decide +kernel
theorem dX9_judge_56 : decode cX9_judge 56 = .ok (.iconst (-1), 1) := by decide +kernel
theorem dX9_judge_57 : decode cX9_judge 57 = .ok (.invokevirtual 180, 3) := by decide +kernel
theorem dX9_judge_60 : decode cX9_judge 60 = .ok (.invokevirtual 224, 3) := by decide +kernel
theorem dX9_judge_63 : decode cX9_judge 63 = .ok (.ifCond .ne 11, 3) := by decide +kernel
theorem dX9_judge_66 : decode cX9_judge 66 = .ok (.bipush 10, 2) := by decide +kernel
theorem dX9_judge_68 : decode cX9_judge 68 = .ok (.iload_n 3, 1) := by decide +kernel
theorem dX9_judge_69 : decode cX9_judge 69 = .ok (.imul, 1) := by decide +kernel
theorem dX9_judge_70 : decode cX9_judge 70 = .ok (.iload 4, 2) := by decide +kernel
theorem dX9_judge_72 : decode cX9_judge 72 = .ok (.iadd, 1) := by decide +kernel
theorem dX9_judge_73 : decode cX9_judge 73 = .ok (.ireturn, 1) := by decide +kernel
theorem dX9_judge_74 : decode cX9_judge 74 = .ok (.iinc 4 1, 3) := by decide +kernel
theorem dX9_judge_77 : decode cX9_judge 77 = .ok (.goto (-46), 3) := by decide +kernel
theorem dX9_judge_80 : decode cX9_judge 80 = .ok (.iinc 3 1, 3) := by decide +kernel
theorem dX9_judge_83 : decode cX9_judge 83 = .ok (.goto (-69), 3) := by decide +kernel
theorem dX9_judge_86 : decode cX9_judge 86 = .ok (.iconst (-1), 1) := by decide +kernel
theorem dX9_judge_87 : decode cX9_judge 87 = .ok (.ireturn, 1) := by decide +kernel
theorem dX9_find_0 : decode cX9_find 0 = .ok (.aload_n 0, 1) := by decide +kernel
theorem dX9_find_1 : decode cX9_find 1 = .ok (.iload_n 1, 1) := by decide +kernel
theorem dX9_find_2 : decode cX9_find 2 = .ok (.invokevirtual 104, 3) := by decide +kernel
theorem dX9_find_5 : decode cX9_find 5 = .ok (.astore_n 3, 1) := by decide +kernel
theorem dX9_find_6 : decode cX9_find 6 = .ok (.aload_n 3, 1) := by decide +kernel
theorem dX9_find_7 : decode cX9_find 7 = .ok (.ifnull 11, 3) := by decide +kernel
theorem dX9_find_10 : decode cX9_find 10 = .ok (.aload_n 0, 1) := by decide +kernel
theorem dX9_find_11 : decode cX9_find 11 = .ok (.iload_n 2, 1) := by decide +kernel
theorem dX9_find_12 : decode cX9_find 12 = .ok (.invokevirtual 171, 3) := by decide +kernel
theorem dX9_find_15 : decode cX9_find 15 = .ok (.ifCond .ne 5, 3) := by decide +kernel
theorem dX9_find_18 : decode cX9_find 18 = .ok (.iconst (-1), 1) := by decide +kernel
theorem dX9_find_19 : decode cX9_find 19 = .ok (.ireturn, 1) := by decide +kernel
theorem dX9_find_20 : decode cX9_find 20 = .ok (.iconst 0, 1) := by decide +kernel
theorem dX9_find_21 : decode cX9_find 21 = .ok (.istore 4, 2) := by decide +kernel
theorem dX9_find_23 : decode cX9_find 23 = .ok (.iload 4, 2) := by decide +kernel
theorem dX9_find_25 : decode cX9_find 25 = .ok (.aload_n 3, 1) := by decide +kernel
theorem dX9_find_26 : decode cX9_find 26 = .ok (.getfield 108, 3) := by decide +kernel
theorem dX9_find_29 : decode cX9_find 29 = .ok (.if_icmp .ge 28, 3) := by decide +kernel
theorem dX9_find_32 : decode cX9_find 32 = .ok (.aload_n 0, 1) := by decide +kernel
theorem dX9_find_33 : decode cX9_find 33 = .ok (.getfield 67, 3) := by decide +kernel
theorem dX9_find_36 : decode cX9_find 36 = .ok (.getfield 227, 3) := by decide +kernel
theorem dX9_find_39 : decode cX9_find 39 = .ok (.iload 4, 2) := by decide +kernel
theorem dX9_find_41 : decode cX9_find 41 = .ok (.aload_n 3, 1) := by decide +kernel
theorem dX9_find_42 : decode cX9_find 42 = .ok (.iload 4, 2) := by decide +kernel
theorem dX9_find_44 : decode cX9_find 44 = .ok (.iconst (-1), 1) := by decide +kernel
theorem dX9_find_45 : decode cX9_find 45 = .ok (.iconst (-1), 1) := by decide +kernel
theorem dX9_find_46 : decode cX9_find 46 = .ok (.iconst (-1), 1) := by decide +kernel
theorem dX9_find_47 : decode cX9_find 47 = .ok (.invokevirtual 230, 3) := by decide +kernel
theorem dX9_find_50 : decode cX9_find 50 = .ok (.iastore, 1) := by decide +kernel
theorem dX9_find_51 : decode cX9_find 51 = .ok (.iinc 4 1, 3) := by decide +kernel
theorem dX9_find_54 : decode cX9_find 54 = .ok (.goto (-31), 3) := by decide +kernel
theorem dX9_find_57 : decode cX9_find 57 = .ok (.aload_n 0, 1) := by decide +kernel
theorem dX9_find_58 : decode cX9_find 58 = .ok (.getfield 67, 3) := by decide +kernel
theorem dX9_find_61 : decode cX9_find 61 = .ok (.aload_n 3, 1) := by decide +kernel
theorem dX9_find_62 : decode cX9_find 62 = .ok (.getfield 108, 3) := by decide +kernel
theorem dX9_find_65 : decode cX9_find 65 = .ok (.invokevirtual 234, 3) := by decide +kernel
theorem dX9_find_68 : decode cX9_find 68 = .ok (.iconst 0, 1) := by decide +kernel
theorem dX9_find_69 : decode cX9_find 69 = .ok (.istore 4, 2) := by decide +kernel
theorem dX9_find_71 : decode cX9_find 71 = .ok (.iload 4, 2) := by decide +kernel
theorem dX9_find_73 : decode cX9_find 73 = .ok (.bipush 20, 2) := by decide +kernel
theorem dX9_find_75 : decode cX9_find 75 = .ok (.if_icmp .ge 31, 3) := by decide +kernel
theorem dX9_find_78 : decode cX9_find 78 = .ok (.aload_n 0, 1) := by decide +kernel
theorem dX9_find_79 : decode cX9_find 79 = .ok (.getfield 67, 3) := by decide +kernel
theorem dX9_find_82 : decode cX9_find 82 = .ok (.invokevirtual 237, 3) := by decide +kernel
theorem dX9_find_85 : decode cX9_find 85 = .ok (.ifCond .eq 21, 3) := by decide +kernel
theorem dX9_find_88 : decode cX9_find 88 = .ok (.aload_n 0, 1) := by decide +kernel
theorem dX9_find_89 : decode cX9_find 89 = .ok (.aload_n 3, 1) := by decide +kernel
theorem dX9_find_90 : decode cX9_find 90 = .ok (.invokevirtual 241, 3) := by decide +kernel
theorem dX9_find_93 : decode cX9_find 93 = .ok (.aload_n 0, 1) := by decide +kernel
theorem dX9_find_94 : decode cX9_find 94 = .ok (.getfield 67, 3) := by decide +kernel
theorem dX9_find_97 : decode cX9_find 97 = .ok (.invokevirtual 244, 3) := by decide +kernel
theorem dX9_find_100 : decode cX9_find 100 = .ok (.iinc 4 1, 3) := by decide +kernel
theorem dX9_find_103 : decode cX9_find 103 = .ok (.goto (-32), 3) := by decide +kernel
theorem dX9_find_106 : decode cX9_find 106 = .ok (.iconst 0, 1) := by decide +kernel
theorem dX9_find_107 : decode cX9_find 107 = .ok (.istore 4, 2) := by decide +kernel
theorem dX9_find_109 : decode cX9_find 109 = .ok (.iload 4, 2) := by decide +kernel
theorem dX9_find_111 : decode cX9_find 111 = .ok (.aload_n 3, 1) := by decide +kernel
theorem dX9_find_112 : decode cX9_find 112 = .ok (.getfield 108, 3) := by decide +kernel
theorem dX9_find_115 : decode cX9_find 115 = .ok (.if_icmp .ge 30, 3) := by decide +kernel
theorem dX9_find_118 : decode cX9_find 118 = .ok (.aload_n 0, 1) := by decide +kernel
theorem dX9_find_119 : decode cX9_find 119 = .ok (.getfield 26, 3) := by decide +kernel
theorem dX9_find_122 : decode cX9_find 122 = .ok (.iload_n 2, 1) := by decide +kernel
theorem dX9_find_123 : decode cX9_find 123 = .ok (.iconst 5, 1) := by decide +kernel
theorem dX9_find_124 : decode cX9_find 124 = .ok (.imul, 1) := by decide +kernel
theorem dX9_find_125 : decode cX9_find 125 = .ok (.iload 4, 2) := by decide +kernel
theorem dX9_find_127 : decode cX9_find 127 = .ok (.iadd, 1) := by decide +kernel
theorem dX9_find_128 : decode cX9_find 128 = .ok (.aload_n 0, 1) := by decide +kernel
theorem dX9_find_129 : decode cX9_find 129 = .ok (.getfield 67, 3) := by decide +kernel
theorem dX9_find_132 : decode cX9_find 132 = .ok (.getfield 227, 3) := by decide +kernel
theorem dX9_find_135 : decode cX9_find 135 = .ok (.iload 4, 2) := by decide +kernel
theorem dX9_find_137 : decode cX9_find 137 = .ok (.iaload, 1) := by decide +kernel
theorem dX9_find_138 : decode cX9_find 138 = .ok (.iastore, 1) := by decide +kernel
theorem dX9_find_139 : decode cX9_find 139 = .ok (.iinc 4 1, 3) := by decide +kernel
theorem dX9_find_142 : decode cX9_find 142 = .ok (.goto (-33), 3) := by decide +kernel
theorem dX9_find_145 : decode cX9_find 145 = .ok (.aload_n 0, 1) := by decide +kernel
theorem dX9_find_146 : decode cX9_find 146 = .ok (.getfield 67, 3) := by decide +kernel
theorem dX9_find_149 : decode cX9_find 149 = .ok (.getfield 247, 3) := by decide +kernel
theorem dX9_find_152 : decode cX9_find 152 = .ok (.ireturn, 1) := by decide +kernel
theorem dX9_by_0 : decode cX9_by 0 = .ok (.aload_n 0, 1) := by decide +kernel
theorem dX9_by_1 : decode cX9_by 1 = .ok (.iload_n 1, 1) := by decide +kernel
theorem dX9_by_2 : decode cX9_by 2 = .ok (.invokevirtual 104, 3) := by decide +kernel
theorem dX9_by_5 : decode cX9_by 5 = .ok (.astore 5, 2) := by decide +kernel
theorem dX9_by_7 : decode cX9_by 7 = .ok (.aload 5, 2) := by decide +kernel
theorem dX9_by_9 : decode cX9_by 9 = .ok (.ifnull 21, 3) := by decide +kernel
theorem dX9_by_12 : decode cX9_by 12 = .ok (.iload_n 2, 1) := by decide +kernel
theorem dX9_by_13 : decode cX9_by 13 = .ok (.iconst 1, 1) := by decide +kernel
theorem dX9_by_14 : decode cX9_by 14 = .ok (.if_icmp .lt 16, 3) := by decide +kernel
theorem dX9_by_17 : decode cX9_by 17 = .ok (.iload_n 2, 1) := by decide +kernel
theorem dX9_by_18 : decode cX9_by 18 = .ok (.iconst 4, 1) := by decide +kernel
theorem dX9_by_19 : decode cX9_by 19 = .ok (.if_icmp .gt 11, 3) := by decide +kernel
theorem dX9_by_22 : decode cX9_by 22 = .ok (.iload 4, 2) := by decide +kernel
theorem dX9_by_24 : decode cX9_by 24 = .ok (.invokestatic 149, 3) := by decide +kernel
theorem dX9_by_27 : decode cX9_by 27 = .ok (.ifCond .ne 7, 3) := by decide +kernel
theorem dX9_by_30 : decode cX9_by 30 = .ok (.ldc2_w 184, 3) := by decide +kernel
theorem dX9_by_33 : decode cX9_by 33 = .ok (.lreturn, 1) := by decide +kernel
theorem dX9_by_34 : decode cX9_by 34 = .ok (.aload_n 0, 1) := by decide +kernel
theorem dX9_by_35 : decode cX9_by 35 = .ok (.aload 5, 2) := by decide +kernel
theorem dX9_by_37 : decode cX9_by 37 = .ok (.iload_n 2, 1) := by decide +kernel
theorem dX9_by_38 : decode cX9_by 38 = .ok (.iload_n 3, 1) := by decide +kernel
theorem dX9_by_39 : decode cX9_by 39 = .ok (.invokevirtual 250, 3) := by decide +kernel
theorem dX9_by_42 : decode cX9_by 42 = .ok (.aload_n 0, 1) := by decide +kernel
theorem dX9_by_43 : decode cX9_by 43 = .ok (.getfield 39, 3) := by decide +kernel
theorem dX9_by_46 : decode cX9_by 46 = .ok (.aload 5, 2) := by decide +kernel
theorem dX9_by_48 : decode cX9_by 48 = .ok (.iconst (-1), 1) := by decide +kernel
theorem dX9_by_49 : decode cX9_by 49 = .ok (.invokevirtual 254, 3) := by decide +kernel
theorem dX9_by_52 : decode cX9_by 52 = .ok (.aload_n 0, 1) := by decide +kernel
theorem dX9_by_53 : decode cX9_by 53 = .ok (.getfield 46, 3) := by decide +kernel
theorem dX9_by_56 : decode cX9_by 56 = .ok (.invokevirtual 257, 3) := by decide +kernel
theorem dX9_by_59 : decode cX9_by 59 = .ok (.aload_n 0, 1) := by decide +kernel
theorem dX9_by_60 : decode cX9_by 60 = .ok (.getfield 46, 3) := by decide +kernel
theorem dX9_by_63 : decode cX9_by 63 = .ok (.aload_n 0, 1) := by decide +kernel
theorem dX9_by_64 : decode cX9_by 64 = .ok (.getfield 39, 3) := by decide +kernel
theorem dX9_by_67 : decode cX9_by 67 = .ok (.aload 5, 2) := by decide +kernel
theorem dX9_by_69 : decode cX9_by 69 = .ok (.iload_n 2, 1) := by decide +kernel
theorem dX9_by_70 : decode cX9_by 70 = .ok (.invokevirtual 260, 3) := by decide +kernel
theorem dX9_by_73 : decode cX9_by 73 = .ok (.aload_n 0, 1) := by decide +kernel
theorem dX9_by_74 : decode cX9_by 74 = .ok (.getfield 46, 3) := by decide +kernel
theorem dX9_by_77 : decode cX9_by 77 = .ok (.getfield 193, 3) := by decide +kernel
theorem dX9_by_80 : decode cX9_by 80 = .ok (.aload_n 0, 1) := by decide +kernel
theorem dX9_by_81 : decode cX9_by 81 = .ok (.getfield 46, 3) := by decide +kernel
theorem dX9_by_84 : decode cX9_by 84 = .ok (.getfield 190, 3) := by decide +kernel
theorem dX9_by_87 : decode cX9_by 87 = .ok (.iload 4, 2) := by decide +kernel
theorem dX9_by_89 : decode cX9_by 89 = .ok (.invokestatic 167, 3) := by decide +kernel
theorem dX9_by_92 : decode cX9_by 92 = .ok (.lreturn, 1) := by decide +kernel
theorem dX9_bar_0 : decode cX9_bar 0 = .ok (.aload_n 0, 1) := by decide +kernel
theorem dX9_bar_1 : decode cX9_bar 1 = .ok (.iload_n 1, 1) := by decide +kernel
theorem dX9_bar_2 : decode cX9_bar 2 = .ok (.invokevirtual 104, 3) := by decide +kernel
theorem dX9_bar_5 : decode cX9_bar 5 = .ok (.astore_n 3, 1) := by decide +kernel
theorem dX9_bar_6 : decode cX9_bar 6 = .ok (.aload_n 3, 1) := by decide +kernel
theorem dX9_bar_7 : decode cX9_bar 7 = .ok (.ifnonnull 5, 3) := by decide +kernel
theorem dX9_bar_10 : decode cX9_bar 10 = .ok (.iconst (-1), 1) := by decide +kernel
theorem dX9_bar_11 : decode cX9_bar 11 = .ok (.ireturn, 1) := by decide +kernel
theorem dX9_bar_12 : decode cX9_bar 12 = .ok (.aload_n 3, 1) := by decide +kernel
theorem dX9_bar_13 : decode cX9_bar 13 = .ok (.getfield 120, 3) := by decide +kernel
theorem dX9_bar_16 : decode cX9_bar 16 = .ok (.iconst 1, 1) := by decide +kernel
theorem dX9_bar_17 : decode cX9_bar 17 = .ok (.if_icmp .eq 5, 3) := by decide +kernel
theorem dX9_bar_20 : decode cX9_bar 20 = .ok (.iconst 0, 1) := by decide +kernel
theorem dX9_bar_21 : decode cX9_bar 21 = .ok (.ireturn, 1) := by decide +kernel
theorem dX9_bar_22 : decode cX9_bar 22 = .ok (.aload_n 0, 1) := by decide +kernel
theorem dX9_bar_23 : decode cX9_bar 23 = .ok (.aload_n 3, 1) := by decide +kernel
theorem dX9_bar_24 : decode cX9_bar 24 = .ok (.aload_n 3, 1) := by decide +kernel
theorem dX9_bar_25 : decode cX9_bar 25 = .ok (.getfield 114, 3) := by decide +kernel
theorem dX9_bar_28 : decode cX9_bar 28 = .ok (.iload_n 2, 1) := by decide +kernel
theorem dX9_bar_29 : decode cX9_bar 29 = .ok (.invokevirtual 250, 3) := by decide +kernel
theorem dX9_bar_32 : decode cX9_bar 32 = .ok (.aload_n 0, 1) := by decide +kernel
theorem dX9_bar_33 : decode cX9_bar 33 = .ok (.getfield 39, 3) := by decide +kernel
theorem dX9_bar_36 : decode cX9_bar 36 = .ok (.aload_n 3, 1) := by decide +kernel
theorem dX9_bar_37 : decode cX9_bar 37 = .ok (.iconst (-1), 1) := by decide +kernel
theorem dX9_bar_38 : decode cX9_bar 38 = .ok (.invokevirtual 254, 3) := by decide +kernel
theorem dX9_bar_41 : decode cX9_bar 41 = .ok (.aload_n 0, 1) := by decide +kernel
theorem dX9_bar_42 : decode cX9_bar 42 = .ok (.getfield 60, 3) := by decide +kernel
theorem dX9_bar_45 : decode cX9_bar 45 = .ok (.aload_n 0, 1) := by decide +kernel
theorem dX9_bar_46 : decode cX9_bar 46 = .ok (.getfield 39, 3) := by decide +kernel
theorem dX9_bar_49 : decode cX9_bar 49 = .ok (.aload_n 3, 1) := by decide +kernel
theorem dX9_bar_50 : decode cX9_bar 50 = .ok (.invokevirtual 264, 3) := by decide +kernel
theorem dX9_bar_53 : decode cX9_bar 53 = .ok (.aload_n 0, 1) := by decide +kernel
theorem dX9_bar_54 : decode cX9_bar 54 = .ok (.getfield 60, 3) := by decide +kernel
theorem dX9_bar_57 : decode cX9_bar 57 = .ok (.invokevirtual 268, 3) := by decide +kernel
theorem dX9_bar_60 : decode cX9_bar 60 = .ok (.ireturn, 1) := by decide +kernel
theorem dX9_telling_0 : decode cX9_telling 0 = .ok (.aload_n 0, 1) := by decide +kernel
theorem dX9_telling_1 : decode cX9_telling 1 = .ok (.iload_n 1, 1) := by decide +kernel
theorem dX9_telling_2 : decode cX9_telling 2 = .ok (.invokevirtual 104, 3) := by decide +kernel
theorem dX9_telling_5 : decode cX9_telling 5 = .ok (.astore_n 2, 1) := by decide +kernel
theorem dX9_telling_6 : decode cX9_telling 6 = .ok (.aload_n 2, 1) := by decide +kernel
theorem dX9_telling_7 : decode cX9_telling 7 = .ok (.ifnonnull 7, 3) := by decide +kernel
theorem dX9_telling_10 : decode cX9_telling 10 = .ok (.ldc2_w 184, 3) := by decide +kernel
theorem dX9_telling_13 : decode cX9_telling 13 = .ok (.lreturn, 1) := by decide +kernel
theorem dX9_telling_14 : decode cX9_telling 14 = .ok (.aload_n 0, 1) := by decide +kernel
theorem dX9_telling_15 : decode cX9_telling 15 = .ok (.getfield 46, 3) := by decide +kernel
theorem dX9_telling_18 : decode cX9_telling 18 = .ok (.invokevirtual 257, 3) := by decide +kernel
theorem dX9_telling_21 : decode cX9_telling 21 = .ok (.iconst 0, 1) := by decide +kernel
theorem dX9_telling_22 : decode cX9_telling 22 = .ok (.istore_n 3, 1) := by decide +kernel
theorem dX9_telling_23 : decode cX9_telling 23 = .ok (.iload_n 3, 1) := by decide +kernel
theorem dX9_telling_24 : decode cX9_telling 24 = .ok (.aload_n 2, 1) := by decide +kernel
theorem dX9_telling_25 : decode cX9_telling 25 = .ok (.getfield 108, 3) := by decide +kernel
theorem dX9_telling_28 : decode cX9_telling 28 = .ok (.if_icmp .ge 62, 3) := by decide +kernel
theorem dX9_telling_31 : decode cX9_telling 31 = .ok (.iconst 0, 1) := by decide +kernel
theorem dX9_telling_32 : decode cX9_telling 32 = .ok (.istore 4, 2) := by decide +kernel
theorem dX9_telling_34 : decode cX9_telling 34 = .ok (.iload 4, 2) := by decide +kernel
theorem dX9_telling_36 : decode cX9_telling 36 = .ok (.aload_n 2, 1) := by decide +kernel
theorem dX9_telling_37 : decode cX9_telling 37 = .ok (.getfield 114, 3) := by decide +kernel
theorem dX9_telling_40 : decode cX9_telling 40 = .ok (.if_icmp .ge 19, 3) := by decide +kernel
theorem dX9_telling_43 : decode cX9_telling 43 = .ok (.aload_n 0, 1) := by decide +kernel
theorem dX9_telling_44 : decode cX9_telling 44 = .ok (.aload_n 2, 1) := by decide +kernel
theorem dX9_telling_45 : decode cX9_telling 45 = .ok (.iload 4, 2) := by decide +kernel
theorem dX9_telling_47 : decode cX9_telling 47 = .ok (.iload 4, 2) := by decide +kernel
theorem dX9_telling_49 : decode cX9_telling 49 = .ok (.iload_n 3, 1) := by decide +kernel
theorem dX9_telling_50 : decode cX9_telling 50 = .ok (.invokevirtual 269, 3) := by decide +kernel
theorem dX9_telling_53 : decode cX9_telling 53 = .ok (.iinc 4 1, 3) := by decide +kernel
theorem dX9_telling_56 : decode cX9_telling 56 = .ok (.goto (-22), 3) := by decide +kernel
theorem dX9_telling_59 : decode cX9_telling 59 = .ok (.aload_n 0, 1) := by decide +kernel
theorem dX9_telling_60 : decode cX9_telling 60 = .ok (.getfield 39, 3) := by decide +kernel
theorem dX9_telling_63 : decode cX9_telling 63 = .ok (.aload_n 2, 1) := by decide +kernel
theorem dX9_telling_64 : decode cX9_telling 64 = .ok (.iload_n 3, 1) := by decide +kernel
theorem dX9_telling_65 : decode cX9_telling 65 = .ok (.invokevirtual 254, 3) := by decide +kernel
theorem dX9_telling_68 : decode cX9_telling 68 = .ok (.aload_n 0, 1) := by decide +kernel
theorem dX9_telling_69 : decode cX9_telling 69 = .ok (.getfield 46, 3) := by decide +kernel
theorem dX9_telling_72 : decode cX9_telling 72 = .ok (.aload_n 0, 1) := by decide +kernel
theorem dX9_telling_73 : decode cX9_telling 73 = .ok (.getfield 39, 3) := by decide +kernel
theorem dX9_telling_76 : decode cX9_telling 76 = .ok (.aload_n 2, 1) := by decide +kernel
theorem dX9_telling_77 : decode cX9_telling 77 = .ok (.aload_n 2, 1) := by decide +kernel
theorem dX9_telling_78 : decode cX9_telling 78 = .ok (.getfield 114, 3) := by decide +kernel
theorem dX9_telling_81 : decode cX9_telling 81 = .ok (.invokevirtual 260, 3) := by decide +kernel
theorem dX9_telling_84 : decode cX9_telling 84 = .ok (.iinc 3 1, 3) := by decide +kernel
theorem dX9_telling_87 : decode cX9_telling 87 = .ok (.goto (-64), 3) := by decide +kernel
theorem dX9_telling_90 : decode cX9_telling 90 = .ok (.aload_n 0, 1) := by decide +kernel
theorem dX9_telling_91 : decode cX9_telling 91 = .ok (.getfield 46, 3) := by decide +kernel
theorem dX9_telling_94 : decode cX9_telling 94 = .ok (.getfield 193, 3) := by decide +kernel
theorem dX9_telling_97 : decode cX9_telling 97 = .ok (.lreturn, 1) := by decide +kernel
theorem dX9_near_0 : decode cX9_near 0 = .ok (.aload_n 0, 1) := by decide +kernel
theorem dX9_near_1 : decode cX9_near 1 = .ok (.iload_n 1, 1) := by decide +kernel
theorem dX9_near_2 : decode cX9_near 2 = .ok (.invokevirtual 104, 3) := by decide +kernel
theorem dX9_near_5 : decode cX9_near 5 = .ok (.astore_n 3, 1) := by decide +kernel
theorem dX9_near_6 : decode cX9_near 6 = .ok (.aload_n 3, 1) := by decide +kernel
theorem dX9_near_7 : decode cX9_near 7 = .ok (.ifnull 15, 3) := by decide +kernel
theorem dX9_near_10 : decode cX9_near 10 = .ok (.iload_n 2, 1) := by decide +kernel
theorem dX9_near_11 : decode cX9_near 11 = .ok (.ifCond .lt 11, 3) := by decide +kernel
theorem dX9_near_14 : decode cX9_near 14 = .ok (.iload_n 2, 1) := by decide +kernel
theorem dX9_near_15 : decode cX9_near 15 = .ok (.aload_n 3, 1) := by decide +kernel
theorem dX9_near_16 : decode cX9_near 16 = .ok (.getfield 111, 3) := by decide +kernel
theorem dX9_near_19 : decode cX9_near 19 = .ok (.if_icmp .lt 5, 3) := by decide +kernel
theorem dX9_near_22 : decode cX9_near 22 = .ok (.iconst (-1), 1) := by decide +kernel
theorem dX9_near_23 : decode cX9_near 23 = .ok (.ireturn, 1) := by decide +kernel
theorem dX9_near_24 : decode cX9_near 24 = .ok (.aload_n 0, 1) := by decide +kernel
theorem dX9_near_25 : decode cX9_near 25 = .ok (.aload_n 3, 1) := by decide +kernel
theorem dX9_near_26 : decode cX9_near 26 = .ok (.iconst 0, 1) := by decide +kernel
theorem dX9_near_27 : decode cX9_near 27 = .ok (.invokevirtual 214, 3) := by decide +kernel
theorem dX9_near_30 : decode cX9_near 30 = .ok (.aload_n 0, 1) := by decide +kernel
theorem dX9_near_31 : decode cX9_near 31 = .ok (.aload_n 3, 1) := by decide +kernel
theorem dX9_near_32 : decode cX9_near 32 = .ok (.iload_n 2, 1) := by decide +kernel
theorem dX9_near_33 : decode cX9_near 33 = .ok (.invokevirtual 273, 3) := by decide +kernel
theorem dX9_near_36 : decode cX9_near 36 = .ok (.aload_n 0, 1) := by decide +kernel
theorem dX9_near_37 : decode cX9_near 37 = .ok (.getfield 53, 3) := by decide +kernel
theorem dX9_near_40 : decode cX9_near 40 = .ok (.invokevirtual 221, 3) := by decide +kernel
theorem dX9_near_43 : decode cX9_near 43 = .ok (.ireturn, 1) := by decide +kernel
theorem dX9_nearGain_0 : decode cX9_nearGain 0 = .ok (.aload_n 0, 1) := by decide +kernel
theorem dX9_nearGain_1 : decode cX9_nearGain 1 = .ok (.iload_n 1, 1) := by decide +kernel
theorem dX9_nearGain_2 : decode cX9_nearGain 2 = .ok (.invokevirtual 104, 3) := by decide +kernel
theorem dX9_nearGain_5 : decode cX9_nearGain 5 = .ok (.astore_n 2, 1) := by decide +kernel
theorem dX9_nearGain_6 : decode cX9_nearGain 6 = .ok (.aload_n 2, 1) := by decide +kernel
theorem dX9_nearGain_7 : decode cX9_nearGain 7 = .ok (.ifnonnull 7, 3) := by decide +kernel
theorem dX9_nearGain_10 : decode cX9_nearGain 10 = .ok (.ldc2_w 202, 3) := by decide +kernel
theorem dX9_nearGain_13 : decode cX9_nearGain 13 = .ok (.lreturn, 1) := by decide +kernel
theorem dX9_nearGain_14 : decode cX9_nearGain 14 = .ok (.aload_n 0, 1) := by decide +kernel
theorem dX9_nearGain_15 : decode cX9_nearGain 15 = .ok (.aload_n 2, 1) := by decide +kernel
theorem dX9_nearGain_16 : decode cX9_nearGain 16 = .ok (.iconst 0, 1) := by decide +kernel
theorem dX9_nearGain_17 : decode cX9_nearGain 17 = .ok (.invokevirtual 214, 3) := by decide +kernel
theorem dX9_nearGain_20 : decode cX9_nearGain 20 = .ok (.lconst 0, 1) := by decide +kernel
theorem dX9_nearGain_21 : decode cX9_nearGain 21 = .ok (.lstore_n 3, 1) := by decide +kernel
theorem dX9_nearGain_22 : decode cX9_nearGain 22 = .ok (.iconst 0, 1) := by decide +kernel
theorem dX9_nearGain_23 : decode cX9_nearGain 23 = .ok (.istore 5, 2) := by decide +kernel
theorem dX9_nearGain_25 : decode cX9_nearGain 25 = .ok (.iload 5, 2) := by decide +kernel
theorem dX9_nearGain_27 : decode cX9_nearGain 27 = .ok (.aload_n 2, 1) := by decide +kernel
theorem dX9_nearGain_28 : decode cX9_nearGain 28 = .ok (.getfield 111, 3) := by decide +kernel
theorem dX9_nearGain_31 : decode cX9_nearGain 31 = .ok (.if_icmp .ge 26, 3) := by decide +kernel
theorem dX9_nearGain_34 : decode cX9_nearGain 34 = .ok (.aload_n 0, 1) := by decide +kernel
theorem dX9_nearGain_35 : decode cX9_nearGain 35 = .ok (.aload_n 2, 1) := by decide +kernel
theorem dX9_nearGain_36 : decode cX9_nearGain 36 = .ok (.iload 5, 2) := by decide +kernel
theorem dX9_nearGain_38 : decode cX9_nearGain 38 = .ok (.invokevirtual 273, 3) := by decide +kernel
theorem dX9_nearGain_41 : decode cX9_nearGain 41 = .ok (.lload_n 3, 1) := by decide +kernel
theorem dX9_nearGain_42 : decode cX9_nearGain 42 = .ok (.aload_n 0, 1) := by decide +kernel
theorem dX9_nearGain_43 : decode cX9_nearGain 43 = .ok (.getfield 53, 3) := by decide +kernel
theorem dX9_nearGain_46 : decode cX9_nearGain 46 = .ok (.invokevirtual 276, 3) := by decide +kernel
theorem dX9_nearGain_49 : decode cX9_nearGain 49 = .ok (.ladd, 1) := by decide +kernel
theorem dX9_nearGain_50 : decode cX9_nearGain 50 = .ok (.lstore_n 3, 1) := by decide +kernel
theorem dX9_nearGain_51 : decode cX9_nearGain 51 = .ok (.iinc 5 1, 3) := by decide +kernel
theorem dX9_nearGain_54 : decode cX9_nearGain 54 = .ok (.goto (-29), 3) := by decide +kernel
theorem dX9_nearGain_57 : decode cX9_nearGain 57 = .ok (.lload_n 3, 1) := by decide +kernel
theorem dX9_nearGain_58 : decode cX9_nearGain 58 = .ok (.lreturn, 1) := by decide +kernel
theorem dX9_asOne_0 : decode cX9_asOne 0 = .ok (.aload_n 0, 1) := by decide +kernel
theorem dX9_asOne_1 : decode cX9_asOne 1 = .ok (.iload_n 1, 1) := by decide +kernel
theorem dX9_asOne_2 : decode cX9_asOne 2 = .ok (.invokevirtual 104, 3) := by decide +kernel
theorem dX9_asOne_5 : decode cX9_asOne 5 = .ok (.astore_n 2, 1) := by decide +kernel
theorem dX9_asOne_6 : decode cX9_asOne 6 = .ok (.aload_n 2, 1) := by decide +kernel
theorem dX9_asOne_7 : decode cX9_asOne 7 = .ok (.ifnull 11, 3) := by decide +kernel
theorem dX9_asOne_10 : decode cX9_asOne 10 = .ok (.aload_n 2, 1) := by decide +kernel
theorem dX9_asOne_11 : decode cX9_asOne 11 = .ok (.getfield 114, 3) := by decide +kernel
theorem dX9_asOne_14 : decode cX9_asOne 14 = .ok (.iconst 2, 1) := by decide +kernel
theorem dX9_asOne_15 : decode cX9_asOne 15 = .ok (.if_icmp .ge 7, 3) := by decide +kernel
theorem dX9_asOne_18 : decode cX9_asOne 18 = .ok (.ldc2_w 184, 3) := by decide +kernel
theorem dX9_asOne_21 : decode cX9_asOne 21 = .ok (.lreturn, 1) := by decide +kernel
theorem dX9_asOne_22 : decode cX9_asOne 22 = .ok (.aload_n 0, 1) := by decide +kernel
theorem dX9_asOne_23 : decode cX9_asOne 23 = .ok (.getfield 46, 3) := by decide +kernel
theorem dX9_asOne_26 : decode cX9_asOne 26 = .ok (.invokevirtual 257, 3) := by decide +kernel
theorem dX9_asOne_29 : decode cX9_asOne 29 = .ok (.iconst 2, 1) := by decide +kernel
theorem dX9_asOne_30 : decode cX9_asOne 30 = .ok (.istore_n 3, 1) := by decide +kernel
theorem dX9_asOne_31 : decode cX9_asOne 31 = .ok (.iload_n 3, 1) := by decide +kernel
theorem dX9_asOne_32 : decode cX9_asOne 32 = .ok (.aload_n 2, 1) := by decide +kernel
theorem dX9_asOne_33 : decode cX9_asOne 33 = .ok (.getfield 114, 3) := by decide +kernel
theorem dX9_asOne_36 : decode cX9_asOne 36 = .ok (.if_icmp .ge 19, 3) := by decide +kernel
theorem dX9_asOne_39 : decode cX9_asOne 39 = .ok (.aload_n 0, 1) := by decide +kernel
theorem dX9_asOne_40 : decode cX9_asOne 40 = .ok (.aload_n 2, 1) := by decide +kernel
theorem dX9_asOne_41 : decode cX9_asOne 41 = .ok (.iload_n 3, 1) := by decide +kernel
theorem dX9_asOne_42 : decode cX9_asOne 42 = .ok (.iload_n 3, 1) := by decide +kernel
theorem dX9_asOne_43 : decode cX9_asOne 43 = .ok (.iconst 1, 1) := by decide +kernel
theorem dX9_asOne_44 : decode cX9_asOne 44 = .ok (.isub, 1) := by decide +kernel
theorem dX9_asOne_45 : decode cX9_asOne 45 = .ok (.iconst (-1), 1) := by decide +kernel
theorem dX9_asOne_46 : decode cX9_asOne 46 = .ok (.invokevirtual 269, 3) := by decide +kernel
theorem dX9_asOne_49 : decode cX9_asOne 49 = .ok (.iinc 3 1, 3) := by decide +kernel
theorem dX9_asOne_52 : decode cX9_asOne 52 = .ok (.goto (-21), 3) := by decide +kernel
theorem dX9_asOne_55 : decode cX9_asOne 55 = .ok (.iconst 0, 1) := by decide +kernel
theorem dX9_asOne_56 : decode cX9_asOne 56 = .ok (.istore_n 3, 1) := by decide +kernel
theorem dX9_asOne_57 : decode cX9_asOne 57 = .ok (.iload_n 3, 1) := by decide +kernel
theorem dX9_asOne_58 : decode cX9_asOne 58 = .ok (.aload_n 2, 1) := by decide +kernel
theorem dX9_asOne_59 : decode cX9_asOne 59 = .ok (.getfield 108, 3) := by decide +kernel
theorem dX9_asOne_62 : decode cX9_asOne 62 = .ok (.if_icmp .ge 73, 3) := by decide +kernel
theorem dX9_asOne_65 : decode cX9_asOne 65 = .ok (.iconst 0, 1) := by decide +kernel
theorem dX9_asOne_66 : decode cX9_asOne 66 = .ok (.istore 4, 2) := by decide +kernel
theorem dX9_asOne_68 : decode cX9_asOne 68 = .ok (.iload 4, 2) := by decide +kernel
theorem dX9_asOne_70 : decode cX9_asOne 70 = .ok (.aload_n 2, 1) := by decide +kernel
theorem dX9_asOne_71 : decode cX9_asOne 71 = .ok (.getfield 108, 3) := by decide +kernel
theorem dX9_asOne_74 : decode cX9_asOne 74 = .ok (.if_icmp .ge 28, 3) := by decide +kernel
theorem dX9_asOne_77 : decode cX9_asOne 77 = .ok (.aload_n 0, 1) := by decide +kernel
theorem dX9_asOne_78 : decode cX9_asOne 78 = .ok (.getfield 39, 3) := by decide +kernel
theorem dX9_asOne_81 : decode cX9_asOne 81 = .ok (.iconst 0, 1) := by decide +kernel
theorem dX9_asOne_82 : decode cX9_asOne 82 = .ok (.iload 4, 2) := by decide +kernel
theorem dX9_asOne_84 : decode cX9_asOne 84 = .ok (.aload_n 2, 1) := by decide +kernel
theorem dX9_asOne_85 : decode cX9_asOne 85 = .ok (.iload 4, 2) := by decide +kernel
theorem dX9_asOne_87 : decode cX9_asOne 87 = .ok (.iload_n 3, 1) := by decide +kernel
theorem dX9_asOne_88 : decode cX9_asOne 88 = .ok (.iconst (-1), 1) := by decide +kernel
theorem dX9_asOne_89 : decode cX9_asOne 89 = .ok (.iconst (-1), 1) := by decide +kernel
theorem dX9_asOne_90 : decode cX9_asOne 90 = .ok (.invokevirtual 230, 3) := by decide +kernel
theorem dX9_asOne_93 : decode cX9_asOne 93 = .ok (.invokevirtual 280, 3) := by decide +kernel
theorem dX9_asOne_96 : decode cX9_asOne 96 = .ok (.iinc 4 1, 3) := by decide +kernel
theorem dX9_asOne_99 : decode cX9_asOne 99 = .ok (.goto (-31), 3) := by decide +kernel
theorem dX9_asOne_102 : decode cX9_asOne 102 = .ok (.aload_n 0, 1) := by decide +kernel
theorem dX9_asOne_103 : decode cX9_asOne 103 = .ok (.getfield 39, 3) := by decide +kernel
theorem dX9_asOne_106 : decode cX9_asOne 106 = .ok (.aload_n 2, 1) := by decide +kernel
theorem dX9_asOne_107 : decode cX9_asOne 107 = .ok (.iload_n 3, 1) := by decide +kernel
theorem dX9_asOne_108 : decode cX9_asOne 108 = .ok (.invokevirtual 254, 3) := by decide +kernel
theorem dX9_asOne_111 : decode cX9_asOne 111 = .ok (.aload_n 0, 1) := by decide +kernel
theorem dX9_asOne_112 : decode cX9_asOne 112 = .ok (.getfield 46, 3) := by decide +kernel
theorem dX9_asOne_115 : decode cX9_asOne 115 = .ok (.aload_n 0, 1) := by decide +kernel
theorem dX9_asOne_116 : decode cX9_asOne 116 = .ok (.getfield 39, 3) := by decide +kernel
theorem dX9_asOne_119 : decode cX9_asOne 119 = .ok (.aload_n 2, 1) := by decide +kernel
theorem dX9_asOne_120 : decode cX9_asOne 120 = .ok (.aload_n 2, 1) := by decide +kernel
theorem dX9_asOne_121 : decode cX9_asOne 121 = .ok (.getfield 114, 3) := by decide +kernel
theorem dX9_asOne_124 : decode cX9_asOne 124 = .ok (.iconst 1, 1) := by decide +kernel
theorem dX9_asOne_125 : decode cX9_asOne 125 = .ok (.isub, 1) := by decide +kernel
theorem dX9_asOne_126 : decode cX9_asOne 126 = .ok (.invokevirtual 260, 3) := by decide +kernel
theorem dX9_asOne_129 : decode cX9_asOne 129 = .ok (.iinc 3 1, 3) := by decide +kernel
theorem dX9_asOne_132 : decode cX9_asOne 132 = .ok (.goto (-75), 3) := by decide +kernel
theorem dX9_asOne_135 : decode cX9_asOne 135 = .ok (.aload_n 0, 1) := by decide +kernel
theorem dX9_asOne_136 : decode cX9_asOne 136 = .ok (.getfield 46, 3) := by decide +kernel
theorem dX9_asOne_139 : decode cX9_asOne 139 = .ok (.getfield 193, 3) := by decide +kernel
theorem dX9_asOne_142 : decode cX9_asOne 142 = .ok (.lreturn, 1) := by decide +kernel
theorem dX9_lay_0 : decode cX9_lay 0 = .ok (.iload_n 1, 1) := by decide +kernel
theorem dX9_lay_1 : decode cX9_lay 1 = .ok (.ifCond .lt 17, 3) := by decide +kernel
theorem dX9_lay_4 : decode cX9_lay 4 = .ok (.iload_n 1, 1) := by decide +kernel
theorem dX9_lay_5 : decode cX9_lay 5 = .ok (.iconst 4, 1) := by decide +kernel
theorem dX9_lay_6 : decode cX9_lay 6 = .ok (.if_icmp .ge 12, 3) := by decide +kernel
theorem dX9_lay_9 : decode cX9_lay 9 = .ok (.iload_n 2, 1) := by decide +kernel
theorem dX9_lay_10 : decode cX9_lay 10 = .ok (.ifCond .lt 8, 3) := by decide +kernel
theorem dX9_lay_13 : decode cX9_lay 13 = .ok (.iload_n 2, 1) := by decide +kernel
theorem dX9_lay_14 : decode cX9_lay 14 = .ok (.iconst 5, 1) := by decide +kernel
theorem dX9_lay_15 : decode cX9_lay 15 = .ok (.if_icmp .lt 5, 3) := by decide +kernel
theorem dX9_lay_18 : decode cX9_lay 18 = .ok (.iconst 0, 1) := by decide +kernel
theorem dX9_lay_19 : decode cX9_lay 19 = .ok (.ireturn, 1) := by decide +kernel
theorem dX9_lay_20 : decode cX9_lay 20 = .ok (.aload_n 0, 1) := by decide +kernel
theorem dX9_lay_21 : decode cX9_lay 21 = .ok (.getfield 33, 3) := by decide +kernel
theorem dX9_lay_24 : decode cX9_lay 24 = .ok (.iload_n 1, 1) := by decide +kernel
theorem dX9_lay_25 : decode cX9_lay 25 = .ok (.iload_n 2, 1) := by decide +kernel
theorem dX9_lay_26 : decode cX9_lay 26 = .ok (.iastore, 1) := by decide +kernel
theorem dX9_lay_27 : decode cX9_lay 27 = .ok (.iconst 1, 1) := by decide +kernel
theorem dX9_lay_28 : decode cX9_lay 28 = .ok (.ireturn, 1) := by decide +kernel
theorem dX9_open_0 : decode cX9_open 0 = .ok (.aload_n 0, 1) := by decide +kernel
theorem dX9_open_1 : decode cX9_open 1 = .ok (.iload_n 1, 1) := by decide +kernel
theorem dX9_open_2 : decode cX9_open 2 = .ok (.invokevirtual 104, 3) := by decide +kernel
theorem dX9_open_5 : decode cX9_open 5 = .ok (.astore_n 3, 1) := by decide +kernel
theorem dX9_open_6 : decode cX9_open 6 = .ok (.aload_n 3, 1) := by decide +kernel
theorem dX9_open_7 : decode cX9_open 7 = .ok (.ifnull 18, 3) := by decide +kernel
theorem dX9_open_10 : decode cX9_open 10 = .ok (.iload_n 2, 1) := by decide +kernel
theorem dX9_open_11 : decode cX9_open 11 = .ok (.invokestatic 149, 3) := by decide +kernel
theorem dX9_open_14 : decode cX9_open 14 = .ok (.ifCond .eq 11, 3) := by decide +kernel
theorem dX9_open_17 : decode cX9_open 17 = .ok (.aload_n 0, 1) := by decide +kernel
theorem dX9_open_18 : decode cX9_open 18 = .ok (.aload_n 3, 1) := by decide +kernel
theorem dX9_open_19 : decode cX9_open 19 = .ok (.invokevirtual 284, 3) := by decide +kernel
theorem dX9_open_22 : decode cX9_open 22 = .ok (.ifCond .ne 5, 3) := by decide +kernel
theorem dX9_open_25 : decode cX9_open 25 = .ok (.iconst (-1), 1) := by decide +kernel
theorem dX9_open_26 : decode cX9_open 26 = .ok (.ireturn, 1) := by decide +kernel
theorem dX9_open_27 : decode cX9_open 27 = .ok (.aload_n 0, 1) := by decide +kernel
theorem dX9_open_28 : decode cX9_open 28 = .ok (.getfield 74, 3) := by decide +kernel
theorem dX9_open_31 : decode cX9_open 31 = .ok (.aload_n 3, 1) := by decide +kernel
theorem dX9_open_32 : decode cX9_open 32 = .ok (.aload_n 0, 1) := by decide +kernel
theorem dX9_open_33 : decode cX9_open 33 = .ok (.getfield 33, 3) := by decide +kernel
theorem dX9_open_36 : decode cX9_open 36 = .ok (.invokevirtual 288, 3) := by decide +kernel
theorem dX9_open_39 : decode cX9_open 39 = .ok (.iload_n 2, 1) := by decide +kernel
theorem dX9_open_40 : decode cX9_open 40 = .ok (.ifCond .ne 13, 3) := by decide +kernel
theorem dX9_open_43 : decode cX9_open 43 = .ok (.aload_n 0, 1) := by decide +kernel
theorem dX9_open_44 : decode cX9_open 44 = .ok (.getfield 74, 3) := by decide +kernel
theorem dX9_open_47 : decode cX9_open 47 = .ok (.getfield 292, 3) := by decide +kernel
theorem dX9_open_50 : decode cX9_open 50 = .ok (.goto 10, 3) := by decide +kernel
theorem dX9_open_53 : decode cX9_open 53 = .ok (.aload_n 0, 1) := by decide +kernel
theorem dX9_open_54 : decode cX9_open 54 = .ok (.getfield 74, 3) := by decide +kernel
theorem dX9_open_57 : decode cX9_open 57 = .ok (.getfield 295, 3) := by decide +kernel
theorem dX9_open_60 : decode cX9_open 60 = .ok (.ireturn, 1) := by decide +kernel
theorem dX9_leaves_0 : decode cX9_leaves 0 = .ok (.aload_n 0, 1) := by decide +kernel
theorem dX9_leaves_1 : decode cX9_leaves 1 = .ok (.iload_n 1, 1) := by decide +kernel
theorem dX9_leaves_2 : decode cX9_leaves 2 = .ok (.invokevirtual 104, 3) := by decide +kernel
theorem dX9_leaves_5 : decode cX9_leaves 5 = .ok (.astore 4, 2) := by decide +kernel
theorem dX9_leaves_7 : decode cX9_leaves 7 = .ok (.aload 4, 2) := by decide +kernel
theorem dX9_leaves_9 : decode cX9_leaves 9 = .ok (.ifnull 34, 3) := by decide +kernel
theorem dX9_leaves_12 : decode cX9_leaves 12 = .ok (.iload_n 3, 1) := by decide +kernel
theorem dX9_leaves_13 : decode cX9_leaves 13 = .ok (.invokestatic 149, 3) := by decide +kernel
theorem dX9_leaves_16 : decode cX9_leaves 16 = .ok (.ifCond .eq 27, 3) := by decide +kernel
theorem dX9_leaves_19 : decode cX9_leaves 19 = .ok (.iload_n 2, 1) := by decide +kernel
theorem dX9_leaves_20 : decode cX9_leaves 20 = .ok (.ifCond .lt 23, 3) := by decide +kernel
theorem dX9_leaves_23 : decode cX9_leaves 23 = .ok (.iload_n 2, 1) := by decide +kernel
theorem dX9_leaves_24 : decode cX9_leaves 24 = .ok (.aload 4, 2) := by decide +kernel
theorem dX9_leaves_26 : decode cX9_leaves 26 = .ok (.getfield 114, 3) := by decide +kernel
theorem dX9_leaves_29 : decode cX9_leaves 29 = .ok (.iconst 1, 1) := by decide +kernel
theorem dX9_leaves_30 : decode cX9_leaves 30 = .ok (.isub, 1) := by decide +kernel
theorem dX9_leaves_31 : decode cX9_leaves 31 = .ok (.if_icmp .ge 12, 3) := by decide +kernel
theorem dX9_leaves_34 : decode cX9_leaves 34 = .ok (.aload_n 0, 1) := by decide +kernel
theorem dX9_leaves_35 : decode cX9_leaves 35 = .ok (.aload 4, 2) := by decide +kernel
theorem dX9_leaves_37 : decode cX9_leaves 37 = .ok (.invokevirtual 284, 3) := by decide +kernel
theorem dX9_leaves_40 : decode cX9_leaves 40 = .ok (.ifCond .ne 5, 3) := by decide +kernel
theorem dX9_leaves_43 : decode cX9_leaves 43 = .ok (.iconst (-1), 1) := by decide +kernel
theorem dX9_leaves_44 : decode cX9_leaves 44 = .ok (.ireturn, 1) := by decide +kernel
theorem dX9_leaves_45 : decode cX9_leaves 45 = .ok (.aload_n 0, 1) := by decide +kernel
theorem dX9_leaves_46 : decode cX9_leaves 46 = .ok (.getfield 74, 3) := by decide +kernel
theorem dX9_leaves_49 : decode cX9_leaves 49 = .ok (.aload 4, 2) := by decide +kernel
theorem dX9_leaves_51 : decode cX9_leaves 51 = .ok (.aload_n 0, 1) := by decide +kernel
theorem dX9_leaves_52 : decode cX9_leaves 52 = .ok (.getfield 33, 3) := by decide +kernel
theorem dX9_leaves_55 : decode cX9_leaves 55 = .ok (.invokevirtual 288, 3) := by decide +kernel
theorem dX9_leaves_58 : decode cX9_leaves 58 = .ok (.iload_n 3, 1) := by decide +kernel
theorem dX9_leaves_59 : decode cX9_leaves 59 = .ok (.ifCond .ne 15, 3) := by decide +kernel
theorem dX9_leaves_62 : decode cX9_leaves 62 = .ok (.aload_n 0, 1) := by decide +kernel
theorem dX9_leaves_63 : decode cX9_leaves 63 = .ok (.getfield 74, 3) := by decide +kernel
theorem dX9_leaves_66 : decode cX9_leaves 66 = .ok (.getfield 298, 3) := by decide +kernel
theorem dX9_leaves_69 : decode cX9_leaves 69 = .ok (.iload_n 2, 1) := by decide +kernel
theorem dX9_leaves_70 : decode cX9_leaves 70 = .ok (.iaload, 1) := by decide +kernel
theorem dX9_leaves_71 : decode cX9_leaves 71 = .ok (.goto 12, 3) := by decide +kernel
theorem dX9_leaves_74 : decode cX9_leaves 74 = .ok (.aload_n 0, 1) := by decide +kernel
theorem dX9_leaves_75 : decode cX9_leaves 75 = .ok (.getfield 74, 3) := by decide +kernel
theorem dX9_leaves_78 : decode cX9_leaves 78 = .ok (.getfield 301, 3) := by decide +kernel
theorem dX9_leaves_81 : decode cX9_leaves 81 = .ok (.iload_n 2, 1) := by decide +kernel
theorem dX9_leaves_82 : decode cX9_leaves 82 = .ok (.iaload, 1) := by decide +kernel
theorem dX9_leaves_83 : decode cX9_leaves 83 = .ok (.ireturn, 1) := by decide +kernel
theorem dX9_learn_0 : decode cX9_learn 0 = .ok (.aload_n 0, 1) := by decide +kernel
theorem dX9_learn_1 : decode cX9_learn 1 = .ok (.iload_n 1, 1) := by decide +kernel
theorem dX9_learn_2 : decode cX9_learn 2 = .ok (.invokevirtual 104, 3) := by decide +kernel
theorem dX9_learn_5 : decode cX9_learn 5 = .ok (.astore 5, 2) := by decide +kernel
theorem dX9_learn_7 : decode cX9_learn 7 = .ok (.aload 5, 2) := by decide +kernel
theorem dX9_learn_9 : decode cX9_learn 9 = .ok (.ifnull 17, 3) := by decide +kernel
theorem dX9_learn_12 : decode cX9_learn 12 = .ok (.iload 4, 2) := by decide +kernel
theorem dX9_learn_14 : decode cX9_learn 14 = .ok (.iconst 1, 1) := by decide +kernel
theorem dX9_learn_15 : decode cX9_learn 15 = .ok (.if_icmp .lt 11, 3) := by decide +kernel
theorem dX9_learn_18 : decode cX9_learn 18 = .ok (.iload 4, 2) := by decide +kernel
theorem dX9_learn_20 : decode cX9_learn 20 = .ok (.sipush 400, 3) := by decide +kernel
theorem dX9_learn_23 : decode cX9_learn 23 = .ok (.if_icmp .le 5, 3) := by decide +kernel
theorem dX9_learn_26 : decode cX9_learn 26 = .ok (.iconst (-1), 1) := by decide +kernel
theorem dX9_learn_27 : decode cX9_learn 27 = .ok (.ireturn, 1) := by decide +kernel
theorem dX9_learn_28 : decode cX9_learn 28 = .ok (.aload_n 0, 1) := by decide +kernel
theorem dX9_learn_29 : decode cX9_learn 29 = .ok (.getfield 81, 3) := by decide +kernel
theorem dX9_learn_32 : decode cX9_learn 32 = .ok (.aload 5, 2) := by decide +kernel
theorem dX9_learn_34 : decode cX9_learn 34 = .ok (.lload_n 2, 1) := by decide +kernel
theorem dX9_learn_35 : decode cX9_learn 35 = .ok (.invokevirtual 304, 3) := by decide +kernel
theorem dX9_learn_38 : decode cX9_learn 38 = .ok (.iconst 0, 1) := by decide +kernel
theorem dX9_learn_39 : decode cX9_learn 39 = .ok (.istore 6, 2) := by decide +kernel
theorem dX9_learn_41 : decode cX9_learn 41 = .ok (.iload 6, 2) := by decide +kernel
theorem dX9_learn_43 : decode cX9_learn 43 = .ok (.aload 5, 2) := by decide +kernel
theorem dX9_learn_45 : decode cX9_learn 45 = .ok (.getfield 114, 3) := by decide +kernel
theorem dX9_learn_48 : decode cX9_learn 48 = .ok (.if_icmp .ge 54, 3) := by decide +kernel
theorem dX9_learn_51 : decode cX9_learn 51 = .ok (.iconst 0, 1) := by decide +kernel
theorem dX9_learn_52 : decode cX9_learn 52 = .ok (.istore 7, 2) := by decide +kernel
theorem dX9_learn_54 : decode cX9_learn 54 = .ok (.iload 7, 2) := by decide +kernel
theorem dX9_learn_56 : decode cX9_learn 56 = .ok (.aload 5, 2) := by decide +kernel
theorem dX9_learn_58 : decode cX9_learn 58 = .ok (.getfield 108, 3) := by decide +kernel
theorem dX9_learn_61 : decode cX9_learn 61 = .ok (.if_icmp .ge 35, 3) := by decide +kernel
theorem dX9_learn_64 : decode cX9_learn 64 = .ok (.aload_n 0, 1) := by decide +kernel
theorem dX9_learn_65 : decode cX9_learn 65 = .ok (.getfield 81, 3) := by decide +kernel
theorem dX9_learn_68 : decode cX9_learn 68 = .ok (.getfield 307, 3) := by decide +kernel
theorem dX9_learn_71 : decode cX9_learn 71 = .ok (.iload 6, 2) := by decide +kernel
theorem dX9_learn_73 : decode cX9_learn 73 = .ok (.iconst 5, 1) := by decide +kernel
theorem dX9_learn_74 : decode cX9_learn 74 = .ok (.imul, 1) := by decide +kernel
theorem dX9_learn_75 : decode cX9_learn 75 = .ok (.iload 7, 2) := by decide +kernel
theorem dX9_learn_77 : decode cX9_learn 77 = .ok (.iadd, 1) := by decide +kernel
theorem dX9_learn_78 : decode cX9_learn 78 = .ok (.aload_n 0, 1) := by decide +kernel
theorem dX9_learn_79 : decode cX9_learn 79 = .ok (.aload 5, 2) := by decide +kernel
theorem dX9_learn_81 : decode cX9_learn 81 = .ok (.iload 6, 2) := by decide +kernel
theorem dX9_learn_83 : decode cX9_learn 83 = .ok (.iload 7, 2) := by decide +kernel
theorem dX9_learn_85 : decode cX9_learn 85 = .ok (.iconst (-1), 1) := by decide +kernel
theorem dX9_learn_86 : decode cX9_learn 86 = .ok (.invokevirtual 180, 3) := by decide +kernel
theorem dX9_learn_89 : decode cX9_learn 89 = .ok (.iastore, 1) := by decide +kernel
theorem dX9_learn_90 : decode cX9_learn 90 = .ok (.iinc 7 1, 3) := by decide +kernel
theorem dX9_learn_93 : decode cX9_learn 93 = .ok (.goto (-39), 3) := by decide +kernel
theorem dX9_learn_96 : decode cX9_learn 96 = .ok (.iinc 6 1, 3) := by decide +kernel
theorem dX9_learn_99 : decode cX9_learn 99 = .ok (.goto (-58), 3) := by decide +kernel
theorem dX9_learn_102 : decode cX9_learn 102 = .ok (.iconst 0, 1) := by decide +kernel
theorem dX9_learn_103 : decode cX9_learn 103 = .ok (.istore 6, 2) := by decide +kernel
theorem dX9_learn_105 : decode cX9_learn 105 = .ok (.iload 6, 2) := by decide +kernel
theorem dX9_learn_107 : decode cX9_learn 107 = .ok (.iload 4, 2) := by decide +kernel
theorem dX9_learn_109 : decode cX9_learn 109 = .ok (.if_icmp .ge 16, 3) := by decide +kernel
theorem dX9_learn_112 : decode cX9_learn 112 = .ok (.aload_n 0, 1) := by decide +kernel
theorem dX9_learn_113 : decode cX9_learn 113 = .ok (.getfield 81, 3) := by decide +kernel
theorem dX9_learn_116 : decode cX9_learn 116 = .ok (.invokevirtual 310, 3) := by decide +kernel
theorem dX9_learn_119 : decode cX9_learn 119 = .ok (.iinc 6 1, 3) := by decide +kernel
theorem dX9_learn_122 : decode cX9_learn 122 = .ok (.goto (-17), 3) := by decide +kernel
theorem dX9_learn_125 : decode cX9_learn 125 = .ok (.aload_n 0, 1) := by decide +kernel
theorem dX9_learn_126 : decode cX9_learn 126 = .ok (.getfield 81, 3) := by decide +kernel
theorem dX9_learn_129 : decode cX9_learn 129 = .ok (.getfield 313, 3) := by decide +kernel
theorem dX9_learn_132 : decode cX9_learn 132 = .ok (.ireturn, 1) := by decide +kernel
theorem dX9_learned_0 : decode cX9_learned 0 = .ok (.iload_n 1, 1) := by decide +kernel
theorem dX9_learned_1 : decode cX9_learned 1 = .ok (.ifCond .lt 23, 3) := by decide +kernel
theorem dX9_learned_4 : decode cX9_learned 4 = .ok (.iload_n 1, 1) := by decide +kernel
theorem dX9_learned_5 : decode cX9_learned 5 = .ok (.aload_n 0, 1) := by decide +kernel
theorem dX9_learned_6 : decode cX9_learned 6 = .ok (.getfield 81, 3) := by decide +kernel
theorem dX9_learned_9 : decode cX9_learned 9 = .ok (.getfield 315, 3) := by decide +kernel
theorem dX9_learned_12 : decode cX9_learned 12 = .ok (.if_icmp .ge 12, 3) := by decide +kernel
theorem dX9_learned_15 : decode cX9_learned 15 = .ok (.iload_n 2, 1) := by decide +kernel
theorem dX9_learned_16 : decode cX9_learned 16 = .ok (.ifCond .lt 8, 3) := by decide +kernel
theorem dX9_learned_19 : decode cX9_learned 19 = .ok (.iload_n 2, 1) := by decide +kernel
theorem dX9_learned_20 : decode cX9_learned 20 = .ok (.iconst 5, 1) := by decide +kernel
theorem dX9_learned_21 : decode cX9_learned 21 = .ok (.if_icmp .le 14, 3) := by decide +kernel
theorem dX9_learned_24 : decode cX9_learned 24 = .ok (.new 126, 3) := by decide +kernel
theorem dX9_learned_27 : decode cX9_learned 27 = .ok (.dup, 1) := by decide +kernel
theorem dX9_learned_28 : decode cX9_learned 28 = .ok (.ldc_w 316, 3) := by decide +kernel
theorem dX9_learned_31 : decode cX9_learned 31 = .ok (.invokespecial 130, 3) := by decide +kernel
theorem dX9_learned_34 : decode cX9_learned 34 = .ok (.athrow, 1) := by decide +kernel
theorem dX9_learned_35 : decode cX9_learned 35 = .ok (.iload_n 2, 1) := by decide +kernel
theorem dX9_learned_36 : decode cX9_learned 36 = .ok (.iconst 5, 1) := by decide +kernel
theorem dX9_learned_37 : decode cX9_learned 37 = .ok (.if_icmp .ne 15, 3) := by decide +kernel
theorem dX9_learned_40 : decode cX9_learned 40 = .ok (.aload_n 0, 1) := by decide +kernel
theorem dX9_learned_41 : decode cX9_learned 41 = .ok (.getfield 81, 3) := by decide +kernel
theorem dX9_learned_44 : decode cX9_learned 44 = .ok (.getfield 318, 3) := by decide +kernel
theorem dX9_learned_47 : decode cX9_learned 47 = .ok (.iload_n 1, 1) := by decide +kernel
theorem dX9_learned_48 : decode cX9_learned 48 = .ok (.iaload, 1) := by decide +kernel
theorem dX9_learned_49 : decode cX9_learned 49 = .ok (.goto 16, 3) := by decide +kernel
theorem dX9_learned_52 : decode cX9_learned 52 = .ok (.aload_n 0, 1) := by decide +kernel
theorem dX9_learned_53 : decode cX9_learned 53 = .ok (.getfield 81, 3) := by decide +kernel
theorem dX9_learned_56 : decode cX9_learned 56 = .ok (.getfield 307, 3) := by decide +kernel
theorem dX9_learned_59 : decode cX9_learned 59 = .ok (.iload_n 1, 1) := by decide +kernel
theorem dX9_learned_60 : decode cX9_learned 60 = .ok (.iconst 5, 1) := by decide +kernel
theorem dX9_learned_61 : decode cX9_learned 61 = .ok (.imul, 1) := by decide +kernel
theorem dX9_learned_62 : decode cX9_learned 62 = .ok (.iload_n 2, 1) := by decide +kernel
theorem dX9_learned_63 : decode cX9_learned 63 = .ok (.iadd, 1) := by decide +kernel
theorem dX9_learned_64 : decode cX9_learned 64 = .ok (.iaload, 1) := by decide +kernel
theorem dX9_learned_65 : decode cX9_learned 65 = .ok (.ireturn, 1) := by decide +kernel
theorem dX9_got_0 : decode cX9_got 0 = .ok (.aload_n 0, 1) := by decide +kernel
theorem dX9_got_1 : decode cX9_got 1 = .ok (.getfield 81, 3) := by decide +kernel
theorem dX9_got_4 : decode cX9_got 4 = .ok (.getfield 320, 3) := by decide +kernel
theorem dX9_got_7 : decode cX9_got 7 = .ok (.ireturn, 1) := by decide +kernel
theorem dX9_count_0 : decode cX9_count 0 = .ok (.iload_n 1, 1) := by decide +kernel
theorem dX9_count_1 : decode cX9_count 1 = .ok (.tableswitch 45 0 2 #[27, 32, 37], 27) := by decide +kernel
theorem dX9_count_28 : decode cX9_count 28 = .ok (.aload_n 0, 1) := by decide +kernel
theorem dX9_count_29 : decode cX9_count 29 = .ok (.getfield 22, 3) := by decide +kernel
theorem dX9_count_32 : decode cX9_count 32 = .ok (.ireturn, 1) := by decide +kernel
theorem dX9_count_33 : decode cX9_count 33 = .ok (.aload_n 0, 1) := by decide +kernel
theorem dX9_count_34 : decode cX9_count 34 = .ok (.getfield 30, 3) := by decide +kernel
theorem dX9_count_37 : decode cX9_count 37 = .ok (.ireturn, 1) := by decide +kernel
theorem dX9_count_38 : decode cX9_count 38 = .ok (.aload_n 0, 1) := by decide +kernel
theorem dX9_count_39 : decode cX9_count 39 = .ok (.getfield 10, 3) := by decide +kernel
theorem dX9_count_42 : decode cX9_count 42 = .ok (.getfield 89, 3) := by decide +kernel
theorem dX9_count_45 : decode cX9_count 45 = .ok (.ireturn, 1) := by decide +kernel
theorem dX9_count_46 : decode cX9_count 46 = .ok (.iconst (-1), 1) := by decide +kernel
theorem dX9_count_47 : decode cX9_count 47 = .ok (.ireturn, 1) := by decide +kernel
theorem dX9_saleAt_0 : decode cX9_saleAt 0 = .ok (.iload_n 1, 1) := by decide +kernel
theorem dX9_saleAt_1 : decode cX9_saleAt 1 = .ok (.ifCond .lt 17, 3) := by decide +kernel
theorem dX9_saleAt_4 : decode cX9_saleAt 4 = .ok (.iload_n 1, 1) := by decide +kernel
theorem dX9_saleAt_5 : decode cX9_saleAt 5 = .ok (.aload_n 0, 1) := by decide +kernel
theorem dX9_saleAt_6 : decode cX9_saleAt 6 = .ok (.getfield 22, 3) := by decide +kernel
theorem dX9_saleAt_9 : decode cX9_saleAt 9 = .ok (.if_icmp .ge 9, 3) := by decide +kernel
theorem dX9_saleAt_12 : decode cX9_saleAt 12 = .ok (.iload_n 1, 1) := by decide +kernel
theorem dX9_saleAt_13 : decode cX9_saleAt 13 = .ok (.bipush 8, 2) := by decide +kernel
theorem dX9_saleAt_15 : decode cX9_saleAt 15 = .ok (.if_icmp .lt 7, 3) := by decide +kernel
theorem dX9_saleAt_18 : decode cX9_saleAt 18 = .ok (.aconst_null, 1) := by decide +kernel
theorem dX9_saleAt_19 : decode cX9_saleAt 19 = .ok (.goto 9, 3) := by decide +kernel
theorem dX9_saleAt_22 : decode cX9_saleAt 22 = .ok (.aload_n 0, 1) := by decide +kernel
theorem dX9_saleAt_23 : decode cX9_saleAt 23 = .ok (.getfield 18, 3) := by decide +kernel
theorem dX9_saleAt_26 : decode cX9_saleAt 26 = .ok (.iload_n 1, 1) := by decide +kernel
theorem dX9_saleAt_27 : decode cX9_saleAt 27 = .ok (.aaload, 1) := by decide +kernel
theorem dX9_saleAt_28 : decode cX9_saleAt 28 = .ok (.areturn, 1) := by decide +kernel
theorem dX9_hasTable_0 : decode cX9_hasTable 0 = .ok (.iload_n 1, 1) := by decide +kernel
theorem dX9_hasTable_1 : decode cX9_hasTable 1 = .ok (.ifCond .lt 21, 3) := by decide +kernel
theorem dX9_hasTable_4 : decode cX9_hasTable 4 = .ok (.iload_n 1, 1) := by decide +kernel
theorem dX9_hasTable_5 : decode cX9_hasTable 5 = .ok (.aload_n 0, 1) := by decide +kernel
theorem dX9_hasTable_6 : decode cX9_hasTable 6 = .ok (.getfield 30, 3) := by decide +kernel
theorem dX9_hasTable_9 : decode cX9_hasTable 9 = .ok (.if_icmp .ge 13, 3) := by decide +kernel
theorem dX9_hasTable_12 : decode cX9_hasTable 12 = .ok (.iload_n 1, 1) := by decide +kernel
theorem dX9_hasTable_13 : decode cX9_hasTable 13 = .ok (.bipush 10, 2) := by decide +kernel
theorem dX9_hasTable_15 : decode cX9_hasTable 15 = .ok (.if_icmp .ge 7, 3) := by decide +kernel
theorem dX9_hasTable_18 : decode cX9_hasTable 18 = .ok (.iconst 1, 1) := by decide +kernel
theorem dX9_hasTable_19 : decode cX9_hasTable 19 = .ok (.goto 4, 3) := by decide +kernel
theorem dX9_hasTable_22 : decode cX9_hasTable 22 = .ok (.iconst 0, 1) := by decide +kernel
theorem dX9_hasTable_23 : decode cX9_hasTable 23 = .ok (.ireturn, 1) := by decide +kernel
theorem dX9_isHalf_0 : decode cX9_isHalf 0 = .ok (.iload_n 0, 1) := by decide +kernel
theorem dX9_isHalf_1 : decode cX9_isHalf 1 = .ok (.ifCond .eq 8, 3) := by decide +kernel
theorem dX9_isHalf_4 : decode cX9_isHalf 4 = .ok (.iload_n 0, 1) := by decide +kernel
theorem dX9_isHalf_5 : decode cX9_isHalf 5 = .ok (.iconst 1, 1) := by decide +kernel
theorem dX9_isHalf_6 : decode cX9_isHalf 6 = .ok (.if_icmp .ne 7, 3) := by decide +kernel
theorem dX9_isHalf_9 : decode cX9_isHalf 9 = .ok (.iconst 1, 1) := by decide +kernel
theorem dX9_isHalf_10 : decode cX9_isHalf 10 = .ok (.goto 4, 3) := by decide +kernel
theorem dX9_isHalf_13 : decode cX9_isHalf 13 = .ok (.iconst 0, 1) := by decide +kernel
theorem dX9_isHalf_14 : decode cX9_isHalf 14 = .ok (.ireturn, 1) := by decide +kernel
theorem dX9_hasSignOrNone_0 : decode cX9_hasSignOrNone 0 = .ok (.iload_n 1, 1) := by decide +kernel
theorem dX9_hasSignOrNone_1 : decode cX9_hasSignOrNone 1 = .ok (.iconst (-1), 1) := by decide +kernel
theorem dX9_hasSignOrNone_2 : decode cX9_hasSignOrNone 2 = .ok (.if_icmp .eq 11, 3) := by decide +kernel
theorem dX9_hasSignOrNone_5 : decode cX9_hasSignOrNone 5 = .ok (.aload_n 0, 1) := by decide +kernel
theorem dX9_hasSignOrNone_6 : decode cX9_hasSignOrNone 6 = .ok (.iload_n 1, 1) := by decide +kernel
theorem dX9_hasSignOrNone_7 : decode cX9_hasSignOrNone 7 = .ok (.invokevirtual 145, 3) := by decide +kernel
theorem dX9_hasSignOrNone_10 : decode cX9_hasSignOrNone 10 = .ok (.ifCond .eq 7, 3) := by decide +kernel
theorem dX9_hasSignOrNone_13 : decode cX9_hasSignOrNone 13 = .ok (.iconst 1, 1) := by decide +kernel
theorem dX9_hasSignOrNone_14 : decode cX9_hasSignOrNone 14 = .ok (.goto 4, 3) := by decide +kernel
theorem dX9_hasSignOrNone_17 : decode cX9_hasSignOrNone 17 = .ok (.iconst 0, 1) := by decide +kernel
theorem dX9_hasSignOrNone_18 : decode cX9_hasSignOrNone 18 = .ok (.ireturn, 1) := by decide +kernel
theorem dX9_half_0 : decode cX9_half 0 = .ok (.lload_n 0, 1) := by decide +kernel
theorem dX9_half_1 : decode cX9_half 1 = .ok (.lconst 0, 1) := by decide +kernel
theorem dX9_half_2 : decode cX9_half 2 = .ok (.lcmp, 1) := by decide +kernel
theorem dX9_half_3 : decode cX9_half 3 = .ok (.ifCond .ge 8, 3) := by decide +kernel
theorem dX9_half_6 : decode cX9_half 6 = .ok (.lload_n 0, 1) := by decide +kernel
theorem dX9_half_7 : decode cX9_half 7 = .ok (.lneg, 1) := by decide +kernel
theorem dX9_half_8 : decode cX9_half 8 = .ok (.goto 4, 3) := by decide +kernel
theorem dX9_half_11 : decode cX9_half 11 = .ok (.lload_n 0, 1) := by decide +kernel
theorem dX9_half_12 : decode cX9_half 12 = .ok (.lstore 5, 2) := by decide +kernel
theorem dX9_half_14 : decode cX9_half 14 = .ok (.lload_n 2, 1) := by decide +kernel
theorem dX9_half_15 : decode cX9_half 15 = .ok (.lstore 7, 2) := by decide +kernel
theorem dX9_half_17 : decode cX9_half 17 = .ok (.iconst 0, 1) := by decide +kernel
theorem dX9_half_18 : decode cX9_half 18 = .ok (.istore 9, 2) := by decide +kernel
theorem dX9_half_20 : decode cX9_half 20 = .ok (.iload 9, 2) := by decide +kernel
theorem dX9_half_22 : decode cX9_half 22 = .ok (.sipush 200, 3) := by decide +kernel
theorem dX9_half_25 : decode cX9_half 25 = .ok (.if_icmp .ge 31, 3) := by decide +kernel
theorem dX9_half_28 : decode cX9_half 28 = .ok (.lload 7, 2) := by decide +kernel
theorem dX9_half_30 : decode cX9_half 30 = .ok (.lconst 0, 1) := by decide +kernel
theorem dX9_half_31 : decode cX9_half 31 = .ok (.lcmp, 1) := by decide +kernel
theorem dX9_half_32 : decode cX9_half 32 = .ok (.ifCond .le 24, 3) := by decide +kernel
theorem dX9_half_35 : decode cX9_half 35 = .ok (.lload 5, 2) := by decide +kernel
theorem dX9_half_37 : decode cX9_half 37 = .ok (.lload 7, 2) := by decide +kernel
theorem dX9_half_39 : decode cX9_half 39 = .ok (.lrem, 1) := by decide +kernel
theorem dX9_half_40 : decode cX9_half 40 = .ok (.lstore 10, 2) := by decide +kernel
theorem dX9_half_42 : decode cX9_half 42 = .ok (.lload 7, 2) := by decide +kernel
theorem dX9_half_44 : decode cX9_half 44 = .ok (.lstore 5, 2) := by decide +kernel
theorem dX9_half_46 : decode cX9_half 46 = .ok (.lload 10, 2) := by decide +kernel
theorem dX9_half_48 : decode cX9_half 48 = .ok (.lstore 7, 2) := by decide +kernel
theorem dX9_half_50 : decode cX9_half 50 = .ok (.iinc 9 1, 3) := by decide +kernel
theorem dX9_half_53 : decode cX9_half 53 = .ok (.goto (-33), 3) := by decide +kernel
theorem dX9_half_56 : decode cX9_half 56 = .ok (.iload 4, 2) := by decide +kernel
theorem dX9_half_58 : decode cX9_half 58 = .ok (.ifCond .ne 7, 3) := by decide +kernel
theorem dX9_half_61 : decode cX9_half 61 = .ok (.lload_n 0, 1) := by decide +kernel
theorem dX9_half_62 : decode cX9_half 62 = .ok (.goto 4, 3) := by decide +kernel
theorem dX9_half_65 : decode cX9_half 65 = .ok (.lload_n 2, 1) := by decide +kernel
theorem dX9_half_66 : decode cX9_half 66 = .ok (.lstore 9, 2) := by decide +kernel
theorem dX9_half_68 : decode cX9_half 68 = .ok (.lload 5, 2) := by decide +kernel
theorem dX9_half_70 : decode cX9_half 70 = .ok (.lconst 0, 1) := by decide +kernel
theorem dX9_half_71 : decode cX9_half 71 = .ok (.lcmp, 1) := by decide +kernel
theorem dX9_half_72 : decode cX9_half 72 = .ok (.ifCond .le 11, 3) := by decide +kernel
theorem dX9_half_75 : decode cX9_half 75 = .ok (.lload 9, 2) := by decide +kernel
theorem dX9_half_77 : decode cX9_half 77 = .ok (.lload 5, 2) := by decide +kernel
theorem dX9_half_79 : decode cX9_half 79 = .ok (.ldiv, 1) := by decide +kernel
theorem dX9_half_80 : decode cX9_half 80 = .ok (.goto 5, 3) := by decide +kernel
theorem dX9_half_83 : decode cX9_half 83 = .ok (.lload 9, 2) := by decide +kernel
theorem dX9_half_85 : decode cX9_half 85 = .ok (.lreturn, 1) := by decide +kernel
theorem dX9_bidOf_0 : decode cX9_bidOf 0 = .ok (.aload_n 1, 1) := by decide +kernel
theorem dX9_bidOf_1 : decode cX9_bidOf 1 = .ok (.getfield 174, 3) := by decide +kernel
theorem dX9_bidOf_4 : decode cX9_bidOf 4 = .ok (.iload_n 2, 1) := by decide +kernel
theorem dX9_bidOf_5 : decode cX9_bidOf 5 = .ok (.iaload, 1) := by decide +kernel
theorem dX9_bidOf_6 : decode cX9_bidOf 6 = .ok (.istore 5, 2) := by decide +kernel
theorem dX9_bidOf_8 : decode cX9_bidOf 8 = .ok (.aload_n 0, 1) := by decide +kernel
theorem dX9_bidOf_9 : decode cX9_bidOf 9 = .ok (.iload 5, 2) := by decide +kernel
theorem dX9_bidOf_11 : decode cX9_bidOf 11 = .ok (.invokevirtual 171, 3) := by decide +kernel
theorem dX9_bidOf_14 : decode cX9_bidOf 14 = .ok (.ifCond .eq 15, 3) := by decide +kernel
theorem dX9_bidOf_17 : decode cX9_bidOf 17 = .ok (.aload_n 0, 1) := by decide +kernel
theorem dX9_bidOf_18 : decode cX9_bidOf 18 = .ok (.getfield 26, 3) := by decide +kernel
theorem dX9_bidOf_21 : decode cX9_bidOf 21 = .ok (.iload 5, 2) := by decide +kernel
theorem dX9_bidOf_23 : decode cX9_bidOf 23 = .ok (.iconst 5, 1) := by decide +kernel
theorem dX9_bidOf_24 : decode cX9_bidOf 24 = .ok (.imul, 1) := by decide +kernel
theorem dX9_bidOf_25 : decode cX9_bidOf 25 = .ok (.iload_n 3, 1) := by decide +kernel
theorem dX9_bidOf_26 : decode cX9_bidOf 26 = .ok (.iadd, 1) := by decide +kernel
theorem dX9_bidOf_27 : decode cX9_bidOf 27 = .ok (.iaload, 1) := by decide +kernel
theorem dX9_bidOf_28 : decode cX9_bidOf 28 = .ok (.ireturn, 1) := by decide +kernel
theorem dX9_bidOf_29 : decode cX9_bidOf 29 = .ok (.aload_n 1, 1) := by decide +kernel
theorem dX9_bidOf_30 : decode cX9_bidOf 30 = .ok (.iload_n 3, 1) := by decide +kernel
theorem dX9_bidOf_31 : decode cX9_bidOf 31 = .ok (.iload 5, 2) := by decide +kernel
theorem dX9_bidOf_33 : decode cX9_bidOf 33 = .ok (.bipush (-2), 2) := by decide +kernel
theorem dX9_bidOf_35 : decode cX9_bidOf 35 = .ok (.if_icmp .ne 15, 3) := by decide +kernel
theorem dX9_bidOf_38 : decode cX9_bidOf 38 = .ok (.aload_n 1, 1) := by decide +kernel
theorem dX9_bidOf_39 : decode cX9_bidOf 39 = .ok (.getfield 114, 3) := by decide +kernel
theorem dX9_bidOf_42 : decode cX9_bidOf 42 = .ok (.iconst 1, 1) := by decide +kernel
theorem dX9_bidOf_43 : decode cX9_bidOf 43 = .ok (.if_icmp .le 7, 3) := by decide +kernel
theorem dX9_bidOf_46 : decode cX9_bidOf 46 = .ok (.iload_n 3, 1) := by decide +kernel
theorem dX9_bidOf_47 : decode cX9_bidOf 47 = .ok (.goto 4, 3) := by decide +kernel
theorem dX9_bidOf_50 : decode cX9_bidOf 50 = .ok (.iconst (-1), 1) := by decide +kernel
theorem dX9_bidOf_51 : decode cX9_bidOf 51 = .ok (.iload 4, 2) := by decide +kernel
theorem dX9_bidOf_53 : decode cX9_bidOf 53 = .ok (.iconst (-1), 1) := by decide +kernel
theorem dX9_bidOf_54 : decode cX9_bidOf 54 = .ok (.invokevirtual 230, 3) := by decide +kernel
theorem dX9_bidOf_57 : decode cX9_bidOf 57 = .ok (.ireturn, 1) := by decide +kernel
theorem dX9_rowOf_0 : decode cX9_rowOf 0 = .ok (.iconst 0, 1) := by decide +kernel
theorem dX9_rowOf_1 : decode cX9_rowOf 1 = .ok (.istore 5, 2) := by decide +kernel
theorem dX9_rowOf_3 : decode cX9_rowOf 3 = .ok (.iload 5, 2) := by decide +kernel
theorem dX9_rowOf_5 : decode cX9_rowOf 5 = .ok (.aload_n 1, 1) := by decide +kernel
theorem dX9_rowOf_6 : decode cX9_rowOf 6 = .ok (.getfield 108, 3) := by decide +kernel
theorem dX9_rowOf_9 : decode cX9_rowOf 9 = .ok (.if_icmp .ge 29, 3) := by decide +kernel
theorem dX9_rowOf_12 : decode cX9_rowOf 12 = .ok (.aload_n 0, 1) := by decide +kernel
theorem dX9_rowOf_13 : decode cX9_rowOf 13 = .ok (.getfield 39, 3) := by decide +kernel
theorem dX9_rowOf_16 : decode cX9_rowOf 16 = .ok (.iload_n 3, 1) := by decide +kernel
theorem dX9_rowOf_17 : decode cX9_rowOf 17 = .ok (.iload 5, 2) := by decide +kernel
theorem dX9_rowOf_19 : decode cX9_rowOf 19 = .ok (.aload_n 0, 1) := by decide +kernel
theorem dX9_rowOf_20 : decode cX9_rowOf 20 = .ok (.aload_n 1, 1) := by decide +kernel
theorem dX9_rowOf_21 : decode cX9_rowOf 21 = .ok (.iload_n 2, 1) := by decide +kernel
theorem dX9_rowOf_22 : decode cX9_rowOf 22 = .ok (.iload 5, 2) := by decide +kernel
theorem dX9_rowOf_24 : decode cX9_rowOf 24 = .ok (.iload 4, 2) := by decide +kernel
theorem dX9_rowOf_26 : decode cX9_rowOf 26 = .ok (.invokevirtual 180, 3) := by decide +kernel
theorem dX9_rowOf_29 : decode cX9_rowOf 29 = .ok (.invokevirtual 280, 3) := by decide +kernel
theorem dX9_rowOf_32 : decode cX9_rowOf 32 = .ok (.iinc 5 1, 3) := by decide +kernel
theorem dX9_rowOf_35 : decode cX9_rowOf 35 = .ok (.goto (-32), 3) := by decide +kernel
theorem dX9_rowOf_38 : decode cX9_rowOf 38 = .ok (.return_, 1) := by decide +kernel
theorem dX9_rowsWithout_0 : decode cX9_rowsWithout 0 = .ok (.iconst 0, 1) := by decide +kernel
theorem dX9_rowsWithout_1 : decode cX9_rowsWithout 1 = .ok (.istore_n 3, 1) := by decide +kernel
theorem dX9_rowsWithout_2 : decode cX9_rowsWithout 2 = .ok (.iconst 0, 1) := by decide +kernel
theorem dX9_rowsWithout_3 : decode cX9_rowsWithout 3 = .ok (.istore 4, 2) := by decide +kernel
theorem dX9_rowsWithout_5 : decode cX9_rowsWithout 5 = .ok (.iload 4, 2) := by decide +kernel
theorem dX9_rowsWithout_7 : decode cX9_rowsWithout 7 = .ok (.aload_n 1, 1) := by decide +kernel
theorem dX9_rowsWithout_8 : decode cX9_rowsWithout 8 = .ok (.getfield 114, 3) := by decide +kernel
theorem dX9_rowsWithout_11 : decode cX9_rowsWithout 11 = .ok (.if_icmp .ge 27, 3) := by decide +kernel
theorem dX9_rowsWithout_14 : decode cX9_rowsWithout 14 = .ok (.iload 4, 2) := by decide +kernel
theorem dX9_rowsWithout_16 : decode cX9_rowsWithout 16 = .ok (.iload_n 2, 1) := by decide +kernel
theorem dX9_rowsWithout_17 : decode cX9_rowsWithout 17 = .ok (.if_icmp .eq 15, 3) := by decide +kernel
theorem dX9_rowsWithout_20 : decode cX9_rowsWithout 20 = .ok (.aload_n 0, 1) := by decide +kernel
theorem dX9_rowsWithout_21 : decode cX9_rowsWithout 21 = .ok (.aload_n 1, 1) := by decide +kernel
theorem dX9_rowsWithout_22 : decode cX9_rowsWithout 22 = .ok (.iload 4, 2) := by decide +kernel
theorem dX9_rowsWithout_24 : decode cX9_rowsWithout 24 = .ok (.iload_n 3, 1) := by decide +kernel
theorem dX9_rowsWithout_25 : decode cX9_rowsWithout 25 = .ok (.iconst (-1), 1) := by decide +kernel
theorem dX9_rowsWithout_26 : decode cX9_rowsWithout 26 = .ok (.invokevirtual 269, 3) := by decide +kernel
theorem dX9_rowsWithout_29 : decode cX9_rowsWithout 29 = .ok (.iinc 3 1, 3) := by decide +kernel
theorem dX9_rowsWithout_32 : decode cX9_rowsWithout 32 = .ok (.iinc 4 1, 3) := by decide +kernel
theorem dX9_rowsWithout_35 : decode cX9_rowsWithout 35 = .ok (.goto (-30), 3) := by decide +kernel
theorem dX9_rowsWithout_38 : decode cX9_rowsWithout 38 = .ok (.return_, 1) := by decide +kernel
theorem dX9_rowsAlike_0 : decode cX9_rowsAlike 0 = .ok (.iconst 0, 1) := by decide +kernel
theorem dX9_rowsAlike_1 : decode cX9_rowsAlike 1 = .ok (.istore 4, 2) := by decide +kernel
theorem dX9_rowsAlike_3 : decode cX9_rowsAlike 3 = .ok (.iload 4, 2) := by decide +kernel
theorem dX9_rowsAlike_5 : decode cX9_rowsAlike 5 = .ok (.iload_n 2, 1) := by decide +kernel
theorem dX9_rowsAlike_6 : decode cX9_rowsAlike 6 = .ok (.if_icmp .ge 61, 3) := by decide +kernel
theorem dX9_rowsAlike_9 : decode cX9_rowsAlike 9 = .ok (.iconst 0, 1) := by decide +kernel
theorem dX9_rowsAlike_10 : decode cX9_rowsAlike 10 = .ok (.istore 5, 2) := by decide +kernel
theorem dX9_rowsAlike_12 : decode cX9_rowsAlike 12 = .ok (.iload 5, 2) := by decide +kernel
theorem dX9_rowsAlike_14 : decode cX9_rowsAlike 14 = .ok (.aload_n 1, 1) := by decide +kernel
theorem dX9_rowsAlike_15 : decode cX9_rowsAlike 15 = .ok (.getfield 108, 3) := by decide +kernel
theorem dX9_rowsAlike_18 : decode cX9_rowsAlike 18 = .ok (.if_icmp .ge 43, 3) := by decide +kernel
theorem dX9_rowsAlike_21 : decode cX9_rowsAlike 21 = .ok (.aload_n 0, 1) := by decide +kernel
theorem dX9_rowsAlike_22 : decode cX9_rowsAlike 22 = .ok (.getfield 39, 3) := by decide +kernel
theorem dX9_rowsAlike_25 : decode cX9_rowsAlike 25 = .ok (.iload 4, 2) := by decide +kernel
theorem dX9_rowsAlike_27 : decode cX9_rowsAlike 27 = .ok (.iload 5, 2) := by decide +kernel
theorem dX9_rowsAlike_29 : decode cX9_rowsAlike 29 = .ok (.aload_n 1, 1) := by decide +kernel
theorem dX9_rowsAlike_30 : decode cX9_rowsAlike 30 = .ok (.iload 5, 2) := by decide +kernel
theorem dX9_rowsAlike_32 : decode cX9_rowsAlike 32 = .ok (.iload_n 3, 1) := by decide +kernel
theorem dX9_rowsAlike_33 : decode cX9_rowsAlike 33 = .ok (.ifCond .eq 13, 3) := by decide +kernel
theorem dX9_rowsAlike_36 : decode cX9_rowsAlike 36 = .ok (.iload_n 2, 1) := by decide +kernel
theorem dX9_rowsAlike_37 : decode cX9_rowsAlike 37 = .ok (.iconst 1, 1) := by decide +kernel
theorem dX9_rowsAlike_38 : decode cX9_rowsAlike 38 = .ok (.if_icmp .le 8, 3) := by decide +kernel
theorem dX9_rowsAlike_41 : decode cX9_rowsAlike 41 = .ok (.iload 5, 2) := by decide +kernel
theorem dX9_rowsAlike_43 : decode cX9_rowsAlike 43 = .ok (.goto 4, 3) := by decide +kernel
theorem dX9_rowsAlike_46 : decode cX9_rowsAlike 46 = .ok (.iconst (-1), 1) := by decide +kernel
theorem dX9_rowsAlike_47 : decode cX9_rowsAlike 47 = .ok (.iconst (-1), 1) := by decide +kernel
theorem dX9_rowsAlike_48 : decode cX9_rowsAlike 48 = .ok (.iconst (-1), 1) := by decide +kernel
theorem dX9_rowsAlike_49 : decode cX9_rowsAlike 49 = .ok (.invokevirtual 230, 3) := by decide +kernel
theorem dX9_rowsAlike_52 : decode cX9_rowsAlike 52 = .ok (.invokevirtual 280, 3) := by decide +kernel
theorem dX9_rowsAlike_55 : decode cX9_rowsAlike 55 = .ok (.iinc 5 1, 3) := by decide +kernel
theorem dX9_rowsAlike_58 : decode cX9_rowsAlike 58 = .ok (.goto (-46), 3) := by decide +kernel
theorem dX9_rowsAlike_61 : decode cX9_rowsAlike 61 = .ok (.iinc 4 1, 3) := by decide +kernel
theorem dX9_rowsAlike_64 : decode cX9_rowsAlike 64 = .ok (.goto (-61), 3) := by decide +kernel
theorem dX9_rowsAlike_67 : decode cX9_rowsAlike 67 = .ok (.return_, 1) := by decide +kernel
theorem dX9_tallyOf_0 : decode cX9_tallyOf 0 = .ok (.iconst 0, 1) := by decide +kernel
theorem dX9_tallyOf_1 : decode cX9_tallyOf 1 = .ok (.istore_n 2, 1) := by decide +kernel
theorem dX9_tallyOf_2 : decode cX9_tallyOf 2 = .ok (.iload_n 2, 1) := by decide +kernel
theorem dX9_tallyOf_3 : decode cX9_tallyOf 3 = .ok (.aload_n 1, 1) := by decide +kernel
theorem dX9_tallyOf_4 : decode cX9_tallyOf 4 = .ok (.getfield 114, 3) := by decide +kernel
theorem dX9_tallyOf_7 : decode cX9_tallyOf 7 = .ok (.if_icmp .ge 17, 3) := by decide +kernel
theorem dX9_tallyOf_10 : decode cX9_tallyOf 10 = .ok (.aload_n 0, 1) := by decide +kernel
theorem dX9_tallyOf_11 : decode cX9_tallyOf 11 = .ok (.aload_n 1, 1) := by decide +kernel
theorem dX9_tallyOf_12 : decode cX9_tallyOf 12 = .ok (.iload_n 2, 1) := by decide +kernel
theorem dX9_tallyOf_13 : decode cX9_tallyOf 13 = .ok (.iload_n 2, 1) := by decide +kernel
theorem dX9_tallyOf_14 : decode cX9_tallyOf 14 = .ok (.iconst (-1), 1) := by decide +kernel
theorem dX9_tallyOf_15 : decode cX9_tallyOf 15 = .ok (.invokevirtual 269, 3) := by decide +kernel
theorem dX9_tallyOf_18 : decode cX9_tallyOf 18 = .ok (.iinc 2 1, 3) := by decide +kernel
theorem dX9_tallyOf_21 : decode cX9_tallyOf 21 = .ok (.goto (-19), 3) := by decide +kernel
theorem dX9_tallyOf_24 : decode cX9_tallyOf 24 = .ok (.aload_n 0, 1) := by decide +kernel
theorem dX9_tallyOf_25 : decode cX9_tallyOf 25 = .ok (.getfield 39, 3) := by decide +kernel
theorem dX9_tallyOf_28 : decode cX9_tallyOf 28 = .ok (.aload_n 1, 1) := by decide +kernel
theorem dX9_tallyOf_29 : decode cX9_tallyOf 29 = .ok (.iconst (-1), 1) := by decide +kernel
theorem dX9_tallyOf_30 : decode cX9_tallyOf 30 = .ok (.invokevirtual 254, 3) := by decide +kernel
theorem dX9_tallyOf_33 : decode cX9_tallyOf 33 = .ok (.aload_n 0, 1) := by decide +kernel
theorem dX9_tallyOf_34 : decode cX9_tallyOf 34 = .ok (.getfield 46, 3) := by decide +kernel
theorem dX9_tallyOf_37 : decode cX9_tallyOf 37 = .ok (.invokevirtual 257, 3) := by decide +kernel
theorem dX9_tallyOf_40 : decode cX9_tallyOf 40 = .ok (.aload_n 0, 1) := by decide +kernel
theorem dX9_tallyOf_41 : decode cX9_tallyOf 41 = .ok (.getfield 46, 3) := by decide +kernel
theorem dX9_tallyOf_44 : decode cX9_tallyOf 44 = .ok (.aload_n 0, 1) := by decide +kernel
theorem dX9_tallyOf_45 : decode cX9_tallyOf 45 = .ok (.getfield 39, 3) := by decide +kernel
theorem dX9_tallyOf_48 : decode cX9_tallyOf 48 = .ok (.aload_n 1, 1) := by decide +kernel
theorem dX9_tallyOf_49 : decode cX9_tallyOf 49 = .ok (.aload_n 1, 1) := by decide +kernel
theorem dX9_tallyOf_50 : decode cX9_tallyOf 50 = .ok (.getfield 114, 3) := by decide +kernel
theorem dX9_tallyOf_53 : decode cX9_tallyOf 53 = .ok (.invokevirtual 260, 3) := by decide +kernel
theorem dX9_tallyOf_56 : decode cX9_tallyOf 56 = .ok (.return_, 1) := by decide +kernel
theorem dX9_rivalsBySign_0 : decode cX9_rivalsBySign 0 = .ok (.aload_n 0, 1) := by decide +kernel
theorem dX9_rivalsBySign_1 : decode cX9_rivalsBySign 1 = .ok (.getfield 39, 3) := by decide +kernel
theorem dX9_rivalsBySign_4 : decode cX9_rivalsBySign 4 = .ok (.aload_n 1, 1) := by decide +kernel
theorem dX9_rivalsBySign_5 : decode cX9_rivalsBySign 5 = .ok (.iload_n 2, 1) := by decide +kernel
theorem dX9_rivalsBySign_6 : decode cX9_rivalsBySign 6 = .ok (.invokevirtual 254, 3) := by decide +kernel
theorem dX9_rivalsBySign_9 : decode cX9_rivalsBySign 9 = .ok (.aload_n 0, 1) := by decide +kernel
theorem dX9_rivalsBySign_10 : decode cX9_rivalsBySign 10 = .ok (.getfield 53, 3) := by decide +kernel
theorem dX9_rivalsBySign_13 : decode cX9_rivalsBySign 13 = .ok (.aload_n 0, 1) := by decide +kernel
theorem dX9_rivalsBySign_14 : decode cX9_rivalsBySign 14 = .ok (.getfield 39, 3) := by decide +kernel
theorem dX9_rivalsBySign_17 : decode cX9_rivalsBySign 17 = .ok (.aload_n 1, 1) := by decide +kernel
theorem dX9_rivalsBySign_18 : decode cX9_rivalsBySign 18 = .ok (.aload_n 1, 1) := by decide +kernel
theorem dX9_rivalsBySign_19 : decode cX9_rivalsBySign 19 = .ok (.getfield 114, 3) := by decide +kernel
theorem dX9_rivalsBySign_22 : decode cX9_rivalsBySign 22 = .ok (.iconst 1, 1) := by decide +kernel
theorem dX9_rivalsBySign_23 : decode cX9_rivalsBySign 23 = .ok (.isub, 1) := by decide +kernel
theorem dX9_rivalsBySign_24 : decode cX9_rivalsBySign 24 = .ok (.invokevirtual 323, 3) := by decide +kernel
theorem dX9_rivalsBySign_27 : decode cX9_rivalsBySign 27 = .ok (.return_, 1) := by decide +kernel
theorem dX9_rivalsByTruth_0 : decode cX9_rivalsByTruth 0 = .ok (.aload_n 0, 1) := by decide +kernel
theorem dX9_rivalsByTruth_1 : decode cX9_rivalsByTruth 1 = .ok (.getfield 39, 3) := by decide +kernel
theorem dX9_rivalsByTruth_4 : decode cX9_rivalsByTruth 4 = .ok (.aload_n 1, 1) := by decide +kernel
theorem dX9_rivalsByTruth_5 : decode cX9_rivalsByTruth 5 = .ok (.iload_n 2, 1) := by decide +kernel
theorem dX9_rivalsByTruth_6 : decode cX9_rivalsByTruth 6 = .ok (.invokevirtual 325, 3) := by decide +kernel
theorem dX9_rivalsByTruth_9 : decode cX9_rivalsByTruth 9 = .ok (.aload_n 0, 1) := by decide +kernel
theorem dX9_rivalsByTruth_10 : decode cX9_rivalsByTruth 10 = .ok (.getfield 53, 3) := by decide +kernel
theorem dX9_rivalsByTruth_13 : decode cX9_rivalsByTruth 13 = .ok (.aload_n 0, 1) := by decide +kernel
theorem dX9_rivalsByTruth_14 : decode cX9_rivalsByTruth 14 = .ok (.getfield 39, 3) := by decide +kernel
theorem dX9_rivalsByTruth_17 : decode cX9_rivalsByTruth 17 = .ok (.aload_n 1, 1) := by decide +kernel
theorem dX9_rivalsByTruth_18 : decode cX9_rivalsByTruth 18 = .ok (.aload_n 1, 1) := by decide +kernel
theorem dX9_rivalsByTruth_19 : decode cX9_rivalsByTruth 19 = .ok (.getfield 114, 3) := by decide +kernel
theorem dX9_rivalsByTruth_22 : decode cX9_rivalsByTruth 22 = .ok (.iconst 1, 1) := by decide +kernel
theorem dX9_rivalsByTruth_23 : decode cX9_rivalsByTruth 23 = .ok (.isub, 1) := by decide +kernel
theorem dX9_rivalsByTruth_24 : decode cX9_rivalsByTruth 24 = .ok (.invokevirtual 323, 3) := by decide +kernel
theorem dX9_rivalsByTruth_27 : decode cX9_rivalsByTruth 27 = .ok (.return_, 1) := by decide +kernel
theorem dX9_turnOf_0 : decode cX9_turnOf 0 = .ok (.iconst 0, 1) := by decide +kernel
theorem dX9_turnOf_1 : decode cX9_turnOf 1 = .ok (.istore_n 2, 1) := by decide +kernel
theorem dX9_turnOf_2 : decode cX9_turnOf 2 = .ok (.iload_n 2, 1) := by decide +kernel
theorem dX9_turnOf_3 : decode cX9_turnOf 3 = .ok (.aload_n 1, 1) := by decide +kernel
theorem dX9_turnOf_4 : decode cX9_turnOf 4 = .ok (.getfield 114, 3) := by decide +kernel
theorem dX9_turnOf_7 : decode cX9_turnOf 7 = .ok (.iconst 1, 1) := by decide +kernel
theorem dX9_turnOf_8 : decode cX9_turnOf 8 = .ok (.isub, 1) := by decide +kernel
theorem dX9_turnOf_9 : decode cX9_turnOf 9 = .ok (.if_icmp .ge 43, 3) := by decide +kernel
theorem dX9_turnOf_12 : decode cX9_turnOf 12 = .ok (.iconst 0, 1) := by decide +kernel
theorem dX9_turnOf_13 : decode cX9_turnOf 13 = .ok (.istore_n 3, 1) := by decide +kernel
theorem dX9_turnOf_14 : decode cX9_turnOf 14 = .ok (.iload_n 3, 1) := by decide +kernel
theorem dX9_turnOf_15 : decode cX9_turnOf 15 = .ok (.aload_n 1, 1) := by decide +kernel
theorem dX9_turnOf_16 : decode cX9_turnOf 16 = .ok (.getfield 108, 3) := by decide +kernel
theorem dX9_turnOf_19 : decode cX9_turnOf 19 = .ok (.if_icmp .ge 27, 3) := by decide +kernel
theorem dX9_turnOf_22 : decode cX9_turnOf 22 = .ok (.aload_n 0, 1) := by decide +kernel
theorem dX9_turnOf_23 : decode cX9_turnOf 23 = .ok (.getfield 39, 3) := by decide +kernel
theorem dX9_turnOf_26 : decode cX9_turnOf 26 = .ok (.iload_n 2, 1) := by decide +kernel
theorem dX9_turnOf_27 : decode cX9_turnOf 27 = .ok (.iload_n 3, 1) := by decide +kernel
theorem dX9_turnOf_28 : decode cX9_turnOf 28 = .ok (.aload_n 0, 1) := by decide +kernel
theorem dX9_turnOf_29 : decode cX9_turnOf 29 = .ok (.getfield 67, 3) := by decide +kernel
theorem dX9_turnOf_32 : decode cX9_turnOf 32 = .ok (.getfield 328, 3) := by decide +kernel
theorem dX9_turnOf_35 : decode cX9_turnOf 35 = .ok (.iload_n 3, 1) := by decide +kernel
theorem dX9_turnOf_36 : decode cX9_turnOf 36 = .ok (.iaload, 1) := by decide +kernel
theorem dX9_turnOf_37 : decode cX9_turnOf 37 = .ok (.invokevirtual 280, 3) := by decide +kernel
theorem dX9_turnOf_40 : decode cX9_turnOf 40 = .ok (.iinc 3 1, 3) := by decide +kernel
theorem dX9_turnOf_43 : decode cX9_turnOf 43 = .ok (.goto (-29), 3) := by decide +kernel
theorem dX9_turnOf_46 : decode cX9_turnOf 46 = .ok (.iinc 2 1, 3) := by decide +kernel
theorem dX9_turnOf_49 : decode cX9_turnOf 49 = .ok (.goto (-47), 3) := by decide +kernel
theorem dX9_turnOf_52 : decode cX9_turnOf 52 = .ok (.iconst 0, 1) := by decide +kernel
theorem dX9_turnOf_53 : decode cX9_turnOf 53 = .ok (.istore_n 2, 1) := by decide +kernel
theorem dX9_turnOf_54 : decode cX9_turnOf 54 = .ok (.iload_n 2, 1) := by decide +kernel
theorem dX9_turnOf_55 : decode cX9_turnOf 55 = .ok (.aload_n 1, 1) := by decide +kernel
theorem dX9_turnOf_56 : decode cX9_turnOf 56 = .ok (.getfield 108, 3) := by decide +kernel
theorem dX9_turnOf_59 : decode cX9_turnOf 59 = .ok (.if_icmp .ge 31, 3) := by decide +kernel
theorem dX9_turnOf_62 : decode cX9_turnOf 62 = .ok (.aload_n 0, 1) := by decide +kernel
theorem dX9_turnOf_63 : decode cX9_turnOf 63 = .ok (.aload_n 1, 1) := by decide +kernel
theorem dX9_turnOf_64 : decode cX9_turnOf 64 = .ok (.iload_n 2, 1) := by decide +kernel
theorem dX9_turnOf_65 : decode cX9_turnOf 65 = .ok (.invokevirtual 218, 3) := by decide +kernel
theorem dX9_turnOf_68 : decode cX9_turnOf 68 = .ok (.aload_n 0, 1) := by decide +kernel
theorem dX9_turnOf_69 : decode cX9_turnOf 69 = .ok (.getfield 67, 3) := by decide +kernel
theorem dX9_turnOf_72 : decode cX9_turnOf 72 = .ok (.getfield 227, 3) := by decide +kernel
theorem dX9_turnOf_75 : decode cX9_turnOf 75 = .ok (.iload_n 2, 1) := by decide +kernel
theorem dX9_turnOf_76 : decode cX9_turnOf 76 = .ok (.aload_n 0, 1) := by decide +kernel
theorem dX9_turnOf_77 : decode cX9_turnOf 77 = .ok (.getfield 53, 3) := by decide +kernel
theorem dX9_turnOf_80 : decode cX9_turnOf 80 = .ok (.invokevirtual 221, 3) := by decide +kernel
theorem dX9_turnOf_83 : decode cX9_turnOf 83 = .ok (.iastore, 1) := by decide +kernel
theorem dX9_turnOf_84 : decode cX9_turnOf 84 = .ok (.iinc 2 1, 3) := by decide +kernel
theorem dX9_turnOf_87 : decode cX9_turnOf 87 = .ok (.goto (-33), 3) := by decide +kernel
theorem dX9_turnOf_90 : decode cX9_turnOf 90 = .ok (.return_, 1) := by decide +kernel
theorem dX9_laidFor_0 : decode cX9_laidFor 0 = .ok (.iconst 0, 1) := by decide +kernel
theorem dX9_laidFor_1 : decode cX9_laidFor 1 = .ok (.istore_n 2, 1) := by decide +kernel
theorem dX9_laidFor_2 : decode cX9_laidFor 2 = .ok (.iload_n 2, 1) := by decide +kernel
theorem dX9_laidFor_3 : decode cX9_laidFor 3 = .ok (.aload_n 1, 1) := by decide +kernel
theorem dX9_laidFor_4 : decode cX9_laidFor 4 = .ok (.getfield 114, 3) := by decide +kernel
theorem dX9_laidFor_7 : decode cX9_laidFor 7 = .ok (.if_icmp .ge 24, 3) := by decide +kernel
theorem dX9_laidFor_10 : decode cX9_laidFor 10 = .ok (.aload_n 1, 1) := by decide +kernel
theorem dX9_laidFor_11 : decode cX9_laidFor 11 = .ok (.aload_n 0, 1) := by decide +kernel
theorem dX9_laidFor_12 : decode cX9_laidFor 12 = .ok (.getfield 33, 3) := by decide +kernel
theorem dX9_laidFor_15 : decode cX9_laidFor 15 = .ok (.iload_n 2, 1) := by decide +kernel
theorem dX9_laidFor_16 : decode cX9_laidFor 16 = .ok (.iaload, 1) := by decide +kernel
theorem dX9_laidFor_17 : decode cX9_laidFor 17 = .ok (.invokevirtual 145, 3) := by decide +kernel
theorem dX9_laidFor_20 : decode cX9_laidFor 20 = .ok (.ifCond .ne 5, 3) := by decide +kernel
theorem dX9_laidFor_23 : decode cX9_laidFor 23 = .ok (.iconst 0, 1) := by decide +kernel
theorem dX9_laidFor_24 : decode cX9_laidFor 24 = .ok (.ireturn, 1) := by decide +kernel
theorem dX9_laidFor_25 : decode cX9_laidFor 25 = .ok (.iinc 2 1, 3) := by decide +kernel
theorem dX9_laidFor_28 : decode cX9_laidFor 28 = .ok (.goto (-26), 3) := by decide +kernel
theorem dX9_laidFor_31 : decode cX9_laidFor 31 = .ok (.iconst 1, 1) := by decide +kernel
theorem dX9_laidFor_32 : decode cX9_laidFor 32 = .ok (.ireturn, 1) := by decide +kernel
