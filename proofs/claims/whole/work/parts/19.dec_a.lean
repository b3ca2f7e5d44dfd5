theorem dX0_init_0 : decode cX0_init 0 = .ok (.aload_n 0, 1) := by decide +kernel
theorem dX0_init_1 : decode cX0_init 1 = .ok (.invokespecial 3, 3) := by decide +kernel
theorem dX0_init_4 : decode cX0_init 4 = .ok (.aload_n 0, 1) := by decide +kernel
theorem dX0_init_5 : decode cX0_init 5 = .ok (.bipush 11, 2) := by decide +kernel
theorem dX0_init_7 : decode cX0_init 7 = .ok (.bipush 30, 2) := by decide +kernel
theorem dX0_init_9 : decode cX0_init 9 = .ok (.multianewarray 9 2, 4) := by decide +kernel
theorem dX0_init_13 : decode cX0_init 13 = .ok (.putfield 11, 3) := by decide +kernel
theorem dX0_init_16 : decode cX0_init 16 = .ok (.aload_n 0, 1) := by decide +kernel
theorem dX0_init_17 : decode cX0_init 17 = .ok (.bipush 61, 2) := by decide +kernel
theorem dX0_init_19 : decode cX0_init 19 = .ok (.newarray .int, 2) := by decide +kernel
theorem dX0_init_21 : decode cX0_init 21 = .ok (.putfield 16, 3) := by decide +kernel
theorem dX0_init_24 : decode cX0_init 24 = .ok (.return_, 1) := by decide +kernel
theorem dX0_findFitting_0 : decode cX0_findFitting 0 = .ok (.iconst 0, 1) := by decide +kernel
theorem dX0_findFitting_1 : decode cX0_findFitting 1 = .ok (.istore 4, 2) := by decide +kernel
theorem dX0_findFitting_3 : decode cX0_findFitting 3 = .ok (.iconst 0, 1) := by decide +kernel
theorem dX0_findFitting_4 : decode cX0_findFitting 4 = .ok (.istore 5, 2) := by decide +kernel
theorem dX0_findFitting_6 : decode cX0_findFitting 6 = .ok (.iload 5, 2) := by decide +kernel
theorem dX0_findFitting_8 : decode cX0_findFitting 8 = .ok (.aload_n 1, 1) := by decide +kernel
theorem dX0_findFitting_9 : decode cX0_findFitting 9 = .ok (.getfield 20, 3) := by decide +kernel
theorem dX0_findFitting_12 : decode cX0_findFitting 12 = .ok (.if_icmp .gt 73, 3) := by decide +kernel
theorem dX0_findFitting_15 : decode cX0_findFitting 15 = .ok (.iload 5, 2) := by decide +kernel
theorem dX0_findFitting_17 : decode cX0_findFitting 17 = .ok (.bipush 10, 2) := by decide +kernel
theorem dX0_findFitting_19 : decode cX0_findFitting 19 = .ok (.if_icmp .gt 66, 3) := by decide +kernel
theorem dX0_findFitting_22 : decode cX0_findFitting 22 = .ok (.aload_n 2, 1) := by decide +kernel
theorem dX0_findFitting_23 : decode cX0_findFitting 23 = .ok (.getfield 26, 3) := by decide +kernel
theorem dX0_findFitting_26 : decode cX0_findFitting 26 = .ok (.aload_n 0, 1) := by decide +kernel
theorem dX0_findFitting_27 : decode cX0_findFitting 27 = .ok (.getfield 11, 3) := by decide +kernel
theorem dX0_findFitting_30 : decode cX0_findFitting 30 = .ok (.iload 5, 2) := by decide +kernel
theorem dX0_findFitting_32 : decode cX0_findFitting 32 = .ok (.aaload, 1) := by decide +kernel
theorem dX0_findFitting_33 : decode cX0_findFitting 33 = .ok (.invokestatic 31, 3) := by decide +kernel
theorem dX0_findFitting_36 : decode cX0_findFitting 36 = .ok (.aload_n 1, 1) := by decide +kernel
theorem dX0_findFitting_37 : decode cX0_findFitting 37 = .ok (.aload_n 0, 1) := by decide +kernel
theorem dX0_findFitting_38 : decode cX0_findFitting 38 = .ok (.getfield 11, 3) := by decide +kernel
theorem dX0_findFitting_41 : decode cX0_findFitting 41 = .ok (.iload 5, 2) := by decide +kernel
theorem dX0_findFitting_43 : decode cX0_findFitting 43 = .ok (.aaload, 1) := by decide +kernel
theorem dX0_findFitting_44 : decode cX0_findFitting 44 = .ok (.aload_n 2, 1) := by decide +kernel
theorem dX0_findFitting_45 : decode cX0_findFitting 45 = .ok (.getfield 35, 3) := by decide +kernel
theorem dX0_findFitting_48 : decode cX0_findFitting 48 = .ok (.iconst 1, 1) := by decide +kernel
theorem dX0_findFitting_49 : decode cX0_findFitting 49 = .ok (.iload 5, 2) := by decide +kernel
theorem dX0_findFitting_51 : decode cX0_findFitting 51 = .ok (.ishl, 1) := by decide +kernel
theorem dX0_findFitting_52 : decode cX0_findFitting 52 = .ok (.invokevirtual 38, 3) := by decide +kernel
theorem dX0_findFitting_55 : decode cX0_findFitting 55 = .ok (.aload_n 3, 1) := by decide +kernel
theorem dX0_findFitting_56 : decode cX0_findFitting 56 = .ok (.aload_n 0, 1) := by decide +kernel
theorem dX0_findFitting_57 : decode cX0_findFitting 57 = .ok (.getfield 11, 3) := by decide +kernel
theorem dX0_findFitting_60 : decode cX0_findFitting 60 = .ok (.iload 5, 2) := by decide +kernel
theorem dX0_findFitting_62 : decode cX0_findFitting 62 = .ok (.aaload, 1) := by decide +kernel
theorem dX0_findFitting_63 : decode cX0_findFitting 63 = .ok (.invokevirtual 42, 3) := by decide +kernel
theorem dX0_findFitting_66 : decode cX0_findFitting 66 = .ok (.iconst (-1), 1) := by decide +kernel
theorem dX0_findFitting_67 : decode cX0_findFitting 67 = .ok (.if_icmp .ne 12, 3) := by decide +kernel
theorem dX0_findFitting_70 : decode cX0_findFitting 70 = .ok (.iload 4, 2) := by decide +kernel
theorem dX0_findFitting_72 : decode cX0_findFitting 72 = .ok (.iconst 1, 1) := by decide +kernel
theorem dX0_findFitting_73 : decode cX0_findFitting 73 = .ok (.iload 5, 2) := by decide +kernel
theorem dX0_findFitting_75 : decode cX0_findFitting 75 = .ok (.ishl, 1) := by decide +kernel
theorem dX0_findFitting_76 : decode cX0_findFitting 76 = .ok (.ior, 1) := by decide +kernel
theorem dX0_findFitting_77 : decode cX0_findFitting 77 = .ok (.istore 4, 2) := by decide +kernel
theorem dX0_findFitting_79 : decode cX0_findFitting 79 = .ok (.iinc 5 1, 3) := by decide +kernel
theorem dX0_findFitting_82 : decode cX0_findFitting 82 = .ok (.goto (-76), 3) := by decide +kernel
theorem dX0_findFitting_85 : decode cX0_findFitting 85 = .ok (.iload 4, 2) := by decide +kernel
theorem dX0_findFitting_87 : decode cX0_findFitting 87 = .ok (.ireturn, 1) := by decide +kernel
theorem dX0_bestLook_0 : decode cX0_bestLook 0 = .ok (.iload_n 2, 1) := by decide +kernel
theorem dX0_bestLook_1 : decode cX0_bestLook 1 = .ok (.invokestatic 48, 3) := by decide +kernel
theorem dX0_bestLook_4 : decode cX0_bestLook 4 = .ok (.istore_n 3, 1) := by decide +kernel
theorem dX0_bestLook_5 : decode cX0_bestLook 5 = .ok (.iconst (-1), 1) := by decide +kernel
theorem dX0_bestLook_6 : decode cX0_bestLook 6 = .ok (.istore 4, 2) := by decide +kernel
theorem dX0_bestLook_8 : decode cX0_bestLook 8 = .ok (.iconst 0, 1) := by decide +kernel
theorem dX0_bestLook_9 : decode cX0_bestLook 9 = .ok (.istore 5, 2) := by decide +kernel
theorem dX0_bestLook_11 : decode cX0_bestLook 11 = .ok (.iload 5, 2) := by decide +kernel
theorem dX0_bestLook_13 : decode cX0_bestLook 13 = .ok (.aload_n 1, 1) := by decide +kernel
theorem dX0_bestLook_14 : decode cX0_bestLook 14 = .ok (.getfield 54, 3) := by decide +kernel
theorem dX0_bestLook_17 : decode cX0_bestLook 17 = .ok (.if_icmp .ge 60, 3) := by decide +kernel
theorem dX0_bestLook_20 : decode cX0_bestLook 20 = .ok (.iconst 0, 1) := by decide +kernel
theorem dX0_bestLook_21 : decode cX0_bestLook 21 = .ok (.istore 6, 2) := by decide +kernel
theorem dX0_bestLook_23 : decode cX0_bestLook 23 = .ok (.iload 6, 2) := by decide +kernel
theorem dX0_bestLook_25 : decode cX0_bestLook 25 = .ok (.aload_n 1, 1) := by decide +kernel
theorem dX0_bestLook_26 : decode cX0_bestLook 26 = .ok (.getfield 57, 3) := by decide +kernel
theorem dX0_bestLook_29 : decode cX0_bestLook 29 = .ok (.if_icmp .ge 42, 3) := by decide +kernel
theorem dX0_bestLook_32 : decode cX0_bestLook 32 = .ok (.aload_n 0, 1) := by decide +kernel
theorem dX0_bestLook_33 : decode cX0_bestLook 33 = .ok (.iload_n 2, 1) := by decide +kernel
theorem dX0_bestLook_34 : decode cX0_bestLook 34 = .ok (.iload 5, 2) := by decide +kernel
theorem dX0_bestLook_36 : decode cX0_bestLook 36 = .ok (.iload 6, 2) := by decide +kernel
theorem dX0_bestLook_38 : decode cX0_bestLook 38 = .ok (.invokestatic 60, 3) := by decide +kernel
theorem dX0_bestLook_41 : decode cX0_bestLook 41 = .ok (.invokevirtual 64, 3) := by decide +kernel
theorem dX0_bestLook_44 : decode cX0_bestLook 44 = .ok (.istore 7, 2) := by decide +kernel
theorem dX0_bestLook_46 : decode cX0_bestLook 46 = .ok (.iload 7, 2) := by decide +kernel
theorem dX0_bestLook_48 : decode cX0_bestLook 48 = .ok (.iload_n 3, 1) := by decide +kernel
theorem dX0_bestLook_49 : decode cX0_bestLook 49 = .ok (.if_icmp .ge 16, 3) := by decide +kernel
theorem dX0_bestLook_52 : decode cX0_bestLook 52 = .ok (.iload 7, 2) := by decide +kernel
theorem dX0_bestLook_54 : decode cX0_bestLook 54 = .ok (.istore_n 3, 1) := by decide +kernel
theorem dX0_bestLook_55 : decode cX0_bestLook 55 = .ok (.bipush 10, 2) := by decide +kernel
theorem dX0_bestLook_57 : decode cX0_bestLook 57 = .ok (.iload 5, 2) := by decide +kernel
theorem dX0_bestLook_59 : decode cX0_bestLook 59 = .ok (.imul, 1) := by decide +kernel
theorem dX0_bestLook_60 : decode cX0_bestLook 60 = .ok (.iload 6, 2) := by decide +kernel
theorem dX0_bestLook_62 : decode cX0_bestLook 62 = .ok (.iadd, 1) := by decide +kernel
theorem dX0_bestLook_63 : decode cX0_bestLook 63 = .ok (.istore 4, 2) := by decide +kernel
theorem dX0_bestLook_65 : decode cX0_bestLook 65 = .ok (.iinc 6 1, 3) := by decide +kernel
theorem dX0_bestLook_68 : decode cX0_bestLook 68 = .ok (.goto (-45), 3) := by decide +kernel
theorem dX0_bestLook_71 : decode cX0_bestLook 71 = .ok (.iinc 5 1, 3) := by decide +kernel
theorem dX0_bestLook_74 : decode cX0_bestLook 74 = .ok (.goto (-63), 3) := by decide +kernel
theorem dX0_bestLook_77 : decode cX0_bestLook 77 = .ok (.iload 4, 2) := by decide +kernel
theorem dX0_bestLook_79 : decode cX0_bestLook 79 = .ok (.ireturn, 1) := by decide +kernel
theorem dX0_greatestPart_0 : decode cX0_greatestPart 0 = .ok (.iconst 0, 1) := by decide +kernel
theorem dX0_greatestPart_1 : decode cX0_greatestPart 1 = .ok (.istore_n 3, 1) := by decide +kernel
theorem dX0_greatestPart_2 : decode cX0_greatestPart 2 = .ok (.iload_n 3, 1) := by decide +kernel
theorem dX0_greatestPart_3 : decode cX0_greatestPart 3 = .ok (.bipush 60, 2) := by decide +kernel
theorem dX0_greatestPart_5 : decode cX0_greatestPart 5 = .ok (.if_icmp .gt 16, 3) := by decide +kernel
theorem dX0_greatestPart_8 : decode cX0_greatestPart 8 = .ok (.aload_n 0, 1) := by decide +kernel
theorem dX0_greatestPart_9 : decode cX0_greatestPart 9 = .ok (.getfield 16, 3) := by decide +kernel
theorem dX0_greatestPart_12 : decode cX0_greatestPart 12 = .ok (.iload_n 3, 1) := by decide +kernel
theorem dX0_greatestPart_13 : decode cX0_greatestPart 13 = .ok (.iconst 0, 1) := by decide +kernel
theorem dX0_greatestPart_14 : decode cX0_greatestPart 14 = .ok (.iastore, 1) := by decide +kernel
theorem dX0_greatestPart_15 : decode cX0_greatestPart 15 = .ok (.iinc 3 1, 3) := by decide +kernel
theorem dX0_greatestPart_18 : decode cX0_greatestPart 18 = .ok (.goto (-16), 3) := by decide +kernel
theorem dX0_greatestPart_21 : decode cX0_greatestPart 21 = .ok (.iconst 0, 1) := by decide +kernel
theorem dX0_greatestPart_22 : decode cX0_greatestPart 22 = .ok (.istore_n 3, 1) := by decide +kernel
theorem dX0_greatestPart_23 : decode cX0_greatestPart 23 = .ok (.iconst 0, 1) := by decide +kernel
theorem dX0_greatestPart_24 : decode cX0_greatestPart 24 = .ok (.istore 4, 2) := by decide +kernel
theorem dX0_greatestPart_26 : decode cX0_greatestPart 26 = .ok (.iload 4, 2) := by decide +kernel
theorem dX0_greatestPart_28 : decode cX0_greatestPart 28 = .ok (.bipush 10, 2) := by decide +kernel
theorem dX0_greatestPart_30 : decode cX0_greatestPart 30 = .ok (.if_icmp .gt 60, 3) := by decide +kernel
theorem dX0_greatestPart_33 : decode cX0_greatestPart 33 = .ok (.aload_n 0, 1) := by decide +kernel
theorem dX0_greatestPart_34 : decode cX0_greatestPart 34 = .ok (.getfield 11, 3) := by decide +kernel
theorem dX0_greatestPart_37 : decode cX0_greatestPart 37 = .ok (.iload 4, 2) := by decide +kernel
theorem dX0_greatestPart_39 : decode cX0_greatestPart 39 = .ok (.aaload, 1) := by decide +kernel
theorem dX0_greatestPart_40 : decode cX0_greatestPart 40 = .ok (.iload_n 2, 1) := by decide +kernel
theorem dX0_greatestPart_41 : decode cX0_greatestPart 41 = .ok (.iaload, 1) := by decide +kernel
theorem dX0_greatestPart_42 : decode cX0_greatestPart 42 = .ok (.istore 5, 2) := by decide +kernel
theorem dX0_greatestPart_44 : decode cX0_greatestPart 44 = .ok (.iload_n 1, 1) := by decide +kernel
theorem dX0_greatestPart_45 : decode cX0_greatestPart 45 = .ok (.iload 4, 2) := by decide +kernel
theorem dX0_greatestPart_47 : decode cX0_greatestPart 47 = .ok (.invokestatic 67, 3) := by decide +kernel
theorem dX0_greatestPart_50 : decode cX0_greatestPart 50 = .ok (.ifCond .eq 34, 3) := by decide +kernel
theorem dX0_greatestPart_53 : decode cX0_greatestPart 53 = .ok (.iload 5, 2) := by decide +kernel
theorem dX0_greatestPart_55 : decode cX0_greatestPart 55 = .ok (.invokestatic 71, 3) := by decide +kernel
theorem dX0_greatestPart_58 : decode cX0_greatestPart 58 = .ok (.ifCond .eq 26, 3) := by decide +kernel
theorem dX0_greatestPart_61 : decode cX0_greatestPart 61 = .ok (.aload_n 0, 1) := by decide +kernel
theorem dX0_greatestPart_62 : decode cX0_greatestPart 62 = .ok (.getfield 16, 3) := by decide +kernel
theorem dX0_greatestPart_65 : decode cX0_greatestPart 65 = .ok (.iload 5, 2) := by decide +kernel
theorem dX0_greatestPart_67 : decode cX0_greatestPart 67 = .ok (.dup2, 1) := by decide +kernel
theorem dX0_greatestPart_68 : decode cX0_greatestPart 68 = .ok (.iaload, 1) := by decide +kernel
theorem dX0_greatestPart_69 : decode cX0_greatestPart 69 = .ok (.iconst 1, 1) := by decide +kernel
theorem dX0_greatestPart_70 : decode cX0_greatestPart 70 = .ok (.iadd, 1) := by decide +kernel
theorem dX0_greatestPart_71 : decode cX0_greatestPart 71 = .ok (.iastore, 1) := by decide +kernel
theorem dX0_greatestPart_72 : decode cX0_greatestPart 72 = .ok (.iload_n 3, 1) := by decide +kernel
theorem dX0_greatestPart_73 : decode cX0_greatestPart 73 = .ok (.aload_n 0, 1) := by decide +kernel
theorem dX0_greatestPart_74 : decode cX0_greatestPart 74 = .ok (.getfield 16, 3) := by decide +kernel
theorem dX0_greatestPart_77 : decode cX0_greatestPart 77 = .ok (.iload 5, 2) := by decide +kernel
theorem dX0_greatestPart_79 : decode cX0_greatestPart 79 = .ok (.iaload, 1) := by decide +kernel
theorem dX0_greatestPart_80 : decode cX0_greatestPart 80 = .ok (.invokestatic 75, 3) := by decide +kernel
theorem dX0_greatestPart_83 : decode cX0_greatestPart 83 = .ok (.istore_n 3, 1) := by decide +kernel
theorem dX0_greatestPart_84 : decode cX0_greatestPart 84 = .ok (.iinc 4 1, 3) := by decide +kernel
theorem dX0_greatestPart_87 : decode cX0_greatestPart 87 = .ok (.goto (-61), 3) := by decide +kernel
theorem dX0_greatestPart_90 : decode cX0_greatestPart 90 = .ok (.iload_n 3, 1) := by decide +kernel
theorem dX0_greatestPart_91 : decode cX0_greatestPart 91 = .ok (.ireturn, 1) := by decide +kernel
theorem dX1_init_0 : decode cX1_init 0 = .ok (.aload_n 0, 1) := by decide +kernel
theorem dX1_init_1 : decode cX1_init 1 = .ok (.invokespecial 3, 3) := by decide +kernel
theorem dX1_init_4 : decode cX1_init 4 = .ok (.aload_n 0, 1) := by decide +kernel
theorem dX1_init_5 : decode cX1_init 5 = .ok (.bipush 20, 2) := by decide +kernel
theorem dX1_init_7 : decode cX1_init 7 = .ok (.anewarray 9, 3) := by decide +kernel
theorem dX1_init_10 : decode cX1_init 10 = .ok (.putfield 11, 3) := by decide +kernel
theorem dX1_init_13 : decode cX1_init 13 = .ok (.iconst 0, 1) := by decide +kernel
theorem dX1_init_14 : decode cX1_init 14 = .ok (.istore_n 1, 1) := by decide +kernel
theorem dX1_init_15 : decode cX1_init 15 = .ok (.iload_n 1, 1) := by decide +kernel
theorem dX1_init_16 : decode cX1_init 16 = .ok (.bipush 20, 2) := by decide +kernel
theorem dX1_init_18 : decode cX1_init 18 = .ok (.if_icmp .ge 22, 3) := by decide +kernel
theorem dX1_init_21 : decode cX1_init 21 = .ok (.aload_n 0, 1) := by decide +kernel
theorem dX1_init_22 : decode cX1_init 22 = .ok (.getfield 11, 3) := by decide +kernel
theorem dX1_init_25 : decode cX1_init 25 = .ok (.iload_n 1, 1) := by decide +kernel
theorem dX1_init_26 : decode cX1_init 26 = .ok (.new 9, 3) := by decide +kernel
theorem dX1_init_29 : decode cX1_init 29 = .ok (.dup, 1) := by decide +kernel
theorem dX1_init_30 : decode cX1_init 30 = .ok (.invokespecial 17, 3) := by decide +kernel
theorem dX1_init_33 : decode cX1_init 33 = .ok (.aastore, 1) := by decide +kernel
theorem dX1_init_34 : decode cX1_init 34 = .ok (.iinc 1 1, 3) := by decide +kernel
theorem dX1_init_37 : decode cX1_init 37 = .ok (.goto (-22), 3) := by decide +kernel
theorem dX1_init_40 : decode cX1_init 40 = .ok (.return_, 1) := by decide +kernel
theorem dX1_remember_0 : decode cX1_remember 0 = .ok (.aload_n 0, 1) := by decide +kernel
theorem dX1_remember_1 : decode cX1_remember 1 = .ok (.getfield 11, 3) := by decide +kernel
theorem dX1_remember_4 : decode cX1_remember 4 = .ok (.aload_n 0, 1) := by decide +kernel
theorem dX1_remember_5 : decode cX1_remember 5 = .ok (.getfield 18, 3) := by decide +kernel
theorem dX1_remember_8 : decode cX1_remember 8 = .ok (.aaload, 1) := by decide +kernel
theorem dX1_remember_9 : decode cX1_remember 9 = .ok (.aload_n 1, 1) := by decide +kernel
theorem dX1_remember_10 : decode cX1_remember 10 = .ok (.invokevirtual 22, 3) := by decide +kernel
theorem dX1_remember_13 : decode cX1_remember 13 = .ok (.aload_n 0, 1) := by decide +kernel
theorem dX1_remember_14 : decode cX1_remember 14 = .ok (.aload_n 0, 1) := by decide +kernel
theorem dX1_remember_15 : decode cX1_remember 15 = .ok (.getfield 18, 3) := by decide +kernel
theorem dX1_remember_18 : decode cX1_remember 18 = .ok (.iconst 1, 1) := by decide +kernel
theorem dX1_remember_19 : decode cX1_remember 19 = .ok (.iadd, 1) := by decide +kernel
theorem dX1_remember_20 : decode cX1_remember 20 = .ok (.bipush 20, 2) := by decide +kernel
theorem dX1_remember_22 : decode cX1_remember 22 = .ok (.if_icmp .ge 12, 3) := by decide +kernel
theorem dX1_remember_25 : decode cX1_remember 25 = .ok (.aload_n 0, 1) := by decide +kernel
theorem dX1_remember_26 : decode cX1_remember 26 = .ok (.getfield 18, 3) := by decide +kernel
theorem dX1_remember_29 : decode cX1_remember 29 = .ok (.iconst 1, 1) := by decide +kernel
theorem dX1_remember_30 : decode cX1_remember 30 = .ok (.iadd, 1) := by decide +kernel
theorem dX1_remember_31 : decode cX1_remember 31 = .ok (.goto 4, 3) := by decide +kernel
theorem dX1_remember_34 : decode cX1_remember 34 = .ok (.iconst 0, 1) := by decide +kernel
theorem dX1_remember_35 : decode cX1_remember 35 = .ok (.putfield 18, 3) := by decide +kernel
theorem dX1_remember_38 : decode cX1_remember 38 = .ok (.aload_n 0, 1) := by decide +kernel
theorem dX1_remember_39 : decode cX1_remember 39 = .ok (.aload_n 0, 1) := by decide +kernel
theorem dX1_remember_40 : decode cX1_remember 40 = .ok (.getfield 26, 3) := by decide +kernel
theorem dX1_remember_43 : decode cX1_remember 43 = .ok (.iconst 1, 1) := by decide +kernel
theorem dX1_remember_44 : decode cX1_remember 44 = .ok (.iadd, 1) := by decide +kernel
theorem dX1_remember_45 : decode cX1_remember 45 = .ok (.bipush 20, 2) := by decide +kernel
theorem dX1_remember_47 : decode cX1_remember 47 = .ok (.invokestatic 29, 3) := by decide +kernel
theorem dX1_remember_50 : decode cX1_remember 50 = .ok (.putfield 26, 3) := by decide +kernel
theorem dX1_remember_53 : decode cX1_remember 53 = .ok (.return_, 1) := by decide +kernel
theorem dX1_takeBack_0 : decode cX1_takeBack 0 = .ok (.aload_n 0, 1) := by decide +kernel
theorem dX1_takeBack_1 : decode cX1_takeBack 1 = .ok (.getfield 26, 3) := by decide +kernel
theorem dX1_takeBack_4 : decode cX1_takeBack 4 = .ok (.ifCond .le 48, 3) := by decide +kernel
theorem dX1_takeBack_7 : decode cX1_takeBack 7 = .ok (.aload_n 0, 1) := by decide +kernel
theorem dX1_takeBack_8 : decode cX1_takeBack 8 = .ok (.aload_n 0, 1) := by decide +kernel
theorem dX1_takeBack_9 : decode cX1_takeBack 9 = .ok (.getfield 18, 3) := by decide +kernel
theorem dX1_takeBack_12 : decode cX1_takeBack 12 = .ok (.ifCond .le 12, 3) := by decide +kernel
theorem dX1_takeBack_15 : decode cX1_takeBack 15 = .ok (.aload_n 0, 1) := by decide +kernel
theorem dX1_takeBack_16 : decode cX1_takeBack 16 = .ok (.getfield 18, 3) := by decide +kernel
theorem dX1_takeBack_19 : decode cX1_takeBack 19 = .ok (.iconst 1, 1) := by decide +kernel
theorem dX1_takeBack_20 : decode cX1_takeBack 20 = .ok (.isub, 1) := by decide +kernel
theorem dX1_takeBack_21 : decode cX1_takeBack 21 = .ok (.goto 5, 3) := by decide +kernel
theorem dX1_takeBack_24 : decode cX1_takeBack 24 = .ok (.bipush 19, 2) := by decide +kernel
theorem dX1_takeBack_26 : decode cX1_takeBack 26 = .ok (.putfield 18, 3) := by decide +kernel
theorem dX1_takeBack_29 : decode cX1_takeBack 29 = .ok (.aload_n 1, 1) := by decide +kernel
theorem dX1_takeBack_30 : decode cX1_takeBack 30 = .ok (.aload_n 0, 1) := by decide +kernel
theorem dX1_takeBack_31 : decode cX1_takeBack 31 = .ok (.getfield 11, 3) := by decide +kernel
theorem dX1_takeBack_34 : decode cX1_takeBack 34 = .ok (.aload_n 0, 1) := by decide +kernel
theorem dX1_takeBack_35 : decode cX1_takeBack 35 = .ok (.getfield 18, 3) := by decide +kernel
theorem dX1_takeBack_38 : decode cX1_takeBack 38 = .ok (.aaload, 1) := by decide +kernel
theorem dX1_takeBack_39 : decode cX1_takeBack 39 = .ok (.invokevirtual 22, 3) := by decide +kernel
theorem dX1_takeBack_42 : decode cX1_takeBack 42 = .ok (.aload_n 0, 1) := by decide +kernel
theorem dX1_takeBack_43 : decode cX1_takeBack 43 = .ok (.dup, 1) := by decide +kernel
theorem dX1_takeBack_44 : decode cX1_takeBack 44 = .ok (.getfield 26, 3) := by decide +kernel
theorem dX1_takeBack_47 : decode cX1_takeBack 47 = .ok (.iconst 1, 1) := by decide +kernel
theorem dX1_takeBack_48 : decode cX1_takeBack 48 = .ok (.isub, 1) := by decide +kernel
theorem dX1_takeBack_49 : decode cX1_takeBack 49 = .ok (.putfield 26, 3) := by decide +kernel
theorem dX1_takeBack_52 : decode cX1_takeBack 52 = .ok (.return_, 1) := by decide +kernel
theorem dX2_init_0 : decode cX2_init 0 = .ok (.aload_n 0, 1) := by decide +kernel
theorem dX2_init_1 : decode cX2_init 1 = .ok (.invokespecial 3, 3) := by decide +kernel
theorem dX2_init_4 : decode cX2_init 4 = .ok (.aload_n 0, 1) := by decide +kernel
theorem dX2_init_5 : decode cX2_init 5 = .ok (.bipush 30, 2) := by decide +kernel
theorem dX2_init_7 : decode cX2_init 7 = .ok (.newarray .int, 2) := by decide +kernel
theorem dX2_init_9 : decode cX2_init 9 = .ok (.putfield 9, 3) := by decide +kernel
theorem dX2_init_12 : decode cX2_init 12 = .ok (.aload_n 0, 1) := by decide +kernel
theorem dX2_init_13 : decode cX2_init 13 = .ok (.bipush 10, 2) := by decide +kernel
theorem dX2_init_15 : decode cX2_init 15 = .ok (.newarray .int, 2) := by decide +kernel
theorem dX2_init_17 : decode cX2_init 17 = .ok (.putfield 15, 3) := by decide +kernel
theorem dX2_init_20 : decode cX2_init 20 = .ok (.aload_n 0, 1) := by decide +kernel
theorem dX2_init_21 : decode cX2_init 21 = .ok (.bipush 10, 2) := by decide +kernel
theorem dX2_init_23 : decode cX2_init 23 = .ok (.newarray .int, 2) := by decide +kernel
theorem dX2_init_25 : decode cX2_init 25 = .ok (.putfield 18, 3) := by decide +kernel
theorem dX2_init_28 : decode cX2_init 28 = .ok (.aload_n 0, 1) := by decide +kernel
theorem dX2_init_29 : decode cX2_init 29 = .ok (.iconst 5, 1) := by decide +kernel
theorem dX2_init_30 : decode cX2_init 30 = .ok (.newarray .int, 2) := by decide +kernel
theorem dX2_init_32 : decode cX2_init 32 = .ok (.putfield 21, 3) := by decide +kernel
theorem dX2_init_35 : decode cX2_init 35 = .ok (.aload_n 0, 1) := by decide +kernel
theorem dX2_init_36 : decode cX2_init 36 = .ok (.iconst 5, 1) := by decide +kernel
theorem dX2_init_37 : decode cX2_init 37 = .ok (.newarray .int, 2) := by decide +kernel
theorem dX2_init_39 : decode cX2_init 39 = .ok (.putfield 24, 3) := by decide +kernel
theorem dX2_init_42 : decode cX2_init 42 = .ok (.aload_n 0, 1) := by decide +kernel
theorem dX2_init_43 : decode cX2_init 43 = .ok (.iconst 5, 1) := by decide +kernel
theorem dX2_init_44 : decode cX2_init 44 = .ok (.newarray .int, 2) := by decide +kernel
theorem dX2_init_46 : decode cX2_init 46 = .ok (.putfield 27, 3) := by decide +kernel
theorem dX2_init_49 : decode cX2_init 49 = .ok (.return_, 1) := by decide +kernel
theorem dX2_clear_0 : decode cX2_clear 0 = .ok (.aload_n 0, 1) := by decide +kernel
theorem dX2_clear_1 : decode cX2_clear 1 = .ok (.iconst 0, 1) := by decide +kernel
theorem dX2_clear_2 : decode cX2_clear 2 = .ok (.putfield 30, 3) := by decide +kernel
theorem dX2_clear_5 : decode cX2_clear 5 = .ok (.aload_n 0, 1) := by decide +kernel
theorem dX2_clear_6 : decode cX2_clear 6 = .ok (.iconst 0, 1) := by decide +kernel
theorem dX2_clear_7 : decode cX2_clear 7 = .ok (.putfield 34, 3) := by decide +kernel
theorem dX2_clear_10 : decode cX2_clear 10 = .ok (.aload_n 0, 1) := by decide +kernel
theorem dX2_clear_11 : decode cX2_clear 11 = .ok (.iconst 0, 1) := by decide +kernel
theorem dX2_clear_12 : decode cX2_clear 12 = .ok (.putfield 37, 3) := by decide +kernel
theorem dX2_clear_15 : decode cX2_clear 15 = .ok (.aload_n 0, 1) := by decide +kernel
theorem dX2_clear_16 : decode cX2_clear 16 = .ok (.iconst 0, 1) := by decide +kernel
theorem dX2_clear_17 : decode cX2_clear 17 = .ok (.putfield 40, 3) := by decide +kernel
theorem dX2_clear_20 : decode cX2_clear 20 = .ok (.aload_n 0, 1) := by decide +kernel
theorem dX2_clear_21 : decode cX2_clear 21 = .ok (.iconst 0, 1) := by decide +kernel
theorem dX2_clear_22 : decode cX2_clear 22 = .ok (.putfield 43, 3) := by decide +kernel
theorem dX2_clear_25 : decode cX2_clear 25 = .ok (.aload_n 0, 1) := by decide +kernel
theorem dX2_clear_26 : decode cX2_clear 26 = .ok (.iconst 0, 1) := by decide +kernel
theorem dX2_clear_27 : decode cX2_clear 27 = .ok (.putfield 46, 3) := by decide +kernel
theorem dX2_clear_30 : decode cX2_clear 30 = .ok (.return_, 1) := by decide +kernel
theorem dX2_become_0 : decode cX2_become 0 = .ok (.aload_n 1, 1) := by decide +kernel
theorem dX2_become_1 : decode cX2_become 1 = .ok (.getfield 9, 3) := by decide +kernel
theorem dX2_become_4 : decode cX2_become 4 = .ok (.aload_n 0, 1) := by decide +kernel
theorem dX2_become_5 : decode cX2_become 5 = .ok (.getfield 9, 3) := by decide +kernel
theorem dX2_become_8 : decode cX2_become 8 = .ok (.invokestatic 49, 3) := by decide +kernel
theorem dX2_become_11 : decode cX2_become 11 = .ok (.aload_n 1, 1) := by decide +kernel
theorem dX2_become_12 : decode cX2_become 12 = .ok (.getfield 15, 3) := by decide +kernel
theorem dX2_become_15 : decode cX2_become 15 = .ok (.iconst 0, 1) := by decide +kernel
theorem dX2_become_16 : decode cX2_become 16 = .ok (.aload_n 0, 1) := by decide +kernel
theorem dX2_become_17 : decode cX2_become 17 = .ok (.getfield 15, 3) := by decide +kernel
theorem dX2_become_20 : decode cX2_become 20 = .ok (.iconst 0, 1) := by decide +kernel
theorem dX2_become_21 : decode cX2_become 21 = .ok (.bipush 10, 2) := by decide +kernel
theorem dX2_become_23 : decode cX2_become 23 = .ok (.invokestatic 53, 3) := by decide +kernel
theorem dX2_become_26 : decode cX2_become 26 = .ok (.aload_n 1, 1) := by decide +kernel
theorem dX2_become_27 : decode cX2_become 27 = .ok (.getfield 18, 3) := by decide +kernel
theorem dX2_become_30 : decode cX2_become 30 = .ok (.iconst 0, 1) := by decide +kernel
theorem dX2_become_31 : decode cX2_become 31 = .ok (.aload_n 0, 1) := by decide +kernel
theorem dX2_become_32 : decode cX2_become 32 = .ok (.getfield 18, 3) := by decide +kernel
theorem dX2_become_35 : decode cX2_become 35 = .ok (.iconst 0, 1) := by decide +kernel
theorem dX2_become_36 : decode cX2_become 36 = .ok (.bipush 10, 2) := by decide +kernel
theorem dX2_become_38 : decode cX2_become 38 = .ok (.invokestatic 53, 3) := by decide +kernel
theorem dX2_become_41 : decode cX2_become 41 = .ok (.aload_n 0, 1) := by decide +kernel
theorem dX2_become_42 : decode cX2_become 42 = .ok (.aload_n 1, 1) := by decide +kernel
theorem dX2_become_43 : decode cX2_become 43 = .ok (.getfield 30, 3) := by decide +kernel
theorem dX2_become_46 : decode cX2_become 46 = .ok (.putfield 30, 3) := by decide +kernel
theorem dX2_become_49 : decode cX2_become 49 = .ok (.aload_n 0, 1) := by decide +kernel
theorem dX2_become_50 : decode cX2_become 50 = .ok (.aload_n 1, 1) := by decide +kernel
theorem dX2_become_51 : decode cX2_become 51 = .ok (.getfield 34, 3) := by decide +kernel
theorem dX2_become_54 : decode cX2_become 54 = .ok (.putfield 34, 3) := by decide +kernel
theorem dX2_become_57 : decode cX2_become 57 = .ok (.aload_n 0, 1) := by decide +kernel
theorem dX2_become_58 : decode cX2_become 58 = .ok (.aload_n 1, 1) := by decide +kernel
theorem dX2_become_59 : decode cX2_become 59 = .ok (.getfield 37, 3) := by decide +kernel
theorem dX2_become_62 : decode cX2_become 62 = .ok (.putfield 37, 3) := by decide +kernel
theorem dX2_become_65 : decode cX2_become 65 = .ok (.aload_n 0, 1) := by decide +kernel
theorem dX2_become_66 : decode cX2_become 66 = .ok (.aload_n 1, 1) := by decide +kernel
theorem dX2_become_67 : decode cX2_become 67 = .ok (.getfield 40, 3) := by decide +kernel
theorem dX2_become_70 : decode cX2_become 70 = .ok (.putfield 40, 3) := by decide +kernel
theorem dX2_become_73 : decode cX2_become 73 = .ok (.aload_n 0, 1) := by decide +kernel
theorem dX2_become_74 : decode cX2_become 74 = .ok (.aload_n 1, 1) := by decide +kernel
theorem dX2_become_75 : decode cX2_become 75 = .ok (.getfield 43, 3) := by decide +kernel
theorem dX2_become_78 : decode cX2_become 78 = .ok (.putfield 43, 3) := by decide +kernel
theorem dX2_become_81 : decode cX2_become 81 = .ok (.aload_n 0, 1) := by decide +kernel
theorem dX2_become_82 : decode cX2_become 82 = .ok (.aload_n 1, 1) := by decide +kernel
theorem dX2_become_83 : decode cX2_become 83 = .ok (.getfield 46, 3) := by decide +kernel
theorem dX2_become_86 : decode cX2_become 86 = .ok (.putfield 46, 3) := by decide +kernel
theorem dX2_become_89 : decode cX2_become 89 = .ok (.return_, 1) := by decide +kernel
theorem dX2_hasCoat_0 : decode cX2_hasCoat 0 = .ok (.iload_n 1, 1) := by decide +kernel
theorem dX2_hasCoat_1 : decode cX2_hasCoat 1 = .ok (.ifCond .lt 15, 3) := by decide +kernel
theorem dX2_hasCoat_4 : decode cX2_hasCoat 4 = .ok (.iload_n 1, 1) := by decide +kernel
theorem dX2_hasCoat_5 : decode cX2_hasCoat 5 = .ok (.aload_n 0, 1) := by decide +kernel
theorem dX2_hasCoat_6 : decode cX2_hasCoat 6 = .ok (.getfield 37, 3) := by decide +kernel
theorem dX2_hasCoat_9 : decode cX2_hasCoat 9 = .ok (.if_icmp .ge 7, 3) := by decide +kernel
theorem dX2_hasCoat_12 : decode cX2_hasCoat 12 = .ok (.iconst 1, 1) := by decide +kernel
theorem dX2_hasCoat_13 : decode cX2_hasCoat 13 = .ok (.goto 4, 3) := by decide +kernel
theorem dX2_hasCoat_16 : decode cX2_hasCoat 16 = .ok (.iconst 0, 1) := by decide +kernel
theorem dX2_hasCoat_17 : decode cX2_hasCoat 17 = .ok (.ireturn, 1) := by decide +kernel
theorem dX2_hasColour_0 : decode cX2_hasColour 0 = .ok (.iload_n 1, 1) := by decide +kernel
theorem dX2_hasColour_1 : decode cX2_hasColour 1 = .ok (.ifCond .lt 15, 3) := by decide +kernel
theorem dX2_hasColour_4 : decode cX2_hasColour 4 = .ok (.iload_n 1, 1) := by decide +kernel
theorem dX2_hasColour_5 : decode cX2_hasColour 5 = .ok (.aload_n 0, 1) := by decide +kernel
theorem dX2_hasColour_6 : decode cX2_hasColour 6 = .ok (.getfield 30, 3) := by decide +kernel
theorem dX2_hasColour_9 : decode cX2_hasColour 9 = .ok (.if_icmp .ge 7, 3) := by decide +kernel
theorem dX2_hasColour_12 : decode cX2_hasColour 12 = .ok (.iconst 1, 1) := by decide +kernel
theorem dX2_hasColour_13 : decode cX2_hasColour 13 = .ok (.goto 4, 3) := by decide +kernel
theorem dX2_hasColour_16 : decode cX2_hasColour 16 = .ok (.iconst 0, 1) := by decide +kernel
theorem dX2_hasColour_17 : decode cX2_hasColour 17 = .ok (.ireturn, 1) := by decide +kernel
theorem dX2_hasCell_0 : decode cX2_hasCell 0 = .ok (.aload_n 0, 1) := by decide +kernel
theorem dX2_hasCell_1 : decode cX2_hasCell 1 = .ok (.iload_n 1, 1) := by decide +kernel
theorem dX2_hasCell_2 : decode cX2_hasCell 2 = .ok (.invokevirtual 59, 3) := by decide +kernel
theorem dX2_hasCell_5 : decode cX2_hasCell 5 = .ok (.ifCond .eq 15, 3) := by decide +kernel
theorem dX2_hasCell_8 : decode cX2_hasCell 8 = .ok (.aload_n 0, 1) := by decide +kernel
theorem dX2_hasCell_9 : decode cX2_hasCell 9 = .ok (.iload_n 2, 1) := by decide +kernel
theorem dX2_hasCell_10 : decode cX2_hasCell 10 = .ok (.invokevirtual 63, 3) := by decide +kernel
theorem dX2_hasCell_13 : decode cX2_hasCell 13 = .ok (.ifCond .eq 7, 3) := by decide +kernel
theorem dX2_hasCell_16 : decode cX2_hasCell 16 = .ok (.iconst 1, 1) := by decide +kernel
theorem dX2_hasCell_17 : decode cX2_hasCell 17 = .ok (.goto 4, 3) := by decide +kernel
theorem dX2_hasCell_20 : decode cX2_hasCell 20 = .ok (.iconst 0, 1) := by decide +kernel
theorem dX2_hasCell_21 : decode cX2_hasCell 21 = .ok (.ireturn, 1) := by decide +kernel
theorem dX2_hasPair_0 : decode cX2_hasPair 0 = .ok (.aload_n 0, 1) := by decide +kernel
theorem dX2_hasPair_1 : decode cX2_hasPair 1 = .ok (.iload_n 1, 1) := by decide +kernel
theorem dX2_hasPair_2 : decode cX2_hasPair 2 = .ok (.invokevirtual 59, 3) := by decide +kernel
theorem dX2_hasPair_5 : decode cX2_hasPair 5 = .ok (.ifCond .eq 20, 3) := by decide +kernel
theorem dX2_hasPair_8 : decode cX2_hasPair 8 = .ok (.aload_n 0, 1) := by decide +kernel
theorem dX2_hasPair_9 : decode cX2_hasPair 9 = .ok (.iload_n 2, 1) := by decide +kernel
theorem dX2_hasPair_10 : decode cX2_hasPair 10 = .ok (.invokevirtual 59, 3) := by decide +kernel
theorem dX2_hasPair_13 : decode cX2_hasPair 13 = .ok (.ifCond .eq 12, 3) := by decide +kernel
theorem dX2_hasPair_16 : decode cX2_hasPair 16 = .ok (.iload_n 1, 1) := by decide +kernel
theorem dX2_hasPair_17 : decode cX2_hasPair 17 = .ok (.iload_n 2, 1) := by decide +kernel
theorem dX2_hasPair_18 : decode cX2_hasPair 18 = .ok (.if_icmp .eq 7, 3) := by decide +kernel
theorem dX2_hasPair_21 : decode cX2_hasPair 21 = .ok (.iconst 1, 1) := by decide +kernel
theorem dX2_hasPair_22 : decode cX2_hasPair 22 = .ok (.goto 4, 3) := by decide +kernel
theorem dX2_hasPair_25 : decode cX2_hasPair 25 = .ok (.iconst 0, 1) := by decide +kernel
theorem dX2_hasPair_26 : decode cX2_hasPair 26 = .ok (.ireturn, 1) := by decide +kernel
theorem dX2_giftOf_0 : decode cX2_giftOf 0 = .ok (.aload_n 0, 1) := by decide +kernel
theorem dX2_giftOf_1 : decode cX2_giftOf 1 = .ok (.aload_n 1, 1) := by decide +kernel
theorem dX2_giftOf_2 : decode cX2_giftOf 2 = .ok (.iload_n 2, 1) := by decide +kernel
theorem dX2_giftOf_3 : decode cX2_giftOf 3 = .ok (.aload_n 0, 1) := by decide +kernel
theorem dX2_giftOf_4 : decode cX2_giftOf 4 = .ok (.getfield 21, 3) := by decide +kernel
theorem dX2_giftOf_7 : decode cX2_giftOf 7 = .ok (.invokevirtual 66, 3) := by decide +kernel
theorem dX2_giftOf_10 : decode cX2_giftOf 10 = .ok (.aload_n 0, 1) := by decide +kernel
theorem dX2_giftOf_11 : decode cX2_giftOf 11 = .ok (.getfield 21, 3) := by decide +kernel
theorem dX2_giftOf_14 : decode cX2_giftOf 14 = .ok (.iload_n 3, 1) := by decide +kernel
theorem dX2_giftOf_15 : decode cX2_giftOf 15 = .ok (.iaload, 1) := by decide +kernel
theorem dX2_giftOf_16 : decode cX2_giftOf 16 = .ok (.ireturn, 1) := by decide +kernel
theorem dX2_exchange_0 : decode cX2_exchange 0 = .ok (.iload_n 2, 1) := by decide +kernel
theorem dX2_exchange_1 : decode cX2_exchange 1 = .ok (.iload_n 3, 1) := by decide +kernel
theorem dX2_exchange_2 : decode cX2_exchange 2 = .ok (.invokestatic 70, 3) := by decide +kernel
theorem dX2_exchange_5 : decode cX2_exchange 5 = .ok (.ifCond .ne 12, 3) := by decide +kernel
theorem dX2_exchange_8 : decode cX2_exchange 8 = .ok (.iload_n 2, 1) := by decide +kernel
theorem dX2_exchange_9 : decode cX2_exchange 9 = .ok (.iload 4, 2) := by decide +kernel
theorem dX2_exchange_11 : decode cX2_exchange 11 = .ok (.invokestatic 70, 3) := by decide +kernel
theorem dX2_exchange_14 : decode cX2_exchange 14 = .ok (.ifCond .eq 4, 3) := by decide +kernel
theorem dX2_exchange_17 : decode cX2_exchange 17 = .ok (.return_, 1) := by decide +kernel
theorem dX2_exchange_18 : decode cX2_exchange 18 = .ok (.aload_n 0, 1) := by decide +kernel
theorem dX2_exchange_19 : decode cX2_exchange 19 = .ok (.aload_n 1, 1) := by decide +kernel
theorem dX2_exchange_20 : decode cX2_exchange 20 = .ok (.iload_n 3, 1) := by decide +kernel
theorem dX2_exchange_21 : decode cX2_exchange 21 = .ok (.aload_n 0, 1) := by decide +kernel
theorem dX2_exchange_22 : decode cX2_exchange 22 = .ok (.getfield 21, 3) := by decide +kernel
theorem dX2_exchange_25 : decode cX2_exchange 25 = .ok (.invokevirtual 66, 3) := by decide +kernel
theorem dX2_exchange_28 : decode cX2_exchange 28 = .ok (.aload_n 0, 1) := by decide +kernel
theorem dX2_exchange_29 : decode cX2_exchange 29 = .ok (.aload_n 1, 1) := by decide +kernel
theorem dX2_exchange_30 : decode cX2_exchange 30 = .ok (.iload 4, 2) := by decide +kernel
theorem dX2_exchange_32 : decode cX2_exchange 32 = .ok (.aload_n 0, 1) := by decide +kernel
theorem dX2_exchange_33 : decode cX2_exchange 33 = .ok (.getfield 24, 3) := by decide +kernel
theorem dX2_exchange_36 : decode cX2_exchange 36 = .ok (.invokevirtual 66, 3) := by decide +kernel
theorem dX2_exchange_39 : decode cX2_exchange 39 = .ok (.iconst 0, 1) := by decide +kernel
theorem dX2_exchange_40 : decode cX2_exchange 40 = .ok (.istore 5, 2) := by decide +kernel
theorem dX2_exchange_42 : decode cX2_exchange 42 = .ok (.iload 5, 2) := by decide +kernel
theorem dX2_exchange_44 : decode cX2_exchange 44 = .ok (.aload_n 0, 1) := by decide +kernel
theorem dX2_exchange_45 : decode cX2_exchange 45 = .ok (.getfield 30, 3) := by decide +kernel
theorem dX2_exchange_48 : decode cX2_exchange 48 = .ok (.if_icmp .ge 53, 3) := by decide +kernel
theorem dX2_exchange_51 : decode cX2_exchange 51 = .ok (.aload_n 0, 1) := by decide +kernel
theorem dX2_exchange_52 : decode cX2_exchange 52 = .ok (.getfield 24, 3) := by decide +kernel
theorem dX2_exchange_55 : decode cX2_exchange 55 = .ok (.iload 5, 2) := by decide +kernel
theorem dX2_exchange_57 : decode cX2_exchange 57 = .ok (.iaload, 1) := by decide +kernel
theorem dX2_exchange_58 : decode cX2_exchange 58 = .ok (.aload_n 0, 1) := by decide +kernel
theorem dX2_exchange_59 : decode cX2_exchange 59 = .ok (.getfield 21, 3) := by decide +kernel
theorem dX2_exchange_62 : decode cX2_exchange 62 = .ok (.iload 5, 2) := by decide +kernel
theorem dX2_exchange_64 : decode cX2_exchange 64 = .ok (.iaload, 1) := by decide +kernel
theorem dX2_exchange_65 : decode cX2_exchange 65 = .ok (.isub, 1) := by decide +kernel
theorem dX2_exchange_66 : decode cX2_exchange 66 = .ok (.istore 6, 2) := by decide +kernel
theorem dX2_exchange_68 : decode cX2_exchange 68 = .ok (.aload_n 1, 1) := by decide +kernel
theorem dX2_exchange_69 : decode cX2_exchange 69 = .ok (.iload_n 3, 1) := by decide +kernel
theorem dX2_exchange_70 : decode cX2_exchange 70 = .ok (.iload 5, 2) := by decide +kernel
theorem dX2_exchange_72 : decode cX2_exchange 72 = .ok (.invokestatic 74, 3) := by decide +kernel
theorem dX2_exchange_75 : decode cX2_exchange 75 = .ok (.dup2, 1) := by decide +kernel
theorem dX2_exchange_76 : decode cX2_exchange 76 = .ok (.iaload, 1) := by decide +kernel
theorem dX2_exchange_77 : decode cX2_exchange 77 = .ok (.iload 6, 2) := by decide +kernel
theorem dX2_exchange_79 : decode cX2_exchange 79 = .ok (.iadd, 1) := by decide +kernel
theorem dX2_exchange_80 : decode cX2_exchange 80 = .ok (.iastore, 1) := by decide +kernel
theorem dX2_exchange_81 : decode cX2_exchange 81 = .ok (.aload_n 1, 1) := by decide +kernel
theorem dX2_exchange_82 : decode cX2_exchange 82 = .ok (.iload 4, 2) := by decide +kernel
theorem dX2_exchange_84 : decode cX2_exchange 84 = .ok (.iload 5, 2) := by decide +kernel
theorem dX2_exchange_86 : decode cX2_exchange 86 = .ok (.invokestatic 74, 3) := by decide +kernel
theorem dX2_exchange_89 : decode cX2_exchange 89 = .ok (.dup2, 1) := by decide +kernel
theorem dX2_exchange_90 : decode cX2_exchange 90 = .ok (.iaload, 1) := by decide +kernel
theorem dX2_exchange_91 : decode cX2_exchange 91 = .ok (.iload 6, 2) := by decide +kernel
theorem dX2_exchange_93 : decode cX2_exchange 93 = .ok (.isub, 1) := by decide +kernel
theorem dX2_exchange_94 : decode cX2_exchange 94 = .ok (.iastore, 1) := by decide +kernel
theorem dX2_exchange_95 : decode cX2_exchange 95 = .ok (.iinc 5 1, 3) := by decide +kernel
theorem dX2_exchange_98 : decode cX2_exchange 98 = .ok (.goto (-56), 3) := by decide +kernel
theorem dX2_exchange_101 : decode cX2_exchange 101 = .ok (.return_, 1) := by decide +kernel
theorem dX2_goPlanned_0 : decode cX2_goPlanned 0 = .ok (.iload_n 3, 1) := by decide +kernel
theorem dX2_goPlanned_1 : decode cX2_goPlanned 1 = .ok (.ifCond .lt 29, 3) := by decide +kernel
theorem dX2_goPlanned_4 : decode cX2_goPlanned 4 = .ok (.iload_n 3, 1) := by decide +kernel
theorem dX2_goPlanned_5 : decode cX2_goPlanned 5 = .ok (.aload_n 0, 1) := by decide +kernel
theorem dX2_goPlanned_6 : decode cX2_goPlanned 6 = .ok (.getfield 46, 3) := by decide +kernel
theorem dX2_goPlanned_9 : decode cX2_goPlanned 9 = .ok (.if_icmp .ge 21, 3) := by decide +kernel
theorem dX2_goPlanned_12 : decode cX2_goPlanned 12 = .ok (.aload_n 0, 1) := by decide +kernel
theorem dX2_goPlanned_13 : decode cX2_goPlanned 13 = .ok (.aload_n 1, 1) := by decide +kernel
theorem dX2_goPlanned_14 : decode cX2_goPlanned 14 = .ok (.iload_n 2, 1) := by decide +kernel
theorem dX2_goPlanned_15 : decode cX2_goPlanned 15 = .ok (.aload_n 0, 1) := by decide +kernel
theorem dX2_goPlanned_16 : decode cX2_goPlanned 16 = .ok (.getfield 15, 3) := by decide +kernel
theorem dX2_goPlanned_19 : decode cX2_goPlanned 19 = .ok (.iload_n 3, 1) := by decide +kernel
theorem dX2_goPlanned_20 : decode cX2_goPlanned 20 = .ok (.iaload, 1) := by decide +kernel
theorem dX2_goPlanned_21 : decode cX2_goPlanned 21 = .ok (.aload_n 0, 1) := by decide +kernel
theorem dX2_goPlanned_22 : decode cX2_goPlanned 22 = .ok (.getfield 18, 3) := by decide +kernel
theorem dX2_goPlanned_25 : decode cX2_goPlanned 25 = .ok (.iload_n 3, 1) := by decide +kernel
theorem dX2_goPlanned_26 : decode cX2_goPlanned 26 = .ok (.iaload, 1) := by decide +kernel
theorem dX2_goPlanned_27 : decode cX2_goPlanned 27 = .ok (.invokevirtual 78, 3) := by decide +kernel
theorem dX2_goPlanned_30 : decode cX2_goPlanned 30 = .ok (.return_, 1) := by decide +kernel
theorem dX2_goThroughDay_0 : decode cX2_goThroughDay 0 = .ok (.iconst 0, 1) := by decide +kernel
theorem dX2_goThroughDay_1 : decode cX2_goThroughDay 1 = .ok (.istore 4, 2) := by decide +kernel
theorem dX2_goThroughDay_3 : decode cX2_goThroughDay 3 = .ok (.iload 4, 2) := by decide +kernel
theorem dX2_goThroughDay_5 : decode cX2_goThroughDay 5 = .ok (.aload_n 0, 1) := by decide +kernel
theorem dX2_goThroughDay_6 : decode cX2_goThroughDay 6 = .ok (.getfield 46, 3) := by decide +kernel
theorem dX2_goThroughDay_9 : decode cX2_goThroughDay 9 = .ok (.if_icmp .ge 26, 3) := by decide +kernel
theorem dX2_goThroughDay_12 : decode cX2_goThroughDay 12 = .ok (.iload_n 3, 1) := by decide +kernel
theorem dX2_goThroughDay_13 : decode cX2_goThroughDay 13 = .ok (.iload 4, 2) := by decide +kernel
theorem dX2_goThroughDay_15 : decode cX2_goThroughDay 15 = .ok (.invokestatic 70, 3) := by decide +kernel
theorem dX2_goThroughDay_18 : decode cX2_goThroughDay 18 = .ok (.ifCond .ne 11, 3) := by decide +kernel
theorem dX2_goThroughDay_21 : decode cX2_goThroughDay 21 = .ok (.aload_n 0, 1) := by decide +kernel
theorem dX2_goThroughDay_22 : decode cX2_goThroughDay 22 = .ok (.aload_n 1, 1) := by decide +kernel
theorem dX2_goThroughDay_23 : decode cX2_goThroughDay 23 = .ok (.iload_n 2, 1) := by decide +kernel
theorem dX2_goThroughDay_24 : decode cX2_goThroughDay 24 = .ok (.iload 4, 2) := by decide +kernel
theorem dX2_goThroughDay_26 : decode cX2_goThroughDay 26 = .ok (.invokevirtual 82, 3) := by decide +kernel
theorem dX2_goThroughDay_29 : decode cX2_goThroughDay 29 = .ok (.iinc 4 1, 3) := by decide +kernel
theorem dX2_goThroughDay_32 : decode cX2_goThroughDay 32 = .ok (.goto (-29), 3) := by decide +kernel
theorem dX2_goThroughDay_35 : decode cX2_goThroughDay 35 = .ok (.return_, 1) := by decide +kernel
theorem dX2_fillGift_0 : decode cX2_fillGift 0 = .ok (.aload_n 0, 1) := by decide +kernel
theorem dX2_fillGift_1 : decode cX2_fillGift 1 = .ok (.getfield 34, 3) := by decide +kernel
theorem dX2_fillGift_4 : decode cX2_fillGift 4 = .ok (.istore 4, 2) := by decide +kernel
theorem dX2_fillGift_6 : decode cX2_fillGift 6 = .ok (.iconst 0, 1) := by decide +kernel
theorem dX2_fillGift_7 : decode cX2_fillGift 7 = .ok (.istore 5, 2) := by decide +kernel
theorem dX2_fillGift_9 : decode cX2_fillGift 9 = .ok (.iload 5, 2) := by decide +kernel
theorem dX2_fillGift_11 : decode cX2_fillGift 11 = .ok (.aload_n 0, 1) := by decide +kernel
theorem dX2_fillGift_12 : decode cX2_fillGift 12 = .ok (.getfield 30, 3) := by decide +kernel
theorem dX2_fillGift_15 : decode cX2_fillGift 15 = .ok (.if_icmp .ge 54, 3) := by decide +kernel
theorem dX2_fillGift_18 : decode cX2_fillGift 18 = .ok (.aload_n 0, 1) := by decide +kernel
theorem dX2_fillGift_19 : decode cX2_fillGift 19 = .ok (.getfield 34, 3) := by decide +kernel
theorem dX2_fillGift_22 : decode cX2_fillGift 22 = .ok (.aload_n 1, 1) := by decide +kernel
theorem dX2_fillGift_23 : decode cX2_fillGift 23 = .ok (.iload_n 2, 1) := by decide +kernel
theorem dX2_fillGift_24 : decode cX2_fillGift 24 = .ok (.iload 5, 2) := by decide +kernel
theorem dX2_fillGift_26 : decode cX2_fillGift 26 = .ok (.invokestatic 74, 3) := by decide +kernel
theorem dX2_fillGift_29 : decode cX2_fillGift 29 = .ok (.iaload, 1) := by decide +kernel
theorem dX2_fillGift_30 : decode cX2_fillGift 30 = .ok (.imul, 1) := by decide +kernel
theorem dX2_fillGift_31 : decode cX2_fillGift 31 = .ok (.istore 6, 2) := by decide +kernel
theorem dX2_fillGift_33 : decode cX2_fillGift 33 = .ok (.aload_n 3, 1) := by decide +kernel
theorem dX2_fillGift_34 : decode cX2_fillGift 34 = .ok (.iload 5, 2) := by decide +kernel
theorem dX2_fillGift_36 : decode cX2_fillGift 36 = .ok (.iload 6, 2) := by decide +kernel
theorem dX2_fillGift_38 : decode cX2_fillGift 38 = .ok (.bipush 60, 2) := by decide +kernel
theorem dX2_fillGift_40 : decode cX2_fillGift 40 = .ok (.idiv, 1) := by decide +kernel
theorem dX2_fillGift_41 : decode cX2_fillGift 41 = .ok (.iastore, 1) := by decide +kernel
theorem dX2_fillGift_42 : decode cX2_fillGift 42 = .ok (.aload_n 0, 1) := by decide +kernel
theorem dX2_fillGift_43 : decode cX2_fillGift 43 = .ok (.getfield 27, 3) := by decide +kernel
theorem dX2_fillGift_46 : decode cX2_fillGift 46 = .ok (.iload 5, 2) := by decide +kernel
theorem dX2_fillGift_48 : decode cX2_fillGift 48 = .ok (.iload 6, 2) := by decide +kernel
theorem dX2_fillGift_50 : decode cX2_fillGift 50 = .ok (.bipush 60, 2) := by decide +kernel
theorem dX2_fillGift_52 : decode cX2_fillGift 52 = .ok (.irem, 1) := by decide +kernel
theorem dX2_fillGift_53 : decode cX2_fillGift 53 = .ok (.iastore, 1) := by decide +kernel
theorem dX2_fillGift_54 : decode cX2_fillGift 54 = .ok (.iload 4, 2) := by decide +kernel
theorem dX2_fillGift_56 : decode cX2_fillGift 56 = .ok (.aload_n 3, 1) := by decide +kernel
theorem dX2_fillGift_57 : decode cX2_fillGift 57 = .ok (.iload 5, 2) := by decide +kernel
theorem dX2_fillGift_59 : decode cX2_fillGift 59 = .ok (.iaload, 1) := by decide +kernel
theorem dX2_fillGift_60 : decode cX2_fillGift 60 = .ok (.isub, 1) := by decide +kernel
theorem dX2_fillGift_61 : decode cX2_fillGift 61 = .ok (.istore 4, 2) := by decide +kernel
theorem dX2_fillGift_63 : decode cX2_fillGift 63 = .ok (.iinc 5 1, 3) := by decide +kernel
theorem dX2_fillGift_66 : decode cX2_fillGift 66 = .ok (.goto (-57), 3) := by decide +kernel
theorem dX2_fillGift_69 : decode cX2_fillGift 69 = .ok (.iconst 0, 1) := by decide +kernel
theorem dX2_fillGift_70 : decode cX2_fillGift 70 = .ok (.istore 5, 2) := by decide +kernel
theorem dX2_fillGift_72 : decode cX2_fillGift 72 = .ok (.iload 5, 2) := by decide +kernel
theorem dX2_fillGift_74 : decode cX2_fillGift 74 = .ok (.iload 4, 2) := by decide +kernel
theorem dX2_fillGift_76 : decode cX2_fillGift 76 = .ok (.if_icmp .ge 31, 3) := by decide +kernel
theorem dX2_fillGift_79 : decode cX2_fillGift 79 = .ok (.aload_n 0, 1) := by decide +kernel
theorem dX2_fillGift_80 : decode cX2_fillGift 80 = .ok (.invokevirtual 86, 3) := by decide +kernel
theorem dX2_fillGift_83 : decode cX2_fillGift 83 = .ok (.istore 6, 2) := by decide +kernel
theorem dX2_fillGift_85 : decode cX2_fillGift 85 = .ok (.aload_n 3, 1) := by decide +kernel
theorem dX2_fillGift_86 : decode cX2_fillGift 86 = .ok (.iload 6, 2) := by decide +kernel
theorem dX2_fillGift_88 : decode cX2_fillGift 88 = .ok (.dup2, 1) := by decide +kernel
theorem dX2_fillGift_89 : decode cX2_fillGift 89 = .ok (.iaload, 1) := by decide +kernel
theorem dX2_fillGift_90 : decode cX2_fillGift 90 = .ok (.iconst 1, 1) := by decide +kernel
theorem dX2_fillGift_91 : decode cX2_fillGift 91 = .ok (.iadd, 1) := by decide +kernel
theorem dX2_fillGift_92 : decode cX2_fillGift 92 = .ok (.iastore, 1) := by decide +kernel
theorem dX2_fillGift_93 : decode cX2_fillGift 93 = .ok (.aload_n 0, 1) := by decide +kernel
theorem dX2_fillGift_94 : decode cX2_fillGift 94 = .ok (.getfield 27, 3) := by decide +kernel
theorem dX2_fillGift_97 : decode cX2_fillGift 97 = .ok (.iload 6, 2) := by decide +kernel
theorem dX2_fillGift_99 : decode cX2_fillGift 99 = .ok (.iconst (-1), 1) := by decide +kernel
theorem dX2_fillGift_100 : decode cX2_fillGift 100 = .ok (.iastore, 1) := by decide +kernel
theorem dX2_fillGift_101 : decode cX2_fillGift 101 = .ok (.iinc 5 1, 3) := by decide +kernel
theorem dX2_fillGift_104 : decode cX2_fillGift 104 = .ok (.goto (-32), 3) := by decide +kernel
theorem dX2_fillGift_107 : decode cX2_fillGift 107 = .ok (.return_, 1) := by decide +kernel
theorem dX2_greatestRest_0 : decode cX2_greatestRest 0 = .ok (.iconst 0, 1) := by decide +kernel
theorem dX2_greatestRest_1 : decode cX2_greatestRest 1 = .ok (.istore_n 1, 1) := by decide +kernel
theorem dX2_greatestRest_2 : decode cX2_greatestRest 2 = .ok (.iconst 1, 1) := by decide +kernel
theorem dX2_greatestRest_3 : decode cX2_greatestRest 3 = .ok (.istore_n 2, 1) := by decide +kernel
theorem dX2_greatestRest_4 : decode cX2_greatestRest 4 = .ok (.iload_n 2, 1) := by decide +kernel
theorem dX2_greatestRest_5 : decode cX2_greatestRest 5 = .ok (.aload_n 0, 1) := by decide +kernel
theorem dX2_greatestRest_6 : decode cX2_greatestRest 6 = .ok (.getfield 30, 3) := by decide +kernel
theorem dX2_greatestRest_9 : decode cX2_greatestRest 9 = .ok (.if_icmp .ge 26, 3) := by decide +kernel
theorem dX2_greatestRest_12 : decode cX2_greatestRest 12 = .ok (.aload_n 0, 1) := by decide +kernel
theorem dX2_greatestRest_13 : decode cX2_greatestRest 13 = .ok (.getfield 27, 3) := by decide +kernel
theorem dX2_greatestRest_16 : decode cX2_greatestRest 16 = .ok (.iload_n 2, 1) := by decide +kernel
theorem dX2_greatestRest_17 : decode cX2_greatestRest 17 = .ok (.iaload, 1) := by decide +kernel
theorem dX2_greatestRest_18 : decode cX2_greatestRest 18 = .ok (.aload_n 0, 1) := by decide +kernel
theorem dX2_greatestRest_19 : decode cX2_greatestRest 19 = .ok (.getfield 27, 3) := by decide +kernel
theorem dX2_greatestRest_22 : decode cX2_greatestRest 22 = .ok (.iload_n 1, 1) := by decide +kernel
theorem dX2_greatestRest_23 : decode cX2_greatestRest 23 = .ok (.iaload, 1) := by decide +kernel
theorem dX2_greatestRest_24 : decode cX2_greatestRest 24 = .ok (.if_icmp .le 5, 3) := by decide +kernel
theorem dX2_greatestRest_27 : decode cX2_greatestRest 27 = .ok (.iload_n 2, 1) := by decide +kernel
theorem dX2_greatestRest_28 : decode cX2_greatestRest 28 = .ok (.istore_n 1, 1) := by decide +kernel
theorem dX2_greatestRest_29 : decode cX2_greatestRest 29 = .ok (.iinc 2 1, 3) := by decide +kernel
theorem dX2_greatestRest_32 : decode cX2_greatestRest 32 = .ok (.goto (-28), 3) := by decide +kernel
theorem dX2_greatestRest_35 : decode cX2_greatestRest 35 = .ok (.iload_n 1, 1) := by decide +kernel
theorem dX2_greatestRest_36 : decode cX2_greatestRest 36 = .ok (.ireturn, 1) := by decide +kernel
theorem dX3_init_0 : decode cX3_init 0 = .ok (.aload_n 0, 1) := by decide +kernel
theorem dX3_init_1 : decode cX3_init 1 = .ok (.invokespecial 3, 3) := by decide +kernel
theorem dX3_init_4 : decode cX3_init 4 = .ok (.aload_n 0, 1) := by decide +kernel
theorem dX3_init_5 : decode cX3_init 5 = .ok (.iload_n 1, 1) := by decide +kernel
theorem dX3_init_6 : decode cX3_init 6 = .ok (.putfield 9, 3) := by decide +kernel
theorem dX3_init_9 : decode cX3_init 9 = .ok (.aload_n 0, 1) := by decide +kernel
theorem dX3_init_10 : decode cX3_init 10 = .ok (.iload_n 1, 1) := by decide +kernel
theorem dX3_init_11 : decode cX3_init 11 = .ok (.newarray .int, 2) := by decide +kernel
theorem dX3_init_13 : decode cX3_init 13 = .ok (.putfield 15, 3) := by decide +kernel
theorem dX3_init_16 : decode cX3_init 16 = .ok (.aload_n 0, 1) := by decide +kernel
theorem dX3_init_17 : decode cX3_init 17 = .ok (.iload_n 1, 1) := by decide +kernel
theorem dX3_init_18 : decode cX3_init 18 = .ok (.newarray .int, 2) := by decide +kernel
theorem dX3_init_20 : decode cX3_init 20 = .ok (.putfield 19, 3) := by decide +kernel
theorem dX3_init_23 : decode cX3_init 23 = .ok (.return_, 1) := by decide +kernel
theorem dX3_addNote_0 : decode cX3_addNote 0 = .ok (.aload_n 0, 1) := by decide +kernel
theorem dX3_addNote_1 : decode cX3_addNote 1 = .ok (.getfield 22, 3) := by decide +kernel
theorem dX3_addNote_4 : decode cX3_addNote 4 = .ok (.aload_n 0, 1) := by decide +kernel
theorem dX3_addNote_5 : decode cX3_addNote 5 = .ok (.getfield 9, 3) := by decide +kernel
theorem dX3_addNote_8 : decode cX3_addNote 8 = .ok (.if_icmp .lt 6, 3) := by decide +kernel
theorem dX3_addNote_11 : decode cX3_addNote 11 = .ok (.ldc 25, 2) := by decide +kernel
theorem dX3_addNote_13 : decode cX3_addNote 13 = .ok (.ireturn, 1) := by decide +kernel
theorem dX3_addNote_14 : decode cX3_addNote 14 = .ok (.aload_n 0, 1) := by decide +kernel
theorem dX3_addNote_15 : decode cX3_addNote 15 = .ok (.getfield 15, 3) := by decide +kernel
theorem dX3_addNote_18 : decode cX3_addNote 18 = .ok (.aload_n 0, 1) := by decide +kernel
theorem dX3_addNote_19 : decode cX3_addNote 19 = .ok (.getfield 22, 3) := by decide +kernel
theorem dX3_addNote_22 : decode cX3_addNote 22 = .ok (.iload_n 1, 1) := by decide +kernel
theorem dX3_addNote_23 : decode cX3_addNote 23 = .ok (.iastore, 1) := by decide +kernel
theorem dX3_addNote_24 : decode cX3_addNote 24 = .ok (.aload_n 0, 1) := by decide +kernel
theorem dX3_addNote_25 : decode cX3_addNote 25 = .ok (.getfield 19, 3) := by decide +kernel
theorem dX3_addNote_28 : decode cX3_addNote 28 = .ok (.aload_n 0, 1) := by decide +kernel
theorem dX3_addNote_29 : decode cX3_addNote 29 = .ok (.getfield 22, 3) := by decide +kernel
theorem dX3_addNote_32 : decode cX3_addNote 32 = .ok (.iload_n 2, 1) := by decide +kernel
theorem dX3_addNote_33 : decode cX3_addNote 33 = .ok (.iastore, 1) := by decide +kernel
theorem dX3_addNote_34 : decode cX3_addNote 34 = .ok (.aload_n 0, 1) := by decide +kernel
theorem dX3_addNote_35 : decode cX3_addNote 35 = .ok (.dup, 1) := by decide +kernel
theorem dX3_addNote_36 : decode cX3_addNote 36 = .ok (.getfield 22, 3) := by decide +kernel
theorem dX3_addNote_39 : decode cX3_addNote 39 = .ok (.iconst 1, 1) := by decide +kernel
theorem dX3_addNote_40 : decode cX3_addNote 40 = .ok (.iadd, 1) := by decide +kernel
theorem dX3_addNote_41 : decode cX3_addNote 41 = .ok (.putfield 22, 3) := by decide +kernel
theorem dX3_addNote_44 : decode cX3_addNote 44 = .ok (.aload_n 0, 1) := by decide +kernel
theorem dX3_addNote_45 : decode cX3_addNote 45 = .ok (.getfield 22, 3) := by decide +kernel
theorem dX3_addNote_48 : decode cX3_addNote 48 = .ok (.ireturn, 1) := by decide +kernel
theorem dX3_firstWrong_0 : decode cX3_firstWrong 0 = .ok (.iconst 0, 1) := by decide +kernel
theorem dX3_firstWrong_1 : decode cX3_firstWrong 1 = .ok (.istore_n 2, 1) := by decide +kernel
theorem dX3_firstWrong_2 : decode cX3_firstWrong 2 = .ok (.iload_n 2, 1) := by decide +kernel
theorem dX3_firstWrong_3 : decode cX3_firstWrong 3 = .ok (.aload_n 0, 1) := by decide +kernel
theorem dX3_firstWrong_4 : decode cX3_firstWrong 4 = .ok (.getfield 22, 3) := by decide +kernel
theorem dX3_firstWrong_7 : decode cX3_firstWrong 7 = .ok (.if_icmp .ge 28, 3) := by decide +kernel
theorem dX3_firstWrong_10 : decode cX3_firstWrong 10 = .ok (.aload_n 1, 1) := by decide +kernel
theorem dX3_firstWrong_11 : decode cX3_firstWrong 11 = .ok (.aload_n 0, 1) := by decide +kernel
theorem dX3_firstWrong_12 : decode cX3_firstWrong 12 = .ok (.getfield 15, 3) := by decide +kernel
theorem dX3_firstWrong_15 : decode cX3_firstWrong 15 = .ok (.iload_n 2, 1) := by decide +kernel
theorem dX3_firstWrong_16 : decode cX3_firstWrong 16 = .ok (.iaload, 1) := by decide +kernel
theorem dX3_firstWrong_17 : decode cX3_firstWrong 17 = .ok (.iaload, 1) := by decide +kernel
theorem dX3_firstWrong_18 : decode cX3_firstWrong 18 = .ok (.aload_n 0, 1) := by decide +kernel
theorem dX3_firstWrong_19 : decode cX3_firstWrong 19 = .ok (.getfield 19, 3) := by decide +kernel
theorem dX3_firstWrong_22 : decode cX3_firstWrong 22 = .ok (.iload_n 2, 1) := by decide +kernel
theorem dX3_firstWrong_23 : decode cX3_firstWrong 23 = .ok (.iaload, 1) := by decide +kernel
theorem dX3_firstWrong_24 : decode cX3_firstWrong 24 = .ok (.if_icmp .eq 5, 3) := by decide +kernel
theorem dX3_firstWrong_27 : decode cX3_firstWrong 27 = .ok (.iload_n 2, 1) := by decide +kernel
theorem dX3_firstWrong_28 : decode cX3_firstWrong 28 = .ok (.ireturn, 1) := by decide +kernel
theorem dX3_firstWrong_29 : decode cX3_firstWrong 29 = .ok (.iinc 2 1, 3) := by decide +kernel
theorem dX3_firstWrong_32 : decode cX3_firstWrong 32 = .ok (.goto (-30), 3) := by decide +kernel
theorem dX3_firstWrong_35 : decode cX3_firstWrong 35 = .ok (.iconst (-1), 1) := by decide +kernel
theorem dX3_firstWrong_36 : decode cX3_firstWrong 36 = .ok (.ireturn, 1) := by decide +kernel
theorem dX4_init_0 : decode cX4_init 0 = .ok (.aload_n 0, 1) := by decide +kernel
theorem dX4_init_1 : decode cX4_init 1 = .ok (.invokespecial 3, 3) := by decide +kernel
theorem dX4_init_4 : decode cX4_init 4 = .ok (.aload_n 0, 1) := by decide +kernel
theorem dX4_init_5 : decode cX4_init 5 = .ok (.bipush 11, 2) := by decide +kernel
theorem dX4_init_7 : decode cX4_init 7 = .ok (.bipush 30, 2) := by decide +kernel
theorem dX4_init_9 : decode cX4_init 9 = .ok (.multianewarray 9 2, 4) := by decide +kernel
theorem dX4_init_13 : decode cX4_init 13 = .ok (.putfield 11, 3) := by decide +kernel
theorem dX4_init_16 : decode cX4_init 16 = .ok (.return_, 1) := by decide +kernel
theorem dX4_findFewest_0 : decode cX4_findFewest 0 = .ok (.aload_n 2, 1) := by decide +kernel
theorem dX4_findFewest_1 : decode cX4_findFewest 1 = .ok (.getfield 16, 3) := by decide +kernel
theorem dX4_findFewest_4 : decode cX4_findFewest 4 = .ok (.aload_n 0, 1) := by decide +kernel
theorem dX4_findFewest_5 : decode cX4_findFewest 5 = .ok (.getfield 11, 3) := by decide +kernel
theorem dX4_findFewest_8 : decode cX4_findFewest 8 = .ok (.iconst 0, 1) := by decide +kernel
theorem dX4_findFewest_9 : decode cX4_findFewest 9 = .ok (.aaload, 1) := by decide +kernel
theorem dX4_findFewest_10 : decode cX4_findFewest 10 = .ok (.invokestatic 22, 3) := by decide +kernel
theorem dX4_findFewest_13 : decode cX4_findFewest 13 = .ok (.aload_n 0, 1) := by decide +kernel
theorem dX4_findFewest_14 : decode cX4_findFewest 14 = .ok (.aload_n 2, 1) := by decide +kernel
theorem dX4_findFewest_15 : decode cX4_findFewest 15 = .ok (.getfield 26, 3) := by decide +kernel
theorem dX4_findFewest_18 : decode cX4_findFewest 18 = .ok (.putfield 30, 3) := by decide +kernel
theorem dX4_findFewest_21 : decode cX4_findFewest 21 = .ok (.aload_n 0, 1) := by decide +kernel
theorem dX4_findFewest_22 : decode cX4_findFewest 22 = .ok (.iload_n 3, 1) := by decide +kernel
theorem dX4_findFewest_23 : decode cX4_findFewest 23 = .ok (.putfield 31, 3) := by decide +kernel
theorem dX4_findFewest_26 : decode cX4_findFewest 26 = .ok (.aload_n 0, 1) := by decide +kernel
theorem dX4_findFewest_27 : decode cX4_findFewest 27 = .ok (.iload 4, 2) := by decide +kernel
theorem dX4_findFewest_29 : decode cX4_findFewest 29 = .ok (.putfield 34, 3) := by decide +kernel
theorem dX4_findFewest_32 : decode cX4_findFewest 32 = .ok (.aload_n 0, 1) := by decide +kernel
theorem dX4_findFewest_33 : decode cX4_findFewest 33 = .ok (.iconst (-1), 1) := by decide +kernel
theorem dX4_findFewest_34 : decode cX4_findFewest 34 = .ok (.putfield 37, 3) := by decide +kernel
theorem dX4_findFewest_37 : decode cX4_findFewest 37 = .ok (.aload_n 0, 1) := by decide +kernel
theorem dX4_findFewest_38 : decode cX4_findFewest 38 = .ok (.iconst (-1), 1) := by decide +kernel
theorem dX4_findFewest_39 : decode cX4_findFewest 39 = .ok (.putfield 40, 3) := by decide +kernel
theorem dX4_findFewest_42 : decode cX4_findFewest 42 = .ok (.aload_n 0, 1) := by decide +kernel
theorem dX4_findFewest_43 : decode cX4_findFewest 43 = .ok (.aload_n 1, 1) := by decide +kernel
theorem dX4_findFewest_44 : decode cX4_findFewest 44 = .ok (.iconst 0, 1) := by decide +kernel
theorem dX4_findFewest_45 : decode cX4_findFewest 45 = .ok (.iconst 0, 1) := by decide +kernel
theorem dX4_findFewest_46 : decode cX4_findFewest 46 = .ok (.invokevirtual 43, 3) := by decide +kernel
theorem dX4_findFewest_49 : decode cX4_findFewest 49 = .ok (.return_, 1) := by decide +kernel
theorem dX4_goOn_0 : decode cX4_goOn 0 = .ok (.aload_n 0, 1) := by decide +kernel
theorem dX4_goOn_1 : decode cX4_goOn 1 = .ok (.iload_n 3, 1) := by decide +kernel
theorem dX4_goOn_2 : decode cX4_goOn 2 = .ok (.invokevirtual 47, 3) := by decide +kernel
theorem dX4_goOn_5 : decode cX4_goOn 5 = .ok (.ifCond .ne 4, 3) := by decide +kernel
theorem dX4_goOn_8 : decode cX4_goOn 8 = .ok (.return_, 1) := by decide +kernel
theorem dX4_goOn_9 : decode cX4_goOn 9 = .ok (.iload_n 2, 1) := by decide +kernel
theorem dX4_goOn_10 : decode cX4_goOn 10 = .ok (.aload_n 1, 1) := by decide +kernel
theorem dX4_goOn_11 : decode cX4_goOn 11 = .ok (.getfield 51, 3) := by decide +kernel
theorem dX4_goOn_14 : decode cX4_goOn 14 = .ok (.if_icmp .ge 9, 3) := by decide +kernel
theorem dX4_goOn_17 : decode cX4_goOn 17 = .ok (.iload_n 2, 1) := by decide +kernel
theorem dX4_goOn_18 : decode cX4_goOn 18 = .ok (.bipush 10, 2) := by decide +kernel
theorem dX4_goOn_20 : decode cX4_goOn 20 = .ok (.if_icmp .lt 15, 3) := by decide +kernel
theorem dX4_goOn_23 : decode cX4_goOn 23 = .ok (.aload_n 0, 1) := by decide +kernel
theorem dX4_goOn_24 : decode cX4_goOn 24 = .ok (.aload_n 0, 1) := by decide +kernel
theorem dX4_goOn_25 : decode cX4_goOn 25 = .ok (.getfield 11, 3) := by decide +kernel
theorem dX4_goOn_28 : decode cX4_goOn 28 = .ok (.iload_n 2, 1) := by decide +kernel
theorem dX4_goOn_29 : decode cX4_goOn 29 = .ok (.aaload, 1) := by decide +kernel
theorem dX4_goOn_30 : decode cX4_goOn 30 = .ok (.iload_n 3, 1) := by decide +kernel
theorem dX4_goOn_31 : decode cX4_goOn 31 = .ok (.invokevirtual 56, 3) := by decide +kernel
theorem dX4_goOn_34 : decode cX4_goOn 34 = .ok (.return_, 1) := by decide +kernel
theorem dX4_goOn_35 : decode cX4_goOn 35 = .ok (.aload_n 0, 1) := by decide +kernel
theorem dX4_goOn_36 : decode cX4_goOn 36 = .ok (.getfield 11, 3) := by decide +kernel
theorem dX4_goOn_39 : decode cX4_goOn 39 = .ok (.iload_n 2, 1) := by decide +kernel
theorem dX4_goOn_40 : decode cX4_goOn 40 = .ok (.aaload, 1) := by decide +kernel
theorem dX4_goOn_41 : decode cX4_goOn 41 = .ok (.aload_n 0, 1) := by decide +kernel
theorem dX4_goOn_42 : decode cX4_goOn 42 = .ok (.getfield 11, 3) := by decide +kernel
theorem dX4_goOn_45 : decode cX4_goOn 45 = .ok (.iload_n 2, 1) := by decide +kernel
theorem dX4_goOn_46 : decode cX4_goOn 46 = .ok (.iconst 1, 1) := by decide +kernel
theorem dX4_goOn_47 : decode cX4_goOn 47 = .ok (.iadd, 1) := by decide +kernel
theorem dX4_goOn_48 : decode cX4_goOn 48 = .ok (.aaload, 1) := by decide +kernel
theorem dX4_goOn_49 : decode cX4_goOn 49 = .ok (.invokestatic 22, 3) := by decide +kernel
theorem dX4_goOn_52 : decode cX4_goOn 52 = .ok (.aload_n 1, 1) := by decide +kernel
theorem dX4_goOn_53 : decode cX4_goOn 53 = .ok (.aload_n 0, 1) := by decide +kernel
theorem dX4_goOn_54 : decode cX4_goOn 54 = .ok (.getfield 11, 3) := by decide +kernel
theorem dX4_goOn_57 : decode cX4_goOn 57 = .ok (.iload_n 2, 1) := by decide +kernel
theorem dX4_goOn_58 : decode cX4_goOn 58 = .ok (.iconst 1, 1) := by decide +kernel
theorem dX4_goOn_59 : decode cX4_goOn 59 = .ok (.iadd, 1) := by decide +kernel
theorem dX4_goOn_60 : decode cX4_goOn 60 = .ok (.aaload, 1) := by decide +kernel
theorem dX4_goOn_61 : decode cX4_goOn 61 = .ok (.aload_n 0, 1) := by decide +kernel
theorem dX4_goOn_62 : decode cX4_goOn 62 = .ok (.getfield 30, 3) := by decide +kernel
theorem dX4_goOn_65 : decode cX4_goOn 65 = .ok (.iload_n 2, 1) := by decide +kernel
theorem dX4_goOn_66 : decode cX4_goOn 66 = .ok (.invokevirtual 60, 3) := by decide +kernel
theorem dX4_goOn_69 : decode cX4_goOn 69 = .ok (.aload_n 0, 1) := by decide +kernel
theorem dX4_goOn_70 : decode cX4_goOn 70 = .ok (.aload_n 1, 1) := by decide +kernel
theorem dX4_goOn_71 : decode cX4_goOn 71 = .ok (.iload_n 2, 1) := by decide +kernel
theorem dX4_goOn_72 : decode cX4_goOn 72 = .ok (.iconst 1, 1) := by decide +kernel
theorem dX4_goOn_73 : decode cX4_goOn 73 = .ok (.iadd, 1) := by decide +kernel
theorem dX4_goOn_74 : decode cX4_goOn 74 = .ok (.iload_n 3, 1) := by decide +kernel
theorem dX4_goOn_75 : decode cX4_goOn 75 = .ok (.invokevirtual 43, 3) := by decide +kernel
theorem dX4_goOn_78 : decode cX4_goOn 78 = .ok (.aload_n 0, 1) := by decide +kernel
theorem dX4_goOn_79 : decode cX4_goOn 79 = .ok (.getfield 11, 3) := by decide +kernel
theorem dX4_goOn_82 : decode cX4_goOn 82 = .ok (.iload_n 2, 1) := by decide +kernel
theorem dX4_goOn_83 : decode cX4_goOn 83 = .ok (.aaload, 1) := by decide +kernel
theorem dX4_goOn_84 : decode cX4_goOn 84 = .ok (.aload_n 0, 1) := by decide +kernel
theorem dX4_goOn_85 : decode cX4_goOn 85 = .ok (.getfield 11, 3) := by decide +kernel
theorem dX4_goOn_88 : decode cX4_goOn 88 = .ok (.iload_n 2, 1) := by decide +kernel
theorem dX4_goOn_89 : decode cX4_goOn 89 = .ok (.iconst 1, 1) := by decide +kernel
theorem dX4_goOn_90 : decode cX4_goOn 90 = .ok (.iadd, 1) := by decide +kernel
theorem dX4_goOn_91 : decode cX4_goOn 91 = .ok (.aaload, 1) := by decide +kernel
theorem dX4_goOn_92 : decode cX4_goOn 92 = .ok (.invokestatic 22, 3) := by decide +kernel
theorem dX4_goOn_95 : decode cX4_goOn 95 = .ok (.aload_n 0, 1) := by decide +kernel
theorem dX4_goOn_96 : decode cX4_goOn 96 = .ok (.aload_n 1, 1) := by decide +kernel
theorem dX4_goOn_97 : decode cX4_goOn 97 = .ok (.iload_n 2, 1) := by decide +kernel
theorem dX4_goOn_98 : decode cX4_goOn 98 = .ok (.iconst 1, 1) := by decide +kernel
theorem dX4_goOn_99 : decode cX4_goOn 99 = .ok (.iadd, 1) := by decide +kernel
theorem dX4_goOn_100 : decode cX4_goOn 100 = .ok (.iload_n 3, 1) := by decide +kernel
theorem dX4_goOn_101 : decode cX4_goOn 101 = .ok (.iconst 1, 1) := by decide +kernel
theorem dX4_goOn_102 : decode cX4_goOn 102 = .ok (.iload_n 2, 1) := by decide +kernel
theorem dX4_goOn_103 : decode cX4_goOn 103 = .ok (.ishl, 1) := by decide +kernel
theorem dX4_goOn_104 : decode cX4_goOn 104 = .ok (.ior, 1) := by decide +kernel
theorem dX4_goOn_105 : decode cX4_goOn 105 = .ok (.invokevirtual 43, 3) := by decide +kernel
theorem dX4_goOn_108 : decode cX4_goOn 108 = .ok (.return_, 1) := by decide +kernel
theorem dX4_isBetter_0 : decode cX4_isBetter 0 = .ok (.iload_n 1, 1) := by decide +kernel
theorem dX4_isBetter_1 : decode cX4_isBetter 1 = .ok (.invokestatic 64, 3) := by decide +kernel
theorem dX4_isBetter_4 : decode cX4_isBetter 4 = .ok (.istore_n 2, 1) := by decide +kernel
theorem dX4_isBetter_5 : decode cX4_isBetter 5 = .ok (.aload_n 0, 1) := by decide +kernel
theorem dX4_isBetter_6 : decode cX4_isBetter 6 = .ok (.getfield 37, 3) := by decide +kernel
theorem dX4_isBetter_9 : decode cX4_isBetter 9 = .ok (.iconst (-1), 1) := by decide +kernel
theorem dX4_isBetter_10 : decode cX4_isBetter 10 = .ok (.if_icmp .eq 27, 3) := by decide +kernel
theorem dX4_isBetter_13 : decode cX4_isBetter 13 = .ok (.iload_n 2, 1) := by decide +kernel
theorem dX4_isBetter_14 : decode cX4_isBetter 14 = .ok (.aload_n 0, 1) := by decide +kernel
theorem dX4_isBetter_15 : decode cX4_isBetter 15 = .ok (.getfield 37, 3) := by decide +kernel
theorem dX4_isBetter_18 : decode cX4_isBetter 18 = .ok (.if_icmp .lt 19, 3) := by decide +kernel
theorem dX4_isBetter_21 : decode cX4_isBetter 21 = .ok (.iload_n 2, 1) := by decide +kernel
theorem dX4_isBetter_22 : decode cX4_isBetter 22 = .ok (.aload_n 0, 1) := by decide +kernel
theorem dX4_isBetter_23 : decode cX4_isBetter 23 = .ok (.getfield 37, 3) := by decide +kernel
theorem dX4_isBetter_26 : decode cX4_isBetter 26 = .ok (.if_icmp .ne 15, 3) := by decide +kernel
theorem dX4_isBetter_29 : decode cX4_isBetter 29 = .ok (.iload_n 1, 1) := by decide +kernel
theorem dX4_isBetter_30 : decode cX4_isBetter 30 = .ok (.aload_n 0, 1) := by decide +kernel
theorem dX4_isBetter_31 : decode cX4_isBetter 31 = .ok (.getfield 40, 3) := by decide +kernel
theorem dX4_isBetter_34 : decode cX4_isBetter 34 = .ok (.if_icmp .ge 7, 3) := by decide +kernel
theorem dX4_isBetter_37 : decode cX4_isBetter 37 = .ok (.iconst 1, 1) := by decide +kernel
theorem dX4_isBetter_38 : decode cX4_isBetter 38 = .ok (.goto 4, 3) := by decide +kernel
theorem dX4_isBetter_41 : decode cX4_isBetter 41 = .ok (.iconst 0, 1) := by decide +kernel
theorem dX4_isBetter_42 : decode cX4_isBetter 42 = .ok (.ireturn, 1) := by decide +kernel
theorem dX4_takeIfFits_0 : decode cX4_takeIfFits 0 = .ok (.aload_n 1, 1) := by decide +kernel
theorem dX4_takeIfFits_1 : decode cX4_takeIfFits 1 = .ok (.aload_n 0, 1) := by decide +kernel
theorem dX4_takeIfFits_2 : decode cX4_takeIfFits 2 = .ok (.getfield 31, 3) := by decide +kernel
theorem dX4_takeIfFits_5 : decode cX4_takeIfFits 5 = .ok (.iaload, 1) := by decide +kernel
theorem dX4_takeIfFits_6 : decode cX4_takeIfFits 6 = .ok (.aload_n 0, 1) := by decide +kernel
theorem dX4_takeIfFits_7 : decode cX4_takeIfFits 7 = .ok (.getfield 34, 3) := by decide +kernel
theorem dX4_takeIfFits_10 : decode cX4_takeIfFits 10 = .ok (.if_icmp .gt 16, 3) := by decide +kernel
theorem dX4_takeIfFits_13 : decode cX4_takeIfFits 13 = .ok (.aload_n 0, 1) := by decide +kernel
theorem dX4_takeIfFits_14 : decode cX4_takeIfFits 14 = .ok (.iload_n 2, 1) := by decide +kernel
theorem dX4_takeIfFits_15 : decode cX4_takeIfFits 15 = .ok (.invokestatic 64, 3) := by decide +kernel
theorem dX4_takeIfFits_18 : decode cX4_takeIfFits 18 = .ok (.putfield 37, 3) := by decide +kernel
theorem dX4_takeIfFits_21 : decode cX4_takeIfFits 21 = .ok (.aload_n 0, 1) := by decide +kernel
theorem dX4_takeIfFits_22 : decode cX4_takeIfFits 22 = .ok (.iload_n 2, 1) := by decide +kernel
theorem dX4_takeIfFits_23 : decode cX4_takeIfFits 23 = .ok (.putfield 40, 3) := by decide +kernel
theorem dX4_takeIfFits_26 : decode cX4_takeIfFits 26 = .ok (.return_, 1) := by decide +kernel
theorem dX5_init_0 : decode cX5_init 0 = .ok (.aload_n 0, 1) := by decide +kernel
theorem dX5_init_1 : decode cX5_init 1 = .ok (.invokespecial 3, 3) := by decide +kernel
theorem dX5_init_4 : decode cX5_init 4 = .ok (.aload_n 0, 1) := by decide +kernel
theorem dX5_init_5 : decode cX5_init 5 = .ok (.new 9, 3) := by decide +kernel
theorem dX5_init_8 : decode cX5_init 8 = .ok (.dup, 1) := by decide +kernel
theorem dX5_init_9 : decode cX5_init 9 = .ok (.invokespecial 11, 3) := by decide +kernel
theorem dX5_init_12 : decode cX5_init 12 = .ok (.putfield 12, 3) := by decide +kernel
theorem dX5_init_15 : decode cX5_init 15 = .ok (.aload_n 0, 1) := by decide +kernel
theorem dX5_init_16 : decode cX5_init 16 = .ok (.sipush 240, 3) := by decide +kernel
theorem dX5_init_19 : decode cX5_init 19 = .ok (.newarray .int, 2) := by decide +kernel
theorem dX5_init_21 : decode cX5_init 21 = .ok (.putfield 18, 3) := by decide +kernel
theorem dX5_init_24 : decode cX5_init 24 = .ok (.aload_n 0, 1) := by decide +kernel
theorem dX5_init_25 : decode cX5_init 25 = .ok (.iconst (-1), 1) := by decide +kernel
theorem dX5_init_26 : decode cX5_init 26 = .ok (.putfield 22, 3) := by decide +kernel
theorem dX5_init_29 : decode cX5_init 29 = .ok (.return_, 1) := by decide +kernel
theorem dX5_addLetter_0 : decode cX5_addLetter 0 = .ok (.aload_n 0, 1) := by decide +kernel
theorem dX5_addLetter_1 : decode cX5_addLetter 1 = .ok (.getfield 26, 3) := by decide +kernel
theorem dX5_addLetter_4 : decode cX5_addLetter 4 = .ok (.sipush 240, 3) := by decide +kernel
theorem dX5_addLetter_7 : decode cX5_addLetter 7 = .ok (.if_icmp .lt 6, 3) := by decide +kernel
theorem dX5_addLetter_10 : decode cX5_addLetter 10 = .ok (.ldc 29, 2) := by decide +kernel
theorem dX5_addLetter_12 : decode cX5_addLetter 12 = .ok (.ireturn, 1) := by decide +kernel
theorem dX5_addLetter_13 : decode cX5_addLetter 13 = .ok (.aload_n 0, 1) := by decide +kernel
theorem dX5_addLetter_14 : decode cX5_addLetter 14 = .ok (.getfield 18, 3) := by decide +kernel
theorem dX5_addLetter_17 : decode cX5_addLetter 17 = .ok (.aload_n 0, 1) := by decide +kernel
theorem dX5_addLetter_18 : decode cX5_addLetter 18 = .ok (.getfield 26, 3) := by decide +kernel
theorem dX5_addLetter_21 : decode cX5_addLetter 21 = .ok (.iload_n 1, 1) := by decide +kernel
theorem dX5_addLetter_22 : decode cX5_addLetter 22 = .ok (.iastore, 1) := by decide +kernel
theorem dX5_addLetter_23 : decode cX5_addLetter 23 = .ok (.aload_n 0, 1) := by decide +kernel
theorem dX5_addLetter_24 : decode cX5_addLetter 24 = .ok (.dup, 1) := by decide +kernel
theorem dX5_addLetter_25 : decode cX5_addLetter 25 = .ok (.getfield 26, 3) := by decide +kernel
theorem dX5_addLetter_28 : decode cX5_addLetter 28 = .ok (.iconst 1, 1) := by decide +kernel
theorem dX5_addLetter_29 : decode cX5_addLetter 29 = .ok (.iadd, 1) := by decide +kernel
theorem dX5_addLetter_30 : decode cX5_addLetter 30 = .ok (.putfield 26, 3) := by decide +kernel
theorem dX5_addLetter_33 : decode cX5_addLetter 33 = .ok (.aload_n 0, 1) := by decide +kernel
theorem dX5_addLetter_34 : decode cX5_addLetter 34 = .ok (.getfield 26, 3) := by decide +kernel
theorem dX5_addLetter_37 : decode cX5_addLetter 37 = .ok (.ireturn, 1) := by decide +kernel
theorem dX5_dropText_0 : decode cX5_dropText 0 = .ok (.aload_n 0, 1) := by decide +kernel
theorem dX5_dropText_1 : decode cX5_dropText 1 = .ok (.iconst 0, 1) := by decide +kernel
theorem dX5_dropText_2 : decode cX5_dropText 2 = .ok (.putfield 26, 3) := by decide +kernel
theorem dX5_dropText_5 : decode cX5_dropText 5 = .ok (.return_, 1) := by decide +kernel
theorem dX5_readText_0 : decode cX5_readText 0 = .ok (.aload_n 0, 1) := by decide +kernel
theorem dX5_readText_1 : decode cX5_readText 1 = .ok (.getfield 12, 3) := by decide +kernel
theorem dX5_readText_4 : decode cX5_readText 4 = .ok (.invokevirtual 30, 3) := by decide +kernel
theorem dX5_readText_7 : decode cX5_readText 7 = .ok (.aload_n 0, 1) := by decide +kernel
theorem dX5_readText_8 : decode cX5_readText 8 = .ok (.iconst 0, 1) := by decide +kernel
theorem dX5_readText_9 : decode cX5_readText 9 = .ok (.putfield 33, 3) := by decide +kernel
theorem dX5_readText_12 : decode cX5_readText 12 = .ok (.iconst 1, 1) := by decide +kernel
theorem dX5_readText_13 : decode cX5_readText 13 = .ok (.istore_n 1, 1) := by decide +kernel
theorem dX5_readText_14 : decode cX5_readText 14 = .ok (.iconst 0, 1) := by decide +kernel
theorem dX5_readText_15 : decode cX5_readText 15 = .ok (.istore_n 2, 1) := by decide +kernel
theorem dX5_readText_16 : decode cX5_readText 16 = .ok (.iload_n 2, 1) := by decide +kernel
theorem dX5_readText_17 : decode cX5_readText 17 = .ok (.sipush 240, 3) := by decide +kernel
theorem dX5_readText_20 : decode cX5_readText 20 = .ok (.if_icmp .gt 26, 3) := by decide +kernel
theorem dX5_readText_23 : decode cX5_readText 23 = .ok (.iload_n 1, 1) := by decide +kernel
theorem dX5_readText_24 : decode cX5_readText 24 = .ok (.ifCond .eq 22, 3) := by decide +kernel
theorem dX5_readText_27 : decode cX5_readText 27 = .ok (.aload_n 0, 1) := by decide +kernel
theorem dX5_readText_28 : decode cX5_readText 28 = .ok (.invokevirtual 36, 3) := by decide +kernel
theorem dX5_readText_31 : decode cX5_readText 31 = .ok (.iconst (-1), 1) := by decide +kernel
theorem dX5_readText_32 : decode cX5_readText 32 = .ok (.if_icmp .eq 14, 3) := by decide +kernel
theorem dX5_readText_35 : decode cX5_readText 35 = .ok (.aload_n 0, 1) := by decide +kernel
theorem dX5_readText_36 : decode cX5_readText 36 = .ok (.invokevirtual 40, 3) := by decide +kernel
theorem dX5_readText_39 : decode cX5_readText 39 = .ok (.istore_n 1, 1) := by decide +kernel
theorem dX5_readText_40 : decode cX5_readText 40 = .ok (.iinc 2 1, 3) := by decide +kernel
theorem dX5_readText_43 : decode cX5_readText 43 = .ok (.goto (-27), 3) := by decide +kernel
theorem dX5_readText_46 : decode cX5_readText 46 = .ok (.iload_n 1, 1) := by decide +kernel
theorem dX5_readText_47 : decode cX5_readText 47 = .ok (.ireturn, 1) := by decide +kernel
theorem dX5_readClause_0 : decode cX5_readClause 0 = .ok (.aload_n 0, 1) := by decide +kernel
theorem dX5_readClause_1 : decode cX5_readClause 1 = .ok (.invokevirtual 36, 3) := by decide +kernel
theorem dX5_readClause_4 : decode cX5_readClause 4 = .ok (.istore_n 1, 1) := by decide +kernel
theorem dX5_readClause_5 : decode cX5_readClause 5 = .ok (.aload_n 0, 1) := by decide +kernel
theorem dX5_readClause_6 : decode cX5_readClause 6 = .ok (.getfield 12, 3) := by decide +kernel
theorem dX5_readClause_9 : decode cX5_readClause 9 = .ok (.getfield 44, 3) := by decide +kernel
theorem dX5_readClause_12 : decode cX5_readClause 12 = .ok (.ifCond .ne 19, 3) := by decide +kernel
theorem dX5_readClause_15 : decode cX5_readClause 15 = .ok (.iload_n 1, 1) := by decide +kernel
theorem dX5_readClause_16 : decode cX5_readClause 16 = .ok (.bipush 99, 2) := by decide +kernel
theorem dX5_readClause_18 : decode cX5_readClause 18 = .ok (.if_icmp .eq 13, 3) := by decide +kernel
theorem dX5_readClause_21 : decode cX5_readClause 21 = .ok (.aload_n 0, 1) := by decide +kernel
theorem dX5_readClause_22 : decode cX5_readClause 22 = .ok (.aload_n 0, 1) := by decide +kernel
theorem dX5_readClause_23 : decode cX5_readClause 23 = .ok (.getfield 33, 3) := by decide +kernel
theorem dX5_readClause_26 : decode cX5_readClause 26 = .ok (.iconst 1, 1) := by decide +kernel
theorem dX5_readClause_27 : decode cX5_readClause 27 = .ok (.invokevirtual 47, 3) := by decide +kernel
theorem dX5_readClause_30 : decode cX5_readClause 30 = .ok (.ireturn, 1) := by decide +kernel
theorem dX5_readClause_31 : decode cX5_readClause 31 = .ok (.iload_n 1, 1) := by decide +kernel
theorem dX5_readClause_32 : decode cX5_readClause 32 = .ok (.lookupswitch 77 #[(99, 52), (103, 62), (104, 72), (112, 57), (116, 67)], 52) := by decide +kernel
theorem dX5_readClause_84 : decode cX5_readClause 84 = .ok (.aload_n 0, 1) := by decide +kernel
theorem dX5_readClause_85 : decode cX5_readClause 85 = .ok (.invokevirtual 51, 3) := by decide +kernel
theorem dX5_readClause_88 : decode cX5_readClause 88 = .ok (.ireturn, 1) := by decide +kernel
theorem dX5_readClause_89 : decode cX5_readClause 89 = .ok (.aload_n 0, 1) := by decide +kernel
theorem dX5_readClause_90 : decode cX5_readClause 90 = .ok (.invokevirtual 54, 3) := by decide +kernel
theorem dX5_readClause_93 : decode cX5_readClause 93 = .ok (.ireturn, 1) := by decide +kernel
theorem dX5_readClause_94 : decode cX5_readClause 94 = .ok (.aload_n 0, 1) := by decide +kernel
theorem dX5_readClause_95 : decode cX5_readClause 95 = .ok (.invokevirtual 57, 3) := by decide +kernel
theorem dX5_readClause_98 : decode cX5_readClause 98 = .ok (.ireturn, 1) := by decide +kernel
theorem dX5_readClause_99 : decode cX5_readClause 99 = .ok (.aload_n 0, 1) := by decide +kernel
theorem dX5_readClause_100 : decode cX5_readClause 100 = .ok (.invokevirtual 60, 3) := by decide +kernel
theorem dX5_readClause_103 : decode cX5_readClause 103 = .ok (.ireturn, 1) := by decide +kernel
theorem dX5_readClause_104 : decode cX5_readClause 104 = .ok (.aload_n 0, 1) := by decide +kernel
theorem dX5_readClause_105 : decode cX5_readClause 105 = .ok (.invokevirtual 63, 3) := by decide +kernel
theorem dX5_readClause_108 : decode cX5_readClause 108 = .ok (.ireturn, 1) := by decide +kernel
theorem dX5_readClause_109 : decode cX5_readClause 109 = .ok (.aload_n 0, 1) := by decide +kernel
theorem dX5_readClause_110 : decode cX5_readClause 110 = .ok (.aload_n 0, 1) := by decide +kernel
theorem dX5_readClause_111 : decode cX5_readClause 111 = .ok (.getfield 33, 3) := by decide +kernel
theorem dX5_readClause_114 : decode cX5_readClause 114 = .ok (.iconst 1, 1) := by decide +kernel
theorem dX5_readClause_115 : decode cX5_readClause 115 = .ok (.invokevirtual 47, 3) := by decide +kernel
theorem dX5_readClause_118 : decode cX5_readClause 118 = .ok (.ireturn, 1) := by decide +kernel
theorem dX5_readColours_0 : decode cX5_readColours 0 = .ok (.aload_n 0, 1) := by decide +kernel
theorem dX5_readColours_1 : decode cX5_readColours 1 = .ok (.getfield 12, 3) := by decide +kernel
theorem dX5_readColours_4 : decode cX5_readColours 4 = .ok (.getfield 44, 3) := by decide +kernel
theorem dX5_readColours_7 : decode cX5_readColours 7 = .ok (.ifCond .le 13, 3) := by decide +kernel
theorem dX5_readColours_10 : decode cX5_readColours 10 = .ok (.aload_n 0, 1) := by decide +kernel
theorem dX5_readColours_11 : decode cX5_readColours 11 = .ok (.aload_n 0, 1) := by decide +kernel
theorem dX5_readColours_12 : decode cX5_readColours 12 = .ok (.getfield 33, 3) := by decide +kernel
theorem dX5_readColours_15 : decode cX5_readColours 15 = .ok (.iconst 3, 1) := by decide +kernel
theorem dX5_readColours_16 : decode cX5_readColours 16 = .ok (.invokevirtual 47, 3) := by decide +kernel
theorem dX5_readColours_19 : decode cX5_readColours 19 = .ok (.ireturn, 1) := by decide +kernel
theorem dX5_readColours_20 : decode cX5_readColours 20 = .ok (.aload_n 0, 1) := by decide +kernel
theorem dX5_readColours_21 : decode cX5_readColours 21 = .ok (.dup, 1) := by decide +kernel
theorem dX5_readColours_22 : decode cX5_readColours 22 = .ok (.getfield 33, 3) := by decide +kernel
theorem dX5_readColours_25 : decode cX5_readColours 25 = .ok (.iconst 1, 1) := by decide +kernel
theorem dX5_readColours_26 : decode cX5_readColours 26 = .ok (.iadd, 1) := by decide +kernel
theorem dX5_readColours_27 : decode cX5_readColours 27 = .ok (.putfield 33, 3) := by decide +kernel
theorem dX5_readColours_30 : decode cX5_readColours 30 = .ok (.aload_n 0, 1) := by decide +kernel
theorem dX5_readColours_31 : decode cX5_readColours 31 = .ok (.iconst 2, 1) := by decide +kernel
theorem dX5_readColours_32 : decode cX5_readColours 32 = .ok (.iconst 5, 1) := by decide +kernel
theorem dX5_readColours_33 : decode cX5_readColours 33 = .ok (.invokevirtual 66, 3) := by decide +kernel
theorem dX5_readColours_36 : decode cX5_readColours 36 = .ok (.ifCond .ne 5, 3) := by decide +kernel
theorem dX5_readColours_39 : decode cX5_readColours 39 = .ok (.iconst 0, 1) := by decide +kernel
theorem dX5_readColours_40 : decode cX5_readColours 40 = .ok (.ireturn, 1) := by decide +kernel
theorem dX5_readColours_41 : decode cX5_readColours 41 = .ok (.aload_n 0, 1) := by decide +kernel
theorem dX5_readColours_42 : decode cX5_readColours 42 = .ok (.getfield 69, 3) := by decide +kernel
theorem dX5_readColours_45 : decode cX5_readColours 45 = .ok (.istore_n 1, 1) := by decide +kernel
theorem dX5_readColours_46 : decode cX5_readColours 46 = .ok (.aload_n 0, 1) := by decide +kernel
theorem dX5_readColours_47 : decode cX5_readColours 47 = .ok (.iconst 1, 1) := by decide +kernel
theorem dX5_readColours_48 : decode cX5_readColours 48 = .ok (.bipush 30, 2) := by decide +kernel
theorem dX5_readColours_50 : decode cX5_readColours 50 = .ok (.invokevirtual 66, 3) := by decide +kernel
theorem dX5_readColours_53 : decode cX5_readColours 53 = .ok (.ifCond .ne 5, 3) := by decide +kernel
theorem dX5_readColours_56 : decode cX5_readColours 56 = .ok (.iconst 0, 1) := by decide +kernel
theorem dX5_readColours_57 : decode cX5_readColours 57 = .ok (.ireturn, 1) := by decide +kernel
theorem dX5_readColours_58 : decode cX5_readColours 58 = .ok (.aload_n 0, 1) := by decide +kernel
theorem dX5_readColours_59 : decode cX5_readColours 59 = .ok (.getfield 12, 3) := by decide +kernel
theorem dX5_readColours_62 : decode cX5_readColours 62 = .ok (.iload_n 1, 1) := by decide +kernel
theorem dX5_readColours_63 : decode cX5_readColours 63 = .ok (.putfield 44, 3) := by decide +kernel
theorem dX5_readColours_66 : decode cX5_readColours 66 = .ok (.aload_n 0, 1) := by decide +kernel
theorem dX5_readColours_67 : decode cX5_readColours 67 = .ok (.getfield 12, 3) := by decide +kernel
theorem dX5_readColours_70 : decode cX5_readColours 70 = .ok (.aload_n 0, 1) := by decide +kernel
theorem dX5_readColours_71 : decode cX5_readColours 71 = .ok (.getfield 69, 3) := by decide +kernel
theorem dX5_readColours_74 : decode cX5_readColours 74 = .ok (.putfield 72, 3) := by decide +kernel
theorem dX5_readColours_77 : decode cX5_readColours 77 = .ok (.aload_n 0, 1) := by decide +kernel
theorem dX5_readColours_78 : decode cX5_readColours 78 = .ok (.bipush 59, 2) := by decide +kernel
theorem dX5_readColours_80 : decode cX5_readColours 80 = .ok (.invokevirtual 75, 3) := by decide +kernel
theorem dX5_readColours_83 : decode cX5_readColours 83 = .ok (.ireturn, 1) := by decide +kernel
theorem dX5_readCoat_0 : decode cX5_readCoat 0 = .ok (.aload_n 0, 1) := by decide +kernel
theorem dX5_readCoat_1 : decode cX5_readCoat 1 = .ok (.getfield 12, 3) := by decide +kernel
theorem dX5_readCoat_4 : decode cX5_readCoat 4 = .ok (.getfield 79, 3) := by decide +kernel
theorem dX5_readCoat_7 : decode cX5_readCoat 7 = .ok (.bipush 6, 2) := by decide +kernel
theorem dX5_readCoat_9 : decode cX5_readCoat 9 = .ok (.if_icmp .lt 13, 3) := by decide +kernel
theorem dX5_readCoat_12 : decode cX5_readCoat 12 = .ok (.aload_n 0, 1) := by decide +kernel
theorem dX5_readCoat_13 : decode cX5_readCoat 13 = .ok (.aload_n 0, 1) := by decide +kernel
theorem dX5_readCoat_14 : decode cX5_readCoat 14 = .ok (.getfield 33, 3) := by decide +kernel
theorem dX5_readCoat_17 : decode cX5_readCoat 17 = .ok (.iconst 3, 1) := by decide +kernel
theorem dX5_readCoat_18 : decode cX5_readCoat 18 = .ok (.invokevirtual 47, 3) := by decide +kernel
theorem dX5_readCoat_21 : decode cX5_readCoat 21 = .ok (.ireturn, 1) := by decide +kernel
theorem dX5_readCoat_22 : decode cX5_readCoat 22 = .ok (.aload_n 0, 1) := by decide +kernel
theorem dX5_readCoat_23 : decode cX5_readCoat 23 = .ok (.dup, 1) := by decide +kernel
theorem dX5_readCoat_24 : decode cX5_readCoat 24 = .ok (.getfield 33, 3) := by decide +kernel
theorem dX5_readCoat_27 : decode cX5_readCoat 27 = .ok (.iconst 1, 1) := by decide +kernel
theorem dX5_readCoat_28 : decode cX5_readCoat 28 = .ok (.iadd, 1) := by decide +kernel
theorem dX5_readCoat_29 : decode cX5_readCoat 29 = .ok (.putfield 33, 3) := by decide +kernel
theorem dX5_readCoat_32 : decode cX5_readCoat 32 = .ok (.iconst 0, 1) := by decide +kernel
theorem dX5_readCoat_33 : decode cX5_readCoat 33 = .ok (.istore_n 1, 1) := by decide +kernel
theorem dX5_readCoat_34 : decode cX5_readCoat 34 = .ok (.iconst 0, 1) := by decide +kernel
theorem dX5_readCoat_35 : decode cX5_readCoat 35 = .ok (.istore_n 2, 1) := by decide +kernel
theorem dX5_readCoat_36 : decode cX5_readCoat 36 = .ok (.iload_n 2, 1) := by decide +kernel
theorem dX5_readCoat_37 : decode cX5_readCoat 37 = .ok (.aload_n 0, 1) := by decide +kernel
theorem dX5_readCoat_38 : decode cX5_readCoat 38 = .ok (.getfield 12, 3) := by decide +kernel
theorem dX5_readCoat_41 : decode cX5_readCoat 41 = .ok (.getfield 44, 3) := by decide +kernel
theorem dX5_readCoat_44 : decode cX5_readCoat 44 = .ok (.if_icmp .ge 64, 3) := by decide +kernel
theorem dX5_readCoat_47 : decode cX5_readCoat 47 = .ok (.iload_n 2, 1) := by decide +kernel
theorem dX5_readCoat_48 : decode cX5_readCoat 48 = .ok (.ifCond .le 12, 3) := by decide +kernel
theorem dX5_readCoat_51 : decode cX5_readCoat 51 = .ok (.aload_n 0, 1) := by decide +kernel
theorem dX5_readCoat_52 : decode cX5_readCoat 52 = .ok (.bipush 44, 2) := by decide +kernel
theorem dX5_readCoat_54 : decode cX5_readCoat 54 = .ok (.invokevirtual 75, 3) := by decide +kernel
theorem dX5_readCoat_57 : decode cX5_readCoat 57 = .ok (.ifCond .eq 13, 3) := by decide +kernel
theorem dX5_readCoat_60 : decode cX5_readCoat 60 = .ok (.aload_n 0, 1) := by decide +kernel
theorem dX5_readCoat_61 : decode cX5_readCoat 61 = .ok (.iconst 0, 1) := by decide +kernel
theorem dX5_readCoat_62 : decode cX5_readCoat 62 = .ok (.bipush 60, 2) := by decide +kernel
theorem dX5_readCoat_64 : decode cX5_readCoat 64 = .ok (.invokevirtual 66, 3) := by decide +kernel
theorem dX5_readCoat_67 : decode cX5_readCoat 67 = .ok (.ifCond .ne 5, 3) := by decide +kernel
theorem dX5_readCoat_70 : decode cX5_readCoat 70 = .ok (.iconst 0, 1) := by decide +kernel
theorem dX5_readCoat_71 : decode cX5_readCoat 71 = .ok (.ireturn, 1) := by decide +kernel
theorem dX5_readCoat_72 : decode cX5_readCoat 72 = .ok (.aload_n 0, 1) := by decide +kernel
theorem dX5_readCoat_73 : decode cX5_readCoat 73 = .ok (.getfield 12, 3) := by decide +kernel
theorem dX5_readCoat_76 : decode cX5_readCoat 76 = .ok (.getfield 82, 3) := by decide +kernel
theorem dX5_readCoat_79 : decode cX5_readCoat 79 = .ok (.aload_n 0, 1) := by decide +kernel
theorem dX5_readCoat_80 : decode cX5_readCoat 80 = .ok (.getfield 12, 3) := by decide +kernel
theorem dX5_readCoat_83 : decode cX5_readCoat 83 = .ok (.getfield 79, 3) := by decide +kernel
theorem dX5_readCoat_86 : decode cX5_readCoat 86 = .ok (.iload_n 2, 1) := by decide +kernel
theorem dX5_readCoat_87 : decode cX5_readCoat 87 = .ok (.invokestatic 85, 3) := by decide +kernel
theorem dX5_readCoat_90 : decode cX5_readCoat 90 = .ok (.aload_n 0, 1) := by decide +kernel
theorem dX5_readCoat_91 : decode cX5_readCoat 91 = .ok (.getfield 69, 3) := by decide +kernel
theorem dX5_readCoat_94 : decode cX5_readCoat 94 = .ok (.iastore, 1) := by decide +kernel
theorem dX5_readCoat_95 : decode cX5_readCoat 95 = .ok (.iload_n 1, 1) := by decide +kernel
theorem dX5_readCoat_96 : decode cX5_readCoat 96 = .ok (.aload_n 0, 1) := by decide +kernel
theorem dX5_readCoat_97 : decode cX5_readCoat 97 = .ok (.getfield 69, 3) := by decide +kernel
theorem dX5_readCoat_100 : decode cX5_readCoat 100 = .ok (.iadd, 1) := by decide +kernel
theorem dX5_readCoat_101 : decode cX5_readCoat 101 = .ok (.istore_n 1, 1) := by decide +kernel
theorem dX5_readCoat_102 : decode cX5_readCoat 102 = .ok (.iinc 2 1, 3) := by decide +kernel
theorem dX5_readCoat_105 : decode cX5_readCoat 105 = .ok (.goto (-69), 3) := by decide +kernel
theorem dX5_readCoat_108 : decode cX5_readCoat 108 = .ok (.iload_n 1, 1) := by decide +kernel
theorem dX5_readCoat_109 : decode cX5_readCoat 109 = .ok (.bipush 60, 2) := by decide +kernel
theorem dX5_readCoat_111 : decode cX5_readCoat 111 = .ok (.if_icmp .eq 13, 3) := by decide +kernel
theorem dX5_readCoat_114 : decode cX5_readCoat 114 = .ok (.aload_n 0, 1) := by decide +kernel
theorem dX5_readCoat_115 : decode cX5_readCoat 115 = .ok (.aload_n 0, 1) := by decide +kernel
theorem dX5_readCoat_116 : decode cX5_readCoat 116 = .ok (.getfield 89, 3) := by decide +kernel
theorem dX5_readCoat_119 : decode cX5_readCoat 119 = .ok (.iconst 4, 1) := by decide +kernel
theorem dX5_readCoat_120 : decode cX5_readCoat 120 = .ok (.invokevirtual 47, 3) := by decide +kernel
theorem dX5_readCoat_123 : decode cX5_readCoat 123 = .ok (.ireturn, 1) := by decide +kernel
theorem dX5_readCoat_124 : decode cX5_readCoat 124 = .ok (.aload_n 0, 1) := by decide +kernel
theorem dX5_readCoat_125 : decode cX5_readCoat 125 = .ok (.getfield 12, 3) := by decide +kernel
theorem dX5_readCoat_128 : decode cX5_readCoat 128 = .ok (.dup, 1) := by decide +kernel
theorem dX5_readCoat_129 : decode cX5_readCoat 129 = .ok (.getfield 79, 3) := by decide +kernel
theorem dX5_readCoat_132 : decode cX5_readCoat 132 = .ok (.iconst 1, 1) := by decide +kernel
theorem dX5_readCoat_133 : decode cX5_readCoat 133 = .ok (.iadd, 1) := by decide +kernel
theorem dX5_readCoat_134 : decode cX5_readCoat 134 = .ok (.putfield 79, 3) := by decide +kernel
theorem dX5_readCoat_137 : decode cX5_readCoat 137 = .ok (.aload_n 0, 1) := by decide +kernel
theorem dX5_readCoat_138 : decode cX5_readCoat 138 = .ok (.bipush 59, 2) := by decide +kernel
theorem dX5_readCoat_140 : decode cX5_readCoat 140 = .ok (.invokevirtual 75, 3) := by decide +kernel
theorem dX5_readCoat_143 : decode cX5_readCoat 143 = .ok (.ireturn, 1) := by decide +kernel
theorem dX5_readGloves_0 : decode cX5_readGloves 0 = .ok (.aload_n 0, 1) := by decide +kernel
theorem dX5_readGloves_1 : decode cX5_readGloves 1 = .ok (.invokevirtual 92, 3) := by decide +kernel
theorem dX5_readGloves_4 : decode cX5_readGloves 4 = .ok (.ifCond .ne 5, 3) := by decide +kernel
theorem dX5_readGloves_7 : decode cX5_readGloves 7 = .ok (.iconst 0, 1) := by decide +kernel
theorem dX5_readGloves_8 : decode cX5_readGloves 8 = .ok (.ireturn, 1) := by decide +kernel
theorem dX5_readGloves_9 : decode cX5_readGloves 9 = .ok (.aload_n 0, 1) := by decide +kernel
theorem dX5_readGloves_10 : decode cX5_readGloves 10 = .ok (.getfield 12, 3) := by decide +kernel
theorem dX5_readGloves_13 : decode cX5_readGloves 13 = .ok (.dup, 1) := by decide +kernel
theorem dX5_readGloves_14 : decode cX5_readGloves 14 = .ok (.getfield 95, 3) := by decide +kernel
theorem dX5_readGloves_17 : decode cX5_readGloves 17 = .ok (.iconst 1, 1) := by decide +kernel
theorem dX5_readGloves_18 : decode cX5_readGloves 18 = .ok (.aload_n 0, 1) := by decide +kernel
theorem dX5_readGloves_19 : decode cX5_readGloves 19 = .ok (.getfield 69, 3) := by decide +kernel
theorem dX5_readGloves_22 : decode cX5_readGloves 22 = .ok (.ishl, 1) := by decide +kernel
theorem dX5_readGloves_23 : decode cX5_readGloves 23 = .ok (.ior, 1) := by decide +kernel
theorem dX5_readGloves_24 : decode cX5_readGloves 24 = .ok (.putfield 95, 3) := by decide +kernel
theorem dX5_readGloves_27 : decode cX5_readGloves 27 = .ok (.aload_n 0, 1) := by decide +kernel
theorem dX5_readGloves_28 : decode cX5_readGloves 28 = .ok (.bipush 59, 2) := by decide +kernel
theorem dX5_readGloves_30 : decode cX5_readGloves 30 = .ok (.invokevirtual 75, 3) := by decide +kernel
theorem dX5_readGloves_33 : decode cX5_readGloves 33 = .ok (.ireturn, 1) := by decide +kernel
theorem dX5_readDog_0 : decode cX5_readDog 0 = .ok (.aload_n 0, 1) := by decide +kernel
theorem dX5_readDog_1 : decode cX5_readDog 1 = .ok (.invokevirtual 92, 3) := by decide +kernel
theorem dX5_readDog_4 : decode cX5_readDog 4 = .ok (.ifCond .ne 5, 3) := by decide +kernel
theorem dX5_readDog_7 : decode cX5_readDog 7 = .ok (.iconst 0, 1) := by decide +kernel
theorem dX5_readDog_8 : decode cX5_readDog 8 = .ok (.ireturn, 1) := by decide +kernel
theorem dX5_readDog_9 : decode cX5_readDog 9 = .ok (.aload_n 0, 1) := by decide +kernel
theorem dX5_readDog_10 : decode cX5_readDog 10 = .ok (.getfield 12, 3) := by decide +kernel
theorem dX5_readDog_13 : decode cX5_readDog 13 = .ok (.dup, 1) := by decide +kernel
theorem dX5_readDog_14 : decode cX5_readDog 14 = .ok (.getfield 98, 3) := by decide +kernel
theorem dX5_readDog_17 : decode cX5_readDog 17 = .ok (.iconst 1, 1) := by decide +kernel
theorem dX5_readDog_18 : decode cX5_readDog 18 = .ok (.aload_n 0, 1) := by decide +kernel
theorem dX5_readDog_19 : decode cX5_readDog 19 = .ok (.getfield 69, 3) := by decide +kernel
theorem dX5_readDog_22 : decode cX5_readDog 22 = .ok (.ishl, 1) := by decide +kernel
theorem dX5_readDog_23 : decode cX5_readDog 23 = .ok (.ior, 1) := by decide +kernel
theorem dX5_readDog_24 : decode cX5_readDog 24 = .ok (.putfield 98, 3) := by decide +kernel
theorem dX5_readDog_27 : decode cX5_readDog 27 = .ok (.aload_n 0, 1) := by decide +kernel
theorem dX5_readDog_28 : decode cX5_readDog 28 = .ok (.bipush 59, 2) := by decide +kernel
theorem dX5_readDog_30 : decode cX5_readDog 30 = .ok (.invokevirtual 75, 3) := by decide +kernel
theorem dX5_readDog_33 : decode cX5_readDog 33 = .ok (.ireturn, 1) := by decide +kernel
theorem dX5_readUnmarked_0 : decode cX5_readUnmarked 0 = .ok (.aload_n 0, 1) := by decide +kernel
theorem dX5_readUnmarked_1 : decode cX5_readUnmarked 1 = .ok (.dup, 1) := by decide +kernel
theorem dX5_readUnmarked_2 : decode cX5_readUnmarked 2 = .ok (.getfield 33, 3) := by decide +kernel
theorem dX5_readUnmarked_5 : decode cX5_readUnmarked 5 = .ok (.iconst 1, 1) := by decide +kernel
theorem dX5_readUnmarked_6 : decode cX5_readUnmarked 6 = .ok (.iadd, 1) := by decide +kernel
theorem dX5_readUnmarked_7 : decode cX5_readUnmarked 7 = .ok (.putfield 33, 3) := by decide +kernel
theorem dX5_readUnmarked_10 : decode cX5_readUnmarked 10 = .ok (.aload_n 0, 1) := by decide +kernel
theorem dX5_readUnmarked_11 : decode cX5_readUnmarked 11 = .ok (.invokevirtual 101, 3) := by decide +kernel
theorem dX5_readUnmarked_14 : decode cX5_readUnmarked 14 = .ok (.ifCond .ne 5, 3) := by decide +kernel
theorem dX5_readUnmarked_17 : decode cX5_readUnmarked 17 = .ok (.iconst 0, 1) := by decide +kernel
theorem dX5_readUnmarked_18 : decode cX5_readUnmarked 18 = .ok (.ireturn, 1) := by decide +kernel
theorem dX5_readUnmarked_19 : decode cX5_readUnmarked 19 = .ok (.aload_n 0, 1) := by decide +kernel
theorem dX5_readUnmarked_20 : decode cX5_readUnmarked 20 = .ok (.getfield 12, 3) := by decide +kernel
theorem dX5_readUnmarked_23 : decode cX5_readUnmarked 23 = .ok (.getfield 95, 3) := by decide +kernel
theorem dX5_readUnmarked_26 : decode cX5_readUnmarked 26 = .ok (.aload_n 0, 1) := by decide +kernel
theorem dX5_readUnmarked_27 : decode cX5_readUnmarked 27 = .ok (.getfield 12, 3) := by decide +kernel
theorem dX5_readUnmarked_30 : decode cX5_readUnmarked 30 = .ok (.getfield 98, 3) := by decide +kernel
theorem dX5_readUnmarked_33 : decode cX5_readUnmarked 33 = .ok (.ior, 1) := by decide +kernel
theorem dX5_readUnmarked_34 : decode cX5_readUnmarked 34 = .ok (.aload_n 0, 1) := by decide +kernel
theorem dX5_readUnmarked_35 : decode cX5_readUnmarked 35 = .ok (.getfield 69, 3) := by decide +kernel
theorem dX5_readUnmarked_38 : decode cX5_readUnmarked 38 = .ok (.invokestatic 104, 3) := by decide +kernel
theorem dX5_readUnmarked_41 : decode cX5_readUnmarked 41 = .ok (.ifCond .eq 15, 3) := by decide +kernel
theorem dX5_readUnmarked_44 : decode cX5_readUnmarked 44 = .ok (.aload_n 0, 1) := by decide +kernel
theorem dX5_readUnmarked_45 : decode cX5_readUnmarked 45 = .ok (.aload_n 0, 1) := by decide +kernel
theorem dX5_readUnmarked_46 : decode cX5_readUnmarked 46 = .ok (.getfield 89, 3) := by decide +kernel
theorem dX5_readUnmarked_49 : decode cX5_readUnmarked 49 = .ok (.iconst 4, 1) := by decide +kernel
theorem dX5_readUnmarked_50 : decode cX5_readUnmarked 50 = .ok (.invokevirtual 47, 3) := by decide +kernel
theorem dX5_readUnmarked_53 : decode cX5_readUnmarked 53 = .ok (.ifCond .eq 7, 3) := by decide +kernel
theorem dX5_readUnmarked_56 : decode cX5_readUnmarked 56 = .ok (.iconst 1, 1) := by decide +kernel
theorem dX5_readUnmarked_57 : decode cX5_readUnmarked 57 = .ok (.goto 4, 3) := by decide +kernel
theorem dX5_readUnmarked_60 : decode cX5_readUnmarked 60 = .ok (.iconst 0, 1) := by decide +kernel
theorem dX5_readUnmarked_61 : decode cX5_readUnmarked 61 = .ok (.ireturn, 1) := by decide +kernel
theorem dX5_readDay_0 : decode cX5_readDay 0 = .ok (.aload_n 0, 1) := by decide +kernel
theorem dX5_readDay_1 : decode cX5_readDay 1 = .ok (.getfield 12, 3) := by decide +kernel
theorem dX5_readDay_4 : decode cX5_readDay 4 = .ok (.getfield 107, 3) := by decide +kernel
theorem dX5_readDay_7 : decode cX5_readDay 7 = .ok (.ifCond .le 13, 3) := by decide +kernel
theorem dX5_readDay_10 : decode cX5_readDay 10 = .ok (.aload_n 0, 1) := by decide +kernel
theorem dX5_readDay_11 : decode cX5_readDay 11 = .ok (.aload_n 0, 1) := by decide +kernel
theorem dX5_readDay_12 : decode cX5_readDay 12 = .ok (.getfield 33, 3) := by decide +kernel
theorem dX5_readDay_15 : decode cX5_readDay 15 = .ok (.iconst 3, 1) := by decide +kernel
theorem dX5_readDay_16 : decode cX5_readDay 16 = .ok (.invokevirtual 47, 3) := by decide +kernel
theorem dX5_readDay_19 : decode cX5_readDay 19 = .ok (.ireturn, 1) := by decide +kernel
theorem dX5_readDay_20 : decode cX5_readDay 20 = .ok (.iconst 0, 1) := by decide +kernel
theorem dX5_readDay_21 : decode cX5_readDay 21 = .ok (.istore_n 1, 1) := by decide +kernel
theorem dX5_readDay_22 : decode cX5_readDay 22 = .ok (.iload_n 1, 1) := by decide +kernel
theorem dX5_readDay_23 : decode cX5_readDay 23 = .ok (.bipush 10, 2) := by decide +kernel
theorem dX5_readDay_25 : decode cX5_readDay 25 = .ok (.if_icmp .ge 52, 3) := by decide +kernel
theorem dX5_readDay_28 : decode cX5_readDay 28 = .ok (.iload_n 1, 1) := by decide +kernel
theorem dX5_readDay_29 : decode cX5_readDay 29 = .ok (.ifCond .eq 12, 3) := by decide +kernel
theorem dX5_readDay_32 : decode cX5_readDay 32 = .ok (.aload_n 0, 1) := by decide +kernel
theorem dX5_readDay_33 : decode cX5_readDay 33 = .ok (.invokevirtual 36, 3) := by decide +kernel
theorem dX5_readDay_36 : decode cX5_readDay 36 = .ok (.bipush 44, 2) := by decide +kernel
theorem dX5_readDay_38 : decode cX5_readDay 38 = .ok (.if_icmp .ne 39, 3) := by decide +kernel
theorem dX5_readDay_41 : decode cX5_readDay 41 = .ok (.aload_n 0, 1) := by decide +kernel
theorem dX5_readDay_42 : decode cX5_readDay 42 = .ok (.dup, 1) := by decide +kernel
theorem dX5_readDay_43 : decode cX5_readDay 43 = .ok (.getfield 33, 3) := by decide +kernel
theorem dX5_readDay_46 : decode cX5_readDay 46 = .ok (.iconst 1, 1) := by decide +kernel
theorem dX5_readDay_47 : decode cX5_readDay 47 = .ok (.iadd, 1) := by decide +kernel
theorem dX5_readDay_48 : decode cX5_readDay 48 = .ok (.putfield 33, 3) := by decide +kernel
theorem dX5_readDay_51 : decode cX5_readDay 51 = .ok (.aload_n 0, 1) := by decide +kernel
theorem dX5_readDay_52 : decode cX5_readDay 52 = .ok (.iload_n 1, 1) := by decide +kernel
theorem dX5_readDay_53 : decode cX5_readDay 53 = .ok (.invokevirtual 110, 3) := by decide +kernel
theorem dX5_readDay_56 : decode cX5_readDay 56 = .ok (.ifCond .ne 5, 3) := by decide +kernel
theorem dX5_readDay_59 : decode cX5_readDay 59 = .ok (.iconst 0, 1) := by decide +kernel
theorem dX5_readDay_60 : decode cX5_readDay 60 = .ok (.ireturn, 1) := by decide +kernel
theorem dX5_readDay_61 : decode cX5_readDay 61 = .ok (.aload_n 0, 1) := by decide +kernel
theorem dX5_readDay_62 : decode cX5_readDay 62 = .ok (.getfield 12, 3) := by decide +kernel
theorem dX5_readDay_65 : decode cX5_readDay 65 = .ok (.iload_n 1, 1) := by decide +kernel
theorem dX5_readDay_66 : decode cX5_readDay 66 = .ok (.iconst 1, 1) := by decide +kernel
theorem dX5_readDay_67 : decode cX5_readDay 67 = .ok (.iadd, 1) := by decide +kernel
theorem dX5_readDay_68 : decode cX5_readDay 68 = .ok (.putfield 107, 3) := by decide +kernel
theorem dX5_readDay_71 : decode cX5_readDay 71 = .ok (.iinc 1 1, 3) := by decide +kernel
theorem dX5_readDay_74 : decode cX5_readDay 74 = .ok (.goto (-52), 3) := by decide +kernel
theorem dX5_readDay_77 : decode cX5_readDay 77 = .ok (.aload_n 0, 1) := by decide +kernel
theorem dX5_readDay_78 : decode cX5_readDay 78 = .ok (.bipush 59, 2) := by decide +kernel
theorem dX5_readDay_80 : decode cX5_readDay 80 = .ok (.invokevirtual 75, 3) := by decide +kernel
theorem dX5_readDay_83 : decode cX5_readDay 83 = .ok (.ireturn, 1) := by decide +kernel
theorem dX5_readTouch_0 : decode cX5_readTouch 0 = .ok (.aload_n 0, 1) := by decide +kernel
theorem dX5_readTouch_1 : decode cX5_readTouch 1 = .ok (.invokevirtual 101, 3) := by decide +kernel
theorem dX5_readTouch_4 : decode cX5_readTouch 4 = .ok (.ifCond .ne 5, 3) := by decide +kernel
theorem dX5_readTouch_7 : decode cX5_readTouch 7 = .ok (.iconst 0, 1) := by decide +kernel
theorem dX5_readTouch_8 : decode cX5_readTouch 8 = .ok (.ireturn, 1) := by decide +kernel
theorem dX5_readTouch_9 : decode cX5_readTouch 9 = .ok (.aload_n 0, 1) := by decide +kernel
theorem dX5_readTouch_10 : decode cX5_readTouch 10 = .ok (.getfield 69, 3) := by decide +kernel
theorem dX5_readTouch_13 : decode cX5_readTouch 13 = .ok (.istore_n 2, 1) := by decide +kernel
theorem dX5_readTouch_14 : decode cX5_readTouch 14 = .ok (.aload_n 0, 1) := by decide +kernel
theorem dX5_readTouch_15 : decode cX5_readTouch 15 = .ok (.invokevirtual 101, 3) := by decide +kernel
theorem dX5_readTouch_18 : decode cX5_readTouch 18 = .ok (.ifCond .ne 5, 3) := by decide +kernel
theorem dX5_readTouch_21 : decode cX5_readTouch 21 = .ok (.iconst 0, 1) := by decide +kernel
theorem dX5_readTouch_22 : decode cX5_readTouch 22 = .ok (.ireturn, 1) := by decide +kernel
theorem dX5_readTouch_23 : decode cX5_readTouch 23 = .ok (.aload_n 0, 1) := by decide +kernel
theorem dX5_readTouch_24 : decode cX5_readTouch 24 = .ok (.getfield 69, 3) := by decide +kernel
theorem dX5_readTouch_27 : decode cX5_readTouch 27 = .ok (.iload_n 2, 1) := by decide +kernel
theorem dX5_readTouch_28 : decode cX5_readTouch 28 = .ok (.if_icmp .ne 13, 3) := by decide +kernel
theorem dX5_readTouch_31 : decode cX5_readTouch 31 = .ok (.aload_n 0, 1) := by decide +kernel
theorem dX5_readTouch_32 : decode cX5_readTouch 32 = .ok (.aload_n 0, 1) := by decide +kernel
theorem dX5_readTouch_33 : decode cX5_readTouch 33 = .ok (.getfield 89, 3) := by decide +kernel
theorem dX5_readTouch_36 : decode cX5_readTouch 36 = .ok (.iconst 4, 1) := by decide +kernel
theorem dX5_readTouch_37 : decode cX5_readTouch 37 = .ok (.invokevirtual 47, 3) := by decide +kernel
theorem dX5_readTouch_40 : decode cX5_readTouch 40 = .ok (.ireturn, 1) := by decide +kernel
theorem dX5_readTouch_41 : decode cX5_readTouch 41 = .ok (.aload_n 0, 1) := by decide +kernel
theorem dX5_readTouch_42 : decode cX5_readTouch 42 = .ok (.getfield 12, 3) := by decide +kernel
theorem dX5_readTouch_45 : decode cX5_readTouch 45 = .ok (.getfield 113, 3) := by decide +kernel
theorem dX5_readTouch_48 : decode cX5_readTouch 48 = .ok (.iload_n 1, 1) := by decide +kernel
theorem dX5_readTouch_49 : decode cX5_readTouch 49 = .ok (.iload_n 2, 1) := by decide +kernel
theorem dX5_readTouch_50 : decode cX5_readTouch 50 = .ok (.iastore, 1) := by decide +kernel
theorem dX5_readTouch_51 : decode cX5_readTouch 51 = .ok (.aload_n 0, 1) := by decide +kernel
theorem dX5_readTouch_52 : decode cX5_readTouch 52 = .ok (.getfield 12, 3) := by decide +kernel
theorem dX5_readTouch_55 : decode cX5_readTouch 55 = .ok (.getfield 116, 3) := by decide +kernel
theorem dX5_readTouch_58 : decode cX5_readTouch 58 = .ok (.iload_n 1, 1) := by decide +kernel
theorem dX5_readTouch_59 : decode cX5_readTouch 59 = .ok (.aload_n 0, 1) := by decide +kernel
theorem dX5_readTouch_60 : decode cX5_readTouch 60 = .ok (.getfield 69, 3) := by decide +kernel
theorem dX5_readTouch_63 : decode cX5_readTouch 63 = .ok (.iastore, 1) := by decide +kernel
theorem dX5_readTouch_64 : decode cX5_readTouch 64 = .ok (.iconst 1, 1) := by decide +kernel
theorem dX5_readTouch_65 : decode cX5_readTouch 65 = .ok (.ireturn, 1) := by decide +kernel
theorem dX5_readToldCoat_0 : decode cX5_readToldCoat 0 = .ok (.aload_n 0, 1) := by decide +kernel
theorem dX5_readToldCoat_1 : decode cX5_readToldCoat 1 = .ok (.iconst 0, 1) := by decide +kernel
theorem dX5_readToldCoat_2 : decode cX5_readToldCoat 2 = .ok (.aload_n 0, 1) := by decide +kernel
theorem dX5_readToldCoat_3 : decode cX5_readToldCoat 3 = .ok (.getfield 12, 3) := by decide +kernel
theorem dX5_readToldCoat_6 : decode cX5_readToldCoat 6 = .ok (.getfield 79, 3) := by decide +kernel
theorem dX5_readToldCoat_9 : decode cX5_readToldCoat 9 = .ok (.iconst 1, 1) := by decide +kernel
theorem dX5_readToldCoat_10 : decode cX5_readToldCoat 10 = .ok (.isub, 1) := by decide +kernel
theorem dX5_readToldCoat_11 : decode cX5_readToldCoat 11 = .ok (.invokevirtual 66, 3) := by decide +kernel
theorem dX5_readToldCoat_14 : decode cX5_readToldCoat 14 = .ok (.ireturn, 1) := by decide +kernel
theorem dX5_readNumber_0 : decode cX5_readNumber 0 = .ok (.aload_n 0, 1) := by decide +kernel
theorem dX5_readNumber_1 : decode cX5_readNumber 1 = .ok (.invokevirtual 36, 3) := by decide +kernel
theorem dX5_readNumber_4 : decode cX5_readNumber 4 = .ok (.invokestatic 119, 3) := by decide +kernel
theorem dX5_readNumber_7 : decode cX5_readNumber 7 = .ok (.ifCond .ne 13, 3) := by decide +kernel
theorem dX5_readNumber_10 : decode cX5_readNumber 10 = .ok (.aload_n 0, 1) := by decide +kernel
theorem dX5_readNumber_11 : decode cX5_readNumber 11 = .ok (.aload_n 0, 1) := by decide +kernel
theorem dX5_readNumber_12 : decode cX5_readNumber 12 = .ok (.getfield 33, 3) := by decide +kernel
theorem dX5_readNumber_15 : decode cX5_readNumber 15 = .ok (.iconst 1, 1) := by decide +kernel
theorem dX5_readNumber_16 : decode cX5_readNumber 16 = .ok (.invokevirtual 47, 3) := by decide +kernel
theorem dX5_readNumber_19 : decode cX5_readNumber 19 = .ok (.ireturn, 1) := by decide +kernel
theorem dX5_readNumber_20 : decode cX5_readNumber 20 = .ok (.aload_n 0, 1) := by decide +kernel
theorem dX5_readNumber_21 : decode cX5_readNumber 21 = .ok (.aload_n 0, 1) := by decide +kernel
theorem dX5_readNumber_22 : decode cX5_readNumber 22 = .ok (.getfield 33, 3) := by decide +kernel
theorem dX5_readNumber_25 : decode cX5_readNumber 25 = .ok (.putfield 89, 3) := by decide +kernel
theorem dX5_readNumber_28 : decode cX5_readNumber 28 = .ok (.aload_n 0, 1) := by decide +kernel
theorem dX5_readNumber_29 : decode cX5_readNumber 29 = .ok (.iconst 0, 1) := by decide +kernel
theorem dX5_readNumber_30 : decode cX5_readNumber 30 = .ok (.putfield 69, 3) := by decide +kernel
theorem dX5_readNumber_33 : decode cX5_readNumber 33 = .ok (.aload_n 0, 1) := by decide +kernel
theorem dX5_readNumber_34 : decode cX5_readNumber 34 = .ok (.getfield 33, 3) := by decide +kernel
theorem dX5_readNumber_37 : decode cX5_readNumber 37 = .ok (.aload_n 0, 1) := by decide +kernel
theorem dX5_readNumber_38 : decode cX5_readNumber 38 = .ok (.getfield 26, 3) := by decide +kernel
theorem dX5_readNumber_41 : decode cX5_readNumber 41 = .ok (.if_icmp .ge 75, 3) := by decide +kernel
theorem dX5_readNumber_44 : decode cX5_readNumber 44 = .ok (.aload_n 0, 1) := by decide +kernel
theorem dX5_readNumber_45 : decode cX5_readNumber 45 = .ok (.getfield 18, 3) := by decide +kernel
theorem dX5_readNumber_48 : decode cX5_readNumber 48 = .ok (.aload_n 0, 1) := by decide +kernel
theorem dX5_readNumber_49 : decode cX5_readNumber 49 = .ok (.getfield 33, 3) := by decide +kernel
theorem dX5_readNumber_52 : decode cX5_readNumber 52 = .ok (.iaload, 1) := by decide +kernel
theorem dX5_readNumber_53 : decode cX5_readNumber 53 = .ok (.invokestatic 119, 3) := by decide +kernel
theorem dX5_readNumber_56 : decode cX5_readNumber 56 = .ok (.ifCond .eq 60, 3) := by decide +kernel
theorem dX5_readNumber_59 : decode cX5_readNumber 59 = .ok (.aload_n 0, 1) := by decide +kernel
theorem dX5_readNumber_60 : decode cX5_readNumber 60 = .ok (.aload_n 0, 1) := by decide +kernel
theorem dX5_readNumber_61 : decode cX5_readNumber 61 = .ok (.getfield 33, 3) := by decide +kernel
theorem dX5_readNumber_64 : decode cX5_readNumber 64 = .ok (.aload_n 0, 1) := by decide +kernel
theorem dX5_readNumber_65 : decode cX5_readNumber 65 = .ok (.getfield 89, 3) := by decide +kernel
theorem dX5_readNumber_68 : decode cX5_readNumber 68 = .ok (.isub, 1) := by decide +kernel
theorem dX5_readNumber_69 : decode cX5_readNumber 69 = .ok (.iconst 3, 1) := by decide +kernel
theorem dX5_readNumber_70 : decode cX5_readNumber 70 = .ok (.if_icmp .ge 26, 3) := by decide +kernel
theorem dX5_readNumber_73 : decode cX5_readNumber 73 = .ok (.aload_n 0, 1) := by decide +kernel
theorem dX5_readNumber_74 : decode cX5_readNumber 74 = .ok (.getfield 69, 3) := by decide +kernel
theorem dX5_readNumber_77 : decode cX5_readNumber 77 = .ok (.bipush 10, 2) := by decide +kernel
theorem dX5_readNumber_79 : decode cX5_readNumber 79 = .ok (.imul, 1) := by decide +kernel
theorem dX5_readNumber_80 : decode cX5_readNumber 80 = .ok (.aload_n 0, 1) := by decide +kernel
theorem dX5_readNumber_81 : decode cX5_readNumber 81 = .ok (.getfield 18, 3) := by decide +kernel
theorem dX5_readNumber_84 : decode cX5_readNumber 84 = .ok (.aload_n 0, 1) := by decide +kernel
theorem dX5_readNumber_85 : decode cX5_readNumber 85 = .ok (.getfield 33, 3) := by decide +kernel
theorem dX5_readNumber_88 : decode cX5_readNumber 88 = .ok (.iaload, 1) := by decide +kernel
theorem dX5_readNumber_89 : decode cX5_readNumber 89 = .ok (.iadd, 1) := by decide +kernel
theorem dX5_readNumber_90 : decode cX5_readNumber 90 = .ok (.bipush 48, 2) := by decide +kernel
theorem dX5_readNumber_92 : decode cX5_readNumber 92 = .ok (.isub, 1) := by decide +kernel
theorem dX5_readNumber_93 : decode cX5_readNumber 93 = .ok (.goto 7, 3) := by decide +kernel
theorem dX5_readNumber_96 : decode cX5_readNumber 96 = .ok (.aload_n 0, 1) := by decide +kernel
theorem dX5_readNumber_97 : decode cX5_readNumber 97 = .ok (.getfield 69, 3) := by decide +kernel
theorem dX5_readNumber_100 : decode cX5_readNumber 100 = .ok (.putfield 69, 3) := by decide +kernel
theorem dX5_readNumber_103 : decode cX5_readNumber 103 = .ok (.aload_n 0, 1) := by decide +kernel
theorem dX5_readNumber_104 : decode cX5_readNumber 104 = .ok (.dup, 1) := by decide +kernel
theorem dX5_readNumber_105 : decode cX5_readNumber 105 = .ok (.getfield 33, 3) := by decide +kernel
theorem dX5_readNumber_108 : decode cX5_readNumber 108 = .ok (.iconst 1, 1) := by decide +kernel
theorem dX5_readNumber_109 : decode cX5_readNumber 109 = .ok (.iadd, 1) := by decide +kernel
theorem dX5_readNumber_110 : decode cX5_readNumber 110 = .ok (.putfield 33, 3) := by decide +kernel
theorem dX5_readNumber_113 : decode cX5_readNumber 113 = .ok (.goto (-80), 3) := by decide +kernel
theorem dX5_readNumber_116 : decode cX5_readNumber 116 = .ok (.aload_n 0, 1) := by decide +kernel
theorem dX5_readNumber_117 : decode cX5_readNumber 117 = .ok (.getfield 33, 3) := by decide +kernel
theorem dX5_readNumber_120 : decode cX5_readNumber 120 = .ok (.aload_n 0, 1) := by decide +kernel
theorem dX5_readNumber_121 : decode cX5_readNumber 121 = .ok (.getfield 89, 3) := by decide +kernel
theorem dX5_readNumber_124 : decode cX5_readNumber 124 = .ok (.isub, 1) := by decide +kernel
theorem dX5_readNumber_125 : decode cX5_readNumber 125 = .ok (.iconst 3, 1) := by decide +kernel
theorem dX5_readNumber_126 : decode cX5_readNumber 126 = .ok (.if_icmp .gt 19, 3) := by decide +kernel
theorem dX5_readNumber_129 : decode cX5_readNumber 129 = .ok (.aload_n 0, 1) := by decide +kernel
theorem dX5_readNumber_130 : decode cX5_readNumber 130 = .ok (.getfield 69, 3) := by decide +kernel
theorem dX5_readNumber_133 : decode cX5_readNumber 133 = .ok (.iload_n 1, 1) := by decide +kernel
theorem dX5_readNumber_134 : decode cX5_readNumber 134 = .ok (.if_icmp .lt 11, 3) := by decide +kernel
theorem dX5_readNumber_137 : decode cX5_readNumber 137 = .ok (.aload_n 0, 1) := by decide +kernel
theorem dX5_readNumber_138 : decode cX5_readNumber 138 = .ok (.getfield 69, 3) := by decide +kernel
theorem dX5_readNumber_141 : decode cX5_readNumber 141 = .ok (.iload_n 2, 1) := by decide +kernel
theorem dX5_readNumber_142 : decode cX5_readNumber 142 = .ok (.if_icmp .le 13, 3) := by decide +kernel
theorem dX5_readNumber_145 : decode cX5_readNumber 145 = .ok (.aload_n 0, 1) := by decide +kernel
theorem dX5_readNumber_146 : decode cX5_readNumber 146 = .ok (.aload_n 0, 1) := by decide +kernel
theorem dX5_readNumber_147 : decode cX5_readNumber 147 = .ok (.getfield 89, 3) := by decide +kernel
theorem dX5_readNumber_150 : decode cX5_readNumber 150 = .ok (.iconst 2, 1) := by decide +kernel
theorem dX5_readNumber_151 : decode cX5_readNumber 151 = .ok (.invokevirtual 47, 3) := by decide +kernel
theorem dX5_readNumber_154 : decode cX5_readNumber 154 = .ok (.ireturn, 1) := by decide +kernel
theorem dX5_readNumber_155 : decode cX5_readNumber 155 = .ok (.iconst 1, 1) := by decide +kernel
theorem dX5_readNumber_156 : decode cX5_readNumber 156 = .ok (.ireturn, 1) := by decide +kernel
theorem dX5_readSign_0 : decode cX5_readSign 0 = .ok (.aload_n 0, 1) := by decide +kernel
theorem dX5_readSign_1 : decode cX5_readSign 1 = .ok (.invokevirtual 36, 3) := by decide +kernel
theorem dX5_readSign_4 : decode cX5_readSign 4 = .ok (.iload_n 1, 1) := by decide +kernel
theorem dX5_readSign_5 : decode cX5_readSign 5 = .ok (.if_icmp .eq 13, 3) := by decide +kernel
theorem dX5_readSign_8 : decode cX5_readSign 8 = .ok (.aload_n 0, 1) := by decide +kernel
theorem dX5_readSign_9 : decode cX5_readSign 9 = .ok (.aload_n 0, 1) := by decide +kernel
theorem dX5_readSign_10 : decode cX5_readSign 10 = .ok (.getfield 33, 3) := by decide +kernel
theorem dX5_readSign_13 : decode cX5_readSign 13 = .ok (.iconst 1, 1) := by decide +kernel
theorem dX5_readSign_14 : decode cX5_readSign 14 = .ok (.invokevirtual 47, 3) := by decide +kernel
theorem dX5_readSign_17 : decode cX5_readSign 17 = .ok (.ireturn, 1) := by decide +kernel
theorem dX5_readSign_18 : decode cX5_readSign 18 = .ok (.aload_n 0, 1) := by decide +kernel
theorem dX5_readSign_19 : decode cX5_readSign 19 = .ok (.dup, 1) := by decide +kernel
theorem dX5_readSign_20 : decode cX5_readSign 20 = .ok (.getfield 33, 3) := by decide +kernel
theorem dX5_readSign_23 : decode cX5_readSign 23 = .ok (.iconst 1, 1) := by decide +kernel
theorem dX5_readSign_24 : decode cX5_readSign 24 = .ok (.iadd, 1) := by decide +kernel
theorem dX5_readSign_25 : decode cX5_readSign 25 = .ok (.putfield 33, 3) := by decide +kernel
theorem dX5_readSign_28 : decode cX5_readSign 28 = .ok (.iconst 1, 1) := by decide +kernel
theorem dX5_readSign_29 : decode cX5_readSign 29 = .ok (.ireturn, 1) := by decide +kernel
theorem dX5_ahead_0 : decode cX5_ahead 0 = .ok (.aload_n 0, 1) := by decide +kernel
theorem dX5_ahead_1 : decode cX5_ahead 1 = .ok (.getfield 33, 3) := by decide +kernel
theorem dX5_ahead_4 : decode cX5_ahead 4 = .ok (.aload_n 0, 1) := by decide +kernel
theorem dX5_ahead_5 : decode cX5_ahead 5 = .ok (.getfield 26, 3) := by decide +kernel
theorem dX5_ahead_8 : decode cX5_ahead 8 = .ok (.if_icmp .ge 30, 3) := by decide +kernel
theorem dX5_ahead_11 : decode cX5_ahead 11 = .ok (.aload_n 0, 1) := by decide +kernel
theorem dX5_ahead_12 : decode cX5_ahead 12 = .ok (.getfield 18, 3) := by decide +kernel
theorem dX5_ahead_15 : decode cX5_ahead 15 = .ok (.aload_n 0, 1) := by decide +kernel
theorem dX5_ahead_16 : decode cX5_ahead 16 = .ok (.getfield 33, 3) := by decide +kernel
theorem dX5_ahead_19 : decode cX5_ahead 19 = .ok (.iaload, 1) := by decide +kernel
theorem dX5_ahead_20 : decode cX5_ahead 20 = .ok (.bipush 32, 2) := by decide +kernel
theorem dX5_ahead_22 : decode cX5_ahead 22 = .ok (.if_icmp .ne 16, 3) := by decide +kernel
theorem dX5_ahead_25 : decode cX5_ahead 25 = .ok (.aload_n 0, 1) := by decide +kernel
theorem dX5_ahead_26 : decode cX5_ahead 26 = .ok (.dup, 1) := by decide +kernel
theorem dX5_ahead_27 : decode cX5_ahead 27 = .ok (.getfield 33, 3) := by decide +kernel
theorem dX5_ahead_30 : decode cX5_ahead 30 = .ok (.iconst 1, 1) := by decide +kernel
theorem dX5_ahead_31 : decode cX5_ahead 31 = .ok (.iadd, 1) := by decide +kernel
theorem dX5_ahead_32 : decode cX5_ahead 32 = .ok (.putfield 33, 3) := by decide +kernel
theorem dX5_ahead_35 : decode cX5_ahead 35 = .ok (.goto (-35), 3) := by decide +kernel
theorem dX5_ahead_38 : decode cX5_ahead 38 = .ok (.aload_n 0, 1) := by decide +kernel
theorem dX5_ahead_39 : decode cX5_ahead 39 = .ok (.getfield 33, 3) := by decide +kernel
theorem dX5_ahead_42 : decode cX5_ahead 42 = .ok (.aload_n 0, 1) := by decide +kernel
theorem dX5_ahead_43 : decode cX5_ahead 43 = .ok (.getfield 26, 3) := by decide +kernel
theorem dX5_ahead_46 : decode cX5_ahead 46 = .ok (.if_icmp .ge 15, 3) := by decide +kernel
theorem dX5_ahead_49 : decode cX5_ahead 49 = .ok (.aload_n 0, 1) := by decide +kernel
theorem dX5_ahead_50 : decode cX5_ahead 50 = .ok (.getfield 18, 3) := by decide +kernel
theorem dX5_ahead_53 : decode cX5_ahead 53 = .ok (.aload_n 0, 1) := by decide +kernel
theorem dX5_ahead_54 : decode cX5_ahead 54 = .ok (.getfield 33, 3) := by decide +kernel
theorem dX5_ahead_57 : decode cX5_ahead 57 = .ok (.iaload, 1) := by decide +kernel
theorem dX5_ahead_58 : decode cX5_ahead 58 = .ok (.goto 4, 3) := by decide +kernel
theorem dX5_ahead_61 : decode cX5_ahead 61 = .ok (.iconst (-1), 1) := by decide +kernel
theorem dX5_ahead_62 : decode cX5_ahead 62 = .ok (.ireturn, 1) := by decide +kernel
theorem dX5_isFigure_0 : decode cX5_isFigure 0 = .ok (.iload_n 0, 1) := by decide +kernel
theorem dX5_isFigure_1 : decode cX5_isFigure 1 = .ok (.bipush 48, 2) := by decide +kernel
theorem dX5_isFigure_3 : decode cX5_isFigure 3 = .ok (.if_icmp .lt 13, 3) := by decide +kernel
theorem dX5_isFigure_6 : decode cX5_isFigure 6 = .ok (.iload_n 0, 1) := by decide +kernel
theorem dX5_isFigure_7 : decode cX5_isFigure 7 = .ok (.bipush 57, 2) := by decide +kernel
theorem dX5_isFigure_9 : decode cX5_isFigure 9 = .ok (.if_icmp .gt 7, 3) := by decide +kernel
theorem dX5_isFigure_12 : decode cX5_isFigure 12 = .ok (.iconst 1, 1) := by decide +kernel
theorem dX5_isFigure_13 : decode cX5_isFigure 13 = .ok (.goto 4, 3) := by decide +kernel
theorem dX5_isFigure_16 : decode cX5_isFigure 16 = .ok (.iconst 0, 1) := by decide +kernel
theorem dX5_isFigure_17 : decode cX5_isFigure 17 = .ok (.ireturn, 1) := by decide +kernel
theorem dX5_failAt_0 : decode cX5_failAt 0 = .ok (.aload_n 0, 1) := by decide +kernel
theorem dX5_failAt_1 : decode cX5_failAt 1 = .ok (.iload_n 1, 1) := by decide +kernel
theorem dX5_failAt_2 : decode cX5_failAt 2 = .ok (.putfield 22, 3) := by decide +kernel
theorem dX5_failAt_5 : decode cX5_failAt 5 = .ok (.aload_n 0, 1) := by decide +kernel
theorem dX5_failAt_6 : decode cX5_failAt 6 = .ok (.iload_n 2, 1) := by decide +kernel
theorem dX5_failAt_7 : decode cX5_failAt 7 = .ok (.putfield 122, 3) := by decide +kernel
theorem dX5_failAt_10 : decode cX5_failAt 10 = .ok (.iconst 0, 1) := by decide +kernel
theorem dX5_failAt_11 : decode cX5_failAt 11 = .ok (.ireturn, 1) := by decide +kernel
theorem dX6_init_0 : decode cX6_init 0 = .ok (.aload_n 0, 1) := by decide +kernel
theorem dX6_init_1 : decode cX6_init 1 = .ok (.invokespecial 3, 3) := by decide +kernel
theorem dX6_init_4 : decode cX6_init 4 = .ok (.aload_n 0, 1) := by decide +kernel
theorem dX6_init_5 : decode cX6_init 5 = .ok (.iconst 4, 1) := by decide +kernel
theorem dX6_init_6 : decode cX6_init 6 = .ok (.bipush 30, 2) := by decide +kernel
theorem dX6_init_8 : decode cX6_init 8 = .ok (.multianewarray 9 2, 4) := by decide +kernel
theorem dX6_init_12 : decode cX6_init 12 = .ok (.putfield 11, 3) := by decide +kernel
theorem dX6_init_15 : decode cX6_init 15 = .ok (.aload_n 0, 1) := by decide +kernel
theorem dX6_init_16 : decode cX6_init 16 = .ok (.iconst 3, 1) := by decide +kernel
theorem dX6_init_17 : decode cX6_init 17 = .ok (.newarray .int, 2) := by decide +kernel
theorem dX6_init_19 : decode cX6_init 19 = .ok (.putfield 16, 3) := by decide +kernel
theorem dX6_init_22 : decode cX6_init 22 = .ok (.aload_n 0, 1) := by decide +kernel
theorem dX6_init_23 : decode cX6_init 23 = .ok (.iconst 3, 1) := by decide +kernel
theorem dX6_init_24 : decode cX6_init 24 = .ok (.newarray .int, 2) := by decide +kernel
theorem dX6_init_26 : decode cX6_init 26 = .ok (.putfield 20, 3) := by decide +kernel
theorem dX6_init_29 : decode cX6_init 29 = .ok (.return_, 1) := by decide +kernel
theorem dX6_aimAt_0 : decode cX6_aimAt 0 = .ok (.aload_n 0, 1) := by decide +kernel
theorem dX6_aimAt_1 : decode cX6_aimAt 1 = .ok (.iload_n 1, 1) := by decide +kernel
theorem dX6_aimAt_2 : decode cX6_aimAt 2 = .ok (.putfield 23, 3) := by decide +kernel
theorem dX6_aimAt_5 : decode cX6_aimAt 5 = .ok (.aload_n 0, 1) := by decide +kernel
theorem dX6_aimAt_6 : decode cX6_aimAt 6 = .ok (.iload_n 1, 1) := by decide +kernel
theorem dX6_aimAt_7 : decode cX6_aimAt 7 = .ok (.iload_n 2, 1) := by decide +kernel
theorem dX6_aimAt_8 : decode cX6_aimAt 8 = .ok (.invokestatic 27, 3) := by decide +kernel
theorem dX6_aimAt_11 : decode cX6_aimAt 11 = .ok (.putfield 31, 3) := by decide +kernel
theorem dX6_aimAt_14 : decode cX6_aimAt 14 = .ok (.aload_n 0, 1) := by decide +kernel
theorem dX6_aimAt_15 : decode cX6_aimAt 15 = .ok (.iload_n 3, 1) := by decide +kernel
theorem dX6_aimAt_16 : decode cX6_aimAt 16 = .ok (.putfield 34, 3) := by decide +kernel
theorem dX6_aimAt_19 : decode cX6_aimAt 19 = .ok (.aload_n 0, 1) := by decide +kernel
theorem dX6_aimAt_20 : decode cX6_aimAt 20 = .ok (.iload_n 1, 1) := by decide +kernel
theorem dX6_aimAt_21 : decode cX6_aimAt 21 = .ok (.iload 4, 2) := by decide +kernel
theorem dX6_aimAt_23 : decode cX6_aimAt 23 = .ok (.invokestatic 27, 3) := by decide +kernel
theorem dX6_aimAt_26 : decode cX6_aimAt 26 = .ok (.putfield 37, 3) := by decide +kernel
theorem dX6_aimAt_29 : decode cX6_aimAt 29 = .ok (.aload_n 0, 1) := by decide +kernel
theorem dX6_aimAt_30 : decode cX6_aimAt 30 = .ok (.iload 5, 2) := by decide +kernel
theorem dX6_aimAt_32 : decode cX6_aimAt 32 = .ok (.putfield 40, 3) := by decide +kernel
theorem dX6_aimAt_35 : decode cX6_aimAt 35 = .ok (.return_, 1) := by decide +kernel
theorem dX6_findFewest_0 : decode cX6_findFewest 0 = .ok (.aload_n 2, 1) := by decide +kernel
theorem dX6_findFewest_1 : decode cX6_findFewest 1 = .ok (.getfield 43, 3) := by decide +kernel
theorem dX6_findFewest_4 : decode cX6_findFewest 4 = .ok (.aload_n 0, 1) := by decide +kernel
theorem dX6_findFewest_5 : decode cX6_findFewest 5 = .ok (.getfield 11, 3) := by decide +kernel
theorem dX6_findFewest_8 : decode cX6_findFewest 8 = .ok (.iconst 0, 1) := by decide +kernel
theorem dX6_findFewest_9 : decode cX6_findFewest 9 = .ok (.aaload, 1) := by decide +kernel
theorem dX6_findFewest_10 : decode cX6_findFewest 10 = .ok (.invokestatic 48, 3) := by decide +kernel
theorem dX6_findFewest_13 : decode cX6_findFewest 13 = .ok (.aload_n 0, 1) := by decide +kernel
theorem dX6_findFewest_14 : decode cX6_findFewest 14 = .ok (.aload_n 2, 1) := by decide +kernel
theorem dX6_findFewest_15 : decode cX6_findFewest 15 = .ok (.getfield 52, 3) := by decide +kernel
theorem dX6_findFewest_18 : decode cX6_findFewest 18 = .ok (.putfield 55, 3) := by decide +kernel
theorem dX6_findFewest_21 : decode cX6_findFewest 21 = .ok (.aload_n 0, 1) := by decide +kernel
theorem dX6_findFewest_22 : decode cX6_findFewest 22 = .ok (.iconst (-1), 1) := by decide +kernel
theorem dX6_findFewest_23 : decode cX6_findFewest 23 = .ok (.putfield 56, 3) := by decide +kernel
theorem dX6_findFewest_26 : decode cX6_findFewest 26 = .ok (.aload_n 0, 1) := by decide +kernel
theorem dX6_findFewest_27 : decode cX6_findFewest 27 = .ok (.iconst 0, 1) := by decide +kernel
theorem dX6_findFewest_28 : decode cX6_findFewest 28 = .ok (.putfield 59, 3) := by decide +kernel
theorem dX6_findFewest_31 : decode cX6_findFewest 31 = .ok (.iconst 0, 1) := by decide +kernel
theorem dX6_findFewest_32 : decode cX6_findFewest 32 = .ok (.istore_n 3, 1) := by decide +kernel
theorem dX6_findFewest_33 : decode cX6_findFewest 33 = .ok (.iload_n 3, 1) := by decide +kernel
theorem dX6_findFewest_34 : decode cX6_findFewest 34 = .ok (.iconst 3, 1) := by decide +kernel
theorem dX6_findFewest_35 : decode cX6_findFewest 35 = .ok (.if_icmp .gt 39, 3) := by decide +kernel
theorem dX6_findFewest_38 : decode cX6_findFewest 38 = .ok (.aload_n 0, 1) := by decide +kernel
theorem dX6_findFewest_39 : decode cX6_findFewest 39 = .ok (.getfield 59, 3) := by decide +kernel
theorem dX6_findFewest_42 : decode cX6_findFewest 42 = .ok (.ifCond .ne 32, 3) := by decide +kernel
theorem dX6_findFewest_45 : decode cX6_findFewest 45 = .ok (.aload_n 0, 1) := by decide +kernel
theorem dX6_findFewest_46 : decode cX6_findFewest 46 = .ok (.aload_n 1, 1) := by decide +kernel
theorem dX6_findFewest_47 : decode cX6_findFewest 47 = .ok (.iconst 0, 1) := by decide +kernel
theorem dX6_findFewest_48 : decode cX6_findFewest 48 = .ok (.iload_n 3, 1) := by decide +kernel
theorem dX6_findFewest_49 : decode cX6_findFewest 49 = .ok (.invokevirtual 62, 3) := by decide +kernel
theorem dX6_findFewest_52 : decode cX6_findFewest 52 = .ok (.aload_n 0, 1) := by decide +kernel
theorem dX6_findFewest_53 : decode cX6_findFewest 53 = .ok (.aload_n 0, 1) := by decide +kernel
theorem dX6_findFewest_54 : decode cX6_findFewest 54 = .ok (.getfield 59, 3) := by decide +kernel
theorem dX6_findFewest_57 : decode cX6_findFewest 57 = .ok (.ifCond .le 7, 3) := by decide +kernel
theorem dX6_findFewest_60 : decode cX6_findFewest 60 = .ok (.iload_n 3, 1) := by decide +kernel
theorem dX6_findFewest_61 : decode cX6_findFewest 61 = .ok (.goto 4, 3) := by decide +kernel
theorem dX6_findFewest_64 : decode cX6_findFewest 64 = .ok (.iconst (-1), 1) := by decide +kernel
theorem dX6_findFewest_65 : decode cX6_findFewest 65 = .ok (.putfield 56, 3) := by decide +kernel
theorem dX6_findFewest_68 : decode cX6_findFewest 68 = .ok (.iinc 3 1, 3) := by decide +kernel
theorem dX6_findFewest_71 : decode cX6_findFewest 71 = .ok (.goto (-38), 3) := by decide +kernel
theorem dX6_findFewest_74 : decode cX6_findFewest 74 = .ok (.return_, 1) := by decide +kernel
theorem dX6_goOn_0 : decode cX6_goOn 0 = .ok (.iload_n 2, 1) := by decide +kernel
theorem dX6_goOn_1 : decode cX6_goOn 1 = .ok (.iload_n 3, 1) := by decide +kernel
theorem dX6_goOn_2 : decode cX6_goOn 2 = .ok (.if_icmp .ge 8, 3) := by decide +kernel
theorem dX6_goOn_5 : decode cX6_goOn 5 = .ok (.iload_n 2, 1) := by decide +kernel
theorem dX6_goOn_6 : decode cX6_goOn 6 = .ok (.iconst 3, 1) := by decide +kernel
theorem dX6_goOn_7 : decode cX6_goOn 7 = .ok (.if_icmp .lt 9, 3) := by decide +kernel
theorem dX6_goOn_10 : decode cX6_goOn 10 = .ok (.aload_n 0, 1) := by decide +kernel
theorem dX6_goOn_11 : decode cX6_goOn 11 = .ok (.iload_n 2, 1) := by decide +kernel
theorem dX6_goOn_12 : decode cX6_goOn 12 = .ok (.invokevirtual 66, 3) := by decide +kernel
theorem dX6_goOn_15 : decode cX6_goOn 15 = .ok (.return_, 1) := by decide +kernel
theorem dX6_goOn_16 : decode cX6_goOn 16 = .ok (.iconst 0, 1) := by decide +kernel
theorem dX6_goOn_17 : decode cX6_goOn 17 = .ok (.istore 4, 2) := by decide +kernel
theorem dX6_goOn_19 : decode cX6_goOn 19 = .ok (.iload 4, 2) := by decide +kernel
theorem dX6_goOn_21 : decode cX6_goOn 21 = .ok (.aload_n 1, 1) := by decide +kernel
theorem dX6_goOn_22 : decode cX6_goOn 22 = .ok (.getfield 70, 3) := by decide +kernel
theorem dX6_goOn_25 : decode cX6_goOn 25 = .ok (.if_icmp .ge 113, 3) := by decide +kernel
theorem dX6_goOn_28 : decode cX6_goOn 28 = .ok (.iload 4, 2) := by decide +kernel
theorem dX6_goOn_30 : decode cX6_goOn 30 = .ok (.iconst 1, 1) := by decide +kernel
theorem dX6_goOn_31 : decode cX6_goOn 31 = .ok (.iadd, 1) := by decide +kernel
theorem dX6_goOn_32 : decode cX6_goOn 32 = .ok (.istore 5, 2) := by decide +kernel
theorem dX6_goOn_34 : decode cX6_goOn 34 = .ok (.iload 5, 2) := by decide +kernel
theorem dX6_goOn_36 : decode cX6_goOn 36 = .ok (.aload_n 1, 1) := by decide +kernel
theorem dX6_goOn_37 : decode cX6_goOn 37 = .ok (.getfield 70, 3) := by decide +kernel
theorem dX6_goOn_40 : decode cX6_goOn 40 = .ok (.if_icmp .ge 92, 3) := by decide +kernel
theorem dX6_goOn_43 : decode cX6_goOn 43 = .ok (.aload_n 0, 1) := by decide +kernel
theorem dX6_goOn_44 : decode cX6_goOn 44 = .ok (.iload 4, 2) := by decide +kernel
theorem dX6_goOn_46 : decode cX6_goOn 46 = .ok (.iload 5, 2) := by decide +kernel
theorem dX6_goOn_48 : decode cX6_goOn 48 = .ok (.iload_n 2, 1) := by decide +kernel
theorem dX6_goOn_49 : decode cX6_goOn 49 = .ok (.iconst 1, 1) := by decide +kernel
theorem dX6_goOn_50 : decode cX6_goOn 50 = .ok (.iadd, 1) := by decide +kernel
theorem dX6_goOn_51 : decode cX6_goOn 51 = .ok (.iload_n 3, 1) := by decide +kernel
theorem dX6_goOn_52 : decode cX6_goOn 52 = .ok (.if_icmp .ne 7, 3) := by decide +kernel
theorem dX6_goOn_55 : decode cX6_goOn 55 = .ok (.iconst 1, 1) := by decide +kernel
theorem dX6_goOn_56 : decode cX6_goOn 56 = .ok (.goto 4, 3) := by decide +kernel
theorem dX6_goOn_59 : decode cX6_goOn 59 = .ok (.iconst 0, 1) := by decide +kernel
theorem dX6_goOn_60 : decode cX6_goOn 60 = .ok (.invokevirtual 75, 3) := by decide +kernel
theorem dX6_goOn_63 : decode cX6_goOn 63 = .ok (.ifCond .eq 63, 3) := by decide +kernel
theorem dX6_goOn_66 : decode cX6_goOn 66 = .ok (.aload_n 0, 1) := by decide +kernel
theorem dX6_goOn_67 : decode cX6_goOn 67 = .ok (.getfield 16, 3) := by decide +kernel
theorem dX6_goOn_70 : decode cX6_goOn 70 = .ok (.iload_n 2, 1) := by decide +kernel
theorem dX6_goOn_71 : decode cX6_goOn 71 = .ok (.bipush 10, 2) := by decide +kernel
theorem dX6_goOn_73 : decode cX6_goOn 73 = .ok (.iload 4, 2) := by decide +kernel
theorem dX6_goOn_75 : decode cX6_goOn 75 = .ok (.imul, 1) := by decide +kernel
theorem dX6_goOn_76 : decode cX6_goOn 76 = .ok (.iload 5, 2) := by decide +kernel
theorem dX6_goOn_78 : decode cX6_goOn 78 = .ok (.iadd, 1) := by decide +kernel
theorem dX6_goOn_79 : decode cX6_goOn 79 = .ok (.iastore, 1) := by decide +kernel
theorem dX6_goOn_80 : decode cX6_goOn 80 = .ok (.aload_n 0, 1) := by decide +kernel
theorem dX6_goOn_81 : decode cX6_goOn 81 = .ok (.getfield 11, 3) := by decide +kernel
theorem dX6_goOn_84 : decode cX6_goOn 84 = .ok (.iload_n 2, 1) := by decide +kernel
theorem dX6_goOn_85 : decode cX6_goOn 85 = .ok (.aaload, 1) := by decide +kernel
theorem dX6_goOn_86 : decode cX6_goOn 86 = .ok (.aload_n 0, 1) := by decide +kernel
theorem dX6_goOn_87 : decode cX6_goOn 87 = .ok (.getfield 11, 3) := by decide +kernel
theorem dX6_goOn_90 : decode cX6_goOn 90 = .ok (.iload_n 2, 1) := by decide +kernel
theorem dX6_goOn_91 : decode cX6_goOn 91 = .ok (.iconst 1, 1) := by decide +kernel
theorem dX6_goOn_92 : decode cX6_goOn 92 = .ok (.iadd, 1) := by decide +kernel
theorem dX6_goOn_93 : decode cX6_goOn 93 = .ok (.aaload, 1) := by decide +kernel
theorem dX6_goOn_94 : decode cX6_goOn 94 = .ok (.invokestatic 48, 3) := by decide +kernel
theorem dX6_goOn_97 : decode cX6_goOn 97 = .ok (.aload_n 1, 1) := by decide +kernel
theorem dX6_goOn_98 : decode cX6_goOn 98 = .ok (.aload_n 0, 1) := by decide +kernel
theorem dX6_goOn_99 : decode cX6_goOn 99 = .ok (.getfield 11, 3) := by decide +kernel
theorem dX6_goOn_102 : decode cX6_goOn 102 = .ok (.iload_n 2, 1) := by decide +kernel
theorem dX6_goOn_103 : decode cX6_goOn 103 = .ok (.iconst 1, 1) := by decide +kernel
theorem dX6_goOn_104 : decode cX6_goOn 104 = .ok (.iadd, 1) := by decide +kernel
theorem dX6_goOn_105 : decode cX6_goOn 105 = .ok (.aaload, 1) := by decide +kernel
theorem dX6_goOn_106 : decode cX6_goOn 106 = .ok (.aload_n 0, 1) := by decide +kernel
theorem dX6_goOn_107 : decode cX6_goOn 107 = .ok (.getfield 55, 3) := by decide +kernel
theorem dX6_goOn_110 : decode cX6_goOn 110 = .ok (.iload 4, 2) := by decide +kernel
theorem dX6_goOn_112 : decode cX6_goOn 112 = .ok (.iload 5, 2) := by decide +kernel
theorem dX6_goOn_114 : decode cX6_goOn 114 = .ok (.invokevirtual 79, 3) := by decide +kernel
theorem dX6_goOn_117 : decode cX6_goOn 117 = .ok (.aload_n 0, 1) := by decide +kernel
theorem dX6_goOn_118 : decode cX6_goOn 118 = .ok (.aload_n 1, 1) := by decide +kernel
theorem dX6_goOn_119 : decode cX6_goOn 119 = .ok (.iload_n 2, 1) := by decide +kernel
theorem dX6_goOn_120 : decode cX6_goOn 120 = .ok (.iconst 1, 1) := by decide +kernel
theorem dX6_goOn_121 : decode cX6_goOn 121 = .ok (.iadd, 1) := by decide +kernel
theorem dX6_goOn_122 : decode cX6_goOn 122 = .ok (.iload_n 3, 1) := by decide +kernel
theorem dX6_goOn_123 : decode cX6_goOn 123 = .ok (.invokevirtual 62, 3) := by decide +kernel
theorem dX6_goOn_126 : decode cX6_goOn 126 = .ok (.iinc 5 1, 3) := by decide +kernel
theorem dX6_goOn_129 : decode cX6_goOn 129 = .ok (.goto (-95), 3) := by decide +kernel
theorem dX6_goOn_132 : decode cX6_goOn 132 = .ok (.iinc 4 1, 3) := by decide +kernel
theorem dX6_goOn_135 : decode cX6_goOn 135 = .ok (.goto (-116), 3) := by decide +kernel
theorem dX6_goOn_138 : decode cX6_goOn 138 = .ok (.return_, 1) := by decide +kernel
theorem dX6_canServe_0 : decode cX6_canServe 0 = .ok (.aload_n 0, 1) := by decide +kernel
theorem dX6_canServe_1 : decode cX6_canServe 1 = .ok (.getfield 55, 3) := by decide +kernel
theorem dX6_canServe_4 : decode cX6_canServe 4 = .ok (.iload_n 1, 1) := by decide +kernel
theorem dX6_canServe_5 : decode cX6_canServe 5 = .ok (.invokestatic 83, 3) := by decide +kernel
theorem dX6_canServe_8 : decode cX6_canServe 8 = .ok (.ifCond .ne 14, 3) := by decide +kernel
theorem dX6_canServe_11 : decode cX6_canServe 11 = .ok (.aload_n 0, 1) := by decide +kernel
theorem dX6_canServe_12 : decode cX6_canServe 12 = .ok (.getfield 55, 3) := by decide +kernel
theorem dX6_canServe_15 : decode cX6_canServe 15 = .ok (.iload_n 2, 1) := by decide +kernel
theorem dX6_canServe_16 : decode cX6_canServe 16 = .ok (.invokestatic 83, 3) := by decide +kernel
theorem dX6_canServe_19 : decode cX6_canServe 19 = .ok (.ifCond .eq 5, 3) := by decide +kernel
theorem dX6_canServe_22 : decode cX6_canServe 22 = .ok (.iconst 0, 1) := by decide +kernel
theorem dX6_canServe_23 : decode cX6_canServe 23 = .ok (.ireturn, 1) := by decide +kernel
theorem dX6_canServe_24 : decode cX6_canServe 24 = .ok (.iload_n 3, 1) := by decide +kernel
theorem dX6_canServe_25 : decode cX6_canServe 25 = .ok (.ifCond .eq 19, 3) := by decide +kernel
theorem dX6_canServe_28 : decode cX6_canServe 28 = .ok (.iload_n 1, 1) := by decide +kernel
theorem dX6_canServe_29 : decode cX6_canServe 29 = .ok (.aload_n 0, 1) := by decide +kernel
theorem dX6_canServe_30 : decode cX6_canServe 30 = .ok (.getfield 23, 3) := by decide +kernel
theorem dX6_canServe_33 : decode cX6_canServe 33 = .ok (.if_icmp .eq 11, 3) := by decide +kernel
theorem dX6_canServe_36 : decode cX6_canServe 36 = .ok (.iload_n 2, 1) := by decide +kernel
theorem dX6_canServe_37 : decode cX6_canServe 37 = .ok (.aload_n 0, 1) := by decide +kernel
theorem dX6_canServe_38 : decode cX6_canServe 38 = .ok (.getfield 23, 3) := by decide +kernel
theorem dX6_canServe_41 : decode cX6_canServe 41 = .ok (.if_icmp .ne 7, 3) := by decide +kernel
theorem dX6_canServe_44 : decode cX6_canServe 44 = .ok (.iconst 1, 1) := by decide +kernel
theorem dX6_canServe_45 : decode cX6_canServe 45 = .ok (.goto 4, 3) := by decide +kernel
theorem dX6_canServe_48 : decode cX6_canServe 48 = .ok (.iconst 0, 1) := by decide +kernel
theorem dX6_canServe_49 : decode cX6_canServe 49 = .ok (.ireturn, 1) := by decide +kernel
theorem dX6_countIfFits_0 : decode cX6_countIfFits 0 = .ok (.aload_n 0, 1) := by decide +kernel
theorem dX6_countIfFits_1 : decode cX6_countIfFits 1 = .ok (.getfield 11, 3) := by decide +kernel
theorem dX6_countIfFits_4 : decode cX6_countIfFits 4 = .ok (.iload_n 1, 1) := by decide +kernel
theorem dX6_countIfFits_5 : decode cX6_countIfFits 5 = .ok (.aaload, 1) := by decide +kernel
theorem dX6_countIfFits_6 : decode cX6_countIfFits 6 = .ok (.aload_n 0, 1) := by decide +kernel
theorem dX6_countIfFits_7 : decode cX6_countIfFits 7 = .ok (.getfield 31, 3) := by decide +kernel
theorem dX6_countIfFits_10 : decode cX6_countIfFits 10 = .ok (.iaload, 1) := by decide +kernel
theorem dX6_countIfFits_11 : decode cX6_countIfFits 11 = .ok (.aload_n 0, 1) := by decide +kernel
theorem dX6_countIfFits_12 : decode cX6_countIfFits 12 = .ok (.getfield 34, 3) := by decide +kernel
theorem dX6_countIfFits_15 : decode cX6_countIfFits 15 = .ok (.if_icmp .ne 21, 3) := by decide +kernel
theorem dX6_countIfFits_18 : decode cX6_countIfFits 18 = .ok (.aload_n 0, 1) := by decide +kernel
theorem dX6_countIfFits_19 : decode cX6_countIfFits 19 = .ok (.getfield 11, 3) := by decide +kernel
theorem dX6_countIfFits_22 : decode cX6_countIfFits 22 = .ok (.iload_n 1, 1) := by decide +kernel
theorem dX6_countIfFits_23 : decode cX6_countIfFits 23 = .ok (.aaload, 1) := by decide +kernel
theorem dX6_countIfFits_24 : decode cX6_countIfFits 24 = .ok (.aload_n 0, 1) := by decide +kernel
theorem dX6_countIfFits_25 : decode cX6_countIfFits 25 = .ok (.getfield 37, 3) := by decide +kernel
theorem dX6_countIfFits_28 : decode cX6_countIfFits 28 = .ok (.iaload, 1) := by decide +kernel
theorem dX6_countIfFits_29 : decode cX6_countIfFits 29 = .ok (.aload_n 0, 1) := by decide +kernel
theorem dX6_countIfFits_30 : decode cX6_countIfFits 30 = .ok (.getfield 40, 3) := by decide +kernel
theorem dX6_countIfFits_33 : decode cX6_countIfFits 33 = .ok (.if_icmp .eq 4, 3) := by decide +kernel
theorem dX6_countIfFits_36 : decode cX6_countIfFits 36 = .ok (.return_, 1) := by decide +kernel
theorem dX6_countIfFits_37 : decode cX6_countIfFits 37 = .ok (.aload_n 0, 1) := by decide +kernel
theorem dX6_countIfFits_38 : decode cX6_countIfFits 38 = .ok (.getfield 59, 3) := by decide +kernel
theorem dX6_countIfFits_41 : decode cX6_countIfFits 41 = .ok (.ifCond .ne 17, 3) := by decide +kernel
theorem dX6_countIfFits_44 : decode cX6_countIfFits 44 = .ok (.aload_n 0, 1) := by decide +kernel
theorem dX6_countIfFits_45 : decode cX6_countIfFits 45 = .ok (.getfield 16, 3) := by decide +kernel
theorem dX6_countIfFits_48 : decode cX6_countIfFits 48 = .ok (.iconst 0, 1) := by decide +kernel
theorem dX6_countIfFits_49 : decode cX6_countIfFits 49 = .ok (.aload_n 0, 1) := by decide +kernel
theorem dX6_countIfFits_50 : decode cX6_countIfFits 50 = .ok (.getfield 20, 3) := by decide +kernel
theorem dX6_countIfFits_53 : decode cX6_countIfFits 53 = .ok (.iconst 0, 1) := by decide +kernel
theorem dX6_countIfFits_54 : decode cX6_countIfFits 54 = .ok (.iconst 3, 1) := by decide +kernel
theorem dX6_countIfFits_55 : decode cX6_countIfFits 55 = .ok (.invokestatic 87, 3) := by decide +kernel
theorem dX6_countIfFits_58 : decode cX6_countIfFits 58 = .ok (.aload_n 0, 1) := by decide +kernel
theorem dX6_countIfFits_59 : decode cX6_countIfFits 59 = .ok (.dup, 1) := by decide +kernel
theorem dX6_countIfFits_60 : decode cX6_countIfFits 60 = .ok (.getfield 59, 3) := by decide +kernel
theorem dX6_countIfFits_63 : decode cX6_countIfFits 63 = .ok (.iconst 1, 1) := by decide +kernel
theorem dX6_countIfFits_64 : decode cX6_countIfFits 64 = .ok (.iadd, 1) := by decide +kernel
theorem dX6_countIfFits_65 : decode cX6_countIfFits 65 = .ok (.putfield 59, 3) := by decide +kernel
theorem dX6_countIfFits_68 : decode cX6_countIfFits 68 = .ok (.return_, 1) := by decide +kernel
theorem dX7_init_0 : decode cX7_init 0 = .ok (.aload_n 0, 1) := by decide +kernel
theorem dX7_init_1 : decode cX7_init 1 = .ok (.invokespecial 3, 3) := by decide +kernel
theorem dX7_init_4 : decode cX7_init 4 = .ok (.aload_n 0, 1) := by decide +kernel
theorem dX7_init_5 : decode cX7_init 5 = .ok (.bipush 30, 2) := by decide +kernel
theorem dX7_init_7 : decode cX7_init 7 = .ok (.newarray .int, 2) := by decide +kernel
theorem dX7_init_9 : decode cX7_init 9 = .ok (.putfield 9, 3) := by decide +kernel
theorem dX7_init_12 : decode cX7_init 12 = .ok (.return_, 1) := by decide +kernel
theorem dX7_become_0 : decode cX7_become 0 = .ok (.aload_n 1, 1) := by decide +kernel
theorem dX7_become_1 : decode cX7_become 1 = .ok (.getfield 9, 3) := by decide +kernel
theorem dX7_become_4 : decode cX7_become 4 = .ok (.aload_n 0, 1) := by decide +kernel
theorem dX7_become_5 : decode cX7_become 5 = .ok (.getfield 9, 3) := by decide +kernel
theorem dX7_become_8 : decode cX7_become 8 = .ok (.invokestatic 15, 3) := by decide +kernel
theorem dX7_become_11 : decode cX7_become 11 = .ok (.aload_n 0, 1) := by decide +kernel
theorem dX7_become_12 : decode cX7_become 12 = .ok (.aload_n 1, 1) := by decide +kernel
theorem dX7_become_13 : decode cX7_become 13 = .ok (.getfield 19, 3) := by decide +kernel
theorem dX7_become_16 : decode cX7_become 16 = .ok (.putfield 19, 3) := by decide +kernel
theorem dX7_become_19 : decode cX7_become 19 = .ok (.aload_n 0, 1) := by decide +kernel
theorem dX7_become_20 : decode cX7_become 20 = .ok (.aload_n 1, 1) := by decide +kernel
theorem dX7_become_21 : decode cX7_become 21 = .ok (.getfield 23, 3) := by decide +kernel
theorem dX7_become_24 : decode cX7_become 24 = .ok (.putfield 23, 3) := by decide +kernel
theorem dX7_become_27 : decode cX7_become 27 = .ok (.aload_n 0, 1) := by decide +kernel
theorem dX7_become_28 : decode cX7_become 28 = .ok (.aload_n 1, 1) := by decide +kernel
theorem dX7_become_29 : decode cX7_become 29 = .ok (.getfield 26, 3) := by decide +kernel
theorem dX7_become_32 : decode cX7_become 32 = .ok (.putfield 26, 3) := by decide +kernel
theorem dX7_become_35 : decode cX7_become 35 = .ok (.return_, 1) := by decide +kernel
theorem dJ6_bitCount_0f7a4_0 : decode cJ6_bitCount_0f7a4 0 = .ok (.iload_n 0, 1) := by decide +kernel
theorem dJ6_bitCount_0f7a4_1 : decode cJ6_bitCount_0f7a4 1 = .ok (.iload_n 0, 1) := by decide +kernel
theorem dJ6_bitCount_0f7a4_2 : decode cJ6_bitCount_0f7a4 2 = .ok (.iconst 1, 1) := by decide +kernel
theorem dJ6_bitCount_0f7a4_3 : decode cJ6_bitCount_0f7a4 3 = .ok (.iushr, 1) := by decide +kernel
theorem dJ6_bitCount_0f7a4_4 : decode cJ6_bitCount_0f7a4 4 = .ok (.ldc_w 265, 3) := by decide +kernel
theorem dJ6_bitCount_0f7a4_7 : decode cJ6_bitCount_0f7a4 7 = .ok (.iand, 1) := by decide +kernel
theorem dJ6_bitCount_0f7a4_8 : decode cJ6_bitCount_0f7a4 8 = .ok (.isub, 1) := by decide +kernel
theorem dJ6_bitCount_0f7a4_9 : decode cJ6_bitCount_0f7a4 9 = .ok (.istore_n 0, 1) := by decide +kernel
theorem dJ6_bitCount_0f7a4_10 : decode cJ6_bitCount_0f7a4 10 = .ok (.iload_n 0, 1) := by decide +kernel
theorem dJ6_bitCount_0f7a4_11 : decode cJ6_bitCount_0f7a4 11 = .ok (.ldc_w 266, 3) := by decide +kernel
theorem dJ6_bitCount_0f7a4_14 : decode cJ6_bitCount_0f7a4 14 = .ok (.iand, 1) := by decide +kernel
theorem dJ6_bitCount_0f7a4_15 : decode cJ6_bitCount_0f7a4 15 = .ok (.iload_n 0, 1) := by decide +kernel
theorem dJ6_bitCount_0f7a4_16 : decode cJ6_bitCount_0f7a4 16 = .ok (.iconst 2, 1) := by decide +kernel
theorem dJ6_bitCount_0f7a4_17 : decode cJ6_bitCount_0f7a4 17 = .ok (.iushr, 1) := by decide +kernel
theorem dJ6_bitCount_0f7a4_18 : decode cJ6_bitCount_0f7a4 18 = .ok (.ldc_w 266, 3) := by decide +kernel
theorem dJ6_bitCount_0f7a4_21 : decode cJ6_bitCount_0f7a4 21 = .ok (.iand, 1) := by decide +kernel
theorem dJ6_bitCount_0f7a4_22 : decode cJ6_bitCount_0f7a4 22 = .ok (.iadd, 1) := by decide +kernel
theorem dJ6_bitCount_0f7a4_23 : decode cJ6_bitCount_0f7a4 23 = .ok (.istore_n 0, 1) := by decide +kernel
theorem dJ6_bitCount_0f7a4_24 : decode cJ6_bitCount_0f7a4 24 = .ok (.iload_n 0, 1) := by decide +kernel
theorem dJ6_bitCount_0f7a4_25 : decode cJ6_bitCount_0f7a4 25 = .ok (.iload_n 0, 1) := by decide +kernel
theorem dJ6_bitCount_0f7a4_26 : decode cJ6_bitCount_0f7a4 26 = .ok (.iconst 4, 1) := by decide +kernel
theorem dJ6_bitCount_0f7a4_27 : decode cJ6_bitCount_0f7a4 27 = .ok (.iushr, 1) := by decide +kernel
theorem dJ6_bitCount_0f7a4_28 : decode cJ6_bitCount_0f7a4 28 = .ok (.iadd, 1) := by decide +kernel
theorem dJ6_bitCount_0f7a4_29 : decode cJ6_bitCount_0f7a4 29 = .ok (.ldc_w 267, 3) := by decide +kernel
theorem dJ6_bitCount_0f7a4_32 : decode cJ6_bitCount_0f7a4 32 = .ok (.iand, 1) := by decide +kernel
theorem dJ6_bitCount_0f7a4_33 : decode cJ6_bitCount_0f7a4 33 = .ok (.istore_n 0, 1) := by decide +kernel
theorem dJ6_bitCount_0f7a4_34 : decode cJ6_bitCount_0f7a4 34 = .ok (.iload_n 0, 1) := by decide +kernel
theorem dJ6_bitCount_0f7a4_35 : decode cJ6_bitCount_0f7a4 35 = .ok (.iload_n 0, 1) := by decide +kernel
theorem dJ6_bitCount_0f7a4_36 : decode cJ6_bitCount_0f7a4 36 = .ok (.bipush 8, 2) := by decide +kernel
theorem dJ6_bitCount_0f7a4_38 : decode cJ6_bitCount_0f7a4 38 = .ok (.iushr, 1) := by decide +kernel
theorem dJ6_bitCount_0f7a4_39 : decode cJ6_bitCount_0f7a4 39 = .ok (.iadd, 1) := by decide +kernel
theorem dJ6_bitCount_0f7a4_40 : decode cJ6_bitCount_0f7a4 40 = .ok (.istore_n 0, 1) := by decide +kernel
theorem dJ6_bitCount_0f7a4_41 : decode cJ6_bitCount_0f7a4 41 = .ok (.iload_n 0, 1) := by decide +kernel
theorem dJ6_bitCount_0f7a4_42 : decode cJ6_bitCount_0f7a4 42 = .ok (.iload_n 0, 1) := by decide +kernel
theorem dJ6_bitCount_0f7a4_43 : decode cJ6_bitCount_0f7a4 43 = .ok (.bipush 16, 2) := by decide +kernel
theorem dJ6_bitCount_0f7a4_45 : decode cJ6_bitCount_0f7a4 45 = .ok (.iushr, 1) := by decide +kernel
theorem dJ6_bitCount_0f7a4_46 : decode cJ6_bitCount_0f7a4 46 = .ok (.iadd, 1) := by decide +kernel
theorem dJ6_bitCount_0f7a4_47 : decode cJ6_bitCount_0f7a4 47 = .ok (.istore_n 0, 1) := by decide +kernel
theorem dJ6_bitCount_0f7a4_48 : decode cJ6_bitCount_0f7a4 48 = .ok (.iload_n 0, 1) := by decide +kernel
theorem dJ6_bitCount_0f7a4_49 : decode cJ6_bitCount_0f7a4 49 = .ok (.bipush 63, 2) := by decide +kernel
theorem dJ6_bitCount_0f7a4_51 : decode cJ6_bitCount_0f7a4 51 = .ok (.iand, 1) := by decide +kernel
theorem dJ6_bitCount_0f7a4_52 : decode cJ6_bitCount_0f7a4 52 = .ok (.ireturn, 1) := by decide +kernel
theorem dJ9_max_7cf53_0 : decode cJ9_max_7cf53 0 = .ok (.iload_n 0, 1) := by decide +kernel
theorem dJ9_max_7cf53_1 : decode cJ9_max_7cf53 1 = .ok (.iload_n 1, 1) := by decide +kernel
theorem dJ9_max_7cf53_2 : decode cJ9_max_7cf53 2 = .ok (.if_icmp .lt 7, 3) := by decide +kernel
theorem dJ9_max_7cf53_5 : decode cJ9_max_7cf53 5 = .ok (.iload_n 0, 1) := by decide +kernel
theorem dJ9_max_7cf53_6 : decode cJ9_max_7cf53 6 = .ok (.goto 4, 3) := by decide +kernel
theorem dJ9_max_7cf53_9 : decode cJ9_max_7cf53 9 = .ok (.iload_n 1, 1) := by decide +kernel
theorem dJ9_max_7cf53_10 : decode cJ9_max_7cf53 10 = .ok (.ireturn, 1) := by decide +kernel
theorem dJ9_min_7cf53_0 : decode cJ9_min_7cf53 0 = .ok (.iload_n 0, 1) := by decide +kernel
theorem dJ9_min_7cf53_1 : decode cJ9_min_7cf53 1 = .ok (.iload_n 1, 1) := by decide +kernel
theorem dJ9_min_7cf53_2 : decode cJ9_min_7cf53 2 = .ok (.if_icmp .gt 7, 3) := by decide +kernel
theorem dJ9_min_7cf53_5 : decode cJ9_min_7cf53 5 = .ok (.iload_n 0, 1) := by decide +kernel
theorem dJ9_min_7cf53_6 : decode cJ9_min_7cf53 6 = .ok (.goto 4, 3) := by decide +kernel
theorem dJ9_min_7cf53_9 : decode cJ9_min_7cf53 9 = .ok (.iload_n 1, 1) := by decide +kernel
theorem dJ9_min_7cf53_10 : decode cJ9_min_7cf53 10 = .ok (.ireturn, 1) := by decide +kernel
