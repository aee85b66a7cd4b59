/-! how the bytes of each method read -/
theorem dX0_init_0 : decode cX0_init 0 = .ok (.aload_n 0, 1) := by decide +kernel
theorem dX0_init_1 : decode cX0_init 1 = .ok (.invokespecial 7, 3) := by decide +kernel
theorem dX0_init_4 : decode cX0_init 4 = .ok (.aload_n 0, 1) := by decide +kernel
theorem dX0_init_5 : decode cX0_init 5 = .ok (.sipush 360, 3) := by decide +kernel
theorem dX0_init_8 : decode cX0_init 8 = .ok (.newarray .int, 2) := by decide +kernel
theorem dX0_init_10 : decode cX0_init 10 = .ok (.putfield 15, 3) := by decide +kernel
theorem dX0_init_13 : decode cX0_init 13 = .ok (.aload_n 0, 1) := by decide +kernel
theorem dX0_init_14 : decode cX0_init 14 = .ok (.sipush 360, 3) := by decide +kernel
theorem dX0_init_17 : decode cX0_init 17 = .ok (.newarray .int, 2) := by decide +kernel
theorem dX0_init_19 : decode cX0_init 19 = .ok (.putfield 19, 3) := by decide +kernel
theorem dX0_init_22 : decode cX0_init 22 = .ok (.aload_n 0, 1) := by decide +kernel
theorem dX0_init_23 : decode cX0_init 23 = .ok (.sipush 360, 3) := by decide +kernel
theorem dX0_init_26 : decode cX0_init 26 = .ok (.newarray .int, 2) := by decide +kernel
theorem dX0_init_28 : decode cX0_init 28 = .ok (.putfield 22, 3) := by decide +kernel
theorem dX0_init_31 : decode cX0_init 31 = .ok (.aload_n 0, 1) := by decide +kernel
theorem dX0_init_32 : decode cX0_init 32 = .ok (.sipush 361, 3) := by decide +kernel
theorem dX0_init_35 : decode cX0_init 35 = .ok (.newarray .int, 2) := by decide +kernel
theorem dX0_init_37 : decode cX0_init 37 = .ok (.putfield 25, 3) := by decide +kernel
theorem dX0_init_40 : decode cX0_init 40 = .ok (.aload_n 0, 1) := by decide +kernel
theorem dX0_init_41 : decode cX0_init 41 = .ok (.sipush 360, 3) := by decide +kernel
theorem dX0_init_44 : decode cX0_init 44 = .ok (.newarray .int, 2) := by decide +kernel
theorem dX0_init_46 : decode cX0_init 46 = .ok (.putfield 28, 3) := by decide +kernel
theorem dX0_init_49 : decode cX0_init 49 = .ok (.aload_n 0, 1) := by decide +kernel
theorem dX0_init_50 : decode cX0_init 50 = .ok (.sipush 360, 3) := by decide +kernel
theorem dX0_init_53 : decode cX0_init 53 = .ok (.newarray .int, 2) := by decide +kernel
theorem dX0_init_55 : decode cX0_init 55 = .ok (.putfield 31, 3) := by decide +kernel
theorem dX0_init_58 : decode cX0_init 58 = .ok (.aload_n 0, 1) := by decide +kernel
theorem dX0_init_59 : decode cX0_init 59 = .ok (.sipush 360, 3) := by decide +kernel
theorem dX0_init_62 : decode cX0_init 62 = .ok (.newarray .int, 2) := by decide +kernel
theorem dX0_init_64 : decode cX0_init 64 = .ok (.putfield 34, 3) := by decide +kernel
theorem dX0_init_67 : decode cX0_init 67 = .ok (.aload_n 0, 1) := by decide +kernel
theorem dX0_init_68 : decode cX0_init 68 = .ok (.sipush 360, 3) := by decide +kernel
theorem dX0_init_71 : decode cX0_init 71 = .ok (.newarray .int, 2) := by decide +kernel
theorem dX0_init_73 : decode cX0_init 73 = .ok (.putfield 37, 3) := by decide +kernel
theorem dX0_init_76 : decode cX0_init 76 = .ok (.aload_n 0, 1) := by decide +kernel
theorem dX0_init_77 : decode cX0_init 77 = .ok (.sipush 360, 3) := by decide +kernel
theorem dX0_init_80 : decode cX0_init 80 = .ok (.newarray .int, 2) := by decide +kernel
theorem dX0_init_82 : decode cX0_init 82 = .ok (.putfield 40, 3) := by decide +kernel
theorem dX0_init_85 : decode cX0_init 85 = .ok (.aload_n 0, 1) := by decide +kernel
theorem dX0_init_86 : decode cX0_init 86 = .ok (.sipush 360, 3) := by decide +kernel
theorem dX0_init_89 : decode cX0_init 89 = .ok (.newarray .int, 2) := by decide +kernel
theorem dX0_init_91 : decode cX0_init 91 = .ok (.putfield 43, 3) := by decide +kernel
theorem dX0_init_94 : decode cX0_init 94 = .ok (.return_, 1) := by decide +kernel
theorem dX0_search_0 : decode cX0_search 0 = .ok (.aload_n 0, 1) := by decide +kernel
theorem dX0_search_1 : decode cX0_search 1 = .ok (.aload_n 1, 1) := by decide +kernel
theorem dX0_search_2 : decode cX0_search 2 = .ok (.iload_n 3, 1) := by decide +kernel
theorem dX0_search_3 : decode cX0_search 3 = .ok (.invokevirtual 46, 3) := by decide +kernel
theorem dX0_search_6 : decode cX0_search 6 = .ok (.istore 4, 2) := by decide +kernel
theorem dX0_search_8 : decode cX0_search 8 = .ok (.aload_n 0, 1) := by decide +kernel
theorem dX0_search_9 : decode cX0_search 9 = .ok (.invokevirtual 50, 3) := by decide +kernel
theorem dX0_search_12 : decode cX0_search 12 = .ok (.iload_n 2, 1) := by decide +kernel
theorem dX0_search_13 : decode cX0_search 13 = .ok (.iconst 1, 1) := by decide +kernel
theorem dX0_search_14 : decode cX0_search 14 = .ok (.if_icmp .le 7, 3) := by decide +kernel
theorem dX0_search_17 : decode cX0_search 17 = .ok (.aload_n 0, 1) := by decide +kernel
theorem dX0_search_18 : decode cX0_search 18 = .ok (.invokevirtual 53, 3) := by decide +kernel
theorem dX0_search_21 : decode cX0_search 21 = .ok (.aload_n 1, 1) := by decide +kernel
theorem dX0_search_22 : decode cX0_search 22 = .ok (.getfield 56, 3) := by decide +kernel
theorem dX0_search_25 : decode cX0_search 25 = .ok (.iconst 0, 1) := by decide +kernel
theorem dX0_search_26 : decode cX0_search 26 = .ok (.putfield 60, 3) := by decide +kernel
theorem dX0_search_29 : decode cX0_search 29 = .ok (.aload_n 0, 1) := by decide +kernel
theorem dX0_search_30 : decode cX0_search 30 = .ok (.getfield 66, 3) := by decide +kernel
theorem dX0_search_33 : decode cX0_search 33 = .ok (.iconst (-1), 1) := by decide +kernel
theorem dX0_search_34 : decode cX0_search 34 = .ok (.if_icmp .eq 20, 3) := by decide +kernel
theorem dX0_search_37 : decode cX0_search 37 = .ok (.aload_n 1, 1) := by decide +kernel
theorem dX0_search_38 : decode cX0_search 38 = .ok (.getfield 56, 3) := by decide +kernel
theorem dX0_search_41 : decode cX0_search 41 = .ok (.aload_n 0, 1) := by decide +kernel
theorem dX0_search_42 : decode cX0_search 42 = .ok (.getfield 15, 3) := by decide +kernel
theorem dX0_search_45 : decode cX0_search 45 = .ok (.aload_n 0, 1) := by decide +kernel
theorem dX0_search_46 : decode cX0_search 46 = .ok (.getfield 66, 3) := by decide +kernel
theorem dX0_search_49 : decode cX0_search 49 = .ok (.iaload, 1) := by decide +kernel
theorem dX0_search_50 : decode cX0_search 50 = .ok (.invokevirtual 69, 3) := by decide +kernel
theorem dX0_search_53 : decode cX0_search 53 = .ok (.pop, 1) := by decide +kernel
theorem dX0_search_54 : decode cX0_search 54 = .ok (.aload_n 0, 1) := by decide +kernel
theorem dX0_search_55 : decode cX0_search 55 = .ok (.getfield 73, 3) := by decide +kernel
theorem dX0_search_58 : decode cX0_search 58 = .ok (.iconst (-1), 1) := by decide +kernel
theorem dX0_search_59 : decode cX0_search 59 = .ok (.if_icmp .eq 20, 3) := by decide +kernel
theorem dX0_search_62 : decode cX0_search 62 = .ok (.aload_n 1, 1) := by decide +kernel
theorem dX0_search_63 : decode cX0_search 63 = .ok (.getfield 56, 3) := by decide +kernel
theorem dX0_search_66 : decode cX0_search 66 = .ok (.aload_n 0, 1) := by decide +kernel
theorem dX0_search_67 : decode cX0_search 67 = .ok (.getfield 15, 3) := by decide +kernel
theorem dX0_search_70 : decode cX0_search 70 = .ok (.aload_n 0, 1) := by decide +kernel
theorem dX0_search_71 : decode cX0_search 71 = .ok (.getfield 73, 3) := by decide +kernel
theorem dX0_search_74 : decode cX0_search 74 = .ok (.iaload, 1) := by decide +kernel
theorem dX0_search_75 : decode cX0_search 75 = .ok (.invokevirtual 69, 3) := by decide +kernel
theorem dX0_search_78 : decode cX0_search 78 = .ok (.pop, 1) := by decide +kernel
theorem dX0_search_79 : decode cX0_search 79 = .ok (.iload 4, 2) := by decide +kernel
theorem dX0_search_81 : decode cX0_search 81 = .ok (.aload_n 0, 1) := by decide +kernel
theorem dX0_search_82 : decode cX0_search 82 = .ok (.getfield 76, 3) := by decide +kernel
theorem dX0_search_85 : decode cX0_search 85 = .ok (.isub, 1) := by decide +kernel
theorem dX0_search_86 : decode cX0_search 86 = .ok (.ireturn, 1) := by decide +kernel
theorem dX0_gather_0 : decode cX0_gather 0 = .ok (.aload_n 0, 1) := by decide +kernel
theorem dX0_gather_1 : decode cX0_gather 1 = .ok (.iconst 0, 1) := by decide +kernel
theorem dX0_gather_2 : decode cX0_gather 2 = .ok (.putfield 79, 3) := by decide +kernel
theorem dX0_gather_5 : decode cX0_gather 5 = .ok (.aload_n 0, 1) := by decide +kernel
theorem dX0_gather_6 : decode cX0_gather 6 = .ok (.iconst 0, 1) := by decide +kernel
theorem dX0_gather_7 : decode cX0_gather 7 = .ok (.putfield 82, 3) := by decide +kernel
theorem dX0_gather_10 : decode cX0_gather 10 = .ok (.iconst 0, 1) := by decide +kernel
theorem dX0_gather_11 : decode cX0_gather 11 = .ok (.istore_n 3, 1) := by decide +kernel
theorem dX0_gather_12 : decode cX0_gather 12 = .ok (.iconst 0, 1) := by decide +kernel
theorem dX0_gather_13 : decode cX0_gather 13 = .ok (.istore 4, 2) := by decide +kernel
theorem dX0_gather_15 : decode cX0_gather 15 = .ok (.iload 4, 2) := by decide +kernel
theorem dX0_gather_17 : decode cX0_gather 17 = .ok (.aload_n 1, 1) := by decide +kernel
theorem dX0_gather_18 : decode cX0_gather 18 = .ok (.getfield 85, 3) := by decide +kernel
theorem dX0_gather_21 : decode cX0_gather 21 = .ok (.if_icmp .ge 62, 3) := by decide +kernel
theorem dX0_gather_24 : decode cX0_gather 24 = .ok (.aload_n 1, 1) := by decide +kernel
theorem dX0_gather_25 : decode cX0_gather 25 = .ok (.getfield 88, 3) := by decide +kernel
theorem dX0_gather_28 : decode cX0_gather 28 = .ok (.iload 4, 2) := by decide +kernel
theorem dX0_gather_30 : decode cX0_gather 30 = .ok (.aaload, 1) := by decide +kernel
theorem dX0_gather_31 : decode cX0_gather 31 = .ok (.astore 5, 2) := by decide +kernel
theorem dX0_gather_33 : decode cX0_gather 33 = .ok (.iconst 0, 1) := by decide +kernel
theorem dX0_gather_34 : decode cX0_gather 34 = .ok (.istore 6, 2) := by decide +kernel
theorem dX0_gather_36 : decode cX0_gather 36 = .ok (.iload 6, 2) := by decide +kernel
theorem dX0_gather_38 : decode cX0_gather 38 = .ok (.aload 5, 2) := by decide +kernel
theorem dX0_gather_40 : decode cX0_gather 40 = .ok (.getfield 92, 3) := by decide +kernel
theorem dX0_gather_43 : decode cX0_gather 43 = .ok (.if_icmp .ge 34, 3) := by decide +kernel
theorem dX0_gather_46 : decode cX0_gather 46 = .ok (.iload_n 3, 1) := by decide +kernel
theorem dX0_gather_47 : decode cX0_gather 47 = .ok (.aload 5, 2) := by decide +kernel
theorem dX0_gather_49 : decode cX0_gather 49 = .ok (.iload 6, 2) := by decide +kernel
theorem dX0_gather_51 : decode cX0_gather 51 = .ok (.iload_n 2, 1) := by decide +kernel
theorem dX0_gather_52 : decode cX0_gather 52 = .ok (.invokevirtual 93, 3) := by decide +kernel
theorem dX0_gather_55 : decode cX0_gather 55 = .ok (.iadd, 1) := by decide +kernel
theorem dX0_gather_56 : decode cX0_gather 56 = .ok (.istore_n 3, 1) := by decide +kernel
theorem dX0_gather_57 : decode cX0_gather 57 = .ok (.aload_n 0, 1) := by decide +kernel
theorem dX0_gather_58 : decode cX0_gather 58 = .ok (.aload 5, 2) := by decide +kernel
theorem dX0_gather_60 : decode cX0_gather 60 = .ok (.iload 6, 2) := by decide +kernel
theorem dX0_gather_62 : decode cX0_gather 62 = .ok (.iload 4, 2) := by decide +kernel
theorem dX0_gather_64 : decode cX0_gather 64 = .ok (.bipush 40, 2) := by decide +kernel
theorem dX0_gather_66 : decode cX0_gather 66 = .ok (.imul, 1) := by decide +kernel
theorem dX0_gather_67 : decode cX0_gather 67 = .ok (.iload_n 2, 1) := by decide +kernel
theorem dX0_gather_68 : decode cX0_gather 68 = .ok (.invokevirtual 97, 3) := by decide +kernel
theorem dX0_gather_71 : decode cX0_gather 71 = .ok (.iinc 6 1, 3) := by decide +kernel
theorem dX0_gather_74 : decode cX0_gather 74 = .ok (.goto (-38), 3) := by decide +kernel
theorem dX0_gather_77 : decode cX0_gather 77 = .ok (.iinc 4 1, 3) := by decide +kernel
theorem dX0_gather_80 : decode cX0_gather 80 = .ok (.goto (-65), 3) := by decide +kernel
theorem dX0_gather_83 : decode cX0_gather 83 = .ok (.iload_n 3, 1) := by decide +kernel
theorem dX0_gather_84 : decode cX0_gather 84 = .ok (.ireturn, 1) := by decide +kernel
theorem dX0_gatherAt_0 : decode cX0_gatherAt 0 = .ok (.aload_n 1, 1) := by decide +kernel
theorem dX0_gatherAt_1 : decode cX0_gatherAt 1 = .ok (.iload_n 2, 1) := by decide +kernel
theorem dX0_gatherAt_2 : decode cX0_gatherAt 2 = .ok (.invokevirtual 101, 3) := by decide +kernel
theorem dX0_gatherAt_5 : decode cX0_gatherAt 5 = .ok (.istore 5, 2) := by decide +kernel
theorem dX0_gatherAt_7 : decode cX0_gatherAt 7 = .ok (.iconst 0, 1) := by decide +kernel
theorem dX0_gatherAt_8 : decode cX0_gatherAt 8 = .ok (.iconst 0, 1) := by decide +kernel
theorem dX0_gatherAt_9 : decode cX0_gatherAt 9 = .ok (.aload_n 1, 1) := by decide +kernel
theorem dX0_gatherAt_10 : decode cX0_gatherAt 10 = .ok (.getfield 105, 3) := by decide +kernel
theorem dX0_gatherAt_13 : decode cX0_gatherAt 13 = .ok (.iload_n 2, 1) := by decide +kernel
theorem dX0_gatherAt_14 : decode cX0_gatherAt 14 = .ok (.iaload, 1) := by decide +kernel
theorem dX0_gatherAt_15 : decode cX0_gatherAt 15 = .ok (.invokestatic 108, 3) := by decide +kernel
theorem dX0_gatherAt_18 : decode cX0_gatherAt 18 = .ok (.istore 6, 2) := by decide +kernel
theorem dX0_gatherAt_20 : decode cX0_gatherAt 20 = .ok (.iconst 0, 1) := by decide +kernel
theorem dX0_gatherAt_21 : decode cX0_gatherAt 21 = .ok (.istore 7, 2) := by decide +kernel
theorem dX0_gatherAt_23 : decode cX0_gatherAt 23 = .ok (.iconst 2, 1) := by decide +kernel
theorem dX0_gatherAt_24 : decode cX0_gatherAt 24 = .ok (.istore 8, 2) := by decide +kernel
theorem dX0_gatherAt_26 : decode cX0_gatherAt 26 = .ok (.iload 8, 2) := by decide +kernel
theorem dX0_gatherAt_28 : decode cX0_gatherAt 28 = .ok (.iload 5, 2) := by decide +kernel
theorem dX0_gatherAt_30 : decode cX0_gatherAt 30 = .ok (.if_icmp .gt 70, 3) := by decide +kernel
theorem dX0_gatherAt_33 : decode cX0_gatherAt 33 = .ok (.iload_n 2, 1) := by decide +kernel
theorem dX0_gatherAt_34 : decode cX0_gatherAt 34 = .ok (.iload 8, 2) := by decide +kernel
theorem dX0_gatherAt_36 : decode cX0_gatherAt 36 = .ok (.iadd, 1) := by decide +kernel
theorem dX0_gatherAt_37 : decode cX0_gatherAt 37 = .ok (.iconst 1, 1) := by decide +kernel
theorem dX0_gatherAt_38 : decode cX0_gatherAt 38 = .ok (.isub, 1) := by decide +kernel
theorem dX0_gatherAt_39 : decode cX0_gatherAt 39 = .ok (.istore 9, 2) := by decide +kernel
theorem dX0_gatherAt_41 : decode cX0_gatherAt 41 = .ok (.iload 6, 2) := by decide +kernel
theorem dX0_gatherAt_43 : decode cX0_gatherAt 43 = .ok (.iload 8, 2) := by decide +kernel
theorem dX0_gatherAt_45 : decode cX0_gatherAt 45 = .ok (.iconst 1, 1) := by decide +kernel
theorem dX0_gatherAt_46 : decode cX0_gatherAt 46 = .ok (.isub, 1) := by decide +kernel
theorem dX0_gatherAt_47 : decode cX0_gatherAt 47 = .ok (.aload_n 1, 1) := by decide +kernel
theorem dX0_gatherAt_48 : decode cX0_gatherAt 48 = .ok (.getfield 105, 3) := by decide +kernel
theorem dX0_gatherAt_51 : decode cX0_gatherAt 51 = .ok (.iload 9, 2) := by decide +kernel
theorem dX0_gatherAt_53 : decode cX0_gatherAt 53 = .ok (.iaload, 1) := by decide +kernel
theorem dX0_gatherAt_54 : decode cX0_gatherAt 54 = .ok (.invokestatic 108, 3) := by decide +kernel
theorem dX0_gatherAt_57 : decode cX0_gatherAt 57 = .ok (.istore 6, 2) := by decide +kernel
theorem dX0_gatherAt_59 : decode cX0_gatherAt 59 = .ok (.iload 7, 2) := by decide +kernel
theorem dX0_gatherAt_61 : decode cX0_gatherAt 61 = .ok (.aload_n 1, 1) := by decide +kernel
theorem dX0_gatherAt_62 : decode cX0_gatherAt 62 = .ok (.iload 9, 2) := by decide +kernel
theorem dX0_gatherAt_64 : decode cX0_gatherAt 64 = .ok (.iload 4, 2) := by decide +kernel
theorem dX0_gatherAt_66 : decode cX0_gatherAt 66 = .ok (.invokevirtual 93, 3) := by decide +kernel
theorem dX0_gatherAt_69 : decode cX0_gatherAt 69 = .ok (.iadd, 1) := by decide +kernel
theorem dX0_gatherAt_70 : decode cX0_gatherAt 70 = .ok (.istore 7, 2) := by decide +kernel
theorem dX0_gatherAt_72 : decode cX0_gatherAt 72 = .ok (.iload 7, 2) := by decide +kernel
theorem dX0_gatherAt_74 : decode cX0_gatherAt 74 = .ok (.ifCond .le 20, 3) := by decide +kernel
theorem dX0_gatherAt_77 : decode cX0_gatherAt 77 = .ok (.aload_n 0, 1) := by decide +kernel
theorem dX0_gatherAt_78 : decode cX0_gatherAt 78 = .ok (.iload 6, 2) := by decide +kernel
theorem dX0_gatherAt_80 : decode cX0_gatherAt 80 = .ok (.iload_n 3, 1) := by decide +kernel
theorem dX0_gatherAt_81 : decode cX0_gatherAt 81 = .ok (.iload_n 2, 1) := by decide +kernel
theorem dX0_gatherAt_82 : decode cX0_gatherAt 82 = .ok (.iadd, 1) := by decide +kernel
theorem dX0_gatherAt_83 : decode cX0_gatherAt 83 = .ok (.iload_n 3, 1) := by decide +kernel
theorem dX0_gatherAt_84 : decode cX0_gatherAt 84 = .ok (.iload 9, 2) := by decide +kernel
theorem dX0_gatherAt_86 : decode cX0_gatherAt 86 = .ok (.iadd, 1) := by decide +kernel
theorem dX0_gatherAt_87 : decode cX0_gatherAt 87 = .ok (.iconst 1, 1) := by decide +kernel
theorem dX0_gatherAt_88 : decode cX0_gatherAt 88 = .ok (.iadd, 1) := by decide +kernel
theorem dX0_gatherAt_89 : decode cX0_gatherAt 89 = .ok (.iload 7, 2) := by decide +kernel
theorem dX0_gatherAt_91 : decode cX0_gatherAt 91 = .ok (.invokevirtual 114, 3) := by decide +kernel
theorem dX0_gatherAt_94 : decode cX0_gatherAt 94 = .ok (.iinc 8 1, 3) := by decide +kernel
theorem dX0_gatherAt_97 : decode cX0_gatherAt 97 = .ok (.goto (-71), 3) := by decide +kernel
theorem dX0_gatherAt_100 : decode cX0_gatherAt 100 = .ok (.return_, 1) := by decide +kernel
theorem dX0_addStand_0 : decode cX0_addStand 0 = .ok (.aload_n 0, 1) := by decide +kernel
theorem dX0_addStand_1 : decode cX0_addStand 1 = .ok (.iload_n 1, 1) := by decide +kernel
theorem dX0_addStand_2 : decode cX0_addStand 2 = .ok (.invokevirtual 118, 3) := by decide +kernel
theorem dX0_addStand_5 : decode cX0_addStand 5 = .ok (.istore 5, 2) := by decide +kernel
theorem dX0_addStand_7 : decode cX0_addStand 7 = .ok (.aload_n 0, 1) := by decide +kernel
theorem dX0_addStand_8 : decode cX0_addStand 8 = .ok (.getfield 28, 3) := by decide +kernel
theorem dX0_addStand_11 : decode cX0_addStand 11 = .ok (.aload_n 0, 1) := by decide +kernel
theorem dX0_addStand_12 : decode cX0_addStand 12 = .ok (.getfield 82, 3) := by decide +kernel
theorem dX0_addStand_15 : decode cX0_addStand 15 = .ok (.iload_n 2, 1) := by decide +kernel
theorem dX0_addStand_16 : decode cX0_addStand 16 = .ok (.iastore, 1) := by decide +kernel
theorem dX0_addStand_17 : decode cX0_addStand 17 = .ok (.aload_n 0, 1) := by decide +kernel
theorem dX0_addStand_18 : decode cX0_addStand 18 = .ok (.getfield 31, 3) := by decide +kernel
theorem dX0_addStand_21 : decode cX0_addStand 21 = .ok (.aload_n 0, 1) := by decide +kernel
theorem dX0_addStand_22 : decode cX0_addStand 22 = .ok (.getfield 82, 3) := by decide +kernel
theorem dX0_addStand_25 : decode cX0_addStand 25 = .ok (.iload_n 3, 1) := by decide +kernel
theorem dX0_addStand_26 : decode cX0_addStand 26 = .ok (.iastore, 1) := by decide +kernel
theorem dX0_addStand_27 : decode cX0_addStand 27 = .ok (.aload_n 0, 1) := by decide +kernel
theorem dX0_addStand_28 : decode cX0_addStand 28 = .ok (.getfield 34, 3) := by decide +kernel
theorem dX0_addStand_31 : decode cX0_addStand 31 = .ok (.aload_n 0, 1) := by decide +kernel
theorem dX0_addStand_32 : decode cX0_addStand 32 = .ok (.getfield 82, 3) := by decide +kernel
theorem dX0_addStand_35 : decode cX0_addStand 35 = .ok (.iload 4, 2) := by decide +kernel
theorem dX0_addStand_37 : decode cX0_addStand 37 = .ok (.iastore, 1) := by decide +kernel
theorem dX0_addStand_38 : decode cX0_addStand 38 = .ok (.aload_n 0, 1) := by decide +kernel
theorem dX0_addStand_39 : decode cX0_addStand 39 = .ok (.getfield 37, 3) := by decide +kernel
theorem dX0_addStand_42 : decode cX0_addStand 42 = .ok (.aload_n 0, 1) := by decide +kernel
theorem dX0_addStand_43 : decode cX0_addStand 43 = .ok (.getfield 82, 3) := by decide +kernel
theorem dX0_addStand_46 : decode cX0_addStand 46 = .ok (.aload_n 0, 1) := by decide +kernel
theorem dX0_addStand_47 : decode cX0_addStand 47 = .ok (.getfield 19, 3) := by decide +kernel
theorem dX0_addStand_50 : decode cX0_addStand 50 = .ok (.iload 5, 2) := by decide +kernel
theorem dX0_addStand_52 : decode cX0_addStand 52 = .ok (.iaload, 1) := by decide +kernel
theorem dX0_addStand_53 : decode cX0_addStand 53 = .ok (.iastore, 1) := by decide +kernel
theorem dX0_addStand_54 : decode cX0_addStand 54 = .ok (.aload_n 0, 1) := by decide +kernel
theorem dX0_addStand_55 : decode cX0_addStand 55 = .ok (.getfield 19, 3) := by decide +kernel
theorem dX0_addStand_58 : decode cX0_addStand 58 = .ok (.iload 5, 2) := by decide +kernel
theorem dX0_addStand_60 : decode cX0_addStand 60 = .ok (.aload_n 0, 1) := by decide +kernel
theorem dX0_addStand_61 : decode cX0_addStand 61 = .ok (.getfield 82, 3) := by decide +kernel
theorem dX0_addStand_64 : decode cX0_addStand 64 = .ok (.iastore, 1) := by decide +kernel
theorem dX0_addStand_65 : decode cX0_addStand 65 = .ok (.aload_n 0, 1) := by decide +kernel
theorem dX0_addStand_66 : decode cX0_addStand 66 = .ok (.dup, 1) := by decide +kernel
theorem dX0_addStand_67 : decode cX0_addStand 67 = .ok (.getfield 82, 3) := by decide +kernel
theorem dX0_addStand_70 : decode cX0_addStand 70 = .ok (.iconst 1, 1) := by decide +kernel
theorem dX0_addStand_71 : decode cX0_addStand 71 = .ok (.iadd, 1) := by decide +kernel
theorem dX0_addStand_72 : decode cX0_addStand 72 = .ok (.putfield 82, 3) := by decide +kernel
theorem dX0_addStand_75 : decode cX0_addStand 75 = .ok (.return_, 1) := by decide +kernel
theorem dX0_findRow_0 : decode cX0_findRow 0 = .ok (.iconst 0, 1) := by decide +kernel
theorem dX0_findRow_1 : decode cX0_findRow 1 = .ok (.istore_n 2, 1) := by decide +kernel
theorem dX0_findRow_2 : decode cX0_findRow 2 = .ok (.aload_n 0, 1) := by decide +kernel
theorem dX0_findRow_3 : decode cX0_findRow 3 = .ok (.getfield 79, 3) := by decide +kernel
theorem dX0_findRow_6 : decode cX0_findRow 6 = .ok (.istore_n 3, 1) := by decide +kernel
theorem dX0_findRow_7 : decode cX0_findRow 7 = .ok (.iconst 0, 1) := by decide +kernel
theorem dX0_findRow_8 : decode cX0_findRow 8 = .ok (.istore 4, 2) := by decide +kernel
theorem dX0_findRow_10 : decode cX0_findRow 10 = .ok (.iload 4, 2) := by decide +kernel
theorem dX0_findRow_12 : decode cX0_findRow 12 = .ok (.sipush 360, 3) := by decide +kernel
theorem dX0_findRow_15 : decode cX0_findRow 15 = .ok (.if_icmp .ge 43, 3) := by decide +kernel
theorem dX0_findRow_18 : decode cX0_findRow 18 = .ok (.iload_n 2, 1) := by decide +kernel
theorem dX0_findRow_19 : decode cX0_findRow 19 = .ok (.iload_n 3, 1) := by decide +kernel
theorem dX0_findRow_20 : decode cX0_findRow 20 = .ok (.if_icmp .ge 38, 3) := by decide +kernel
theorem dX0_findRow_23 : decode cX0_findRow 23 = .ok (.iload_n 2, 1) := by decide +kernel
theorem dX0_findRow_24 : decode cX0_findRow 24 = .ok (.iload_n 3, 1) := by decide +kernel
theorem dX0_findRow_25 : decode cX0_findRow 25 = .ok (.iadd, 1) := by decide +kernel
theorem dX0_findRow_26 : decode cX0_findRow 26 = .ok (.iconst 2, 1) := by decide +kernel
theorem dX0_findRow_27 : decode cX0_findRow 27 = .ok (.idiv, 1) := by decide +kernel
theorem dX0_findRow_28 : decode cX0_findRow 28 = .ok (.istore 5, 2) := by decide +kernel
theorem dX0_findRow_30 : decode cX0_findRow 30 = .ok (.aload_n 0, 1) := by decide +kernel
theorem dX0_findRow_31 : decode cX0_findRow 31 = .ok (.getfield 15, 3) := by decide +kernel
theorem dX0_findRow_34 : decode cX0_findRow 34 = .ok (.iload 5, 2) := by decide +kernel
theorem dX0_findRow_36 : decode cX0_findRow 36 = .ok (.iaload, 1) := by decide +kernel
theorem dX0_findRow_37 : decode cX0_findRow 37 = .ok (.iload_n 1, 1) := by decide +kernel
theorem dX0_findRow_38 : decode cX0_findRow 38 = .ok (.if_icmp .ge 11, 3) := by decide +kernel
theorem dX0_findRow_41 : decode cX0_findRow 41 = .ok (.iload 5, 2) := by decide +kernel
theorem dX0_findRow_43 : decode cX0_findRow 43 = .ok (.iconst 1, 1) := by decide +kernel
theorem dX0_findRow_44 : decode cX0_findRow 44 = .ok (.iadd, 1) := by decide +kernel
theorem dX0_findRow_45 : decode cX0_findRow 45 = .ok (.istore_n 2, 1) := by decide +kernel
theorem dX0_findRow_46 : decode cX0_findRow 46 = .ok (.goto 6, 3) := by decide +kernel
theorem dX0_findRow_49 : decode cX0_findRow 49 = .ok (.iload 5, 2) := by decide +kernel
theorem dX0_findRow_51 : decode cX0_findRow 51 = .ok (.istore_n 3, 1) := by decide +kernel
theorem dX0_findRow_52 : decode cX0_findRow 52 = .ok (.iinc 4 1, 3) := by decide +kernel
theorem dX0_findRow_55 : decode cX0_findRow 55 = .ok (.goto (-45), 3) := by decide +kernel
theorem dX0_findRow_58 : decode cX0_findRow 58 = .ok (.iload_n 2, 1) := by decide +kernel
theorem dX0_findRow_59 : decode cX0_findRow 59 = .ok (.aload_n 0, 1) := by decide +kernel
theorem dX0_findRow_60 : decode cX0_findRow 60 = .ok (.getfield 79, 3) := by decide +kernel
theorem dX0_findRow_63 : decode cX0_findRow 63 = .ok (.if_icmp .eq 13, 3) := by decide +kernel
theorem dX0_findRow_66 : decode cX0_findRow 66 = .ok (.aload_n 0, 1) := by decide +kernel
theorem dX0_findRow_67 : decode cX0_findRow 67 = .ok (.getfield 15, 3) := by decide +kernel
theorem dX0_findRow_70 : decode cX0_findRow 70 = .ok (.iload_n 2, 1) := by decide +kernel
theorem dX0_findRow_71 : decode cX0_findRow 71 = .ok (.iaload, 1) := by decide +kernel
theorem dX0_findRow_72 : decode cX0_findRow 72 = .ok (.iload_n 1, 1) := by decide +kernel
theorem dX0_findRow_73 : decode cX0_findRow 73 = .ok (.if_icmp .eq 69, 3) := by decide +kernel
theorem dX0_findRow_76 : decode cX0_findRow 76 = .ok (.aload_n 0, 1) := by decide +kernel
theorem dX0_findRow_77 : decode cX0_findRow 77 = .ok (.getfield 15, 3) := by decide +kernel
theorem dX0_findRow_80 : decode cX0_findRow 80 = .ok (.iload_n 2, 1) := by decide +kernel
theorem dX0_findRow_81 : decode cX0_findRow 81 = .ok (.aload_n 0, 1) := by decide +kernel
theorem dX0_findRow_82 : decode cX0_findRow 82 = .ok (.getfield 15, 3) := by decide +kernel
theorem dX0_findRow_85 : decode cX0_findRow 85 = .ok (.iload_n 2, 1) := by decide +kernel
theorem dX0_findRow_86 : decode cX0_findRow 86 = .ok (.iconst 1, 1) := by decide +kernel
theorem dX0_findRow_87 : decode cX0_findRow 87 = .ok (.iadd, 1) := by decide +kernel
theorem dX0_findRow_88 : decode cX0_findRow 88 = .ok (.aload_n 0, 1) := by decide +kernel
theorem dX0_findRow_89 : decode cX0_findRow 89 = .ok (.getfield 79, 3) := by decide +kernel
theorem dX0_findRow_92 : decode cX0_findRow 92 = .ok (.iload_n 2, 1) := by decide +kernel
theorem dX0_findRow_93 : decode cX0_findRow 93 = .ok (.isub, 1) := by decide +kernel
theorem dX0_findRow_94 : decode cX0_findRow 94 = .ok (.invokestatic 121, 3) := by decide +kernel
theorem dX0_findRow_97 : decode cX0_findRow 97 = .ok (.aload_n 0, 1) := by decide +kernel
theorem dX0_findRow_98 : decode cX0_findRow 98 = .ok (.getfield 19, 3) := by decide +kernel
theorem dX0_findRow_101 : decode cX0_findRow 101 = .ok (.iload_n 2, 1) := by decide +kernel
theorem dX0_findRow_102 : decode cX0_findRow 102 = .ok (.aload_n 0, 1) := by decide +kernel
theorem dX0_findRow_103 : decode cX0_findRow 103 = .ok (.getfield 19, 3) := by decide +kernel
theorem dX0_findRow_106 : decode cX0_findRow 106 = .ok (.iload_n 2, 1) := by decide +kernel
theorem dX0_findRow_107 : decode cX0_findRow 107 = .ok (.iconst 1, 1) := by decide +kernel
theorem dX0_findRow_108 : decode cX0_findRow 108 = .ok (.iadd, 1) := by decide +kernel
theorem dX0_findRow_109 : decode cX0_findRow 109 = .ok (.aload_n 0, 1) := by decide +kernel
theorem dX0_findRow_110 : decode cX0_findRow 110 = .ok (.getfield 79, 3) := by decide +kernel
theorem dX0_findRow_113 : decode cX0_findRow 113 = .ok (.iload_n 2, 1) := by decide +kernel
theorem dX0_findRow_114 : decode cX0_findRow 114 = .ok (.isub, 1) := by decide +kernel
theorem dX0_findRow_115 : decode cX0_findRow 115 = .ok (.invokestatic 121, 3) := by decide +kernel
theorem dX0_findRow_118 : decode cX0_findRow 118 = .ok (.aload_n 0, 1) := by decide +kernel
theorem dX0_findRow_119 : decode cX0_findRow 119 = .ok (.getfield 15, 3) := by decide +kernel
theorem dX0_findRow_122 : decode cX0_findRow 122 = .ok (.iload_n 2, 1) := by decide +kernel
theorem dX0_findRow_123 : decode cX0_findRow 123 = .ok (.iload_n 1, 1) := by decide +kernel
theorem dX0_findRow_124 : decode cX0_findRow 124 = .ok (.iastore, 1) := by decide +kernel
theorem dX0_findRow_125 : decode cX0_findRow 125 = .ok (.aload_n 0, 1) := by decide +kernel
theorem dX0_findRow_126 : decode cX0_findRow 126 = .ok (.getfield 19, 3) := by decide +kernel
theorem dX0_findRow_129 : decode cX0_findRow 129 = .ok (.iload_n 2, 1) := by decide +kernel
theorem dX0_findRow_130 : decode cX0_findRow 130 = .ok (.iconst (-1), 1) := by decide +kernel
theorem dX0_findRow_131 : decode cX0_findRow 131 = .ok (.iastore, 1) := by decide +kernel
theorem dX0_findRow_132 : decode cX0_findRow 132 = .ok (.aload_n 0, 1) := by decide +kernel
theorem dX0_findRow_133 : decode cX0_findRow 133 = .ok (.dup, 1) := by decide +kernel
theorem dX0_findRow_134 : decode cX0_findRow 134 = .ok (.getfield 79, 3) := by decide +kernel
theorem dX0_findRow_137 : decode cX0_findRow 137 = .ok (.iconst 1, 1) := by decide +kernel
theorem dX0_findRow_138 : decode cX0_findRow 138 = .ok (.iadd, 1) := by decide +kernel
theorem dX0_findRow_139 : decode cX0_findRow 139 = .ok (.putfield 79, 3) := by decide +kernel
theorem dX0_findRow_142 : decode cX0_findRow 142 = .ok (.iload_n 2, 1) := by decide +kernel
theorem dX0_findRow_143 : decode cX0_findRow 143 = .ok (.ireturn, 1) := by decide +kernel
theorem dX0_chooseOne_0 : decode cX0_chooseOne 0 = .ok (.aload_n 0, 1) := by decide +kernel
theorem dX0_chooseOne_1 : decode cX0_chooseOne 1 = .ok (.iconst 0, 1) := by decide +kernel
theorem dX0_chooseOne_2 : decode cX0_chooseOne 2 = .ok (.putfield 76, 3) := by decide +kernel
theorem dX0_chooseOne_5 : decode cX0_chooseOne 5 = .ok (.aload_n 0, 1) := by decide +kernel
theorem dX0_chooseOne_6 : decode cX0_chooseOne 6 = .ok (.iconst (-1), 1) := by decide +kernel
theorem dX0_chooseOne_7 : decode cX0_chooseOne 7 = .ok (.putfield 66, 3) := by decide +kernel
theorem dX0_chooseOne_10 : decode cX0_chooseOne 10 = .ok (.aload_n 0, 1) := by decide +kernel
theorem dX0_chooseOne_11 : decode cX0_chooseOne 11 = .ok (.iconst (-1), 1) := by decide +kernel
theorem dX0_chooseOne_12 : decode cX0_chooseOne 12 = .ok (.putfield 73, 3) := by decide +kernel
theorem dX0_chooseOne_15 : decode cX0_chooseOne 15 = .ok (.iconst 0, 1) := by decide +kernel
theorem dX0_chooseOne_16 : decode cX0_chooseOne 16 = .ok (.istore_n 1, 1) := by decide +kernel
theorem dX0_chooseOne_17 : decode cX0_chooseOne 17 = .ok (.iload_n 1, 1) := by decide +kernel
theorem dX0_chooseOne_18 : decode cX0_chooseOne 18 = .ok (.aload_n 0, 1) := by decide +kernel
theorem dX0_chooseOne_19 : decode cX0_chooseOne 19 = .ok (.getfield 79, 3) := by decide +kernel
theorem dX0_chooseOne_22 : decode cX0_chooseOne 22 = .ok (.if_icmp .ge 54, 3) := by decide +kernel
theorem dX0_chooseOne_25 : decode cX0_chooseOne 25 = .ok (.aload_n 0, 1) := by decide +kernel
theorem dX0_chooseOne_26 : decode cX0_chooseOne 26 = .ok (.getfield 22, 3) := by decide +kernel
theorem dX0_chooseOne_29 : decode cX0_chooseOne 29 = .ok (.iload_n 1, 1) := by decide +kernel
theorem dX0_chooseOne_30 : decode cX0_chooseOne 30 = .ok (.aload_n 0, 1) := by decide +kernel
theorem dX0_chooseOne_31 : decode cX0_chooseOne 31 = .ok (.aload_n 0, 1) := by decide +kernel
theorem dX0_chooseOne_32 : decode cX0_chooseOne 32 = .ok (.getfield 19, 3) := by decide +kernel
theorem dX0_chooseOne_35 : decode cX0_chooseOne 35 = .ok (.iload_n 1, 1) := by decide +kernel
theorem dX0_chooseOne_36 : decode cX0_chooseOne 36 = .ok (.iaload, 1) := by decide +kernel
theorem dX0_chooseOne_37 : decode cX0_chooseOne 37 = .ok (.iconst (-1), 1) := by decide +kernel
theorem dX0_chooseOne_38 : decode cX0_chooseOne 38 = .ok (.invokevirtual 127, 3) := by decide +kernel
theorem dX0_chooseOne_41 : decode cX0_chooseOne 41 = .ok (.iastore, 1) := by decide +kernel
theorem dX0_chooseOne_42 : decode cX0_chooseOne 42 = .ok (.aload_n 0, 1) := by decide +kernel
theorem dX0_chooseOne_43 : decode cX0_chooseOne 43 = .ok (.getfield 22, 3) := by decide +kernel
theorem dX0_chooseOne_46 : decode cX0_chooseOne 46 = .ok (.iload_n 1, 1) := by decide +kernel
theorem dX0_chooseOne_47 : decode cX0_chooseOne 47 = .ok (.iaload, 1) := by decide +kernel
theorem dX0_chooseOne_48 : decode cX0_chooseOne 48 = .ok (.aload_n 0, 1) := by decide +kernel
theorem dX0_chooseOne_49 : decode cX0_chooseOne 49 = .ok (.getfield 76, 3) := by decide +kernel
theorem dX0_chooseOne_52 : decode cX0_chooseOne 52 = .ok (.if_icmp .le 18, 3) := by decide +kernel
theorem dX0_chooseOne_55 : decode cX0_chooseOne 55 = .ok (.aload_n 0, 1) := by decide +kernel
theorem dX0_chooseOne_56 : decode cX0_chooseOne 56 = .ok (.aload_n 0, 1) := by decide +kernel
theorem dX0_chooseOne_57 : decode cX0_chooseOne 57 = .ok (.getfield 22, 3) := by decide +kernel
theorem dX0_chooseOne_60 : decode cX0_chooseOne 60 = .ok (.iload_n 1, 1) := by decide +kernel
theorem dX0_chooseOne_61 : decode cX0_chooseOne 61 = .ok (.iaload, 1) := by decide +kernel
theorem dX0_chooseOne_62 : decode cX0_chooseOne 62 = .ok (.putfield 76, 3) := by decide +kernel
theorem dX0_chooseOne_65 : decode cX0_chooseOne 65 = .ok (.aload_n 0, 1) := by decide +kernel
theorem dX0_chooseOne_66 : decode cX0_chooseOne 66 = .ok (.iload_n 1, 1) := by decide +kernel
theorem dX0_chooseOne_67 : decode cX0_chooseOne 67 = .ok (.putfield 66, 3) := by decide +kernel
theorem dX0_chooseOne_70 : decode cX0_chooseOne 70 = .ok (.iinc 1 1, 3) := by decide +kernel
theorem dX0_chooseOne_73 : decode cX0_chooseOne 73 = .ok (.goto (-56), 3) := by decide +kernel
theorem dX0_chooseOne_76 : decode cX0_chooseOne 76 = .ok (.return_, 1) := by decide +kernel
theorem dX0_chooseTwo_0 : decode cX0_chooseTwo 0 = .ok (.aload_n 0, 1) := by decide +kernel
theorem dX0_chooseTwo_1 : decode cX0_chooseTwo 1 = .ok (.getfield 25, 3) := by decide +kernel
theorem dX0_chooseTwo_4 : decode cX0_chooseTwo 4 = .ok (.aload_n 0, 1) := by decide +kernel
theorem dX0_chooseTwo_5 : decode cX0_chooseTwo 5 = .ok (.getfield 79, 3) := by decide +kernel
theorem dX0_chooseTwo_8 : decode cX0_chooseTwo 8 = .ok (.iconst 0, 1) := by decide +kernel
theorem dX0_chooseTwo_9 : decode cX0_chooseTwo 9 = .ok (.iastore, 1) := by decide +kernel
theorem dX0_chooseTwo_10 : decode cX0_chooseTwo 10 = .ok (.aload_n 0, 1) := by decide +kernel
theorem dX0_chooseTwo_11 : decode cX0_chooseTwo 11 = .ok (.getfield 79, 3) := by decide +kernel
theorem dX0_chooseTwo_14 : decode cX0_chooseTwo 14 = .ok (.iconst 1, 1) := by decide +kernel
theorem dX0_chooseTwo_15 : decode cX0_chooseTwo 15 = .ok (.isub, 1) := by decide +kernel
theorem dX0_chooseTwo_16 : decode cX0_chooseTwo 16 = .ok (.istore_n 1, 1) := by decide +kernel
theorem dX0_chooseTwo_17 : decode cX0_chooseTwo 17 = .ok (.iload_n 1, 1) := by decide +kernel
theorem dX0_chooseTwo_18 : decode cX0_chooseTwo 18 = .ok (.ifCond .lt 32, 3) := by decide +kernel
theorem dX0_chooseTwo_21 : decode cX0_chooseTwo 21 = .ok (.aload_n 0, 1) := by decide +kernel
theorem dX0_chooseTwo_22 : decode cX0_chooseTwo 22 = .ok (.getfield 25, 3) := by decide +kernel
theorem dX0_chooseTwo_25 : decode cX0_chooseTwo 25 = .ok (.iload_n 1, 1) := by decide +kernel
theorem dX0_chooseTwo_26 : decode cX0_chooseTwo 26 = .ok (.aload_n 0, 1) := by decide +kernel
theorem dX0_chooseTwo_27 : decode cX0_chooseTwo 27 = .ok (.getfield 22, 3) := by decide +kernel
theorem dX0_chooseTwo_30 : decode cX0_chooseTwo 30 = .ok (.iload_n 1, 1) := by decide +kernel
theorem dX0_chooseTwo_31 : decode cX0_chooseTwo 31 = .ok (.iaload, 1) := by decide +kernel
theorem dX0_chooseTwo_32 : decode cX0_chooseTwo 32 = .ok (.aload_n 0, 1) := by decide +kernel
theorem dX0_chooseTwo_33 : decode cX0_chooseTwo 33 = .ok (.getfield 25, 3) := by decide +kernel
theorem dX0_chooseTwo_36 : decode cX0_chooseTwo 36 = .ok (.iload_n 1, 1) := by decide +kernel
theorem dX0_chooseTwo_37 : decode cX0_chooseTwo 37 = .ok (.iconst 1, 1) := by decide +kernel
theorem dX0_chooseTwo_38 : decode cX0_chooseTwo 38 = .ok (.iadd, 1) := by decide +kernel
theorem dX0_chooseTwo_39 : decode cX0_chooseTwo 39 = .ok (.iaload, 1) := by decide +kernel
theorem dX0_chooseTwo_40 : decode cX0_chooseTwo 40 = .ok (.invokestatic 131, 3) := by decide +kernel
theorem dX0_chooseTwo_43 : decode cX0_chooseTwo 43 = .ok (.iastore, 1) := by decide +kernel
theorem dX0_chooseTwo_44 : decode cX0_chooseTwo 44 = .ok (.iinc 1 (-1), 3) := by decide +kernel
theorem dX0_chooseTwo_47 : decode cX0_chooseTwo 47 = .ok (.goto (-30), 3) := by decide +kernel
theorem dX0_chooseTwo_50 : decode cX0_chooseTwo 50 = .ok (.iconst 0, 1) := by decide +kernel
theorem dX0_chooseTwo_51 : decode cX0_chooseTwo 51 = .ok (.istore_n 1, 1) := by decide +kernel
theorem dX0_chooseTwo_52 : decode cX0_chooseTwo 52 = .ok (.iload_n 1, 1) := by decide +kernel
theorem dX0_chooseTwo_53 : decode cX0_chooseTwo 53 = .ok (.aload_n 0, 1) := by decide +kernel
theorem dX0_chooseTwo_54 : decode cX0_chooseTwo 54 = .ok (.getfield 79, 3) := by decide +kernel
theorem dX0_chooseTwo_57 : decode cX0_chooseTwo 57 = .ok (.if_icmp .ge 73, 3) := by decide +kernel
theorem dX0_chooseTwo_60 : decode cX0_chooseTwo 60 = .ok (.iload_n 1, 1) := by decide +kernel
theorem dX0_chooseTwo_61 : decode cX0_chooseTwo 61 = .ok (.iconst 1, 1) := by decide +kernel
theorem dX0_chooseTwo_62 : decode cX0_chooseTwo 62 = .ok (.iadd, 1) := by decide +kernel
theorem dX0_chooseTwo_63 : decode cX0_chooseTwo 63 = .ok (.istore_n 2, 1) := by decide +kernel
theorem dX0_chooseTwo_64 : decode cX0_chooseTwo 64 = .ok (.iload_n 2, 1) := by decide +kernel
theorem dX0_chooseTwo_65 : decode cX0_chooseTwo 65 = .ok (.aload_n 0, 1) := by decide +kernel
theorem dX0_chooseTwo_66 : decode cX0_chooseTwo 66 = .ok (.getfield 79, 3) := by decide +kernel
theorem dX0_chooseTwo_69 : decode cX0_chooseTwo 69 = .ok (.if_icmp .ge 55, 3) := by decide +kernel
theorem dX0_chooseTwo_72 : decode cX0_chooseTwo 72 = .ok (.aload_n 0, 1) := by decide +kernel
theorem dX0_chooseTwo_73 : decode cX0_chooseTwo 73 = .ok (.getfield 22, 3) := by decide +kernel
theorem dX0_chooseTwo_76 : decode cX0_chooseTwo 76 = .ok (.iload_n 1, 1) := by decide +kernel
theorem dX0_chooseTwo_77 : decode cX0_chooseTwo 77 = .ok (.iaload, 1) := by decide +kernel
theorem dX0_chooseTwo_78 : decode cX0_chooseTwo 78 = .ok (.aload_n 0, 1) := by decide +kernel
theorem dX0_chooseTwo_79 : decode cX0_chooseTwo 79 = .ok (.getfield 25, 3) := by decide +kernel
theorem dX0_chooseTwo_82 : decode cX0_chooseTwo 82 = .ok (.iload_n 2, 1) := by decide +kernel
theorem dX0_chooseTwo_83 : decode cX0_chooseTwo 83 = .ok (.iaload, 1) := by decide +kernel
theorem dX0_chooseTwo_84 : decode cX0_chooseTwo 84 = .ok (.iadd, 1) := by decide +kernel
theorem dX0_chooseTwo_85 : decode cX0_chooseTwo 85 = .ok (.aload_n 0, 1) := by decide +kernel
theorem dX0_chooseTwo_86 : decode cX0_chooseTwo 86 = .ok (.getfield 76, 3) := by decide +kernel
theorem dX0_chooseTwo_89 : decode cX0_chooseTwo 89 = .ok (.if_icmp .le 35, 3) := by decide +kernel
theorem dX0_chooseTwo_92 : decode cX0_chooseTwo 92 = .ok (.aload_n 0, 1) := by decide +kernel
theorem dX0_chooseTwo_93 : decode cX0_chooseTwo 93 = .ok (.getfield 22, 3) := by decide +kernel
theorem dX0_chooseTwo_96 : decode cX0_chooseTwo 96 = .ok (.iload_n 1, 1) := by decide +kernel
theorem dX0_chooseTwo_97 : decode cX0_chooseTwo 97 = .ok (.iaload, 1) := by decide +kernel
theorem dX0_chooseTwo_98 : decode cX0_chooseTwo 98 = .ok (.aload_n 0, 1) := by decide +kernel
theorem dX0_chooseTwo_99 : decode cX0_chooseTwo 99 = .ok (.getfield 22, 3) := by decide +kernel
theorem dX0_chooseTwo_102 : decode cX0_chooseTwo 102 = .ok (.iload_n 2, 1) := by decide +kernel
theorem dX0_chooseTwo_103 : decode cX0_chooseTwo 103 = .ok (.iaload, 1) := by decide +kernel
theorem dX0_chooseTwo_104 : decode cX0_chooseTwo 104 = .ok (.iadd, 1) := by decide +kernel
theorem dX0_chooseTwo_105 : decode cX0_chooseTwo 105 = .ok (.aload_n 0, 1) := by decide +kernel
theorem dX0_chooseTwo_106 : decode cX0_chooseTwo 106 = .ok (.getfield 76, 3) := by decide +kernel
theorem dX0_chooseTwo_109 : decode cX0_chooseTwo 109 = .ok (.if_icmp .le 9, 3) := by decide +kernel
theorem dX0_chooseTwo_112 : decode cX0_chooseTwo 112 = .ok (.aload_n 0, 1) := by decide +kernel
theorem dX0_chooseTwo_113 : decode cX0_chooseTwo 113 = .ok (.iload_n 1, 1) := by decide +kernel
theorem dX0_chooseTwo_114 : decode cX0_chooseTwo 114 = .ok (.iload_n 2, 1) := by decide +kernel
theorem dX0_chooseTwo_115 : decode cX0_chooseTwo 115 = .ok (.invokevirtual 136, 3) := by decide +kernel
theorem dX0_chooseTwo_118 : decode cX0_chooseTwo 118 = .ok (.iinc 2 1, 3) := by decide +kernel
theorem dX0_chooseTwo_121 : decode cX0_chooseTwo 121 = .ok (.goto (-57), 3) := by decide +kernel
theorem dX0_chooseTwo_124 : decode cX0_chooseTwo 124 = .ok (.iinc 1 1, 3) := by decide +kernel
theorem dX0_chooseTwo_127 : decode cX0_chooseTwo 127 = .ok (.goto (-75), 3) := by decide +kernel
theorem dX0_chooseTwo_130 : decode cX0_chooseTwo 130 = .ok (.return_, 1) := by decide +kernel
theorem dX0_tryTwo_0 : decode cX0_tryTwo 0 = .ok (.aload_n 0, 1) := by decide +kernel
theorem dX0_tryTwo_1 : decode cX0_tryTwo 1 = .ok (.aload_n 0, 1) := by decide +kernel
theorem dX0_tryTwo_2 : decode cX0_tryTwo 2 = .ok (.getfield 19, 3) := by decide +kernel
theorem dX0_tryTwo_5 : decode cX0_tryTwo 5 = .ok (.iload_n 1, 1) := by decide +kernel
theorem dX0_tryTwo_6 : decode cX0_tryTwo 6 = .ok (.iaload, 1) := by decide +kernel
theorem dX0_tryTwo_7 : decode cX0_tryTwo 7 = .ok (.aload_n 0, 1) := by decide +kernel
theorem dX0_tryTwo_8 : decode cX0_tryTwo 8 = .ok (.getfield 19, 3) := by decide +kernel
theorem dX0_tryTwo_11 : decode cX0_tryTwo 11 = .ok (.iload_n 2, 1) := by decide +kernel
theorem dX0_tryTwo_12 : decode cX0_tryTwo 12 = .ok (.iaload, 1) := by decide +kernel
theorem dX0_tryTwo_13 : decode cX0_tryTwo 13 = .ok (.invokevirtual 127, 3) := by decide +kernel
theorem dX0_tryTwo_16 : decode cX0_tryTwo 16 = .ok (.istore_n 3, 1) := by decide +kernel
theorem dX0_tryTwo_17 : decode cX0_tryTwo 17 = .ok (.iload_n 3, 1) := by decide +kernel
theorem dX0_tryTwo_18 : decode cX0_tryTwo 18 = .ok (.aload_n 0, 1) := by decide +kernel
theorem dX0_tryTwo_19 : decode cX0_tryTwo 19 = .ok (.getfield 76, 3) := by decide +kernel
theorem dX0_tryTwo_22 : decode cX0_tryTwo 22 = .ok (.if_icmp .le 18, 3) := by decide +kernel
theorem dX0_tryTwo_25 : decode cX0_tryTwo 25 = .ok (.aload_n 0, 1) := by decide +kernel
theorem dX0_tryTwo_26 : decode cX0_tryTwo 26 = .ok (.iload_n 3, 1) := by decide +kernel
theorem dX0_tryTwo_27 : decode cX0_tryTwo 27 = .ok (.putfield 76, 3) := by decide +kernel
theorem dX0_tryTwo_30 : decode cX0_tryTwo 30 = .ok (.aload_n 0, 1) := by decide +kernel
theorem dX0_tryTwo_31 : decode cX0_tryTwo 31 = .ok (.iload_n 1, 1) := by decide +kernel
theorem dX0_tryTwo_32 : decode cX0_tryTwo 32 = .ok (.putfield 66, 3) := by decide +kernel
theorem dX0_tryTwo_35 : decode cX0_tryTwo 35 = .ok (.aload_n 0, 1) := by decide +kernel
theorem dX0_tryTwo_36 : decode cX0_tryTwo 36 = .ok (.iload_n 2, 1) := by decide +kernel
theorem dX0_tryTwo_37 : decode cX0_tryTwo 37 = .ok (.putfield 73, 3) := by decide +kernel
theorem dX0_tryTwo_40 : decode cX0_tryTwo 40 = .ok (.return_, 1) := by decide +kernel
theorem dX0_mostSaved_0 : decode cX0_mostSaved 0 = .ok (.iload_n 1, 1) := by decide +kernel
theorem dX0_mostSaved_1 : decode cX0_mostSaved 1 = .ok (.istore_n 3, 1) := by decide +kernel
theorem dX0_mostSaved_2 : decode cX0_mostSaved 2 = .ok (.iload_n 2, 1) := by decide +kernel
theorem dX0_mostSaved_3 : decode cX0_mostSaved 3 = .ok (.istore 4, 2) := by decide +kernel
theorem dX0_mostSaved_5 : decode cX0_mostSaved 5 = .ok (.iconst 0, 1) := by decide +kernel
theorem dX0_mostSaved_6 : decode cX0_mostSaved 6 = .ok (.istore 5, 2) := by decide +kernel
theorem dX0_mostSaved_8 : decode cX0_mostSaved 8 = .ok (.iconst 0, 1) := by decide +kernel
theorem dX0_mostSaved_9 : decode cX0_mostSaved 9 = .ok (.istore 6, 2) := by decide +kernel
theorem dX0_mostSaved_11 : decode cX0_mostSaved 11 = .ok (.iload 6, 2) := by decide +kernel
theorem dX0_mostSaved_13 : decode cX0_mostSaved 13 = .ok (.sipush 360, 3) := by decide +kernel
theorem dX0_mostSaved_16 : decode cX0_mostSaved 16 = .ok (.if_icmp .ge 142, 3) := by decide +kernel
theorem dX0_mostSaved_19 : decode cX0_mostSaved 19 = .ok (.iload_n 3, 1) := by decide +kernel
theorem dX0_mostSaved_20 : decode cX0_mostSaved 20 = .ok (.iconst (-1), 1) := by decide +kernel
theorem dX0_mostSaved_21 : decode cX0_mostSaved 21 = .ok (.if_icmp .ne 9, 3) := by decide +kernel
theorem dX0_mostSaved_24 : decode cX0_mostSaved 24 = .ok (.iload 4, 2) := by decide +kernel
theorem dX0_mostSaved_26 : decode cX0_mostSaved 26 = .ok (.iconst (-1), 1) := by decide +kernel
theorem dX0_mostSaved_27 : decode cX0_mostSaved 27 = .ok (.if_icmp .eq 131, 3) := by decide +kernel
theorem dX0_mostSaved_30 : decode cX0_mostSaved 30 = .ok (.iload 4, 2) := by decide +kernel
theorem dX0_mostSaved_32 : decode cX0_mostSaved 32 = .ok (.iconst (-1), 1) := by decide +kernel
theorem dX0_mostSaved_33 : decode cX0_mostSaved 33 = .ok (.if_icmp .eq 24, 3) := by decide +kernel
theorem dX0_mostSaved_36 : decode cX0_mostSaved 36 = .ok (.iload_n 3, 1) := by decide +kernel
theorem dX0_mostSaved_37 : decode cX0_mostSaved 37 = .ok (.iconst (-1), 1) := by decide +kernel
theorem dX0_mostSaved_38 : decode cX0_mostSaved 38 = .ok (.if_icmp .eq 23, 3) := by decide +kernel
theorem dX0_mostSaved_41 : decode cX0_mostSaved 41 = .ok (.aload_n 0, 1) := by decide +kernel
theorem dX0_mostSaved_42 : decode cX0_mostSaved 42 = .ok (.getfield 28, 3) := by decide +kernel
theorem dX0_mostSaved_45 : decode cX0_mostSaved 45 = .ok (.iload_n 3, 1) := by decide +kernel
theorem dX0_mostSaved_46 : decode cX0_mostSaved 46 = .ok (.iaload, 1) := by decide +kernel
theorem dX0_mostSaved_47 : decode cX0_mostSaved 47 = .ok (.aload_n 0, 1) := by decide +kernel
theorem dX0_mostSaved_48 : decode cX0_mostSaved 48 = .ok (.getfield 28, 3) := by decide +kernel
theorem dX0_mostSaved_51 : decode cX0_mostSaved 51 = .ok (.iload 4, 2) := by decide +kernel
theorem dX0_mostSaved_53 : decode cX0_mostSaved 53 = .ok (.iaload, 1) := by decide +kernel
theorem dX0_mostSaved_54 : decode cX0_mostSaved 54 = .ok (.if_icmp .lt 7, 3) := by decide +kernel
theorem dX0_mostSaved_57 : decode cX0_mostSaved 57 = .ok (.iconst 1, 1) := by decide +kernel
theorem dX0_mostSaved_58 : decode cX0_mostSaved 58 = .ok (.goto 4, 3) := by decide +kernel
theorem dX0_mostSaved_61 : decode cX0_mostSaved 61 = .ok (.iconst 0, 1) := by decide +kernel
theorem dX0_mostSaved_62 : decode cX0_mostSaved 62 = .ok (.istore 7, 2) := by decide +kernel
theorem dX0_mostSaved_64 : decode cX0_mostSaved 64 = .ok (.iload 7, 2) := by decide +kernel
theorem dX0_mostSaved_66 : decode cX0_mostSaved 66 = .ok (.ifCond .eq 7, 3) := by decide +kernel
theorem dX0_mostSaved_69 : decode cX0_mostSaved 69 = .ok (.iload_n 3, 1) := by decide +kernel
theorem dX0_mostSaved_70 : decode cX0_mostSaved 70 = .ok (.goto 5, 3) := by decide +kernel
theorem dX0_mostSaved_73 : decode cX0_mostSaved 73 = .ok (.iload 4, 2) := by decide +kernel
theorem dX0_mostSaved_75 : decode cX0_mostSaved 75 = .ok (.istore 8, 2) := by decide +kernel
theorem dX0_mostSaved_77 : decode cX0_mostSaved 77 = .ok (.iload 5, 2) := by decide +kernel
theorem dX0_mostSaved_79 : decode cX0_mostSaved 79 = .ok (.aload_n 0, 1) := by decide +kernel
theorem dX0_mostSaved_80 : decode cX0_mostSaved 80 = .ok (.getfield 34, 3) := by decide +kernel
theorem dX0_mostSaved_83 : decode cX0_mostSaved 83 = .ok (.iload 8, 2) := by decide +kernel
theorem dX0_mostSaved_85 : decode cX0_mostSaved 85 = .ok (.iaload, 1) := by decide +kernel
theorem dX0_mostSaved_86 : decode cX0_mostSaved 86 = .ok (.aload_n 0, 1) := by decide +kernel
theorem dX0_mostSaved_87 : decode cX0_mostSaved 87 = .ok (.aload_n 0, 1) := by decide +kernel
theorem dX0_mostSaved_88 : decode cX0_mostSaved 88 = .ok (.getfield 31, 3) := by decide +kernel
theorem dX0_mostSaved_91 : decode cX0_mostSaved 91 = .ok (.iload 8, 2) := by decide +kernel
theorem dX0_mostSaved_93 : decode cX0_mostSaved 93 = .ok (.iaload, 1) := by decide +kernel
theorem dX0_mostSaved_94 : decode cX0_mostSaved 94 = .ok (.iload 6, 2) := by decide +kernel
theorem dX0_mostSaved_96 : decode cX0_mostSaved 96 = .ok (.invokevirtual 140, 3) := by decide +kernel
theorem dX0_mostSaved_99 : decode cX0_mostSaved 99 = .ok (.iadd, 1) := by decide +kernel
theorem dX0_mostSaved_100 : decode cX0_mostSaved 100 = .ok (.invokestatic 131, 3) := by decide +kernel
theorem dX0_mostSaved_103 : decode cX0_mostSaved 103 = .ok (.istore 5, 2) := by decide +kernel
theorem dX0_mostSaved_105 : decode cX0_mostSaved 105 = .ok (.aload_n 0, 1) := by decide +kernel
theorem dX0_mostSaved_106 : decode cX0_mostSaved 106 = .ok (.getfield 40, 3) := by decide +kernel
theorem dX0_mostSaved_109 : decode cX0_mostSaved 109 = .ok (.iload 6, 2) := by decide +kernel
theorem dX0_mostSaved_111 : decode cX0_mostSaved 111 = .ok (.aload_n 0, 1) := by decide +kernel
theorem dX0_mostSaved_112 : decode cX0_mostSaved 112 = .ok (.getfield 28, 3) := by decide +kernel
theorem dX0_mostSaved_115 : decode cX0_mostSaved 115 = .ok (.iload 8, 2) := by decide +kernel
theorem dX0_mostSaved_117 : decode cX0_mostSaved 117 = .ok (.iaload, 1) := by decide +kernel
theorem dX0_mostSaved_118 : decode cX0_mostSaved 118 = .ok (.iastore, 1) := by decide +kernel
theorem dX0_mostSaved_119 : decode cX0_mostSaved 119 = .ok (.aload_n 0, 1) := by decide +kernel
theorem dX0_mostSaved_120 : decode cX0_mostSaved 120 = .ok (.getfield 43, 3) := by decide +kernel
theorem dX0_mostSaved_123 : decode cX0_mostSaved 123 = .ok (.iload 6, 2) := by decide +kernel
theorem dX0_mostSaved_125 : decode cX0_mostSaved 125 = .ok (.iload 5, 2) := by decide +kernel
theorem dX0_mostSaved_127 : decode cX0_mostSaved 127 = .ok (.iastore, 1) := by decide +kernel
theorem dX0_mostSaved_128 : decode cX0_mostSaved 128 = .ok (.iload 7, 2) := by decide +kernel
theorem dX0_mostSaved_130 : decode cX0_mostSaved 130 = .ok (.ifCond .eq 13, 3) := by decide +kernel
theorem dX0_mostSaved_133 : decode cX0_mostSaved 133 = .ok (.aload_n 0, 1) := by decide +kernel
theorem dX0_mostSaved_134 : decode cX0_mostSaved 134 = .ok (.getfield 37, 3) := by decide +kernel
theorem dX0_mostSaved_137 : decode cX0_mostSaved 137 = .ok (.iload_n 3, 1) := by decide +kernel
theorem dX0_mostSaved_138 : decode cX0_mostSaved 138 = .ok (.iaload, 1) := by decide +kernel
theorem dX0_mostSaved_139 : decode cX0_mostSaved 139 = .ok (.istore_n 3, 1) := by decide +kernel
theorem dX0_mostSaved_140 : decode cX0_mostSaved 140 = .ok (.goto 12, 3) := by decide +kernel
theorem dX0_mostSaved_143 : decode cX0_mostSaved 143 = .ok (.aload_n 0, 1) := by decide +kernel
theorem dX0_mostSaved_144 : decode cX0_mostSaved 144 = .ok (.getfield 37, 3) := by decide +kernel
theorem dX0_mostSaved_147 : decode cX0_mostSaved 147 = .ok (.iload 4, 2) := by decide +kernel
theorem dX0_mostSaved_149 : decode cX0_mostSaved 149 = .ok (.iaload, 1) := by decide +kernel
theorem dX0_mostSaved_150 : decode cX0_mostSaved 150 = .ok (.istore 4, 2) := by decide +kernel
theorem dX0_mostSaved_152 : decode cX0_mostSaved 152 = .ok (.iinc 6 1, 3) := by decide +kernel
theorem dX0_mostSaved_155 : decode cX0_mostSaved 155 = .ok (.goto (-144), 3) := by decide +kernel
theorem dX0_mostSaved_158 : decode cX0_mostSaved 158 = .ok (.iload 5, 2) := by decide +kernel
theorem dX0_mostSaved_160 : decode cX0_mostSaved 160 = .ok (.ireturn, 1) := by decide +kernel
theorem dX0_savedFrom_0 : decode cX0_savedFrom 0 = .ok (.iload_n 2, 1) := by decide +kernel
theorem dX0_savedFrom_1 : decode cX0_savedFrom 1 = .ok (.iconst 1, 1) := by decide +kernel
theorem dX0_savedFrom_2 : decode cX0_savedFrom 2 = .ok (.isub, 1) := by decide +kernel
theorem dX0_savedFrom_3 : decode cX0_savedFrom 3 = .ok (.istore_n 3, 1) := by decide +kernel
theorem dX0_savedFrom_4 : decode cX0_savedFrom 4 = .ok (.iload_n 3, 1) := by decide +kernel
theorem dX0_savedFrom_5 : decode cX0_savedFrom 5 = .ok (.ifCond .lt 26, 3) := by decide +kernel
theorem dX0_savedFrom_8 : decode cX0_savedFrom 8 = .ok (.aload_n 0, 1) := by decide +kernel
theorem dX0_savedFrom_9 : decode cX0_savedFrom 9 = .ok (.getfield 40, 3) := by decide +kernel
theorem dX0_savedFrom_12 : decode cX0_savedFrom 12 = .ok (.iload_n 3, 1) := by decide +kernel
theorem dX0_savedFrom_13 : decode cX0_savedFrom 13 = .ok (.iaload, 1) := by decide +kernel
theorem dX0_savedFrom_14 : decode cX0_savedFrom 14 = .ok (.iload_n 1, 1) := by decide +kernel
theorem dX0_savedFrom_15 : decode cX0_savedFrom 15 = .ok (.if_icmp .lt 10, 3) := by decide +kernel
theorem dX0_savedFrom_18 : decode cX0_savedFrom 18 = .ok (.aload_n 0, 1) := by decide +kernel
theorem dX0_savedFrom_19 : decode cX0_savedFrom 19 = .ok (.getfield 43, 3) := by decide +kernel
theorem dX0_savedFrom_22 : decode cX0_savedFrom 22 = .ok (.iload_n 3, 1) := by decide +kernel
theorem dX0_savedFrom_23 : decode cX0_savedFrom 23 = .ok (.iaload, 1) := by decide +kernel
theorem dX0_savedFrom_24 : decode cX0_savedFrom 24 = .ok (.ireturn, 1) := by decide +kernel
theorem dX0_savedFrom_25 : decode cX0_savedFrom 25 = .ok (.iinc 3 (-1), 3) := by decide +kernel
theorem dX0_savedFrom_28 : decode cX0_savedFrom 28 = .ok (.goto (-24), 3) := by decide +kernel
theorem dX0_savedFrom_31 : decode cX0_savedFrom 31 = .ok (.iconst 0, 1) := by decide +kernel
theorem dX0_savedFrom_32 : decode cX0_savedFrom 32 = .ok (.ireturn, 1) := by decide +kernel
theorem dX1_isOne_0 : decode cX1_isOne 0 = .ok (.iload_n 0, 1) := by decide +kernel
theorem dX1_isOne_1 : decode cX1_isOne 1 = .ok (.ifCond .lt 13, 3) := by decide +kernel
theorem dX1_isOne_4 : decode cX1_isOne 4 = .ok (.iload_n 0, 1) := by decide +kernel
theorem dX1_isOne_5 : decode cX1_isOne 5 = .ok (.bipush 16, 2) := by decide +kernel
theorem dX1_isOne_7 : decode cX1_isOne 7 = .ok (.if_icmp .ge 7, 3) := by decide +kernel
theorem dX1_isOne_10 : decode cX1_isOne 10 = .ok (.iconst 1, 1) := by decide +kernel
theorem dX1_isOne_11 : decode cX1_isOne 11 = .ok (.goto 4, 3) := by decide +kernel
theorem dX1_isOne_14 : decode cX1_isOne 14 = .ok (.iconst 0, 1) := by decide +kernel
theorem dX1_isOne_15 : decode cX1_isOne 15 = .ok (.ireturn, 1) := by decide +kernel
theorem dX1_hasArgument_0 : decode cX1_hasArgument 0 = .ok (.getstatic 9, 3) := by decide +kernel
theorem dX1_hasArgument_3 : decode cX1_hasArgument 3 = .ok (.iload_n 0, 1) := by decide +kernel
theorem dX1_hasArgument_4 : decode cX1_hasArgument 4 = .ok (.iaload, 1) := by decide +kernel
theorem dX1_hasArgument_5 : decode cX1_hasArgument 5 = .ok (.ifCond .le 7, 3) := by decide +kernel
theorem dX1_hasArgument_8 : decode cX1_hasArgument 8 = .ok (.iconst 1, 1) := by decide +kernel
theorem dX1_hasArgument_9 : decode cX1_hasArgument 9 = .ok (.goto 4, 3) := by decide +kernel
theorem dX1_hasArgument_12 : decode cX1_hasArgument 12 = .ok (.iconst 0, 1) := by decide +kernel
theorem dX1_hasArgument_13 : decode cX1_hasArgument 13 = .ok (.ireturn, 1) := by decide +kernel
theorem dX1_fits_0 : decode cX1_fits 0 = .ok (.iload_n 1, 1) := by decide +kernel
theorem dX1_fits_1 : decode cX1_fits 1 = .ok (.getstatic 13, 3) := by decide +kernel
theorem dX1_fits_4 : decode cX1_fits 4 = .ok (.iload_n 0, 1) := by decide +kernel
theorem dX1_fits_5 : decode cX1_fits 5 = .ok (.iaload, 1) := by decide +kernel
theorem dX1_fits_6 : decode cX1_fits 6 = .ok (.if_icmp .lt 16, 3) := by decide +kernel
theorem dX1_fits_9 : decode cX1_fits 9 = .ok (.iload_n 1, 1) := by decide +kernel
theorem dX1_fits_10 : decode cX1_fits 10 = .ok (.getstatic 9, 3) := by decide +kernel
theorem dX1_fits_13 : decode cX1_fits 13 = .ok (.iload_n 0, 1) := by decide +kernel
theorem dX1_fits_14 : decode cX1_fits 14 = .ok (.iaload, 1) := by decide +kernel
theorem dX1_fits_15 : decode cX1_fits 15 = .ok (.if_icmp .gt 7, 3) := by decide +kernel
theorem dX1_fits_18 : decode cX1_fits 18 = .ok (.iconst 1, 1) := by decide +kernel
theorem dX1_fits_19 : decode cX1_fits 19 = .ok (.goto 4, 3) := by decide +kernel
theorem dX1_fits_22 : decode cX1_fits 22 = .ok (.iconst 0, 1) := by decide +kernel
theorem dX1_fits_23 : decode cX1_fits 23 = .ok (.ireturn, 1) := by decide +kernel
theorem dX1_leads_0 : decode cX1_leads 0 = .ok (.iload_n 0, 1) := by decide +kernel
theorem dX1_leads_1 : decode cX1_leads 1 = .ok (.bipush 9, 2) := by decide +kernel
theorem dX1_leads_3 : decode cX1_leads 3 = .ok (.if_icmp .eq 9, 3) := by decide +kernel
theorem dX1_leads_6 : decode cX1_leads 6 = .ok (.iload_n 0, 1) := by decide +kernel
theorem dX1_leads_7 : decode cX1_leads 7 = .ok (.bipush 10, 2) := by decide +kernel
theorem dX1_leads_9 : decode cX1_leads 9 = .ok (.if_icmp .ne 7, 3) := by decide +kernel
theorem dX1_leads_12 : decode cX1_leads 12 = .ok (.iconst 1, 1) := by decide +kernel
theorem dX1_leads_13 : decode cX1_leads 13 = .ok (.goto 4, 3) := by decide +kernel
theorem dX1_leads_16 : decode cX1_leads 16 = .ok (.iconst 0, 1) := by decide +kernel
theorem dX1_leads_17 : decode cX1_leads 17 = .ok (.ireturn, 1) := by decide +kernel
theorem dX1_isLastAlone_0 : decode cX1_isLastAlone 0 = .ok (.iload_n 0, 1) := by decide +kernel
theorem dX1_isLastAlone_1 : decode cX1_isLastAlone 1 = .ok (.invokestatic 16, 3) := by decide +kernel
theorem dX1_isLastAlone_4 : decode cX1_isLastAlone 4 = .ok (.ifCond .ne 9, 3) := by decide +kernel
theorem dX1_isLastAlone_7 : decode cX1_isLastAlone 7 = .ok (.iload_n 0, 1) := by decide +kernel
theorem dX1_isLastAlone_8 : decode cX1_isLastAlone 8 = .ok (.bipush 13, 2) := by decide +kernel
theorem dX1_isLastAlone_10 : decode cX1_isLastAlone 10 = .ok (.if_icmp .ne 7, 3) := by decide +kernel
theorem dX1_isLastAlone_13 : decode cX1_isLastAlone 13 = .ok (.iconst 1, 1) := by decide +kernel
theorem dX1_isLastAlone_14 : decode cX1_isLastAlone 14 = .ok (.goto 4, 3) := by decide +kernel
theorem dX1_isLastAlone_17 : decode cX1_isLastAlone 17 = .ok (.iconst 0, 1) := by decide +kernel
theorem dX1_isLastAlone_18 : decode cX1_isLastAlone 18 = .ok (.ireturn, 1) := by decide +kernel
theorem dX2_init_0 : decode cX2_init 0 = .ok (.aload_n 0, 1) := by decide +kernel
theorem dX2_init_1 : decode cX2_init 1 = .ok (.invokespecial 5, 3) := by decide +kernel
theorem dX2_init_4 : decode cX2_init 4 = .ok (.aload_n 0, 1) := by decide +kernel
theorem dX2_init_5 : decode cX2_init 5 = .ok (.new 1, 3) := by decide +kernel
theorem dX2_init_8 : decode cX2_init 8 = .ok (.dup, 1) := by decide +kernel
theorem dX2_init_9 : decode cX2_init 9 = .ok (.invokespecial 11, 3) := by decide +kernel
theorem dX2_init_12 : decode cX2_init 12 = .ok (.putfield 12, 3) := by decide +kernel
theorem dX2_init_15 : decode cX2_init 15 = .ok (.aload_n 0, 1) := by decide +kernel
theorem dX2_init_16 : decode cX2_init 16 = .ok (.bipush 40, 2) := by decide +kernel
theorem dX2_init_18 : decode cX2_init 18 = .ok (.newarray .int, 2) := by decide +kernel
theorem dX2_init_20 : decode cX2_init 20 = .ok (.putfield 18, 3) := by decide +kernel
theorem dX2_init_23 : decode cX2_init 23 = .ok (.aload_n 0, 1) := by decide +kernel
theorem dX2_init_24 : decode cX2_init 24 = .ok (.bipush 40, 2) := by decide +kernel
theorem dX2_init_26 : decode cX2_init 26 = .ok (.newarray .int, 2) := by decide +kernel
theorem dX2_init_28 : decode cX2_init 28 = .ok (.putfield 22, 3) := by decide +kernel
theorem dX2_init_31 : decode cX2_init 31 = .ok (.aload_n 0, 1) := by decide +kernel
theorem dX2_init_32 : decode cX2_init 32 = .ok (.bipush 40, 2) := by decide +kernel
theorem dX2_init_34 : decode cX2_init 34 = .ok (.newarray .int, 2) := by decide +kernel
theorem dX2_init_36 : decode cX2_init 36 = .ok (.putfield 25, 3) := by decide +kernel
theorem dX2_init_39 : decode cX2_init 39 = .ok (.aload_n 0, 1) := by decide +kernel
theorem dX2_init_40 : decode cX2_init 40 = .ok (.bipush 80, 2) := by decide +kernel
theorem dX2_init_42 : decode cX2_init 42 = .ok (.newarray .int, 2) := by decide +kernel
theorem dX2_init_44 : decode cX2_init 44 = .ok (.putfield 28, 3) := by decide +kernel
theorem dX2_init_47 : decode cX2_init 47 = .ok (.aload_n 0, 1) := by decide +kernel
theorem dX2_init_48 : decode cX2_init 48 = .ok (.bipush 40, 2) := by decide +kernel
theorem dX2_init_50 : decode cX2_init 50 = .ok (.newarray .int, 2) := by decide +kernel
theorem dX2_init_52 : decode cX2_init 52 = .ok (.putfield 31, 3) := by decide +kernel
theorem dX2_init_55 : decode cX2_init 55 = .ok (.return_, 1) := by decide +kernel
theorem dX2_hasCode_0 : decode cX2_hasCode 0 = .ok (.aload_n 0, 1) := by decide +kernel
theorem dX2_hasCode_1 : decode cX2_hasCode 1 = .ok (.getfield 34, 3) := by decide +kernel
theorem dX2_hasCode_4 : decode cX2_hasCode 4 = .ok (.ifCond .eq 19, 3) := by decide +kernel
theorem dX2_hasCode_7 : decode cX2_hasCode 7 = .ok (.iload_n 1, 1) := by decide +kernel
theorem dX2_hasCode_8 : decode cX2_hasCode 8 = .ok (.ifCond .lt 15, 3) := by decide +kernel
theorem dX2_hasCode_11 : decode cX2_hasCode 11 = .ok (.iload_n 1, 1) := by decide +kernel
theorem dX2_hasCode_12 : decode cX2_hasCode 12 = .ok (.aload_n 0, 1) := by decide +kernel
theorem dX2_hasCode_13 : decode cX2_hasCode 13 = .ok (.getfield 38, 3) := by decide +kernel
theorem dX2_hasCode_16 : decode cX2_hasCode 16 = .ok (.if_icmp .ge 7, 3) := by decide +kernel
theorem dX2_hasCode_19 : decode cX2_hasCode 19 = .ok (.iconst 1, 1) := by decide +kernel
theorem dX2_hasCode_20 : decode cX2_hasCode 20 = .ok (.goto 4, 3) := by decide +kernel
theorem dX2_hasCode_23 : decode cX2_hasCode 23 = .ok (.iconst 0, 1) := by decide +kernel
theorem dX2_hasCode_24 : decode cX2_hasCode 24 = .ok (.ireturn, 1) := by decide +kernel
theorem dX2_hasByte_0 : decode cX2_hasByte 0 = .ok (.aload_n 0, 1) := by decide +kernel
theorem dX2_hasByte_1 : decode cX2_hasByte 1 = .ok (.getfield 34, 3) := by decide +kernel
theorem dX2_hasByte_4 : decode cX2_hasByte 4 = .ok (.ifCond .eq 19, 3) := by decide +kernel
theorem dX2_hasByte_7 : decode cX2_hasByte 7 = .ok (.iload_n 1, 1) := by decide +kernel
theorem dX2_hasByte_8 : decode cX2_hasByte 8 = .ok (.ifCond .lt 15, 3) := by decide +kernel
theorem dX2_hasByte_11 : decode cX2_hasByte 11 = .ok (.iload_n 1, 1) := by decide +kernel
theorem dX2_hasByte_12 : decode cX2_hasByte 12 = .ok (.aload_n 0, 1) := by decide +kernel
theorem dX2_hasByte_13 : decode cX2_hasByte 13 = .ok (.getfield 42, 3) := by decide +kernel
theorem dX2_hasByte_16 : decode cX2_hasByte 16 = .ok (.if_icmp .ge 7, 3) := by decide +kernel
theorem dX2_hasByte_19 : decode cX2_hasByte 19 = .ok (.iconst 1, 1) := by decide +kernel
theorem dX2_hasByte_20 : decode cX2_hasByte 20 = .ok (.goto 4, 3) := by decide +kernel
theorem dX2_hasByte_23 : decode cX2_hasByte 23 = .ok (.iconst 0, 1) := by decide +kernel
theorem dX2_hasByte_24 : decode cX2_hasByte 24 = .ok (.ireturn, 1) := by decide +kernel
theorem dX2_beginsAt_0 : decode cX2_beginsAt 0 = .ok (.aload_n 0, 1) := by decide +kernel
theorem dX2_beginsAt_1 : decode cX2_beginsAt 1 = .ok (.getfield 31, 3) := by decide +kernel
theorem dX2_beginsAt_4 : decode cX2_beginsAt 4 = .ok (.iload_n 1, 1) := by decide +kernel
theorem dX2_beginsAt_5 : decode cX2_beginsAt 5 = .ok (.iaload, 1) := by decide +kernel
theorem dX2_beginsAt_6 : decode cX2_beginsAt 6 = .ok (.iconst (-1), 1) := by decide +kernel
theorem dX2_beginsAt_7 : decode cX2_beginsAt 7 = .ok (.if_icmp .eq 7, 3) := by decide +kernel
theorem dX2_beginsAt_10 : decode cX2_beginsAt 10 = .ok (.iconst 1, 1) := by decide +kernel
theorem dX2_beginsAt_11 : decode cX2_beginsAt 11 = .ok (.goto 4, 3) := by decide +kernel
theorem dX2_beginsAt_14 : decode cX2_beginsAt 14 = .ok (.iconst 0, 1) := by decide +kernel
theorem dX2_beginsAt_15 : decode cX2_beginsAt 15 = .ok (.ireturn, 1) := by decide +kernel
theorem dX2_make_0 : decode cX2_make 0 = .ok (.aload_n 0, 1) := by decide +kernel
theorem dX2_make_1 : decode cX2_make 1 = .ok (.iconst 1, 1) := by decide +kernel
theorem dX2_make_2 : decode cX2_make 2 = .ok (.putfield 34, 3) := by decide +kernel
theorem dX2_make_5 : decode cX2_make 5 = .ok (.aload_n 0, 1) := by decide +kernel
theorem dX2_make_6 : decode cX2_make 6 = .ok (.getfield 12, 3) := by decide +kernel
theorem dX2_make_9 : decode cX2_make 9 = .ok (.aload_n 1, 1) := by decide +kernel
theorem dX2_make_10 : decode cX2_make 10 = .ok (.invokevirtual 45, 3) := by decide +kernel
theorem dX2_make_13 : decode cX2_make 13 = .ok (.aload_n 0, 1) := by decide +kernel
theorem dX2_make_14 : decode cX2_make 14 = .ok (.iconst 0, 1) := by decide +kernel
theorem dX2_make_15 : decode cX2_make 15 = .ok (.putfield 38, 3) := by decide +kernel
theorem dX2_make_18 : decode cX2_make 18 = .ok (.aload_n 0, 1) := by decide +kernel
theorem dX2_make_19 : decode cX2_make 19 = .ok (.iconst 0, 1) := by decide +kernel
theorem dX2_make_20 : decode cX2_make 20 = .ok (.putfield 42, 3) := by decide +kernel
theorem dX2_make_23 : decode cX2_make 23 = .ok (.iconst 0, 1) := by decide +kernel
theorem dX2_make_24 : decode cX2_make 24 = .ok (.istore_n 3, 1) := by decide +kernel
theorem dX2_make_25 : decode cX2_make 25 = .ok (.iconst 0, 1) := by decide +kernel
theorem dX2_make_26 : decode cX2_make 26 = .ok (.istore 4, 2) := by decide +kernel
theorem dX2_make_28 : decode cX2_make 28 = .ok (.iload 4, 2) := by decide +kernel
theorem dX2_make_30 : decode cX2_make 30 = .ok (.aload_n 0, 1) := by decide +kernel
theorem dX2_make_31 : decode cX2_make 31 = .ok (.getfield 12, 3) := by decide +kernel
theorem dX2_make_34 : decode cX2_make 34 = .ok (.getfield 49, 3) := by decide +kernel
theorem dX2_make_37 : decode cX2_make 37 = .ok (.if_icmp .ge 96, 3) := by decide +kernel
theorem dX2_make_40 : decode cX2_make 40 = .ok (.aload_n 0, 1) := by decide +kernel
theorem dX2_make_41 : decode cX2_make 41 = .ok (.getfield 31, 3) := by decide +kernel
theorem dX2_make_44 : decode cX2_make 44 = .ok (.iload 4, 2) := by decide +kernel
theorem dX2_make_46 : decode cX2_make 46 = .ok (.iload 4, 2) := by decide +kernel
theorem dX2_make_48 : decode cX2_make 48 = .ok (.iload_n 3, 1) := by decide +kernel
theorem dX2_make_49 : decode cX2_make 49 = .ok (.if_icmp .ne 10, 3) := by decide +kernel
theorem dX2_make_52 : decode cX2_make 52 = .ok (.aload_n 0, 1) := by decide +kernel
theorem dX2_make_53 : decode cX2_make 53 = .ok (.getfield 38, 3) := by decide +kernel
theorem dX2_make_56 : decode cX2_make 56 = .ok (.goto 4, 3) := by decide +kernel
theorem dX2_make_59 : decode cX2_make 59 = .ok (.iconst (-1), 1) := by decide +kernel
theorem dX2_make_60 : decode cX2_make 60 = .ok (.iastore, 1) := by decide +kernel
theorem dX2_make_61 : decode cX2_make 61 = .ok (.iload 4, 2) := by decide +kernel
theorem dX2_make_63 : decode cX2_make 63 = .ok (.iload_n 3, 1) := by decide +kernel
theorem dX2_make_64 : decode cX2_make 64 = .ok (.if_icmp .ne 33, 3) := by decide +kernel
theorem dX2_make_67 : decode cX2_make 67 = .ok (.aload_n 0, 1) := by decide +kernel
theorem dX2_make_68 : decode cX2_make 68 = .ok (.iload 4, 2) := by decide +kernel
theorem dX2_make_70 : decode cX2_make 70 = .ok (.aload_n 2, 1) := by decide +kernel
theorem dX2_make_71 : decode cX2_make 71 = .ok (.getfield 52, 3) := by decide +kernel
theorem dX2_make_74 : decode cX2_make 74 = .ok (.iload 4, 2) := by decide +kernel
theorem dX2_make_76 : decode cX2_make 76 = .ok (.iaload, 1) := by decide +kernel
theorem dX2_make_77 : decode cX2_make 77 = .ok (.aload_n 2, 1) := by decide +kernel
theorem dX2_make_78 : decode cX2_make 78 = .ok (.getfield 55, 3) := by decide +kernel
theorem dX2_make_81 : decode cX2_make 81 = .ok (.iload 4, 2) := by decide +kernel
theorem dX2_make_83 : decode cX2_make 83 = .ok (.iaload, 1) := by decide +kernel
theorem dX2_make_84 : decode cX2_make 84 = .ok (.invokevirtual 56, 3) := by decide +kernel
theorem dX2_make_87 : decode cX2_make 87 = .ok (.iload_n 3, 1) := by decide +kernel
theorem dX2_make_88 : decode cX2_make 88 = .ok (.aload_n 2, 1) := by decide +kernel
theorem dX2_make_89 : decode cX2_make 89 = .ok (.getfield 55, 3) := by decide +kernel
theorem dX2_make_92 : decode cX2_make 92 = .ok (.iload 4, 2) := by decide +kernel
theorem dX2_make_94 : decode cX2_make 94 = .ok (.iaload, 1) := by decide +kernel
theorem dX2_make_95 : decode cX2_make 95 = .ok (.iadd, 1) := by decide +kernel
theorem dX2_make_96 : decode cX2_make 96 = .ok (.istore_n 3, 1) := by decide +kernel
theorem dX2_make_97 : decode cX2_make 97 = .ok (.aload_n 0, 1) := by decide +kernel
theorem dX2_make_98 : decode cX2_make 98 = .ok (.getfield 12, 3) := by decide +kernel
theorem dX2_make_101 : decode cX2_make 101 = .ok (.getfield 60, 3) := by decide +kernel
theorem dX2_make_104 : decode cX2_make 104 = .ok (.iload 4, 2) := by decide +kernel
theorem dX2_make_106 : decode cX2_make 106 = .ok (.iaload, 1) := by decide +kernel
theorem dX2_make_107 : decode cX2_make 107 = .ok (.invokestatic 63, 3) := by decide +kernel
theorem dX2_make_110 : decode cX2_make 110 = .ok (.ifCond .eq 17, 3) := by decide +kernel
theorem dX2_make_113 : decode cX2_make 113 = .ok (.aload_n 0, 1) := by decide +kernel
theorem dX2_make_114 : decode cX2_make 114 = .ok (.aload_n 0, 1) := by decide +kernel
theorem dX2_make_115 : decode cX2_make 115 = .ok (.getfield 12, 3) := by decide +kernel
theorem dX2_make_118 : decode cX2_make 118 = .ok (.getfield 69, 3) := by decide +kernel
theorem dX2_make_121 : decode cX2_make 121 = .ok (.iload 4, 2) := by decide +kernel
theorem dX2_make_123 : decode cX2_make 123 = .ok (.iaload, 1) := by decide +kernel
theorem dX2_make_124 : decode cX2_make 124 = .ok (.invokevirtual 72, 3) := by decide +kernel
theorem dX2_make_127 : decode cX2_make 127 = .ok (.iinc 4 1, 3) := by decide +kernel
theorem dX2_make_130 : decode cX2_make 130 = .ok (.goto (-102), 3) := by decide +kernel
theorem dX2_make_133 : decode cX2_make 133 = .ok (.return_, 1) := by decide +kernel
theorem dX2_beginCode_0 : decode cX2_beginCode 0 = .ok (.aload_n 0, 1) := by decide +kernel
theorem dX2_beginCode_1 : decode cX2_beginCode 1 = .ok (.getfield 18, 3) := by decide +kernel
theorem dX2_beginCode_4 : decode cX2_beginCode 4 = .ok (.aload_n 0, 1) := by decide +kernel
theorem dX2_beginCode_5 : decode cX2_beginCode 5 = .ok (.getfield 38, 3) := by decide +kernel
theorem dX2_beginCode_8 : decode cX2_beginCode 8 = .ok (.iload_n 2, 1) := by decide +kernel
theorem dX2_beginCode_9 : decode cX2_beginCode 9 = .ok (.iastore, 1) := by decide +kernel
theorem dX2_beginCode_10 : decode cX2_beginCode 10 = .ok (.aload_n 0, 1) := by decide +kernel
theorem dX2_beginCode_11 : decode cX2_beginCode 11 = .ok (.getfield 22, 3) := by decide +kernel
theorem dX2_beginCode_14 : decode cX2_beginCode 14 = .ok (.aload_n 0, 1) := by decide +kernel
theorem dX2_beginCode_15 : decode cX2_beginCode 15 = .ok (.getfield 38, 3) := by decide +kernel
theorem dX2_beginCode_18 : decode cX2_beginCode 18 = .ok (.iload_n 1, 1) := by decide +kernel
theorem dX2_beginCode_19 : decode cX2_beginCode 19 = .ok (.iastore, 1) := by decide +kernel
theorem dX2_beginCode_20 : decode cX2_beginCode 20 = .ok (.aload_n 0, 1) := by decide +kernel
theorem dX2_beginCode_21 : decode cX2_beginCode 21 = .ok (.getfield 25, 3) := by decide +kernel
theorem dX2_beginCode_24 : decode cX2_beginCode 24 = .ok (.aload_n 0, 1) := by decide +kernel
theorem dX2_beginCode_25 : decode cX2_beginCode 25 = .ok (.getfield 38, 3) := by decide +kernel
theorem dX2_beginCode_28 : decode cX2_beginCode 28 = .ok (.iload_n 3, 1) := by decide +kernel
theorem dX2_beginCode_29 : decode cX2_beginCode 29 = .ok (.iastore, 1) := by decide +kernel
theorem dX2_beginCode_30 : decode cX2_beginCode 30 = .ok (.aload_n 0, 1) := by decide +kernel
theorem dX2_beginCode_31 : decode cX2_beginCode 31 = .ok (.dup, 1) := by decide +kernel
theorem dX2_beginCode_32 : decode cX2_beginCode 32 = .ok (.getfield 38, 3) := by decide +kernel
theorem dX2_beginCode_35 : decode cX2_beginCode 35 = .ok (.iconst 1, 1) := by decide +kernel
theorem dX2_beginCode_36 : decode cX2_beginCode 36 = .ok (.iadd, 1) := by decide +kernel
theorem dX2_beginCode_37 : decode cX2_beginCode 37 = .ok (.putfield 38, 3) := by decide +kernel
theorem dX2_beginCode_40 : decode cX2_beginCode 40 = .ok (.aload_n 0, 1) := by decide +kernel
theorem dX2_beginCode_41 : decode cX2_beginCode 41 = .ok (.iload_n 2, 1) := by decide +kernel
theorem dX2_beginCode_42 : decode cX2_beginCode 42 = .ok (.invokevirtual 72, 3) := by decide +kernel
theorem dX2_beginCode_45 : decode cX2_beginCode 45 = .ok (.return_, 1) := by decide +kernel
theorem dX2_write_0 : decode cX2_write 0 = .ok (.aload_n 0, 1) := by decide +kernel
theorem dX2_write_1 : decode cX2_write 1 = .ok (.getfield 28, 3) := by decide +kernel
theorem dX2_write_4 : decode cX2_write 4 = .ok (.aload_n 0, 1) := by decide +kernel
theorem dX2_write_5 : decode cX2_write 5 = .ok (.getfield 42, 3) := by decide +kernel
theorem dX2_write_8 : decode cX2_write 8 = .ok (.iload_n 1, 1) := by decide +kernel
theorem dX2_write_9 : decode cX2_write 9 = .ok (.sipush 255, 3) := by decide +kernel
theorem dX2_write_12 : decode cX2_write 12 = .ok (.iand, 1) := by decide +kernel
theorem dX2_write_13 : decode cX2_write 13 = .ok (.iastore, 1) := by decide +kernel
theorem dX2_write_14 : decode cX2_write 14 = .ok (.aload_n 0, 1) := by decide +kernel
theorem dX2_write_15 : decode cX2_write 15 = .ok (.dup, 1) := by decide +kernel
theorem dX2_write_16 : decode cX2_write 16 = .ok (.getfield 42, 3) := by decide +kernel
theorem dX2_write_19 : decode cX2_write 19 = .ok (.iconst 1, 1) := by decide +kernel
theorem dX2_write_20 : decode cX2_write 20 = .ok (.iadd, 1) := by decide +kernel
theorem dX2_write_21 : decode cX2_write 21 = .ok (.putfield 42, 3) := by decide +kernel
theorem dX2_write_24 : decode cX2_write 24 = .ok (.return_, 1) := by decide +kernel
theorem dX2_copyFrom_0 : decode cX2_copyFrom 0 = .ok (.aload_n 0, 1) := by decide +kernel
theorem dX2_copyFrom_1 : decode cX2_copyFrom 1 = .ok (.aload_n 1, 1) := by decide +kernel
theorem dX2_copyFrom_2 : decode cX2_copyFrom 2 = .ok (.getfield 34, 3) := by decide +kernel
theorem dX2_copyFrom_5 : decode cX2_copyFrom 5 = .ok (.putfield 34, 3) := by decide +kernel
theorem dX2_copyFrom_8 : decode cX2_copyFrom 8 = .ok (.aload_n 0, 1) := by decide +kernel
theorem dX2_copyFrom_9 : decode cX2_copyFrom 9 = .ok (.getfield 12, 3) := by decide +kernel
theorem dX2_copyFrom_12 : decode cX2_copyFrom 12 = .ok (.aload_n 1, 1) := by decide +kernel
theorem dX2_copyFrom_13 : decode cX2_copyFrom 13 = .ok (.getfield 12, 3) := by decide +kernel
theorem dX2_copyFrom_16 : decode cX2_copyFrom 16 = .ok (.invokevirtual 45, 3) := by decide +kernel
theorem dX2_copyFrom_19 : decode cX2_copyFrom 19 = .ok (.aload_n 0, 1) := by decide +kernel
theorem dX2_copyFrom_20 : decode cX2_copyFrom 20 = .ok (.aload_n 1, 1) := by decide +kernel
theorem dX2_copyFrom_21 : decode cX2_copyFrom 21 = .ok (.getfield 38, 3) := by decide +kernel
theorem dX2_copyFrom_24 : decode cX2_copyFrom 24 = .ok (.putfield 38, 3) := by decide +kernel
theorem dX2_copyFrom_27 : decode cX2_copyFrom 27 = .ok (.aload_n 1, 1) := by decide +kernel
theorem dX2_copyFrom_28 : decode cX2_copyFrom 28 = .ok (.getfield 18, 3) := by decide +kernel
theorem dX2_copyFrom_31 : decode cX2_copyFrom 31 = .ok (.iconst 0, 1) := by decide +kernel
theorem dX2_copyFrom_32 : decode cX2_copyFrom 32 = .ok (.aload_n 0, 1) := by decide +kernel
theorem dX2_copyFrom_33 : decode cX2_copyFrom 33 = .ok (.getfield 18, 3) := by decide +kernel
theorem dX2_copyFrom_36 : decode cX2_copyFrom 36 = .ok (.iconst 0, 1) := by decide +kernel
theorem dX2_copyFrom_37 : decode cX2_copyFrom 37 = .ok (.bipush 40, 2) := by decide +kernel
theorem dX2_copyFrom_39 : decode cX2_copyFrom 39 = .ok (.invokestatic 76, 3) := by decide +kernel
theorem dX2_copyFrom_42 : decode cX2_copyFrom 42 = .ok (.aload_n 1, 1) := by decide +kernel
theorem dX2_copyFrom_43 : decode cX2_copyFrom 43 = .ok (.getfield 22, 3) := by decide +kernel
theorem dX2_copyFrom_46 : decode cX2_copyFrom 46 = .ok (.iconst 0, 1) := by decide +kernel
theorem dX2_copyFrom_47 : decode cX2_copyFrom 47 = .ok (.aload_n 0, 1) := by decide +kernel
theorem dX2_copyFrom_48 : decode cX2_copyFrom 48 = .ok (.getfield 22, 3) := by decide +kernel
theorem dX2_copyFrom_51 : decode cX2_copyFrom 51 = .ok (.iconst 0, 1) := by decide +kernel
theorem dX2_copyFrom_52 : decode cX2_copyFrom 52 = .ok (.bipush 40, 2) := by decide +kernel
theorem dX2_copyFrom_54 : decode cX2_copyFrom 54 = .ok (.invokestatic 76, 3) := by decide +kernel
theorem dX2_copyFrom_57 : decode cX2_copyFrom 57 = .ok (.aload_n 1, 1) := by decide +kernel
theorem dX2_copyFrom_58 : decode cX2_copyFrom 58 = .ok (.getfield 25, 3) := by decide +kernel
theorem dX2_copyFrom_61 : decode cX2_copyFrom 61 = .ok (.iconst 0, 1) := by decide +kernel
theorem dX2_copyFrom_62 : decode cX2_copyFrom 62 = .ok (.aload_n 0, 1) := by decide +kernel
theorem dX2_copyFrom_63 : decode cX2_copyFrom 63 = .ok (.getfield 25, 3) := by decide +kernel
theorem dX2_copyFrom_66 : decode cX2_copyFrom 66 = .ok (.iconst 0, 1) := by decide +kernel
theorem dX2_copyFrom_67 : decode cX2_copyFrom 67 = .ok (.bipush 40, 2) := by decide +kernel
theorem dX2_copyFrom_69 : decode cX2_copyFrom 69 = .ok (.invokestatic 76, 3) := by decide +kernel
theorem dX2_copyFrom_72 : decode cX2_copyFrom 72 = .ok (.aload_n 0, 1) := by decide +kernel
theorem dX2_copyFrom_73 : decode cX2_copyFrom 73 = .ok (.aload_n 1, 1) := by decide +kernel
theorem dX2_copyFrom_74 : decode cX2_copyFrom 74 = .ok (.getfield 42, 3) := by decide +kernel
theorem dX2_copyFrom_77 : decode cX2_copyFrom 77 = .ok (.putfield 42, 3) := by decide +kernel
theorem dX2_copyFrom_80 : decode cX2_copyFrom 80 = .ok (.aload_n 1, 1) := by decide +kernel
theorem dX2_copyFrom_81 : decode cX2_copyFrom 81 = .ok (.getfield 28, 3) := by decide +kernel
theorem dX2_copyFrom_84 : decode cX2_copyFrom 84 = .ok (.iconst 0, 1) := by decide +kernel
theorem dX2_copyFrom_85 : decode cX2_copyFrom 85 = .ok (.aload_n 0, 1) := by decide +kernel
theorem dX2_copyFrom_86 : decode cX2_copyFrom 86 = .ok (.getfield 28, 3) := by decide +kernel
theorem dX2_copyFrom_89 : decode cX2_copyFrom 89 = .ok (.iconst 0, 1) := by decide +kernel
theorem dX2_copyFrom_90 : decode cX2_copyFrom 90 = .ok (.bipush 80, 2) := by decide +kernel
theorem dX2_copyFrom_92 : decode cX2_copyFrom 92 = .ok (.invokestatic 76, 3) := by decide +kernel
theorem dX2_copyFrom_95 : decode cX2_copyFrom 95 = .ok (.aload_n 1, 1) := by decide +kernel
theorem dX2_copyFrom_96 : decode cX2_copyFrom 96 = .ok (.getfield 31, 3) := by decide +kernel
theorem dX2_copyFrom_99 : decode cX2_copyFrom 99 = .ok (.iconst 0, 1) := by decide +kernel
theorem dX2_copyFrom_100 : decode cX2_copyFrom 100 = .ok (.aload_n 0, 1) := by decide +kernel
theorem dX2_copyFrom_101 : decode cX2_copyFrom 101 = .ok (.getfield 31, 3) := by decide +kernel
theorem dX2_copyFrom_104 : decode cX2_copyFrom 104 = .ok (.iconst 0, 1) := by decide +kernel
theorem dX2_copyFrom_105 : decode cX2_copyFrom 105 = .ok (.bipush 40, 2) := by decide +kernel
theorem dX2_copyFrom_107 : decode cX2_copyFrom 107 = .ok (.invokestatic 76, 3) := by decide +kernel
theorem dX2_copyFrom_110 : decode cX2_copyFrom 110 = .ok (.return_, 1) := by decide +kernel
theorem dX3_init_0 : decode cX3_init 0 = .ok (.aload_n 0, 1) := by decide +kernel
theorem dX3_init_1 : decode cX3_init 1 = .ok (.invokespecial 1, 3) := by decide +kernel
theorem dX3_init_4 : decode cX3_init 4 = .ok (.aload_n 0, 1) := by decide +kernel
theorem dX3_init_5 : decode cX3_init 5 = .ok (.bipush 40, 2) := by decide +kernel
theorem dX3_init_7 : decode cX3_init 7 = .ok (.newarray .int, 2) := by decide +kernel
theorem dX3_init_9 : decode cX3_init 9 = .ok (.putfield 9, 3) := by decide +kernel
theorem dX3_init_12 : decode cX3_init 12 = .ok (.aload_n 0, 1) := by decide +kernel
theorem dX3_init_13 : decode cX3_init 13 = .ok (.bipush 40, 2) := by decide +kernel
theorem dX3_init_15 : decode cX3_init 15 = .ok (.newarray .int, 2) := by decide +kernel
theorem dX3_init_17 : decode cX3_init 17 = .ok (.putfield 13, 3) := by decide +kernel
theorem dX3_init_20 : decode cX3_init 20 = .ok (.aload_n 0, 1) := by decide +kernel
theorem dX3_init_21 : decode cX3_init 21 = .ok (.bipush 40, 2) := by decide +kernel
theorem dX3_init_23 : decode cX3_init 23 = .ok (.newarray .int, 2) := by decide +kernel
theorem dX3_init_25 : decode cX3_init 25 = .ok (.putfield 16, 3) := by decide +kernel
theorem dX3_init_28 : decode cX3_init 28 = .ok (.aload_n 0, 1) := by decide +kernel
theorem dX3_init_29 : decode cX3_init 29 = .ok (.bipush 40, 2) := by decide +kernel
theorem dX3_init_31 : decode cX3_init 31 = .ok (.newarray .int, 2) := by decide +kernel
theorem dX3_init_33 : decode cX3_init 33 = .ok (.putfield 19, 3) := by decide +kernel
theorem dX3_init_36 : decode cX3_init 36 = .ok (.return_, 1) := by decide +kernel
theorem dX3_clear_0 : decode cX3_clear 0 = .ok (.aload_n 0, 1) := by decide +kernel
theorem dX3_clear_1 : decode cX3_clear 1 = .ok (.iconst 0, 1) := by decide +kernel
theorem dX3_clear_2 : decode cX3_clear 2 = .ok (.putfield 22, 3) := by decide +kernel
theorem dX3_clear_5 : decode cX3_clear 5 = .ok (.aload_n 0, 1) := by decide +kernel
theorem dX3_clear_6 : decode cX3_clear 6 = .ok (.getfield 19, 3) := by decide +kernel
theorem dX3_clear_9 : decode cX3_clear 9 = .ok (.iconst 0, 1) := by decide +kernel
theorem dX3_clear_10 : decode cX3_clear 10 = .ok (.invokestatic 26, 3) := by decide +kernel
theorem dX3_clear_13 : decode cX3_clear 13 = .ok (.aload_n 0, 1) := by decide +kernel
theorem dX3_clear_14 : decode cX3_clear 14 = .ok (.invokevirtual 32, 3) := by decide +kernel
theorem dX3_clear_17 : decode cX3_clear 17 = .ok (.return_, 1) := by decide +kernel
theorem dX3_forgetRun_0 : decode cX3_forgetRun 0 = .ok (.aload_n 0, 1) := by decide +kernel
theorem dX3_forgetRun_1 : decode cX3_forgetRun 1 = .ok (.getfield 16, 3) := by decide +kernel
theorem dX3_forgetRun_4 : decode cX3_forgetRun 4 = .ok (.iconst 0, 1) := by decide +kernel
theorem dX3_forgetRun_5 : decode cX3_forgetRun 5 = .ok (.invokestatic 26, 3) := by decide +kernel
theorem dX3_forgetRun_8 : decode cX3_forgetRun 8 = .ok (.return_, 1) := by decide +kernel
theorem dX3_has_0 : decode cX3_has 0 = .ok (.iload_n 1, 1) := by decide +kernel
theorem dX3_has_1 : decode cX3_has 1 = .ok (.ifCond .lt 15, 3) := by decide +kernel
theorem dX3_has_4 : decode cX3_has 4 = .ok (.iload_n 1, 1) := by decide +kernel
theorem dX3_has_5 : decode cX3_has 5 = .ok (.aload_n 0, 1) := by decide +kernel
theorem dX3_has_6 : decode cX3_has 6 = .ok (.getfield 22, 3) := by decide +kernel
theorem dX3_has_9 : decode cX3_has 9 = .ok (.if_icmp .ge 7, 3) := by decide +kernel
theorem dX3_has_12 : decode cX3_has 12 = .ok (.iconst 1, 1) := by decide +kernel
theorem dX3_has_13 : decode cX3_has 13 = .ok (.goto 4, 3) := by decide +kernel
theorem dX3_has_16 : decode cX3_has 16 = .ok (.iconst 0, 1) := by decide +kernel
theorem dX3_has_17 : decode cX3_has 17 = .ok (.ireturn, 1) := by decide +kernel
theorem dX3_isLedTo_0 : decode cX3_isLedTo 0 = .ok (.aload_n 0, 1) := by decide +kernel
theorem dX3_isLedTo_1 : decode cX3_isLedTo 1 = .ok (.getfield 19, 3) := by decide +kernel
theorem dX3_isLedTo_4 : decode cX3_isLedTo 4 = .ok (.iload_n 1, 1) := by decide +kernel
theorem dX3_isLedTo_5 : decode cX3_isLedTo 5 = .ok (.iaload, 1) := by decide +kernel
theorem dX3_isLedTo_6 : decode cX3_isLedTo 6 = .ok (.ifCond .le 7, 3) := by decide +kernel
theorem dX3_isLedTo_9 : decode cX3_isLedTo 9 = .ok (.iconst 1, 1) := by decide +kernel
theorem dX3_isLedTo_10 : decode cX3_isLedTo 10 = .ok (.goto 4, 3) := by decide +kernel
theorem dX3_isLedTo_13 : decode cX3_isLedTo 13 = .ok (.iconst 0, 1) := by decide +kernel
theorem dX3_isLedTo_14 : decode cX3_isLedTo 14 = .ok (.ireturn, 1) := by decide +kernel
theorem dX3_append_0 : decode cX3_append 0 = .ok (.aload_n 0, 1) := by decide +kernel
theorem dX3_append_1 : decode cX3_append 1 = .ok (.getfield 22, 3) := by decide +kernel
theorem dX3_append_4 : decode cX3_append 4 = .ok (.bipush 40, 2) := by decide +kernel
theorem dX3_append_6 : decode cX3_append 6 = .ok (.if_icmp .ge 18, 3) := by decide +kernel
theorem dX3_append_9 : decode cX3_append 9 = .ok (.iload_n 1, 1) := by decide +kernel
theorem dX3_append_10 : decode cX3_append 10 = .ok (.invokestatic 35, 3) := by decide +kernel
theorem dX3_append_13 : decode cX3_append 13 = .ok (.ifCond .eq 11, 3) := by decide +kernel
theorem dX3_append_16 : decode cX3_append 16 = .ok (.iload_n 1, 1) := by decide +kernel
theorem dX3_append_17 : decode cX3_append 17 = .ok (.iload_n 2, 1) := by decide +kernel
theorem dX3_append_18 : decode cX3_append 18 = .ok (.invokestatic 41, 3) := by decide +kernel
theorem dX3_append_21 : decode cX3_append 21 = .ok (.ifCond .ne 5, 3) := by decide +kernel
theorem dX3_append_24 : decode cX3_append 24 = .ok (.iconst 0, 1) := by decide +kernel
theorem dX3_append_25 : decode cX3_append 25 = .ok (.ireturn, 1) := by decide +kernel
theorem dX3_append_26 : decode cX3_append 26 = .ok (.aload_n 0, 1) := by decide +kernel
theorem dX3_append_27 : decode cX3_append 27 = .ok (.getfield 9, 3) := by decide +kernel
theorem dX3_append_30 : decode cX3_append 30 = .ok (.aload_n 0, 1) := by decide +kernel
theorem dX3_append_31 : decode cX3_append 31 = .ok (.getfield 22, 3) := by decide +kernel
theorem dX3_append_34 : decode cX3_append 34 = .ok (.iload_n 1, 1) := by decide +kernel
theorem dX3_append_35 : decode cX3_append 35 = .ok (.iastore, 1) := by decide +kernel
theorem dX3_append_36 : decode cX3_append 36 = .ok (.aload_n 0, 1) := by decide +kernel
theorem dX3_append_37 : decode cX3_append 37 = .ok (.getfield 13, 3) := by decide +kernel
theorem dX3_append_40 : decode cX3_append 40 = .ok (.aload_n 0, 1) := by decide +kernel
theorem dX3_append_41 : decode cX3_append 41 = .ok (.getfield 22, 3) := by decide +kernel
theorem dX3_append_44 : decode cX3_append 44 = .ok (.iload_n 2, 1) := by decide +kernel
theorem dX3_append_45 : decode cX3_append 45 = .ok (.iastore, 1) := by decide +kernel
theorem dX3_append_46 : decode cX3_append 46 = .ok (.aload_n 0, 1) := by decide +kernel
theorem dX3_append_47 : decode cX3_append 47 = .ok (.dup, 1) := by decide +kernel
theorem dX3_append_48 : decode cX3_append 48 = .ok (.getfield 22, 3) := by decide +kernel
theorem dX3_append_51 : decode cX3_append 51 = .ok (.iconst 1, 1) := by decide +kernel
theorem dX3_append_52 : decode cX3_append 52 = .ok (.iadd, 1) := by decide +kernel
theorem dX3_append_53 : decode cX3_append 53 = .ok (.putfield 22, 3) := by decide +kernel
theorem dX3_append_56 : decode cX3_append 56 = .ok (.iload_n 1, 1) := by decide +kernel
theorem dX3_append_57 : decode cX3_append 57 = .ok (.invokestatic 45, 3) := by decide +kernel
theorem dX3_append_60 : decode cX3_append 60 = .ok (.ifCond .eq 13, 3) := by decide +kernel
theorem dX3_append_63 : decode cX3_append 63 = .ok (.aload_n 0, 1) := by decide +kernel
theorem dX3_append_64 : decode cX3_append 64 = .ok (.getfield 19, 3) := by decide +kernel
theorem dX3_append_67 : decode cX3_append 67 = .ok (.iload_n 2, 1) := by decide +kernel
theorem dX3_append_68 : decode cX3_append 68 = .ok (.dup2, 1) := by decide +kernel
theorem dX3_append_69 : decode cX3_append 69 = .ok (.iaload, 1) := by decide +kernel
theorem dX3_append_70 : decode cX3_append 70 = .ok (.iconst 1, 1) := by decide +kernel
theorem dX3_append_71 : decode cX3_append 71 = .ok (.iadd, 1) := by decide +kernel
theorem dX3_append_72 : decode cX3_append 72 = .ok (.iastore, 1) := by decide +kernel
theorem dX3_append_73 : decode cX3_append 73 = .ok (.iconst 1, 1) := by decide +kernel
theorem dX3_append_74 : decode cX3_append 74 = .ok (.ireturn, 1) := by decide +kernel
theorem dX3_replace_0 : decode cX3_replace 0 = .ok (.aload_n 0, 1) := by decide +kernel
theorem dX3_replace_1 : decode cX3_replace 1 = .ok (.getfield 9, 3) := by decide +kernel
theorem dX3_replace_4 : decode cX3_replace 4 = .ok (.iload_n 1, 1) := by decide +kernel
theorem dX3_replace_5 : decode cX3_replace 5 = .ok (.iaload, 1) := by decide +kernel
theorem dX3_replace_6 : decode cX3_replace 6 = .ok (.istore_n 3, 1) := by decide +kernel
theorem dX3_replace_7 : decode cX3_replace 7 = .ok (.iload_n 3, 1) := by decide +kernel
theorem dX3_replace_8 : decode cX3_replace 8 = .ok (.invokestatic 48, 3) := by decide +kernel
theorem dX3_replace_11 : decode cX3_replace 11 = .ok (.ifCond .eq 11, 3) := by decide +kernel
theorem dX3_replace_14 : decode cX3_replace 14 = .ok (.iload_n 3, 1) := by decide +kernel
theorem dX3_replace_15 : decode cX3_replace 15 = .ok (.iload_n 2, 1) := by decide +kernel
theorem dX3_replace_16 : decode cX3_replace 16 = .ok (.invokestatic 41, 3) := by decide +kernel
theorem dX3_replace_19 : decode cX3_replace 19 = .ok (.ifCond .ne 5, 3) := by decide +kernel
theorem dX3_replace_22 : decode cX3_replace 22 = .ok (.iconst 0, 1) := by decide +kernel
theorem dX3_replace_23 : decode cX3_replace 23 = .ok (.ireturn, 1) := by decide +kernel
theorem dX3_replace_24 : decode cX3_replace 24 = .ok (.iload_n 3, 1) := by decide +kernel
theorem dX3_replace_25 : decode cX3_replace 25 = .ok (.invokestatic 45, 3) := by decide +kernel
theorem dX3_replace_28 : decode cX3_replace 28 = .ok (.ifCond .eq 28, 3) := by decide +kernel
theorem dX3_replace_31 : decode cX3_replace 31 = .ok (.aload_n 0, 1) := by decide +kernel
theorem dX3_replace_32 : decode cX3_replace 32 = .ok (.getfield 19, 3) := by decide +kernel
theorem dX3_replace_35 : decode cX3_replace 35 = .ok (.aload_n 0, 1) := by decide +kernel
theorem dX3_replace_36 : decode cX3_replace 36 = .ok (.getfield 13, 3) := by decide +kernel
theorem dX3_replace_39 : decode cX3_replace 39 = .ok (.iload_n 1, 1) := by decide +kernel
theorem dX3_replace_40 : decode cX3_replace 40 = .ok (.iaload, 1) := by decide +kernel
theorem dX3_replace_41 : decode cX3_replace 41 = .ok (.dup2, 1) := by decide +kernel
theorem dX3_replace_42 : decode cX3_replace 42 = .ok (.iaload, 1) := by decide +kernel
theorem dX3_replace_43 : decode cX3_replace 43 = .ok (.iconst 1, 1) := by decide +kernel
theorem dX3_replace_44 : decode cX3_replace 44 = .ok (.isub, 1) := by decide +kernel
theorem dX3_replace_45 : decode cX3_replace 45 = .ok (.iastore, 1) := by decide +kernel
theorem dX3_replace_46 : decode cX3_replace 46 = .ok (.aload_n 0, 1) := by decide +kernel
theorem dX3_replace_47 : decode cX3_replace 47 = .ok (.getfield 19, 3) := by decide +kernel
theorem dX3_replace_50 : decode cX3_replace 50 = .ok (.iload_n 2, 1) := by decide +kernel
theorem dX3_replace_51 : decode cX3_replace 51 = .ok (.dup2, 1) := by decide +kernel
theorem dX3_replace_52 : decode cX3_replace 52 = .ok (.iaload, 1) := by decide +kernel
theorem dX3_replace_53 : decode cX3_replace 53 = .ok (.iconst 1, 1) := by decide +kernel
theorem dX3_replace_54 : decode cX3_replace 54 = .ok (.iadd, 1) := by decide +kernel
theorem dX3_replace_55 : decode cX3_replace 55 = .ok (.iastore, 1) := by decide +kernel
theorem dX3_replace_56 : decode cX3_replace 56 = .ok (.aload_n 0, 1) := by decide +kernel
theorem dX3_replace_57 : decode cX3_replace 57 = .ok (.getfield 13, 3) := by decide +kernel
theorem dX3_replace_60 : decode cX3_replace 60 = .ok (.iload_n 1, 1) := by decide +kernel
theorem dX3_replace_61 : decode cX3_replace 61 = .ok (.iload_n 2, 1) := by decide +kernel
theorem dX3_replace_62 : decode cX3_replace 62 = .ok (.iastore, 1) := by decide +kernel
theorem dX3_replace_63 : decode cX3_replace 63 = .ok (.iconst 1, 1) := by decide +kernel
theorem dX3_replace_64 : decode cX3_replace 64 = .ok (.ireturn, 1) := by decide +kernel
theorem dX3_reach_0 : decode cX3_reach 0 = .ok (.iconst 1, 1) := by decide +kernel
theorem dX3_reach_1 : decode cX3_reach 1 = .ok (.istore_n 2, 1) := by decide +kernel
theorem dX3_reach_2 : decode cX3_reach 2 = .ok (.iload_n 2, 1) := by decide +kernel
theorem dX3_reach_3 : decode cX3_reach 3 = .ok (.iconst 4, 1) := by decide +kernel
theorem dX3_reach_4 : decode cX3_reach 4 = .ok (.if_icmp .ge 45, 3) := by decide +kernel
theorem dX3_reach_7 : decode cX3_reach 7 = .ok (.iload_n 1, 1) := by decide +kernel
theorem dX3_reach_8 : decode cX3_reach 8 = .ok (.iload_n 2, 1) := by decide +kernel
theorem dX3_reach_9 : decode cX3_reach 9 = .ok (.iadd, 1) := by decide +kernel
theorem dX3_reach_10 : decode cX3_reach 10 = .ok (.aload_n 0, 1) := by decide +kernel
theorem dX3_reach_11 : decode cX3_reach 11 = .ok (.getfield 22, 3) := by decide +kernel
theorem dX3_reach_14 : decode cX3_reach 14 = .ok (.if_icmp .ge 35, 3) := by decide +kernel
theorem dX3_reach_17 : decode cX3_reach 17 = .ok (.aload_n 0, 1) := by decide +kernel
theorem dX3_reach_18 : decode cX3_reach 18 = .ok (.iload_n 1, 1) := by decide +kernel
theorem dX3_reach_19 : decode cX3_reach 19 = .ok (.iload_n 2, 1) := by decide +kernel
theorem dX3_reach_20 : decode cX3_reach 20 = .ok (.iadd, 1) := by decide +kernel
theorem dX3_reach_21 : decode cX3_reach 21 = .ok (.invokevirtual 53, 3) := by decide +kernel
theorem dX3_reach_24 : decode cX3_reach 24 = .ok (.ifCond .ne 25, 3) := by decide +kernel
theorem dX3_reach_27 : decode cX3_reach 27 = .ok (.aload_n 0, 1) := by decide +kernel
theorem dX3_reach_28 : decode cX3_reach 28 = .ok (.getfield 9, 3) := by decide +kernel
theorem dX3_reach_31 : decode cX3_reach 31 = .ok (.iload_n 1, 1) := by decide +kernel
theorem dX3_reach_32 : decode cX3_reach 32 = .ok (.iload_n 2, 1) := by decide +kernel
theorem dX3_reach_33 : decode cX3_reach 33 = .ok (.iadd, 1) := by decide +kernel
theorem dX3_reach_34 : decode cX3_reach 34 = .ok (.iconst 1, 1) := by decide +kernel
theorem dX3_reach_35 : decode cX3_reach 35 = .ok (.isub, 1) := by decide +kernel
theorem dX3_reach_36 : decode cX3_reach 36 = .ok (.iaload, 1) := by decide +kernel
theorem dX3_reach_37 : decode cX3_reach 37 = .ok (.invokestatic 56, 3) := by decide +kernel
theorem dX3_reach_40 : decode cX3_reach 40 = .ok (.ifCond .ne 9, 3) := by decide +kernel
theorem dX3_reach_43 : decode cX3_reach 43 = .ok (.iinc 2 1, 3) := by decide +kernel
theorem dX3_reach_46 : decode cX3_reach 46 = .ok (.goto (-44), 3) := by decide +kernel
theorem dX3_reach_49 : decode cX3_reach 49 = .ok (.iload_n 2, 1) := by decide +kernel
theorem dX3_reach_50 : decode cX3_reach 50 = .ok (.ireturn, 1) := by decide +kernel
theorem dX3_weight_0 : decode cX3_weight 0 = .ok (.iload_n 2, 1) := by decide +kernel
theorem dX3_weight_1 : decode cX3_weight 1 = .ok (.ifCond .eq 12, 3) := by decide +kernel
theorem dX3_weight_4 : decode cX3_weight 4 = .ok (.aload_n 0, 1) := by decide +kernel
theorem dX3_weight_5 : decode cX3_weight 5 = .ok (.getfield 16, 3) := by decide +kernel
theorem dX3_weight_8 : decode cX3_weight 8 = .ok (.iload_n 1, 1) := by decide +kernel
theorem dX3_weight_9 : decode cX3_weight 9 = .ok (.iaload, 1) := by decide +kernel
theorem dX3_weight_10 : decode cX3_weight 10 = .ok (.goto 4, 3) := by decide +kernel
theorem dX3_weight_13 : decode cX3_weight 13 = .ok (.iconst 1, 1) := by decide +kernel
theorem dX3_weight_14 : decode cX3_weight 14 = .ok (.ireturn, 1) := by decide +kernel
theorem dX3_copyFrom_0 : decode cX3_copyFrom 0 = .ok (.aload_n 0, 1) := by decide +kernel
theorem dX3_copyFrom_1 : decode cX3_copyFrom 1 = .ok (.aload_n 1, 1) := by decide +kernel
theorem dX3_copyFrom_2 : decode cX3_copyFrom 2 = .ok (.getfield 22, 3) := by decide +kernel
theorem dX3_copyFrom_5 : decode cX3_copyFrom 5 = .ok (.putfield 22, 3) := by decide +kernel
theorem dX3_copyFrom_8 : decode cX3_copyFrom 8 = .ok (.aload_n 1, 1) := by decide +kernel
theorem dX3_copyFrom_9 : decode cX3_copyFrom 9 = .ok (.getfield 9, 3) := by decide +kernel
theorem dX3_copyFrom_12 : decode cX3_copyFrom 12 = .ok (.iconst 0, 1) := by decide +kernel
theorem dX3_copyFrom_13 : decode cX3_copyFrom 13 = .ok (.aload_n 0, 1) := by decide +kernel
theorem dX3_copyFrom_14 : decode cX3_copyFrom 14 = .ok (.getfield 9, 3) := by decide +kernel
theorem dX3_copyFrom_17 : decode cX3_copyFrom 17 = .ok (.iconst 0, 1) := by decide +kernel
theorem dX3_copyFrom_18 : decode cX3_copyFrom 18 = .ok (.bipush 40, 2) := by decide +kernel
theorem dX3_copyFrom_20 : decode cX3_copyFrom 20 = .ok (.invokestatic 59, 3) := by decide +kernel
theorem dX3_copyFrom_23 : decode cX3_copyFrom 23 = .ok (.aload_n 1, 1) := by decide +kernel
theorem dX3_copyFrom_24 : decode cX3_copyFrom 24 = .ok (.getfield 13, 3) := by decide +kernel
theorem dX3_copyFrom_27 : decode cX3_copyFrom 27 = .ok (.iconst 0, 1) := by decide +kernel
theorem dX3_copyFrom_28 : decode cX3_copyFrom 28 = .ok (.aload_n 0, 1) := by decide +kernel
theorem dX3_copyFrom_29 : decode cX3_copyFrom 29 = .ok (.getfield 13, 3) := by decide +kernel
theorem dX3_copyFrom_32 : decode cX3_copyFrom 32 = .ok (.iconst 0, 1) := by decide +kernel
theorem dX3_copyFrom_33 : decode cX3_copyFrom 33 = .ok (.bipush 40, 2) := by decide +kernel
theorem dX3_copyFrom_35 : decode cX3_copyFrom 35 = .ok (.invokestatic 59, 3) := by decide +kernel
theorem dX3_copyFrom_38 : decode cX3_copyFrom 38 = .ok (.aload_n 1, 1) := by decide +kernel
theorem dX3_copyFrom_39 : decode cX3_copyFrom 39 = .ok (.getfield 16, 3) := by decide +kernel
theorem dX3_copyFrom_42 : decode cX3_copyFrom 42 = .ok (.iconst 0, 1) := by decide +kernel
theorem dX3_copyFrom_43 : decode cX3_copyFrom 43 = .ok (.aload_n 0, 1) := by decide +kernel
theorem dX3_copyFrom_44 : decode cX3_copyFrom 44 = .ok (.getfield 16, 3) := by decide +kernel
theorem dX3_copyFrom_47 : decode cX3_copyFrom 47 = .ok (.iconst 0, 1) := by decide +kernel
theorem dX3_copyFrom_48 : decode cX3_copyFrom 48 = .ok (.bipush 40, 2) := by decide +kernel
theorem dX3_copyFrom_50 : decode cX3_copyFrom 50 = .ok (.invokestatic 59, 3) := by decide +kernel
theorem dX3_copyFrom_53 : decode cX3_copyFrom 53 = .ok (.aload_n 1, 1) := by decide +kernel
theorem dX3_copyFrom_54 : decode cX3_copyFrom 54 = .ok (.getfield 19, 3) := by decide +kernel
theorem dX3_copyFrom_57 : decode cX3_copyFrom 57 = .ok (.iconst 0, 1) := by decide +kernel
theorem dX3_copyFrom_58 : decode cX3_copyFrom 58 = .ok (.aload_n 0, 1) := by decide +kernel
theorem dX3_copyFrom_59 : decode cX3_copyFrom 59 = .ok (.getfield 19, 3) := by decide +kernel
theorem dX3_copyFrom_62 : decode cX3_copyFrom 62 = .ok (.iconst 0, 1) := by decide +kernel
theorem dX3_copyFrom_63 : decode cX3_copyFrom 63 = .ok (.bipush 40, 2) := by decide +kernel
theorem dX3_copyFrom_65 : decode cX3_copyFrom 65 = .ok (.invokestatic 59, 3) := by decide +kernel
theorem dX3_copyFrom_68 : decode cX3_copyFrom 68 = .ok (.return_, 1) := by decide +kernel
theorem dX4_of_0 : decode cX4_of 0 = .ok (.iload_n 0, 1) := by decide +kernel
theorem dX4_of_1 : decode cX4_of 1 = .ok (.iconst 2, 1) := by decide +kernel
theorem dX4_of_2 : decode cX4_of 2 = .ok (.if_icmp .lt 8, 3) := by decide +kernel
theorem dX4_of_5 : decode cX4_of 5 = .ok (.iload_n 0, 1) := by decide +kernel
theorem dX4_of_6 : decode cX4_of 6 = .ok (.iconst 4, 1) := by decide +kernel
theorem dX4_of_7 : decode cX4_of 7 = .ok (.if_icmp .le 5, 3) := by decide +kernel
theorem dX4_of_10 : decode cX4_of 10 = .ok (.iconst 0, 1) := by decide +kernel
theorem dX4_of_11 : decode cX4_of 11 = .ok (.ireturn, 1) := by decide +kernel
theorem dX4_of_12 : decode cX4_of 12 = .ok (.iconst 0, 1) := by decide +kernel
theorem dX4_of_13 : decode cX4_of 13 = .ok (.istore 5, 2) := by decide +kernel
theorem dX4_of_15 : decode cX4_of 15 = .ok (.iconst 0, 1) := by decide +kernel
theorem dX4_of_16 : decode cX4_of 16 = .ok (.istore 6, 2) := by decide +kernel
theorem dX4_of_18 : decode cX4_of 18 = .ok (.iload 6, 2) := by decide +kernel
theorem dX4_of_20 : decode cX4_of 20 = .ok (.iload_n 0, 1) := by decide +kernel
theorem dX4_of_21 : decode cX4_of 21 = .ok (.if_icmp .ge 79, 3) := by decide +kernel
theorem dX4_of_24 : decode cX4_of 24 = .ok (.iload 6, 2) := by decide +kernel
theorem dX4_of_26 : decode cX4_of 26 = .ok (.ifCond .ne 7, 3) := by decide +kernel
theorem dX4_of_29 : decode cX4_of 29 = .ok (.iload_n 1, 1) := by decide +kernel
theorem dX4_of_30 : decode cX4_of 30 = .ok (.goto 25, 3) := by decide +kernel
theorem dX4_of_33 : decode cX4_of 33 = .ok (.iload 6, 2) := by decide +kernel
theorem dX4_of_35 : decode cX4_of 35 = .ok (.iconst 1, 1) := by decide +kernel
theorem dX4_of_36 : decode cX4_of 36 = .ok (.if_icmp .ne 7, 3) := by decide +kernel
theorem dX4_of_39 : decode cX4_of 39 = .ok (.iload_n 2, 1) := by decide +kernel
theorem dX4_of_40 : decode cX4_of 40 = .ok (.goto 15, 3) := by decide +kernel
theorem dX4_of_43 : decode cX4_of 43 = .ok (.iload 6, 2) := by decide +kernel
theorem dX4_of_45 : decode cX4_of 45 = .ok (.iconst 2, 1) := by decide +kernel
theorem dX4_of_46 : decode cX4_of 46 = .ok (.if_icmp .ne 7, 3) := by decide +kernel
theorem dX4_of_49 : decode cX4_of 49 = .ok (.iload_n 3, 1) := by decide +kernel
theorem dX4_of_50 : decode cX4_of 50 = .ok (.goto 5, 3) := by decide +kernel
theorem dX4_of_53 : decode cX4_of 53 = .ok (.iload 4, 2) := by decide +kernel
theorem dX4_of_55 : decode cX4_of 55 = .ok (.istore 7, 2) := by decide +kernel
theorem dX4_of_57 : decode cX4_of 57 = .ok (.iload 7, 2) := by decide +kernel
theorem dX4_of_59 : decode cX4_of 59 = .ok (.invokestatic 9, 3) := by decide +kernel
theorem dX4_of_62 : decode cX4_of 62 = .ok (.ifCond .eq 19, 3) := by decide +kernel
theorem dX4_of_65 : decode cX4_of 65 = .ok (.iload 6, 2) := by decide +kernel
theorem dX4_of_67 : decode cX4_of 67 = .ok (.iload_n 0, 1) := by decide +kernel
theorem dX4_of_68 : decode cX4_of 68 = .ok (.iconst 1, 1) := by decide +kernel
theorem dX4_of_69 : decode cX4_of 69 = .ok (.isub, 1) := by decide +kernel
theorem dX4_of_70 : decode cX4_of 70 = .ok (.if_icmp .ge 13, 3) := by decide +kernel
theorem dX4_of_73 : decode cX4_of 73 = .ok (.iload 7, 2) := by decide +kernel
theorem dX4_of_75 : decode cX4_of 75 = .ok (.invokestatic 15, 3) := by decide +kernel
theorem dX4_of_78 : decode cX4_of 78 = .ok (.ifCond .eq 5, 3) := by decide +kernel
theorem dX4_of_81 : decode cX4_of 81 = .ok (.iconst 0, 1) := by decide +kernel
theorem dX4_of_82 : decode cX4_of 82 = .ok (.ireturn, 1) := by decide +kernel
theorem dX4_of_83 : decode cX4_of 83 = .ok (.iload 5, 2) := by decide +kernel
theorem dX4_of_85 : decode cX4_of 85 = .ok (.iload 6, 2) := by decide +kernel
theorem dX4_of_87 : decode cX4_of 87 = .ok (.iload 7, 2) := by decide +kernel
theorem dX4_of_89 : decode cX4_of 89 = .ok (.invokestatic 18, 3) := by decide +kernel
theorem dX4_of_92 : decode cX4_of 92 = .ok (.istore 5, 2) := by decide +kernel
theorem dX4_of_94 : decode cX4_of 94 = .ok (.iinc 6 1, 3) := by decide +kernel
theorem dX4_of_97 : decode cX4_of 97 = .ok (.goto (-79), 3) := by decide +kernel
theorem dX4_of_100 : decode cX4_of 100 = .ok (.iload 5, 2) := by decide +kernel
theorem dX4_of_102 : decode cX4_of 102 = .ok (.ireturn, 1) := by decide +kernel
theorem dX4_with_0 : decode cX4_with 0 = .ok (.iload_n 0, 1) := by decide +kernel
theorem dX4_with_1 : decode cX4_with 1 = .ok (.iload_n 2, 1) := by decide +kernel
theorem dX4_with_2 : decode cX4_with 2 = .ok (.iconst 1, 1) := by decide +kernel
theorem dX4_with_3 : decode cX4_with 3 = .ok (.iadd, 1) := by decide +kernel
theorem dX4_with_4 : decode cX4_with 4 = .ok (.iconst 5, 1) := by decide +kernel
theorem dX4_with_5 : decode cX4_with 5 = .ok (.iconst 3, 1) := by decide +kernel
theorem dX4_with_6 : decode cX4_with 6 = .ok (.iload_n 1, 1) := by decide +kernel
theorem dX4_with_7 : decode cX4_with 7 = .ok (.isub, 1) := by decide +kernel
theorem dX4_with_8 : decode cX4_with 8 = .ok (.imul, 1) := by decide +kernel
theorem dX4_with_9 : decode cX4_with 9 = .ok (.ishl, 1) := by decide +kernel
theorem dX4_with_10 : decode cX4_with 10 = .ok (.ior, 1) := by decide +kernel
theorem dX4_with_11 : decode cX4_with 11 = .ok (.ireturn, 1) := by decide +kernel
theorem dX4_kind_0 : decode cX4_kind 0 = .ok (.iload_n 0, 1) := by decide +kernel
theorem dX4_kind_1 : decode cX4_kind 1 = .ok (.iconst 5, 1) := by decide +kernel
theorem dX4_kind_2 : decode cX4_kind 2 = .ok (.iconst 3, 1) := by decide +kernel
theorem dX4_kind_3 : decode cX4_kind 3 = .ok (.iload_n 1, 1) := by decide +kernel
theorem dX4_kind_4 : decode cX4_kind 4 = .ok (.isub, 1) := by decide +kernel
theorem dX4_kind_5 : decode cX4_kind 5 = .ok (.imul, 1) := by decide +kernel
theorem dX4_kind_6 : decode cX4_kind 6 = .ok (.iushr, 1) := by decide +kernel
theorem dX4_kind_7 : decode cX4_kind 7 = .ok (.bipush 31, 2) := by decide +kernel
theorem dX4_kind_9 : decode cX4_kind 9 = .ok (.iand, 1) := by decide +kernel
theorem dX4_kind_10 : decode cX4_kind 10 = .ok (.iconst 1, 1) := by decide +kernel
theorem dX4_kind_11 : decode cX4_kind 11 = .ok (.isub, 1) := by decide +kernel
theorem dX4_kind_12 : decode cX4_kind 12 = .ok (.ireturn, 1) := by decide +kernel
theorem dX5_init_0 : decode cX5_init 0 = .ok (.aload_n 0, 1) := by decide +kernel
theorem dX5_init_1 : decode cX5_init 1 = .ok (.invokespecial 3, 3) := by decide +kernel
theorem dX5_init_4 : decode cX5_init 4 = .ok (.aload_n 0, 1) := by decide +kernel
theorem dX5_init_5 : decode cX5_init 5 = .ok (.bipush 6, 2) := by decide +kernel
theorem dX5_init_7 : decode cX5_init 7 = .ok (.newarray .int, 2) := by decide +kernel
theorem dX5_init_9 : decode cX5_init 9 = .ok (.putfield 11, 3) := by decide +kernel
theorem dX5_init_12 : decode cX5_init 12 = .ok (.return_, 1) := by decide +kernel
theorem dX5_append_0 : decode cX5_append 0 = .ok (.aload_n 0, 1) := by decide +kernel
theorem dX5_append_1 : decode cX5_append 1 = .ok (.getfield 15, 3) := by decide +kernel
theorem dX5_append_4 : decode cX5_append 4 = .ok (.bipush 6, 2) := by decide +kernel
theorem dX5_append_6 : decode cX5_append 6 = .ok (.if_icmp .lt 5, 3) := by decide +kernel
theorem dX5_append_9 : decode cX5_append 9 = .ok (.iconst 0, 1) := by decide +kernel
theorem dX5_append_10 : decode cX5_append 10 = .ok (.ireturn, 1) := by decide +kernel
theorem dX5_append_11 : decode cX5_append 11 = .ok (.aload_n 0, 1) := by decide +kernel
theorem dX5_append_12 : decode cX5_append 12 = .ok (.getfield 11, 3) := by decide +kernel
theorem dX5_append_15 : decode cX5_append 15 = .ok (.aload_n 0, 1) := by decide +kernel
theorem dX5_append_16 : decode cX5_append 16 = .ok (.getfield 15, 3) := by decide +kernel
theorem dX5_append_19 : decode cX5_append 19 = .ok (.iload_n 1, 1) := by decide +kernel
theorem dX5_append_20 : decode cX5_append 20 = .ok (.iastore, 1) := by decide +kernel
theorem dX5_append_21 : decode cX5_append 21 = .ok (.aload_n 0, 1) := by decide +kernel
theorem dX5_append_22 : decode cX5_append 22 = .ok (.dup, 1) := by decide +kernel
theorem dX5_append_23 : decode cX5_append 23 = .ok (.getfield 15, 3) := by decide +kernel
theorem dX5_append_26 : decode cX5_append 26 = .ok (.iconst 1, 1) := by decide +kernel
theorem dX5_append_27 : decode cX5_append 27 = .ok (.iadd, 1) := by decide +kernel
theorem dX5_append_28 : decode cX5_append 28 = .ok (.putfield 15, 3) := by decide +kernel
theorem dX5_append_31 : decode cX5_append 31 = .ok (.iconst 1, 1) := by decide +kernel
theorem dX5_append_32 : decode cX5_append 32 = .ok (.ireturn, 1) := by decide +kernel
theorem dX5_indexOf_0 : decode cX5_indexOf 0 = .ok (.iconst 0, 1) := by decide +kernel
theorem dX5_indexOf_1 : decode cX5_indexOf 1 = .ok (.istore_n 2, 1) := by decide +kernel
theorem dX5_indexOf_2 : decode cX5_indexOf 2 = .ok (.iload_n 2, 1) := by decide +kernel
theorem dX5_indexOf_3 : decode cX5_indexOf 3 = .ok (.aload_n 0, 1) := by decide +kernel
theorem dX5_indexOf_4 : decode cX5_indexOf 4 = .ok (.getfield 15, 3) := by decide +kernel
theorem dX5_indexOf_7 : decode cX5_indexOf 7 = .ok (.if_icmp .ge 21, 3) := by decide +kernel
theorem dX5_indexOf_10 : decode cX5_indexOf 10 = .ok (.aload_n 0, 1) := by decide +kernel
theorem dX5_indexOf_11 : decode cX5_indexOf 11 = .ok (.getfield 11, 3) := by decide +kernel
theorem dX5_indexOf_14 : decode cX5_indexOf 14 = .ok (.iload_n 2, 1) := by decide +kernel
theorem dX5_indexOf_15 : decode cX5_indexOf 15 = .ok (.iaload, 1) := by decide +kernel
theorem dX5_indexOf_16 : decode cX5_indexOf 16 = .ok (.iload_n 1, 1) := by decide +kernel
theorem dX5_indexOf_17 : decode cX5_indexOf 17 = .ok (.if_icmp .ne 5, 3) := by decide +kernel
theorem dX5_indexOf_20 : decode cX5_indexOf 20 = .ok (.iload_n 2, 1) := by decide +kernel
theorem dX5_indexOf_21 : decode cX5_indexOf 21 = .ok (.ireturn, 1) := by decide +kernel
theorem dX5_indexOf_22 : decode cX5_indexOf 22 = .ok (.iinc 2 1, 3) := by decide +kernel
theorem dX5_indexOf_25 : decode cX5_indexOf 25 = .ok (.goto (-23), 3) := by decide +kernel
theorem dX5_indexOf_28 : decode cX5_indexOf 28 = .ok (.iconst (-1), 1) := by decide +kernel
theorem dX5_indexOf_29 : decode cX5_indexOf 29 = .ok (.ireturn, 1) := by decide +kernel
theorem dX5_kind_0 : decode cX5_kind 0 = .ok (.iload_n 1, 1) := by decide +kernel
theorem dX5_kind_1 : decode cX5_kind 1 = .ok (.ifCond .lt 20, 3) := by decide +kernel
theorem dX5_kind_4 : decode cX5_kind 4 = .ok (.iload_n 1, 1) := by decide +kernel
theorem dX5_kind_5 : decode cX5_kind 5 = .ok (.aload_n 0, 1) := by decide +kernel
theorem dX5_kind_6 : decode cX5_kind 6 = .ok (.getfield 15, 3) := by decide +kernel
theorem dX5_kind_9 : decode cX5_kind 9 = .ok (.if_icmp .ge 12, 3) := by decide +kernel
theorem dX5_kind_12 : decode cX5_kind 12 = .ok (.iload_n 2, 1) := by decide +kernel
theorem dX5_kind_13 : decode cX5_kind 13 = .ok (.ifCond .lt 8, 3) := by decide +kernel
theorem dX5_kind_16 : decode cX5_kind 16 = .ok (.iload_n 2, 1) := by decide +kernel
theorem dX5_kind_17 : decode cX5_kind 17 = .ok (.iconst 4, 1) := by decide +kernel
theorem dX5_kind_18 : decode cX5_kind 18 = .ok (.if_icmp .lt 5, 3) := by decide +kernel
theorem dX5_kind_21 : decode cX5_kind 21 = .ok (.iconst (-1), 1) := by decide +kernel
theorem dX5_kind_22 : decode cX5_kind 22 = .ok (.ireturn, 1) := by decide +kernel
theorem dX5_kind_23 : decode cX5_kind 23 = .ok (.aload_n 0, 1) := by decide +kernel
theorem dX5_kind_24 : decode cX5_kind 24 = .ok (.getfield 11, 3) := by decide +kernel
theorem dX5_kind_27 : decode cX5_kind 27 = .ok (.iload_n 1, 1) := by decide +kernel
theorem dX5_kind_28 : decode cX5_kind 28 = .ok (.iaload, 1) := by decide +kernel
theorem dX5_kind_29 : decode cX5_kind 29 = .ok (.iload_n 2, 1) := by decide +kernel
theorem dX5_kind_30 : decode cX5_kind 30 = .ok (.invokestatic 21, 3) := by decide +kernel
theorem dX5_kind_33 : decode cX5_kind 33 = .ok (.ireturn, 1) := by decide +kernel
theorem dX5_copyFrom_0 : decode cX5_copyFrom 0 = .ok (.aload_n 0, 1) := by decide +kernel
theorem dX5_copyFrom_1 : decode cX5_copyFrom 1 = .ok (.aload_n 1, 1) := by decide +kernel
theorem dX5_copyFrom_2 : decode cX5_copyFrom 2 = .ok (.getfield 15, 3) := by decide +kernel
theorem dX5_copyFrom_5 : decode cX5_copyFrom 5 = .ok (.putfield 15, 3) := by decide +kernel
theorem dX5_copyFrom_8 : decode cX5_copyFrom 8 = .ok (.aload_n 1, 1) := by decide +kernel
theorem dX5_copyFrom_9 : decode cX5_copyFrom 9 = .ok (.getfield 11, 3) := by decide +kernel
theorem dX5_copyFrom_12 : decode cX5_copyFrom 12 = .ok (.iconst 0, 1) := by decide +kernel
theorem dX5_copyFrom_13 : decode cX5_copyFrom 13 = .ok (.aload_n 0, 1) := by decide +kernel
theorem dX5_copyFrom_14 : decode cX5_copyFrom 14 = .ok (.getfield 11, 3) := by decide +kernel
theorem dX5_copyFrom_17 : decode cX5_copyFrom 17 = .ok (.iconst 0, 1) := by decide +kernel
theorem dX5_copyFrom_18 : decode cX5_copyFrom 18 = .ok (.bipush 6, 2) := by decide +kernel
theorem dX5_copyFrom_20 : decode cX5_copyFrom 20 = .ok (.invokestatic 25, 3) := by decide +kernel
theorem dX5_copyFrom_23 : decode cX5_copyFrom 23 = .ok (.return_, 1) := by decide +kernel
theorem dX6_init_0 : decode cX6_init 0 = .ok (.aload_n 0, 1) := by decide +kernel
theorem dX6_init_1 : decode cX6_init 1 = .ok (.invokespecial 1, 3) := by decide +kernel
theorem dX6_init_4 : decode cX6_init 4 = .ok (.aload_n 0, 1) := by decide +kernel
theorem dX6_init_5 : decode cX6_init 5 = .ok (.bipush 24, 2) := by decide +kernel
theorem dX6_init_7 : decode cX6_init 7 = .ok (.newarray .int, 2) := by decide +kernel
theorem dX6_init_9 : decode cX6_init 9 = .ok (.putfield 9, 3) := by decide +kernel
theorem dX6_init_12 : decode cX6_init 12 = .ok (.aload_n 0, 1) := by decide +kernel
theorem dX6_init_13 : decode cX6_init 13 = .ok (.bipush 40, 2) := by decide +kernel
theorem dX6_init_15 : decode cX6_init 15 = .ok (.newarray .int, 2) := by decide +kernel
theorem dX6_init_17 : decode cX6_init 17 = .ok (.putfield 13, 3) := by decide +kernel
theorem dX6_init_20 : decode cX6_init 20 = .ok (.aload_n 0, 1) := by decide +kernel
theorem dX6_init_21 : decode cX6_init 21 = .ok (.bipush 8, 2) := by decide +kernel
theorem dX6_init_23 : decode cX6_init 23 = .ok (.newarray .int, 2) := by decide +kernel
theorem dX6_init_25 : decode cX6_init 25 = .ok (.putfield 16, 3) := by decide +kernel
theorem dX6_init_28 : decode cX6_init 28 = .ok (.return_, 1) := by decide +kernel
theorem dX6_follow_0 : decode cX6_follow 0 = .ok (.aload_n 0, 1) := by decide +kernel
theorem dX6_follow_1 : decode cX6_follow 1 = .ok (.invokevirtual 19, 3) := by decide +kernel
theorem dX6_follow_4 : decode cX6_follow 4 = .ok (.aload_n 1, 1) := by decide +kernel
theorem dX6_follow_5 : decode cX6_follow 5 = .ok (.invokevirtual 22, 3) := by decide +kernel
theorem dX6_follow_8 : decode cX6_follow 8 = .ok (.iconst (-1), 1) := by decide +kernel
theorem dX6_follow_9 : decode cX6_follow 9 = .ok (.istore 4, 2) := by decide +kernel
theorem dX6_follow_11 : decode cX6_follow 11 = .ok (.iconst 0, 1) := by decide +kernel
theorem dX6_follow_12 : decode cX6_follow 12 = .ok (.istore 5, 2) := by decide +kernel
theorem dX6_follow_14 : decode cX6_follow 14 = .ok (.iload 5, 2) := by decide +kernel
theorem dX6_follow_16 : decode cX6_follow 16 = .ok (.iload_n 3, 1) := by decide +kernel
theorem dX6_follow_17 : decode cX6_follow 17 = .ok (.if_icmp .gt 61, 3) := by decide +kernel
theorem dX6_follow_20 : decode cX6_follow 20 = .ok (.iload 4, 2) := by decide +kernel
theorem dX6_follow_22 : decode cX6_follow 22 = .ok (.iconst (-1), 1) := by decide +kernel
theorem dX6_follow_23 : decode cX6_follow 23 = .ok (.if_icmp .ne 55, 3) := by decide +kernel
theorem dX6_follow_26 : decode cX6_follow 26 = .ok (.aload_n 0, 1) := by decide +kernel
theorem dX6_follow_27 : decode cX6_follow 27 = .ok (.aload_n 1, 1) := by decide +kernel
theorem dX6_follow_28 : decode cX6_follow 28 = .ok (.iload_n 3, 1) := by decide +kernel
theorem dX6_follow_29 : decode cX6_follow 29 = .ok (.invokevirtual 27, 3) := by decide +kernel
theorem dX6_follow_32 : decode cX6_follow 32 = .ok (.istore 4, 2) := by decide +kernel
theorem dX6_follow_34 : decode cX6_follow 34 = .ok (.iload 4, 2) := by decide +kernel
theorem dX6_follow_36 : decode cX6_follow 36 = .ok (.iconst (-1), 1) := by decide +kernel
theorem dX6_follow_37 : decode cX6_follow 37 = .ok (.if_icmp .ne 35, 3) := by decide +kernel
theorem dX6_follow_40 : decode cX6_follow 40 = .ok (.aload_n 2, 1) := by decide +kernel
theorem dX6_follow_41 : decode cX6_follow 41 = .ok (.ifnull 14, 3) := by decide +kernel
theorem dX6_follow_44 : decode cX6_follow 44 = .ok (.aload_n 2, 1) := by decide +kernel
theorem dX6_follow_45 : decode cX6_follow 45 = .ok (.aload_n 0, 1) := by decide +kernel
theorem dX6_follow_46 : decode cX6_follow 46 = .ok (.getfield 31, 3) := by decide +kernel
theorem dX6_follow_49 : decode cX6_follow 49 = .ok (.invokevirtual 35, 3) := by decide +kernel
theorem dX6_follow_52 : decode cX6_follow 52 = .ok (.ifCond .eq 13, 3) := by decide +kernel
theorem dX6_follow_55 : decode cX6_follow 55 = .ok (.aload_n 0, 1) := by decide +kernel
theorem dX6_follow_56 : decode cX6_follow 56 = .ok (.dup, 1) := by decide +kernel
theorem dX6_follow_57 : decode cX6_follow 57 = .ok (.getfield 41, 3) := by decide +kernel
theorem dX6_follow_60 : decode cX6_follow 60 = .ok (.iconst 1, 1) := by decide +kernel
theorem dX6_follow_61 : decode cX6_follow 61 = .ok (.iadd, 1) := by decide +kernel
theorem dX6_follow_62 : decode cX6_follow 62 = .ok (.putfield 41, 3) := by decide +kernel
theorem dX6_follow_65 : decode cX6_follow 65 = .ok (.aload_n 0, 1) := by decide +kernel
theorem dX6_follow_66 : decode cX6_follow 66 = .ok (.aload_n 1, 1) := by decide +kernel
theorem dX6_follow_67 : decode cX6_follow 67 = .ok (.invokevirtual 44, 3) := by decide +kernel
theorem dX6_follow_70 : decode cX6_follow 70 = .ok (.istore 4, 2) := by decide +kernel
theorem dX6_follow_72 : decode cX6_follow 72 = .ok (.iinc 5 1, 3) := by decide +kernel
theorem dX6_follow_75 : decode cX6_follow 75 = .ok (.goto (-61), 3) := by decide +kernel
theorem dX6_follow_78 : decode cX6_follow 78 = .ok (.iload 4, 2) := by decide +kernel
theorem dX6_follow_80 : decode cX6_follow 80 = .ok (.ireturn, 1) := by decide +kernel
theorem dX6_clear_0 : decode cX6_clear 0 = .ok (.aload_n 0, 1) := by decide +kernel
theorem dX6_clear_1 : decode cX6_clear 1 = .ok (.iconst 1, 1) := by decide +kernel
theorem dX6_clear_2 : decode cX6_clear 2 = .ok (.putfield 48, 3) := by decide +kernel
theorem dX6_clear_5 : decode cX6_clear 5 = .ok (.aload_n 0, 1) := by decide +kernel
theorem dX6_clear_6 : decode cX6_clear 6 = .ok (.iconst 0, 1) := by decide +kernel
theorem dX6_clear_7 : decode cX6_clear 7 = .ok (.putfield 52, 3) := by decide +kernel
theorem dX6_clear_10 : decode cX6_clear 10 = .ok (.aload_n 0, 1) := by decide +kernel
theorem dX6_clear_11 : decode cX6_clear 11 = .ok (.iconst 0, 1) := by decide +kernel
theorem dX6_clear_12 : decode cX6_clear 12 = .ok (.putfield 41, 3) := by decide +kernel
theorem dX6_clear_15 : decode cX6_clear 15 = .ok (.aload_n 0, 1) := by decide +kernel
theorem dX6_clear_16 : decode cX6_clear 16 = .ok (.iconst 0, 1) := by decide +kernel
theorem dX6_clear_17 : decode cX6_clear 17 = .ok (.putfield 31, 3) := by decide +kernel
theorem dX6_clear_20 : decode cX6_clear 20 = .ok (.aload_n 0, 1) := by decide +kernel
theorem dX6_clear_21 : decode cX6_clear 21 = .ok (.iconst 0, 1) := by decide +kernel
theorem dX6_clear_22 : decode cX6_clear 22 = .ok (.putfield 55, 3) := by decide +kernel
theorem dX6_clear_25 : decode cX6_clear 25 = .ok (.aload_n 0, 1) := by decide +kernel
theorem dX6_clear_26 : decode cX6_clear 26 = .ok (.iconst 0, 1) := by decide +kernel
theorem dX6_clear_27 : decode cX6_clear 27 = .ok (.putfield 58, 3) := by decide +kernel
theorem dX6_clear_30 : decode cX6_clear 30 = .ok (.aload_n 0, 1) := by decide +kernel
theorem dX6_clear_31 : decode cX6_clear 31 = .ok (.getfield 16, 3) := by decide +kernel
theorem dX6_clear_34 : decode cX6_clear 34 = .ok (.iconst 0, 1) := by decide +kernel
theorem dX6_clear_35 : decode cX6_clear 35 = .ok (.invokestatic 61, 3) := by decide +kernel
theorem dX6_clear_38 : decode cX6_clear 38 = .ok (.return_, 1) := by decide +kernel
theorem dX6_endAhead_0 : decode cX6_endAhead 0 = .ok (.aload_n 1, 1) := by decide +kernel
theorem dX6_endAhead_1 : decode cX6_endAhead 1 = .ok (.aload_n 0, 1) := by decide +kernel
theorem dX6_endAhead_2 : decode cX6_endAhead 2 = .ok (.getfield 31, 3) := by decide +kernel
theorem dX6_endAhead_5 : decode cX6_endAhead 5 = .ok (.invokevirtual 67, 3) := by decide +kernel
theorem dX6_endAhead_8 : decode cX6_endAhead 8 = .ok (.ifCond .ne 5, 3) := by decide +kernel
theorem dX6_endAhead_11 : decode cX6_endAhead 11 = .ok (.iconst 0, 1) := by decide +kernel
theorem dX6_endAhead_12 : decode cX6_endAhead 12 = .ok (.ireturn, 1) := by decide +kernel
theorem dX6_endAhead_13 : decode cX6_endAhead 13 = .ok (.aload_n 0, 1) := by decide +kernel
theorem dX6_endAhead_14 : decode cX6_endAhead 14 = .ok (.getfield 52, 3) := by decide +kernel
theorem dX6_endAhead_17 : decode cX6_endAhead 17 = .ok (.iload_n 2, 1) := by decide +kernel
theorem dX6_endAhead_18 : decode cX6_endAhead 18 = .ok (.if_icmp .lt 7, 3) := by decide +kernel
theorem dX6_endAhead_21 : decode cX6_endAhead 21 = .ok (.iconst 3, 1) := by decide +kernel
theorem dX6_endAhead_22 : decode cX6_endAhead 22 = .ok (.goto 4, 3) := by decide +kernel
theorem dX6_endAhead_25 : decode cX6_endAhead 25 = .ok (.iconst (-1), 1) := by decide +kernel
theorem dX6_endAhead_26 : decode cX6_endAhead 26 = .ok (.ireturn, 1) := by decide +kernel
theorem dX6_tryOrder_0 : decode cX6_tryOrder 0 = .ok (.aload_n 1, 1) := by decide +kernel
theorem dX6_tryOrder_1 : decode cX6_tryOrder 1 = .ok (.getfield 70, 3) := by decide +kernel
theorem dX6_tryOrder_4 : decode cX6_tryOrder 4 = .ok (.aload_n 0, 1) := by decide +kernel
theorem dX6_tryOrder_5 : decode cX6_tryOrder 5 = .ok (.getfield 31, 3) := by decide +kernel
theorem dX6_tryOrder_8 : decode cX6_tryOrder 8 = .ok (.iaload, 1) := by decide +kernel
theorem dX6_tryOrder_9 : decode cX6_tryOrder 9 = .ok (.istore_n 2, 1) := by decide +kernel
theorem dX6_tryOrder_10 : decode cX6_tryOrder 10 = .ok (.aload_n 0, 1) := by decide +kernel
theorem dX6_tryOrder_11 : decode cX6_tryOrder 11 = .ok (.getfield 55, 3) := by decide +kernel
theorem dX6_tryOrder_14 : decode cX6_tryOrder 14 = .ok (.getstatic 73, 3) := by decide +kernel
theorem dX6_tryOrder_17 : decode cX6_tryOrder 17 = .ok (.iload_n 2, 1) := by decide +kernel
theorem dX6_tryOrder_18 : decode cX6_tryOrder 18 = .ok (.iaload, 1) := by decide +kernel
theorem dX6_tryOrder_19 : decode cX6_tryOrder 19 = .ok (.if_icmp .ge 5, 3) := by decide +kernel
theorem dX6_tryOrder_22 : decode cX6_tryOrder 22 = .ok (.iconst 1, 1) := by decide +kernel
theorem dX6_tryOrder_23 : decode cX6_tryOrder 23 = .ok (.ireturn, 1) := by decide +kernel
theorem dX6_tryOrder_24 : decode cX6_tryOrder 24 = .ok (.aload_n 0, 1) := by decide +kernel
theorem dX6_tryOrder_25 : decode cX6_tryOrder 25 = .ok (.getfield 55, 3) := by decide +kernel
theorem dX6_tryOrder_28 : decode cX6_tryOrder 28 = .ok (.getstatic 73, 3) := by decide +kernel
theorem dX6_tryOrder_31 : decode cX6_tryOrder 31 = .ok (.iload_n 2, 1) := by decide +kernel
theorem dX6_tryOrder_32 : decode cX6_tryOrder 32 = .ok (.iaload, 1) := by decide +kernel
theorem dX6_tryOrder_33 : decode cX6_tryOrder 33 = .ok (.isub, 1) := by decide +kernel
theorem dX6_tryOrder_34 : decode cX6_tryOrder 34 = .ok (.getstatic 78, 3) := by decide +kernel
theorem dX6_tryOrder_37 : decode cX6_tryOrder 37 = .ok (.iload_n 2, 1) := by decide +kernel
theorem dX6_tryOrder_38 : decode cX6_tryOrder 38 = .ok (.iaload, 1) := by decide +kernel
theorem dX6_tryOrder_39 : decode cX6_tryOrder 39 = .ok (.iadd, 1) := by decide +kernel
theorem dX6_tryOrder_40 : decode cX6_tryOrder 40 = .ok (.bipush 24, 2) := by decide +kernel
theorem dX6_tryOrder_42 : decode cX6_tryOrder 42 = .ok (.if_icmp .gt 18, 3) := by decide +kernel
theorem dX6_tryOrder_45 : decode cX6_tryOrder 45 = .ok (.iload_n 2, 1) := by decide +kernel
theorem dX6_tryOrder_46 : decode cX6_tryOrder 46 = .ok (.bipush 12, 2) := by decide +kernel
theorem dX6_tryOrder_48 : decode cX6_tryOrder 48 = .ok (.if_icmp .ne 14, 3) := by decide +kernel
theorem dX6_tryOrder_51 : decode cX6_tryOrder 51 = .ok (.aload_n 0, 1) := by decide +kernel
theorem dX6_tryOrder_52 : decode cX6_tryOrder 52 = .ok (.getfield 58, 3) := by decide +kernel
theorem dX6_tryOrder_55 : decode cX6_tryOrder 55 = .ok (.bipush 40, 2) := by decide +kernel
theorem dX6_tryOrder_57 : decode cX6_tryOrder 57 = .ok (.if_icmp .lt 5, 3) := by decide +kernel
theorem dX6_tryOrder_60 : decode cX6_tryOrder 60 = .ok (.iconst 2, 1) := by decide +kernel
theorem dX6_tryOrder_61 : decode cX6_tryOrder 61 = .ok (.ireturn, 1) := by decide +kernel
theorem dX6_tryOrder_62 : decode cX6_tryOrder 62 = .ok (.aload_n 0, 1) := by decide +kernel
theorem dX6_tryOrder_63 : decode cX6_tryOrder 63 = .ok (.dup, 1) := by decide +kernel
theorem dX6_tryOrder_64 : decode cX6_tryOrder 64 = .ok (.getfield 52, 3) := by decide +kernel
theorem dX6_tryOrder_67 : decode cX6_tryOrder 67 = .ok (.iconst 1, 1) := by decide +kernel
theorem dX6_tryOrder_68 : decode cX6_tryOrder 68 = .ok (.iadd, 1) := by decide +kernel
theorem dX6_tryOrder_69 : decode cX6_tryOrder 69 = .ok (.putfield 52, 3) := by decide +kernel
theorem dX6_tryOrder_72 : decode cX6_tryOrder 72 = .ok (.aload_n 1, 1) := by decide +kernel
theorem dX6_tryOrder_73 : decode cX6_tryOrder 73 = .ok (.getfield 81, 3) := by decide +kernel
theorem dX6_tryOrder_76 : decode cX6_tryOrder 76 = .ok (.aload_n 0, 1) := by decide +kernel
theorem dX6_tryOrder_77 : decode cX6_tryOrder 77 = .ok (.getfield 31, 3) := by decide +kernel
theorem dX6_tryOrder_80 : decode cX6_tryOrder 80 = .ok (.dup2, 1) := by decide +kernel
theorem dX6_tryOrder_81 : decode cX6_tryOrder 81 = .ok (.iaload, 1) := by decide +kernel
theorem dX6_tryOrder_82 : decode cX6_tryOrder 82 = .ok (.iconst 1, 1) := by decide +kernel
theorem dX6_tryOrder_83 : decode cX6_tryOrder 83 = .ok (.iadd, 1) := by decide +kernel
theorem dX6_tryOrder_84 : decode cX6_tryOrder 84 = .ok (.iastore, 1) := by decide +kernel
theorem dX6_tryOrder_85 : decode cX6_tryOrder 85 = .ok (.iload_n 2, 1) := by decide +kernel
theorem dX6_tryOrder_86 : decode cX6_tryOrder 86 = .ok (.bipush 13, 2) := by decide +kernel
theorem dX6_tryOrder_88 : decode cX6_tryOrder 88 = .ok (.if_icmp .ne 5, 3) := by decide +kernel
theorem dX6_tryOrder_91 : decode cX6_tryOrder 91 = .ok (.iconst 0, 1) := by decide +kernel
theorem dX6_tryOrder_92 : decode cX6_tryOrder 92 = .ok (.ireturn, 1) := by decide +kernel
theorem dX6_tryOrder_93 : decode cX6_tryOrder 93 = .ok (.aload_n 0, 1) := by decide +kernel
theorem dX6_tryOrder_94 : decode cX6_tryOrder 94 = .ok (.iload_n 2, 1) := by decide +kernel
theorem dX6_tryOrder_95 : decode cX6_tryOrder 95 = .ok (.aload_n 1, 1) := by decide +kernel
theorem dX6_tryOrder_96 : decode cX6_tryOrder 96 = .ok (.getfield 84, 3) := by decide +kernel
theorem dX6_tryOrder_99 : decode cX6_tryOrder 99 = .ok (.aload_n 0, 1) := by decide +kernel
theorem dX6_tryOrder_100 : decode cX6_tryOrder 100 = .ok (.getfield 31, 3) := by decide +kernel
theorem dX6_tryOrder_103 : decode cX6_tryOrder 103 = .ok (.iaload, 1) := by decide +kernel
theorem dX6_tryOrder_104 : decode cX6_tryOrder 104 = .ok (.invokevirtual 87, 3) := by decide +kernel
theorem dX6_tryOrder_107 : decode cX6_tryOrder 107 = .ok (.iconst (-1), 1) := by decide +kernel
theorem dX6_tryOrder_108 : decode cX6_tryOrder 108 = .ok (.ireturn, 1) := by decide +kernel
theorem dX6_carryOut_0 : decode cX6_carryOut 0 = .ok (.aload_n 0, 1) := by decide +kernel
theorem dX6_carryOut_1 : decode cX6_carryOut 1 = .ok (.getfield 31, 3) := by decide +kernel
theorem dX6_carryOut_4 : decode cX6_carryOut 4 = .ok (.iconst 1, 1) := by decide +kernel
theorem dX6_carryOut_5 : decode cX6_carryOut 5 = .ok (.iadd, 1) := by decide +kernel
theorem dX6_carryOut_6 : decode cX6_carryOut 6 = .ok (.istore_n 3, 1) := by decide +kernel
theorem dX6_carryOut_7 : decode cX6_carryOut 7 = .ok (.iload_n 1, 1) := by decide +kernel
theorem dX6_carryOut_8 : decode cX6_carryOut 8 = .ok (.tableswitch 215 0 15 #[80, 88, 88, 88, 96, 114, 121, 129, 142, 155, 160, 88, 176, 215, 215, 202], 80) := by decide +kernel
theorem dX6_carryOut_88 : decode cX6_carryOut 88 = .ok (.aload_n 0, 1) := by decide +kernel
theorem dX6_carryOut_89 : decode cX6_carryOut 89 = .ok (.iload_n 2, 1) := by decide +kernel
theorem dX6_carryOut_90 : decode cX6_carryOut 90 = .ok (.invokevirtual 91, 3) := by decide +kernel
theorem dX6_carryOut_93 : decode cX6_carryOut 93 = .ok (.goto 130, 3) := by decide +kernel
theorem dX6_carryOut_96 : decode cX6_carryOut 96 = .ok (.aload_n 0, 1) := by decide +kernel
theorem dX6_carryOut_97 : decode cX6_carryOut 97 = .ok (.iload_n 1, 1) := by decide +kernel
theorem dX6_carryOut_98 : decode cX6_carryOut 98 = .ok (.invokevirtual 95, 3) := by decide +kernel
theorem dX6_carryOut_101 : decode cX6_carryOut 101 = .ok (.goto 122, 3) := by decide +kernel
theorem dX6_carryOut_104 : decode cX6_carryOut 104 = .ok (.aload_n 0, 1) := by decide +kernel
theorem dX6_carryOut_105 : decode cX6_carryOut 105 = .ok (.aload_n 0, 1) := by decide +kernel
theorem dX6_carryOut_106 : decode cX6_carryOut 106 = .ok (.getfield 9, 3) := by decide +kernel
theorem dX6_carryOut_109 : decode cX6_carryOut 109 = .ok (.aload_n 0, 1) := by decide +kernel
theorem dX6_carryOut_110 : decode cX6_carryOut 110 = .ok (.getfield 55, 3) := by decide +kernel
theorem dX6_carryOut_113 : decode cX6_carryOut 113 = .ok (.iconst 1, 1) := by decide +kernel
theorem dX6_carryOut_114 : decode cX6_carryOut 114 = .ok (.isub, 1) := by decide +kernel
theorem dX6_carryOut_115 : decode cX6_carryOut 115 = .ok (.iaload, 1) := by decide +kernel
theorem dX6_carryOut_116 : decode cX6_carryOut 116 = .ok (.invokevirtual 91, 3) := by decide +kernel
theorem dX6_carryOut_119 : decode cX6_carryOut 119 = .ok (.goto 104, 3) := by decide +kernel
theorem dX6_carryOut_122 : decode cX6_carryOut 122 = .ok (.aload_n 0, 1) := by decide +kernel
theorem dX6_carryOut_123 : decode cX6_carryOut 123 = .ok (.invokevirtual 98, 3) := by decide +kernel
theorem dX6_carryOut_126 : decode cX6_carryOut 126 = .ok (.goto 97, 3) := by decide +kernel
theorem dX6_carryOut_129 : decode cX6_carryOut 129 = .ok (.aload_n 0, 1) := by decide +kernel
theorem dX6_carryOut_130 : decode cX6_carryOut 130 = .ok (.invokevirtual 101, 3) := by decide +kernel
theorem dX6_carryOut_133 : decode cX6_carryOut 133 = .ok (.pop, 1) := by decide +kernel
theorem dX6_carryOut_134 : decode cX6_carryOut 134 = .ok (.goto 89, 3) := by decide +kernel
theorem dX6_carryOut_137 : decode cX6_carryOut 137 = .ok (.aload_n 0, 1) := by decide +kernel
theorem dX6_carryOut_138 : decode cX6_carryOut 138 = .ok (.aload_n 0, 1) := by decide +kernel
theorem dX6_carryOut_139 : decode cX6_carryOut 139 = .ok (.getfield 16, 3) := by decide +kernel
theorem dX6_carryOut_142 : decode cX6_carryOut 142 = .ok (.iload_n 2, 1) := by decide +kernel
theorem dX6_carryOut_143 : decode cX6_carryOut 143 = .ok (.iaload, 1) := by decide +kernel
theorem dX6_carryOut_144 : decode cX6_carryOut 144 = .ok (.invokevirtual 91, 3) := by decide +kernel
theorem dX6_carryOut_147 : decode cX6_carryOut 147 = .ok (.goto 76, 3) := by decide +kernel
theorem dX6_carryOut_150 : decode cX6_carryOut 150 = .ok (.aload_n 0, 1) := by decide +kernel
theorem dX6_carryOut_151 : decode cX6_carryOut 151 = .ok (.getfield 16, 3) := by decide +kernel
theorem dX6_carryOut_154 : decode cX6_carryOut 154 = .ok (.iload_n 2, 1) := by decide +kernel
theorem dX6_carryOut_155 : decode cX6_carryOut 155 = .ok (.aload_n 0, 1) := by decide +kernel
theorem dX6_carryOut_156 : decode cX6_carryOut 156 = .ok (.invokevirtual 101, 3) := by decide +kernel
theorem dX6_carryOut_159 : decode cX6_carryOut 159 = .ok (.iastore, 1) := by decide +kernel
theorem dX6_carryOut_160 : decode cX6_carryOut 160 = .ok (.goto 63, 3) := by decide +kernel
theorem dX6_carryOut_163 : decode cX6_carryOut 163 = .ok (.iload_n 2, 1) := by decide +kernel
theorem dX6_carryOut_164 : decode cX6_carryOut 164 = .ok (.istore_n 3, 1) := by decide +kernel
theorem dX6_carryOut_165 : decode cX6_carryOut 165 = .ok (.goto 58, 3) := by decide +kernel
theorem dX6_carryOut_168 : decode cX6_carryOut 168 = .ok (.aload_n 0, 1) := by decide +kernel
theorem dX6_carryOut_169 : decode cX6_carryOut 169 = .ok (.invokevirtual 101, 3) := by decide +kernel
theorem dX6_carryOut_172 : decode cX6_carryOut 172 = .ok (.ifCond .ne 7, 3) := by decide +kernel
theorem dX6_carryOut_175 : decode cX6_carryOut 175 = .ok (.iload_n 2, 1) := by decide +kernel
theorem dX6_carryOut_176 : decode cX6_carryOut 176 = .ok (.goto 4, 3) := by decide +kernel
theorem dX6_carryOut_179 : decode cX6_carryOut 179 = .ok (.iload_n 3, 1) := by decide +kernel
theorem dX6_carryOut_180 : decode cX6_carryOut 180 = .ok (.istore_n 3, 1) := by decide +kernel
theorem dX6_carryOut_181 : decode cX6_carryOut 181 = .ok (.goto 42, 3) := by decide +kernel
theorem dX6_carryOut_184 : decode cX6_carryOut 184 = .ok (.aload_n 0, 1) := by decide +kernel
theorem dX6_carryOut_185 : decode cX6_carryOut 185 = .ok (.getfield 13, 3) := by decide +kernel
theorem dX6_carryOut_188 : decode cX6_carryOut 188 = .ok (.aload_n 0, 1) := by decide +kernel
theorem dX6_carryOut_189 : decode cX6_carryOut 189 = .ok (.getfield 58, 3) := by decide +kernel
theorem dX6_carryOut_192 : decode cX6_carryOut 192 = .ok (.aload_n 0, 1) := by decide +kernel
theorem dX6_carryOut_193 : decode cX6_carryOut 193 = .ok (.invokevirtual 101, 3) := by decide +kernel
theorem dX6_carryOut_196 : decode cX6_carryOut 196 = .ok (.iastore, 1) := by decide +kernel
theorem dX6_carryOut_197 : decode cX6_carryOut 197 = .ok (.aload_n 0, 1) := by decide +kernel
theorem dX6_carryOut_198 : decode cX6_carryOut 198 = .ok (.dup, 1) := by decide +kernel
theorem dX6_carryOut_199 : decode cX6_carryOut 199 = .ok (.getfield 58, 3) := by decide +kernel
theorem dX6_carryOut_202 : decode cX6_carryOut 202 = .ok (.iconst 1, 1) := by decide +kernel
theorem dX6_carryOut_203 : decode cX6_carryOut 203 = .ok (.iadd, 1) := by decide +kernel
theorem dX6_carryOut_204 : decode cX6_carryOut 204 = .ok (.putfield 58, 3) := by decide +kernel
theorem dX6_carryOut_207 : decode cX6_carryOut 207 = .ok (.goto 16, 3) := by decide +kernel
theorem dX6_carryOut_210 : decode cX6_carryOut 210 = .ok (.aload_n 0, 1) := by decide +kernel
theorem dX6_carryOut_211 : decode cX6_carryOut 211 = .ok (.getfield 16, 3) := by decide +kernel
theorem dX6_carryOut_214 : decode cX6_carryOut 214 = .ok (.iload_n 2, 1) := by decide +kernel
theorem dX6_carryOut_215 : decode cX6_carryOut 215 = .ok (.dup2, 1) := by decide +kernel
theorem dX6_carryOut_216 : decode cX6_carryOut 216 = .ok (.iaload, 1) := by decide +kernel
theorem dX6_carryOut_217 : decode cX6_carryOut 217 = .ok (.iconst 1, 1) := by decide +kernel
theorem dX6_carryOut_218 : decode cX6_carryOut 218 = .ok (.iadd, 1) := by decide +kernel
theorem dX6_carryOut_219 : decode cX6_carryOut 219 = .ok (.iastore, 1) := by decide +kernel
theorem dX6_carryOut_220 : decode cX6_carryOut 220 = .ok (.goto 3, 3) := by decide +kernel
theorem dX6_carryOut_223 : decode cX6_carryOut 223 = .ok (.aload_n 0, 1) := by decide +kernel
theorem dX6_carryOut_224 : decode cX6_carryOut 224 = .ok (.iload_n 3, 1) := by decide +kernel
theorem dX6_carryOut_225 : decode cX6_carryOut 225 = .ok (.putfield 31, 3) := by decide +kernel
theorem dX6_carryOut_228 : decode cX6_carryOut 228 = .ok (.return_, 1) := by decide +kernel
theorem dX6_layOneForTwo_0 : decode cX6_layOneForTwo 0 = .ok (.aload_n 0, 1) := by decide +kernel
theorem dX6_layOneForTwo_1 : decode cX6_layOneForTwo 1 = .ok (.invokevirtual 101, 3) := by decide +kernel
theorem dX6_layOneForTwo_4 : decode cX6_layOneForTwo 4 = .ok (.istore_n 2, 1) := by decide +kernel
theorem dX6_layOneForTwo_5 : decode cX6_layOneForTwo 5 = .ok (.aload_n 0, 1) := by decide +kernel
theorem dX6_layOneForTwo_6 : decode cX6_layOneForTwo 6 = .ok (.invokevirtual 101, 3) := by decide +kernel
theorem dX6_layOneForTwo_9 : decode cX6_layOneForTwo 9 = .ok (.istore_n 3, 1) := by decide +kernel
theorem dX6_layOneForTwo_10 : decode cX6_layOneForTwo 10 = .ok (.iload_n 1, 1) := by decide +kernel
theorem dX6_layOneForTwo_11 : decode cX6_layOneForTwo 11 = .ok (.tableswitch 55 1 3 #[25, 35, 45], 25) := by decide +kernel
theorem dX6_layOneForTwo_36 : decode cX6_layOneForTwo 36 = .ok (.aload_n 0, 1) := by decide +kernel
theorem dX6_layOneForTwo_37 : decode cX6_layOneForTwo 37 = .ok (.iload_n 3, 1) := by decide +kernel
theorem dX6_layOneForTwo_38 : decode cX6_layOneForTwo 38 = .ok (.iload_n 2, 1) := by decide +kernel
theorem dX6_layOneForTwo_39 : decode cX6_layOneForTwo 39 = .ok (.iadd, 1) := by decide +kernel
theorem dX6_layOneForTwo_40 : decode cX6_layOneForTwo 40 = .ok (.invokevirtual 91, 3) := by decide +kernel
theorem dX6_layOneForTwo_43 : decode cX6_layOneForTwo 43 = .ok (.goto 37, 3) := by decide +kernel
theorem dX6_layOneForTwo_46 : decode cX6_layOneForTwo 46 = .ok (.aload_n 0, 1) := by decide +kernel
theorem dX6_layOneForTwo_47 : decode cX6_layOneForTwo 47 = .ok (.iload_n 3, 1) := by decide +kernel
theorem dX6_layOneForTwo_48 : decode cX6_layOneForTwo 48 = .ok (.iload_n 2, 1) := by decide +kernel
theorem dX6_layOneForTwo_49 : decode cX6_layOneForTwo 49 = .ok (.isub, 1) := by decide +kernel
theorem dX6_layOneForTwo_50 : decode cX6_layOneForTwo 50 = .ok (.invokevirtual 91, 3) := by decide +kernel
theorem dX6_layOneForTwo_53 : decode cX6_layOneForTwo 53 = .ok (.goto 27, 3) := by decide +kernel
theorem dX6_layOneForTwo_56 : decode cX6_layOneForTwo 56 = .ok (.aload_n 0, 1) := by decide +kernel
theorem dX6_layOneForTwo_57 : decode cX6_layOneForTwo 57 = .ok (.iload_n 3, 1) := by decide +kernel
theorem dX6_layOneForTwo_58 : decode cX6_layOneForTwo 58 = .ok (.iload_n 2, 1) := by decide +kernel
theorem dX6_layOneForTwo_59 : decode cX6_layOneForTwo 59 = .ok (.imul, 1) := by decide +kernel
theorem dX6_layOneForTwo_60 : decode cX6_layOneForTwo 60 = .ok (.invokevirtual 91, 3) := by decide +kernel
theorem dX6_layOneForTwo_63 : decode cX6_layOneForTwo 63 = .ok (.goto 17, 3) := by decide +kernel
theorem dX6_layOneForTwo_66 : decode cX6_layOneForTwo 66 = .ok (.aload_n 0, 1) := by decide +kernel
theorem dX6_layOneForTwo_67 : decode cX6_layOneForTwo 67 = .ok (.iload_n 3, 1) := by decide +kernel
theorem dX6_layOneForTwo_68 : decode cX6_layOneForTwo 68 = .ok (.iload_n 2, 1) := by decide +kernel
theorem dX6_layOneForTwo_69 : decode cX6_layOneForTwo 69 = .ok (.if_icmp .ge 7, 3) := by decide +kernel
theorem dX6_layOneForTwo_72 : decode cX6_layOneForTwo 72 = .ok (.iconst 1, 1) := by decide +kernel
theorem dX6_layOneForTwo_73 : decode cX6_layOneForTwo 73 = .ok (.goto 4, 3) := by decide +kernel
theorem dX6_layOneForTwo_76 : decode cX6_layOneForTwo 76 = .ok (.iconst 0, 1) := by decide +kernel
theorem dX6_layOneForTwo_77 : decode cX6_layOneForTwo 77 = .ok (.invokevirtual 91, 3) := by decide +kernel
theorem dX6_layOneForTwo_80 : decode cX6_layOneForTwo 80 = .ok (.return_, 1) := by decide +kernel
theorem dX6_turnUpperTwo_0 : decode cX6_turnUpperTwo 0 = .ok (.aload_n 0, 1) := by decide +kernel
theorem dX6_turnUpperTwo_1 : decode cX6_turnUpperTwo 1 = .ok (.invokevirtual 101, 3) := by decide +kernel
theorem dX6_turnUpperTwo_4 : decode cX6_turnUpperTwo 4 = .ok (.istore_n 1, 1) := by decide +kernel
theorem dX6_turnUpperTwo_5 : decode cX6_turnUpperTwo 5 = .ok (.aload_n 0, 1) := by decide +kernel
theorem dX6_turnUpperTwo_6 : decode cX6_turnUpperTwo 6 = .ok (.invokevirtual 101, 3) := by decide +kernel
theorem dX6_turnUpperTwo_9 : decode cX6_turnUpperTwo 9 = .ok (.istore_n 2, 1) := by decide +kernel
theorem dX6_turnUpperTwo_10 : decode cX6_turnUpperTwo 10 = .ok (.aload_n 0, 1) := by decide +kernel
theorem dX6_turnUpperTwo_11 : decode cX6_turnUpperTwo 11 = .ok (.iload_n 1, 1) := by decide +kernel
theorem dX6_turnUpperTwo_12 : decode cX6_turnUpperTwo 12 = .ok (.invokevirtual 91, 3) := by decide +kernel
theorem dX6_turnUpperTwo_15 : decode cX6_turnUpperTwo 15 = .ok (.aload_n 0, 1) := by decide +kernel
theorem dX6_turnUpperTwo_16 : decode cX6_turnUpperTwo 16 = .ok (.iload_n 2, 1) := by decide +kernel
theorem dX6_turnUpperTwo_17 : decode cX6_turnUpperTwo 17 = .ok (.invokevirtual 91, 3) := by decide +kernel
theorem dX6_turnUpperTwo_20 : decode cX6_turnUpperTwo 20 = .ok (.return_, 1) := by decide +kernel
theorem dX6_lay_0 : decode cX6_lay 0 = .ok (.aload_n 0, 1) := by decide +kernel
theorem dX6_lay_1 : decode cX6_lay 1 = .ok (.getfield 9, 3) := by decide +kernel
theorem dX6_lay_4 : decode cX6_lay 4 = .ok (.aload_n 0, 1) := by decide +kernel
theorem dX6_lay_5 : decode cX6_lay 5 = .ok (.getfield 55, 3) := by decide +kernel
theorem dX6_lay_8 : decode cX6_lay 8 = .ok (.iload_n 1, 1) := by decide +kernel
theorem dX6_lay_9 : decode cX6_lay 9 = .ok (.iastore, 1) := by decide +kernel
theorem dX6_lay_10 : decode cX6_lay 10 = .ok (.aload_n 0, 1) := by decide +kernel
theorem dX6_lay_11 : decode cX6_lay 11 = .ok (.dup, 1) := by decide +kernel
theorem dX6_lay_12 : decode cX6_lay 12 = .ok (.getfield 55, 3) := by decide +kernel
theorem dX6_lay_15 : decode cX6_lay 15 = .ok (.iconst 1, 1) := by decide +kernel
theorem dX6_lay_16 : decode cX6_lay 16 = .ok (.iadd, 1) := by decide +kernel
theorem dX6_lay_17 : decode cX6_lay 17 = .ok (.putfield 55, 3) := by decide +kernel
theorem dX6_lay_20 : decode cX6_lay 20 = .ok (.return_, 1) := by decide +kernel
theorem dX6_lift_0 : decode cX6_lift 0 = .ok (.aload_n 0, 1) := by decide +kernel
theorem dX6_lift_1 : decode cX6_lift 1 = .ok (.dup, 1) := by decide +kernel
theorem dX6_lift_2 : decode cX6_lift 2 = .ok (.getfield 55, 3) := by decide +kernel
theorem dX6_lift_5 : decode cX6_lift 5 = .ok (.iconst 1, 1) := by decide +kernel
theorem dX6_lift_6 : decode cX6_lift 6 = .ok (.isub, 1) := by decide +kernel
theorem dX6_lift_7 : decode cX6_lift 7 = .ok (.putfield 55, 3) := by decide +kernel
theorem dX6_lift_10 : decode cX6_lift 10 = .ok (.aload_n 0, 1) := by decide +kernel
theorem dX6_lift_11 : decode cX6_lift 11 = .ok (.getfield 9, 3) := by decide +kernel
theorem dX6_lift_14 : decode cX6_lift 14 = .ok (.aload_n 0, 1) := by decide +kernel
theorem dX6_lift_15 : decode cX6_lift 15 = .ok (.getfield 55, 3) := by decide +kernel
theorem dX6_lift_18 : decode cX6_lift 18 = .ok (.iaload, 1) := by decide +kernel
theorem dX6_lift_19 : decode cX6_lift 19 = .ok (.ireturn, 1) := by decide +kernel
theorem dX6_copyFrom_0 : decode cX6_copyFrom 0 = .ok (.aload_n 0, 1) := by decide +kernel
theorem dX6_copyFrom_1 : decode cX6_copyFrom 1 = .ok (.aload_n 1, 1) := by decide +kernel
theorem dX6_copyFrom_2 : decode cX6_copyFrom 2 = .ok (.getfield 48, 3) := by decide +kernel
theorem dX6_copyFrom_5 : decode cX6_copyFrom 5 = .ok (.putfield 48, 3) := by decide +kernel
theorem dX6_copyFrom_8 : decode cX6_copyFrom 8 = .ok (.aload_n 0, 1) := by decide +kernel
theorem dX6_copyFrom_9 : decode cX6_copyFrom 9 = .ok (.aload_n 1, 1) := by decide +kernel
theorem dX6_copyFrom_10 : decode cX6_copyFrom 10 = .ok (.getfield 52, 3) := by decide +kernel
theorem dX6_copyFrom_13 : decode cX6_copyFrom 13 = .ok (.putfield 52, 3) := by decide +kernel
theorem dX6_copyFrom_16 : decode cX6_copyFrom 16 = .ok (.aload_n 0, 1) := by decide +kernel
theorem dX6_copyFrom_17 : decode cX6_copyFrom 17 = .ok (.aload_n 1, 1) := by decide +kernel
theorem dX6_copyFrom_18 : decode cX6_copyFrom 18 = .ok (.getfield 41, 3) := by decide +kernel
theorem dX6_copyFrom_21 : decode cX6_copyFrom 21 = .ok (.putfield 41, 3) := by decide +kernel
theorem dX6_copyFrom_24 : decode cX6_copyFrom 24 = .ok (.aload_n 0, 1) := by decide +kernel
theorem dX6_copyFrom_25 : decode cX6_copyFrom 25 = .ok (.aload_n 1, 1) := by decide +kernel
theorem dX6_copyFrom_26 : decode cX6_copyFrom 26 = .ok (.getfield 31, 3) := by decide +kernel
theorem dX6_copyFrom_29 : decode cX6_copyFrom 29 = .ok (.putfield 31, 3) := by decide +kernel
theorem dX6_copyFrom_32 : decode cX6_copyFrom 32 = .ok (.aload_n 0, 1) := by decide +kernel
theorem dX6_copyFrom_33 : decode cX6_copyFrom 33 = .ok (.aload_n 1, 1) := by decide +kernel
theorem dX6_copyFrom_34 : decode cX6_copyFrom 34 = .ok (.getfield 55, 3) := by decide +kernel
theorem dX6_copyFrom_37 : decode cX6_copyFrom 37 = .ok (.putfield 55, 3) := by decide +kernel
theorem dX6_copyFrom_40 : decode cX6_copyFrom 40 = .ok (.aload_n 1, 1) := by decide +kernel
theorem dX6_copyFrom_41 : decode cX6_copyFrom 41 = .ok (.getfield 9, 3) := by decide +kernel
theorem dX6_copyFrom_44 : decode cX6_copyFrom 44 = .ok (.iconst 0, 1) := by decide +kernel
theorem dX6_copyFrom_45 : decode cX6_copyFrom 45 = .ok (.aload_n 0, 1) := by decide +kernel
theorem dX6_copyFrom_46 : decode cX6_copyFrom 46 = .ok (.getfield 9, 3) := by decide +kernel
theorem dX6_copyFrom_49 : decode cX6_copyFrom 49 = .ok (.iconst 0, 1) := by decide +kernel
theorem dX6_copyFrom_50 : decode cX6_copyFrom 50 = .ok (.bipush 24, 2) := by decide +kernel
theorem dX6_copyFrom_52 : decode cX6_copyFrom 52 = .ok (.invokestatic 105, 3) := by decide +kernel
theorem dX6_copyFrom_55 : decode cX6_copyFrom 55 = .ok (.aload_n 0, 1) := by decide +kernel
theorem dX6_copyFrom_56 : decode cX6_copyFrom 56 = .ok (.aload_n 1, 1) := by decide +kernel
theorem dX6_copyFrom_57 : decode cX6_copyFrom 57 = .ok (.getfield 58, 3) := by decide +kernel
theorem dX6_copyFrom_60 : decode cX6_copyFrom 60 = .ok (.putfield 58, 3) := by decide +kernel
theorem dX6_copyFrom_63 : decode cX6_copyFrom 63 = .ok (.aload_n 1, 1) := by decide +kernel
theorem dX6_copyFrom_64 : decode cX6_copyFrom 64 = .ok (.getfield 13, 3) := by decide +kernel
theorem dX6_copyFrom_67 : decode cX6_copyFrom 67 = .ok (.iconst 0, 1) := by decide +kernel
theorem dX6_copyFrom_68 : decode cX6_copyFrom 68 = .ok (.aload_n 0, 1) := by decide +kernel
theorem dX6_copyFrom_69 : decode cX6_copyFrom 69 = .ok (.getfield 13, 3) := by decide +kernel
theorem dX6_copyFrom_72 : decode cX6_copyFrom 72 = .ok (.iconst 0, 1) := by decide +kernel
theorem dX6_copyFrom_73 : decode cX6_copyFrom 73 = .ok (.bipush 40, 2) := by decide +kernel
theorem dX6_copyFrom_75 : decode cX6_copyFrom 75 = .ok (.invokestatic 105, 3) := by decide +kernel
theorem dX6_copyFrom_78 : decode cX6_copyFrom 78 = .ok (.aload_n 1, 1) := by decide +kernel
theorem dX6_copyFrom_79 : decode cX6_copyFrom 79 = .ok (.getfield 16, 3) := by decide +kernel
theorem dX6_copyFrom_82 : decode cX6_copyFrom 82 = .ok (.iconst 0, 1) := by decide +kernel
theorem dX6_copyFrom_83 : decode cX6_copyFrom 83 = .ok (.aload_n 0, 1) := by decide +kernel
theorem dX6_copyFrom_84 : decode cX6_copyFrom 84 = .ok (.getfield 16, 3) := by decide +kernel
theorem dX6_copyFrom_87 : decode cX6_copyFrom 87 = .ok (.iconst 0, 1) := by decide +kernel
theorem dX6_copyFrom_88 : decode cX6_copyFrom 88 = .ok (.bipush 8, 2) := by decide +kernel
theorem dX6_copyFrom_90 : decode cX6_copyFrom 90 = .ok (.invokestatic 105, 3) := by decide +kernel
theorem dX6_copyFrom_93 : decode cX6_copyFrom 93 = .ok (.return_, 1) := by decide +kernel
theorem dX7_init_0 : decode cX7_init 0 = .ok (.aload_n 0, 1) := by decide +kernel
theorem dX7_init_1 : decode cX7_init 1 = .ok (.invokespecial 1, 3) := by decide +kernel
theorem dX7_init_4 : decode cX7_init 4 = .ok (.aload_n 0, 1) := by decide +kernel
theorem dX7_init_5 : decode cX7_init 5 = .ok (.iconst 3, 1) := by decide +kernel
theorem dX7_init_6 : decode cX7_init 6 = .ok (.anewarray 9, 3) := by decide +kernel
theorem dX7_init_9 : decode cX7_init 9 = .ok (.putfield 11, 3) := by decide +kernel
theorem dX7_init_12 : decode cX7_init 12 = .ok (.aload_n 0, 1) := by decide +kernel
theorem dX7_init_13 : decode cX7_init 13 = .ok (.new 15, 3) := by decide +kernel
theorem dX7_init_16 : decode cX7_init 16 = .ok (.dup, 1) := by decide +kernel
theorem dX7_init_17 : decode cX7_init 17 = .ok (.invokespecial 17, 3) := by decide +kernel
theorem dX7_init_20 : decode cX7_init 20 = .ok (.putfield 18, 3) := by decide +kernel
theorem dX7_init_23 : decode cX7_init 23 = .ok (.aload_n 0, 1) := by decide +kernel
theorem dX7_init_24 : decode cX7_init 24 = .ok (.new 22, 3) := by decide +kernel
theorem dX7_init_27 : decode cX7_init 27 = .ok (.dup, 1) := by decide +kernel
theorem dX7_init_28 : decode cX7_init 28 = .ok (.invokespecial 24, 3) := by decide +kernel
theorem dX7_init_31 : decode cX7_init 31 = .ok (.putfield 25, 3) := by decide +kernel
theorem dX7_init_34 : decode cX7_init 34 = .ok (.aload_n 0, 1) := by decide +kernel
theorem dX7_init_35 : decode cX7_init 35 = .ok (.new 29, 3) := by decide +kernel
theorem dX7_init_38 : decode cX7_init 38 = .ok (.dup, 1) := by decide +kernel
theorem dX7_init_39 : decode cX7_init 39 = .ok (.invokespecial 31, 3) := by decide +kernel
theorem dX7_init_42 : decode cX7_init 42 = .ok (.putfield 32, 3) := by decide +kernel
theorem dX7_init_45 : decode cX7_init 45 = .ok (.aload_n 0, 1) := by decide +kernel
theorem dX7_init_46 : decode cX7_init 46 = .ok (.new 15, 3) := by decide +kernel
theorem dX7_init_49 : decode cX7_init 49 = .ok (.dup, 1) := by decide +kernel
theorem dX7_init_50 : decode cX7_init 50 = .ok (.invokespecial 17, 3) := by decide +kernel
theorem dX7_init_53 : decode cX7_init 53 = .ok (.putfield 36, 3) := by decide +kernel
theorem dX7_init_56 : decode cX7_init 56 = .ok (.aload_n 0, 1) := by decide +kernel
theorem dX7_init_57 : decode cX7_init 57 = .ok (.new 39, 3) := by decide +kernel
theorem dX7_init_60 : decode cX7_init 60 = .ok (.dup, 1) := by decide +kernel
theorem dX7_init_61 : decode cX7_init 61 = .ok (.invokespecial 41, 3) := by decide +kernel
theorem dX7_init_64 : decode cX7_init 64 = .ok (.putfield 42, 3) := by decide +kernel
theorem dX7_init_67 : decode cX7_init 67 = .ok (.iconst 0, 1) := by decide +kernel
theorem dX7_init_68 : decode cX7_init 68 = .ok (.istore_n 1, 1) := by decide +kernel
theorem dX7_init_69 : decode cX7_init 69 = .ok (.iload_n 1, 1) := by decide +kernel
theorem dX7_init_70 : decode cX7_init 70 = .ok (.iconst 3, 1) := by decide +kernel
theorem dX7_init_71 : decode cX7_init 71 = .ok (.if_icmp .ge 22, 3) := by decide +kernel
theorem dX7_init_74 : decode cX7_init 74 = .ok (.aload_n 0, 1) := by decide +kernel
theorem dX7_init_75 : decode cX7_init 75 = .ok (.getfield 11, 3) := by decide +kernel
theorem dX7_init_78 : decode cX7_init 78 = .ok (.iload_n 1, 1) := by decide +kernel
theorem dX7_init_79 : decode cX7_init 79 = .ok (.new 9, 3) := by decide +kernel
theorem dX7_init_82 : decode cX7_init 82 = .ok (.dup, 1) := by decide +kernel
theorem dX7_init_83 : decode cX7_init 83 = .ok (.invokespecial 46, 3) := by decide +kernel
theorem dX7_init_86 : decode cX7_init 86 = .ok (.aastore, 1) := by decide +kernel
theorem dX7_init_87 : decode cX7_init 87 = .ok (.iinc 1 1, 3) := by decide +kernel
theorem dX7_init_90 : decode cX7_init 90 = .ok (.goto (-21), 3) := by decide +kernel
theorem dX7_init_93 : decode cX7_init 93 = .ok (.return_, 1) := by decide +kernel
theorem dX7_hasProgram_0 : decode cX7_hasProgram 0 = .ok (.iload_n 1, 1) := by decide +kernel
theorem dX7_hasProgram_1 : decode cX7_hasProgram 1 = .ok (.ifCond .lt 15, 3) := by decide +kernel
theorem dX7_hasProgram_4 : decode cX7_hasProgram 4 = .ok (.iload_n 1, 1) := by decide +kernel
theorem dX7_hasProgram_5 : decode cX7_hasProgram 5 = .ok (.aload_n 0, 1) := by decide +kernel
theorem dX7_hasProgram_6 : decode cX7_hasProgram 6 = .ok (.getfield 47, 3) := by decide +kernel
theorem dX7_hasProgram_9 : decode cX7_hasProgram 9 = .ok (.if_icmp .ge 7, 3) := by decide +kernel
theorem dX7_hasProgram_12 : decode cX7_hasProgram 12 = .ok (.iconst 1, 1) := by decide +kernel
theorem dX7_hasProgram_13 : decode cX7_hasProgram 13 = .ok (.goto 4, 3) := by decide +kernel
theorem dX7_hasProgram_16 : decode cX7_hasProgram 16 = .ok (.iconst 0, 1) := by decide +kernel
theorem dX7_hasProgram_17 : decode cX7_hasProgram 17 = .ok (.ireturn, 1) := by decide +kernel
theorem dX7_hasOrder_0 : decode cX7_hasOrder 0 = .ok (.aload_n 0, 1) := by decide +kernel
theorem dX7_hasOrder_1 : decode cX7_hasOrder 1 = .ok (.iload_n 1, 1) := by decide +kernel
theorem dX7_hasOrder_2 : decode cX7_hasOrder 2 = .ok (.invokevirtual 51, 3) := by decide +kernel
theorem dX7_hasOrder_5 : decode cX7_hasOrder 5 = .ok (.ifCond .eq 20, 3) := by decide +kernel
theorem dX7_hasOrder_8 : decode cX7_hasOrder 8 = .ok (.aload_n 0, 1) := by decide +kernel
theorem dX7_hasOrder_9 : decode cX7_hasOrder 9 = .ok (.getfield 11, 3) := by decide +kernel
theorem dX7_hasOrder_12 : decode cX7_hasOrder 12 = .ok (.iload_n 1, 1) := by decide +kernel
theorem dX7_hasOrder_13 : decode cX7_hasOrder 13 = .ok (.aaload, 1) := by decide +kernel
theorem dX7_hasOrder_14 : decode cX7_hasOrder 14 = .ok (.iload_n 2, 1) := by decide +kernel
theorem dX7_hasOrder_15 : decode cX7_hasOrder 15 = .ok (.invokevirtual 55, 3) := by decide +kernel
theorem dX7_hasOrder_18 : decode cX7_hasOrder 18 = .ok (.ifCond .eq 7, 3) := by decide +kernel
theorem dX7_hasOrder_21 : decode cX7_hasOrder 21 = .ok (.iconst 1, 1) := by decide +kernel
theorem dX7_hasOrder_22 : decode cX7_hasOrder 22 = .ok (.goto 4, 3) := by decide +kernel
theorem dX7_hasOrder_25 : decode cX7_hasOrder 25 = .ok (.iconst 0, 1) := by decide +kernel
theorem dX7_hasOrder_26 : decode cX7_hasOrder 26 = .ok (.ireturn, 1) := by decide +kernel
theorem dX7_copyFrom_0 : decode cX7_copyFrom 0 = .ok (.aload_n 0, 1) := by decide +kernel
theorem dX7_copyFrom_1 : decode cX7_copyFrom 1 = .ok (.aload_n 1, 1) := by decide +kernel
theorem dX7_copyFrom_2 : decode cX7_copyFrom 2 = .ok (.getfield 47, 3) := by decide +kernel
theorem dX7_copyFrom_5 : decode cX7_copyFrom 5 = .ok (.putfield 47, 3) := by decide +kernel
theorem dX7_copyFrom_8 : decode cX7_copyFrom 8 = .ok (.iconst 0, 1) := by decide +kernel
theorem dX7_copyFrom_9 : decode cX7_copyFrom 9 = .ok (.istore_n 2, 1) := by decide +kernel
theorem dX7_copyFrom_10 : decode cX7_copyFrom 10 = .ok (.iload_n 2, 1) := by decide +kernel
theorem dX7_copyFrom_11 : decode cX7_copyFrom 11 = .ok (.aload_n 0, 1) := by decide +kernel
theorem dX7_copyFrom_12 : decode cX7_copyFrom 12 = .ok (.getfield 47, 3) := by decide +kernel
theorem dX7_copyFrom_15 : decode cX7_copyFrom 15 = .ok (.if_icmp .ge 24, 3) := by decide +kernel
theorem dX7_copyFrom_18 : decode cX7_copyFrom 18 = .ok (.aload_n 0, 1) := by decide +kernel
theorem dX7_copyFrom_19 : decode cX7_copyFrom 19 = .ok (.getfield 11, 3) := by decide +kernel
theorem dX7_copyFrom_22 : decode cX7_copyFrom 22 = .ok (.iload_n 2, 1) := by decide +kernel
theorem dX7_copyFrom_23 : decode cX7_copyFrom 23 = .ok (.aaload, 1) := by decide +kernel
theorem dX7_copyFrom_24 : decode cX7_copyFrom 24 = .ok (.aload_n 1, 1) := by decide +kernel
theorem dX7_copyFrom_25 : decode cX7_copyFrom 25 = .ok (.getfield 11, 3) := by decide +kernel
theorem dX7_copyFrom_28 : decode cX7_copyFrom 28 = .ok (.iload_n 2, 1) := by decide +kernel
theorem dX7_copyFrom_29 : decode cX7_copyFrom 29 = .ok (.aaload, 1) := by decide +kernel
theorem dX7_copyFrom_30 : decode cX7_copyFrom 30 = .ok (.invokevirtual 58, 3) := by decide +kernel
theorem dX7_copyFrom_33 : decode cX7_copyFrom 33 = .ok (.iinc 2 1, 3) := by decide +kernel
theorem dX7_copyFrom_36 : decode cX7_copyFrom 36 = .ok (.goto (-26), 3) := by decide +kernel
theorem dX7_copyFrom_39 : decode cX7_copyFrom 39 = .ok (.aload_n 0, 1) := by decide +kernel
theorem dX7_copyFrom_40 : decode cX7_copyFrom 40 = .ok (.getfield 18, 3) := by decide +kernel
theorem dX7_copyFrom_43 : decode cX7_copyFrom 43 = .ok (.aload_n 1, 1) := by decide +kernel
theorem dX7_copyFrom_44 : decode cX7_copyFrom 44 = .ok (.getfield 18, 3) := by decide +kernel
theorem dX7_copyFrom_47 : decode cX7_copyFrom 47 = .ok (.invokevirtual 62, 3) := by decide +kernel
theorem dX7_copyFrom_50 : decode cX7_copyFrom 50 = .ok (.aload_n 0, 1) := by decide +kernel
theorem dX7_copyFrom_51 : decode cX7_copyFrom 51 = .ok (.getfield 25, 3) := by decide +kernel
theorem dX7_copyFrom_54 : decode cX7_copyFrom 54 = .ok (.aload_n 1, 1) := by decide +kernel
theorem dX7_copyFrom_55 : decode cX7_copyFrom 55 = .ok (.getfield 25, 3) := by decide +kernel
theorem dX7_copyFrom_58 : decode cX7_copyFrom 58 = .ok (.invokevirtual 65, 3) := by decide +kernel
theorem dX7_copyFrom_61 : decode cX7_copyFrom 61 = .ok (.aload_n 0, 1) := by decide +kernel
theorem dX7_copyFrom_62 : decode cX7_copyFrom 62 = .ok (.getfield 32, 3) := by decide +kernel
theorem dX7_copyFrom_65 : decode cX7_copyFrom 65 = .ok (.aload_n 1, 1) := by decide +kernel
theorem dX7_copyFrom_66 : decode cX7_copyFrom 66 = .ok (.getfield 32, 3) := by decide +kernel
theorem dX7_copyFrom_69 : decode cX7_copyFrom 69 = .ok (.invokevirtual 68, 3) := by decide +kernel
theorem dX7_copyFrom_72 : decode cX7_copyFrom 72 = .ok (.aload_n 0, 1) := by decide +kernel
theorem dX7_copyFrom_73 : decode cX7_copyFrom 73 = .ok (.aload_n 1, 1) := by decide +kernel
theorem dX7_copyFrom_74 : decode cX7_copyFrom 74 = .ok (.getfield 71, 3) := by decide +kernel
theorem dX7_copyFrom_77 : decode cX7_copyFrom 77 = .ok (.putfield 71, 3) := by decide +kernel
theorem dX7_copyFrom_80 : decode cX7_copyFrom 80 = .ok (.aload_n 0, 1) := by decide +kernel
theorem dX7_copyFrom_81 : decode cX7_copyFrom 81 = .ok (.getfield 36, 3) := by decide +kernel
theorem dX7_copyFrom_84 : decode cX7_copyFrom 84 = .ok (.aload_n 1, 1) := by decide +kernel
theorem dX7_copyFrom_85 : decode cX7_copyFrom 85 = .ok (.getfield 36, 3) := by decide +kernel
theorem dX7_copyFrom_88 : decode cX7_copyFrom 88 = .ok (.invokevirtual 62, 3) := by decide +kernel
theorem dX7_copyFrom_91 : decode cX7_copyFrom 91 = .ok (.aload_n 0, 1) := by decide +kernel
theorem dX7_copyFrom_92 : decode cX7_copyFrom 92 = .ok (.getfield 42, 3) := by decide +kernel
theorem dX7_copyFrom_95 : decode cX7_copyFrom 95 = .ok (.aload_n 1, 1) := by decide +kernel
theorem dX7_copyFrom_96 : decode cX7_copyFrom 96 = .ok (.getfield 42, 3) := by decide +kernel
theorem dX7_copyFrom_99 : decode cX7_copyFrom 99 = .ok (.invokevirtual 75, 3) := by decide +kernel
theorem dX7_copyFrom_102 : decode cX7_copyFrom 102 = .ok (.return_, 1) := by decide +kernel
theorem dX8_init_0 : decode cX8_init 0 = .ok (.aload_n 0, 1) := by decide +kernel
theorem dX8_init_1 : decode cX8_init 1 = .ok (.invokespecial 3, 3) := by decide +kernel
theorem dX8_init_4 : decode cX8_init 4 = .ok (.aload_n 0, 1) := by decide +kernel
theorem dX8_init_5 : decode cX8_init 5 = .ok (.sipush 160, 3) := by decide +kernel
theorem dX8_init_8 : decode cX8_init 8 = .ok (.newarray .int, 2) := by decide +kernel
theorem dX8_init_10 : decode cX8_init 10 = .ok (.putfield 11, 3) := by decide +kernel
theorem dX8_init_13 : decode cX8_init 13 = .ok (.return_, 1) := by decide +kernel
theorem dX8_append_0 : decode cX8_append 0 = .ok (.iload_n 2, 1) := by decide +kernel
theorem dX8_append_1 : decode cX8_append 1 = .ok (.iconst 1, 1) := by decide +kernel
theorem dX8_append_2 : decode cX8_append 2 = .ok (.if_icmp .lt 20, 3) := by decide +kernel
theorem dX8_append_5 : decode cX8_append 5 = .ok (.iload_n 2, 1) := by decide +kernel
theorem dX8_append_6 : decode cX8_append 6 = .ok (.iconst 4, 1) := by decide +kernel
theorem dX8_append_7 : decode cX8_append 7 = .ok (.if_icmp .gt 15, 3) := by decide +kernel
theorem dX8_append_10 : decode cX8_append 10 = .ok (.aload_n 0, 1) := by decide +kernel
theorem dX8_append_11 : decode cX8_append 11 = .ok (.getfield 15, 3) := by decide +kernel
theorem dX8_append_14 : decode cX8_append 14 = .ok (.iload_n 2, 1) := by decide +kernel
theorem dX8_append_15 : decode cX8_append 15 = .ok (.iadd, 1) := by decide +kernel
theorem dX8_append_16 : decode cX8_append 16 = .ok (.sipush 160, 3) := by decide +kernel
theorem dX8_append_19 : decode cX8_append 19 = .ok (.if_icmp .le 5, 3) := by decide +kernel
theorem dX8_append_22 : decode cX8_append 22 = .ok (.iconst 0, 1) := by decide +kernel
theorem dX8_append_23 : decode cX8_append 23 = .ok (.ireturn, 1) := by decide +kernel
theorem dX8_append_24 : decode cX8_append 24 = .ok (.iconst 0, 1) := by decide +kernel
theorem dX8_append_25 : decode cX8_append 25 = .ok (.istore_n 3, 1) := by decide +kernel
theorem dX8_append_26 : decode cX8_append 26 = .ok (.iload_n 3, 1) := by decide +kernel
theorem dX8_append_27 : decode cX8_append 27 = .ok (.iload_n 2, 1) := by decide +kernel
theorem dX8_append_28 : decode cX8_append 28 = .ok (.if_icmp .ge 41, 3) := by decide +kernel
theorem dX8_append_31 : decode cX8_append 31 = .ok (.aload_n 0, 1) := by decide +kernel
theorem dX8_append_32 : decode cX8_append 32 = .ok (.getfield 11, 3) := by decide +kernel
theorem dX8_append_35 : decode cX8_append 35 = .ok (.aload_n 0, 1) := by decide +kernel
theorem dX8_append_36 : decode cX8_append 36 = .ok (.getfield 15, 3) := by decide +kernel
theorem dX8_append_39 : decode cX8_append 39 = .ok (.iload_n 1, 1) := by decide +kernel
theorem dX8_append_40 : decode cX8_append 40 = .ok (.bipush 24, 2) := by decide +kernel
theorem dX8_append_42 : decode cX8_append 42 = .ok (.bipush 8, 2) := by decide +kernel
theorem dX8_append_44 : decode cX8_append 44 = .ok (.iload_n 3, 1) := by decide +kernel
theorem dX8_append_45 : decode cX8_append 45 = .ok (.imul, 1) := by decide +kernel
theorem dX8_append_46 : decode cX8_append 46 = .ok (.isub, 1) := by decide +kernel
theorem dX8_append_47 : decode cX8_append 47 = .ok (.iushr, 1) := by decide +kernel
theorem dX8_append_48 : decode cX8_append 48 = .ok (.sipush 255, 3) := by decide +kernel
theorem dX8_append_51 : decode cX8_append 51 = .ok (.iand, 1) := by decide +kernel
theorem dX8_append_52 : decode cX8_append 52 = .ok (.iastore, 1) := by decide +kernel
theorem dX8_append_53 : decode cX8_append 53 = .ok (.aload_n 0, 1) := by decide +kernel
theorem dX8_append_54 : decode cX8_append 54 = .ok (.dup, 1) := by decide +kernel
theorem dX8_append_55 : decode cX8_append 55 = .ok (.getfield 15, 3) := by decide +kernel
theorem dX8_append_58 : decode cX8_append 58 = .ok (.iconst 1, 1) := by decide +kernel
theorem dX8_append_59 : decode cX8_append 59 = .ok (.iadd, 1) := by decide +kernel
theorem dX8_append_60 : decode cX8_append 60 = .ok (.putfield 15, 3) := by decide +kernel
theorem dX8_append_63 : decode cX8_append 63 = .ok (.iinc 3 1, 3) := by decide +kernel
theorem dX8_append_66 : decode cX8_append 66 = .ok (.goto (-40), 3) := by decide +kernel
theorem dX8_append_69 : decode cX8_append 69 = .ok (.iconst 1, 1) := by decide +kernel
theorem dX8_append_70 : decode cX8_append 70 = .ok (.ireturn, 1) := by decide +kernel
theorem dX8_readInto_0 : decode cX8_readInto 0 = .ok (.aload_n 1, 1) := by decide +kernel
theorem dX8_readInto_1 : decode cX8_readInto 1 = .ok (.invokevirtual 19, 3) := by decide +kernel
theorem dX8_readInto_4 : decode cX8_readInto 4 = .ok (.aload_n 0, 1) := by decide +kernel
theorem dX8_readInto_5 : decode cX8_readInto 5 = .ok (.iconst 0, 1) := by decide +kernel
theorem dX8_readInto_6 : decode cX8_readInto 6 = .ok (.putfield 24, 3) := by decide +kernel
theorem dX8_readInto_9 : decode cX8_readInto 9 = .ok (.iconst 0, 1) := by decide +kernel
theorem dX8_readInto_10 : decode cX8_readInto 10 = .ok (.istore_n 3, 1) := by decide +kernel
theorem dX8_readInto_11 : decode cX8_readInto 11 = .ok (.iload_n 3, 1) := by decide +kernel
theorem dX8_readInto_12 : decode cX8_readInto 12 = .ok (.sipush 160, 3) := by decide +kernel
theorem dX8_readInto_15 : decode cX8_readInto 15 = .ok (.if_icmp .ge 54, 3) := by decide +kernel
theorem dX8_readInto_18 : decode cX8_readInto 18 = .ok (.aload_n 0, 1) := by decide +kernel
theorem dX8_readInto_19 : decode cX8_readInto 19 = .ok (.getfield 24, 3) := by decide +kernel
theorem dX8_readInto_22 : decode cX8_readInto 22 = .ok (.aload_n 0, 1) := by decide +kernel
theorem dX8_readInto_23 : decode cX8_readInto 23 = .ok (.getfield 15, 3) := by decide +kernel
theorem dX8_readInto_26 : decode cX8_readInto 26 = .ok (.if_icmp .ge 43, 3) := by decide +kernel
theorem dX8_readInto_29 : decode cX8_readInto 29 = .ok (.aload_n 0, 1) := by decide +kernel
theorem dX8_readInto_30 : decode cX8_readInto 30 = .ok (.getfield 11, 3) := by decide +kernel
theorem dX8_readInto_33 : decode cX8_readInto 33 = .ok (.aload_n 0, 1) := by decide +kernel
theorem dX8_readInto_34 : decode cX8_readInto 34 = .ok (.getfield 24, 3) := by decide +kernel
theorem dX8_readInto_37 : decode cX8_readInto 37 = .ok (.iaload, 1) := by decide +kernel
theorem dX8_readInto_38 : decode cX8_readInto 38 = .ok (.istore 4, 2) := by decide +kernel
theorem dX8_readInto_40 : decode cX8_readInto 40 = .ok (.aload_n 0, 1) := by decide +kernel
theorem dX8_readInto_41 : decode cX8_readInto 41 = .ok (.dup, 1) := by decide +kernel
theorem dX8_readInto_42 : decode cX8_readInto 42 = .ok (.getfield 24, 3) := by decide +kernel
theorem dX8_readInto_45 : decode cX8_readInto 45 = .ok (.iconst 1, 1) := by decide +kernel
theorem dX8_readInto_46 : decode cX8_readInto 46 = .ok (.iadd, 1) := by decide +kernel
theorem dX8_readInto_47 : decode cX8_readInto 47 = .ok (.putfield 24, 3) := by decide +kernel
theorem dX8_readInto_50 : decode cX8_readInto 50 = .ok (.aload_n 0, 1) := by decide +kernel
theorem dX8_readInto_51 : decode cX8_readInto 51 = .ok (.aload_n 1, 1) := by decide +kernel
theorem dX8_readInto_52 : decode cX8_readInto 52 = .ok (.aload_n 2, 1) := by decide +kernel
theorem dX8_readInto_53 : decode cX8_readInto 53 = .ok (.iload 4, 2) := by decide +kernel
theorem dX8_readInto_55 : decode cX8_readInto 55 = .ok (.invokevirtual 27, 3) := by decide +kernel
theorem dX8_readInto_58 : decode cX8_readInto 58 = .ok (.ifCond .ne 5, 3) := by decide +kernel
theorem dX8_readInto_61 : decode cX8_readInto 61 = .ok (.iconst 0, 1) := by decide +kernel
theorem dX8_readInto_62 : decode cX8_readInto 62 = .ok (.ireturn, 1) := by decide +kernel
theorem dX8_readInto_63 : decode cX8_readInto 63 = .ok (.iinc 3 1, 3) := by decide +kernel
theorem dX8_readInto_66 : decode cX8_readInto 66 = .ok (.goto (-55), 3) := by decide +kernel
theorem dX8_readInto_69 : decode cX8_readInto 69 = .ok (.iconst 1, 1) := by decide +kernel
theorem dX8_readInto_70 : decode cX8_readInto 70 = .ok (.ireturn, 1) := by decide +kernel
theorem dX8_readCode_0 : decode cX8_readCode 0 = .ok (.iload_n 3, 1) := by decide +kernel
theorem dX8_readCode_1 : decode cX8_readCode 1 = .ok (.invokestatic 31, 3) := by decide +kernel
theorem dX8_readCode_4 : decode cX8_readCode 4 = .ok (.ifCond .eq 10, 3) := by decide +kernel
theorem dX8_readCode_7 : decode cX8_readCode 7 = .ok (.aload_n 0, 1) := by decide +kernel
theorem dX8_readCode_8 : decode cX8_readCode 8 = .ok (.aload_n 1, 1) := by decide +kernel
theorem dX8_readCode_9 : decode cX8_readCode 9 = .ok (.iload_n 3, 1) := by decide +kernel
theorem dX8_readCode_10 : decode cX8_readCode 10 = .ok (.invokevirtual 37, 3) := by decide +kernel
theorem dX8_readCode_13 : decode cX8_readCode 13 = .ok (.ireturn, 1) := by decide +kernel
theorem dX8_readCode_14 : decode cX8_readCode 14 = .ok (.iload_n 3, 1) := by decide +kernel
theorem dX8_readCode_15 : decode cX8_readCode 15 = .ok (.bipush 16, 2) := by decide +kernel
theorem dX8_readCode_17 : decode cX8_readCode 17 = .ok (.isub, 1) := by decide +kernel
theorem dX8_readCode_18 : decode cX8_readCode 18 = .ok (.istore 4, 2) := by decide +kernel
theorem dX8_readCode_20 : decode cX8_readCode 20 = .ok (.iload 4, 2) := by decide +kernel
theorem dX8_readCode_22 : decode cX8_readCode 22 = .ok (.aload_n 2, 1) := by decide +kernel
theorem dX8_readCode_23 : decode cX8_readCode 23 = .ok (.getfield 41, 3) := by decide +kernel
theorem dX8_readCode_26 : decode cX8_readCode 26 = .ok (.if_icmp .lt 5, 3) := by decide +kernel
theorem dX8_readCode_29 : decode cX8_readCode 29 = .ok (.iconst 0, 1) := by decide +kernel
theorem dX8_readCode_30 : decode cX8_readCode 30 = .ok (.ireturn, 1) := by decide +kernel
theorem dX8_readCode_31 : decode cX8_readCode 31 = .ok (.iconst 0, 1) := by decide +kernel
theorem dX8_readCode_32 : decode cX8_readCode 32 = .ok (.istore 5, 2) := by decide +kernel
theorem dX8_readCode_34 : decode cX8_readCode 34 = .ok (.iload 5, 2) := by decide +kernel
theorem dX8_readCode_36 : decode cX8_readCode 36 = .ok (.iconst 4, 1) := by decide +kernel
theorem dX8_readCode_37 : decode cX8_readCode 37 = .ok (.if_icmp .ge 39, 3) := by decide +kernel
theorem dX8_readCode_40 : decode cX8_readCode 40 = .ok (.aload_n 2, 1) := by decide +kernel
theorem dX8_readCode_41 : decode cX8_readCode 41 = .ok (.iload 4, 2) := by decide +kernel
theorem dX8_readCode_43 : decode cX8_readCode 43 = .ok (.iload 5, 2) := by decide +kernel
theorem dX8_readCode_45 : decode cX8_readCode 45 = .ok (.invokevirtual 46, 3) := by decide +kernel
theorem dX8_readCode_48 : decode cX8_readCode 48 = .ok (.iconst (-1), 1) := by decide +kernel
theorem dX8_readCode_49 : decode cX8_readCode 49 = .ok (.if_icmp .eq 27, 3) := by decide +kernel
theorem dX8_readCode_52 : decode cX8_readCode 52 = .ok (.aload_n 0, 1) := by decide +kernel
theorem dX8_readCode_53 : decode cX8_readCode 53 = .ok (.aload_n 1, 1) := by decide +kernel
theorem dX8_readCode_54 : decode cX8_readCode 54 = .ok (.aload_n 2, 1) := by decide +kernel
theorem dX8_readCode_55 : decode cX8_readCode 55 = .ok (.iload 4, 2) := by decide +kernel
theorem dX8_readCode_57 : decode cX8_readCode 57 = .ok (.iload 5, 2) := by decide +kernel
theorem dX8_readCode_59 : decode cX8_readCode 59 = .ok (.invokevirtual 46, 3) := by decide +kernel
theorem dX8_readCode_62 : decode cX8_readCode 62 = .ok (.invokevirtual 37, 3) := by decide +kernel
theorem dX8_readCode_65 : decode cX8_readCode 65 = .ok (.ifCond .ne 5, 3) := by decide +kernel
theorem dX8_readCode_68 : decode cX8_readCode 68 = .ok (.iconst 0, 1) := by decide +kernel
theorem dX8_readCode_69 : decode cX8_readCode 69 = .ok (.ireturn, 1) := by decide +kernel
theorem dX8_readCode_70 : decode cX8_readCode 70 = .ok (.iinc 5 1, 3) := by decide +kernel
theorem dX8_readCode_73 : decode cX8_readCode 73 = .ok (.goto (-39), 3) := by decide +kernel
theorem dX8_readCode_76 : decode cX8_readCode 76 = .ok (.iconst 1, 1) := by decide +kernel
theorem dX8_readCode_77 : decode cX8_readCode 77 = .ok (.ireturn, 1) := by decide +kernel
theorem dX8_readOrder_0 : decode cX8_readOrder 0 = .ok (.iload_n 2, 1) := by decide +kernel
theorem dX8_readOrder_1 : decode cX8_readOrder 1 = .ok (.invokestatic 50, 3) := by decide +kernel
theorem dX8_readOrder_4 : decode cX8_readOrder 4 = .ok (.ifCond .ne 10, 3) := by decide +kernel
theorem dX8_readOrder_7 : decode cX8_readOrder 7 = .ok (.aload_n 1, 1) := by decide +kernel
theorem dX8_readOrder_8 : decode cX8_readOrder 8 = .ok (.iload_n 2, 1) := by decide +kernel
theorem dX8_readOrder_9 : decode cX8_readOrder 9 = .ok (.iconst 0, 1) := by decide +kernel
theorem dX8_readOrder_10 : decode cX8_readOrder 10 = .ok (.invokevirtual 53, 3) := by decide +kernel
theorem dX8_readOrder_13 : decode cX8_readOrder 13 = .ok (.ireturn, 1) := by decide +kernel
theorem dX8_readOrder_14 : decode cX8_readOrder 14 = .ok (.aload_n 0, 1) := by decide +kernel
theorem dX8_readOrder_15 : decode cX8_readOrder 15 = .ok (.getfield 24, 3) := by decide +kernel
theorem dX8_readOrder_18 : decode cX8_readOrder 18 = .ok (.aload_n 0, 1) := by decide +kernel
theorem dX8_readOrder_19 : decode cX8_readOrder 19 = .ok (.getfield 15, 3) := by decide +kernel
theorem dX8_readOrder_22 : decode cX8_readOrder 22 = .ok (.if_icmp .lt 5, 3) := by decide +kernel
theorem dX8_readOrder_25 : decode cX8_readOrder 25 = .ok (.iconst 0, 1) := by decide +kernel
theorem dX8_readOrder_26 : decode cX8_readOrder 26 = .ok (.ireturn, 1) := by decide +kernel
theorem dX8_readOrder_27 : decode cX8_readOrder 27 = .ok (.iload_n 2, 1) := by decide +kernel
theorem dX8_readOrder_28 : decode cX8_readOrder 28 = .ok (.ifCond .ne 16, 3) := by decide +kernel
theorem dX8_readOrder_31 : decode cX8_readOrder 31 = .ok (.aload_n 0, 1) := by decide +kernel
theorem dX8_readOrder_32 : decode cX8_readOrder 32 = .ok (.getfield 11, 3) := by decide +kernel
theorem dX8_readOrder_35 : decode cX8_readOrder 35 = .ok (.aload_n 0, 1) := by decide +kernel
theorem dX8_readOrder_36 : decode cX8_readOrder 36 = .ok (.getfield 24, 3) := by decide +kernel
theorem dX8_readOrder_39 : decode cX8_readOrder 39 = .ok (.iaload, 1) := by decide +kernel
theorem dX8_readOrder_40 : decode cX8_readOrder 40 = .ok (.i2b, 1) := by decide +kernel
theorem dX8_readOrder_41 : decode cX8_readOrder 41 = .ok (.goto 12, 3) := by decide +kernel
theorem dX8_readOrder_44 : decode cX8_readOrder 44 = .ok (.aload_n 0, 1) := by decide +kernel
theorem dX8_readOrder_45 : decode cX8_readOrder 45 = .ok (.getfield 11, 3) := by decide +kernel
theorem dX8_readOrder_48 : decode cX8_readOrder 48 = .ok (.aload_n 0, 1) := by decide +kernel
theorem dX8_readOrder_49 : decode cX8_readOrder 49 = .ok (.getfield 24, 3) := by decide +kernel
theorem dX8_readOrder_52 : decode cX8_readOrder 52 = .ok (.iaload, 1) := by decide +kernel
theorem dX8_readOrder_53 : decode cX8_readOrder 53 = .ok (.istore_n 3, 1) := by decide +kernel
theorem dX8_readOrder_54 : decode cX8_readOrder 54 = .ok (.aload_n 0, 1) := by decide +kernel
theorem dX8_readOrder_55 : decode cX8_readOrder 55 = .ok (.dup, 1) := by decide +kernel
theorem dX8_readOrder_56 : decode cX8_readOrder 56 = .ok (.getfield 24, 3) := by decide +kernel
theorem dX8_readOrder_59 : decode cX8_readOrder 59 = .ok (.iconst 1, 1) := by decide +kernel
theorem dX8_readOrder_60 : decode cX8_readOrder 60 = .ok (.iadd, 1) := by decide +kernel
theorem dX8_readOrder_61 : decode cX8_readOrder 61 = .ok (.putfield 24, 3) := by decide +kernel
theorem dX8_readOrder_64 : decode cX8_readOrder 64 = .ok (.aload_n 1, 1) := by decide +kernel
theorem dX8_readOrder_65 : decode cX8_readOrder 65 = .ok (.iload_n 2, 1) := by decide +kernel
theorem dX8_readOrder_66 : decode cX8_readOrder 66 = .ok (.iload_n 3, 1) := by decide +kernel
theorem dX8_readOrder_67 : decode cX8_readOrder 67 = .ok (.invokevirtual 53, 3) := by decide +kernel
theorem dX8_readOrder_70 : decode cX8_readOrder 70 = .ok (.ireturn, 1) := by decide +kernel
theorem dX8_copyFrom_0 : decode cX8_copyFrom 0 = .ok (.aload_n 0, 1) := by decide +kernel
theorem dX8_copyFrom_1 : decode cX8_copyFrom 1 = .ok (.aload_n 1, 1) := by decide +kernel
theorem dX8_copyFrom_2 : decode cX8_copyFrom 2 = .ok (.getfield 15, 3) := by decide +kernel
theorem dX8_copyFrom_5 : decode cX8_copyFrom 5 = .ok (.putfield 15, 3) := by decide +kernel
theorem dX8_copyFrom_8 : decode cX8_copyFrom 8 = .ok (.aload_n 1, 1) := by decide +kernel
theorem dX8_copyFrom_9 : decode cX8_copyFrom 9 = .ok (.getfield 11, 3) := by decide +kernel
theorem dX8_copyFrom_12 : decode cX8_copyFrom 12 = .ok (.iconst 0, 1) := by decide +kernel
theorem dX8_copyFrom_13 : decode cX8_copyFrom 13 = .ok (.aload_n 0, 1) := by decide +kernel
theorem dX8_copyFrom_14 : decode cX8_copyFrom 14 = .ok (.getfield 11, 3) := by decide +kernel
theorem dX8_copyFrom_17 : decode cX8_copyFrom 17 = .ok (.iconst 0, 1) := by decide +kernel
theorem dX8_copyFrom_18 : decode cX8_copyFrom 18 = .ok (.sipush 160, 3) := by decide +kernel
theorem dX8_copyFrom_21 : decode cX8_copyFrom 21 = .ok (.invokestatic 57, 3) := by decide +kernel
theorem dX8_copyFrom_24 : decode cX8_copyFrom 24 = .ok (.return_, 1) := by decide +kernel
theorem dX9_init_0 : decode cX9_init 0 = .ok (.aload_n 0, 1) := by decide +kernel
theorem dX9_init_1 : decode cX9_init 1 = .ok (.invokespecial 3, 3) := by decide +kernel
theorem dX9_init_4 : decode cX9_init 4 = .ok (.aload_n 0, 1) := by decide +kernel
theorem dX9_init_5 : decode cX9_init 5 = .ok (.bipush 40, 2) := by decide +kernel
theorem dX9_init_7 : decode cX9_init 7 = .ok (.newarray .int, 2) := by decide +kernel
theorem dX9_init_9 : decode cX9_init 9 = .ok (.putfield 11, 3) := by decide +kernel
theorem dX9_init_12 : decode cX9_init 12 = .ok (.aload_n 0, 1) := by decide +kernel
theorem dX9_init_13 : decode cX9_init 13 = .ok (.bipush 40, 2) := by decide +kernel
theorem dX9_init_15 : decode cX9_init 15 = .ok (.newarray .int, 2) := by decide +kernel
theorem dX9_init_17 : decode cX9_init 17 = .ok (.putfield 17, 3) := by decide +kernel
theorem dX9_init_20 : decode cX9_init 20 = .ok (.aload_n 0, 1) := by decide +kernel
theorem dX9_init_21 : decode cX9_init 21 = .ok (.bipush 41, 2) := by decide +kernel
theorem dX9_init_23 : decode cX9_init 23 = .ok (.newarray .int, 2) := by decide +kernel
theorem dX9_init_25 : decode cX9_init 25 = .ok (.putfield 20, 3) := by decide +kernel
theorem dX9_init_28 : decode cX9_init 28 = .ok (.return_, 1) := by decide +kernel
theorem dX9_measure_0 : decode cX9_measure 0 = .ok (.aload_n 0, 1) := by decide +kernel
theorem dX9_measure_1 : decode cX9_measure 1 = .ok (.getfield 20, 3) := by decide +kernel
theorem dX9_measure_4 : decode cX9_measure 4 = .ok (.aload_n 1, 1) := by decide +kernel
theorem dX9_measure_5 : decode cX9_measure 5 = .ok (.getfield 23, 3) := by decide +kernel
theorem dX9_measure_8 : decode cX9_measure 8 = .ok (.iconst 0, 1) := by decide +kernel
theorem dX9_measure_9 : decode cX9_measure 9 = .ok (.iastore, 1) := by decide +kernel
theorem dX9_measure_10 : decode cX9_measure 10 = .ok (.aload_n 1, 1) := by decide +kernel
theorem dX9_measure_11 : decode cX9_measure 11 = .ok (.getfield 23, 3) := by decide +kernel
theorem dX9_measure_14 : decode cX9_measure 14 = .ok (.iconst 1, 1) := by decide +kernel
theorem dX9_measure_15 : decode cX9_measure 15 = .ok (.isub, 1) := by decide +kernel
theorem dX9_measure_16 : decode cX9_measure 16 = .ok (.istore 4, 2) := by decide +kernel
theorem dX9_measure_18 : decode cX9_measure 18 = .ok (.iload 4, 2) := by decide +kernel
theorem dX9_measure_20 : decode cX9_measure 20 = .ok (.ifCond .lt 47, 3) := by decide +kernel
theorem dX9_measure_23 : decode cX9_measure 23 = .ok (.aload_n 0, 1) := by decide +kernel
theorem dX9_measure_24 : decode cX9_measure 24 = .ok (.aload_n 1, 1) := by decide +kernel
theorem dX9_measure_25 : decode cX9_measure 25 = .ok (.aload_n 2, 1) := by decide +kernel
theorem dX9_measure_26 : decode cX9_measure 26 = .ok (.iload 4, 2) := by decide +kernel
theorem dX9_measure_28 : decode cX9_measure 28 = .ok (.invokevirtual 27, 3) := by decide +kernel
theorem dX9_measure_31 : decode cX9_measure 31 = .ok (.aload_n 0, 1) := by decide +kernel
theorem dX9_measure_32 : decode cX9_measure 32 = .ok (.getfield 20, 3) := by decide +kernel
theorem dX9_measure_35 : decode cX9_measure 35 = .ok (.iload 4, 2) := by decide +kernel
theorem dX9_measure_37 : decode cX9_measure 37 = .ok (.aload_n 1, 1) := by decide +kernel
theorem dX9_measure_38 : decode cX9_measure 38 = .ok (.iload 4, 2) := by decide +kernel
theorem dX9_measure_40 : decode cX9_measure 40 = .ok (.iload_n 3, 1) := by decide +kernel
theorem dX9_measure_41 : decode cX9_measure 41 = .ok (.invokevirtual 31, 3) := by decide +kernel
theorem dX9_measure_44 : decode cX9_measure 44 = .ok (.aload_n 0, 1) := by decide +kernel
theorem dX9_measure_45 : decode cX9_measure 45 = .ok (.getfield 20, 3) := by decide +kernel
theorem dX9_measure_48 : decode cX9_measure 48 = .ok (.iload 4, 2) := by decide +kernel
theorem dX9_measure_50 : decode cX9_measure 50 = .ok (.aload_n 0, 1) := by decide +kernel
theorem dX9_measure_51 : decode cX9_measure 51 = .ok (.getfield 11, 3) := by decide +kernel
theorem dX9_measure_54 : decode cX9_measure 54 = .ok (.iload 4, 2) := by decide +kernel
theorem dX9_measure_56 : decode cX9_measure 56 = .ok (.iaload, 1) := by decide +kernel
theorem dX9_measure_57 : decode cX9_measure 57 = .ok (.iadd, 1) := by decide +kernel
theorem dX9_measure_58 : decode cX9_measure 58 = .ok (.iaload, 1) := by decide +kernel
theorem dX9_measure_59 : decode cX9_measure 59 = .ok (.iadd, 1) := by decide +kernel
theorem dX9_measure_60 : decode cX9_measure 60 = .ok (.iastore, 1) := by decide +kernel
theorem dX9_measure_61 : decode cX9_measure 61 = .ok (.iinc 4 (-1), 3) := by decide +kernel
theorem dX9_measure_64 : decode cX9_measure 64 = .ok (.goto (-46), 3) := by decide +kernel
theorem dX9_measure_67 : decode cX9_measure 67 = .ok (.aload_n 0, 1) := by decide +kernel
theorem dX9_measure_68 : decode cX9_measure 68 = .ok (.getfield 20, 3) := by decide +kernel
theorem dX9_measure_71 : decode cX9_measure 71 = .ok (.iconst 0, 1) := by decide +kernel
theorem dX9_measure_72 : decode cX9_measure 72 = .ok (.iaload, 1) := by decide +kernel
theorem dX9_measure_73 : decode cX9_measure 73 = .ok (.ireturn, 1) := by decide +kernel
theorem dX9_begin_0 : decode cX9_begin 0 = .ok (.aload_n 0, 1) := by decide +kernel
theorem dX9_begin_1 : decode cX9_begin 1 = .ok (.getfield 11, 3) := by decide +kernel
theorem dX9_begin_4 : decode cX9_begin 4 = .ok (.iload_n 3, 1) := by decide +kernel
theorem dX9_begin_5 : decode cX9_begin 5 = .ok (.iconst 1, 1) := by decide +kernel
theorem dX9_begin_6 : decode cX9_begin 6 = .ok (.iastore, 1) := by decide +kernel
theorem dX9_begin_7 : decode cX9_begin 7 = .ok (.aload_n 0, 1) := by decide +kernel
theorem dX9_begin_8 : decode cX9_begin 8 = .ok (.getfield 17, 3) := by decide +kernel
theorem dX9_begin_11 : decode cX9_begin 11 = .ok (.iload_n 3, 1) := by decide +kernel
theorem dX9_begin_12 : decode cX9_begin 12 = .ok (.aload_n 1, 1) := by decide +kernel
theorem dX9_begin_13 : decode cX9_begin 13 = .ok (.getfield 35, 3) := by decide +kernel
theorem dX9_begin_16 : decode cX9_begin 16 = .ok (.iload_n 3, 1) := by decide +kernel
theorem dX9_begin_17 : decode cX9_begin 17 = .ok (.iaload, 1) := by decide +kernel
theorem dX9_begin_18 : decode cX9_begin 18 = .ok (.iastore, 1) := by decide +kernel
theorem dX9_begin_19 : decode cX9_begin 19 = .ok (.aload_n 1, 1) := by decide +kernel
theorem dX9_begin_20 : decode cX9_begin 20 = .ok (.iload_n 3, 1) := by decide +kernel
theorem dX9_begin_21 : decode cX9_begin 21 = .ok (.invokevirtual 38, 3) := by decide +kernel
theorem dX9_begin_24 : decode cX9_begin 24 = .ok (.istore 4, 2) := by decide +kernel
theorem dX9_begin_26 : decode cX9_begin 26 = .ok (.iconst 0, 1) := by decide +kernel
theorem dX9_begin_27 : decode cX9_begin 27 = .ok (.iconst 0, 1) := by decide +kernel
theorem dX9_begin_28 : decode cX9_begin 28 = .ok (.aload_n 1, 1) := by decide +kernel
theorem dX9_begin_29 : decode cX9_begin 29 = .ok (.getfield 35, 3) := by decide +kernel
theorem dX9_begin_32 : decode cX9_begin 32 = .ok (.iload_n 3, 1) := by decide +kernel
theorem dX9_begin_33 : decode cX9_begin 33 = .ok (.iaload, 1) := by decide +kernel
theorem dX9_begin_34 : decode cX9_begin 34 = .ok (.invokestatic 42, 3) := by decide +kernel
theorem dX9_begin_37 : decode cX9_begin 37 = .ok (.istore 5, 2) := by decide +kernel
theorem dX9_begin_39 : decode cX9_begin 39 = .ok (.iconst 2, 1) := by decide +kernel
theorem dX9_begin_40 : decode cX9_begin 40 = .ok (.istore 6, 2) := by decide +kernel
theorem dX9_begin_42 : decode cX9_begin 42 = .ok (.iload 6, 2) := by decide +kernel
theorem dX9_begin_44 : decode cX9_begin 44 = .ok (.iload 4, 2) := by decide +kernel
theorem dX9_begin_46 : decode cX9_begin 46 = .ok (.if_icmp .gt 89, 3) := by decide +kernel
theorem dX9_begin_49 : decode cX9_begin 49 = .ok (.iload 5, 2) := by decide +kernel
theorem dX9_begin_51 : decode cX9_begin 51 = .ok (.iload 6, 2) := by decide +kernel
theorem dX9_begin_53 : decode cX9_begin 53 = .ok (.iconst 1, 1) := by decide +kernel
theorem dX9_begin_54 : decode cX9_begin 54 = .ok (.isub, 1) := by decide +kernel
theorem dX9_begin_55 : decode cX9_begin 55 = .ok (.aload_n 1, 1) := by decide +kernel
theorem dX9_begin_56 : decode cX9_begin 56 = .ok (.getfield 35, 3) := by decide +kernel
theorem dX9_begin_59 : decode cX9_begin 59 = .ok (.iload_n 3, 1) := by decide +kernel
theorem dX9_begin_60 : decode cX9_begin 60 = .ok (.iload 6, 2) := by decide +kernel
theorem dX9_begin_62 : decode cX9_begin 62 = .ok (.iadd, 1) := by decide +kernel
theorem dX9_begin_63 : decode cX9_begin 63 = .ok (.iconst 1, 1) := by decide +kernel
theorem dX9_begin_64 : decode cX9_begin 64 = .ok (.isub, 1) := by decide +kernel
theorem dX9_begin_65 : decode cX9_begin 65 = .ok (.iaload, 1) := by decide +kernel
theorem dX9_begin_66 : decode cX9_begin 66 = .ok (.invokestatic 42, 3) := by decide +kernel
theorem dX9_begin_69 : decode cX9_begin 69 = .ok (.istore 5, 2) := by decide +kernel
theorem dX9_begin_71 : decode cX9_begin 71 = .ok (.aload_n 2, 1) := by decide +kernel
theorem dX9_begin_72 : decode cX9_begin 72 = .ok (.iload 5, 2) := by decide +kernel
theorem dX9_begin_74 : decode cX9_begin 74 = .ok (.invokevirtual 48, 3) := by decide +kernel
theorem dX9_begin_77 : decode cX9_begin 77 = .ok (.istore 7, 2) := by decide +kernel
theorem dX9_begin_79 : decode cX9_begin 79 = .ok (.iload 7, 2) := by decide +kernel
theorem dX9_begin_81 : decode cX9_begin 81 = .ok (.iconst (-1), 1) := by decide +kernel
theorem dX9_begin_82 : decode cX9_begin 82 = .ok (.if_icmp .eq 47, 3) := by decide +kernel
theorem dX9_begin_85 : decode cX9_begin 85 = .ok (.aload_n 0, 1) := by decide +kernel
theorem dX9_begin_86 : decode cX9_begin 86 = .ok (.getfield 20, 3) := by decide +kernel
theorem dX9_begin_89 : decode cX9_begin 89 = .ok (.iload_n 3, 1) := by decide +kernel
theorem dX9_begin_90 : decode cX9_begin 90 = .ok (.iload 6, 2) := by decide +kernel
theorem dX9_begin_92 : decode cX9_begin 92 = .ok (.iadd, 1) := by decide +kernel
theorem dX9_begin_93 : decode cX9_begin 93 = .ok (.iaload, 1) := by decide +kernel
theorem dX9_begin_94 : decode cX9_begin 94 = .ok (.aload_n 0, 1) := by decide +kernel
theorem dX9_begin_95 : decode cX9_begin 95 = .ok (.getfield 20, 3) := by decide +kernel
theorem dX9_begin_98 : decode cX9_begin 98 = .ok (.iload_n 3, 1) := by decide +kernel
theorem dX9_begin_99 : decode cX9_begin 99 = .ok (.aload_n 0, 1) := by decide +kernel
theorem dX9_begin_100 : decode cX9_begin 100 = .ok (.getfield 11, 3) := by decide +kernel
theorem dX9_begin_103 : decode cX9_begin 103 = .ok (.iload_n 3, 1) := by decide +kernel
theorem dX9_begin_104 : decode cX9_begin 104 = .ok (.iaload, 1) := by decide +kernel
theorem dX9_begin_105 : decode cX9_begin 105 = .ok (.iadd, 1) := by decide +kernel
theorem dX9_begin_106 : decode cX9_begin 106 = .ok (.iaload, 1) := by decide +kernel
theorem dX9_begin_107 : decode cX9_begin 107 = .ok (.if_icmp .gt 22, 3) := by decide +kernel
theorem dX9_begin_110 : decode cX9_begin 110 = .ok (.aload_n 0, 1) := by decide +kernel
theorem dX9_begin_111 : decode cX9_begin 111 = .ok (.getfield 11, 3) := by decide +kernel
theorem dX9_begin_114 : decode cX9_begin 114 = .ok (.iload_n 3, 1) := by decide +kernel
theorem dX9_begin_115 : decode cX9_begin 115 = .ok (.iload 6, 2) := by decide +kernel
theorem dX9_begin_117 : decode cX9_begin 117 = .ok (.iastore, 1) := by decide +kernel
theorem dX9_begin_118 : decode cX9_begin 118 = .ok (.aload_n 0, 1) := by decide +kernel
theorem dX9_begin_119 : decode cX9_begin 119 = .ok (.getfield 17, 3) := by decide +kernel
theorem dX9_begin_122 : decode cX9_begin 122 = .ok (.iload_n 3, 1) := by decide +kernel
theorem dX9_begin_123 : decode cX9_begin 123 = .ok (.bipush 16, 2) := by decide +kernel
theorem dX9_begin_125 : decode cX9_begin 125 = .ok (.iload 7, 2) := by decide +kernel
theorem dX9_begin_127 : decode cX9_begin 127 = .ok (.iadd, 1) := by decide +kernel
theorem dX9_begin_128 : decode cX9_begin 128 = .ok (.iastore, 1) := by decide +kernel
theorem dX9_begin_129 : decode cX9_begin 129 = .ok (.iinc 6 1, 3) := by decide +kernel
theorem dX9_begin_132 : decode cX9_begin 132 = .ok (.goto (-90), 3) := by decide +kernel
theorem dX9_begin_135 : decode cX9_begin 135 = .ok (.return_, 1) := by decide +kernel
theorem dX10_init_0 : decode cX10_init 0 = .ok (.aload_n 0, 1) := by decide +kernel
theorem dX10_init_1 : decode cX10_init 1 = .ok (.invokespecial 1, 3) := by decide +kernel
theorem dX10_init_4 : decode cX10_init 4 = .ok (.aload_n 0, 1) := by decide +kernel
theorem dX10_init_5 : decode cX10_init 5 = .ok (.new 7, 3) := by decide +kernel
theorem dX10_init_8 : decode cX10_init 8 = .ok (.dup, 1) := by decide +kernel
theorem dX10_init_9 : decode cX10_init 9 = .ok (.invokespecial 9, 3) := by decide +kernel
theorem dX10_init_12 : decode cX10_init 12 = .ok (.putfield 10, 3) := by decide +kernel
theorem dX10_init_15 : decode cX10_init 15 = .ok (.aload_n 0, 1) := by decide +kernel
theorem dX10_init_16 : decode cX10_init 16 = .ok (.iconst 3, 1) := by decide +kernel
theorem dX10_init_17 : decode cX10_init 17 = .ok (.anewarray 7, 3) := by decide +kernel
theorem dX10_init_20 : decode cX10_init 20 = .ok (.putfield 16, 3) := by decide +kernel
theorem dX10_init_23 : decode cX10_init 23 = .ok (.aload_n 0, 1) := by decide +kernel
theorem dX10_init_24 : decode cX10_init 24 = .ok (.new 20, 3) := by decide +kernel
theorem dX10_init_27 : decode cX10_init 27 = .ok (.dup, 1) := by decide +kernel
theorem dX10_init_28 : decode cX10_init 28 = .ok (.invokespecial 22, 3) := by decide +kernel
theorem dX10_init_31 : decode cX10_init 31 = .ok (.putfield 23, 3) := by decide +kernel
theorem dX10_init_34 : decode cX10_init 34 = .ok (.aload_n 0, 1) := by decide +kernel
theorem dX10_init_35 : decode cX10_init 35 = .ok (.new 27, 3) := by decide +kernel
theorem dX10_init_38 : decode cX10_init 38 = .ok (.dup, 1) := by decide +kernel
theorem dX10_init_39 : decode cX10_init 39 = .ok (.invokespecial 29, 3) := by decide +kernel
theorem dX10_init_42 : decode cX10_init 42 = .ok (.putfield 30, 3) := by decide +kernel
theorem dX10_init_45 : decode cX10_init 45 = .ok (.return_, 1) := by decide +kernel
theorem dX10_program_0 : decode cX10_program 0 = .ok (.aload_n 0, 1) := by decide +kernel
theorem dX10_program_1 : decode cX10_program 1 = .ok (.getfield 10, 3) := by decide +kernel
theorem dX10_program_4 : decode cX10_program 4 = .ok (.getfield 34, 3) := by decide +kernel
theorem dX10_program_7 : decode cX10_program 7 = .ok (.iconst 3, 1) := by decide +kernel
theorem dX10_program_8 : decode cX10_program 8 = .ok (.if_icmp .lt 5, 3) := by decide +kernel
theorem dX10_program_11 : decode cX10_program 11 = .ok (.iconst (-1), 1) := by decide +kernel
theorem dX10_program_12 : decode cX10_program 12 = .ok (.ireturn, 1) := by decide +kernel
theorem dX10_program_13 : decode cX10_program 13 = .ok (.aload_n 0, 1) := by decide +kernel
theorem dX10_program_14 : decode cX10_program 14 = .ok (.getfield 10, 3) := by decide +kernel
theorem dX10_program_17 : decode cX10_program 17 = .ok (.getfield 38, 3) := by decide +kernel
theorem dX10_program_20 : decode cX10_program 20 = .ok (.aload_n 0, 1) := by decide +kernel
theorem dX10_program_21 : decode cX10_program 21 = .ok (.getfield 10, 3) := by decide +kernel
theorem dX10_program_24 : decode cX10_program 24 = .ok (.getfield 34, 3) := by decide +kernel
theorem dX10_program_27 : decode cX10_program 27 = .ok (.aaload, 1) := by decide +kernel
theorem dX10_program_28 : decode cX10_program 28 = .ok (.invokevirtual 42, 3) := by decide +kernel
theorem dX10_program_31 : decode cX10_program 31 = .ok (.aload_n 0, 1) := by decide +kernel
theorem dX10_program_32 : decode cX10_program 32 = .ok (.getfield 10, 3) := by decide +kernel
theorem dX10_program_35 : decode cX10_program 35 = .ok (.dup, 1) := by decide +kernel
theorem dX10_program_36 : decode cX10_program 36 = .ok (.getfield 34, 3) := by decide +kernel
theorem dX10_program_39 : decode cX10_program 39 = .ok (.iconst 1, 1) := by decide +kernel
theorem dX10_program_40 : decode cX10_program 40 = .ok (.iadd, 1) := by decide +kernel
theorem dX10_program_41 : decode cX10_program 41 = .ok (.putfield 34, 3) := by decide +kernel
theorem dX10_program_44 : decode cX10_program 44 = .ok (.aload_n 0, 1) := by decide +kernel
theorem dX10_program_45 : decode cX10_program 45 = .ok (.getfield 10, 3) := by decide +kernel
theorem dX10_program_48 : decode cX10_program 48 = .ok (.getfield 34, 3) := by decide +kernel
theorem dX10_program_51 : decode cX10_program 51 = .ok (.iconst 1, 1) := by decide +kernel
theorem dX10_program_52 : decode cX10_program 52 = .ok (.isub, 1) := by decide +kernel
theorem dX10_program_53 : decode cX10_program 53 = .ok (.ireturn, 1) := by decide +kernel
theorem dX10_order_0 : decode cX10_order 0 = .ok (.aload_n 0, 1) := by decide +kernel
theorem dX10_order_1 : decode cX10_order 1 = .ok (.getfield 10, 3) := by decide +kernel
theorem dX10_order_4 : decode cX10_order 4 = .ok (.iload_n 1, 1) := by decide +kernel
theorem dX10_order_5 : decode cX10_order 5 = .ok (.invokevirtual 47, 3) := by decide +kernel
theorem dX10_order_8 : decode cX10_order 8 = .ok (.ifCond .ne 5, 3) := by decide +kernel
theorem dX10_order_11 : decode cX10_order 11 = .ok (.iconst (-1), 1) := by decide +kernel
theorem dX10_order_12 : decode cX10_order 12 = .ok (.ireturn, 1) := by decide +kernel
theorem dX10_order_13 : decode cX10_order 13 = .ok (.aload_n 0, 1) := by decide +kernel
theorem dX10_order_14 : decode cX10_order 14 = .ok (.getfield 10, 3) := by decide +kernel
theorem dX10_order_17 : decode cX10_order 17 = .ok (.getfield 38, 3) := by decide +kernel
theorem dX10_order_20 : decode cX10_order 20 = .ok (.iload_n 1, 1) := by decide +kernel
theorem dX10_order_21 : decode cX10_order 21 = .ok (.aaload, 1) := by decide +kernel
theorem dX10_order_22 : decode cX10_order 22 = .ok (.astore 4, 2) := by decide +kernel
theorem dX10_order_24 : decode cX10_order 24 = .ok (.aload 4, 2) := by decide +kernel
theorem dX10_order_26 : decode cX10_order 26 = .ok (.iload_n 2, 1) := by decide +kernel
theorem dX10_order_27 : decode cX10_order 27 = .ok (.iload_n 3, 1) := by decide +kernel
theorem dX10_order_28 : decode cX10_order 28 = .ok (.invokevirtual 51, 3) := by decide +kernel
theorem dX10_order_31 : decode cX10_order 31 = .ok (.ifCond .ne 5, 3) := by decide +kernel
theorem dX10_order_34 : decode cX10_order 34 = .ok (.iconst (-1), 1) := by decide +kernel
theorem dX10_order_35 : decode cX10_order 35 = .ok (.ireturn, 1) := by decide +kernel
theorem dX10_order_36 : decode cX10_order 36 = .ok (.aload 4, 2) := by decide +kernel
theorem dX10_order_38 : decode cX10_order 38 = .ok (.invokevirtual 55, 3) := by decide +kernel
theorem dX10_order_41 : decode cX10_order 41 = .ok (.aload 4, 2) := by decide +kernel
theorem dX10_order_43 : decode cX10_order 43 = .ok (.getfield 58, 3) := by decide +kernel
theorem dX10_order_46 : decode cX10_order 46 = .ok (.iconst 1, 1) := by decide +kernel
theorem dX10_order_47 : decode cX10_order 47 = .ok (.isub, 1) := by decide +kernel
theorem dX10_order_48 : decode cX10_order 48 = .ok (.ireturn, 1) := by decide +kernel
theorem dX10_change_0 : decode cX10_change 0 = .ok (.aload_n 0, 1) := by decide +kernel
theorem dX10_change_1 : decode cX10_change 1 = .ok (.getfield 10, 3) := by decide +kernel
theorem dX10_change_4 : decode cX10_change 4 = .ok (.iload_n 1, 1) := by decide +kernel
theorem dX10_change_5 : decode cX10_change 5 = .ok (.iload_n 2, 1) := by decide +kernel
theorem dX10_change_6 : decode cX10_change 6 = .ok (.invokevirtual 61, 3) := by decide +kernel
theorem dX10_change_9 : decode cX10_change 9 = .ok (.ifCond .ne 5, 3) := by decide +kernel
theorem dX10_change_12 : decode cX10_change 12 = .ok (.iconst 0, 1) := by decide +kernel
theorem dX10_change_13 : decode cX10_change 13 = .ok (.ireturn, 1) := by decide +kernel
theorem dX10_change_14 : decode cX10_change 14 = .ok (.aload_n 0, 1) := by decide +kernel
theorem dX10_change_15 : decode cX10_change 15 = .ok (.getfield 10, 3) := by decide +kernel
theorem dX10_change_18 : decode cX10_change 18 = .ok (.getfield 38, 3) := by decide +kernel
theorem dX10_change_21 : decode cX10_change 21 = .ok (.iload_n 1, 1) := by decide +kernel
theorem dX10_change_22 : decode cX10_change 22 = .ok (.aaload, 1) := by decide +kernel
theorem dX10_change_23 : decode cX10_change 23 = .ok (.astore 4, 2) := by decide +kernel
theorem dX10_change_25 : decode cX10_change 25 = .ok (.aload 4, 2) := by decide +kernel
theorem dX10_change_27 : decode cX10_change 27 = .ok (.iload_n 2, 1) := by decide +kernel
theorem dX10_change_28 : decode cX10_change 28 = .ok (.iload_n 3, 1) := by decide +kernel
theorem dX10_change_29 : decode cX10_change 29 = .ok (.invokevirtual 64, 3) := by decide +kernel
theorem dX10_change_32 : decode cX10_change 32 = .ok (.ifCond .ne 5, 3) := by decide +kernel
theorem dX10_change_35 : decode cX10_change 35 = .ok (.iconst 0, 1) := by decide +kernel
theorem dX10_change_36 : decode cX10_change 36 = .ok (.ireturn, 1) := by decide +kernel
theorem dX10_change_37 : decode cX10_change 37 = .ok (.aload 4, 2) := by decide +kernel
theorem dX10_change_39 : decode cX10_change 39 = .ok (.invokevirtual 55, 3) := by decide +kernel
theorem dX10_change_42 : decode cX10_change 42 = .ok (.iconst 1, 1) := by decide +kernel
theorem dX10_change_43 : decode cX10_change 43 = .ok (.ireturn, 1) := by decide +kernel
theorem dX10_tell_0 : decode cX10_tell 0 = .ok (.aload_n 0, 1) := by decide +kernel
theorem dX10_tell_1 : decode cX10_tell 1 = .ok (.getfield 10, 3) := by decide +kernel
theorem dX10_tell_4 : decode cX10_tell 4 = .ok (.iload_n 1, 1) := by decide +kernel
theorem dX10_tell_5 : decode cX10_tell 5 = .ok (.iload_n 2, 1) := by decide +kernel
theorem dX10_tell_6 : decode cX10_tell 6 = .ok (.invokevirtual 61, 3) := by decide +kernel
theorem dX10_tell_9 : decode cX10_tell 9 = .ok (.ifCond .ne 5, 3) := by decide +kernel
theorem dX10_tell_12 : decode cX10_tell 12 = .ok (.iconst (-1), 1) := by decide +kernel
theorem dX10_tell_13 : decode cX10_tell 13 = .ok (.ireturn, 1) := by decide +kernel
theorem dX10_tell_14 : decode cX10_tell 14 = .ok (.aload_n 0, 1) := by decide +kernel
theorem dX10_tell_15 : decode cX10_tell 15 = .ok (.getfield 10, 3) := by decide +kernel
theorem dX10_tell_18 : decode cX10_tell 18 = .ok (.getfield 38, 3) := by decide +kernel
theorem dX10_tell_21 : decode cX10_tell 21 = .ok (.iload_n 1, 1) := by decide +kernel
theorem dX10_tell_22 : decode cX10_tell 22 = .ok (.aaload, 1) := by decide +kernel
theorem dX10_tell_23 : decode cX10_tell 23 = .ok (.astore 4, 2) := by decide +kernel
theorem dX10_tell_25 : decode cX10_tell 25 = .ok (.iload_n 3, 1) := by decide +kernel
theorem dX10_tell_26 : decode cX10_tell 26 = .ok (.tableswitch 69 0 3 #[30, 38, 46, 54], 30) := by decide +kernel
theorem dX10_tell_56 : decode cX10_tell 56 = .ok (.aload 4, 2) := by decide +kernel
theorem dX10_tell_58 : decode cX10_tell 58 = .ok (.getfield 67, 3) := by decide +kernel
theorem dX10_tell_61 : decode cX10_tell 61 = .ok (.iload_n 2, 1) := by decide +kernel
theorem dX10_tell_62 : decode cX10_tell 62 = .ok (.iaload, 1) := by decide +kernel
theorem dX10_tell_63 : decode cX10_tell 63 = .ok (.ireturn, 1) := by decide +kernel
theorem dX10_tell_64 : decode cX10_tell 64 = .ok (.aload 4, 2) := by decide +kernel
theorem dX10_tell_66 : decode cX10_tell 66 = .ok (.getfield 71, 3) := by decide +kernel
theorem dX10_tell_69 : decode cX10_tell 69 = .ok (.iload_n 2, 1) := by decide +kernel
theorem dX10_tell_70 : decode cX10_tell 70 = .ok (.iaload, 1) := by decide +kernel
theorem dX10_tell_71 : decode cX10_tell 71 = .ok (.ireturn, 1) := by decide +kernel
theorem dX10_tell_72 : decode cX10_tell 72 = .ok (.aload 4, 2) := by decide +kernel
theorem dX10_tell_74 : decode cX10_tell 74 = .ok (.getfield 74, 3) := by decide +kernel
theorem dX10_tell_77 : decode cX10_tell 77 = .ok (.iload_n 2, 1) := by decide +kernel
theorem dX10_tell_78 : decode cX10_tell 78 = .ok (.iaload, 1) := by decide +kernel
theorem dX10_tell_79 : decode cX10_tell 79 = .ok (.ireturn, 1) := by decide +kernel
theorem dX10_tell_80 : decode cX10_tell 80 = .ok (.aload 4, 2) := by decide +kernel
theorem dX10_tell_82 : decode cX10_tell 82 = .ok (.iload_n 2, 1) := by decide +kernel
theorem dX10_tell_83 : decode cX10_tell 83 = .ok (.invokevirtual 77, 3) := by decide +kernel
theorem dX10_tell_86 : decode cX10_tell 86 = .ok (.ifCond .eq 7, 3) := by decide +kernel
theorem dX10_tell_89 : decode cX10_tell 89 = .ok (.iconst 1, 1) := by decide +kernel
theorem dX10_tell_90 : decode cX10_tell 90 = .ok (.goto 4, 3) := by decide +kernel
theorem dX10_tell_93 : decode cX10_tell 93 = .ok (.iconst 0, 1) := by decide +kernel
theorem dX10_tell_94 : decode cX10_tell 94 = .ok (.ireturn, 1) := by decide +kernel
theorem dX10_tell_95 : decode cX10_tell 95 = .ok (.iconst (-1), 1) := by decide +kernel
theorem dX10_tell_96 : decode cX10_tell 96 = .ok (.ireturn, 1) := by decide +kernel
theorem dX10_join_0 : decode cX10_join 0 = .ok (.iload_n 1, 1) := by decide +kernel
theorem dX10_join_1 : decode cX10_join 1 = .ok (.iload_n 2, 1) := by decide +kernel
theorem dX10_join_2 : decode cX10_join 2 = .ok (.iload_n 3, 1) := by decide +kernel
theorem dX10_join_3 : decode cX10_join 3 = .ok (.iload 4, 2) := by decide +kernel
theorem dX10_join_5 : decode cX10_join 5 = .ok (.iload 5, 2) := by decide +kernel
theorem dX10_join_7 : decode cX10_join 7 = .ok (.invokestatic 80, 3) := by decide +kernel
theorem dX10_join_10 : decode cX10_join 10 = .ok (.istore 6, 2) := by decide +kernel
theorem dX10_join_12 : decode cX10_join 12 = .ok (.iload 6, 2) := by decide +kernel
theorem dX10_join_14 : decode cX10_join 14 = .ok (.ifCond .eq 34, 3) := by decide +kernel
theorem dX10_join_17 : decode cX10_join 17 = .ok (.aload_n 0, 1) := by decide +kernel
theorem dX10_join_18 : decode cX10_join 18 = .ok (.getfield 10, 3) := by decide +kernel
theorem dX10_join_21 : decode cX10_join 21 = .ok (.getfield 86, 3) := by decide +kernel
theorem dX10_join_24 : decode cX10_join 24 = .ok (.iload 6, 2) := by decide +kernel
theorem dX10_join_26 : decode cX10_join 26 = .ok (.invokevirtual 90, 3) := by decide +kernel
theorem dX10_join_29 : decode cX10_join 29 = .ok (.iconst (-1), 1) := by decide +kernel
theorem dX10_join_30 : decode cX10_join 30 = .ok (.if_icmp .ne 18, 3) := by decide +kernel
theorem dX10_join_33 : decode cX10_join 33 = .ok (.aload_n 0, 1) := by decide +kernel
theorem dX10_join_34 : decode cX10_join 34 = .ok (.getfield 10, 3) := by decide +kernel
theorem dX10_join_37 : decode cX10_join 37 = .ok (.getfield 86, 3) := by decide +kernel
theorem dX10_join_40 : decode cX10_join 40 = .ok (.iload 6, 2) := by decide +kernel
theorem dX10_join_42 : decode cX10_join 42 = .ok (.invokevirtual 96, 3) := by decide +kernel
theorem dX10_join_45 : decode cX10_join 45 = .ok (.ifCond .ne 5, 3) := by decide +kernel
theorem dX10_join_48 : decode cX10_join 48 = .ok (.iconst (-1), 1) := by decide +kernel
theorem dX10_join_49 : decode cX10_join 49 = .ok (.ireturn, 1) := by decide +kernel
theorem dX10_join_50 : decode cX10_join 50 = .ok (.aload_n 0, 1) := by decide +kernel
theorem dX10_join_51 : decode cX10_join 51 = .ok (.getfield 10, 3) := by decide +kernel
theorem dX10_join_54 : decode cX10_join 54 = .ok (.getfield 86, 3) := by decide +kernel
theorem dX10_join_57 : decode cX10_join 57 = .ok (.getfield 98, 3) := by decide +kernel
theorem dX10_join_60 : decode cX10_join 60 = .ok (.iconst 1, 1) := by decide +kernel
theorem dX10_join_61 : decode cX10_join 61 = .ok (.isub, 1) := by decide +kernel
theorem dX10_join_62 : decode cX10_join 62 = .ok (.ireturn, 1) := by decide +kernel
theorem dX10_part_0 : decode cX10_part 0 = .ok (.aload_n 0, 1) := by decide +kernel
theorem dX10_part_1 : decode cX10_part 1 = .ok (.getfield 10, 3) := by decide +kernel
theorem dX10_part_4 : decode cX10_part 4 = .ok (.getfield 86, 3) := by decide +kernel
theorem dX10_part_7 : decode cX10_part 7 = .ok (.iconst 0, 1) := by decide +kernel
theorem dX10_part_8 : decode cX10_part 8 = .ok (.putfield 98, 3) := by decide +kernel
theorem dX10_part_11 : decode cX10_part 11 = .ok (.return_, 1) := by decide +kernel
theorem dX10_joined_0 : decode cX10_joined 0 = .ok (.aload_n 0, 1) := by decide +kernel
theorem dX10_joined_1 : decode cX10_joined 1 = .ok (.getfield 10, 3) := by decide +kernel
theorem dX10_joined_4 : decode cX10_joined 4 = .ok (.getfield 86, 3) := by decide +kernel
theorem dX10_joined_7 : decode cX10_joined 7 = .ok (.iload_n 1, 1) := by decide +kernel
theorem dX10_joined_8 : decode cX10_joined 8 = .ok (.iload_n 2, 1) := by decide +kernel
theorem dX10_joined_9 : decode cX10_joined 9 = .ok (.invokevirtual 99, 3) := by decide +kernel
theorem dX10_joined_12 : decode cX10_joined 12 = .ok (.ireturn, 1) := by decide +kernel
theorem dX10_pack_0 : decode cX10_pack 0 = .ok (.aload_n 0, 1) := by decide +kernel
theorem dX10_pack_1 : decode cX10_pack 1 = .ok (.getfield 10, 3) := by decide +kernel
theorem dX10_pack_4 : decode cX10_pack 4 = .ok (.iload_n 1, 1) := by decide +kernel
theorem dX10_pack_5 : decode cX10_pack 5 = .ok (.invokevirtual 47, 3) := by decide +kernel
theorem dX10_pack_8 : decode cX10_pack 8 = .ok (.ifCond .ne 5, 3) := by decide +kernel
theorem dX10_pack_11 : decode cX10_pack 11 = .ok (.iconst (-1), 1) := by decide +kernel
theorem dX10_pack_12 : decode cX10_pack 12 = .ok (.ireturn, 1) := by decide +kernel
theorem dX10_pack_13 : decode cX10_pack 13 = .ok (.aload_n 0, 1) := by decide +kernel
theorem dX10_pack_14 : decode cX10_pack 14 = .ok (.getfield 10, 3) := by decide +kernel
theorem dX10_pack_17 : decode cX10_pack 17 = .ok (.getfield 38, 3) := by decide +kernel
theorem dX10_pack_20 : decode cX10_pack 20 = .ok (.iload_n 1, 1) := by decide +kernel
theorem dX10_pack_21 : decode cX10_pack 21 = .ok (.aaload, 1) := by decide +kernel
theorem dX10_pack_22 : decode cX10_pack 22 = .ok (.astore_n 2, 1) := by decide +kernel
theorem dX10_pack_23 : decode cX10_pack 23 = .ok (.aload_n 0, 1) := by decide +kernel
theorem dX10_pack_24 : decode cX10_pack 24 = .ok (.getfield 23, 3) := by decide +kernel
theorem dX10_pack_27 : decode cX10_pack 27 = .ok (.aload_n 2, 1) := by decide +kernel
theorem dX10_pack_28 : decode cX10_pack 28 = .ok (.aload_n 0, 1) := by decide +kernel
theorem dX10_pack_29 : decode cX10_pack 29 = .ok (.getfield 10, 3) := by decide +kernel
theorem dX10_pack_32 : decode cX10_pack 32 = .ok (.getfield 86, 3) := by decide +kernel
theorem dX10_pack_35 : decode cX10_pack 35 = .ok (.iconst 0, 1) := by decide +kernel
theorem dX10_pack_36 : decode cX10_pack 36 = .ok (.invokevirtual 103, 3) := by decide +kernel
theorem dX10_pack_39 : decode cX10_pack 39 = .ok (.pop, 1) := by decide +kernel
theorem dX10_pack_40 : decode cX10_pack 40 = .ok (.aload_n 0, 1) := by decide +kernel
theorem dX10_pack_41 : decode cX10_pack 41 = .ok (.getfield 10, 3) := by decide +kernel
theorem dX10_pack_44 : decode cX10_pack 44 = .ok (.getfield 107, 3) := by decide +kernel
theorem dX10_pack_47 : decode cX10_pack 47 = .ok (.aload_n 2, 1) := by decide +kernel
theorem dX10_pack_48 : decode cX10_pack 48 = .ok (.aload_n 0, 1) := by decide +kernel
theorem dX10_pack_49 : decode cX10_pack 49 = .ok (.getfield 23, 3) := by decide +kernel
theorem dX10_pack_52 : decode cX10_pack 52 = .ok (.invokevirtual 111, 3) := by decide +kernel
theorem dX10_pack_55 : decode cX10_pack 55 = .ok (.aload_n 0, 1) := by decide +kernel
theorem dX10_pack_56 : decode cX10_pack 56 = .ok (.getfield 10, 3) := by decide +kernel
theorem dX10_pack_59 : decode cX10_pack 59 = .ok (.getfield 107, 3) := by decide +kernel
theorem dX10_pack_62 : decode cX10_pack 62 = .ok (.getfield 117, 3) := by decide +kernel
theorem dX10_pack_65 : decode cX10_pack 65 = .ok (.ireturn, 1) := by decide +kernel
theorem dX10_code_0 : decode cX10_code 0 = .ok (.aload_n 0, 1) := by decide +kernel
theorem dX10_code_1 : decode cX10_code 1 = .ok (.getfield 10, 3) := by decide +kernel
theorem dX10_code_4 : decode cX10_code 4 = .ok (.getfield 107, 3) := by decide +kernel
theorem dX10_code_7 : decode cX10_code 7 = .ok (.iload_n 1, 1) := by decide +kernel
theorem dX10_code_8 : decode cX10_code 8 = .ok (.invokevirtual 120, 3) := by decide +kernel
theorem dX10_code_11 : decode cX10_code 11 = .ok (.ifCond .ne 5, 3) := by decide +kernel
theorem dX10_code_14 : decode cX10_code 14 = .ok (.iconst (-1), 1) := by decide +kernel
theorem dX10_code_15 : decode cX10_code 15 = .ok (.ireturn, 1) := by decide +kernel
theorem dX10_code_16 : decode cX10_code 16 = .ok (.iload_n 2, 1) := by decide +kernel
theorem dX10_code_17 : decode cX10_code 17 = .ok (.tableswitch 66 0 2 #[27, 40, 53], 27) := by decide +kernel
theorem dX10_code_44 : decode cX10_code 44 = .ok (.aload_n 0, 1) := by decide +kernel
theorem dX10_code_45 : decode cX10_code 45 = .ok (.getfield 10, 3) := by decide +kernel
theorem dX10_code_48 : decode cX10_code 48 = .ok (.getfield 107, 3) := by decide +kernel
theorem dX10_code_51 : decode cX10_code 51 = .ok (.getfield 123, 3) := by decide +kernel
theorem dX10_code_54 : decode cX10_code 54 = .ok (.iload_n 1, 1) := by decide +kernel
theorem dX10_code_55 : decode cX10_code 55 = .ok (.iaload, 1) := by decide +kernel
theorem dX10_code_56 : decode cX10_code 56 = .ok (.ireturn, 1) := by decide +kernel
theorem dX10_code_57 : decode cX10_code 57 = .ok (.aload_n 0, 1) := by decide +kernel
theorem dX10_code_58 : decode cX10_code 58 = .ok (.getfield 10, 3) := by decide +kernel
theorem dX10_code_61 : decode cX10_code 61 = .ok (.getfield 107, 3) := by decide +kernel
theorem dX10_code_64 : decode cX10_code 64 = .ok (.getfield 126, 3) := by decide +kernel
theorem dX10_code_67 : decode cX10_code 67 = .ok (.iload_n 1, 1) := by decide +kernel
theorem dX10_code_68 : decode cX10_code 68 = .ok (.iaload, 1) := by decide +kernel
theorem dX10_code_69 : decode cX10_code 69 = .ok (.ireturn, 1) := by decide +kernel
theorem dX10_code_70 : decode cX10_code 70 = .ok (.aload_n 0, 1) := by decide +kernel
theorem dX10_code_71 : decode cX10_code 71 = .ok (.getfield 10, 3) := by decide +kernel
theorem dX10_code_74 : decode cX10_code 74 = .ok (.getfield 107, 3) := by decide +kernel
theorem dX10_code_77 : decode cX10_code 77 = .ok (.getfield 129, 3) := by decide +kernel
theorem dX10_code_80 : decode cX10_code 80 = .ok (.iload_n 1, 1) := by decide +kernel
theorem dX10_code_81 : decode cX10_code 81 = .ok (.iaload, 1) := by decide +kernel
theorem dX10_code_82 : decode cX10_code 82 = .ok (.ireturn, 1) := by decide +kernel
theorem dX10_code_83 : decode cX10_code 83 = .ok (.iconst (-1), 1) := by decide +kernel
theorem dX10_code_84 : decode cX10_code 84 = .ok (.ireturn, 1) := by decide +kernel
theorem dX10_bytes_0 : decode cX10_bytes 0 = .ok (.aload_n 0, 1) := by decide +kernel
theorem dX10_bytes_1 : decode cX10_bytes 1 = .ok (.getfield 10, 3) := by decide +kernel
theorem dX10_bytes_4 : decode cX10_bytes 4 = .ok (.getfield 107, 3) := by decide +kernel
theorem dX10_bytes_7 : decode cX10_bytes 7 = .ok (.iload_n 1, 1) := by decide +kernel
theorem dX10_bytes_8 : decode cX10_bytes 8 = .ok (.invokevirtual 132, 3) := by decide +kernel
theorem dX10_bytes_11 : decode cX10_bytes 11 = .ok (.ifCond .eq 18, 3) := by decide +kernel
theorem dX10_bytes_14 : decode cX10_bytes 14 = .ok (.aload_n 0, 1) := by decide +kernel
theorem dX10_bytes_15 : decode cX10_bytes 15 = .ok (.getfield 10, 3) := by decide +kernel
theorem dX10_bytes_18 : decode cX10_bytes 18 = .ok (.getfield 107, 3) := by decide +kernel
theorem dX10_bytes_21 : decode cX10_bytes 21 = .ok (.getfield 135, 3) := by decide +kernel
theorem dX10_bytes_24 : decode cX10_bytes 24 = .ok (.iload_n 1, 1) := by decide +kernel
theorem dX10_bytes_25 : decode cX10_bytes 25 = .ok (.iaload, 1) := by decide +kernel
theorem dX10_bytes_26 : decode cX10_bytes 26 = .ok (.goto 4, 3) := by decide +kernel
theorem dX10_bytes_29 : decode cX10_bytes 29 = .ok (.iconst (-1), 1) := by decide +kernel
theorem dX10_bytes_30 : decode cX10_bytes 30 = .ok (.ireturn, 1) := by decide +kernel
theorem dX10_run_0 : decode cX10_run 0 = .ok (.iload_n 3, 1) := by decide +kernel
theorem dX10_run_1 : decode cX10_run 1 = .ok (.ifCond .lt 10, 3) := by decide +kernel
theorem dX10_run_4 : decode cX10_run 4 = .ok (.iload_n 3, 1) := by decide +kernel
theorem dX10_run_5 : decode cX10_run 5 = .ok (.sipush 20000, 3) := by decide +kernel
theorem dX10_run_8 : decode cX10_run 8 = .ok (.if_icmp .le 5, 3) := by decide +kernel
theorem dX10_run_11 : decode cX10_run 11 = .ok (.iconst (-1), 1) := by decide +kernel
theorem dX10_run_12 : decode cX10_run 12 = .ok (.ireturn, 1) := by decide +kernel
theorem dX10_run_13 : decode cX10_run 13 = .ok (.iload_n 2, 1) := by decide +kernel
theorem dX10_run_14 : decode cX10_run 14 = .ok (.ifCond .eq 49, 3) := by decide +kernel
theorem dX10_run_17 : decode cX10_run 17 = .ok (.aload_n 0, 1) := by decide +kernel
theorem dX10_run_18 : decode cX10_run 18 = .ok (.getfield 10, 3) := by decide +kernel
theorem dX10_run_21 : decode cX10_run 21 = .ok (.getfield 107, 3) := by decide +kernel
theorem dX10_run_24 : decode cX10_run 24 = .ok (.getfield 140, 3) := by decide +kernel
theorem dX10_run_27 : decode cX10_run 27 = .ok (.ifCond .eq 34, 3) := by decide +kernel
theorem dX10_run_30 : decode cX10_run 30 = .ok (.aload_n 0, 1) := by decide +kernel
theorem dX10_run_31 : decode cX10_run 31 = .ok (.getfield 10, 3) := by decide +kernel
theorem dX10_run_34 : decode cX10_run 34 = .ok (.getfield 144, 3) := by decide +kernel
theorem dX10_run_37 : decode cX10_run 37 = .ok (.aload_n 0, 1) := by decide +kernel
theorem dX10_run_38 : decode cX10_run 38 = .ok (.getfield 10, 3) := by decide +kernel
theorem dX10_run_41 : decode cX10_run 41 = .ok (.getfield 107, 3) := by decide +kernel
theorem dX10_run_44 : decode cX10_run 44 = .ok (.getfield 148, 3) := by decide +kernel
theorem dX10_run_47 : decode cX10_run 47 = .ok (.aload_n 0, 1) := by decide +kernel
theorem dX10_run_48 : decode cX10_run 48 = .ok (.getfield 10, 3) := by decide +kernel
theorem dX10_run_51 : decode cX10_run 51 = .ok (.getfield 107, 3) := by decide +kernel
theorem dX10_run_54 : decode cX10_run 54 = .ok (.iload_n 3, 1) := by decide +kernel
theorem dX10_run_55 : decode cX10_run 55 = .ok (.invokevirtual 152, 3) := by decide +kernel
theorem dX10_run_58 : decode cX10_run 58 = .ok (.goto 4, 3) := by decide +kernel
theorem dX10_run_61 : decode cX10_run 61 = .ok (.iconst (-1), 1) := by decide +kernel
theorem dX10_run_62 : decode cX10_run 62 = .ok (.ireturn, 1) := by decide +kernel
theorem dX10_run_63 : decode cX10_run 63 = .ok (.aload_n 0, 1) := by decide +kernel
theorem dX10_run_64 : decode cX10_run 64 = .ok (.getfield 10, 3) := by decide +kernel
theorem dX10_run_67 : decode cX10_run 67 = .ok (.iload_n 1, 1) := by decide +kernel
theorem dX10_run_68 : decode cX10_run 68 = .ok (.invokevirtual 47, 3) := by decide +kernel
theorem dX10_run_71 : decode cX10_run 71 = .ok (.ifCond .eq 27, 3) := by decide +kernel
theorem dX10_run_74 : decode cX10_run 74 = .ok (.aload_n 0, 1) := by decide +kernel
theorem dX10_run_75 : decode cX10_run 75 = .ok (.getfield 10, 3) := by decide +kernel
theorem dX10_run_78 : decode cX10_run 78 = .ok (.getfield 144, 3) := by decide +kernel
theorem dX10_run_81 : decode cX10_run 81 = .ok (.aload_n 0, 1) := by decide +kernel
theorem dX10_run_82 : decode cX10_run 82 = .ok (.getfield 10, 3) := by decide +kernel
theorem dX10_run_85 : decode cX10_run 85 = .ok (.getfield 38, 3) := by decide +kernel
theorem dX10_run_88 : decode cX10_run 88 = .ok (.iload_n 1, 1) := by decide +kernel
theorem dX10_run_89 : decode cX10_run 89 = .ok (.aaload, 1) := by decide +kernel
theorem dX10_run_90 : decode cX10_run 90 = .ok (.aconst_null, 1) := by decide +kernel
theorem dX10_run_91 : decode cX10_run 91 = .ok (.iload_n 3, 1) := by decide +kernel
theorem dX10_run_92 : decode cX10_run 92 = .ok (.invokevirtual 152, 3) := by decide +kernel
theorem dX10_run_95 : decode cX10_run 95 = .ok (.goto 4, 3) := by decide +kernel
theorem dX10_run_98 : decode cX10_run 98 = .ok (.iconst (-1), 1) := by decide +kernel
theorem dX10_run_99 : decode cX10_run 99 = .ok (.ireturn, 1) := by decide +kernel
theorem dX10_ran_0 : decode cX10_ran 0 = .ok (.aload_n 0, 1) := by decide +kernel
theorem dX10_ran_1 : decode cX10_ran 1 = .ok (.getfield 10, 3) := by decide +kernel
theorem dX10_ran_4 : decode cX10_ran 4 = .ok (.getfield 144, 3) := by decide +kernel
theorem dX10_ran_7 : decode cX10_ran 7 = .ok (.getfield 156, 3) := by decide +kernel
theorem dX10_ran_10 : decode cX10_ran 10 = .ok (.ifCond .ne 5, 3) := by decide +kernel
theorem dX10_ran_13 : decode cX10_ran 13 = .ok (.iconst (-1), 1) := by decide +kernel
theorem dX10_ran_14 : decode cX10_ran 14 = .ok (.ireturn, 1) := by decide +kernel
theorem dX10_ran_15 : decode cX10_ran 15 = .ok (.iload_n 1, 1) := by decide +kernel
theorem dX10_ran_16 : decode cX10_ran 16 = .ok (.tableswitch 91 0 4 #[36, 47, 58, 69, 80], 36) := by decide +kernel
theorem dX10_ran_52 : decode cX10_ran 52 = .ok (.aload_n 0, 1) := by decide +kernel
theorem dX10_ran_53 : decode cX10_ran 53 = .ok (.getfield 10, 3) := by decide +kernel
theorem dX10_ran_56 : decode cX10_ran 56 = .ok (.getfield 144, 3) := by decide +kernel
theorem dX10_ran_59 : decode cX10_ran 59 = .ok (.getfield 157, 3) := by decide +kernel
theorem dX10_ran_62 : decode cX10_ran 62 = .ok (.ireturn, 1) := by decide +kernel
theorem dX10_ran_63 : decode cX10_ran 63 = .ok (.aload_n 0, 1) := by decide +kernel
theorem dX10_ran_64 : decode cX10_ran 64 = .ok (.getfield 10, 3) := by decide +kernel
theorem dX10_ran_67 : decode cX10_ran 67 = .ok (.getfield 144, 3) := by decide +kernel
theorem dX10_ran_70 : decode cX10_ran 70 = .ok (.getfield 160, 3) := by decide +kernel
theorem dX10_ran_73 : decode cX10_ran 73 = .ok (.ireturn, 1) := by decide +kernel
theorem dX10_ran_74 : decode cX10_ran 74 = .ok (.aload_n 0, 1) := by decide +kernel
theorem dX10_ran_75 : decode cX10_ran 75 = .ok (.getfield 10, 3) := by decide +kernel
theorem dX10_ran_78 : decode cX10_ran 78 = .ok (.getfield 144, 3) := by decide +kernel
theorem dX10_ran_81 : decode cX10_ran 81 = .ok (.getfield 163, 3) := by decide +kernel
theorem dX10_ran_84 : decode cX10_ran 84 = .ok (.ireturn, 1) := by decide +kernel
theorem dX10_ran_85 : decode cX10_ran 85 = .ok (.aload_n 0, 1) := by decide +kernel
theorem dX10_ran_86 : decode cX10_ran 86 = .ok (.getfield 10, 3) := by decide +kernel
theorem dX10_ran_89 : decode cX10_ran 89 = .ok (.getfield 144, 3) := by decide +kernel
theorem dX10_ran_92 : decode cX10_ran 92 = .ok (.getfield 166, 3) := by decide +kernel
theorem dX10_ran_95 : decode cX10_ran 95 = .ok (.ireturn, 1) := by decide +kernel
theorem dX10_ran_96 : decode cX10_ran 96 = .ok (.aload_n 0, 1) := by decide +kernel
theorem dX10_ran_97 : decode cX10_ran 97 = .ok (.getfield 10, 3) := by decide +kernel
theorem dX10_ran_100 : decode cX10_ran 100 = .ok (.getfield 144, 3) := by decide +kernel
theorem dX10_ran_103 : decode cX10_ran 103 = .ok (.getfield 169, 3) := by decide +kernel
theorem dX10_ran_106 : decode cX10_ran 106 = .ok (.ireturn, 1) := by decide +kernel
theorem dX10_ran_107 : decode cX10_ran 107 = .ok (.iconst (-1), 1) := by decide +kernel
theorem dX10_ran_108 : decode cX10_ran 108 = .ok (.ireturn, 1) := by decide +kernel
theorem dX10_had_0 : decode cX10_had 0 = .ok (.iload_n 1, 1) := by decide +kernel
theorem dX10_had_1 : decode cX10_had 1 = .ok (.tableswitch 94 0 2 #[27, 52, 77], 27) := by decide +kernel
theorem dX10_had_28 : decode cX10_had 28 = .ok (.aload_n 0, 1) := by decide +kernel
theorem dX10_had_29 : decode cX10_had 29 = .ok (.getfield 10, 3) := by decide +kernel
theorem dX10_had_32 : decode cX10_had 32 = .ok (.getfield 144, 3) := by decide +kernel
theorem dX10_had_35 : decode cX10_had 35 = .ok (.getfield 172, 3) := by decide +kernel
theorem dX10_had_38 : decode cX10_had 38 = .ok (.aload_n 0, 1) := by decide +kernel
theorem dX10_had_39 : decode cX10_had 39 = .ok (.getfield 10, 3) := by decide +kernel
theorem dX10_had_42 : decode cX10_had 42 = .ok (.getfield 144, 3) := by decide +kernel
theorem dX10_had_45 : decode cX10_had 45 = .ok (.getfield 163, 3) := by decide +kernel
theorem dX10_had_48 : decode cX10_had 48 = .ok (.iload_n 2, 1) := by decide +kernel
theorem dX10_had_49 : decode cX10_had 49 = .ok (.invokestatic 175, 3) := by decide +kernel
theorem dX10_had_52 : decode cX10_had 52 = .ok (.ireturn, 1) := by decide +kernel
theorem dX10_had_53 : decode cX10_had 53 = .ok (.aload_n 0, 1) := by decide +kernel
theorem dX10_had_54 : decode cX10_had 54 = .ok (.getfield 10, 3) := by decide +kernel
theorem dX10_had_57 : decode cX10_had 57 = .ok (.getfield 144, 3) := by decide +kernel
theorem dX10_had_60 : decode cX10_had 60 = .ok (.getfield 179, 3) := by decide +kernel
theorem dX10_had_63 : decode cX10_had 63 = .ok (.aload_n 0, 1) := by decide +kernel
theorem dX10_had_64 : decode cX10_had 64 = .ok (.getfield 10, 3) := by decide +kernel
theorem dX10_had_67 : decode cX10_had 67 = .ok (.getfield 144, 3) := by decide +kernel
theorem dX10_had_70 : decode cX10_had 70 = .ok (.getfield 166, 3) := by decide +kernel
theorem dX10_had_73 : decode cX10_had 73 = .ok (.iload_n 2, 1) := by decide +kernel
theorem dX10_had_74 : decode cX10_had 74 = .ok (.invokestatic 175, 3) := by decide +kernel
theorem dX10_had_77 : decode cX10_had 77 = .ok (.ireturn, 1) := by decide +kernel
theorem dX10_had_78 : decode cX10_had 78 = .ok (.aload_n 0, 1) := by decide +kernel
theorem dX10_had_79 : decode cX10_had 79 = .ok (.getfield 10, 3) := by decide +kernel
theorem dX10_had_82 : decode cX10_had 82 = .ok (.getfield 144, 3) := by decide +kernel
theorem dX10_had_85 : decode cX10_had 85 = .ok (.getfield 182, 3) := by decide +kernel
theorem dX10_had_88 : decode cX10_had 88 = .ok (.bipush 8, 2) := by decide +kernel
theorem dX10_had_90 : decode cX10_had 90 = .ok (.iload_n 2, 1) := by decide +kernel
theorem dX10_had_91 : decode cX10_had 91 = .ok (.invokestatic 175, 3) := by decide +kernel
theorem dX10_had_94 : decode cX10_had 94 = .ok (.ireturn, 1) := by decide +kernel
theorem dX10_had_95 : decode cX10_had 95 = .ok (.iconst 0, 1) := by decide +kernel
theorem dX10_had_96 : decode cX10_had 96 = .ok (.ireturn, 1) := by decide +kernel
theorem dX10_cost_0 : decode cX10_cost 0 = .ok (.iconst 0, 1) := by decide +kernel
theorem dX10_cost_1 : decode cX10_cost 1 = .ok (.istore_n 2, 1) := by decide +kernel
theorem dX10_cost_2 : decode cX10_cost 2 = .ok (.iconst 0, 1) := by decide +kernel
theorem dX10_cost_3 : decode cX10_cost 3 = .ok (.istore_n 3, 1) := by decide +kernel
theorem dX10_cost_4 : decode cX10_cost 4 = .ok (.iload_n 3, 1) := by decide +kernel
theorem dX10_cost_5 : decode cX10_cost 5 = .ok (.aload_n 0, 1) := by decide +kernel
theorem dX10_cost_6 : decode cX10_cost 6 = .ok (.getfield 10, 3) := by decide +kernel
theorem dX10_cost_9 : decode cX10_cost 9 = .ok (.getfield 34, 3) := by decide +kernel
theorem dX10_cost_12 : decode cX10_cost 12 = .ok (.if_icmp .ge 36, 3) := by decide +kernel
theorem dX10_cost_15 : decode cX10_cost 15 = .ok (.iload_n 2, 1) := by decide +kernel
theorem dX10_cost_16 : decode cX10_cost 16 = .ok (.aload_n 0, 1) := by decide +kernel
theorem dX10_cost_17 : decode cX10_cost 17 = .ok (.getfield 23, 3) := by decide +kernel
theorem dX10_cost_20 : decode cX10_cost 20 = .ok (.aload_n 0, 1) := by decide +kernel
theorem dX10_cost_21 : decode cX10_cost 21 = .ok (.getfield 10, 3) := by decide +kernel
theorem dX10_cost_24 : decode cX10_cost 24 = .ok (.getfield 38, 3) := by decide +kernel
theorem dX10_cost_27 : decode cX10_cost 27 = .ok (.iload_n 3, 1) := by decide +kernel
theorem dX10_cost_28 : decode cX10_cost 28 = .ok (.aaload, 1) := by decide +kernel
theorem dX10_cost_29 : decode cX10_cost 29 = .ok (.aload_n 0, 1) := by decide +kernel
theorem dX10_cost_30 : decode cX10_cost 30 = .ok (.getfield 10, 3) := by decide +kernel
theorem dX10_cost_33 : decode cX10_cost 33 = .ok (.getfield 86, 3) := by decide +kernel
theorem dX10_cost_36 : decode cX10_cost 36 = .ok (.iload_n 1, 1) := by decide +kernel
theorem dX10_cost_37 : decode cX10_cost 37 = .ok (.invokevirtual 103, 3) := by decide +kernel
theorem dX10_cost_40 : decode cX10_cost 40 = .ok (.iadd, 1) := by decide +kernel
theorem dX10_cost_41 : decode cX10_cost 41 = .ok (.istore_n 2, 1) := by decide +kernel
theorem dX10_cost_42 : decode cX10_cost 42 = .ok (.iinc 3 1, 3) := by decide +kernel
theorem dX10_cost_45 : decode cX10_cost 45 = .ok (.goto (-41), 3) := by decide +kernel
theorem dX10_cost_48 : decode cX10_cost 48 = .ok (.iload_n 2, 1) := by decide +kernel
theorem dX10_cost_49 : decode cX10_cost 49 = .ok (.ireturn, 1) := by decide +kernel
theorem dX10_choose_0 : decode cX10_choose 0 = .ok (.iload_n 1, 1) := by decide +kernel
theorem dX10_choose_1 : decode cX10_choose 1 = .ok (.iconst 1, 1) := by decide +kernel
theorem dX10_choose_2 : decode cX10_choose 2 = .ok (.if_icmp .lt 8, 3) := by decide +kernel
theorem dX10_choose_5 : decode cX10_choose 5 = .ok (.iload_n 1, 1) := by decide +kernel
theorem dX10_choose_6 : decode cX10_choose 6 = .ok (.iconst 2, 1) := by decide +kernel
theorem dX10_choose_7 : decode cX10_choose 7 = .ok (.if_icmp .le 5, 3) := by decide +kernel
theorem dX10_choose_10 : decode cX10_choose 10 = .ok (.iconst (-1), 1) := by decide +kernel
theorem dX10_choose_11 : decode cX10_choose 11 = .ok (.ireturn, 1) := by decide +kernel
theorem dX10_choose_12 : decode cX10_choose 12 = .ok (.aload_n 0, 1) := by decide +kernel
theorem dX10_choose_13 : decode cX10_choose 13 = .ok (.getfield 10, 3) := by decide +kernel
theorem dX10_choose_16 : decode cX10_choose 16 = .ok (.iconst 1, 1) := by decide +kernel
theorem dX10_choose_17 : decode cX10_choose 17 = .ok (.putfield 185, 3) := by decide +kernel
theorem dX10_choose_20 : decode cX10_choose 20 = .ok (.aload_n 0, 1) := by decide +kernel
theorem dX10_choose_21 : decode cX10_choose 21 = .ok (.getfield 30, 3) := by decide +kernel
theorem dX10_choose_24 : decode cX10_choose 24 = .ok (.aload_n 0, 1) := by decide +kernel
theorem dX10_choose_25 : decode cX10_choose 25 = .ok (.getfield 10, 3) := by decide +kernel
theorem dX10_choose_28 : decode cX10_choose 28 = .ok (.iload_n 1, 1) := by decide +kernel
theorem dX10_choose_29 : decode cX10_choose 29 = .ok (.iload_n 2, 1) := by decide +kernel
theorem dX10_choose_30 : decode cX10_choose 30 = .ok (.invokevirtual 188, 3) := by decide +kernel
theorem dX10_choose_33 : decode cX10_choose 33 = .ok (.ireturn, 1) := by decide +kernel
theorem dX10_chosen_0 : decode cX10_chosen 0 = .ok (.aload_n 0, 1) := by decide +kernel
theorem dX10_chosen_1 : decode cX10_chosen 1 = .ok (.getfield 10, 3) := by decide +kernel
theorem dX10_chosen_4 : decode cX10_chosen 4 = .ok (.getfield 192, 3) := by decide +kernel
theorem dX10_chosen_7 : decode cX10_chosen 7 = .ok (.iload_n 1, 1) := by decide +kernel
theorem dX10_chosen_8 : decode cX10_chosen 8 = .ok (.iload_n 2, 1) := by decide +kernel
theorem dX10_chosen_9 : decode cX10_chosen 9 = .ok (.invokevirtual 99, 3) := by decide +kernel
theorem dX10_chosen_12 : decode cX10_chosen 12 = .ok (.ireturn, 1) := by decide +kernel
theorem dX10_take_0 : decode cX10_take 0 = .ok (.aload_n 0, 1) := by decide +kernel
theorem dX10_take_1 : decode cX10_take 1 = .ok (.getfield 10, 3) := by decide +kernel
theorem dX10_take_4 : decode cX10_take 4 = .ok (.getfield 185, 3) := by decide +kernel
theorem dX10_take_7 : decode cX10_take 7 = .ok (.ifCond .ne 5, 3) := by decide +kernel
theorem dX10_take_10 : decode cX10_take 10 = .ok (.iconst (-1), 1) := by decide +kernel
theorem dX10_take_11 : decode cX10_take 11 = .ok (.ireturn, 1) := by decide +kernel
theorem dX10_take_12 : decode cX10_take 12 = .ok (.aload_n 0, 1) := by decide +kernel
theorem dX10_take_13 : decode cX10_take 13 = .ok (.getfield 10, 3) := by decide +kernel
theorem dX10_take_16 : decode cX10_take 16 = .ok (.getfield 86, 3) := by decide +kernel
theorem dX10_take_19 : decode cX10_take 19 = .ok (.aload_n 0, 1) := by decide +kernel
theorem dX10_take_20 : decode cX10_take 20 = .ok (.getfield 10, 3) := by decide +kernel
theorem dX10_take_23 : decode cX10_take 23 = .ok (.getfield 192, 3) := by decide +kernel
theorem dX10_take_26 : decode cX10_take 26 = .ok (.invokevirtual 195, 3) := by decide +kernel
theorem dX10_take_29 : decode cX10_take 29 = .ok (.aload_n 0, 1) := by decide +kernel
theorem dX10_take_30 : decode cX10_take 30 = .ok (.getfield 10, 3) := by decide +kernel
theorem dX10_take_33 : decode cX10_take 33 = .ok (.getfield 86, 3) := by decide +kernel
theorem dX10_take_36 : decode cX10_take 36 = .ok (.getfield 98, 3) := by decide +kernel
theorem dX10_take_39 : decode cX10_take 39 = .ok (.ireturn, 1) := by decide +kernel
theorem dX10_feed_0 : decode cX10_feed 0 = .ok (.aload_n 0, 1) := by decide +kernel
theorem dX10_feed_1 : decode cX10_feed 1 = .ok (.getfield 10, 3) := by decide +kernel
theorem dX10_feed_4 : decode cX10_feed 4 = .ok (.getfield 199, 3) := by decide +kernel
theorem dX10_feed_7 : decode cX10_feed 7 = .ok (.iload_n 1, 1) := by decide +kernel
theorem dX10_feed_8 : decode cX10_feed 8 = .ok (.iload_n 2, 1) := by decide +kernel
theorem dX10_feed_9 : decode cX10_feed 9 = .ok (.invokevirtual 203, 3) := by decide +kernel
theorem dX10_feed_12 : decode cX10_feed 12 = .ok (.ifCond .eq 16, 3) := by decide +kernel
theorem dX10_feed_15 : decode cX10_feed 15 = .ok (.aload_n 0, 1) := by decide +kernel
theorem dX10_feed_16 : decode cX10_feed 16 = .ok (.getfield 10, 3) := by decide +kernel
theorem dX10_feed_19 : decode cX10_feed 19 = .ok (.getfield 199, 3) := by decide +kernel
theorem dX10_feed_22 : decode cX10_feed 22 = .ok (.getfield 206, 3) := by decide +kernel
theorem dX10_feed_25 : decode cX10_feed 25 = .ok (.goto 4, 3) := by decide +kernel
theorem dX10_feed_28 : decode cX10_feed 28 = .ok (.iconst (-1), 1) := by decide +kernel
theorem dX10_feed_29 : decode cX10_feed 29 = .ok (.ireturn, 1) := by decide +kernel
theorem dX10_read_0 : decode cX10_read 0 = .ok (.aload_n 0, 1) := by decide +kernel
theorem dX10_read_1 : decode cX10_read 1 = .ok (.getfield 10, 3) := by decide +kernel
theorem dX10_read_4 : decode cX10_read 4 = .ok (.getfield 34, 3) := by decide +kernel
theorem dX10_read_7 : decode cX10_read 7 = .ok (.iconst 3, 1) := by decide +kernel
theorem dX10_read_8 : decode cX10_read 8 = .ok (.if_icmp .lt 5, 3) := by decide +kernel
theorem dX10_read_11 : decode cX10_read 11 = .ok (.iconst (-1), 1) := by decide +kernel
theorem dX10_read_12 : decode cX10_read 12 = .ok (.ireturn, 1) := by decide +kernel
theorem dX10_read_13 : decode cX10_read 13 = .ok (.aload_n 0, 1) := by decide +kernel
theorem dX10_read_14 : decode cX10_read 14 = .ok (.getfield 10, 3) := by decide +kernel
theorem dX10_read_17 : decode cX10_read 17 = .ok (.getfield 199, 3) := by decide +kernel
theorem dX10_read_20 : decode cX10_read 20 = .ok (.aload_n 0, 1) := by decide +kernel
theorem dX10_read_21 : decode cX10_read 21 = .ok (.getfield 10, 3) := by decide +kernel
theorem dX10_read_24 : decode cX10_read 24 = .ok (.getfield 38, 3) := by decide +kernel
theorem dX10_read_27 : decode cX10_read 27 = .ok (.aload_n 0, 1) := by decide +kernel
theorem dX10_read_28 : decode cX10_read 28 = .ok (.getfield 10, 3) := by decide +kernel
theorem dX10_read_31 : decode cX10_read 31 = .ok (.getfield 34, 3) := by decide +kernel
theorem dX10_read_34 : decode cX10_read 34 = .ok (.aaload, 1) := by decide +kernel
theorem dX10_read_35 : decode cX10_read 35 = .ok (.aload_n 0, 1) := by decide +kernel
theorem dX10_read_36 : decode cX10_read 36 = .ok (.getfield 10, 3) := by decide +kernel
theorem dX10_read_39 : decode cX10_read 39 = .ok (.getfield 86, 3) := by decide +kernel
theorem dX10_read_42 : decode cX10_read 42 = .ok (.invokevirtual 207, 3) := by decide +kernel
theorem dX10_read_45 : decode cX10_read 45 = .ok (.ifCond .ne 5, 3) := by decide +kernel
theorem dX10_read_48 : decode cX10_read 48 = .ok (.iconst (-1), 1) := by decide +kernel
theorem dX10_read_49 : decode cX10_read 49 = .ok (.ireturn, 1) := by decide +kernel
theorem dX10_read_50 : decode cX10_read 50 = .ok (.aload_n 0, 1) := by decide +kernel
theorem dX10_read_51 : decode cX10_read 51 = .ok (.getfield 10, 3) := by decide +kernel
theorem dX10_read_54 : decode cX10_read 54 = .ok (.getfield 199, 3) := by decide +kernel
theorem dX10_read_57 : decode cX10_read 57 = .ok (.iconst 0, 1) := by decide +kernel
theorem dX10_read_58 : decode cX10_read 58 = .ok (.putfield 206, 3) := by decide +kernel
theorem dX10_read_61 : decode cX10_read 61 = .ok (.aload_n 0, 1) := by decide +kernel
theorem dX10_read_62 : decode cX10_read 62 = .ok (.getfield 10, 3) := by decide +kernel
theorem dX10_read_65 : decode cX10_read 65 = .ok (.dup, 1) := by decide +kernel
theorem dX10_read_66 : decode cX10_read 66 = .ok (.getfield 34, 3) := by decide +kernel
theorem dX10_read_69 : decode cX10_read 69 = .ok (.iconst 1, 1) := by decide +kernel
theorem dX10_read_70 : decode cX10_read 70 = .ok (.iadd, 1) := by decide +kernel
theorem dX10_read_71 : decode cX10_read 71 = .ok (.putfield 34, 3) := by decide +kernel
theorem dX10_read_74 : decode cX10_read 74 = .ok (.aload_n 0, 1) := by decide +kernel
theorem dX10_read_75 : decode cX10_read 75 = .ok (.getfield 10, 3) := by decide +kernel
theorem dX10_read_78 : decode cX10_read 78 = .ok (.getfield 34, 3) := by decide +kernel
theorem dX10_read_81 : decode cX10_read 81 = .ok (.iconst 1, 1) := by decide +kernel
theorem dX10_read_82 : decode cX10_read 82 = .ok (.isub, 1) := by decide +kernel
theorem dX10_read_83 : decode cX10_read 83 = .ok (.ireturn, 1) := by decide +kernel
theorem dX10_count_0 : decode cX10_count 0 = .ok (.iload_n 1, 1) := by decide +kernel
theorem dX10_count_1 : decode cX10_count 1 = .ok (.tableswitch 136 0 5 #[39, 47, 58, 86, 114, 125], 39) := by decide +kernel
theorem dX10_count_40 : decode cX10_count 40 = .ok (.aload_n 0, 1) := by decide +kernel
theorem dX10_count_41 : decode cX10_count 41 = .ok (.getfield 10, 3) := by decide +kernel
theorem dX10_count_44 : decode cX10_count 44 = .ok (.getfield 34, 3) := by decide +kernel
theorem dX10_count_47 : decode cX10_count 47 = .ok (.ireturn, 1) := by decide +kernel
theorem dX10_count_48 : decode cX10_count 48 = .ok (.aload_n 0, 1) := by decide +kernel
theorem dX10_count_49 : decode cX10_count 49 = .ok (.getfield 10, 3) := by decide +kernel
theorem dX10_count_52 : decode cX10_count 52 = .ok (.getfield 86, 3) := by decide +kernel
theorem dX10_count_55 : decode cX10_count 55 = .ok (.getfield 98, 3) := by decide +kernel
theorem dX10_count_58 : decode cX10_count 58 = .ok (.ireturn, 1) := by decide +kernel
theorem dX10_count_59 : decode cX10_count 59 = .ok (.aload_n 0, 1) := by decide +kernel
theorem dX10_count_60 : decode cX10_count 60 = .ok (.getfield 10, 3) := by decide +kernel
theorem dX10_count_63 : decode cX10_count 63 = .ok (.getfield 107, 3) := by decide +kernel
theorem dX10_count_66 : decode cX10_count 66 = .ok (.getfield 140, 3) := by decide +kernel
theorem dX10_count_69 : decode cX10_count 69 = .ok (.ifCond .eq 16, 3) := by decide +kernel
theorem dX10_count_72 : decode cX10_count 72 = .ok (.aload_n 0, 1) := by decide +kernel
theorem dX10_count_73 : decode cX10_count 73 = .ok (.getfield 10, 3) := by decide +kernel
theorem dX10_count_76 : decode cX10_count 76 = .ok (.getfield 107, 3) := by decide +kernel
theorem dX10_count_79 : decode cX10_count 79 = .ok (.getfield 117, 3) := by decide +kernel
theorem dX10_count_82 : decode cX10_count 82 = .ok (.goto 4, 3) := by decide +kernel
theorem dX10_count_85 : decode cX10_count 85 = .ok (.iconst (-1), 1) := by decide +kernel
theorem dX10_count_86 : decode cX10_count 86 = .ok (.ireturn, 1) := by decide +kernel
theorem dX10_count_87 : decode cX10_count 87 = .ok (.aload_n 0, 1) := by decide +kernel
theorem dX10_count_88 : decode cX10_count 88 = .ok (.getfield 10, 3) := by decide +kernel
theorem dX10_count_91 : decode cX10_count 91 = .ok (.getfield 107, 3) := by decide +kernel
theorem dX10_count_94 : decode cX10_count 94 = .ok (.getfield 140, 3) := by decide +kernel
theorem dX10_count_97 : decode cX10_count 97 = .ok (.ifCond .eq 16, 3) := by decide +kernel
theorem dX10_count_100 : decode cX10_count 100 = .ok (.aload_n 0, 1) := by decide +kernel
theorem dX10_count_101 : decode cX10_count 101 = .ok (.getfield 10, 3) := by decide +kernel
theorem dX10_count_104 : decode cX10_count 104 = .ok (.getfield 107, 3) := by decide +kernel
theorem dX10_count_107 : decode cX10_count 107 = .ok (.getfield 211, 3) := by decide +kernel
theorem dX10_count_110 : decode cX10_count 110 = .ok (.goto 4, 3) := by decide +kernel
theorem dX10_count_113 : decode cX10_count 113 = .ok (.iconst (-1), 1) := by decide +kernel
theorem dX10_count_114 : decode cX10_count 114 = .ok (.ireturn, 1) := by decide +kernel
theorem dX10_count_115 : decode cX10_count 115 = .ok (.aload_n 0, 1) := by decide +kernel
theorem dX10_count_116 : decode cX10_count 116 = .ok (.getfield 10, 3) := by decide +kernel
theorem dX10_count_119 : decode cX10_count 119 = .ok (.getfield 192, 3) := by decide +kernel
theorem dX10_count_122 : decode cX10_count 122 = .ok (.getfield 98, 3) := by decide +kernel
theorem dX10_count_125 : decode cX10_count 125 = .ok (.ireturn, 1) := by decide +kernel
theorem dX10_count_126 : decode cX10_count 126 = .ok (.aload_n 0, 1) := by decide +kernel
theorem dX10_count_127 : decode cX10_count 127 = .ok (.getfield 10, 3) := by decide +kernel
theorem dX10_count_130 : decode cX10_count 130 = .ok (.getfield 199, 3) := by decide +kernel
theorem dX10_count_133 : decode cX10_count 133 = .ok (.getfield 206, 3) := by decide +kernel
theorem dX10_count_136 : decode cX10_count 136 = .ok (.ireturn, 1) := by decide +kernel
theorem dX10_count_137 : decode cX10_count 137 = .ok (.iload_n 1, 1) := by decide +kernel
theorem dX10_count_138 : decode cX10_count 138 = .ok (.bipush 10, 2) := by decide +kernel
theorem dX10_count_140 : decode cX10_count 140 = .ok (.if_icmp .lt 35, 3) := by decide +kernel
theorem dX10_count_143 : decode cX10_count 143 = .ok (.aload_n 0, 1) := by decide +kernel
theorem dX10_count_144 : decode cX10_count 144 = .ok (.getfield 10, 3) := by decide +kernel
theorem dX10_count_147 : decode cX10_count 147 = .ok (.iload_n 1, 1) := by decide +kernel
theorem dX10_count_148 : decode cX10_count 148 = .ok (.bipush 10, 2) := by decide +kernel
theorem dX10_count_150 : decode cX10_count 150 = .ok (.isub, 1) := by decide +kernel
theorem dX10_count_151 : decode cX10_count 151 = .ok (.invokevirtual 47, 3) := by decide +kernel
theorem dX10_count_154 : decode cX10_count 154 = .ok (.ifCond .eq 21, 3) := by decide +kernel
theorem dX10_count_157 : decode cX10_count 157 = .ok (.aload_n 0, 1) := by decide +kernel
theorem dX10_count_158 : decode cX10_count 158 = .ok (.getfield 10, 3) := by decide +kernel
theorem dX10_count_161 : decode cX10_count 161 = .ok (.getfield 38, 3) := by decide +kernel
theorem dX10_count_164 : decode cX10_count 164 = .ok (.iload_n 1, 1) := by decide +kernel
theorem dX10_count_165 : decode cX10_count 165 = .ok (.bipush 10, 2) := by decide +kernel
theorem dX10_count_167 : decode cX10_count 167 = .ok (.isub, 1) := by decide +kernel
theorem dX10_count_168 : decode cX10_count 168 = .ok (.aaload, 1) := by decide +kernel
theorem dX10_count_169 : decode cX10_count 169 = .ok (.getfield 58, 3) := by decide +kernel
theorem dX10_count_172 : decode cX10_count 172 = .ok (.goto 4, 3) := by decide +kernel
theorem dX10_count_175 : decode cX10_count 175 = .ok (.iconst (-1), 1) := by decide +kernel
theorem dX10_count_176 : decode cX10_count 176 = .ok (.ireturn, 1) := by decide +kernel
theorem dX10_image_0 : decode cX10_image 0 = .ok (.iload_n 1, 1) := by decide +kernel
theorem dX10_image_1 : decode cX10_image 1 = .ok (.ifCond .lt 8, 3) := by decide +kernel
theorem dX10_image_4 : decode cX10_image 4 = .ok (.iload_n 1, 1) := by decide +kernel
theorem dX10_image_5 : decode cX10_image 5 = .ok (.iconst 3, 1) := by decide +kernel
theorem dX10_image_6 : decode cX10_image 6 = .ok (.if_icmp .lt 5, 3) := by decide +kernel
theorem dX10_image_9 : decode cX10_image 9 = .ok (.iconst 0, 1) := by decide +kernel
theorem dX10_image_10 : decode cX10_image 10 = .ok (.ireturn, 1) := by decide +kernel
theorem dX10_image_11 : decode cX10_image 11 = .ok (.aload_n 0, 1) := by decide +kernel
theorem dX10_image_12 : decode cX10_image 12 = .ok (.getfield 16, 3) := by decide +kernel
theorem dX10_image_15 : decode cX10_image 15 = .ok (.iload_n 1, 1) := by decide +kernel
theorem dX10_image_16 : decode cX10_image 16 = .ok (.aaload, 1) := by decide +kernel
theorem dX10_image_17 : decode cX10_image 17 = .ok (.ifnonnull 16, 3) := by decide +kernel
theorem dX10_image_20 : decode cX10_image 20 = .ok (.aload_n 0, 1) := by decide +kernel
theorem dX10_image_21 : decode cX10_image 21 = .ok (.getfield 16, 3) := by decide +kernel
theorem dX10_image_24 : decode cX10_image 24 = .ok (.iload_n 1, 1) := by decide +kernel
theorem dX10_image_25 : decode cX10_image 25 = .ok (.new 7, 3) := by decide +kernel
theorem dX10_image_28 : decode cX10_image 28 = .ok (.dup, 1) := by decide +kernel
theorem dX10_image_29 : decode cX10_image 29 = .ok (.invokespecial 9, 3) := by decide +kernel
theorem dX10_image_32 : decode cX10_image 32 = .ok (.aastore, 1) := by decide +kernel
theorem dX10_image_33 : decode cX10_image 33 = .ok (.aload_n 0, 1) := by decide +kernel
theorem dX10_image_34 : decode cX10_image 34 = .ok (.getfield 16, 3) := by decide +kernel
theorem dX10_image_37 : decode cX10_image 37 = .ok (.iload_n 1, 1) := by decide +kernel
theorem dX10_image_38 : decode cX10_image 38 = .ok (.aaload, 1) := by decide +kernel
theorem dX10_image_39 : decode cX10_image 39 = .ok (.aload_n 0, 1) := by decide +kernel
theorem dX10_image_40 : decode cX10_image 40 = .ok (.getfield 10, 3) := by decide +kernel
theorem dX10_image_43 : decode cX10_image 43 = .ok (.invokevirtual 214, 3) := by decide +kernel
theorem dX10_image_46 : decode cX10_image 46 = .ok (.iconst 1, 1) := by decide +kernel
theorem dX10_image_47 : decode cX10_image 47 = .ok (.ireturn, 1) := by decide +kernel
theorem dX10_again_0 : decode cX10_again 0 = .ok (.iload_n 1, 1) := by decide +kernel
theorem dX10_again_1 : decode cX10_again 1 = .ok (.ifCond .lt 17, 3) := by decide +kernel
theorem dX10_again_4 : decode cX10_again 4 = .ok (.iload_n 1, 1) := by decide +kernel
theorem dX10_again_5 : decode cX10_again 5 = .ok (.iconst 3, 1) := by decide +kernel
theorem dX10_again_6 : decode cX10_again 6 = .ok (.if_icmp .ge 12, 3) := by decide +kernel
theorem dX10_again_9 : decode cX10_again 9 = .ok (.aload_n 0, 1) := by decide +kernel
theorem dX10_again_10 : decode cX10_again 10 = .ok (.getfield 16, 3) := by decide +kernel
theorem dX10_again_13 : decode cX10_again 13 = .ok (.iload_n 1, 1) := by decide +kernel
theorem dX10_again_14 : decode cX10_again 14 = .ok (.aaload, 1) := by decide +kernel
theorem dX10_again_15 : decode cX10_again 15 = .ok (.ifnonnull 5, 3) := by decide +kernel
theorem dX10_again_18 : decode cX10_again 18 = .ok (.iconst 0, 1) := by decide +kernel
theorem dX10_again_19 : decode cX10_again 19 = .ok (.ireturn, 1) := by decide +kernel
theorem dX10_again_20 : decode cX10_again 20 = .ok (.aload_n 0, 1) := by decide +kernel
theorem dX10_again_21 : decode cX10_again 21 = .ok (.getfield 10, 3) := by decide +kernel
theorem dX10_again_24 : decode cX10_again 24 = .ok (.aload_n 0, 1) := by decide +kernel
theorem dX10_again_25 : decode cX10_again 25 = .ok (.getfield 16, 3) := by decide +kernel
theorem dX10_again_28 : decode cX10_again 28 = .ok (.iload_n 1, 1) := by decide +kernel
theorem dX10_again_29 : decode cX10_again 29 = .ok (.aaload, 1) := by decide +kernel
theorem dX10_again_30 : decode cX10_again 30 = .ok (.invokevirtual 214, 3) := by decide +kernel
theorem dX10_again_33 : decode cX10_again 33 = .ok (.iconst 1, 1) := by decide +kernel
theorem dX10_again_34 : decode cX10_again 34 = .ok (.ireturn, 1) := by decide +kernel
theorem dX10_numberOf_0 : decode cX10_numberOf 0 = .ok (.iload_n 2, 1) := by decide +kernel
theorem dX10_numberOf_1 : decode cX10_numberOf 1 = .ok (.ifCond .lt 14, 3) := by decide +kernel
theorem dX10_numberOf_4 : decode cX10_numberOf 4 = .ok (.iload_n 2, 1) := by decide +kernel
theorem dX10_numberOf_5 : decode cX10_numberOf 5 = .ok (.iload_n 1, 1) := by decide +kernel
theorem dX10_numberOf_6 : decode cX10_numberOf 6 = .ok (.if_icmp .ge 9, 3) := by decide +kernel
theorem dX10_numberOf_9 : decode cX10_numberOf 9 = .ok (.aload_n 0, 1) := by decide +kernel
theorem dX10_numberOf_10 : decode cX10_numberOf 10 = .ok (.iload_n 2, 1) := by decide +kernel
theorem dX10_numberOf_11 : decode cX10_numberOf 11 = .ok (.iaload, 1) := by decide +kernel
theorem dX10_numberOf_12 : decode cX10_numberOf 12 = .ok (.goto 4, 3) := by decide +kernel
theorem dX10_numberOf_15 : decode cX10_numberOf 15 = .ok (.iconst 0, 1) := by decide +kernel
theorem dX10_numberOf_16 : decode cX10_numberOf 16 = .ok (.ireturn, 1) := by decide +kernel
theorem dJ7_fill_53178_0 : decode cJ7_fill_53178 0 = .ok (.iconst 0, 1) := by decide +kernel
theorem dJ7_fill_53178_1 : decode cJ7_fill_53178 1 = .ok (.istore_n 2, 1) := by decide +kernel
theorem dJ7_fill_53178_2 : decode cJ7_fill_53178 2 = .ok (.aload_n 0, 1) := by decide +kernel
theorem dJ7_fill_53178_3 : decode cJ7_fill_53178 3 = .ok (.arraylength, 1) := by decide +kernel
theorem dJ7_fill_53178_4 : decode cJ7_fill_53178 4 = .ok (.istore_n 3, 1) := by decide +kernel
theorem dJ7_fill_53178_5 : decode cJ7_fill_53178 5 = .ok (.iload_n 2, 1) := by decide +kernel
theorem dJ7_fill_53178_6 : decode cJ7_fill_53178 6 = .ok (.iload_n 3, 1) := by decide +kernel
theorem dJ7_fill_53178_7 : decode cJ7_fill_53178 7 = .ok (.if_icmp .ge 13, 3) := by decide +kernel
theorem dJ7_fill_53178_10 : decode cJ7_fill_53178 10 = .ok (.aload_n 0, 1) := by decide +kernel
theorem dJ7_fill_53178_11 : decode cJ7_fill_53178 11 = .ok (.iload_n 2, 1) := by decide +kernel
theorem dJ7_fill_53178_12 : decode cJ7_fill_53178 12 = .ok (.iload_n 1, 1) := by decide +kernel
theorem dJ7_fill_53178_13 : decode cJ7_fill_53178 13 = .ok (.iastore, 1) := by decide +kernel
theorem dJ7_fill_53178_14 : decode cJ7_fill_53178 14 = .ok (.iinc 2 1, 3) := by decide +kernel
theorem dJ7_fill_53178_17 : decode cJ7_fill_53178 17 = .ok (.goto (-12), 3) := by decide +kernel
theorem dJ7_fill_53178_20 : decode cJ7_fill_53178 20 = .ok (.return_, 1) := by decide +kernel
