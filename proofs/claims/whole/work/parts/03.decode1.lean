theorem dX0_init_0 : decode cX0_init 0 = .ok (.aload_n 0, 1) := by decide +kernel
theorem dX0_init_1 : decode cX0_init 1 = .ok (.invokespecial 3, 3) := by decide +kernel
theorem dX0_init_4 : decode cX0_init 4 = .ok (.aload_n 0, 1) := by decide +kernel
theorem dX0_init_5 : decode cX0_init 5 = .ok (.bipush 32, 2) := by decide +kernel
theorem dX0_init_7 : decode cX0_init 7 = .ok (.newarray .int, 2) := by decide +kernel
theorem dX0_init_9 : decode cX0_init 9 = .ok (.putfield 9, 3) := by decide +kernel
theorem dX0_init_12 : decode cX0_init 12 = .ok (.aload_n 0, 1) := by decide +kernel
theorem dX0_init_13 : decode cX0_init 13 = .ok (.iconst 1, 1) := by decide +kernel
theorem dX0_init_14 : decode cX0_init 14 = .ok (.putfield 15, 3) := by decide +kernel
theorem dX0_init_17 : decode cX0_init 17 = .ok (.return_, 1) := by decide +kernel
theorem dX0_gather_0 : decode cX0_gather 0 = .ok (.aload_n 0, 1) := by decide +kernel
theorem dX0_gather_1 : decode cX0_gather 1 = .ok (.iconst 0, 1) := by decide +kernel
theorem dX0_gather_2 : decode cX0_gather 2 = .ok (.putfield 19, 3) := by decide +kernel
theorem dX0_gather_5 : decode cX0_gather 5 = .ok (.aload_n 0, 1) := by decide +kernel
theorem dX0_gather_6 : decode cX0_gather 6 = .ok (.iconst 0, 1) := by decide +kernel
theorem dX0_gather_7 : decode cX0_gather 7 = .ok (.putfield 15, 3) := by decide +kernel
theorem dX0_gather_10 : decode cX0_gather 10 = .ok (.iconst 0, 1) := by decide +kernel
theorem dX0_gather_11 : decode cX0_gather 11 = .ok (.istore 4, 2) := by decide +kernel
theorem dX0_gather_13 : decode cX0_gather 13 = .ok (.iload 4, 2) := by decide +kernel
theorem dX0_gather_15 : decode cX0_gather 15 = .ok (.aload_n 1, 1) := by decide +kernel
theorem dX0_gather_16 : decode cX0_gather 16 = .ok (.getfield 23, 3) := by decide +kernel
theorem dX0_gather_19 : decode cX0_gather 19 = .ok (.if_icmp .ge 85, 3) := by decide +kernel
theorem dX0_gather_22 : decode cX0_gather 22 = .ok (.iload 4, 2) := by decide +kernel
theorem dX0_gather_24 : decode cX0_gather 24 = .ok (.iconst 1, 1) := by decide +kernel
theorem dX0_gather_25 : decode cX0_gather 25 = .ok (.iadd, 1) := by decide +kernel
theorem dX0_gather_26 : decode cX0_gather 26 = .ok (.istore 5, 2) := by decide +kernel
theorem dX0_gather_28 : decode cX0_gather 28 = .ok (.iload 5, 2) := by decide +kernel
theorem dX0_gather_30 : decode cX0_gather 30 = .ok (.aload_n 1, 1) := by decide +kernel
theorem dX0_gather_31 : decode cX0_gather 31 = .ok (.getfield 23, 3) := by decide +kernel
theorem dX0_gather_34 : decode cX0_gather 34 = .ok (.if_icmp .ge 64, 3) := by decide +kernel
theorem dX0_gather_37 : decode cX0_gather 37 = .ok (.aload_n 1, 1) := by decide +kernel
theorem dX0_gather_38 : decode cX0_gather 38 = .ok (.getfield 26, 3) := by decide +kernel
theorem dX0_gather_41 : decode cX0_gather 41 = .ok (.iload 4, 2) := by decide +kernel
theorem dX0_gather_43 : decode cX0_gather 43 = .ok (.iaload, 1) := by decide +kernel
theorem dX0_gather_44 : decode cX0_gather 44 = .ok (.aload_n 1, 1) := by decide +kernel
theorem dX0_gather_45 : decode cX0_gather 45 = .ok (.getfield 26, 3) := by decide +kernel
theorem dX0_gather_48 : decode cX0_gather 48 = .ok (.iload 5, 2) := by decide +kernel
theorem dX0_gather_50 : decode cX0_gather 50 = .ok (.iaload, 1) := by decide +kernel
theorem dX0_gather_51 : decode cX0_gather 51 = .ok (.ixor, 1) := by decide +kernel
theorem dX0_gather_52 : decode cX0_gather 52 = .ok (.iload_n 3, 1) := by decide +kernel
theorem dX0_gather_53 : decode cX0_gather 53 = .ok (.iand, 1) := by decide +kernel
theorem dX0_gather_54 : decode cX0_gather 54 = .ok (.ifCond .eq 7, 3) := by decide +kernel
theorem dX0_gather_57 : decode cX0_gather 57 = .ok (.iconst 1, 1) := by decide +kernel
theorem dX0_gather_58 : decode cX0_gather 58 = .ok (.goto 4, 3) := by decide +kernel
theorem dX0_gather_61 : decode cX0_gather 61 = .ok (.iconst 0, 1) := by decide +kernel
theorem dX0_gather_62 : decode cX0_gather 62 = .ok (.istore 6, 2) := by decide +kernel
theorem dX0_gather_64 : decode cX0_gather 64 = .ok (.iload_n 2, 1) := by decide +kernel
theorem dX0_gather_65 : decode cX0_gather 65 = .ok (.ifCond .ne 8, 3) := by decide +kernel
theorem dX0_gather_68 : decode cX0_gather 68 = .ok (.iload 6, 2) := by decide +kernel
theorem dX0_gather_70 : decode cX0_gather 70 = .ok (.ifCond .eq 22, 3) := by decide +kernel
theorem dX0_gather_73 : decode cX0_gather 73 = .ok (.aload_n 0, 1) := by decide +kernel
theorem dX0_gather_74 : decode cX0_gather 74 = .ok (.aload_n 1, 1) := by decide +kernel
theorem dX0_gather_75 : decode cX0_gather 75 = .ok (.getfield 29, 3) := by decide +kernel
theorem dX0_gather_78 : decode cX0_gather 78 = .ok (.iload 4, 2) := by decide +kernel
theorem dX0_gather_80 : decode cX0_gather 80 = .ok (.iaload, 1) := by decide +kernel
theorem dX0_gather_81 : decode cX0_gather 81 = .ok (.aload_n 1, 1) := by decide +kernel
theorem dX0_gather_82 : decode cX0_gather 82 = .ok (.getfield 29, 3) := by decide +kernel
theorem dX0_gather_85 : decode cX0_gather 85 = .ok (.iload 5, 2) := by decide +kernel
theorem dX0_gather_87 : decode cX0_gather 87 = .ok (.iaload, 1) := by decide +kernel
theorem dX0_gather_88 : decode cX0_gather 88 = .ok (.ixor, 1) := by decide +kernel
theorem dX0_gather_89 : decode cX0_gather 89 = .ok (.invokevirtual 32, 3) := by decide +kernel
theorem dX0_gather_92 : decode cX0_gather 92 = .ok (.iinc 5 1, 3) := by decide +kernel
theorem dX0_gather_95 : decode cX0_gather 95 = .ok (.goto (-67), 3) := by decide +kernel
theorem dX0_gather_98 : decode cX0_gather 98 = .ok (.iinc 4 1, 3) := by decide +kernel
theorem dX0_gather_101 : decode cX0_gather 101 = .ok (.goto (-88), 3) := by decide +kernel
theorem dX0_gather_104 : decode cX0_gather 104 = .ok (.return_, 1) := by decide +kernel
theorem dX0_add_0 : decode cX0_add 0 = .ok (.iconst 0, 1) := by decide +kernel
theorem dX0_add_1 : decode cX0_add 1 = .ok (.istore_n 2, 1) := by decide +kernel
theorem dX0_add_2 : decode cX0_add 2 = .ok (.iload_n 2, 1) := by decide +kernel
theorem dX0_add_3 : decode cX0_add 3 = .ok (.aload_n 0, 1) := by decide +kernel
theorem dX0_add_4 : decode cX0_add 4 = .ok (.getfield 19, 3) := by decide +kernel
theorem dX0_add_7 : decode cX0_add 7 = .ok (.if_icmp .ge 23, 3) := by decide +kernel
theorem dX0_add_10 : decode cX0_add 10 = .ok (.aload_n 0, 1) := by decide +kernel
theorem dX0_add_11 : decode cX0_add 11 = .ok (.getfield 9, 3) := by decide +kernel
theorem dX0_add_14 : decode cX0_add 14 = .ok (.iload_n 2, 1) := by decide +kernel
theorem dX0_add_15 : decode cX0_add 15 = .ok (.iaload, 1) := by decide +kernel
theorem dX0_add_16 : decode cX0_add 16 = .ok (.iload_n 1, 1) := by decide +kernel
theorem dX0_add_17 : decode cX0_add 17 = .ok (.iconst (-1), 1) := by decide +kernel
theorem dX0_add_18 : decode cX0_add 18 = .ok (.ixor, 1) := by decide +kernel
theorem dX0_add_19 : decode cX0_add 19 = .ok (.iand, 1) := by decide +kernel
theorem dX0_add_20 : decode cX0_add 20 = .ok (.ifCond .ne 4, 3) := by decide +kernel
theorem dX0_add_23 : decode cX0_add 23 = .ok (.return_, 1) := by decide +kernel
theorem dX0_add_24 : decode cX0_add 24 = .ok (.iinc 2 1, 3) := by decide +kernel
theorem dX0_add_27 : decode cX0_add 27 = .ok (.goto (-25), 3) := by decide +kernel
theorem dX0_add_30 : decode cX0_add 30 = .ok (.aload_n 0, 1) := by decide +kernel
theorem dX0_add_31 : decode cX0_add 31 = .ok (.getfield 19, 3) := by decide +kernel
theorem dX0_add_34 : decode cX0_add 34 = .ok (.aload_n 0, 1) := by decide +kernel
theorem dX0_add_35 : decode cX0_add 35 = .ok (.getfield 9, 3) := by decide +kernel
theorem dX0_add_38 : decode cX0_add 38 = .ok (.arraylength, 1) := by decide +kernel
theorem dX0_add_39 : decode cX0_add 39 = .ok (.if_icmp .lt 21, 3) := by decide +kernel
theorem dX0_add_42 : decode cX0_add 42 = .ok (.aload_n 0, 1) := by decide +kernel
theorem dX0_add_43 : decode cX0_add 43 = .ok (.aload_n 0, 1) := by decide +kernel
theorem dX0_add_44 : decode cX0_add 44 = .ok (.getfield 9, 3) := by decide +kernel
theorem dX0_add_47 : decode cX0_add 47 = .ok (.iconst 2, 1) := by decide +kernel
theorem dX0_add_48 : decode cX0_add 48 = .ok (.aload_n 0, 1) := by decide +kernel
theorem dX0_add_49 : decode cX0_add 49 = .ok (.getfield 9, 3) := by decide +kernel
theorem dX0_add_52 : decode cX0_add 52 = .ok (.arraylength, 1) := by decide +kernel
theorem dX0_add_53 : decode cX0_add 53 = .ok (.imul, 1) := by decide +kernel
theorem dX0_add_54 : decode cX0_add 54 = .ok (.invokestatic 36, 3) := by decide +kernel
theorem dX0_add_57 : decode cX0_add 57 = .ok (.putfield 9, 3) := by decide +kernel
theorem dX0_add_60 : decode cX0_add 60 = .ok (.aload_n 0, 1) := by decide +kernel
theorem dX0_add_61 : decode cX0_add 61 = .ok (.getfield 9, 3) := by decide +kernel
theorem dX0_add_64 : decode cX0_add 64 = .ok (.aload_n 0, 1) := by decide +kernel
theorem dX0_add_65 : decode cX0_add 65 = .ok (.getfield 19, 3) := by decide +kernel
theorem dX0_add_68 : decode cX0_add 68 = .ok (.iload_n 1, 1) := by decide +kernel
theorem dX0_add_69 : decode cX0_add 69 = .ok (.iastore, 1) := by decide +kernel
theorem dX0_add_70 : decode cX0_add 70 = .ok (.aload_n 0, 1) := by decide +kernel
theorem dX0_add_71 : decode cX0_add 71 = .ok (.dup, 1) := by decide +kernel
theorem dX0_add_72 : decode cX0_add 72 = .ok (.getfield 19, 3) := by decide +kernel
theorem dX0_add_75 : decode cX0_add 75 = .ok (.iconst 1, 1) := by decide +kernel
theorem dX0_add_76 : decode cX0_add 76 = .ok (.iadd, 1) := by decide +kernel
theorem dX0_add_77 : decode cX0_add 77 = .ok (.putfield 19, 3) := by decide +kernel
theorem dX0_add_80 : decode cX0_add 80 = .ok (.return_, 1) := by decide +kernel
theorem dX0_allMetBy_0 : decode cX0_allMetBy 0 = .ok (.aload_n 0, 1) := by decide +kernel
theorem dX0_allMetBy_1 : decode cX0_allMetBy 1 = .ok (.iload_n 1, 1) := by decide +kernel
theorem dX0_allMetBy_2 : decode cX0_allMetBy 2 = .ok (.iconst 0, 1) := by decide +kernel
theorem dX0_allMetBy_3 : decode cX0_allMetBy 3 = .ok (.invokevirtual 42, 3) := by decide +kernel
theorem dX0_allMetBy_6 : decode cX0_allMetBy 6 = .ok (.aload_n 0, 1) := by decide +kernel
theorem dX0_allMetBy_7 : decode cX0_allMetBy 7 = .ok (.getfield 19, 3) := by decide +kernel
theorem dX0_allMetBy_10 : decode cX0_allMetBy 10 = .ok (.if_icmp .ne 7, 3) := by decide +kernel
theorem dX0_allMetBy_13 : decode cX0_allMetBy 13 = .ok (.iconst 1, 1) := by decide +kernel
theorem dX0_allMetBy_14 : decode cX0_allMetBy 14 = .ok (.goto 4, 3) := by decide +kernel
theorem dX0_allMetBy_17 : decode cX0_allMetBy 17 = .ok (.iconst 0, 1) := by decide +kernel
theorem dX0_allMetBy_18 : decode cX0_allMetBy 18 = .ok (.ireturn, 1) := by decide +kernel
theorem dX0_firstNotMetBy_0 : decode cX0_firstNotMetBy 0 = .ok (.iload_n 2, 1) := by decide +kernel
theorem dX0_firstNotMetBy_1 : decode cX0_firstNotMetBy 1 = .ok (.istore_n 3, 1) := by decide +kernel
theorem dX0_firstNotMetBy_2 : decode cX0_firstNotMetBy 2 = .ok (.iload_n 3, 1) := by decide +kernel
theorem dX0_firstNotMetBy_3 : decode cX0_firstNotMetBy 3 = .ok (.aload_n 0, 1) := by decide +kernel
theorem dX0_firstNotMetBy_4 : decode cX0_firstNotMetBy 4 = .ok (.getfield 19, 3) := by decide +kernel
theorem dX0_firstNotMetBy_7 : decode cX0_firstNotMetBy 7 = .ok (.if_icmp .ge 22, 3) := by decide +kernel
theorem dX0_firstNotMetBy_10 : decode cX0_firstNotMetBy 10 = .ok (.aload_n 0, 1) := by decide +kernel
theorem dX0_firstNotMetBy_11 : decode cX0_firstNotMetBy 11 = .ok (.getfield 9, 3) := by decide +kernel
theorem dX0_firstNotMetBy_14 : decode cX0_firstNotMetBy 14 = .ok (.iload_n 3, 1) := by decide +kernel
theorem dX0_firstNotMetBy_15 : decode cX0_firstNotMetBy 15 = .ok (.iaload, 1) := by decide +kernel
theorem dX0_firstNotMetBy_16 : decode cX0_firstNotMetBy 16 = .ok (.iload_n 1, 1) := by decide +kernel
theorem dX0_firstNotMetBy_17 : decode cX0_firstNotMetBy 17 = .ok (.iand, 1) := by decide +kernel
theorem dX0_firstNotMetBy_18 : decode cX0_firstNotMetBy 18 = .ok (.ifCond .ne 5, 3) := by decide +kernel
theorem dX0_firstNotMetBy_21 : decode cX0_firstNotMetBy 21 = .ok (.iload_n 3, 1) := by decide +kernel
theorem dX0_firstNotMetBy_22 : decode cX0_firstNotMetBy 22 = .ok (.ireturn, 1) := by decide +kernel
theorem dX0_firstNotMetBy_23 : decode cX0_firstNotMetBy 23 = .ok (.iinc 3 1, 3) := by decide +kernel
theorem dX0_firstNotMetBy_26 : decode cX0_firstNotMetBy 26 = .ok (.goto (-24), 3) := by decide +kernel
theorem dX0_firstNotMetBy_29 : decode cX0_firstNotMetBy 29 = .ok (.aload_n 0, 1) := by decide +kernel
theorem dX0_firstNotMetBy_30 : decode cX0_firstNotMetBy 30 = .ok (.getfield 19, 3) := by decide +kernel
theorem dX0_firstNotMetBy_33 : decode cX0_firstNotMetBy 33 = .ok (.ireturn, 1) := by decide +kernel
theorem dX1_init_0 : decode cX1_init 0 = .ok (.aload_n 0, 1) := by decide +kernel
theorem dX1_init_1 : decode cX1_init 1 = .ok (.invokespecial 3, 3) := by decide +kernel
theorem dX1_init_4 : decode cX1_init 4 = .ok (.aload_n 0, 1) := by decide +kernel
theorem dX1_init_5 : decode cX1_init 5 = .ok (.bipush 16, 2) := by decide +kernel
theorem dX1_init_7 : decode cX1_init 7 = .ok (.newarray .int, 2) := by decide +kernel
theorem dX1_init_9 : decode cX1_init 9 = .ok (.putfield 9, 3) := by decide +kernel
theorem dX1_init_12 : decode cX1_init 12 = .ok (.aload_n 0, 1) := by decide +kernel
theorem dX1_init_13 : decode cX1_init 13 = .ok (.bipush 16, 2) := by decide +kernel
theorem dX1_init_15 : decode cX1_init 15 = .ok (.newarray .int, 2) := by decide +kernel
theorem dX1_init_17 : decode cX1_init 17 = .ok (.putfield 15, 3) := by decide +kernel
theorem dX1_init_20 : decode cX1_init 20 = .ok (.aload_n 0, 1) := by decide +kernel
theorem dX1_init_21 : decode cX1_init 21 = .ok (.bipush 16, 2) := by decide +kernel
theorem dX1_init_23 : decode cX1_init 23 = .ok (.newarray .int, 2) := by decide +kernel
theorem dX1_init_25 : decode cX1_init 25 = .ok (.putfield 18, 3) := by decide +kernel
theorem dX1_init_28 : decode cX1_init 28 = .ok (.aload_n 0, 1) := by decide +kernel
theorem dX1_init_29 : decode cX1_init 29 = .ok (.bipush 12, 2) := by decide +kernel
theorem dX1_init_31 : decode cX1_init 31 = .ok (.newarray .int, 2) := by decide +kernel
theorem dX1_init_33 : decode cX1_init 33 = .ok (.putfield 21, 3) := by decide +kernel
theorem dX1_init_36 : decode cX1_init 36 = .ok (.aload_n 0, 1) := by decide +kernel
theorem dX1_init_37 : decode cX1_init 37 = .ok (.iconst 2, 1) := by decide +kernel
theorem dX1_init_38 : decode cX1_init 38 = .ok (.putfield 24, 3) := by decide +kernel
theorem dX1_init_41 : decode cX1_init 41 = .ok (.return_, 1) := by decide +kernel
theorem dX1_restart_0 : decode cX1_restart 0 = .ok (.aload_n 0, 1) := by decide +kernel
theorem dX1_restart_1 : decode cX1_restart 1 = .ok (.iload_n 1, 1) := by decide +kernel
theorem dX1_restart_2 : decode cX1_restart 2 = .ok (.putfield 24, 3) := by decide +kernel
theorem dX1_restart_5 : decode cX1_restart 5 = .ok (.aload_n 0, 1) := by decide +kernel
theorem dX1_restart_6 : decode cX1_restart 6 = .ok (.iconst 0, 1) := by decide +kernel
theorem dX1_restart_7 : decode cX1_restart 7 = .ok (.putfield 28, 3) := by decide +kernel
theorem dX1_restart_10 : decode cX1_restart 10 = .ok (.aload_n 0, 1) := by decide +kernel
theorem dX1_restart_11 : decode cX1_restart 11 = .ok (.iconst 0, 1) := by decide +kernel
theorem dX1_restart_12 : decode cX1_restart 12 = .ok (.putfield 31, 3) := by decide +kernel
theorem dX1_restart_15 : decode cX1_restart 15 = .ok (.aload_n 0, 1) := by decide +kernel
theorem dX1_restart_16 : decode cX1_restart 16 = .ok (.iconst 0, 1) := by decide +kernel
theorem dX1_restart_17 : decode cX1_restart 17 = .ok (.putfield 34, 3) := by decide +kernel
theorem dX1_restart_20 : decode cX1_restart 20 = .ok (.aload_n 0, 1) := by decide +kernel
theorem dX1_restart_21 : decode cX1_restart 21 = .ok (.getfield 21, 3) := by decide +kernel
theorem dX1_restart_24 : decode cX1_restart 24 = .ok (.iconst 0, 1) := by decide +kernel
theorem dX1_restart_25 : decode cX1_restart 25 = .ok (.invokestatic 37, 3) := by decide +kernel
theorem dX1_restart_28 : decode cX1_restart 28 = .ok (.return_, 1) := by decide +kernel
theorem dX1_hasNode_0 : decode cX1_hasNode 0 = .ok (.iload_n 1, 1) := by decide +kernel
theorem dX1_hasNode_1 : decode cX1_hasNode 1 = .ok (.ifCond .lt 15, 3) := by decide +kernel
theorem dX1_hasNode_4 : decode cX1_hasNode 4 = .ok (.iload_n 1, 1) := by decide +kernel
theorem dX1_hasNode_5 : decode cX1_hasNode 5 = .ok (.aload_n 0, 1) := by decide +kernel
theorem dX1_hasNode_6 : decode cX1_hasNode 6 = .ok (.getfield 24, 3) := by decide +kernel
theorem dX1_hasNode_9 : decode cX1_hasNode 9 = .ok (.if_icmp .ge 7, 3) := by decide +kernel
theorem dX1_hasNode_12 : decode cX1_hasNode 12 = .ok (.iconst 1, 1) := by decide +kernel
theorem dX1_hasNode_13 : decode cX1_hasNode 13 = .ok (.goto 4, 3) := by decide +kernel
theorem dX1_hasNode_16 : decode cX1_hasNode 16 = .ok (.iconst 0, 1) := by decide +kernel
theorem dX1_hasNode_17 : decode cX1_hasNode 17 = .ok (.ireturn, 1) := by decide +kernel
theorem dX1_hasStep_0 : decode cX1_hasStep 0 = .ok (.iload_n 1, 1) := by decide +kernel
theorem dX1_hasStep_1 : decode cX1_hasStep 1 = .ok (.ifCond .lt 15, 3) := by decide +kernel
theorem dX1_hasStep_4 : decode cX1_hasStep 4 = .ok (.iload_n 1, 1) := by decide +kernel
theorem dX1_hasStep_5 : decode cX1_hasStep 5 = .ok (.aload_n 0, 1) := by decide +kernel
theorem dX1_hasStep_6 : decode cX1_hasStep 6 = .ok (.getfield 28, 3) := by decide +kernel
theorem dX1_hasStep_9 : decode cX1_hasStep 9 = .ok (.if_icmp .ge 7, 3) := by decide +kernel
theorem dX1_hasStep_12 : decode cX1_hasStep 12 = .ok (.iconst 1, 1) := by decide +kernel
theorem dX1_hasStep_13 : decode cX1_hasStep 13 = .ok (.goto 4, 3) := by decide +kernel
theorem dX1_hasStep_16 : decode cX1_hasStep 16 = .ok (.iconst 0, 1) := by decide +kernel
theorem dX1_hasStep_17 : decode cX1_hasStep 17 = .ok (.ireturn, 1) := by decide +kernel
theorem dX1_addStep_0 : decode cX1_addStep 0 = .ok (.aload_n 0, 1) := by decide +kernel
theorem dX1_addStep_1 : decode cX1_addStep 1 = .ok (.getfield 28, 3) := by decide +kernel
theorem dX1_addStep_4 : decode cX1_addStep 4 = .ok (.istore 4, 2) := by decide +kernel
theorem dX1_addStep_6 : decode cX1_addStep 6 = .ok (.aload_n 0, 1) := by decide +kernel
theorem dX1_addStep_7 : decode cX1_addStep 7 = .ok (.getfield 9, 3) := by decide +kernel
theorem dX1_addStep_10 : decode cX1_addStep 10 = .ok (.iload 4, 2) := by decide +kernel
theorem dX1_addStep_12 : decode cX1_addStep 12 = .ok (.iload_n 1, 1) := by decide +kernel
theorem dX1_addStep_13 : decode cX1_addStep 13 = .ok (.iastore, 1) := by decide +kernel
theorem dX1_addStep_14 : decode cX1_addStep 14 = .ok (.aload_n 0, 1) := by decide +kernel
theorem dX1_addStep_15 : decode cX1_addStep 15 = .ok (.getfield 15, 3) := by decide +kernel
theorem dX1_addStep_18 : decode cX1_addStep 18 = .ok (.iload 4, 2) := by decide +kernel
theorem dX1_addStep_20 : decode cX1_addStep 20 = .ok (.iload_n 2, 1) := by decide +kernel
theorem dX1_addStep_21 : decode cX1_addStep 21 = .ok (.iastore, 1) := by decide +kernel
theorem dX1_addStep_22 : decode cX1_addStep 22 = .ok (.aload_n 0, 1) := by decide +kernel
theorem dX1_addStep_23 : decode cX1_addStep 23 = .ok (.getfield 18, 3) := by decide +kernel
theorem dX1_addStep_26 : decode cX1_addStep 26 = .ok (.iload 4, 2) := by decide +kernel
theorem dX1_addStep_28 : decode cX1_addStep 28 = .ok (.iload_n 3, 1) := by decide +kernel
theorem dX1_addStep_29 : decode cX1_addStep 29 = .ok (.iastore, 1) := by decide +kernel
theorem dX1_addStep_30 : decode cX1_addStep 30 = .ok (.aload_n 0, 1) := by decide +kernel
theorem dX1_addStep_31 : decode cX1_addStep 31 = .ok (.getfield 21, 3) := by decide +kernel
theorem dX1_addStep_34 : decode cX1_addStep 34 = .ok (.iload_n 1, 1) := by decide +kernel
theorem dX1_addStep_35 : decode cX1_addStep 35 = .ok (.dup2, 1) := by decide +kernel
theorem dX1_addStep_36 : decode cX1_addStep 36 = .ok (.iaload, 1) := by decide +kernel
theorem dX1_addStep_37 : decode cX1_addStep 37 = .ok (.iconst 1, 1) := by decide +kernel
theorem dX1_addStep_38 : decode cX1_addStep 38 = .ok (.iload 4, 2) := by decide +kernel
theorem dX1_addStep_40 : decode cX1_addStep 40 = .ok (.ishl, 1) := by decide +kernel
theorem dX1_addStep_41 : decode cX1_addStep 41 = .ok (.ior, 1) := by decide +kernel
theorem dX1_addStep_42 : decode cX1_addStep 42 = .ok (.iastore, 1) := by decide +kernel
theorem dX1_addStep_43 : decode cX1_addStep 43 = .ok (.aload_n 0, 1) := by decide +kernel
theorem dX1_addStep_44 : decode cX1_addStep 44 = .ok (.dup, 1) := by decide +kernel
theorem dX1_addStep_45 : decode cX1_addStep 45 = .ok (.getfield 28, 3) := by decide +kernel
theorem dX1_addStep_48 : decode cX1_addStep 48 = .ok (.iconst 1, 1) := by decide +kernel
theorem dX1_addStep_49 : decode cX1_addStep 49 = .ok (.iadd, 1) := by decide +kernel
theorem dX1_addStep_50 : decode cX1_addStep 50 = .ok (.putfield 28, 3) := by decide +kernel
theorem dX1_addStep_53 : decode cX1_addStep 53 = .ok (.iload 4, 2) := by decide +kernel
theorem dX1_addStep_55 : decode cX1_addStep 55 = .ok (.ireturn, 1) := by decide +kernel
theorem dX1_allSteps_0 : decode cX1_allSteps 0 = .ok (.iconst 1, 1) := by decide +kernel
theorem dX1_allSteps_1 : decode cX1_allSteps 1 = .ok (.aload_n 0, 1) := by decide +kernel
theorem dX1_allSteps_2 : decode cX1_allSteps 2 = .ok (.getfield 28, 3) := by decide +kernel
theorem dX1_allSteps_5 : decode cX1_allSteps 5 = .ok (.ishl, 1) := by decide +kernel
theorem dX1_allSteps_6 : decode cX1_allSteps 6 = .ok (.iconst 1, 1) := by decide +kernel
theorem dX1_allSteps_7 : decode cX1_allSteps 7 = .ok (.isub, 1) := by decide +kernel
theorem dX1_allSteps_8 : decode cX1_allSteps 8 = .ok (.ireturn, 1) := by decide +kernel
theorem dX1_stepsFromBelow_0 : decode cX1_stepsFromBelow 0 = .ok (.iconst 0, 1) := by decide +kernel
theorem dX1_stepsFromBelow_1 : decode cX1_stepsFromBelow 1 = .ok (.istore_n 2, 1) := by decide +kernel
theorem dX1_stepsFromBelow_2 : decode cX1_stepsFromBelow 2 = .ok (.iconst 0, 1) := by decide +kernel
theorem dX1_stepsFromBelow_3 : decode cX1_stepsFromBelow 3 = .ok (.istore_n 3, 1) := by decide +kernel
theorem dX1_stepsFromBelow_4 : decode cX1_stepsFromBelow 4 = .ok (.iload_n 3, 1) := by decide +kernel
theorem dX1_stepsFromBelow_5 : decode cX1_stepsFromBelow 5 = .ok (.iload_n 1, 1) := by decide +kernel
theorem dX1_stepsFromBelow_6 : decode cX1_stepsFromBelow 6 = .ok (.if_icmp .ge 26, 3) := by decide +kernel
theorem dX1_stepsFromBelow_9 : decode cX1_stepsFromBelow 9 = .ok (.iload_n 3, 1) := by decide +kernel
theorem dX1_stepsFromBelow_10 : decode cX1_stepsFromBelow 10 = .ok (.aload_n 0, 1) := by decide +kernel
theorem dX1_stepsFromBelow_11 : decode cX1_stepsFromBelow 11 = .ok (.getfield 24, 3) := by decide +kernel
theorem dX1_stepsFromBelow_14 : decode cX1_stepsFromBelow 14 = .ok (.if_icmp .ge 18, 3) := by decide +kernel
theorem dX1_stepsFromBelow_17 : decode cX1_stepsFromBelow 17 = .ok (.iload_n 2, 1) := by decide +kernel
theorem dX1_stepsFromBelow_18 : decode cX1_stepsFromBelow 18 = .ok (.aload_n 0, 1) := by decide +kernel
theorem dX1_stepsFromBelow_19 : decode cX1_stepsFromBelow 19 = .ok (.getfield 21, 3) := by decide +kernel
theorem dX1_stepsFromBelow_22 : decode cX1_stepsFromBelow 22 = .ok (.iload_n 3, 1) := by decide +kernel
theorem dX1_stepsFromBelow_23 : decode cX1_stepsFromBelow 23 = .ok (.iaload, 1) := by decide +kernel
theorem dX1_stepsFromBelow_24 : decode cX1_stepsFromBelow 24 = .ok (.ior, 1) := by decide +kernel
theorem dX1_stepsFromBelow_25 : decode cX1_stepsFromBelow 25 = .ok (.istore_n 2, 1) := by decide +kernel
theorem dX1_stepsFromBelow_26 : decode cX1_stepsFromBelow 26 = .ok (.iinc 3 1, 3) := by decide +kernel
theorem dX1_stepsFromBelow_29 : decode cX1_stepsFromBelow 29 = .ok (.goto (-25), 3) := by decide +kernel
theorem dX1_stepsFromBelow_32 : decode cX1_stepsFromBelow 32 = .ok (.iload_n 2, 1) := by decide +kernel
theorem dX1_stepsFromBelow_33 : decode cX1_stepsFromBelow 33 = .ok (.ireturn, 1) := by decide +kernel
theorem dX1_priceOf_0 : decode cX1_priceOf 0 = .ok (.lconst 0, 1) := by decide +kernel
theorem dX1_priceOf_1 : decode cX1_priceOf 1 = .ok (.lstore_n 2, 1) := by decide +kernel
theorem dX1_priceOf_2 : decode cX1_priceOf 2 = .ok (.iconst 0, 1) := by decide +kernel
theorem dX1_priceOf_3 : decode cX1_priceOf 3 = .ok (.istore 4, 2) := by decide +kernel
theorem dX1_priceOf_5 : decode cX1_priceOf 5 = .ok (.iload 4, 2) := by decide +kernel
theorem dX1_priceOf_7 : decode cX1_priceOf 7 = .ok (.aload_n 0, 1) := by decide +kernel
theorem dX1_priceOf_8 : decode cX1_priceOf 8 = .ok (.getfield 28, 3) := by decide +kernel
theorem dX1_priceOf_11 : decode cX1_priceOf 11 = .ok (.if_icmp .ge 31, 3) := by decide +kernel
theorem dX1_priceOf_14 : decode cX1_priceOf 14 = .ok (.iload_n 1, 1) := by decide +kernel
theorem dX1_priceOf_15 : decode cX1_priceOf 15 = .ok (.iload 4, 2) := by decide +kernel
theorem dX1_priceOf_17 : decode cX1_priceOf 17 = .ok (.invokestatic 43, 3) := by decide +kernel
theorem dX1_priceOf_20 : decode cX1_priceOf 20 = .ok (.ifCond .eq 16, 3) := by decide +kernel
theorem dX1_priceOf_23 : decode cX1_priceOf 23 = .ok (.lload_n 2, 1) := by decide +kernel
theorem dX1_priceOf_24 : decode cX1_priceOf 24 = .ok (.aload_n 0, 1) := by decide +kernel
theorem dX1_priceOf_25 : decode cX1_priceOf 25 = .ok (.getfield 18, 3) := by decide +kernel
theorem dX1_priceOf_28 : decode cX1_priceOf 28 = .ok (.iload 4, 2) := by decide +kernel
theorem dX1_priceOf_30 : decode cX1_priceOf 30 = .ok (.iaload, 1) := by decide +kernel
theorem dX1_priceOf_31 : decode cX1_priceOf 31 = .ok (.iconst 1, 1) := by decide +kernel
theorem dX1_priceOf_32 : decode cX1_priceOf 32 = .ok (.iadd, 1) := by decide +kernel
theorem dX1_priceOf_33 : decode cX1_priceOf 33 = .ok (.i2l, 1) := by decide +kernel
theorem dX1_priceOf_34 : decode cX1_priceOf 34 = .ok (.ladd, 1) := by decide +kernel
theorem dX1_priceOf_35 : decode cX1_priceOf 35 = .ok (.lstore_n 2, 1) := by decide +kernel
theorem dX1_priceOf_36 : decode cX1_priceOf 36 = .ok (.iinc 4 1, 3) := by decide +kernel
theorem dX1_priceOf_39 : decode cX1_priceOf 39 = .ok (.goto (-34), 3) := by decide +kernel
theorem dX1_priceOf_42 : decode cX1_priceOf 42 = .ok (.lload_n 2, 1) := by decide +kernel
theorem dX1_priceOf_43 : decode cX1_priceOf 43 = .ok (.lreturn, 1) := by decide +kernel
theorem dX1_stepAt_0 : decode cX1_stepAt 0 = .ok (.iload_n 2, 1) := by decide +kernel
theorem dX1_stepAt_1 : decode cX1_stepAt 1 = .ok (.istore_n 3, 1) := by decide +kernel
theorem dX1_stepAt_2 : decode cX1_stepAt 2 = .ok (.iconst 0, 1) := by decide +kernel
theorem dX1_stepAt_3 : decode cX1_stepAt 3 = .ok (.istore 4, 2) := by decide +kernel
theorem dX1_stepAt_5 : decode cX1_stepAt 5 = .ok (.iload 4, 2) := by decide +kernel
theorem dX1_stepAt_7 : decode cX1_stepAt 7 = .ok (.aload_n 0, 1) := by decide +kernel
theorem dX1_stepAt_8 : decode cX1_stepAt 8 = .ok (.getfield 24, 3) := by decide +kernel
theorem dX1_stepAt_11 : decode cX1_stepAt 11 = .ok (.if_icmp .ge 39, 3) := by decide +kernel
theorem dX1_stepAt_14 : decode cX1_stepAt 14 = .ok (.iload_n 1, 1) := by decide +kernel
theorem dX1_stepAt_15 : decode cX1_stepAt 15 = .ok (.aload_n 0, 1) := by decide +kernel
theorem dX1_stepAt_16 : decode cX1_stepAt 16 = .ok (.getfield 21, 3) := by decide +kernel
theorem dX1_stepAt_19 : decode cX1_stepAt 19 = .ok (.iload 4, 2) := by decide +kernel
theorem dX1_stepAt_21 : decode cX1_stepAt 21 = .ok (.iaload, 1) := by decide +kernel
theorem dX1_stepAt_22 : decode cX1_stepAt 22 = .ok (.iand, 1) := by decide +kernel
theorem dX1_stepAt_23 : decode cX1_stepAt 23 = .ok (.istore 5, 2) := by decide +kernel
theorem dX1_stepAt_25 : decode cX1_stepAt 25 = .ok (.iload 5, 2) := by decide +kernel
theorem dX1_stepAt_27 : decode cX1_stepAt 27 = .ok (.ifCond .eq 17, 3) := by decide +kernel
theorem dX1_stepAt_30 : decode cX1_stepAt 30 = .ok (.iload_n 3, 1) := by decide +kernel
theorem dX1_stepAt_31 : decode cX1_stepAt 31 = .ok (.ifCond .ne 10, 3) := by decide +kernel
theorem dX1_stepAt_34 : decode cX1_stepAt 34 = .ok (.iload 5, 2) := by decide +kernel
theorem dX1_stepAt_36 : decode cX1_stepAt 36 = .ok (.iconst 0, 1) := by decide +kernel
theorem dX1_stepAt_37 : decode cX1_stepAt 37 = .ok (.invokestatic 47, 3) := by decide +kernel
theorem dX1_stepAt_40 : decode cX1_stepAt 40 = .ok (.ireturn, 1) := by decide +kernel
theorem dX1_stepAt_41 : decode cX1_stepAt 41 = .ok (.iinc 3 (-1), 3) := by decide +kernel
theorem dX1_stepAt_44 : decode cX1_stepAt 44 = .ok (.iinc 4 1, 3) := by decide +kernel
theorem dX1_stepAt_47 : decode cX1_stepAt 47 = .ok (.goto (-42), 3) := by decide +kernel
theorem dX1_stepAt_50 : decode cX1_stepAt 50 = .ok (.iconst (-1), 1) := by decide +kernel
theorem dX1_stepAt_51 : decode cX1_stepAt 51 = .ok (.ireturn, 1) := by decide +kernel
theorem dX2_init_0 : decode cX2_init 0 = .ok (.aload_n 0, 1) := by decide +kernel
theorem dX2_init_1 : decode cX2_init 1 = .ok (.invokespecial 3, 3) := by decide +kernel
theorem dX2_init_4 : decode cX2_init 4 = .ok (.aload_n 0, 1) := by decide +kernel
theorem dX2_init_5 : decode cX2_init 5 = .ok (.bipush 16, 2) := by decide +kernel
theorem dX2_init_7 : decode cX2_init 7 = .ok (.newarray .int, 2) := by decide +kernel
theorem dX2_init_9 : decode cX2_init 9 = .ok (.putfield 9, 3) := by decide +kernel
theorem dX2_init_12 : decode cX2_init 12 = .ok (.aload_n 0, 1) := by decide +kernel
theorem dX2_init_13 : decode cX2_init 13 = .ok (.iconst (-1), 1) := by decide +kernel
theorem dX2_init_14 : decode cX2_init 14 = .ok (.putfield 15, 3) := by decide +kernel
theorem dX2_init_17 : decode cX2_init 17 = .ok (.return_, 1) := by decide +kernel
theorem dX2_forget_0 : decode cX2_forget 0 = .ok (.aload_n 0, 1) := by decide +kernel
theorem dX2_forget_1 : decode cX2_forget 1 = .ok (.iconst (-1), 1) := by decide +kernel
theorem dX2_forget_2 : decode cX2_forget 2 = .ok (.putfield 15, 3) := by decide +kernel
theorem dX2_forget_5 : decode cX2_forget 5 = .ok (.return_, 1) := by decide +kernel
theorem dX2_take_0 : decode cX2_take 0 = .ok (.iconst 0, 1) := by decide +kernel
theorem dX2_take_1 : decode cX2_take 1 = .ok (.istore 4, 2) := by decide +kernel
theorem dX2_take_3 : decode cX2_take 3 = .ok (.iload 4, 2) := by decide +kernel
theorem dX2_take_5 : decode cX2_take 5 = .ok (.iload_n 2, 1) := by decide +kernel
theorem dX2_take_6 : decode cX2_take 6 = .ok (.if_icmp .ge 23, 3) := by decide +kernel
theorem dX2_take_9 : decode cX2_take 9 = .ok (.aload_n 0, 1) := by decide +kernel
theorem dX2_take_10 : decode cX2_take 10 = .ok (.getfield 9, 3) := by decide +kernel
theorem dX2_take_13 : decode cX2_take 13 = .ok (.iload 4, 2) := by decide +kernel
theorem dX2_take_15 : decode cX2_take 15 = .ok (.aload_n 1, 1) := by decide +kernel
theorem dX2_take_16 : decode cX2_take 16 = .ok (.getfield 19, 3) := by decide +kernel
theorem dX2_take_19 : decode cX2_take 19 = .ok (.iload 4, 2) := by decide +kernel
theorem dX2_take_21 : decode cX2_take 21 = .ok (.iaload, 1) := by decide +kernel
theorem dX2_take_22 : decode cX2_take 22 = .ok (.iastore, 1) := by decide +kernel
theorem dX2_take_23 : decode cX2_take 23 = .ok (.iinc 4 1, 3) := by decide +kernel
theorem dX2_take_26 : decode cX2_take 26 = .ok (.goto (-23), 3) := by decide +kernel
theorem dX2_take_29 : decode cX2_take 29 = .ok (.aload_n 0, 1) := by decide +kernel
theorem dX2_take_30 : decode cX2_take 30 = .ok (.iload_n 2, 1) := by decide +kernel
theorem dX2_take_31 : decode cX2_take 31 = .ok (.putfield 15, 3) := by decide +kernel
theorem dX2_take_34 : decode cX2_take 34 = .ok (.aload_n 0, 1) := by decide +kernel
theorem dX2_take_35 : decode cX2_take 35 = .ok (.iload_n 3, 1) := by decide +kernel
theorem dX2_take_36 : decode cX2_take 36 = .ok (.putfield 24, 3) := by decide +kernel
theorem dX2_take_39 : decode cX2_take 39 = .ok (.return_, 1) := by decide +kernel
theorem dX2_fit_0 : decode cX2_fit 0 = .ok (.aload_n 0, 1) := by decide +kernel
theorem dX2_fit_1 : decode cX2_fit 1 = .ok (.aload_n 0, 1) := by decide +kernel
theorem dX2_fit_2 : decode cX2_fit 2 = .ok (.getfield 15, 3) := by decide +kernel
theorem dX2_fit_5 : decode cX2_fit 5 = .ok (.iconst (-1), 1) := by decide +kernel
theorem dX2_fit_6 : decode cX2_fit 6 = .ok (.if_icmp .eq 7, 3) := by decide +kernel
theorem dX2_fit_9 : decode cX2_fit 9 = .ok (.iconst 1, 1) := by decide +kernel
theorem dX2_fit_10 : decode cX2_fit 10 = .ok (.goto 4, 3) := by decide +kernel
theorem dX2_fit_13 : decode cX2_fit 13 = .ok (.iconst 0, 1) := by decide +kernel
theorem dX2_fit_14 : decode cX2_fit 14 = .ok (.putfield 28, 3) := by decide +kernel
theorem dX2_fit_17 : decode cX2_fit 17 = .ok (.aload_n 0, 1) := by decide +kernel
theorem dX2_fit_18 : decode cX2_fit 18 = .ok (.iconst 0, 1) := by decide +kernel
theorem dX2_fit_19 : decode cX2_fit 19 = .ok (.putfield 31, 3) := by decide +kernel
theorem dX2_fit_22 : decode cX2_fit 22 = .ok (.iconst 0, 1) := by decide +kernel
theorem dX2_fit_23 : decode cX2_fit 23 = .ok (.istore_n 2, 1) := by decide +kernel
theorem dX2_fit_24 : decode cX2_fit 24 = .ok (.iconst 0, 1) := by decide +kernel
theorem dX2_fit_25 : decode cX2_fit 25 = .ok (.istore_n 3, 1) := by decide +kernel
theorem dX2_fit_26 : decode cX2_fit 26 = .ok (.iload_n 3, 1) := by decide +kernel
theorem dX2_fit_27 : decode cX2_fit 27 = .ok (.aload_n 0, 1) := by decide +kernel
theorem dX2_fit_28 : decode cX2_fit 28 = .ok (.getfield 15, 3) := by decide +kernel
theorem dX2_fit_31 : decode cX2_fit 31 = .ok (.if_icmp .ge 66, 3) := by decide +kernel
theorem dX2_fit_34 : decode cX2_fit 34 = .ok (.aload_n 0, 1) := by decide +kernel
theorem dX2_fit_35 : decode cX2_fit 35 = .ok (.getfield 9, 3) := by decide +kernel
theorem dX2_fit_38 : decode cX2_fit 38 = .ok (.iload_n 3, 1) := by decide +kernel
theorem dX2_fit_39 : decode cX2_fit 39 = .ok (.iaload, 1) := by decide +kernel
theorem dX2_fit_40 : decode cX2_fit 40 = .ok (.istore 4, 2) := by decide +kernel
theorem dX2_fit_42 : decode cX2_fit 42 = .ok (.aload_n 1, 1) := by decide +kernel
theorem dX2_fit_43 : decode cX2_fit 43 = .ok (.iload 4, 2) := by decide +kernel
theorem dX2_fit_45 : decode cX2_fit 45 = .ok (.invokevirtual 34, 3) := by decide +kernel
theorem dX2_fit_48 : decode cX2_fit 48 = .ok (.ifCond .eq 14, 3) := by decide +kernel
theorem dX2_fit_51 : decode cX2_fit 51 = .ok (.aload_n 1, 1) := by decide +kernel
theorem dX2_fit_52 : decode cX2_fit 52 = .ok (.getfield 40, 3) := by decide +kernel
theorem dX2_fit_55 : decode cX2_fit 55 = .ok (.iload 4, 2) := by decide +kernel
theorem dX2_fit_57 : decode cX2_fit 57 = .ok (.iaload, 1) := by decide +kernel
theorem dX2_fit_58 : decode cX2_fit 58 = .ok (.iload_n 2, 1) := by decide +kernel
theorem dX2_fit_59 : decode cX2_fit 59 = .ok (.if_icmp .ge 9, 3) := by decide +kernel
theorem dX2_fit_62 : decode cX2_fit 62 = .ok (.aload_n 0, 1) := by decide +kernel
theorem dX2_fit_63 : decode cX2_fit 63 = .ok (.iconst 0, 1) := by decide +kernel
theorem dX2_fit_64 : decode cX2_fit 64 = .ok (.putfield 28, 3) := by decide +kernel
theorem dX2_fit_67 : decode cX2_fit 67 = .ok (.return_, 1) := by decide +kernel
theorem dX2_fit_68 : decode cX2_fit 68 = .ok (.aload_n 0, 1) := by decide +kernel
theorem dX2_fit_69 : decode cX2_fit 69 = .ok (.dup, 1) := by decide +kernel
theorem dX2_fit_70 : decode cX2_fit 70 = .ok (.getfield 31, 3) := by decide +kernel
theorem dX2_fit_73 : decode cX2_fit 73 = .ok (.iconst 1, 1) := by decide +kernel
theorem dX2_fit_74 : decode cX2_fit 74 = .ok (.iload 4, 2) := by decide +kernel
theorem dX2_fit_76 : decode cX2_fit 76 = .ok (.ishl, 1) := by decide +kernel
theorem dX2_fit_77 : decode cX2_fit 77 = .ok (.ior, 1) := by decide +kernel
theorem dX2_fit_78 : decode cX2_fit 78 = .ok (.putfield 31, 3) := by decide +kernel
theorem dX2_fit_81 : decode cX2_fit 81 = .ok (.aload_n 1, 1) := by decide +kernel
theorem dX2_fit_82 : decode cX2_fit 82 = .ok (.getfield 40, 3) := by decide +kernel
theorem dX2_fit_85 : decode cX2_fit 85 = .ok (.iload 4, 2) := by decide +kernel
theorem dX2_fit_87 : decode cX2_fit 87 = .ok (.iaload, 1) := by decide +kernel
theorem dX2_fit_88 : decode cX2_fit 88 = .ok (.iconst 1, 1) := by decide +kernel
theorem dX2_fit_89 : decode cX2_fit 89 = .ok (.iadd, 1) := by decide +kernel
theorem dX2_fit_90 : decode cX2_fit 90 = .ok (.istore_n 2, 1) := by decide +kernel
theorem dX2_fit_91 : decode cX2_fit 91 = .ok (.iinc 3 1, 3) := by decide +kernel
theorem dX2_fit_94 : decode cX2_fit 94 = .ok (.goto (-68), 3) := by decide +kernel
theorem dX2_fit_97 : decode cX2_fit 97 = .ok (.aload_n 0, 1) := by decide +kernel
theorem dX2_fit_98 : decode cX2_fit 98 = .ok (.aload_n 1, 1) := by decide +kernel
theorem dX2_fit_99 : decode cX2_fit 99 = .ok (.getfield 43, 3) := by decide +kernel
theorem dX2_fit_102 : decode cX2_fit 102 = .ok (.aload_n 0, 1) := by decide +kernel
theorem dX2_fit_103 : decode cX2_fit 103 = .ok (.getfield 24, 3) := by decide +kernel
theorem dX2_fit_106 : decode cX2_fit 106 = .ok (.ifCond .eq 11, 3) := by decide +kernel
theorem dX2_fit_109 : decode cX2_fit 109 = .ok (.aload_n 1, 1) := by decide +kernel
theorem dX2_fit_110 : decode cX2_fit 110 = .ok (.iload_n 2, 1) := by decide +kernel
theorem dX2_fit_111 : decode cX2_fit 111 = .ok (.invokevirtual 46, 3) := by decide +kernel
theorem dX2_fit_114 : decode cX2_fit 114 = .ok (.goto 7, 3) := by decide +kernel
theorem dX2_fit_117 : decode cX2_fit 117 = .ok (.aload_n 1, 1) := by decide +kernel
theorem dX2_fit_118 : decode cX2_fit 118 = .ok (.invokevirtual 50, 3) := by decide +kernel
theorem dX2_fit_121 : decode cX2_fit 121 = .ok (.iand, 1) := by decide +kernel
theorem dX2_fit_122 : decode cX2_fit 122 = .ok (.putfield 54, 3) := by decide +kernel
theorem dX2_fit_125 : decode cX2_fit 125 = .ok (.return_, 1) := by decide +kernel
theorem dX2_allows_0 : decode cX2_allows 0 = .ok (.aload_n 0, 1) := by decide +kernel
theorem dX2_allows_1 : decode cX2_allows 1 = .ok (.getfield 28, 3) := by decide +kernel
theorem dX2_allows_4 : decode cX2_allows 4 = .ok (.ifCond .eq 20, 3) := by decide +kernel
theorem dX2_allows_7 : decode cX2_allows 7 = .ok (.iload_n 1, 1) := by decide +kernel
theorem dX2_allows_8 : decode cX2_allows 8 = .ok (.aload_n 0, 1) := by decide +kernel
theorem dX2_allows_9 : decode cX2_allows 9 = .ok (.getfield 54, 3) := by decide +kernel
theorem dX2_allows_12 : decode cX2_allows 12 = .ok (.iand, 1) := by decide +kernel
theorem dX2_allows_13 : decode cX2_allows 13 = .ok (.aload_n 0, 1) := by decide +kernel
theorem dX2_allows_14 : decode cX2_allows 14 = .ok (.getfield 31, 3) := by decide +kernel
theorem dX2_allows_17 : decode cX2_allows 17 = .ok (.if_icmp .ne 7, 3) := by decide +kernel
theorem dX2_allows_20 : decode cX2_allows 20 = .ok (.iconst 1, 1) := by decide +kernel
theorem dX2_allows_21 : decode cX2_allows 21 = .ok (.goto 4, 3) := by decide +kernel
theorem dX2_allows_24 : decode cX2_allows 24 = .ok (.iconst 0, 1) := by decide +kernel
theorem dX2_allows_25 : decode cX2_allows 25 = .ok (.ireturn, 1) := by decide +kernel
theorem dX2_howManyOf_0 : decode cX2_howManyOf 0 = .ok (.iconst 0, 1) := by decide +kernel
theorem dX2_howManyOf_1 : decode cX2_howManyOf 1 = .ok (.istore_n 2, 1) := by decide +kernel
theorem dX2_howManyOf_2 : decode cX2_howManyOf 2 = .ok (.iconst 0, 1) := by decide +kernel
theorem dX2_howManyOf_3 : decode cX2_howManyOf 3 = .ok (.istore_n 3, 1) := by decide +kernel
theorem dX2_howManyOf_4 : decode cX2_howManyOf 4 = .ok (.iload_n 3, 1) := by decide +kernel
theorem dX2_howManyOf_5 : decode cX2_howManyOf 5 = .ok (.aload_n 1, 1) := by decide +kernel
theorem dX2_howManyOf_6 : decode cX2_howManyOf 6 = .ok (.getfield 57, 3) := by decide +kernel
theorem dX2_howManyOf_9 : decode cX2_howManyOf 9 = .ok (.if_icmp .ge 25, 3) := by decide +kernel
theorem dX2_howManyOf_12 : decode cX2_howManyOf 12 = .ok (.aload_n 0, 1) := by decide +kernel
theorem dX2_howManyOf_13 : decode cX2_howManyOf 13 = .ok (.aload_n 1, 1) := by decide +kernel
theorem dX2_howManyOf_14 : decode cX2_howManyOf 14 = .ok (.getfield 62, 3) := by decide +kernel
theorem dX2_howManyOf_17 : decode cX2_howManyOf 17 = .ok (.iload_n 3, 1) := by decide +kernel
theorem dX2_howManyOf_18 : decode cX2_howManyOf 18 = .ok (.iaload, 1) := by decide +kernel
theorem dX2_howManyOf_19 : decode cX2_howManyOf 19 = .ok (.invokevirtual 65, 3) := by decide +kernel
theorem dX2_howManyOf_22 : decode cX2_howManyOf 22 = .ok (.ifCond .eq 6, 3) := by decide +kernel
theorem dX2_howManyOf_25 : decode cX2_howManyOf 25 = .ok (.iinc 2 1, 3) := by decide +kernel
theorem dX2_howManyOf_28 : decode cX2_howManyOf 28 = .ok (.iinc 3 1, 3) := by decide +kernel
theorem dX2_howManyOf_31 : decode cX2_howManyOf 31 = .ok (.goto (-27), 3) := by decide +kernel
theorem dX2_howManyOf_34 : decode cX2_howManyOf 34 = .ok (.iload_n 2, 1) := by decide +kernel
theorem dX2_howManyOf_35 : decode cX2_howManyOf 35 = .ok (.ireturn, 1) := by decide +kernel
theorem dX2_memberOf_0 : decode cX2_memberOf 0 = .ok (.iload_n 2, 1) := by decide +kernel
theorem dX2_memberOf_1 : decode cX2_memberOf 1 = .ok (.istore_n 3, 1) := by decide +kernel
theorem dX2_memberOf_2 : decode cX2_memberOf 2 = .ok (.iconst 0, 1) := by decide +kernel
theorem dX2_memberOf_3 : decode cX2_memberOf 3 = .ok (.istore 4, 2) := by decide +kernel
theorem dX2_memberOf_5 : decode cX2_memberOf 5 = .ok (.iload 4, 2) := by decide +kernel
theorem dX2_memberOf_7 : decode cX2_memberOf 7 = .ok (.aload_n 1, 1) := by decide +kernel
theorem dX2_memberOf_8 : decode cX2_memberOf 8 = .ok (.getfield 57, 3) := by decide +kernel
theorem dX2_memberOf_11 : decode cX2_memberOf 11 = .ok (.if_icmp .ge 33, 3) := by decide +kernel
theorem dX2_memberOf_14 : decode cX2_memberOf 14 = .ok (.aload_n 0, 1) := by decide +kernel
theorem dX2_memberOf_15 : decode cX2_memberOf 15 = .ok (.aload_n 1, 1) := by decide +kernel
theorem dX2_memberOf_16 : decode cX2_memberOf 16 = .ok (.getfield 62, 3) := by decide +kernel
theorem dX2_memberOf_19 : decode cX2_memberOf 19 = .ok (.iload 4, 2) := by decide +kernel
theorem dX2_memberOf_21 : decode cX2_memberOf 21 = .ok (.iaload, 1) := by decide +kernel
theorem dX2_memberOf_22 : decode cX2_memberOf 22 = .ok (.invokevirtual 65, 3) := by decide +kernel
theorem dX2_memberOf_25 : decode cX2_memberOf 25 = .ok (.ifCond .eq 13, 3) := by decide +kernel
theorem dX2_memberOf_28 : decode cX2_memberOf 28 = .ok (.iload_n 3, 1) := by decide +kernel
theorem dX2_memberOf_29 : decode cX2_memberOf 29 = .ok (.ifCond .ne 6, 3) := by decide +kernel
theorem dX2_memberOf_32 : decode cX2_memberOf 32 = .ok (.iload 4, 2) := by decide +kernel
theorem dX2_memberOf_34 : decode cX2_memberOf 34 = .ok (.ireturn, 1) := by decide +kernel
theorem dX2_memberOf_35 : decode cX2_memberOf 35 = .ok (.iinc 3 (-1), 3) := by decide +kernel
theorem dX2_memberOf_38 : decode cX2_memberOf 38 = .ok (.iinc 4 1, 3) := by decide +kernel
theorem dX2_memberOf_41 : decode cX2_memberOf 41 = .ok (.goto (-36), 3) := by decide +kernel
theorem dX2_memberOf_44 : decode cX2_memberOf 44 = .ok (.iconst (-1), 1) := by decide +kernel
theorem dX2_memberOf_45 : decode cX2_memberOf 45 = .ok (.ireturn, 1) := by decide +kernel
theorem dX2_inAll_0 : decode cX2_inAll 0 = .ok (.iconst (-1), 1) := by decide +kernel
theorem dX2_inAll_1 : decode cX2_inAll 1 = .ok (.istore_n 3, 1) := by decide +kernel
theorem dX2_inAll_2 : decode cX2_inAll 2 = .ok (.iconst 0, 1) := by decide +kernel
theorem dX2_inAll_3 : decode cX2_inAll 3 = .ok (.istore 4, 2) := by decide +kernel
theorem dX2_inAll_5 : decode cX2_inAll 5 = .ok (.iload 4, 2) := by decide +kernel
theorem dX2_inAll_7 : decode cX2_inAll 7 = .ok (.aload_n 1, 1) := by decide +kernel
theorem dX2_inAll_8 : decode cX2_inAll 8 = .ok (.getfield 57, 3) := by decide +kernel
theorem dX2_inAll_11 : decode cX2_inAll 11 = .ok (.if_icmp .ge 30, 3) := by decide +kernel
theorem dX2_inAll_14 : decode cX2_inAll 14 = .ok (.aload_n 0, 1) := by decide +kernel
theorem dX2_inAll_15 : decode cX2_inAll 15 = .ok (.aload_n 1, 1) := by decide +kernel
theorem dX2_inAll_16 : decode cX2_inAll 16 = .ok (.getfield 62, 3) := by decide +kernel
theorem dX2_inAll_19 : decode cX2_inAll 19 = .ok (.iload 4, 2) := by decide +kernel
theorem dX2_inAll_21 : decode cX2_inAll 21 = .ok (.iaload, 1) := by decide +kernel
theorem dX2_inAll_22 : decode cX2_inAll 22 = .ok (.invokevirtual 65, 3) := by decide +kernel
theorem dX2_inAll_25 : decode cX2_inAll 25 = .ok (.ifCond .eq 10, 3) := by decide +kernel
theorem dX2_inAll_28 : decode cX2_inAll 28 = .ok (.iload_n 3, 1) := by decide +kernel
theorem dX2_inAll_29 : decode cX2_inAll 29 = .ok (.aload_n 2, 1) := by decide +kernel
theorem dX2_inAll_30 : decode cX2_inAll 30 = .ok (.iload 4, 2) := by decide +kernel
theorem dX2_inAll_32 : decode cX2_inAll 32 = .ok (.iaload, 1) := by decide +kernel
theorem dX2_inAll_33 : decode cX2_inAll 33 = .ok (.iand, 1) := by decide +kernel
theorem dX2_inAll_34 : decode cX2_inAll 34 = .ok (.istore_n 3, 1) := by decide +kernel
theorem dX2_inAll_35 : decode cX2_inAll 35 = .ok (.iinc 4 1, 3) := by decide +kernel
theorem dX2_inAll_38 : decode cX2_inAll 38 = .ok (.goto (-33), 3) := by decide +kernel
theorem dX2_inAll_41 : decode cX2_inAll 41 = .ok (.iload_n 3, 1) := by decide +kernel
theorem dX2_inAll_42 : decode cX2_inAll 42 = .ok (.ireturn, 1) := by decide +kernel
theorem dX2_inSome_0 : decode cX2_inSome 0 = .ok (.iconst 0, 1) := by decide +kernel
theorem dX2_inSome_1 : decode cX2_inSome 1 = .ok (.istore_n 3, 1) := by decide +kernel
theorem dX2_inSome_2 : decode cX2_inSome 2 = .ok (.iconst 0, 1) := by decide +kernel
theorem dX2_inSome_3 : decode cX2_inSome 3 = .ok (.istore 4, 2) := by decide +kernel
theorem dX2_inSome_5 : decode cX2_inSome 5 = .ok (.iload 4, 2) := by decide +kernel
theorem dX2_inSome_7 : decode cX2_inSome 7 = .ok (.aload_n 1, 1) := by decide +kernel
theorem dX2_inSome_8 : decode cX2_inSome 8 = .ok (.getfield 57, 3) := by decide +kernel
theorem dX2_inSome_11 : decode cX2_inSome 11 = .ok (.if_icmp .ge 30, 3) := by decide +kernel
theorem dX2_inSome_14 : decode cX2_inSome 14 = .ok (.aload_n 0, 1) := by decide +kernel
theorem dX2_inSome_15 : decode cX2_inSome 15 = .ok (.aload_n 1, 1) := by decide +kernel
theorem dX2_inSome_16 : decode cX2_inSome 16 = .ok (.getfield 62, 3) := by decide +kernel
theorem dX2_inSome_19 : decode cX2_inSome 19 = .ok (.iload 4, 2) := by decide +kernel
theorem dX2_inSome_21 : decode cX2_inSome 21 = .ok (.iaload, 1) := by decide +kernel
theorem dX2_inSome_22 : decode cX2_inSome 22 = .ok (.invokevirtual 65, 3) := by decide +kernel
theorem dX2_inSome_25 : decode cX2_inSome 25 = .ok (.ifCond .eq 10, 3) := by decide +kernel
theorem dX2_inSome_28 : decode cX2_inSome 28 = .ok (.iload_n 3, 1) := by decide +kernel
theorem dX2_inSome_29 : decode cX2_inSome 29 = .ok (.aload_n 2, 1) := by decide +kernel
theorem dX2_inSome_30 : decode cX2_inSome 30 = .ok (.iload 4, 2) := by decide +kernel
theorem dX2_inSome_32 : decode cX2_inSome 32 = .ok (.iaload, 1) := by decide +kernel
theorem dX2_inSome_33 : decode cX2_inSome 33 = .ok (.ior, 1) := by decide +kernel
theorem dX2_inSome_34 : decode cX2_inSome 34 = .ok (.istore_n 3, 1) := by decide +kernel
theorem dX2_inSome_35 : decode cX2_inSome 35 = .ok (.iinc 4 1, 3) := by decide +kernel
theorem dX2_inSome_38 : decode cX2_inSome 38 = .ok (.goto (-33), 3) := by decide +kernel
theorem dX2_inSome_41 : decode cX2_inSome 41 = .ok (.iload_n 3, 1) := by decide +kernel
theorem dX2_inSome_42 : decode cX2_inSome 42 = .ok (.ireturn, 1) := by decide +kernel
theorem dX3_init_0 : decode cX3_init 0 = .ok (.aload_n 0, 1) := by decide +kernel
theorem dX3_init_1 : decode cX3_init 1 = .ok (.invokespecial 3, 3) := by decide +kernel
theorem dX3_init_4 : decode cX3_init 4 = .ok (.aload_n 0, 1) := by decide +kernel
theorem dX3_init_5 : decode cX3_init 5 = .ok (.sipush 200, 3) := by decide +kernel
theorem dX3_init_8 : decode cX3_init 8 = .ok (.newarray .int, 2) := by decide +kernel
theorem dX3_init_10 : decode cX3_init 10 = .ok (.putfield 9, 3) := by decide +kernel
theorem dX3_init_13 : decode cX3_init 13 = .ok (.aload_n 0, 1) := by decide +kernel
theorem dX3_init_14 : decode cX3_init 14 = .ok (.sipush 200, 3) := by decide +kernel
theorem dX3_init_17 : decode cX3_init 17 = .ok (.newarray .int, 2) := by decide +kernel
theorem dX3_init_19 : decode cX3_init 19 = .ok (.putfield 15, 3) := by decide +kernel
theorem dX3_init_22 : decode cX3_init 22 = .ok (.aload_n 0, 1) := by decide +kernel
theorem dX3_init_23 : decode cX3_init 23 = .ok (.iconst 1, 1) := by decide +kernel
theorem dX3_init_24 : decode cX3_init 24 = .ok (.putfield 18, 3) := by decide +kernel
theorem dX3_init_27 : decode cX3_init 27 = .ok (.return_, 1) := by decide +kernel
theorem dX3_gather_0 : decode cX3_gather 0 = .ok (.aload_n 0, 1) := by decide +kernel
theorem dX3_gather_1 : decode cX3_gather 1 = .ok (.iconst 0, 1) := by decide +kernel
theorem dX3_gather_2 : decode cX3_gather 2 = .ok (.putfield 22, 3) := by decide +kernel
theorem dX3_gather_5 : decode cX3_gather 5 = .ok (.aload_n 0, 1) := by decide +kernel
theorem dX3_gather_6 : decode cX3_gather 6 = .ok (.iconst 0, 1) := by decide +kernel
theorem dX3_gather_7 : decode cX3_gather 7 = .ok (.putfield 26, 3) := by decide +kernel
theorem dX3_gather_10 : decode cX3_gather 10 = .ok (.aload_n 0, 1) := by decide +kernel
theorem dX3_gather_11 : decode cX3_gather 11 = .ok (.iconst 0, 1) := by decide +kernel
theorem dX3_gather_12 : decode cX3_gather 12 = .ok (.putfield 18, 3) := by decide +kernel
theorem dX3_gather_15 : decode cX3_gather 15 = .ok (.aload_n 0, 1) := by decide +kernel
theorem dX3_gather_16 : decode cX3_gather 16 = .ok (.aload_n 1, 1) := by decide +kernel
theorem dX3_gather_17 : decode cX3_gather 17 = .ok (.iconst 0, 1) := by decide +kernel
theorem dX3_gather_18 : decode cX3_gather 18 = .ok (.iconst 0, 1) := by decide +kernel
theorem dX3_gather_19 : decode cX3_gather 19 = .ok (.iconst 1, 1) := by decide +kernel
theorem dX3_gather_20 : decode cX3_gather 20 = .ok (.iconst 0, 1) := by decide +kernel
theorem dX3_gather_21 : decode cX3_gather 21 = .ok (.invokestatic 29, 3) := by decide +kernel
theorem dX3_gather_24 : decode cX3_gather 24 = .ok (.return_, 1) := by decide +kernel
theorem dX3_follow_0 : decode cX3_follow 0 = .ok (.iload 5, 2) := by decide +kernel
theorem dX3_follow_2 : decode cX3_follow 2 = .ok (.bipush 12, 2) := by decide +kernel
theorem dX3_follow_4 : decode cX3_follow 4 = .ok (.if_icmp .ge 10, 3) := by decide +kernel
theorem dX3_follow_7 : decode cX3_follow 7 = .ok (.aload_n 0, 1) := by decide +kernel
theorem dX3_follow_8 : decode cX3_follow 8 = .ok (.getfield 26, 3) := by decide +kernel
theorem dX3_follow_11 : decode cX3_follow 11 = .ok (.ifCond .eq 4, 3) := by decide +kernel
theorem dX3_follow_14 : decode cX3_follow 14 = .ok (.return_, 1) := by decide +kernel
theorem dX3_follow_15 : decode cX3_follow 15 = .ok (.iload_n 2, 1) := by decide +kernel
theorem dX3_follow_16 : decode cX3_follow 16 = .ok (.aload_n 1, 1) := by decide +kernel
theorem dX3_follow_17 : decode cX3_follow 17 = .ok (.getfield 33, 3) := by decide +kernel
theorem dX3_follow_20 : decode cX3_follow 20 = .ok (.iconst 1, 1) := by decide +kernel
theorem dX3_follow_21 : decode cX3_follow 21 = .ok (.isub, 1) := by decide +kernel
theorem dX3_follow_22 : decode cX3_follow 22 = .ok (.if_icmp .ne 11, 3) := by decide +kernel
theorem dX3_follow_25 : decode cX3_follow 25 = .ok (.aload_n 0, 1) := by decide +kernel
theorem dX3_follow_26 : decode cX3_follow 26 = .ok (.iload_n 3, 1) := by decide +kernel
theorem dX3_follow_27 : decode cX3_follow 27 = .ok (.iload 4, 2) := by decide +kernel
theorem dX3_follow_29 : decode cX3_follow 29 = .ok (.invokevirtual 38, 3) := by decide +kernel
theorem dX3_follow_32 : decode cX3_follow 32 = .ok (.return_, 1) := by decide +kernel
theorem dX3_follow_33 : decode cX3_follow 33 = .ok (.iconst 0, 1) := by decide +kernel
theorem dX3_follow_34 : decode cX3_follow 34 = .ok (.istore 6, 2) := by decide +kernel
theorem dX3_follow_36 : decode cX3_follow 36 = .ok (.iload 6, 2) := by decide +kernel
theorem dX3_follow_38 : decode cX3_follow 38 = .ok (.aload_n 1, 1) := by decide +kernel
theorem dX3_follow_39 : decode cX3_follow 39 = .ok (.getfield 42, 3) := by decide +kernel
theorem dX3_follow_42 : decode cX3_follow 42 = .ok (.if_icmp .ge 53, 3) := by decide +kernel
theorem dX3_follow_45 : decode cX3_follow 45 = .ok (.aload_n 1, 1) := by decide +kernel
theorem dX3_follow_46 : decode cX3_follow 46 = .ok (.getfield 45, 3) := by decide +kernel
theorem dX3_follow_49 : decode cX3_follow 49 = .ok (.iload 6, 2) := by decide +kernel
theorem dX3_follow_51 : decode cX3_follow 51 = .ok (.iaload, 1) := by decide +kernel
theorem dX3_follow_52 : decode cX3_follow 52 = .ok (.iload_n 2, 1) := by decide +kernel
theorem dX3_follow_53 : decode cX3_follow 53 = .ok (.if_icmp .ne 36, 3) := by decide +kernel
theorem dX3_follow_56 : decode cX3_follow 56 = .ok (.aload_n 1, 1) := by decide +kernel
theorem dX3_follow_57 : decode cX3_follow 57 = .ok (.getfield 48, 3) := by decide +kernel
theorem dX3_follow_60 : decode cX3_follow 60 = .ok (.iload 6, 2) := by decide +kernel
theorem dX3_follow_62 : decode cX3_follow 62 = .ok (.iaload, 1) := by decide +kernel
theorem dX3_follow_63 : decode cX3_follow 63 = .ok (.istore 7, 2) := by decide +kernel
theorem dX3_follow_65 : decode cX3_follow 65 = .ok (.aload_n 0, 1) := by decide +kernel
theorem dX3_follow_66 : decode cX3_follow 66 = .ok (.aload_n 1, 1) := by decide +kernel
theorem dX3_follow_67 : decode cX3_follow 67 = .ok (.iload 7, 2) := by decide +kernel
theorem dX3_follow_69 : decode cX3_follow 69 = .ok (.iload_n 3, 1) := by decide +kernel
theorem dX3_follow_70 : decode cX3_follow 70 = .ok (.iconst 1, 1) := by decide +kernel
theorem dX3_follow_71 : decode cX3_follow 71 = .ok (.iload 6, 2) := by decide +kernel
theorem dX3_follow_73 : decode cX3_follow 73 = .ok (.ishl, 1) := by decide +kernel
theorem dX3_follow_74 : decode cX3_follow 74 = .ok (.ior, 1) := by decide +kernel
theorem dX3_follow_75 : decode cX3_follow 75 = .ok (.iload 4, 2) := by decide +kernel
theorem dX3_follow_77 : decode cX3_follow 77 = .ok (.iconst 1, 1) := by decide +kernel
theorem dX3_follow_78 : decode cX3_follow 78 = .ok (.iload 7, 2) := by decide +kernel
theorem dX3_follow_80 : decode cX3_follow 80 = .ok (.ishl, 1) := by decide +kernel
theorem dX3_follow_81 : decode cX3_follow 81 = .ok (.ior, 1) := by decide +kernel
theorem dX3_follow_82 : decode cX3_follow 82 = .ok (.iload 5, 2) := by decide +kernel
theorem dX3_follow_84 : decode cX3_follow 84 = .ok (.iconst 1, 1) := by decide +kernel
theorem dX3_follow_85 : decode cX3_follow 85 = .ok (.iadd, 1) := by decide +kernel
theorem dX3_follow_86 : decode cX3_follow 86 = .ok (.invokestatic 29, 3) := by decide +kernel
theorem dX3_follow_89 : decode cX3_follow 89 = .ok (.iinc 6 1, 3) := by decide +kernel
theorem dX3_follow_92 : decode cX3_follow 92 = .ok (.goto (-56), 3) := by decide +kernel
theorem dX3_follow_95 : decode cX3_follow 95 = .ok (.return_, 1) := by decide +kernel
theorem dX3_add_0 : decode cX3_add 0 = .ok (.aload_n 0, 1) := by decide +kernel
theorem dX3_add_1 : decode cX3_add 1 = .ok (.getfield 22, 3) := by decide +kernel
theorem dX3_add_4 : decode cX3_add 4 = .ok (.sipush 200, 3) := by decide +kernel
theorem dX3_add_7 : decode cX3_add 7 = .ok (.if_icmp .lt 9, 3) := by decide +kernel
theorem dX3_add_10 : decode cX3_add 10 = .ok (.aload_n 0, 1) := by decide +kernel
theorem dX3_add_11 : decode cX3_add 11 = .ok (.iconst 1, 1) := by decide +kernel
theorem dX3_add_12 : decode cX3_add 12 = .ok (.putfield 26, 3) := by decide +kernel
theorem dX3_add_15 : decode cX3_add 15 = .ok (.return_, 1) := by decide +kernel
theorem dX3_add_16 : decode cX3_add 16 = .ok (.aload_n 0, 1) := by decide +kernel
theorem dX3_add_17 : decode cX3_add 17 = .ok (.getfield 9, 3) := by decide +kernel
theorem dX3_add_20 : decode cX3_add 20 = .ok (.aload_n 0, 1) := by decide +kernel
theorem dX3_add_21 : decode cX3_add 21 = .ok (.getfield 22, 3) := by decide +kernel
theorem dX3_add_24 : decode cX3_add 24 = .ok (.iload_n 1, 1) := by decide +kernel
theorem dX3_add_25 : decode cX3_add 25 = .ok (.iastore, 1) := by decide +kernel
theorem dX3_add_26 : decode cX3_add 26 = .ok (.aload_n 0, 1) := by decide +kernel
theorem dX3_add_27 : decode cX3_add 27 = .ok (.getfield 15, 3) := by decide +kernel
theorem dX3_add_30 : decode cX3_add 30 = .ok (.aload_n 0, 1) := by decide +kernel
theorem dX3_add_31 : decode cX3_add 31 = .ok (.getfield 22, 3) := by decide +kernel
theorem dX3_add_34 : decode cX3_add 34 = .ok (.iload_n 2, 1) := by decide +kernel
theorem dX3_add_35 : decode cX3_add 35 = .ok (.iastore, 1) := by decide +kernel
theorem dX3_add_36 : decode cX3_add 36 = .ok (.aload_n 0, 1) := by decide +kernel
theorem dX3_add_37 : decode cX3_add 37 = .ok (.dup, 1) := by decide +kernel
theorem dX3_add_38 : decode cX3_add 38 = .ok (.getfield 22, 3) := by decide +kernel
theorem dX3_add_41 : decode cX3_add 41 = .ok (.iconst 1, 1) := by decide +kernel
theorem dX3_add_42 : decode cX3_add 42 = .ok (.iadd, 1) := by decide +kernel
theorem dX3_add_43 : decode cX3_add 43 = .ok (.putfield 22, 3) := by decide +kernel
theorem dX3_add_46 : decode cX3_add 46 = .ok (.return_, 1) := by decide +kernel
theorem dX3_firstLike_0 : decode cX3_firstLike 0 = .ok (.aload_n 0, 1) := by decide +kernel
theorem dX3_firstLike_1 : decode cX3_firstLike 1 = .ok (.getfield 9, 3) := by decide +kernel
theorem dX3_firstLike_4 : decode cX3_firstLike 4 = .ok (.iload_n 1, 1) := by decide +kernel
theorem dX3_firstLike_5 : decode cX3_firstLike 5 = .ok (.iaload, 1) := by decide +kernel
theorem dX3_firstLike_6 : decode cX3_firstLike 6 = .ok (.iload_n 2, 1) := by decide +kernel
theorem dX3_firstLike_7 : decode cX3_firstLike 7 = .ok (.iand, 1) := by decide +kernel
theorem dX3_firstLike_8 : decode cX3_firstLike 8 = .ok (.istore_n 3, 1) := by decide +kernel
theorem dX3_firstLike_9 : decode cX3_firstLike 9 = .ok (.iconst 0, 1) := by decide +kernel
theorem dX3_firstLike_10 : decode cX3_firstLike 10 = .ok (.istore 4, 2) := by decide +kernel
theorem dX3_firstLike_12 : decode cX3_firstLike 12 = .ok (.iload 4, 2) := by decide +kernel
theorem dX3_firstLike_14 : decode cX3_firstLike 14 = .ok (.iload_n 1, 1) := by decide +kernel
theorem dX3_firstLike_15 : decode cX3_firstLike 15 = .ok (.if_icmp .ge 25, 3) := by decide +kernel
theorem dX3_firstLike_18 : decode cX3_firstLike 18 = .ok (.aload_n 0, 1) := by decide +kernel
theorem dX3_firstLike_19 : decode cX3_firstLike 19 = .ok (.getfield 9, 3) := by decide +kernel
theorem dX3_firstLike_22 : decode cX3_firstLike 22 = .ok (.iload 4, 2) := by decide +kernel
theorem dX3_firstLike_24 : decode cX3_firstLike 24 = .ok (.iaload, 1) := by decide +kernel
theorem dX3_firstLike_25 : decode cX3_firstLike 25 = .ok (.iload_n 2, 1) := by decide +kernel
theorem dX3_firstLike_26 : decode cX3_firstLike 26 = .ok (.iand, 1) := by decide +kernel
theorem dX3_firstLike_27 : decode cX3_firstLike 27 = .ok (.iload_n 3, 1) := by decide +kernel
theorem dX3_firstLike_28 : decode cX3_firstLike 28 = .ok (.if_icmp .ne 6, 3) := by decide +kernel
theorem dX3_firstLike_31 : decode cX3_firstLike 31 = .ok (.iload 4, 2) := by decide +kernel
theorem dX3_firstLike_33 : decode cX3_firstLike 33 = .ok (.ireturn, 1) := by decide +kernel
theorem dX3_firstLike_34 : decode cX3_firstLike 34 = .ok (.iinc 4 1, 3) := by decide +kernel
theorem dX3_firstLike_37 : decode cX3_firstLike 37 = .ok (.goto (-25), 3) := by decide +kernel
theorem dX3_firstLike_40 : decode cX3_firstLike 40 = .ok (.iload_n 1, 1) := by decide +kernel
theorem dX3_firstLike_41 : decode cX3_firstLike 41 = .ok (.ireturn, 1) := by decide +kernel
theorem dX3_logsUnlike_0 : decode cX3_logsUnlike 0 = .ok (.iconst 0, 1) := by decide +kernel
theorem dX3_logsUnlike_1 : decode cX3_logsUnlike 1 = .ok (.istore_n 2, 1) := by decide +kernel
theorem dX3_logsUnlike_2 : decode cX3_logsUnlike 2 = .ok (.iconst 0, 1) := by decide +kernel
theorem dX3_logsUnlike_3 : decode cX3_logsUnlike 3 = .ok (.istore_n 3, 1) := by decide +kernel
theorem dX3_logsUnlike_4 : decode cX3_logsUnlike 4 = .ok (.iload_n 3, 1) := by decide +kernel
theorem dX3_logsUnlike_5 : decode cX3_logsUnlike 5 = .ok (.aload_n 0, 1) := by decide +kernel
theorem dX3_logsUnlike_6 : decode cX3_logsUnlike 6 = .ok (.getfield 22, 3) := by decide +kernel
theorem dX3_logsUnlike_9 : decode cX3_logsUnlike 9 = .ok (.if_icmp .ge 22, 3) := by decide +kernel
theorem dX3_logsUnlike_12 : decode cX3_logsUnlike 12 = .ok (.aload_n 0, 1) := by decide +kernel
theorem dX3_logsUnlike_13 : decode cX3_logsUnlike 13 = .ok (.iload_n 3, 1) := by decide +kernel
theorem dX3_logsUnlike_14 : decode cX3_logsUnlike 14 = .ok (.iload_n 1, 1) := by decide +kernel
theorem dX3_logsUnlike_15 : decode cX3_logsUnlike 15 = .ok (.invokevirtual 51, 3) := by decide +kernel
theorem dX3_logsUnlike_18 : decode cX3_logsUnlike 18 = .ok (.iload_n 3, 1) := by decide +kernel
theorem dX3_logsUnlike_19 : decode cX3_logsUnlike 19 = .ok (.if_icmp .ne 6, 3) := by decide +kernel
theorem dX3_logsUnlike_22 : decode cX3_logsUnlike 22 = .ok (.iinc 2 1, 3) := by decide +kernel
theorem dX3_logsUnlike_25 : decode cX3_logsUnlike 25 = .ok (.iinc 3 1, 3) := by decide +kernel
theorem dX3_logsUnlike_28 : decode cX3_logsUnlike 28 = .ok (.goto (-24), 3) := by decide +kernel
theorem dX3_logsUnlike_31 : decode cX3_logsUnlike 31 = .ok (.iload_n 2, 1) := by decide +kernel
theorem dX3_logsUnlike_32 : decode cX3_logsUnlike 32 = .ok (.ireturn, 1) := by decide +kernel
theorem dX3_soleParters_0 : decode cX3_soleParters 0 = .ok (.iconst 0, 1) := by decide +kernel
theorem dX3_soleParters_1 : decode cX3_soleParters 1 = .ok (.istore_n 2, 1) := by decide +kernel
theorem dX3_soleParters_2 : decode cX3_soleParters 2 = .ok (.iconst 0, 1) := by decide +kernel
theorem dX3_soleParters_3 : decode cX3_soleParters 3 = .ok (.istore_n 3, 1) := by decide +kernel
theorem dX3_soleParters_4 : decode cX3_soleParters 4 = .ok (.iload_n 3, 1) := by decide +kernel
theorem dX3_soleParters_5 : decode cX3_soleParters 5 = .ok (.aload_n 0, 1) := by decide +kernel
theorem dX3_soleParters_6 : decode cX3_soleParters 6 = .ok (.getfield 22, 3) := by decide +kernel
theorem dX3_soleParters_9 : decode cX3_soleParters 9 = .ok (.if_icmp .ge 66, 3) := by decide +kernel
theorem dX3_soleParters_12 : decode cX3_soleParters 12 = .ok (.iload_n 2, 1) := by decide +kernel
theorem dX3_soleParters_13 : decode cX3_soleParters 13 = .ok (.iload_n 1, 1) := by decide +kernel
theorem dX3_soleParters_14 : decode cX3_soleParters 14 = .ok (.if_icmp .eq 61, 3) := by decide +kernel
theorem dX3_soleParters_17 : decode cX3_soleParters 17 = .ok (.iload_n 3, 1) := by decide +kernel
theorem dX3_soleParters_18 : decode cX3_soleParters 18 = .ok (.iconst 1, 1) := by decide +kernel
theorem dX3_soleParters_19 : decode cX3_soleParters 19 = .ok (.iadd, 1) := by decide +kernel
theorem dX3_soleParters_20 : decode cX3_soleParters 20 = .ok (.istore 4, 2) := by decide +kernel
theorem dX3_soleParters_22 : decode cX3_soleParters 22 = .ok (.iload 4, 2) := by decide +kernel
theorem dX3_soleParters_24 : decode cX3_soleParters 24 = .ok (.aload_n 0, 1) := by decide +kernel
theorem dX3_soleParters_25 : decode cX3_soleParters 25 = .ok (.getfield 22, 3) := by decide +kernel
theorem dX3_soleParters_28 : decode cX3_soleParters 28 = .ok (.if_icmp .ge 41, 3) := by decide +kernel
theorem dX3_soleParters_31 : decode cX3_soleParters 31 = .ok (.aload_n 0, 1) := by decide +kernel
theorem dX3_soleParters_32 : decode cX3_soleParters 32 = .ok (.getfield 9, 3) := by decide +kernel
theorem dX3_soleParters_35 : decode cX3_soleParters 35 = .ok (.iload_n 3, 1) := by decide +kernel
theorem dX3_soleParters_36 : decode cX3_soleParters 36 = .ok (.iaload, 1) := by decide +kernel
theorem dX3_soleParters_37 : decode cX3_soleParters 37 = .ok (.aload_n 0, 1) := by decide +kernel
theorem dX3_soleParters_38 : decode cX3_soleParters 38 = .ok (.getfield 9, 3) := by decide +kernel
theorem dX3_soleParters_41 : decode cX3_soleParters 41 = .ok (.iload 4, 2) := by decide +kernel
theorem dX3_soleParters_43 : decode cX3_soleParters 43 = .ok (.iaload, 1) := by decide +kernel
theorem dX3_soleParters_44 : decode cX3_soleParters 44 = .ok (.ixor, 1) := by decide +kernel
theorem dX3_soleParters_45 : decode cX3_soleParters 45 = .ok (.iload_n 1, 1) := by decide +kernel
theorem dX3_soleParters_46 : decode cX3_soleParters 46 = .ok (.iand, 1) := by decide +kernel
theorem dX3_soleParters_47 : decode cX3_soleParters 47 = .ok (.istore 5, 2) := by decide +kernel
theorem dX3_soleParters_49 : decode cX3_soleParters 49 = .ok (.iload 5, 2) := by decide +kernel
theorem dX3_soleParters_51 : decode cX3_soleParters 51 = .ok (.invokestatic 55, 3) := by decide +kernel
theorem dX3_soleParters_54 : decode cX3_soleParters 54 = .ok (.iconst 1, 1) := by decide +kernel
theorem dX3_soleParters_55 : decode cX3_soleParters 55 = .ok (.if_icmp .ne 8, 3) := by decide +kernel
theorem dX3_soleParters_58 : decode cX3_soleParters 58 = .ok (.iload_n 2, 1) := by decide +kernel
theorem dX3_soleParters_59 : decode cX3_soleParters 59 = .ok (.iload 5, 2) := by decide +kernel
theorem dX3_soleParters_61 : decode cX3_soleParters 61 = .ok (.ior, 1) := by decide +kernel
theorem dX3_soleParters_62 : decode cX3_soleParters 62 = .ok (.istore_n 2, 1) := by decide +kernel
theorem dX3_soleParters_63 : decode cX3_soleParters 63 = .ok (.iinc 4 1, 3) := by decide +kernel
theorem dX3_soleParters_66 : decode cX3_soleParters 66 = .ok (.goto (-44), 3) := by decide +kernel
theorem dX3_soleParters_69 : decode cX3_soleParters 69 = .ok (.iinc 3 1, 3) := by decide +kernel
theorem dX3_soleParters_72 : decode cX3_soleParters 72 = .ok (.goto (-68), 3) := by decide +kernel
theorem dX3_soleParters_75 : decode cX3_soleParters 75 = .ok (.iload_n 2, 1) := by decide +kernel
theorem dX3_soleParters_76 : decode cX3_soleParters 76 = .ok (.ireturn, 1) := by decide +kernel
theorem dX3_firstPairPartedBy_0 : decode cX3_firstPairPartedBy 0 = .ok (.iconst 0, 1) := by decide +kernel
theorem dX3_firstPairPartedBy_1 : decode cX3_firstPairPartedBy 1 = .ok (.istore_n 3, 1) := by decide +kernel
theorem dX3_firstPairPartedBy_2 : decode cX3_firstPairPartedBy 2 = .ok (.iload_n 3, 1) := by decide +kernel
theorem dX3_firstPairPartedBy_3 : decode cX3_firstPairPartedBy 3 = .ok (.aload_n 0, 1) := by decide +kernel
theorem dX3_firstPairPartedBy_4 : decode cX3_firstPairPartedBy 4 = .ok (.getfield 22, 3) := by decide +kernel
theorem dX3_firstPairPartedBy_7 : decode cX3_firstPairPartedBy 7 = .ok (.if_icmp .ge 58, 3) := by decide +kernel
theorem dX3_firstPairPartedBy_10 : decode cX3_firstPairPartedBy 10 = .ok (.iload_n 3, 1) := by decide +kernel
theorem dX3_firstPairPartedBy_11 : decode cX3_firstPairPartedBy 11 = .ok (.iconst 1, 1) := by decide +kernel
theorem dX3_firstPairPartedBy_12 : decode cX3_firstPairPartedBy 12 = .ok (.iadd, 1) := by decide +kernel
theorem dX3_firstPairPartedBy_13 : decode cX3_firstPairPartedBy 13 = .ok (.istore 4, 2) := by decide +kernel
theorem dX3_firstPairPartedBy_15 : decode cX3_firstPairPartedBy 15 = .ok (.iload 4, 2) := by decide +kernel
theorem dX3_firstPairPartedBy_17 : decode cX3_firstPairPartedBy 17 = .ok (.aload_n 0, 1) := by decide +kernel
theorem dX3_firstPairPartedBy_18 : decode cX3_firstPairPartedBy 18 = .ok (.getfield 22, 3) := by decide +kernel
theorem dX3_firstPairPartedBy_21 : decode cX3_firstPairPartedBy 21 = .ok (.if_icmp .ge 38, 3) := by decide +kernel
theorem dX3_firstPairPartedBy_24 : decode cX3_firstPairPartedBy 24 = .ok (.aload_n 0, 1) := by decide +kernel
theorem dX3_firstPairPartedBy_25 : decode cX3_firstPairPartedBy 25 = .ok (.getfield 9, 3) := by decide +kernel
theorem dX3_firstPairPartedBy_28 : decode cX3_firstPairPartedBy 28 = .ok (.iload_n 3, 1) := by decide +kernel
theorem dX3_firstPairPartedBy_29 : decode cX3_firstPairPartedBy 29 = .ok (.iaload, 1) := by decide +kernel
theorem dX3_firstPairPartedBy_30 : decode cX3_firstPairPartedBy 30 = .ok (.aload_n 0, 1) := by decide +kernel
theorem dX3_firstPairPartedBy_31 : decode cX3_firstPairPartedBy 31 = .ok (.getfield 9, 3) := by decide +kernel
theorem dX3_firstPairPartedBy_34 : decode cX3_firstPairPartedBy 34 = .ok (.iload 4, 2) := by decide +kernel
theorem dX3_firstPairPartedBy_36 : decode cX3_firstPairPartedBy 36 = .ok (.iaload, 1) := by decide +kernel
theorem dX3_firstPairPartedBy_37 : decode cX3_firstPairPartedBy 37 = .ok (.ixor, 1) := by decide +kernel
theorem dX3_firstPairPartedBy_38 : decode cX3_firstPairPartedBy 38 = .ok (.iload_n 2, 1) := by decide +kernel
theorem dX3_firstPairPartedBy_39 : decode cX3_firstPairPartedBy 39 = .ok (.iand, 1) := by decide +kernel
theorem dX3_firstPairPartedBy_40 : decode cX3_firstPairPartedBy 40 = .ok (.iload_n 1, 1) := by decide +kernel
theorem dX3_firstPairPartedBy_41 : decode cX3_firstPairPartedBy 41 = .ok (.if_icmp .ne 12, 3) := by decide +kernel
theorem dX3_firstPairPartedBy_44 : decode cX3_firstPairPartedBy 44 = .ok (.iload_n 3, 1) := by decide +kernel
theorem dX3_firstPairPartedBy_45 : decode cX3_firstPairPartedBy 45 = .ok (.sipush 200, 3) := by decide +kernel
theorem dX3_firstPairPartedBy_48 : decode cX3_firstPairPartedBy 48 = .ok (.imul, 1) := by decide +kernel
theorem dX3_firstPairPartedBy_49 : decode cX3_firstPairPartedBy 49 = .ok (.iload 4, 2) := by decide +kernel
theorem dX3_firstPairPartedBy_51 : decode cX3_firstPairPartedBy 51 = .ok (.iadd, 1) := by decide +kernel
theorem dX3_firstPairPartedBy_52 : decode cX3_firstPairPartedBy 52 = .ok (.ireturn, 1) := by decide +kernel
theorem dX3_firstPairPartedBy_53 : decode cX3_firstPairPartedBy 53 = .ok (.iinc 4 1, 3) := by decide +kernel
theorem dX3_firstPairPartedBy_56 : decode cX3_firstPairPartedBy 56 = .ok (.goto (-41), 3) := by decide +kernel
theorem dX3_firstPairPartedBy_59 : decode cX3_firstPairPartedBy 59 = .ok (.iinc 3 1, 3) := by decide +kernel
theorem dX3_firstPairPartedBy_62 : decode cX3_firstPairPartedBy 62 = .ok (.goto (-60), 3) := by decide +kernel
theorem dX3_firstPairPartedBy_65 : decode cX3_firstPairPartedBy 65 = .ok (.iconst (-1), 1) := by decide +kernel
theorem dX3_firstPairPartedBy_66 : decode cX3_firstPairPartedBy 66 = .ok (.ireturn, 1) := by decide +kernel
theorem dX4_init_0 : decode cX4_init 0 = .ok (.aload_n 0, 1) := by decide +kernel
theorem dX4_init_1 : decode cX4_init 1 = .ok (.invokespecial 3, 3) := by decide +kernel
theorem dX4_init_4 : decode cX4_init 4 = .ok (.aload_n 0, 1) := by decide +kernel
theorem dX4_init_5 : decode cX4_init 5 = .ok (.aload_n 1, 1) := by decide +kernel
theorem dX4_init_6 : decode cX4_init 6 = .ok (.putfield 9, 3) := by decide +kernel
theorem dX4_init_9 : decode cX4_init 9 = .ok (.return_, 1) := by decide +kernel
theorem dX4_cheapestWith_0 : decode cX4_cheapestWith 0 = .ok (.aload_n 0, 1) := by decide +kernel
theorem dX4_cheapestWith_1 : decode cX4_cheapestWith 1 = .ok (.aload_n 0, 1) := by decide +kernel
theorem dX4_cheapestWith_2 : decode cX4_cheapestWith 2 = .ok (.getfield 9, 3) := by decide +kernel
theorem dX4_cheapestWith_5 : decode cX4_cheapestWith 5 = .ok (.invokevirtual 15, 3) := by decide +kernel
theorem dX4_cheapestWith_8 : decode cX4_cheapestWith 8 = .ok (.putfield 21, 3) := by decide +kernel
theorem dX4_cheapestWith_11 : decode cX4_cheapestWith 11 = .ok (.aload_n 0, 1) := by decide +kernel
theorem dX4_cheapestWith_12 : decode cX4_cheapestWith 12 = .ok (.aload_n 0, 1) := by decide +kernel
theorem dX4_cheapestWith_13 : decode cX4_cheapestWith 13 = .ok (.getfield 9, 3) := by decide +kernel
theorem dX4_cheapestWith_16 : decode cX4_cheapestWith 16 = .ok (.aload_n 0, 1) := by decide +kernel
theorem dX4_cheapestWith_17 : decode cX4_cheapestWith 17 = .ok (.getfield 21, 3) := by decide +kernel
theorem dX4_cheapestWith_20 : decode cX4_cheapestWith 20 = .ok (.invokevirtual 25, 3) := by decide +kernel
theorem dX4_cheapestWith_23 : decode cX4_cheapestWith 23 = .ok (.putfield 29, 3) := by decide +kernel
theorem dX4_cheapestWith_26 : decode cX4_cheapestWith 26 = .ok (.aload_n 0, 1) := by decide +kernel
theorem dX4_cheapestWith_27 : decode cX4_cheapestWith 27 = .ok (.aload_n 2, 1) := by decide +kernel
theorem dX4_cheapestWith_28 : decode cX4_cheapestWith 28 = .ok (.iconst 0, 1) := by decide +kernel
theorem dX4_cheapestWith_29 : decode cX4_cheapestWith 29 = .ok (.iload_n 1, 1) := by decide +kernel
theorem dX4_cheapestWith_30 : decode cX4_cheapestWith 30 = .ok (.iconst 0, 1) := by decide +kernel
theorem dX4_cheapestWith_31 : decode cX4_cheapestWith 31 = .ok (.aload_n 0, 1) := by decide +kernel
theorem dX4_cheapestWith_32 : decode cX4_cheapestWith 32 = .ok (.getfield 9, 3) := by decide +kernel
theorem dX4_cheapestWith_35 : decode cX4_cheapestWith 35 = .ok (.iload_n 1, 1) := by decide +kernel
theorem dX4_cheapestWith_36 : decode cX4_cheapestWith 36 = .ok (.invokevirtual 25, 3) := by decide +kernel
theorem dX4_cheapestWith_39 : decode cX4_cheapestWith 39 = .ok (.iconst 0, 1) := by decide +kernel
theorem dX4_cheapestWith_40 : decode cX4_cheapestWith 40 = .ok (.invokestatic 33, 3) := by decide +kernel
theorem dX4_cheapestWith_43 : decode cX4_cheapestWith 43 = .ok (.aload_n 0, 1) := by decide +kernel
theorem dX4_cheapestWith_44 : decode cX4_cheapestWith 44 = .ok (.getfield 21, 3) := by decide +kernel
theorem dX4_cheapestWith_47 : decode cX4_cheapestWith 47 = .ok (.ireturn, 1) := by decide +kernel
theorem dX4_choose_0 : decode cX4_choose 0 = .ok (.aload_n 1, 1) := by decide +kernel
theorem dX4_choose_1 : decode cX4_choose 1 = .ok (.iload_n 3, 1) := by decide +kernel
theorem dX4_choose_2 : decode cX4_choose 2 = .ok (.iload_n 2, 1) := by decide +kernel
theorem dX4_choose_3 : decode cX4_choose 3 = .ok (.invokevirtual 37, 3) := by decide +kernel
theorem dX4_choose_6 : decode cX4_choose 6 = .ok (.istore 8, 2) := by decide +kernel
theorem dX4_choose_8 : decode cX4_choose 8 = .ok (.iload 8, 2) := by decide +kernel
theorem dX4_choose_10 : decode cX4_choose 10 = .ok (.aload_n 1, 1) := by decide +kernel
theorem dX4_choose_11 : decode cX4_choose 11 = .ok (.getfield 43, 3) := by decide +kernel
theorem dX4_choose_14 : decode cX4_choose 14 = .ok (.if_icmp .lt 11, 3) := by decide +kernel
theorem dX4_choose_17 : decode cX4_choose 17 = .ok (.aload_n 0, 1) := by decide +kernel
theorem dX4_choose_18 : decode cX4_choose 18 = .ok (.iload_n 3, 1) := by decide +kernel
theorem dX4_choose_19 : decode cX4_choose 19 = .ok (.lload 5, 2) := by decide +kernel
theorem dX4_choose_21 : decode cX4_choose 21 = .ok (.invokevirtual 46, 3) := by decide +kernel
theorem dX4_choose_24 : decode cX4_choose 24 = .ok (.return_, 1) := by decide +kernel
theorem dX4_choose_25 : decode cX4_choose 25 = .ok (.iload 7, 2) := by decide +kernel
theorem dX4_choose_27 : decode cX4_choose 27 = .ok (.bipush 16, 2) := by decide +kernel
theorem dX4_choose_29 : decode cX4_choose 29 = .ok (.if_icmp .lt 4, 3) := by decide +kernel
theorem dX4_choose_32 : decode cX4_choose 32 = .ok (.return_, 1) := by decide +kernel
theorem dX4_choose_33 : decode cX4_choose 33 = .ok (.iload 4, 2) := by decide +kernel
theorem dX4_choose_35 : decode cX4_choose 35 = .ok (.istore 9, 2) := by decide +kernel
theorem dX4_choose_37 : decode cX4_choose 37 = .ok (.iconst 0, 1) := by decide +kernel
theorem dX4_choose_38 : decode cX4_choose 38 = .ok (.istore 10, 2) := by decide +kernel
theorem dX4_choose_40 : decode cX4_choose 40 = .ok (.iload 10, 2) := by decide +kernel
theorem dX4_choose_42 : decode cX4_choose 42 = .ok (.aload_n 0, 1) := by decide +kernel
theorem dX4_choose_43 : decode cX4_choose 43 = .ok (.getfield 9, 3) := by decide +kernel
theorem dX4_choose_46 : decode cX4_choose 46 = .ok (.getfield 50, 3) := by decide +kernel
theorem dX4_choose_49 : decode cX4_choose 49 = .ok (.if_icmp .ge 93, 3) := by decide +kernel
theorem dX4_choose_52 : decode cX4_choose 52 = .ok (.aload_n 1, 1) := by decide +kernel
theorem dX4_choose_53 : decode cX4_choose 53 = .ok (.getfield 53, 3) := by decide +kernel
theorem dX4_choose_56 : decode cX4_choose 56 = .ok (.iload 8, 2) := by decide +kernel
theorem dX4_choose_58 : decode cX4_choose 58 = .ok (.iaload, 1) := by decide +kernel
theorem dX4_choose_59 : decode cX4_choose 59 = .ok (.iload 9, 2) := by decide +kernel
theorem dX4_choose_61 : decode cX4_choose 61 = .ok (.iconst (-1), 1) := by decide +kernel
theorem dX4_choose_62 : decode cX4_choose 62 = .ok (.ixor, 1) := by decide +kernel
theorem dX4_choose_63 : decode cX4_choose 63 = .ok (.iand, 1) := by decide +kernel
theorem dX4_choose_64 : decode cX4_choose 64 = .ok (.iload 10, 2) := by decide +kernel
theorem dX4_choose_66 : decode cX4_choose 66 = .ok (.invokestatic 57, 3) := by decide +kernel
theorem dX4_choose_69 : decode cX4_choose 69 = .ok (.ifCond .eq 67, 3) := by decide +kernel
theorem dX4_choose_72 : decode cX4_choose 72 = .ok (.iload_n 3, 1) := by decide +kernel
theorem dX4_choose_73 : decode cX4_choose 73 = .ok (.iconst 1, 1) := by decide +kernel
theorem dX4_choose_74 : decode cX4_choose 74 = .ok (.iload 10, 2) := by decide +kernel
theorem dX4_choose_76 : decode cX4_choose 76 = .ok (.ishl, 1) := by decide +kernel
theorem dX4_choose_77 : decode cX4_choose 77 = .ok (.ior, 1) := by decide +kernel
theorem dX4_choose_78 : decode cX4_choose 78 = .ok (.istore 11, 2) := by decide +kernel
theorem dX4_choose_80 : decode cX4_choose 80 = .ok (.lload 5, 2) := by decide +kernel
theorem dX4_choose_82 : decode cX4_choose 82 = .ok (.aload_n 0, 1) := by decide +kernel
theorem dX4_choose_83 : decode cX4_choose 83 = .ok (.getfield 9, 3) := by decide +kernel
theorem dX4_choose_86 : decode cX4_choose 86 = .ok (.getfield 61, 3) := by decide +kernel
theorem dX4_choose_89 : decode cX4_choose 89 = .ok (.iload 10, 2) := by decide +kernel
theorem dX4_choose_91 : decode cX4_choose 91 = .ok (.iaload, 1) := by decide +kernel
theorem dX4_choose_92 : decode cX4_choose 92 = .ok (.i2l, 1) := by decide +kernel
theorem dX4_choose_93 : decode cX4_choose 93 = .ok (.ladd, 1) := by decide +kernel
theorem dX4_choose_94 : decode cX4_choose 94 = .ok (.lconst 1, 1) := by decide +kernel
theorem dX4_choose_95 : decode cX4_choose 95 = .ok (.ladd, 1) := by decide +kernel
theorem dX4_choose_96 : decode cX4_choose 96 = .ok (.lstore 12, 2) := by decide +kernel
theorem dX4_choose_98 : decode cX4_choose 98 = .ok (.lload 12, 2) := by decide +kernel
theorem dX4_choose_100 : decode cX4_choose 100 = .ok (.aload_n 0, 1) := by decide +kernel
theorem dX4_choose_101 : decode cX4_choose 101 = .ok (.getfield 29, 3) := by decide +kernel
theorem dX4_choose_104 : decode cX4_choose 104 = .ok (.lcmp, 1) := by decide +kernel
theorem dX4_choose_105 : decode cX4_choose 105 = .ok (.ifCond .gt 22, 3) := by decide +kernel
theorem dX4_choose_108 : decode cX4_choose 108 = .ok (.aload_n 0, 1) := by decide +kernel
theorem dX4_choose_109 : decode cX4_choose 109 = .ok (.aload_n 1, 1) := by decide +kernel
theorem dX4_choose_110 : decode cX4_choose 110 = .ok (.iload 8, 2) := by decide +kernel
theorem dX4_choose_112 : decode cX4_choose 112 = .ok (.iconst 1, 1) := by decide +kernel
theorem dX4_choose_113 : decode cX4_choose 113 = .ok (.iadd, 1) := by decide +kernel
theorem dX4_choose_114 : decode cX4_choose 114 = .ok (.iload 11, 2) := by decide +kernel
theorem dX4_choose_116 : decode cX4_choose 116 = .ok (.iload 9, 2) := by decide +kernel
theorem dX4_choose_118 : decode cX4_choose 118 = .ok (.lload 12, 2) := by decide +kernel
theorem dX4_choose_120 : decode cX4_choose 120 = .ok (.iload 7, 2) := by decide +kernel
theorem dX4_choose_122 : decode cX4_choose 122 = .ok (.iconst 1, 1) := by decide +kernel
theorem dX4_choose_123 : decode cX4_choose 123 = .ok (.iadd, 1) := by decide +kernel
theorem dX4_choose_124 : decode cX4_choose 124 = .ok (.invokestatic 33, 3) := by decide +kernel
theorem dX4_choose_127 : decode cX4_choose 127 = .ok (.iload 9, 2) := by decide +kernel
theorem dX4_choose_129 : decode cX4_choose 129 = .ok (.iconst 1, 1) := by decide +kernel
theorem dX4_choose_130 : decode cX4_choose 130 = .ok (.iload 10, 2) := by decide +kernel
theorem dX4_choose_132 : decode cX4_choose 132 = .ok (.ishl, 1) := by decide +kernel
theorem dX4_choose_133 : decode cX4_choose 133 = .ok (.ior, 1) := by decide +kernel
theorem dX4_choose_134 : decode cX4_choose 134 = .ok (.istore 9, 2) := by decide +kernel
theorem dX4_choose_136 : decode cX4_choose 136 = .ok (.iinc 10 1, 3) := by decide +kernel
theorem dX4_choose_139 : decode cX4_choose 139 = .ok (.goto (-99), 3) := by decide +kernel
theorem dX4_choose_142 : decode cX4_choose 142 = .ok (.return_, 1) := by decide +kernel
theorem dX4_offer_0 : decode cX4_offer 0 = .ok (.lload_n 2, 1) := by decide +kernel
theorem dX4_offer_1 : decode cX4_offer 1 = .ok (.aload_n 0, 1) := by decide +kernel
theorem dX4_offer_2 : decode cX4_offer 2 = .ok (.getfield 29, 3) := by decide +kernel
theorem dX4_offer_5 : decode cX4_offer 5 = .ok (.lcmp, 1) := by decide +kernel
theorem dX4_offer_6 : decode cX4_offer 6 = .ok (.ifCond .lt 23, 3) := by decide +kernel
theorem dX4_offer_9 : decode cX4_offer 9 = .ok (.lload_n 2, 1) := by decide +kernel
theorem dX4_offer_10 : decode cX4_offer 10 = .ok (.aload_n 0, 1) := by decide +kernel
theorem dX4_offer_11 : decode cX4_offer 11 = .ok (.getfield 29, 3) := by decide +kernel
theorem dX4_offer_14 : decode cX4_offer 14 = .ok (.lcmp, 1) := by decide +kernel
theorem dX4_offer_15 : decode cX4_offer 15 = .ok (.ifCond .ne 24, 3) := by decide +kernel
theorem dX4_offer_18 : decode cX4_offer 18 = .ok (.iload_n 1, 1) := by decide +kernel
theorem dX4_offer_19 : decode cX4_offer 19 = .ok (.aload_n 0, 1) := by decide +kernel
theorem dX4_offer_20 : decode cX4_offer 20 = .ok (.getfield 21, 3) := by decide +kernel
theorem dX4_offer_23 : decode cX4_offer 23 = .ok (.invokestatic 64, 3) := by decide +kernel
theorem dX4_offer_26 : decode cX4_offer 26 = .ok (.ifCond .eq 13, 3) := by decide +kernel
theorem dX4_offer_29 : decode cX4_offer 29 = .ok (.aload_n 0, 1) := by decide +kernel
theorem dX4_offer_30 : decode cX4_offer 30 = .ok (.iload_n 1, 1) := by decide +kernel
theorem dX4_offer_31 : decode cX4_offer 31 = .ok (.putfield 21, 3) := by decide +kernel
theorem dX4_offer_34 : decode cX4_offer 34 = .ok (.aload_n 0, 1) := by decide +kernel
theorem dX4_offer_35 : decode cX4_offer 35 = .ok (.lload_n 2, 1) := by decide +kernel
theorem dX4_offer_36 : decode cX4_offer 36 = .ok (.putfield 29, 3) := by decide +kernel
theorem dX4_offer_39 : decode cX4_offer 39 = .ok (.return_, 1) := by decide +kernel
theorem dX4_isRatherThan_0 : decode cX4_isRatherThan 0 = .ok (.iload_n 0, 1) := by decide +kernel
theorem dX4_isRatherThan_1 : decode cX4_isRatherThan 1 = .ok (.invokestatic 67, 3) := by decide +kernel
theorem dX4_isRatherThan_4 : decode cX4_isRatherThan 4 = .ok (.iload_n 1, 1) := by decide +kernel
theorem dX4_isRatherThan_5 : decode cX4_isRatherThan 5 = .ok (.invokestatic 67, 3) := by decide +kernel
theorem dX4_isRatherThan_8 : decode cX4_isRatherThan 8 = .ok (.isub, 1) := by decide +kernel
theorem dX4_isRatherThan_9 : decode cX4_isRatherThan 9 = .ok (.istore_n 2, 1) := by decide +kernel
theorem dX4_isRatherThan_10 : decode cX4_isRatherThan 10 = .ok (.iload_n 0, 1) := by decide +kernel
theorem dX4_isRatherThan_11 : decode cX4_isRatherThan 11 = .ok (.iload_n 1, 1) := by decide +kernel
theorem dX4_isRatherThan_12 : decode cX4_isRatherThan 12 = .ok (.ixor, 1) := by decide +kernel
theorem dX4_isRatherThan_13 : decode cX4_isRatherThan 13 = .ok (.istore_n 3, 1) := by decide +kernel
theorem dX4_isRatherThan_14 : decode cX4_isRatherThan 14 = .ok (.iload_n 3, 1) := by decide +kernel
theorem dX4_isRatherThan_15 : decode cX4_isRatherThan 15 = .ok (.iload_n 3, 1) := by decide +kernel
theorem dX4_isRatherThan_16 : decode cX4_isRatherThan 16 = .ok (.ineg, 1) := by decide +kernel
theorem dX4_isRatherThan_17 : decode cX4_isRatherThan 17 = .ok (.iand, 1) := by decide +kernel
theorem dX4_isRatherThan_18 : decode cX4_isRatherThan 18 = .ok (.istore 4, 2) := by decide +kernel
theorem dX4_isRatherThan_20 : decode cX4_isRatherThan 20 = .ok (.iload_n 2, 1) := by decide +kernel
theorem dX4_isRatherThan_21 : decode cX4_isRatherThan 21 = .ok (.ifCond .lt 14, 3) := by decide +kernel
theorem dX4_isRatherThan_24 : decode cX4_isRatherThan 24 = .ok (.iload_n 2, 1) := by decide +kernel
theorem dX4_isRatherThan_25 : decode cX4_isRatherThan 25 = .ok (.ifCond .ne 14, 3) := by decide +kernel
theorem dX4_isRatherThan_28 : decode cX4_isRatherThan 28 = .ok (.iload_n 0, 1) := by decide +kernel
theorem dX4_isRatherThan_29 : decode cX4_isRatherThan 29 = .ok (.iload 4, 2) := by decide +kernel
theorem dX4_isRatherThan_31 : decode cX4_isRatherThan 31 = .ok (.iand, 1) := by decide +kernel
theorem dX4_isRatherThan_32 : decode cX4_isRatherThan 32 = .ok (.ifCond .eq 7, 3) := by decide +kernel
theorem dX4_isRatherThan_35 : decode cX4_isRatherThan 35 = .ok (.iconst 1, 1) := by decide +kernel
theorem dX4_isRatherThan_36 : decode cX4_isRatherThan 36 = .ok (.goto 4, 3) := by decide +kernel
theorem dX4_isRatherThan_39 : decode cX4_isRatherThan 39 = .ok (.iconst 0, 1) := by decide +kernel
theorem dX4_isRatherThan_40 : decode cX4_isRatherThan 40 = .ok (.ireturn, 1) := by decide +kernel
theorem dX5_init_0 : decode cX5_init 0 = .ok (.aload_n 0, 1) := by decide +kernel
theorem dX5_init_1 : decode cX5_init 1 = .ok (.invokespecial 3, 3) := by decide +kernel
theorem dX5_init_4 : decode cX5_init 4 = .ok (.aload_n 0, 1) := by decide +kernel
theorem dX5_init_5 : decode cX5_init 5 = .ok (.bipush 40, 2) := by decide +kernel
theorem dX5_init_7 : decode cX5_init 7 = .ok (.newarray .int, 2) := by decide +kernel
theorem dX5_init_9 : decode cX5_init 9 = .ok (.putfield 9, 3) := by decide +kernel
theorem dX5_init_12 : decode cX5_init 12 = .ok (.return_, 1) := by decide +kernel
theorem dX5_put_0 : decode cX5_put 0 = .ok (.iconst 3, 1) := by decide +kernel
theorem dX5_put_1 : decode cX5_put 1 = .ok (.istore_n 2, 1) := by decide +kernel
theorem dX5_put_2 : decode cX5_put 2 = .ok (.iload_n 2, 1) := by decide +kernel
theorem dX5_put_3 : decode cX5_put 3 = .ok (.ifCond .lt 47, 3) := by decide +kernel
theorem dX5_put_6 : decode cX5_put 6 = .ok (.aload_n 0, 1) := by decide +kernel
theorem dX5_put_7 : decode cX5_put 7 = .ok (.getfield 15, 3) := by decide +kernel
theorem dX5_put_10 : decode cX5_put 10 = .ok (.bipush 40, 2) := by decide +kernel
theorem dX5_put_12 : decode cX5_put 12 = .ok (.if_icmp .ge 38, 3) := by decide +kernel
theorem dX5_put_15 : decode cX5_put 15 = .ok (.aload_n 0, 1) := by decide +kernel
theorem dX5_put_16 : decode cX5_put 16 = .ok (.getfield 9, 3) := by decide +kernel
theorem dX5_put_19 : decode cX5_put 19 = .ok (.aload_n 0, 1) := by decide +kernel
theorem dX5_put_20 : decode cX5_put 20 = .ok (.getfield 15, 3) := by decide +kernel
theorem dX5_put_23 : decode cX5_put 23 = .ok (.iload_n 1, 1) := by decide +kernel
theorem dX5_put_24 : decode cX5_put 24 = .ok (.bipush 8, 2) := by decide +kernel
theorem dX5_put_26 : decode cX5_put 26 = .ok (.iload_n 2, 1) := by decide +kernel
theorem dX5_put_27 : decode cX5_put 27 = .ok (.imul, 1) := by decide +kernel
theorem dX5_put_28 : decode cX5_put 28 = .ok (.ishr, 1) := by decide +kernel
theorem dX5_put_29 : decode cX5_put 29 = .ok (.sipush 255, 3) := by decide +kernel
theorem dX5_put_32 : decode cX5_put 32 = .ok (.iand, 1) := by decide +kernel
theorem dX5_put_33 : decode cX5_put 33 = .ok (.iastore, 1) := by decide +kernel
theorem dX5_put_34 : decode cX5_put 34 = .ok (.aload_n 0, 1) := by decide +kernel
theorem dX5_put_35 : decode cX5_put 35 = .ok (.dup, 1) := by decide +kernel
theorem dX5_put_36 : decode cX5_put 36 = .ok (.getfield 15, 3) := by decide +kernel
theorem dX5_put_39 : decode cX5_put 39 = .ok (.iconst 1, 1) := by decide +kernel
theorem dX5_put_40 : decode cX5_put 40 = .ok (.iadd, 1) := by decide +kernel
theorem dX5_put_41 : decode cX5_put 41 = .ok (.putfield 15, 3) := by decide +kernel
theorem dX5_put_44 : decode cX5_put 44 = .ok (.iinc 2 (-1), 3) := by decide +kernel
theorem dX5_put_47 : decode cX5_put 47 = .ok (.goto (-45), 3) := by decide +kernel
theorem dX5_put_50 : decode cX5_put 50 = .ok (.return_, 1) := by decide +kernel
theorem dX6_init_0 : decode cX6_init 0 = .ok (.aload_n 0, 1) := by decide +kernel
theorem dX6_init_1 : decode cX6_init 1 = .ok (.invokespecial 3, 3) := by decide +kernel
theorem dX6_init_4 : decode cX6_init 4 = .ok (.aload_n 0, 1) := by decide +kernel
theorem dX6_init_5 : decode cX6_init 5 = .ok (.new 9, 3) := by decide +kernel
theorem dX6_init_8 : decode cX6_init 8 = .ok (.dup, 1) := by decide +kernel
theorem dX6_init_9 : decode cX6_init 9 = .ok (.invokespecial 11, 3) := by decide +kernel
theorem dX6_init_12 : decode cX6_init 12 = .ok (.putfield 12, 3) := by decide +kernel
theorem dX6_init_15 : decode cX6_init 15 = .ok (.aload_n 0, 1) := by decide +kernel
theorem dX6_init_16 : decode cX6_init 16 = .ok (.new 16, 3) := by decide +kernel
theorem dX6_init_19 : decode cX6_init 19 = .ok (.dup, 1) := by decide +kernel
theorem dX6_init_20 : decode cX6_init 20 = .ok (.invokespecial 18, 3) := by decide +kernel
theorem dX6_init_23 : decode cX6_init 23 = .ok (.putfield 19, 3) := by decide +kernel
theorem dX6_init_26 : decode cX6_init 26 = .ok (.aload_n 0, 1) := by decide +kernel
theorem dX6_init_27 : decode cX6_init 27 = .ok (.new 23, 3) := by decide +kernel
theorem dX6_init_30 : decode cX6_init 30 = .ok (.dup, 1) := by decide +kernel
theorem dX6_init_31 : decode cX6_init 31 = .ok (.invokespecial 25, 3) := by decide +kernel
theorem dX6_init_34 : decode cX6_init 34 = .ok (.putfield 26, 3) := by decide +kernel
theorem dX6_init_37 : decode cX6_init 37 = .ok (.aload_n 0, 1) := by decide +kernel
theorem dX6_init_38 : decode cX6_init 38 = .ok (.new 23, 3) := by decide +kernel
theorem dX6_init_41 : decode cX6_init 41 = .ok (.dup, 1) := by decide +kernel
theorem dX6_init_42 : decode cX6_init 42 = .ok (.invokespecial 25, 3) := by decide +kernel
theorem dX6_init_45 : decode cX6_init 45 = .ok (.putfield 30, 3) := by decide +kernel
theorem dX6_init_48 : decode cX6_init 48 = .ok (.aload_n 0, 1) := by decide +kernel
