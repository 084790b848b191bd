theorem dX9_init_0 : decode cX9_init 0 = .ok (.aload_n 0, 1) := by decide +kernel
theorem dX9_init_1 : decode cX9_init 1 = .ok (.invokespecial 1, 3) := by decide +kernel
theorem dX9_init_4 : decode cX9_init 4 = .ok (.aload_n 0, 1) := by decide +kernel
theorem dX9_init_5 : decode cX9_init 5 = .ok (.bipush 8, 2) := by decide +kernel
theorem dX9_init_7 : decode cX9_init 7 = .ok (.newarray .int, 2) := by decide +kernel
theorem dX9_init_9 : decode cX9_init 9 = .ok (.putfield 7, 3) := by decide +kernel
theorem dX9_init_12 : decode cX9_init 12 = .ok (.aload_n 0, 1) := by decide +kernel
theorem dX9_init_13 : decode cX9_init 13 = .ok (.sipush 300, 3) := by decide +kernel
theorem dX9_init_16 : decode cX9_init 16 = .ok (.newarray .int, 2) := by decide +kernel
theorem dX9_init_18 : decode cX9_init 18 = .ok (.putfield 13, 3) := by decide +kernel
theorem dX9_init_21 : decode cX9_init 21 = .ok (.aload_n 0, 1) := by decide +kernel
theorem dX9_init_22 : decode cX9_init 22 = .ok (.sipush 300, 3) := by decide +kernel
theorem dX9_init_25 : decode cX9_init 25 = .ok (.newarray .int, 2) := by decide +kernel
theorem dX9_init_27 : decode cX9_init 27 = .ok (.putfield 16, 3) := by decide +kernel
theorem dX9_init_30 : decode cX9_init 30 = .ok (.aload_n 0, 1) := by decide +kernel
theorem dX9_init_31 : decode cX9_init 31 = .ok (.sipush 300, 3) := by decide +kernel
theorem dX9_init_34 : decode cX9_init 34 = .ok (.newarray .int, 2) := by decide +kernel
theorem dX9_init_36 : decode cX9_init 36 = .ok (.putfield 19, 3) := by decide +kernel
theorem dX9_init_39 : decode cX9_init 39 = .ok (.aload_n 0, 1) := by decide +kernel
theorem dX9_init_40 : decode cX9_init 40 = .ok (.sipush 300, 3) := by decide +kernel
theorem dX9_init_43 : decode cX9_init 43 = .ok (.newarray .int, 2) := by decide +kernel
theorem dX9_init_45 : decode cX9_init 45 = .ok (.putfield 22, 3) := by decide +kernel
theorem dX9_init_48 : decode cX9_init 48 = .ok (.aload_n 0, 1) := by decide +kernel
theorem dX9_init_49 : decode cX9_init 49 = .ok (.sipush 2400, 3) := by decide +kernel
theorem dX9_init_52 : decode cX9_init 52 = .ok (.newarray .int, 2) := by decide +kernel
theorem dX9_init_54 : decode cX9_init 54 = .ok (.putfield 25, 3) := by decide +kernel
theorem dX9_init_57 : decode cX9_init 57 = .ok (.aload_n 0, 1) := by decide +kernel
theorem dX9_init_58 : decode cX9_init 58 = .ok (.sipush 9216, 3) := by decide +kernel
theorem dX9_init_61 : decode cX9_init 61 = .ok (.newarray .int, 2) := by decide +kernel
theorem dX9_init_63 : decode cX9_init 63 = .ok (.putfield 28, 3) := by decide +kernel
theorem dX9_init_66 : decode cX9_init 66 = .ok (.aload_n 0, 1) := by decide +kernel
theorem dX9_init_67 : decode cX9_init 67 = .ok (.bipush 20, 2) := by decide +kernel
theorem dX9_init_69 : decode cX9_init 69 = .ok (.newarray .int, 2) := by decide +kernel
theorem dX9_init_71 : decode cX9_init 71 = .ok (.putfield 31, 3) := by decide +kernel
theorem dX9_init_74 : decode cX9_init 74 = .ok (.aload_n 0, 1) := by decide +kernel
theorem dX9_init_75 : decode cX9_init 75 = .ok (.bipush 20, 2) := by decide +kernel
theorem dX9_init_77 : decode cX9_init 77 = .ok (.newarray .int, 2) := by decide +kernel
theorem dX9_init_79 : decode cX9_init 79 = .ok (.putfield 34, 3) := by decide +kernel
theorem dX9_init_82 : decode cX9_init 82 = .ok (.aload_n 0, 1) := by decide +kernel
theorem dX9_init_83 : decode cX9_init 83 = .ok (.bipush 20, 2) := by decide +kernel
theorem dX9_init_85 : decode cX9_init 85 = .ok (.newarray .int, 2) := by decide +kernel
theorem dX9_init_87 : decode cX9_init 87 = .ok (.putfield 37, 3) := by decide +kernel
theorem dX9_init_90 : decode cX9_init 90 = .ok (.aload_n 0, 1) := by decide +kernel
theorem dX9_init_91 : decode cX9_init 91 = .ok (.sipush 961, 3) := by decide +kernel
theorem dX9_init_94 : decode cX9_init 94 = .ok (.newarray .int, 2) := by decide +kernel
theorem dX9_init_96 : decode cX9_init 96 = .ok (.putfield 40, 3) := by decide +kernel
theorem dX9_init_99 : decode cX9_init 99 = .ok (.aload_n 0, 1) := by decide +kernel
theorem dX9_init_100 : decode cX9_init 100 = .ok (.iconst 0, 1) := by decide +kernel
theorem dX9_init_101 : decode cX9_init 101 = .ok (.invokevirtual 43, 3) := by decide +kernel
theorem dX9_init_104 : decode cX9_init 104 = .ok (.return_, 1) := by decide +kernel
theorem dX9_thrown_0 : decode cX9_thrown 0 = .ok (.aload_n 0, 1) := by decide +kernel
theorem dX9_thrown_1 : decode cX9_thrown 1 = .ok (.getfield 47, 3) := by decide +kernel
theorem dX9_thrown_4 : decode cX9_thrown 4 = .ok (.ireturn, 1) := by decide +kernel
theorem dX9_in_0 : decode cX9_in 0 = .ok (.iload_n 0, 1) := by decide +kernel
theorem dX9_in_1 : decode cX9_in 1 = .ok (.iload_n 1, 1) := by decide +kernel
theorem dX9_in_2 : decode cX9_in 2 = .ok (.if_icmp .lt 12, 3) := by decide +kernel
theorem dX9_in_5 : decode cX9_in 5 = .ok (.iload_n 0, 1) := by decide +kernel
theorem dX9_in_6 : decode cX9_in 6 = .ok (.iload_n 2, 1) := by decide +kernel
theorem dX9_in_7 : decode cX9_in 7 = .ok (.if_icmp .gt 7, 3) := by decide +kernel
theorem dX9_in_10 : decode cX9_in 10 = .ok (.iconst 1, 1) := by decide +kernel
theorem dX9_in_11 : decode cX9_in 11 = .ok (.goto 4, 3) := by decide +kernel
theorem dX9_in_14 : decode cX9_in 14 = .ok (.iconst 0, 1) := by decide +kernel
theorem dX9_in_15 : decode cX9_in 15 = .ok (.ireturn, 1) := by decide +kernel
theorem dX9_isPrefix_0 : decode cX9_isPrefix 0 = .ok (.iload_n 0, 1) := by decide +kernel
theorem dX9_isPrefix_1 : decode cX9_isPrefix 1 = .ok (.iconst 0, 1) := by decide +kernel
theorem dX9_isPrefix_2 : decode cX9_isPrefix 2 = .ok (.sipush 255, 3) := by decide +kernel
theorem dX9_isPrefix_5 : decode cX9_isPrefix 5 = .ok (.invokestatic 51, 3) := by decide +kernel
theorem dX9_isPrefix_8 : decode cX9_isPrefix 8 = .ok (.ifCond .eq 30, 3) := by decide +kernel
theorem dX9_isPrefix_11 : decode cX9_isPrefix 11 = .ok (.iload_n 1, 1) := by decide +kernel
theorem dX9_isPrefix_12 : decode cX9_isPrefix 12 = .ok (.iconst 0, 1) := by decide +kernel
theorem dX9_isPrefix_13 : decode cX9_isPrefix 13 = .ok (.bipush 8, 2) := by decide +kernel
theorem dX9_isPrefix_15 : decode cX9_isPrefix 15 = .ok (.invokestatic 51, 3) := by decide +kernel
theorem dX9_isPrefix_18 : decode cX9_isPrefix 18 = .ok (.ifCond .eq 20, 3) := by decide +kernel
theorem dX9_isPrefix_21 : decode cX9_isPrefix 21 = .ok (.iload_n 0, 1) := by decide +kernel
theorem dX9_isPrefix_22 : decode cX9_isPrefix 22 = .ok (.iconst 1, 1) := by decide +kernel
theorem dX9_isPrefix_23 : decode cX9_isPrefix 23 = .ok (.bipush 8, 2) := by decide +kernel
theorem dX9_isPrefix_25 : decode cX9_isPrefix 25 = .ok (.iload_n 1, 1) := by decide +kernel
theorem dX9_isPrefix_26 : decode cX9_isPrefix 26 = .ok (.isub, 1) := by decide +kernel
theorem dX9_isPrefix_27 : decode cX9_isPrefix 27 = .ok (.ishl, 1) := by decide +kernel
theorem dX9_isPrefix_28 : decode cX9_isPrefix 28 = .ok (.iconst 1, 1) := by decide +kernel
theorem dX9_isPrefix_29 : decode cX9_isPrefix 29 = .ok (.isub, 1) := by decide +kernel
theorem dX9_isPrefix_30 : decode cX9_isPrefix 30 = .ok (.iand, 1) := by decide +kernel
theorem dX9_isPrefix_31 : decode cX9_isPrefix 31 = .ok (.ifCond .ne 7, 3) := by decide +kernel
theorem dX9_isPrefix_34 : decode cX9_isPrefix 34 = .ok (.iconst 1, 1) := by decide +kernel
theorem dX9_isPrefix_35 : decode cX9_isPrefix 35 = .ok (.goto 4, 3) := by decide +kernel
theorem dX9_isPrefix_38 : decode cX9_isPrefix 38 = .ok (.iconst 0, 1) := by decide +kernel
theorem dX9_isPrefix_39 : decode cX9_isPrefix 39 = .ok (.ireturn, 1) := by decide +kernel
theorem dX9_prefixOf_0 : decode cX9_prefixOf 0 = .ok (.iconst 1, 1) := by decide +kernel
theorem dX9_prefixOf_1 : decode cX9_prefixOf 1 = .ok (.iload_n 1, 1) := by decide +kernel
theorem dX9_prefixOf_2 : decode cX9_prefixOf 2 = .ok (.ishl, 1) := by decide +kernel
theorem dX9_prefixOf_3 : decode cX9_prefixOf 3 = .ok (.iload_n 0, 1) := by decide +kernel
theorem dX9_prefixOf_4 : decode cX9_prefixOf 4 = .ok (.bipush 8, 2) := by decide +kernel
theorem dX9_prefixOf_6 : decode cX9_prefixOf 6 = .ok (.iload_n 1, 1) := by decide +kernel
theorem dX9_prefixOf_7 : decode cX9_prefixOf 7 = .ok (.isub, 1) := by decide +kernel
theorem dX9_prefixOf_8 : decode cX9_prefixOf 8 = .ok (.ishr, 1) := by decide +kernel
theorem dX9_prefixOf_9 : decode cX9_prefixOf 9 = .ok (.ior, 1) := by decide +kernel
theorem dX9_prefixOf_10 : decode cX9_prefixOf 10 = .ok (.ireturn, 1) := by decide +kernel
theorem dX9_lengthOf_0 : decode cX9_lengthOf 0 = .ok (.iconst 0, 1) := by decide +kernel
theorem dX9_lengthOf_1 : decode cX9_lengthOf 1 = .ok (.istore_n 1, 1) := by decide +kernel
theorem dX9_lengthOf_2 : decode cX9_lengthOf 2 = .ok (.iload_n 0, 1) := by decide +kernel
theorem dX9_lengthOf_3 : decode cX9_lengthOf 3 = .ok (.iload_n 1, 1) := by decide +kernel
theorem dX9_lengthOf_4 : decode cX9_lengthOf 4 = .ok (.ishr, 1) := by decide +kernel
theorem dX9_lengthOf_5 : decode cX9_lengthOf 5 = .ok (.iconst 1, 1) := by decide +kernel
theorem dX9_lengthOf_6 : decode cX9_lengthOf 6 = .ok (.if_icmp .le 9, 3) := by decide +kernel
theorem dX9_lengthOf_9 : decode cX9_lengthOf 9 = .ok (.iinc 1 1, 3) := by decide +kernel
theorem dX9_lengthOf_12 : decode cX9_lengthOf 12 = .ok (.goto (-10), 3) := by decide +kernel
theorem dX9_lengthOf_15 : decode cX9_lengthOf 15 = .ok (.iload_n 1, 1) := by decide +kernel
theorem dX9_lengthOf_16 : decode cX9_lengthOf 16 = .ok (.ireturn, 1) := by decide +kernel
theorem dX9_clearTable_0 : decode cX9_clearTable 0 = .ok (.iconst 0, 1) := by decide +kernel
theorem dX9_clearTable_1 : decode cX9_clearTable 1 = .ok (.istore_n 2, 1) := by decide +kernel
theorem dX9_clearTable_2 : decode cX9_clearTable 2 = .ok (.iload_n 2, 1) := by decide +kernel
theorem dX9_clearTable_3 : decode cX9_clearTable 3 = .ok (.sipush 3072, 3) := by decide +kernel
theorem dX9_clearTable_6 : decode cX9_clearTable 6 = .ok (.if_icmp .ge 22, 3) := by decide +kernel
theorem dX9_clearTable_9 : decode cX9_clearTable 9 = .ok (.aload_n 0, 1) := by decide +kernel
theorem dX9_clearTable_10 : decode cX9_clearTable 10 = .ok (.getfield 28, 3) := by decide +kernel
theorem dX9_clearTable_13 : decode cX9_clearTable 13 = .ok (.sipush 3072, 3) := by decide +kernel
theorem dX9_clearTable_16 : decode cX9_clearTable 16 = .ok (.iload_n 1, 1) := by decide +kernel
theorem dX9_clearTable_17 : decode cX9_clearTable 17 = .ok (.imul, 1) := by decide +kernel
theorem dX9_clearTable_18 : decode cX9_clearTable 18 = .ok (.iload_n 2, 1) := by decide +kernel
theorem dX9_clearTable_19 : decode cX9_clearTable 19 = .ok (.iadd, 1) := by decide +kernel
theorem dX9_clearTable_20 : decode cX9_clearTable 20 = .ok (.iconst (-1), 1) := by decide +kernel
theorem dX9_clearTable_21 : decode cX9_clearTable 21 = .ok (.iastore, 1) := by decide +kernel
theorem dX9_clearTable_22 : decode cX9_clearTable 22 = .ok (.iinc 2 1, 3) := by decide +kernel
theorem dX9_clearTable_25 : decode cX9_clearTable 25 = .ok (.goto (-23), 3) := by decide +kernel
theorem dX9_clearTable_28 : decode cX9_clearTable 28 = .ok (.return_, 1) := by decide +kernel
theorem dX9_placeOf_0 : decode cX9_placeOf 0 = .ok (.sipush 3072, 3) := by decide +kernel
theorem dX9_placeOf_3 : decode cX9_placeOf 3 = .ok (.iload_n 0, 1) := by decide +kernel
theorem dX9_placeOf_4 : decode cX9_placeOf 4 = .ok (.imul, 1) := by decide +kernel
theorem dX9_placeOf_5 : decode cX9_placeOf 5 = .ok (.sipush 512, 3) := by decide +kernel
theorem dX9_placeOf_8 : decode cX9_placeOf 8 = .ok (.iload_n 1, 1) := by decide +kernel
theorem dX9_placeOf_9 : decode cX9_placeOf 9 = .ok (.imul, 1) := by decide +kernel
theorem dX9_placeOf_10 : decode cX9_placeOf 10 = .ok (.iadd, 1) := by decide +kernel
theorem dX9_placeOf_11 : decode cX9_placeOf 11 = .ok (.iload_n 2, 1) := by decide +kernel
theorem dX9_placeOf_12 : decode cX9_placeOf 12 = .ok (.iadd, 1) := by decide +kernel
theorem dX9_placeOf_13 : decode cX9_placeOf 13 = .ok (.ireturn, 1) := by decide +kernel
theorem dX9_apply_0 : decode cX9_apply 0 = .ok (.aload_n 0, 1) := by decide +kernel
theorem dX9_apply_1 : decode cX9_apply 1 = .ok (.getfield 19, 3) := by decide +kernel
theorem dX9_apply_4 : decode cX9_apply 4 = .ok (.iload_n 2, 1) := by decide +kernel
theorem dX9_apply_5 : decode cX9_apply 5 = .ok (.iaload, 1) := by decide +kernel
theorem dX9_apply_6 : decode cX9_apply 6 = .ok (.ifCond .le 39, 3) := by decide +kernel
theorem dX9_apply_9 : decode cX9_apply 9 = .ok (.aload_n 0, 1) := by decide +kernel
theorem dX9_apply_10 : decode cX9_apply 10 = .ok (.getfield 28, 3) := by decide +kernel
theorem dX9_apply_13 : decode cX9_apply 13 = .ok (.iload_n 1, 1) := by decide +kernel
theorem dX9_apply_14 : decode cX9_apply 14 = .ok (.aload_n 0, 1) := by decide +kernel
theorem dX9_apply_15 : decode cX9_apply 15 = .ok (.getfield 16, 3) := by decide +kernel
theorem dX9_apply_18 : decode cX9_apply 18 = .ok (.iload_n 2, 1) := by decide +kernel
theorem dX9_apply_19 : decode cX9_apply 19 = .ok (.iaload, 1) := by decide +kernel
theorem dX9_apply_20 : decode cX9_apply 20 = .ok (.aload_n 0, 1) := by decide +kernel
theorem dX9_apply_21 : decode cX9_apply 21 = .ok (.getfield 19, 3) := by decide +kernel
theorem dX9_apply_24 : decode cX9_apply 24 = .ok (.iload_n 2, 1) := by decide +kernel
theorem dX9_apply_25 : decode cX9_apply 25 = .ok (.iaload, 1) := by decide +kernel
theorem dX9_apply_26 : decode cX9_apply 26 = .ok (.invokestatic 55, 3) := by decide +kernel
theorem dX9_apply_29 : decode cX9_apply 29 = .ok (.aload_n 0, 1) := by decide +kernel
theorem dX9_apply_30 : decode cX9_apply 30 = .ok (.getfield 22, 3) := by decide +kernel
theorem dX9_apply_33 : decode cX9_apply 33 = .ok (.iload_n 2, 1) := by decide +kernel
theorem dX9_apply_34 : decode cX9_apply 34 = .ok (.iaload, 1) := by decide +kernel
theorem dX9_apply_35 : decode cX9_apply 35 = .ok (.ifCond .le 7, 3) := by decide +kernel
theorem dX9_apply_38 : decode cX9_apply 38 = .ok (.iload_n 2, 1) := by decide +kernel
theorem dX9_apply_39 : decode cX9_apply 39 = .ok (.goto 4, 3) := by decide +kernel
theorem dX9_apply_42 : decode cX9_apply 42 = .ok (.iconst (-1), 1) := by decide +kernel
theorem dX9_apply_43 : decode cX9_apply 43 = .ok (.iastore, 1) := by decide +kernel
theorem dX9_apply_44 : decode cX9_apply 44 = .ok (.return_, 1) := by decide +kernel
theorem dX9_apply_45 : decode cX9_apply 45 = .ok (.iconst 0, 1) := by decide +kernel
theorem dX9_apply_46 : decode cX9_apply 46 = .ok (.istore_n 3, 1) := by decide +kernel
theorem dX9_apply_47 : decode cX9_apply 47 = .ok (.iload_n 3, 1) := by decide +kernel
theorem dX9_apply_48 : decode cX9_apply 48 = .ok (.sipush 512, 3) := by decide +kernel
theorem dX9_apply_51 : decode cX9_apply 51 = .ok (.if_icmp .ge 26, 3) := by decide +kernel
theorem dX9_apply_54 : decode cX9_apply 54 = .ok (.aload_n 0, 1) := by decide +kernel
theorem dX9_apply_55 : decode cX9_apply 55 = .ok (.getfield 28, 3) := by decide +kernel
theorem dX9_apply_58 : decode cX9_apply 58 = .ok (.iload_n 1, 1) := by decide +kernel
theorem dX9_apply_59 : decode cX9_apply 59 = .ok (.aload_n 0, 1) := by decide +kernel
theorem dX9_apply_60 : decode cX9_apply 60 = .ok (.getfield 16, 3) := by decide +kernel
theorem dX9_apply_63 : decode cX9_apply 63 = .ok (.iload_n 2, 1) := by decide +kernel
theorem dX9_apply_64 : decode cX9_apply 64 = .ok (.iaload, 1) := by decide +kernel
theorem dX9_apply_65 : decode cX9_apply 65 = .ok (.iload_n 3, 1) := by decide +kernel
theorem dX9_apply_66 : decode cX9_apply 66 = .ok (.invokestatic 55, 3) := by decide +kernel
theorem dX9_apply_69 : decode cX9_apply 69 = .ok (.iconst (-1), 1) := by decide +kernel
theorem dX9_apply_70 : decode cX9_apply 70 = .ok (.iastore, 1) := by decide +kernel
theorem dX9_apply_71 : decode cX9_apply 71 = .ok (.iinc 3 1, 3) := by decide +kernel
theorem dX9_apply_74 : decode cX9_apply 74 = .ok (.goto (-27), 3) := by decide +kernel
theorem dX9_apply_77 : decode cX9_apply 77 = .ok (.return_, 1) := by decide +kernel
theorem dX9_replay_0 : decode cX9_replay 0 = .ok (.aload_n 0, 1) := by decide +kernel
theorem dX9_replay_1 : decode cX9_replay 1 = .ok (.iload_n 1, 1) := by decide +kernel
theorem dX9_replay_2 : decode cX9_replay 2 = .ok (.invokevirtual 43, 3) := by decide +kernel
theorem dX9_replay_5 : decode cX9_replay 5 = .ok (.iconst 0, 1) := by decide +kernel
theorem dX9_replay_6 : decode cX9_replay 6 = .ok (.istore_n 3, 1) := by decide +kernel
theorem dX9_replay_7 : decode cX9_replay 7 = .ok (.iload_n 3, 1) := by decide +kernel
theorem dX9_replay_8 : decode cX9_replay 8 = .ok (.aload_n 0, 1) := by decide +kernel
theorem dX9_replay_9 : decode cX9_replay 9 = .ok (.getfield 59, 3) := by decide +kernel
theorem dX9_replay_12 : decode cX9_replay 12 = .ok (.if_icmp .ge 25, 3) := by decide +kernel
theorem dX9_replay_15 : decode cX9_replay 15 = .ok (.aload_n 0, 1) := by decide +kernel
theorem dX9_replay_16 : decode cX9_replay 16 = .ok (.getfield 13, 3) := by decide +kernel
theorem dX9_replay_19 : decode cX9_replay 19 = .ok (.iload_n 3, 1) := by decide +kernel
theorem dX9_replay_20 : decode cX9_replay 20 = .ok (.iaload, 1) := by decide +kernel
theorem dX9_replay_21 : decode cX9_replay 21 = .ok (.iload_n 2, 1) := by decide +kernel
theorem dX9_replay_22 : decode cX9_replay 22 = .ok (.if_icmp .gt 9, 3) := by decide +kernel
theorem dX9_replay_25 : decode cX9_replay 25 = .ok (.aload_n 0, 1) := by decide +kernel
theorem dX9_replay_26 : decode cX9_replay 26 = .ok (.iload_n 1, 1) := by decide +kernel
theorem dX9_replay_27 : decode cX9_replay 27 = .ok (.iload_n 3, 1) := by decide +kernel
theorem dX9_replay_28 : decode cX9_replay 28 = .ok (.invokevirtual 62, 3) := by decide +kernel
theorem dX9_replay_31 : decode cX9_replay 31 = .ok (.iinc 3 1, 3) := by decide +kernel
theorem dX9_replay_34 : decode cX9_replay 34 = .ok (.goto (-27), 3) := by decide +kernel
theorem dX9_replay_37 : decode cX9_replay 37 = .ok (.return_, 1) := by decide +kernel
theorem dX9_routesOf_0 : decode cX9_routesOf 0 = .ok (.iconst 0, 1) := by decide +kernel
theorem dX9_routesOf_1 : decode cX9_routesOf 1 = .ok (.istore_n 2, 1) := by decide +kernel
theorem dX9_routesOf_2 : decode cX9_routesOf 2 = .ok (.iconst 1, 1) := by decide +kernel
theorem dX9_routesOf_3 : decode cX9_routesOf 3 = .ok (.istore_n 3, 1) := by decide +kernel
theorem dX9_routesOf_4 : decode cX9_routesOf 4 = .ok (.iload_n 3, 1) := by decide +kernel
theorem dX9_routesOf_5 : decode cX9_routesOf 5 = .ok (.sipush 512, 3) := by decide +kernel
theorem dX9_routesOf_8 : decode cX9_routesOf 8 = .ok (.if_icmp .ge 32, 3) := by decide +kernel
theorem dX9_routesOf_11 : decode cX9_routesOf 11 = .ok (.iload_n 2, 1) := by decide +kernel
theorem dX9_routesOf_12 : decode cX9_routesOf 12 = .ok (.aload_n 0, 1) := by decide +kernel
theorem dX9_routesOf_13 : decode cX9_routesOf 13 = .ok (.getfield 28, 3) := by decide +kernel
theorem dX9_routesOf_16 : decode cX9_routesOf 16 = .ok (.iconst 0, 1) := by decide +kernel
theorem dX9_routesOf_17 : decode cX9_routesOf 17 = .ok (.iload_n 1, 1) := by decide +kernel
theorem dX9_routesOf_18 : decode cX9_routesOf 18 = .ok (.iload_n 3, 1) := by decide +kernel
theorem dX9_routesOf_19 : decode cX9_routesOf 19 = .ok (.invokestatic 55, 3) := by decide +kernel
theorem dX9_routesOf_22 : decode cX9_routesOf 22 = .ok (.iaload, 1) := by decide +kernel
theorem dX9_routesOf_23 : decode cX9_routesOf 23 = .ok (.iconst (-1), 1) := by decide +kernel
theorem dX9_routesOf_24 : decode cX9_routesOf 24 = .ok (.if_icmp .ne 7, 3) := by decide +kernel
theorem dX9_routesOf_27 : decode cX9_routesOf 27 = .ok (.iconst 0, 1) := by decide +kernel
theorem dX9_routesOf_28 : decode cX9_routesOf 28 = .ok (.goto 4, 3) := by decide +kernel
theorem dX9_routesOf_31 : decode cX9_routesOf 31 = .ok (.iconst 1, 1) := by decide +kernel
theorem dX9_routesOf_32 : decode cX9_routesOf 32 = .ok (.iadd, 1) := by decide +kernel
theorem dX9_routesOf_33 : decode cX9_routesOf 33 = .ok (.istore_n 2, 1) := by decide +kernel
theorem dX9_routesOf_34 : decode cX9_routesOf 34 = .ok (.iinc 3 1, 3) := by decide +kernel
theorem dX9_routesOf_37 : decode cX9_routesOf 37 = .ok (.goto (-33), 3) := by decide +kernel
theorem dX9_routesOf_40 : decode cX9_routesOf 40 = .ok (.iload_n 2, 1) := by decide +kernel
theorem dX9_routesOf_41 : decode cX9_routesOf 41 = .ok (.ireturn, 1) := by decide +kernel
theorem dX9_best_0 : decode cX9_best 0 = .ok (.iconst (-1), 1) := by decide +kernel
theorem dX9_best_1 : decode cX9_best 1 = .ok (.istore_n 3, 1) := by decide +kernel
theorem dX9_best_2 : decode cX9_best 2 = .ok (.iconst 0, 1) := by decide +kernel
theorem dX9_best_3 : decode cX9_best 3 = .ok (.istore 4, 2) := by decide +kernel
theorem dX9_best_5 : decode cX9_best 5 = .ok (.iload 4, 2) := by decide +kernel
theorem dX9_best_7 : decode cX9_best 7 = .ok (.bipush 6, 2) := by decide +kernel
theorem dX9_best_9 : decode cX9_best 9 = .ok (.if_icmp .ge 57, 3) := by decide +kernel
theorem dX9_best_12 : decode cX9_best 12 = .ok (.aload_n 0, 1) := by decide +kernel
theorem dX9_best_13 : decode cX9_best 13 = .ok (.getfield 28, 3) := by decide +kernel
theorem dX9_best_16 : decode cX9_best 16 = .ok (.iload_n 1, 1) := by decide +kernel
theorem dX9_best_17 : decode cX9_best 17 = .ok (.iload 4, 2) := by decide +kernel
theorem dX9_best_19 : decode cX9_best 19 = .ok (.iload_n 2, 1) := by decide +kernel
theorem dX9_best_20 : decode cX9_best 20 = .ok (.invokestatic 55, 3) := by decide +kernel
theorem dX9_best_23 : decode cX9_best 23 = .ok (.iaload, 1) := by decide +kernel
theorem dX9_best_24 : decode cX9_best 24 = .ok (.istore 5, 2) := by decide +kernel
theorem dX9_best_26 : decode cX9_best 26 = .ok (.iload 5, 2) := by decide +kernel
theorem dX9_best_28 : decode cX9_best 28 = .ok (.iconst (-1), 1) := by decide +kernel
theorem dX9_best_29 : decode cX9_best 29 = .ok (.if_icmp .eq 29, 3) := by decide +kernel
theorem dX9_best_32 : decode cX9_best 32 = .ok (.iload_n 3, 1) := by decide +kernel
theorem dX9_best_33 : decode cX9_best 33 = .ok (.iconst (-1), 1) := by decide +kernel
theorem dX9_best_34 : decode cX9_best 34 = .ok (.if_icmp .eq 19, 3) := by decide +kernel
theorem dX9_best_37 : decode cX9_best 37 = .ok (.aload_n 0, 1) := by decide +kernel
theorem dX9_best_38 : decode cX9_best 38 = .ok (.getfield 22, 3) := by decide +kernel
theorem dX9_best_41 : decode cX9_best 41 = .ok (.iload 5, 2) := by decide +kernel
theorem dX9_best_43 : decode cX9_best 43 = .ok (.iaload, 1) := by decide +kernel
theorem dX9_best_44 : decode cX9_best 44 = .ok (.aload_n 0, 1) := by decide +kernel
theorem dX9_best_45 : decode cX9_best 45 = .ok (.getfield 22, 3) := by decide +kernel
theorem dX9_best_48 : decode cX9_best 48 = .ok (.iload_n 3, 1) := by decide +kernel
theorem dX9_best_49 : decode cX9_best 49 = .ok (.iaload, 1) := by decide +kernel
theorem dX9_best_50 : decode cX9_best 50 = .ok (.if_icmp .ge 8, 3) := by decide +kernel
theorem dX9_best_53 : decode cX9_best 53 = .ok (.iload 5, 2) := by decide +kernel
theorem dX9_best_55 : decode cX9_best 55 = .ok (.goto 4, 3) := by decide +kernel
theorem dX9_best_58 : decode cX9_best 58 = .ok (.iload_n 3, 1) := by decide +kernel
theorem dX9_best_59 : decode cX9_best 59 = .ok (.istore_n 3, 1) := by decide +kernel
theorem dX9_best_60 : decode cX9_best 60 = .ok (.iinc 4 1, 3) := by decide +kernel
theorem dX9_best_63 : decode cX9_best 63 = .ok (.goto (-58), 3) := by decide +kernel
theorem dX9_best_66 : decode cX9_best 66 = .ok (.iload_n 3, 1) := by decide +kernel
theorem dX9_best_67 : decode cX9_best 67 = .ok (.ireturn, 1) := by decide +kernel
theorem dX9_found_0 : decode cX9_found 0 = .ok (.bipush 8, 2) := by decide +kernel
theorem dX9_found_2 : decode cX9_found 2 = .ok (.istore_n 3, 1) := by decide +kernel
theorem dX9_found_3 : decode cX9_found 3 = .ok (.iload_n 3, 1) := by decide +kernel
theorem dX9_found_4 : decode cX9_found 4 = .ok (.ifCond .lt 29, 3) := by decide +kernel
theorem dX9_found_7 : decode cX9_found 7 = .ok (.aload_n 0, 1) := by decide +kernel
theorem dX9_found_8 : decode cX9_found 8 = .ok (.iload_n 1, 1) := by decide +kernel
theorem dX9_found_9 : decode cX9_found 9 = .ok (.iload_n 2, 1) := by decide +kernel
theorem dX9_found_10 : decode cX9_found 10 = .ok (.iload_n 3, 1) := by decide +kernel
theorem dX9_found_11 : decode cX9_found 11 = .ok (.invokestatic 66, 3) := by decide +kernel
theorem dX9_found_14 : decode cX9_found 14 = .ok (.invokevirtual 70, 3) := by decide +kernel
theorem dX9_found_17 : decode cX9_found 17 = .ok (.iconst (-1), 1) := by decide +kernel
theorem dX9_found_18 : decode cX9_found 18 = .ok (.if_icmp .eq 9, 3) := by decide +kernel
theorem dX9_found_21 : decode cX9_found 21 = .ok (.iload_n 2, 1) := by decide +kernel
theorem dX9_found_22 : decode cX9_found 22 = .ok (.iload_n 3, 1) := by decide +kernel
theorem dX9_found_23 : decode cX9_found 23 = .ok (.invokestatic 66, 3) := by decide +kernel
theorem dX9_found_26 : decode cX9_found 26 = .ok (.ireturn, 1) := by decide +kernel
theorem dX9_found_27 : decode cX9_found 27 = .ok (.iinc 3 (-1), 3) := by decide +kernel
theorem dX9_found_30 : decode cX9_found 30 = .ok (.goto (-27), 3) := by decide +kernel
theorem dX9_found_33 : decode cX9_found 33 = .ok (.iconst 0, 1) := by decide +kernel
theorem dX9_found_34 : decode cX9_found 34 = .ok (.ireturn, 1) := by decide +kernel
theorem dX9_origin_0 : decode cX9_origin 0 = .ok (.aload_n 0, 1) := by decide +kernel
theorem dX9_origin_1 : decode cX9_origin 1 = .ok (.getfield 25, 3) := by decide +kernel
theorem dX9_origin_4 : decode cX9_origin 4 = .ok (.bipush 8, 2) := by decide +kernel
theorem dX9_origin_6 : decode cX9_origin 6 = .ok (.iload_n 1, 1) := by decide +kernel
theorem dX9_origin_7 : decode cX9_origin 7 = .ok (.imul, 1) := by decide +kernel
theorem dX9_origin_8 : decode cX9_origin 8 = .ok (.aload_n 0, 1) := by decide +kernel
theorem dX9_origin_9 : decode cX9_origin 9 = .ok (.getfield 22, 3) := by decide +kernel
theorem dX9_origin_12 : decode cX9_origin 12 = .ok (.iload_n 1, 1) := by decide +kernel
theorem dX9_origin_13 : decode cX9_origin 13 = .ok (.iaload, 1) := by decide +kernel
theorem dX9_origin_14 : decode cX9_origin 14 = .ok (.iadd, 1) := by decide +kernel
theorem dX9_origin_15 : decode cX9_origin 15 = .ok (.iconst 1, 1) := by decide +kernel
theorem dX9_origin_16 : decode cX9_origin 16 = .ok (.isub, 1) := by decide +kernel
theorem dX9_origin_17 : decode cX9_origin 17 = .ok (.iaload, 1) := by decide +kernel
theorem dX9_origin_18 : decode cX9_origin 18 = .ok (.ireturn, 1) := by decide +kernel
theorem dX9_pass_0 : decode cX9_pass 0 = .ok (.aload_n 0, 1) := by decide +kernel
theorem dX9_pass_1 : decode cX9_pass 1 = .ok (.iload_n 1, 1) := by decide +kernel
theorem dX9_pass_2 : decode cX9_pass 2 = .ok (.iconst 1, 1) := by decide +kernel
theorem dX9_pass_3 : decode cX9_pass 3 = .ok (.sipush 1000, 3) := by decide +kernel
theorem dX9_pass_6 : decode cX9_pass 6 = .ok (.invokestatic 51, 3) := by decide +kernel
theorem dX9_pass_9 : decode cX9_pass 9 = .ok (.ifCond .ne 7, 3) := by decide +kernel
theorem dX9_pass_12 : decode cX9_pass 12 = .ok (.iconst 1, 1) := by decide +kernel
theorem dX9_pass_13 : decode cX9_pass 13 = .ok (.goto 19, 3) := by decide +kernel
theorem dX9_pass_16 : decode cX9_pass 16 = .ok (.aload_n 0, 1) := by decide +kernel
theorem dX9_pass_17 : decode cX9_pass 17 = .ok (.getfield 73, 3) := by decide +kernel
theorem dX9_pass_20 : decode cX9_pass 20 = .ok (.iload_n 1, 1) := by decide +kernel
theorem dX9_pass_21 : decode cX9_pass 21 = .ok (.iadd, 1) := by decide +kernel
theorem dX9_pass_22 : decode cX9_pass 22 = .ok (.ldc 76, 2) := by decide +kernel
theorem dX9_pass_24 : decode cX9_pass 24 = .ok (.if_icmp .le 7, 3) := by decide +kernel
theorem dX9_pass_27 : decode cX9_pass 27 = .ok (.iconst 2, 1) := by decide +kernel
theorem dX9_pass_28 : decode cX9_pass 28 = .ok (.goto 4, 3) := by decide +kernel
theorem dX9_pass_31 : decode cX9_pass 31 = .ok (.iconst 0, 1) := by decide +kernel
theorem dX9_pass_32 : decode cX9_pass 32 = .ok (.putfield 47, 3) := by decide +kernel
theorem dX9_pass_35 : decode cX9_pass 35 = .ok (.aload_n 0, 1) := by decide +kernel
theorem dX9_pass_36 : decode cX9_pass 36 = .ok (.getfield 47, 3) := by decide +kernel
theorem dX9_pass_39 : decode cX9_pass 39 = .ok (.ifCond .le 5, 3) := by decide +kernel
theorem dX9_pass_42 : decode cX9_pass 42 = .ok (.iconst 0, 1) := by decide +kernel
theorem dX9_pass_43 : decode cX9_pass 43 = .ok (.ireturn, 1) := by decide +kernel
theorem dX9_pass_44 : decode cX9_pass 44 = .ok (.aload_n 0, 1) := by decide +kernel
theorem dX9_pass_45 : decode cX9_pass 45 = .ok (.dup, 1) := by decide +kernel
theorem dX9_pass_46 : decode cX9_pass 46 = .ok (.getfield 73, 3) := by decide +kernel
theorem dX9_pass_49 : decode cX9_pass 49 = .ok (.iload_n 1, 1) := by decide +kernel
theorem dX9_pass_50 : decode cX9_pass 50 = .ok (.iadd, 1) := by decide +kernel
theorem dX9_pass_51 : decode cX9_pass 51 = .ok (.putfield 73, 3) := by decide +kernel
theorem dX9_pass_54 : decode cX9_pass 54 = .ok (.aload_n 0, 1) := by decide +kernel
theorem dX9_pass_55 : decode cX9_pass 55 = .ok (.getfield 73, 3) := by decide +kernel
theorem dX9_pass_58 : decode cX9_pass 58 = .ok (.ireturn, 1) := by decide +kernel
theorem dX9_now_0 : decode cX9_now 0 = .ok (.aload_n 0, 1) := by decide +kernel
theorem dX9_now_1 : decode cX9_now 1 = .ok (.iconst 0, 1) := by decide +kernel
theorem dX9_now_2 : decode cX9_now 2 = .ok (.putfield 47, 3) := by decide +kernel
theorem dX9_now_5 : decode cX9_now 5 = .ok (.aload_n 0, 1) := by decide +kernel
theorem dX9_now_6 : decode cX9_now 6 = .ok (.getfield 73, 3) := by decide +kernel
theorem dX9_now_9 : decode cX9_now 9 = .ok (.ireturn, 1) := by decide +kernel
theorem dX9_hop_0 : decode cX9_hop 0 = .ok (.aload_n 0, 1) := by decide +kernel
theorem dX9_hop_1 : decode cX9_hop 1 = .ok (.iload_n 1, 1) := by decide +kernel
theorem dX9_hop_2 : decode cX9_hop 2 = .ok (.iconst 1, 1) := by decide +kernel
theorem dX9_hop_3 : decode cX9_hop 3 = .ok (.bipush 30, 2) := by decide +kernel
theorem dX9_hop_5 : decode cX9_hop 5 = .ok (.invokestatic 51, 3) := by decide +kernel
theorem dX9_hop_8 : decode cX9_hop 8 = .ok (.ifCond .ne 7, 3) := by decide +kernel
theorem dX9_hop_11 : decode cX9_hop 11 = .ok (.iconst 1, 1) := by decide +kernel
theorem dX9_hop_12 : decode cX9_hop 12 = .ok (.goto 17, 3) := by decide +kernel
theorem dX9_hop_15 : decode cX9_hop 15 = .ok (.aload_n 0, 1) := by decide +kernel
theorem dX9_hop_16 : decode cX9_hop 16 = .ok (.getfield 77, 3) := by decide +kernel
theorem dX9_hop_19 : decode cX9_hop 19 = .ok (.bipush 8, 2) := by decide +kernel
theorem dX9_hop_21 : decode cX9_hop 21 = .ok (.if_icmp .ne 7, 3) := by decide +kernel
theorem dX9_hop_24 : decode cX9_hop 24 = .ok (.iconst 2, 1) := by decide +kernel
theorem dX9_hop_25 : decode cX9_hop 25 = .ok (.goto 4, 3) := by decide +kernel
theorem dX9_hop_28 : decode cX9_hop 28 = .ok (.iconst 0, 1) := by decide +kernel
theorem dX9_hop_29 : decode cX9_hop 29 = .ok (.putfield 47, 3) := by decide +kernel
theorem dX9_hop_32 : decode cX9_hop 32 = .ok (.iconst 0, 1) := by decide +kernel
theorem dX9_hop_33 : decode cX9_hop 33 = .ok (.istore_n 2, 1) := by decide +kernel
theorem dX9_hop_34 : decode cX9_hop 34 = .ok (.iload_n 2, 1) := by decide +kernel
theorem dX9_hop_35 : decode cX9_hop 35 = .ok (.aload_n 0, 1) := by decide +kernel
theorem dX9_hop_36 : decode cX9_hop 36 = .ok (.getfield 77, 3) := by decide +kernel
theorem dX9_hop_39 : decode cX9_hop 39 = .ok (.if_icmp .ge 50, 3) := by decide +kernel
theorem dX9_hop_42 : decode cX9_hop 42 = .ok (.aload_n 0, 1) := by decide +kernel
theorem dX9_hop_43 : decode cX9_hop 43 = .ok (.getfield 47, 3) := by decide +kernel
theorem dX9_hop_46 : decode cX9_hop 46 = .ok (.ifCond .ne 43, 3) := by decide +kernel
theorem dX9_hop_49 : decode cX9_hop 49 = .ok (.aload_n 0, 1) := by decide +kernel
theorem dX9_hop_50 : decode cX9_hop 50 = .ok (.aload_n 0, 1) := by decide +kernel
theorem dX9_hop_51 : decode cX9_hop 51 = .ok (.getfield 7, 3) := by decide +kernel
theorem dX9_hop_54 : decode cX9_hop 54 = .ok (.iload_n 2, 1) := by decide +kernel
theorem dX9_hop_55 : decode cX9_hop 55 = .ok (.iaload, 1) := by decide +kernel
theorem dX9_hop_56 : decode cX9_hop 56 = .ok (.iload_n 1, 1) := by decide +kernel
theorem dX9_hop_57 : decode cX9_hop 57 = .ok (.if_icmp .ne 22, 3) := by decide +kernel
theorem dX9_hop_60 : decode cX9_hop 60 = .ok (.aload_n 0, 1) := by decide +kernel
theorem dX9_hop_61 : decode cX9_hop 61 = .ok (.getfield 7, 3) := by decide +kernel
theorem dX9_hop_64 : decode cX9_hop 64 = .ok (.aload_n 0, 1) := by decide +kernel
theorem dX9_hop_65 : decode cX9_hop 65 = .ok (.getfield 77, 3) := by decide +kernel
theorem dX9_hop_68 : decode cX9_hop 68 = .ok (.iconst 1, 1) := by decide +kernel
theorem dX9_hop_69 : decode cX9_hop 69 = .ok (.isub, 1) := by decide +kernel
theorem dX9_hop_70 : decode cX9_hop 70 = .ok (.iaload, 1) := by decide +kernel
theorem dX9_hop_71 : decode cX9_hop 71 = .ok (.iload_n 1, 1) := by decide +kernel
theorem dX9_hop_72 : decode cX9_hop 72 = .ok (.if_icmp .eq 7, 3) := by decide +kernel
theorem dX9_hop_75 : decode cX9_hop 75 = .ok (.iconst 2, 1) := by decide +kernel
theorem dX9_hop_76 : decode cX9_hop 76 = .ok (.goto 4, 3) := by decide +kernel
theorem dX9_hop_79 : decode cX9_hop 79 = .ok (.iconst 0, 1) := by decide +kernel
theorem dX9_hop_80 : decode cX9_hop 80 = .ok (.putfield 47, 3) := by decide +kernel
theorem dX9_hop_83 : decode cX9_hop 83 = .ok (.iinc 2 1, 3) := by decide +kernel
theorem dX9_hop_86 : decode cX9_hop 86 = .ok (.goto (-52), 3) := by decide +kernel
theorem dX9_hop_89 : decode cX9_hop 89 = .ok (.aload_n 0, 1) := by decide +kernel
theorem dX9_hop_90 : decode cX9_hop 90 = .ok (.getfield 47, 3) := by decide +kernel
theorem dX9_hop_93 : decode cX9_hop 93 = .ok (.ifCond .le 5, 3) := by decide +kernel
theorem dX9_hop_96 : decode cX9_hop 96 = .ok (.iconst 0, 1) := by decide +kernel
theorem dX9_hop_97 : decode cX9_hop 97 = .ok (.ireturn, 1) := by decide +kernel
theorem dX9_hop_98 : decode cX9_hop 98 = .ok (.aload_n 0, 1) := by decide +kernel
theorem dX9_hop_99 : decode cX9_hop 99 = .ok (.getfield 7, 3) := by decide +kernel
theorem dX9_hop_102 : decode cX9_hop 102 = .ok (.aload_n 0, 1) := by decide +kernel
theorem dX9_hop_103 : decode cX9_hop 103 = .ok (.getfield 77, 3) := by decide +kernel
theorem dX9_hop_106 : decode cX9_hop 106 = .ok (.iload_n 1, 1) := by decide +kernel
theorem dX9_hop_107 : decode cX9_hop 107 = .ok (.iastore, 1) := by decide +kernel
theorem dX9_hop_108 : decode cX9_hop 108 = .ok (.aload_n 0, 1) := by decide +kernel
theorem dX9_hop_109 : decode cX9_hop 109 = .ok (.dup, 1) := by decide +kernel
theorem dX9_hop_110 : decode cX9_hop 110 = .ok (.getfield 77, 3) := by decide +kernel
theorem dX9_hop_113 : decode cX9_hop 113 = .ok (.iconst 1, 1) := by decide +kernel
theorem dX9_hop_114 : decode cX9_hop 114 = .ok (.iadd, 1) := by decide +kernel
theorem dX9_hop_115 : decode cX9_hop 115 = .ok (.putfield 77, 3) := by decide +kernel
theorem dX9_hop_118 : decode cX9_hop 118 = .ok (.aload_n 0, 1) := by decide +kernel
theorem dX9_hop_119 : decode cX9_hop 119 = .ok (.getfield 77, 3) := by decide +kernel
theorem dX9_hop_122 : decode cX9_hop 122 = .ok (.ireturn, 1) := by decide +kernel
theorem dX9_clearPath_0 : decode cX9_clearPath 0 = .ok (.aload_n 0, 1) := by decide +kernel
theorem dX9_clearPath_1 : decode cX9_clearPath 1 = .ok (.iconst 0, 1) := by decide +kernel
theorem dX9_clearPath_2 : decode cX9_clearPath 2 = .ok (.putfield 47, 3) := by decide +kernel
theorem dX9_clearPath_5 : decode cX9_clearPath 5 = .ok (.aload_n 0, 1) := by decide +kernel
theorem dX9_clearPath_6 : decode cX9_clearPath 6 = .ok (.getfield 77, 3) := by decide +kernel
theorem dX9_clearPath_9 : decode cX9_clearPath 9 = .ok (.istore_n 1, 1) := by decide +kernel
theorem dX9_clearPath_10 : decode cX9_clearPath 10 = .ok (.aload_n 0, 1) := by decide +kernel
theorem dX9_clearPath_11 : decode cX9_clearPath 11 = .ok (.iconst 0, 1) := by decide +kernel
theorem dX9_clearPath_12 : decode cX9_clearPath 12 = .ok (.putfield 77, 3) := by decide +kernel
theorem dX9_clearPath_15 : decode cX9_clearPath 15 = .ok (.iload_n 1, 1) := by decide +kernel
theorem dX9_clearPath_16 : decode cX9_clearPath 16 = .ok (.ireturn, 1) := by decide +kernel
theorem dX9_isPeer_0 : decode cX9_isPeer 0 = .ok (.iload_n 0, 1) := by decide +kernel
theorem dX9_isPeer_1 : decode cX9_isPeer 1 = .ok (.iconst 0, 1) := by decide +kernel
theorem dX9_isPeer_2 : decode cX9_isPeer 2 = .ok (.iconst 5, 1) := by decide +kernel
theorem dX9_isPeer_3 : decode cX9_isPeer 3 = .ok (.invokestatic 51, 3) := by decide +kernel
theorem dX9_isPeer_6 : decode cX9_isPeer 6 = .ok (.ireturn, 1) := by decide +kernel
theorem dX9_update_0 : decode cX9_update 0 = .ok (.aload_n 0, 1) := by decide +kernel
theorem dX9_update_1 : decode cX9_update 1 = .ok (.getfield 13, 3) := by decide +kernel
theorem dX9_update_4 : decode cX9_update 4 = .ok (.aload_n 0, 1) := by decide +kernel
theorem dX9_update_5 : decode cX9_update 5 = .ok (.getfield 59, 3) := by decide +kernel
theorem dX9_update_8 : decode cX9_update 8 = .ok (.aload_n 0, 1) := by decide +kernel
theorem dX9_update_9 : decode cX9_update 9 = .ok (.getfield 73, 3) := by decide +kernel
theorem dX9_update_12 : decode cX9_update 12 = .ok (.iastore, 1) := by decide +kernel
theorem dX9_update_13 : decode cX9_update 13 = .ok (.aload_n 0, 1) := by decide +kernel
theorem dX9_update_14 : decode cX9_update 14 = .ok (.getfield 16, 3) := by decide +kernel
theorem dX9_update_17 : decode cX9_update 17 = .ok (.aload_n 0, 1) := by decide +kernel
theorem dX9_update_18 : decode cX9_update 18 = .ok (.getfield 59, 3) := by decide +kernel
theorem dX9_update_21 : decode cX9_update 21 = .ok (.iload_n 1, 1) := by decide +kernel
theorem dX9_update_22 : decode cX9_update 22 = .ok (.iastore, 1) := by decide +kernel
theorem dX9_update_23 : decode cX9_update 23 = .ok (.aload_n 0, 1) := by decide +kernel
theorem dX9_update_24 : decode cX9_update 24 = .ok (.getfield 19, 3) := by decide +kernel
theorem dX9_update_27 : decode cX9_update 27 = .ok (.aload_n 0, 1) := by decide +kernel
theorem dX9_update_28 : decode cX9_update 28 = .ok (.getfield 59, 3) := by decide +kernel
theorem dX9_update_31 : decode cX9_update 31 = .ok (.iload_n 2, 1) := by decide +kernel
theorem dX9_update_32 : decode cX9_update 32 = .ok (.iastore, 1) := by decide +kernel
theorem dX9_update_33 : decode cX9_update 33 = .ok (.aload_n 0, 1) := by decide +kernel
theorem dX9_update_34 : decode cX9_update 34 = .ok (.getfield 22, 3) := by decide +kernel
theorem dX9_update_37 : decode cX9_update 37 = .ok (.aload_n 0, 1) := by decide +kernel
theorem dX9_update_38 : decode cX9_update 38 = .ok (.getfield 59, 3) := by decide +kernel
theorem dX9_update_41 : decode cX9_update 41 = .ok (.iload_n 3, 1) := by decide +kernel
theorem dX9_update_42 : decode cX9_update 42 = .ok (.iastore, 1) := by decide +kernel
theorem dX9_update_43 : decode cX9_update 43 = .ok (.iconst 0, 1) := by decide +kernel
theorem dX9_update_44 : decode cX9_update 44 = .ok (.istore 4, 2) := by decide +kernel
theorem dX9_update_46 : decode cX9_update 46 = .ok (.iload 4, 2) := by decide +kernel
theorem dX9_update_48 : decode cX9_update 48 = .ok (.iload_n 3, 1) := by decide +kernel
theorem dX9_update_49 : decode cX9_update 49 = .ok (.if_icmp .ge 31, 3) := by decide +kernel
theorem dX9_update_52 : decode cX9_update 52 = .ok (.aload_n 0, 1) := by decide +kernel
theorem dX9_update_53 : decode cX9_update 53 = .ok (.getfield 25, 3) := by decide +kernel
theorem dX9_update_56 : decode cX9_update 56 = .ok (.bipush 8, 2) := by decide +kernel
theorem dX9_update_58 : decode cX9_update 58 = .ok (.aload_n 0, 1) := by decide +kernel
theorem dX9_update_59 : decode cX9_update 59 = .ok (.getfield 59, 3) := by decide +kernel
theorem dX9_update_62 : decode cX9_update 62 = .ok (.imul, 1) := by decide +kernel
theorem dX9_update_63 : decode cX9_update 63 = .ok (.iload 4, 2) := by decide +kernel
theorem dX9_update_65 : decode cX9_update 65 = .ok (.iadd, 1) := by decide +kernel
theorem dX9_update_66 : decode cX9_update 66 = .ok (.aload_n 0, 1) := by decide +kernel
theorem dX9_update_67 : decode cX9_update 67 = .ok (.getfield 7, 3) := by decide +kernel
theorem dX9_update_70 : decode cX9_update 70 = .ok (.iload 4, 2) := by decide +kernel
theorem dX9_update_72 : decode cX9_update 72 = .ok (.iaload, 1) := by decide +kernel
theorem dX9_update_73 : decode cX9_update 73 = .ok (.iastore, 1) := by decide +kernel
theorem dX9_update_74 : decode cX9_update 74 = .ok (.iinc 4 1, 3) := by decide +kernel
theorem dX9_update_77 : decode cX9_update 77 = .ok (.goto (-31), 3) := by decide +kernel
theorem dX9_update_80 : decode cX9_update 80 = .ok (.aload_n 0, 1) := by decide +kernel
theorem dX9_update_81 : decode cX9_update 81 = .ok (.dup, 1) := by decide +kernel
theorem dX9_update_82 : decode cX9_update 82 = .ok (.getfield 59, 3) := by decide +kernel
theorem dX9_update_85 : decode cX9_update 85 = .ok (.iconst 1, 1) := by decide +kernel
theorem dX9_update_86 : decode cX9_update 86 = .ok (.iadd, 1) := by decide +kernel
theorem dX9_update_87 : decode cX9_update 87 = .ok (.putfield 59, 3) := by decide +kernel
theorem dX9_update_90 : decode cX9_update 90 = .ok (.aload_n 0, 1) := by decide +kernel
theorem dX9_update_91 : decode cX9_update 91 = .ok (.iconst 0, 1) := by decide +kernel
theorem dX9_update_92 : decode cX9_update 92 = .ok (.aload_n 0, 1) := by decide +kernel
theorem dX9_update_93 : decode cX9_update 93 = .ok (.getfield 59, 3) := by decide +kernel
theorem dX9_update_96 : decode cX9_update 96 = .ok (.iconst 1, 1) := by decide +kernel
theorem dX9_update_97 : decode cX9_update 97 = .ok (.isub, 1) := by decide +kernel
theorem dX9_update_98 : decode cX9_update 98 = .ok (.invokevirtual 62, 3) := by decide +kernel
theorem dX9_update_101 : decode cX9_update 101 = .ok (.return_, 1) := by decide +kernel
theorem dX9_announce_0 : decode cX9_announce 0 = .ok (.aload_n 0, 1) := by decide +kernel
theorem dX9_announce_1 : decode cX9_announce 1 = .ok (.iload_n 1, 1) := by decide +kernel
theorem dX9_announce_2 : decode cX9_announce 2 = .ok (.invokestatic 80, 3) := by decide +kernel
theorem dX9_announce_5 : decode cX9_announce 5 = .ok (.ifCond .ne 7, 3) := by decide +kernel
theorem dX9_announce_8 : decode cX9_announce 8 = .ok (.iconst 1, 1) := by decide +kernel
theorem dX9_announce_9 : decode cX9_announce 9 = .ok (.goto 49, 3) := by decide +kernel
theorem dX9_announce_12 : decode cX9_announce 12 = .ok (.iload_n 2, 1) := by decide +kernel
theorem dX9_announce_13 : decode cX9_announce 13 = .ok (.iload_n 3, 1) := by decide +kernel
theorem dX9_announce_14 : decode cX9_announce 14 = .ok (.invokestatic 84, 3) := by decide +kernel
theorem dX9_announce_17 : decode cX9_announce 17 = .ok (.ifCond .ne 7, 3) := by decide +kernel
theorem dX9_announce_20 : decode cX9_announce 20 = .ok (.iconst 2, 1) := by decide +kernel
theorem dX9_announce_21 : decode cX9_announce 21 = .ok (.goto 37, 3) := by decide +kernel
theorem dX9_announce_24 : decode cX9_announce 24 = .ok (.aload_n 0, 1) := by decide +kernel
theorem dX9_announce_25 : decode cX9_announce 25 = .ok (.getfield 77, 3) := by decide +kernel
theorem dX9_announce_28 : decode cX9_announce 28 = .ok (.ifCond .eq 25, 3) := by decide +kernel
theorem dX9_announce_31 : decode cX9_announce 31 = .ok (.aload_n 0, 1) := by decide +kernel
theorem dX9_announce_32 : decode cX9_announce 32 = .ok (.getfield 7, 3) := by decide +kernel
theorem dX9_announce_35 : decode cX9_announce 35 = .ok (.iconst 0, 1) := by decide +kernel
theorem dX9_announce_36 : decode cX9_announce 36 = .ok (.iaload, 1) := by decide +kernel
theorem dX9_announce_37 : decode cX9_announce 37 = .ok (.iload_n 1, 1) := by decide +kernel
theorem dX9_announce_38 : decode cX9_announce 38 = .ok (.iconst 1, 1) := by decide +kernel
theorem dX9_announce_39 : decode cX9_announce 39 = .ok (.iadd, 1) := by decide +kernel
theorem dX9_announce_40 : decode cX9_announce 40 = .ok (.if_icmp .ne 13, 3) := by decide +kernel
theorem dX9_announce_43 : decode cX9_announce 43 = .ok (.aload_n 0, 1) := by decide +kernel
theorem dX9_announce_44 : decode cX9_announce 44 = .ok (.getfield 59, 3) := by decide +kernel
theorem dX9_announce_47 : decode cX9_announce 47 = .ok (.sipush 300, 3) := by decide +kernel
theorem dX9_announce_50 : decode cX9_announce 50 = .ok (.if_icmp .ne 7, 3) := by decide +kernel
theorem dX9_announce_53 : decode cX9_announce 53 = .ok (.iconst 3, 1) := by decide +kernel
theorem dX9_announce_54 : decode cX9_announce 54 = .ok (.goto 4, 3) := by decide +kernel
theorem dX9_announce_57 : decode cX9_announce 57 = .ok (.iconst 0, 1) := by decide +kernel
theorem dX9_announce_58 : decode cX9_announce 58 = .ok (.putfield 47, 3) := by decide +kernel
theorem dX9_announce_61 : decode cX9_announce 61 = .ok (.aload_n 0, 1) := by decide +kernel
theorem dX9_announce_62 : decode cX9_announce 62 = .ok (.getfield 47, 3) := by decide +kernel
theorem dX9_announce_65 : decode cX9_announce 65 = .ok (.ifCond .le 5, 3) := by decide +kernel
theorem dX9_announce_68 : decode cX9_announce 68 = .ok (.iconst 0, 1) := by decide +kernel
theorem dX9_announce_69 : decode cX9_announce 69 = .ok (.ireturn, 1) := by decide +kernel
theorem dX9_announce_70 : decode cX9_announce 70 = .ok (.iload_n 2, 1) := by decide +kernel
theorem dX9_announce_71 : decode cX9_announce 71 = .ok (.iload_n 3, 1) := by decide +kernel
theorem dX9_announce_72 : decode cX9_announce 72 = .ok (.invokestatic 66, 3) := by decide +kernel
theorem dX9_announce_75 : decode cX9_announce 75 = .ok (.istore 4, 2) := by decide +kernel
theorem dX9_announce_77 : decode cX9_announce 77 = .ok (.aload_n 0, 1) := by decide +kernel
theorem dX9_announce_78 : decode cX9_announce 78 = .ok (.getfield 28, 3) := by decide +kernel
theorem dX9_announce_81 : decode cX9_announce 81 = .ok (.iconst 0, 1) := by decide +kernel
theorem dX9_announce_82 : decode cX9_announce 82 = .ok (.iload_n 1, 1) := by decide +kernel
theorem dX9_announce_83 : decode cX9_announce 83 = .ok (.iload 4, 2) := by decide +kernel
theorem dX9_announce_85 : decode cX9_announce 85 = .ok (.invokestatic 55, 3) := by decide +kernel
theorem dX9_announce_88 : decode cX9_announce 88 = .ok (.iaload, 1) := by decide +kernel
theorem dX9_announce_89 : decode cX9_announce 89 = .ok (.iconst (-1), 1) := by decide +kernel
theorem dX9_announce_90 : decode cX9_announce 90 = .ok (.if_icmp .ne 7, 3) := by decide +kernel
theorem dX9_announce_93 : decode cX9_announce 93 = .ok (.iconst 1, 1) := by decide +kernel
theorem dX9_announce_94 : decode cX9_announce 94 = .ok (.goto 4, 3) := by decide +kernel
theorem dX9_announce_97 : decode cX9_announce 97 = .ok (.iconst 0, 1) := by decide +kernel
theorem dX9_announce_98 : decode cX9_announce 98 = .ok (.istore 5, 2) := by decide +kernel
theorem dX9_announce_100 : decode cX9_announce 100 = .ok (.aload_n 0, 1) := by decide +kernel
theorem dX9_announce_101 : decode cX9_announce 101 = .ok (.iload_n 1, 1) := by decide +kernel
theorem dX9_announce_102 : decode cX9_announce 102 = .ok (.iload 4, 2) := by decide +kernel
theorem dX9_announce_104 : decode cX9_announce 104 = .ok (.aload_n 0, 1) := by decide +kernel
theorem dX9_announce_105 : decode cX9_announce 105 = .ok (.getfield 77, 3) := by decide +kernel
theorem dX9_announce_108 : decode cX9_announce 108 = .ok (.invokevirtual 88, 3) := by decide +kernel
theorem dX9_announce_111 : decode cX9_announce 111 = .ok (.iload 5, 2) := by decide +kernel
theorem dX9_announce_113 : decode cX9_announce 113 = .ok (.ireturn, 1) := by decide +kernel
theorem dX9_route_0 : decode cX9_route 0 = .ok (.aload_n 0, 1) := by decide +kernel
theorem dX9_route_1 : decode cX9_route 1 = .ok (.iload_n 1, 1) := by decide +kernel
theorem dX9_route_2 : decode cX9_route 2 = .ok (.invokestatic 80, 3) := by decide +kernel
theorem dX9_route_5 : decode cX9_route 5 = .ok (.ifCond .ne 7, 3) := by decide +kernel
theorem dX9_route_8 : decode cX9_route 8 = .ok (.iconst 1, 1) := by decide +kernel
theorem dX9_route_9 : decode cX9_route 9 = .ok (.goto 16, 3) := by decide +kernel
theorem dX9_route_12 : decode cX9_route 12 = .ok (.iload_n 2, 1) := by decide +kernel
theorem dX9_route_13 : decode cX9_route 13 = .ok (.iload_n 3, 1) := by decide +kernel
theorem dX9_route_14 : decode cX9_route 14 = .ok (.invokestatic 84, 3) := by decide +kernel
theorem dX9_route_17 : decode cX9_route 17 = .ok (.ifCond .ne 7, 3) := by decide +kernel
theorem dX9_route_20 : decode cX9_route 20 = .ok (.iconst 2, 1) := by decide +kernel
theorem dX9_route_21 : decode cX9_route 21 = .ok (.goto 4, 3) := by decide +kernel
theorem dX9_route_24 : decode cX9_route 24 = .ok (.iconst 0, 1) := by decide +kernel
theorem dX9_route_25 : decode cX9_route 25 = .ok (.putfield 47, 3) := by decide +kernel
theorem dX9_route_28 : decode cX9_route 28 = .ok (.aload_n 0, 1) := by decide +kernel
theorem dX9_route_29 : decode cX9_route 29 = .ok (.getfield 47, 3) := by decide +kernel
theorem dX9_route_32 : decode cX9_route 32 = .ok (.ifCond .le 5, 3) := by decide +kernel
theorem dX9_route_35 : decode cX9_route 35 = .ok (.iconst (-1), 1) := by decide +kernel
theorem dX9_route_36 : decode cX9_route 36 = .ok (.ireturn, 1) := by decide +kernel
theorem dX9_route_37 : decode cX9_route 37 = .ok (.aload_n 0, 1) := by decide +kernel
theorem dX9_route_38 : decode cX9_route 38 = .ok (.getfield 28, 3) := by decide +kernel
theorem dX9_route_41 : decode cX9_route 41 = .ok (.iconst 0, 1) := by decide +kernel
theorem dX9_route_42 : decode cX9_route 42 = .ok (.iload_n 1, 1) := by decide +kernel
theorem dX9_route_43 : decode cX9_route 43 = .ok (.iload_n 2, 1) := by decide +kernel
theorem dX9_route_44 : decode cX9_route 44 = .ok (.iload_n 3, 1) := by decide +kernel
theorem dX9_route_45 : decode cX9_route 45 = .ok (.invokestatic 66, 3) := by decide +kernel
theorem dX9_route_48 : decode cX9_route 48 = .ok (.invokestatic 55, 3) := by decide +kernel
theorem dX9_route_51 : decode cX9_route 51 = .ok (.iaload, 1) := by decide +kernel
theorem dX9_route_52 : decode cX9_route 52 = .ok (.istore 4, 2) := by decide +kernel
theorem dX9_route_54 : decode cX9_route 54 = .ok (.aload_n 0, 1) := by decide +kernel
theorem dX9_route_55 : decode cX9_route 55 = .ok (.iload 4, 2) := by decide +kernel
theorem dX9_route_57 : decode cX9_route 57 = .ok (.iconst (-1), 1) := by decide +kernel
theorem dX9_route_58 : decode cX9_route 58 = .ok (.if_icmp .ne 7, 3) := by decide +kernel
theorem dX9_route_61 : decode cX9_route 61 = .ok (.iconst 3, 1) := by decide +kernel
theorem dX9_route_62 : decode cX9_route 62 = .ok (.goto 4, 3) := by decide +kernel
theorem dX9_route_65 : decode cX9_route 65 = .ok (.iconst 0, 1) := by decide +kernel
theorem dX9_route_66 : decode cX9_route 66 = .ok (.putfield 47, 3) := by decide +kernel
theorem dX9_route_69 : decode cX9_route 69 = .ok (.iload 4, 2) := by decide +kernel
theorem dX9_route_71 : decode cX9_route 71 = .ok (.ireturn, 1) := by decide +kernel
theorem dX9_withdraw_0 : decode cX9_withdraw 0 = .ok (.aload_n 0, 1) := by decide +kernel
theorem dX9_withdraw_1 : decode cX9_withdraw 1 = .ok (.iload_n 1, 1) := by decide +kernel
theorem dX9_withdraw_2 : decode cX9_withdraw 2 = .ok (.iload_n 2, 1) := by decide +kernel
theorem dX9_withdraw_3 : decode cX9_withdraw 3 = .ok (.iload_n 3, 1) := by decide +kernel
theorem dX9_withdraw_4 : decode cX9_withdraw 4 = .ok (.invokevirtual 92, 3) := by decide +kernel
theorem dX9_withdraw_7 : decode cX9_withdraw 7 = .ok (.istore 4, 2) := by decide +kernel
theorem dX9_withdraw_9 : decode cX9_withdraw 9 = .ok (.aload_n 0, 1) := by decide +kernel
theorem dX9_withdraw_10 : decode cX9_withdraw 10 = .ok (.getfield 47, 3) := by decide +kernel
theorem dX9_withdraw_13 : decode cX9_withdraw 13 = .ok (.ifCond .ne 18, 3) := by decide +kernel
theorem dX9_withdraw_16 : decode cX9_withdraw 16 = .ok (.aload_n 0, 1) := by decide +kernel
theorem dX9_withdraw_17 : decode cX9_withdraw 17 = .ok (.getfield 59, 3) := by decide +kernel
theorem dX9_withdraw_20 : decode cX9_withdraw 20 = .ok (.sipush 300, 3) := by decide +kernel
theorem dX9_withdraw_23 : decode cX9_withdraw 23 = .ok (.if_icmp .ne 8, 3) := by decide +kernel
theorem dX9_withdraw_26 : decode cX9_withdraw 26 = .ok (.aload_n 0, 1) := by decide +kernel
theorem dX9_withdraw_27 : decode cX9_withdraw 27 = .ok (.iconst 4, 1) := by decide +kernel
theorem dX9_withdraw_28 : decode cX9_withdraw 28 = .ok (.putfield 47, 3) := by decide +kernel
theorem dX9_withdraw_31 : decode cX9_withdraw 31 = .ok (.aload_n 0, 1) := by decide +kernel
theorem dX9_withdraw_32 : decode cX9_withdraw 32 = .ok (.getfield 47, 3) := by decide +kernel
theorem dX9_withdraw_35 : decode cX9_withdraw 35 = .ok (.ifCond .le 5, 3) := by decide +kernel
theorem dX9_withdraw_38 : decode cX9_withdraw 38 = .ok (.iconst 0, 1) := by decide +kernel
theorem dX9_withdraw_39 : decode cX9_withdraw 39 = .ok (.ireturn, 1) := by decide +kernel
theorem dX9_withdraw_40 : decode cX9_withdraw 40 = .ok (.aload_n 0, 1) := by decide +kernel
theorem dX9_withdraw_41 : decode cX9_withdraw 41 = .ok (.iload_n 1, 1) := by decide +kernel
theorem dX9_withdraw_42 : decode cX9_withdraw 42 = .ok (.aload_n 0, 1) := by decide +kernel
theorem dX9_withdraw_43 : decode cX9_withdraw 43 = .ok (.getfield 19, 3) := by decide +kernel
theorem dX9_withdraw_46 : decode cX9_withdraw 46 = .ok (.iload 4, 2) := by decide +kernel
theorem dX9_withdraw_48 : decode cX9_withdraw 48 = .ok (.iaload, 1) := by decide +kernel
theorem dX9_withdraw_49 : decode cX9_withdraw 49 = .ok (.iconst 0, 1) := by decide +kernel
theorem dX9_withdraw_50 : decode cX9_withdraw 50 = .ok (.invokevirtual 88, 3) := by decide +kernel
theorem dX9_withdraw_53 : decode cX9_withdraw 53 = .ok (.aload_n 0, 1) := by decide +kernel
theorem dX9_withdraw_54 : decode cX9_withdraw 54 = .ok (.iload_n 1, 1) := by decide +kernel
theorem dX9_withdraw_55 : decode cX9_withdraw 55 = .ok (.invokevirtual 95, 3) := by decide +kernel
theorem dX9_withdraw_58 : decode cX9_withdraw 58 = .ok (.ireturn, 1) := by decide +kernel
theorem dX9_drop_0 : decode cX9_drop 0 = .ok (.aload_n 0, 1) := by decide +kernel
theorem dX9_drop_1 : decode cX9_drop 1 = .ok (.iload_n 1, 1) := by decide +kernel
theorem dX9_drop_2 : decode cX9_drop 2 = .ok (.invokestatic 80, 3) := by decide +kernel
theorem dX9_drop_5 : decode cX9_drop 5 = .ok (.ifCond .ne 7, 3) := by decide +kernel
theorem dX9_drop_8 : decode cX9_drop 8 = .ok (.iconst 1, 1) := by decide +kernel
theorem dX9_drop_9 : decode cX9_drop 9 = .ok (.goto 18, 3) := by decide +kernel
theorem dX9_drop_12 : decode cX9_drop 12 = .ok (.aload_n 0, 1) := by decide +kernel
theorem dX9_drop_13 : decode cX9_drop 13 = .ok (.getfield 59, 3) := by decide +kernel
theorem dX9_drop_16 : decode cX9_drop 16 = .ok (.sipush 300, 3) := by decide +kernel
theorem dX9_drop_19 : decode cX9_drop 19 = .ok (.if_icmp .ne 7, 3) := by decide +kernel
theorem dX9_drop_22 : decode cX9_drop 22 = .ok (.iconst 2, 1) := by decide +kernel
theorem dX9_drop_23 : decode cX9_drop 23 = .ok (.goto 4, 3) := by decide +kernel
theorem dX9_drop_26 : decode cX9_drop 26 = .ok (.iconst 0, 1) := by decide +kernel
theorem dX9_drop_27 : decode cX9_drop 27 = .ok (.putfield 47, 3) := by decide +kernel
theorem dX9_drop_30 : decode cX9_drop 30 = .ok (.aload_n 0, 1) := by decide +kernel
theorem dX9_drop_31 : decode cX9_drop 31 = .ok (.getfield 47, 3) := by decide +kernel
theorem dX9_drop_34 : decode cX9_drop 34 = .ok (.ifCond .le 5, 3) := by decide +kernel
theorem dX9_drop_37 : decode cX9_drop 37 = .ok (.iconst 0, 1) := by decide +kernel
theorem dX9_drop_38 : decode cX9_drop 38 = .ok (.ireturn, 1) := by decide +kernel
theorem dX9_drop_39 : decode cX9_drop 39 = .ok (.aload_n 0, 1) := by decide +kernel
theorem dX9_drop_40 : decode cX9_drop 40 = .ok (.iload_n 1, 1) := by decide +kernel
theorem dX9_drop_41 : decode cX9_drop 41 = .ok (.invokevirtual 95, 3) := by decide +kernel
theorem dX9_drop_44 : decode cX9_drop 44 = .ok (.istore_n 2, 1) := by decide +kernel
theorem dX9_drop_45 : decode cX9_drop 45 = .ok (.aload_n 0, 1) := by decide +kernel
theorem dX9_drop_46 : decode cX9_drop 46 = .ok (.iload_n 1, 1) := by decide +kernel
theorem dX9_drop_47 : decode cX9_drop 47 = .ok (.iconst 0, 1) := by decide +kernel
theorem dX9_drop_48 : decode cX9_drop 48 = .ok (.iconst 0, 1) := by decide +kernel
theorem dX9_drop_49 : decode cX9_drop 49 = .ok (.invokevirtual 88, 3) := by decide +kernel
theorem dX9_drop_52 : decode cX9_drop 52 = .ok (.iload_n 2, 1) := by decide +kernel
theorem dX9_drop_53 : decode cX9_drop 53 = .ok (.ireturn, 1) := by decide +kernel
theorem dX9_updates_0 : decode cX9_updates 0 = .ok (.aload_n 0, 1) := by decide +kernel
theorem dX9_updates_1 : decode cX9_updates 1 = .ok (.iconst 0, 1) := by decide +kernel
theorem dX9_updates_2 : decode cX9_updates 2 = .ok (.putfield 47, 3) := by decide +kernel
theorem dX9_updates_5 : decode cX9_updates 5 = .ok (.aload_n 0, 1) := by decide +kernel
theorem dX9_updates_6 : decode cX9_updates 6 = .ok (.getfield 59, 3) := by decide +kernel
theorem dX9_updates_9 : decode cX9_updates 9 = .ok (.ireturn, 1) := by decide +kernel
theorem dX9_routes_0 : decode cX9_routes 0 = .ok (.aload_n 0, 1) := by decide +kernel
theorem dX9_routes_1 : decode cX9_routes 1 = .ok (.iload_n 1, 1) := by decide +kernel
theorem dX9_routes_2 : decode cX9_routes 2 = .ok (.invokestatic 80, 3) := by decide +kernel
theorem dX9_routes_5 : decode cX9_routes 5 = .ok (.ifCond .eq 7, 3) := by decide +kernel
theorem dX9_routes_8 : decode cX9_routes 8 = .ok (.iconst 0, 1) := by decide +kernel
theorem dX9_routes_9 : decode cX9_routes 9 = .ok (.goto 4, 3) := by decide +kernel
theorem dX9_routes_12 : decode cX9_routes 12 = .ok (.iconst 1, 1) := by decide +kernel
theorem dX9_routes_13 : decode cX9_routes 13 = .ok (.putfield 47, 3) := by decide +kernel
theorem dX9_routes_16 : decode cX9_routes 16 = .ok (.aload_n 0, 1) := by decide +kernel
theorem dX9_routes_17 : decode cX9_routes 17 = .ok (.getfield 47, 3) := by decide +kernel
theorem dX9_routes_20 : decode cX9_routes 20 = .ok (.ifCond .ne 11, 3) := by decide +kernel
theorem dX9_routes_23 : decode cX9_routes 23 = .ok (.aload_n 0, 1) := by decide +kernel
theorem dX9_routes_24 : decode cX9_routes 24 = .ok (.iload_n 1, 1) := by decide +kernel
theorem dX9_routes_25 : decode cX9_routes 25 = .ok (.invokevirtual 95, 3) := by decide +kernel
theorem dX9_routes_28 : decode cX9_routes 28 = .ok (.goto 4, 3) := by decide +kernel
theorem dX9_routes_31 : decode cX9_routes 31 = .ok (.iconst 0, 1) := by decide +kernel
theorem dX9_routes_32 : decode cX9_routes 32 = .ok (.ireturn, 1) := by decide +kernel
theorem dX9_prefixes_0 : decode cX9_prefixes 0 = .ok (.aload_n 0, 1) := by decide +kernel
theorem dX9_prefixes_1 : decode cX9_prefixes 1 = .ok (.iconst 0, 1) := by decide +kernel
theorem dX9_prefixes_2 : decode cX9_prefixes 2 = .ok (.putfield 47, 3) := by decide +kernel
theorem dX9_prefixes_5 : decode cX9_prefixes 5 = .ok (.iconst 0, 1) := by decide +kernel
theorem dX9_prefixes_6 : decode cX9_prefixes 6 = .ok (.istore_n 1, 1) := by decide +kernel
theorem dX9_prefixes_7 : decode cX9_prefixes 7 = .ok (.iconst 1, 1) := by decide +kernel
theorem dX9_prefixes_8 : decode cX9_prefixes 8 = .ok (.istore_n 2, 1) := by decide +kernel
theorem dX9_prefixes_9 : decode cX9_prefixes 9 = .ok (.iload_n 2, 1) := by decide +kernel
theorem dX9_prefixes_10 : decode cX9_prefixes 10 = .ok (.sipush 512, 3) := by decide +kernel
theorem dX9_prefixes_13 : decode cX9_prefixes 13 = .ok (.if_icmp .ge 27, 3) := by decide +kernel
theorem dX9_prefixes_16 : decode cX9_prefixes 16 = .ok (.iload_n 1, 1) := by decide +kernel
theorem dX9_prefixes_17 : decode cX9_prefixes 17 = .ok (.aload_n 0, 1) := by decide +kernel
theorem dX9_prefixes_18 : decode cX9_prefixes 18 = .ok (.iconst 0, 1) := by decide +kernel
theorem dX9_prefixes_19 : decode cX9_prefixes 19 = .ok (.iload_n 2, 1) := by decide +kernel
theorem dX9_prefixes_20 : decode cX9_prefixes 20 = .ok (.invokevirtual 70, 3) := by decide +kernel
theorem dX9_prefixes_23 : decode cX9_prefixes 23 = .ok (.iconst (-1), 1) := by decide +kernel
theorem dX9_prefixes_24 : decode cX9_prefixes 24 = .ok (.if_icmp .ne 7, 3) := by decide +kernel
theorem dX9_prefixes_27 : decode cX9_prefixes 27 = .ok (.iconst 0, 1) := by decide +kernel
theorem dX9_prefixes_28 : decode cX9_prefixes 28 = .ok (.goto 4, 3) := by decide +kernel
theorem dX9_prefixes_31 : decode cX9_prefixes 31 = .ok (.iconst 1, 1) := by decide +kernel
theorem dX9_prefixes_32 : decode cX9_prefixes 32 = .ok (.iadd, 1) := by decide +kernel
theorem dX9_prefixes_33 : decode cX9_prefixes 33 = .ok (.istore_n 1, 1) := by decide +kernel
theorem dX9_prefixes_34 : decode cX9_prefixes 34 = .ok (.iinc 2 1, 3) := by decide +kernel
theorem dX9_prefixes_37 : decode cX9_prefixes 37 = .ok (.goto (-28), 3) := by decide +kernel
theorem dX9_prefixes_40 : decode cX9_prefixes 40 = .ok (.iload_n 1, 1) := by decide +kernel
theorem dX9_prefixes_41 : decode cX9_prefixes 41 = .ok (.ireturn, 1) := by decide +kernel
theorem dX9_pathAt_0 : decode cX9_pathAt 0 = .ok (.iload 4, 2) := by decide +kernel
theorem dX9_pathAt_2 : decode cX9_pathAt 2 = .ok (.ifCond .ge 7, 3) := by decide +kernel
theorem dX9_pathAt_5 : decode cX9_pathAt 5 = .ok (.iconst (-1), 1) := by decide +kernel
theorem dX9_pathAt_6 : decode cX9_pathAt 6 = .ok (.goto 10, 3) := by decide +kernel
theorem dX9_pathAt_9 : decode cX9_pathAt 9 = .ok (.aload_n 0, 1) := by decide +kernel
theorem dX9_pathAt_10 : decode cX9_pathAt 10 = .ok (.iload_n 1, 1) := by decide +kernel
theorem dX9_pathAt_11 : decode cX9_pathAt 11 = .ok (.iload_n 2, 1) := by decide +kernel
theorem dX9_pathAt_12 : decode cX9_pathAt 12 = .ok (.iload_n 3, 1) := by decide +kernel
theorem dX9_pathAt_13 : decode cX9_pathAt 13 = .ok (.invokevirtual 92, 3) := by decide +kernel
theorem dX9_pathAt_16 : decode cX9_pathAt 16 = .ok (.istore 5, 2) := by decide +kernel
theorem dX9_pathAt_18 : decode cX9_pathAt 18 = .ok (.aload_n 0, 1) := by decide +kernel
theorem dX9_pathAt_19 : decode cX9_pathAt 19 = .ok (.iload 4, 2) := by decide +kernel
theorem dX9_pathAt_21 : decode cX9_pathAt 21 = .ok (.ifCond .ge 7, 3) := by decide +kernel
theorem dX9_pathAt_24 : decode cX9_pathAt 24 = .ok (.iconst 1, 1) := by decide +kernel
theorem dX9_pathAt_25 : decode cX9_pathAt 25 = .ok (.goto 7, 3) := by decide +kernel
theorem dX9_pathAt_28 : decode cX9_pathAt 28 = .ok (.aload_n 0, 1) := by decide +kernel
theorem dX9_pathAt_29 : decode cX9_pathAt 29 = .ok (.getfield 47, 3) := by decide +kernel
theorem dX9_pathAt_32 : decode cX9_pathAt 32 = .ok (.putfield 47, 3) := by decide +kernel
theorem dX9_pathAt_35 : decode cX9_pathAt 35 = .ok (.aload_n 0, 1) := by decide +kernel
theorem dX9_pathAt_36 : decode cX9_pathAt 36 = .ok (.getfield 47, 3) := by decide +kernel
theorem dX9_pathAt_39 : decode cX9_pathAt 39 = .ok (.ifCond .le 5, 3) := by decide +kernel
theorem dX9_pathAt_42 : decode cX9_pathAt 42 = .ok (.iconst 0, 1) := by decide +kernel
theorem dX9_pathAt_43 : decode cX9_pathAt 43 = .ok (.ireturn, 1) := by decide +kernel
theorem dX9_pathAt_44 : decode cX9_pathAt 44 = .ok (.iload 4, 2) := by decide +kernel
theorem dX9_pathAt_46 : decode cX9_pathAt 46 = .ok (.aload_n 0, 1) := by decide +kernel
theorem dX9_pathAt_47 : decode cX9_pathAt 47 = .ok (.getfield 22, 3) := by decide +kernel
theorem dX9_pathAt_50 : decode cX9_pathAt 50 = .ok (.iload 5, 2) := by decide +kernel
theorem dX9_pathAt_52 : decode cX9_pathAt 52 = .ok (.iaload, 1) := by decide +kernel
theorem dX9_pathAt_53 : decode cX9_pathAt 53 = .ok (.if_icmp .ge 19, 3) := by decide +kernel
theorem dX9_pathAt_56 : decode cX9_pathAt 56 = .ok (.aload_n 0, 1) := by decide +kernel
theorem dX9_pathAt_57 : decode cX9_pathAt 57 = .ok (.getfield 25, 3) := by decide +kernel
theorem dX9_pathAt_60 : decode cX9_pathAt 60 = .ok (.bipush 8, 2) := by decide +kernel
theorem dX9_pathAt_62 : decode cX9_pathAt 62 = .ok (.iload 5, 2) := by decide +kernel
theorem dX9_pathAt_64 : decode cX9_pathAt 64 = .ok (.imul, 1) := by decide +kernel
theorem dX9_pathAt_65 : decode cX9_pathAt 65 = .ok (.iload 4, 2) := by decide +kernel
theorem dX9_pathAt_67 : decode cX9_pathAt 67 = .ok (.iadd, 1) := by decide +kernel
theorem dX9_pathAt_68 : decode cX9_pathAt 68 = .ok (.iaload, 1) := by decide +kernel
theorem dX9_pathAt_69 : decode cX9_pathAt 69 = .ok (.goto 4, 3) := by decide +kernel
theorem dX9_pathAt_72 : decode cX9_pathAt 72 = .ok (.iconst (-1), 1) := by decide +kernel
theorem dX9_pathAt_73 : decode cX9_pathAt 73 = .ok (.ireturn, 1) := by decide +kernel
theorem dX9_bestPeer_0 : decode cX9_bestPeer 0 = .ok (.aload_n 0, 1) := by decide +kernel
theorem dX9_bestPeer_1 : decode cX9_bestPeer 1 = .ok (.iload_n 1, 1) := by decide +kernel
theorem dX9_bestPeer_2 : decode cX9_bestPeer 2 = .ok (.iload_n 2, 1) := by decide +kernel
theorem dX9_bestPeer_3 : decode cX9_bestPeer 3 = .ok (.invokestatic 84, 3) := by decide +kernel
theorem dX9_bestPeer_6 : decode cX9_bestPeer 6 = .ok (.ifCond .eq 7, 3) := by decide +kernel
theorem dX9_bestPeer_9 : decode cX9_bestPeer 9 = .ok (.iconst 0, 1) := by decide +kernel
theorem dX9_bestPeer_10 : decode cX9_bestPeer 10 = .ok (.goto 4, 3) := by decide +kernel
theorem dX9_bestPeer_13 : decode cX9_bestPeer 13 = .ok (.iconst 1, 1) := by decide +kernel
theorem dX9_bestPeer_14 : decode cX9_bestPeer 14 = .ok (.putfield 47, 3) := by decide +kernel
theorem dX9_bestPeer_17 : decode cX9_bestPeer 17 = .ok (.aload_n 0, 1) := by decide +kernel
theorem dX9_bestPeer_18 : decode cX9_bestPeer 18 = .ok (.getfield 47, 3) := by decide +kernel
theorem dX9_bestPeer_21 : decode cX9_bestPeer 21 = .ok (.ifCond .le 5, 3) := by decide +kernel
theorem dX9_bestPeer_24 : decode cX9_bestPeer 24 = .ok (.iconst 0, 1) := by decide +kernel
theorem dX9_bestPeer_25 : decode cX9_bestPeer 25 = .ok (.ireturn, 1) := by decide +kernel
theorem dX9_bestPeer_26 : decode cX9_bestPeer 26 = .ok (.aload_n 0, 1) := by decide +kernel
theorem dX9_bestPeer_27 : decode cX9_bestPeer 27 = .ok (.iconst 0, 1) := by decide +kernel
theorem dX9_bestPeer_28 : decode cX9_bestPeer 28 = .ok (.iload_n 1, 1) := by decide +kernel
theorem dX9_bestPeer_29 : decode cX9_bestPeer 29 = .ok (.iload_n 2, 1) := by decide +kernel
theorem dX9_bestPeer_30 : decode cX9_bestPeer 30 = .ok (.invokestatic 66, 3) := by decide +kernel
theorem dX9_bestPeer_33 : decode cX9_bestPeer 33 = .ok (.invokevirtual 70, 3) := by decide +kernel
theorem dX9_bestPeer_36 : decode cX9_bestPeer 36 = .ok (.istore_n 3, 1) := by decide +kernel
theorem dX9_bestPeer_37 : decode cX9_bestPeer 37 = .ok (.iload_n 3, 1) := by decide +kernel
theorem dX9_bestPeer_38 : decode cX9_bestPeer 38 = .ok (.iconst (-1), 1) := by decide +kernel
theorem dX9_bestPeer_39 : decode cX9_bestPeer 39 = .ok (.if_icmp .ne 7, 3) := by decide +kernel
theorem dX9_bestPeer_42 : decode cX9_bestPeer 42 = .ok (.iconst (-1), 1) := by decide +kernel
theorem dX9_bestPeer_43 : decode cX9_bestPeer 43 = .ok (.goto 9, 3) := by decide +kernel
theorem dX9_bestPeer_46 : decode cX9_bestPeer 46 = .ok (.aload_n 0, 1) := by decide +kernel
theorem dX9_bestPeer_47 : decode cX9_bestPeer 47 = .ok (.getfield 16, 3) := by decide +kernel
theorem dX9_bestPeer_50 : decode cX9_bestPeer 50 = .ok (.iload_n 3, 1) := by decide +kernel
theorem dX9_bestPeer_51 : decode cX9_bestPeer 51 = .ok (.iaload, 1) := by decide +kernel
theorem dX9_bestPeer_52 : decode cX9_bestPeer 52 = .ok (.ireturn, 1) := by decide +kernel
theorem dX9_lengthFound_0 : decode cX9_lengthFound 0 = .ok (.aload_n 0, 1) := by decide +kernel
theorem dX9_lengthFound_1 : decode cX9_lengthFound 1 = .ok (.iload_n 1, 1) := by decide +kernel
theorem dX9_lengthFound_2 : decode cX9_lengthFound 2 = .ok (.iload_n 2, 1) := by decide +kernel
theorem dX9_lengthFound_3 : decode cX9_lengthFound 3 = .ok (.invokevirtual 99, 3) := by decide +kernel
theorem dX9_lengthFound_6 : decode cX9_lengthFound 6 = .ok (.istore_n 3, 1) := by decide +kernel
theorem dX9_lengthFound_7 : decode cX9_lengthFound 7 = .ok (.iload_n 3, 1) := by decide +kernel
theorem dX9_lengthFound_8 : decode cX9_lengthFound 8 = .ok (.ifCond .ne 7, 3) := by decide +kernel
theorem dX9_lengthFound_11 : decode cX9_lengthFound 11 = .ok (.iconst (-1), 1) := by decide +kernel
theorem dX9_lengthFound_12 : decode cX9_lengthFound 12 = .ok (.goto 7, 3) := by decide +kernel
theorem dX9_lengthFound_15 : decode cX9_lengthFound 15 = .ok (.iload_n 3, 1) := by decide +kernel
theorem dX9_lengthFound_16 : decode cX9_lengthFound 16 = .ok (.invokestatic 102, 3) := by decide +kernel
theorem dX9_lengthFound_19 : decode cX9_lengthFound 19 = .ok (.ireturn, 1) := by decide +kernel
theorem dX9_lookUp_0 : decode cX9_lookUp 0 = .ok (.aload_n 0, 1) := by decide +kernel
theorem dX9_lookUp_1 : decode cX9_lookUp 1 = .ok (.iload_n 1, 1) := by decide +kernel
theorem dX9_lookUp_2 : decode cX9_lookUp 2 = .ok (.iconst 0, 1) := by decide +kernel
theorem dX9_lookUp_3 : decode cX9_lookUp 3 = .ok (.sipush 255, 3) := by decide +kernel
theorem dX9_lookUp_6 : decode cX9_lookUp 6 = .ok (.invokestatic 51, 3) := by decide +kernel
theorem dX9_lookUp_9 : decode cX9_lookUp 9 = .ok (.ifCond .eq 7, 3) := by decide +kernel
theorem dX9_lookUp_12 : decode cX9_lookUp 12 = .ok (.iconst 0, 1) := by decide +kernel
theorem dX9_lookUp_13 : decode cX9_lookUp 13 = .ok (.goto 4, 3) := by decide +kernel
theorem dX9_lookUp_16 : decode cX9_lookUp 16 = .ok (.iconst 1, 1) := by decide +kernel
theorem dX9_lookUp_17 : decode cX9_lookUp 17 = .ok (.putfield 47, 3) := by decide +kernel
theorem dX9_lookUp_20 : decode cX9_lookUp 20 = .ok (.aload_n 0, 1) := by decide +kernel
theorem dX9_lookUp_21 : decode cX9_lookUp 21 = .ok (.getfield 47, 3) := by decide +kernel
theorem dX9_lookUp_24 : decode cX9_lookUp 24 = .ok (.ifCond .ne 12, 3) := by decide +kernel
theorem dX9_lookUp_27 : decode cX9_lookUp 27 = .ok (.aload_n 0, 1) := by decide +kernel
theorem dX9_lookUp_28 : decode cX9_lookUp 28 = .ok (.iconst 0, 1) := by decide +kernel
theorem dX9_lookUp_29 : decode cX9_lookUp 29 = .ok (.iload_n 1, 1) := by decide +kernel
theorem dX9_lookUp_30 : decode cX9_lookUp 30 = .ok (.invokevirtual 105, 3) := by decide +kernel
theorem dX9_lookUp_33 : decode cX9_lookUp 33 = .ok (.goto 4, 3) := by decide +kernel
theorem dX9_lookUp_36 : decode cX9_lookUp 36 = .ok (.iconst 0, 1) := by decide +kernel
theorem dX9_lookUp_37 : decode cX9_lookUp 37 = .ok (.ireturn, 1) := by decide +kernel
theorem dX9_lookUpByScan_0 : decode cX9_lookUpByScan 0 = .ok (.aload_n 0, 1) := by decide +kernel
theorem dX9_lookUpByScan_1 : decode cX9_lookUpByScan 1 = .ok (.iload_n 1, 1) := by decide +kernel
theorem dX9_lookUpByScan_2 : decode cX9_lookUpByScan 2 = .ok (.invokevirtual 108, 3) := by decide +kernel
theorem dX9_lookUpByScan_5 : decode cX9_lookUpByScan 5 = .ok (.ireturn, 1) := by decide +kernel
theorem dX9_originsOf_0 : decode cX9_originsOf 0 = .ok (.iconst 0, 1) := by decide +kernel
theorem dX9_originsOf_1 : decode cX9_originsOf 1 = .ok (.istore_n 2, 1) := by decide +kernel
theorem dX9_originsOf_2 : decode cX9_originsOf 2 = .ok (.iconst 0, 1) := by decide +kernel
theorem dX9_originsOf_3 : decode cX9_originsOf 3 = .ok (.istore_n 3, 1) := by decide +kernel
theorem dX9_originsOf_4 : decode cX9_originsOf 4 = .ok (.iconst 0, 1) := by decide +kernel
theorem dX9_originsOf_5 : decode cX9_originsOf 5 = .ok (.istore 4, 2) := by decide +kernel
theorem dX9_originsOf_7 : decode cX9_originsOf 7 = .ok (.iload 4, 2) := by decide +kernel
theorem dX9_originsOf_9 : decode cX9_originsOf 9 = .ok (.bipush 6, 2) := by decide +kernel
theorem dX9_originsOf_11 : decode cX9_originsOf 11 = .ok (.if_icmp .ge 65, 3) := by decide +kernel
theorem dX9_originsOf_14 : decode cX9_originsOf 14 = .ok (.aload_n 0, 1) := by decide +kernel
theorem dX9_originsOf_15 : decode cX9_originsOf 15 = .ok (.getfield 28, 3) := by decide +kernel
theorem dX9_originsOf_18 : decode cX9_originsOf 18 = .ok (.iconst 0, 1) := by decide +kernel
theorem dX9_originsOf_19 : decode cX9_originsOf 19 = .ok (.iload 4, 2) := by decide +kernel
theorem dX9_originsOf_21 : decode cX9_originsOf 21 = .ok (.iload_n 1, 1) := by decide +kernel
theorem dX9_originsOf_22 : decode cX9_originsOf 22 = .ok (.invokestatic 55, 3) := by decide +kernel
theorem dX9_originsOf_25 : decode cX9_originsOf 25 = .ok (.iaload, 1) := by decide +kernel
theorem dX9_originsOf_26 : decode cX9_originsOf 26 = .ok (.istore 5, 2) := by decide +kernel
theorem dX9_originsOf_28 : decode cX9_originsOf 28 = .ok (.iload 5, 2) := by decide +kernel
theorem dX9_originsOf_30 : decode cX9_originsOf 30 = .ok (.iconst (-1), 1) := by decide +kernel
theorem dX9_originsOf_31 : decode cX9_originsOf 31 = .ok (.if_icmp .ne 7, 3) := by decide +kernel
theorem dX9_originsOf_34 : decode cX9_originsOf 34 = .ok (.iconst 0, 1) := by decide +kernel
theorem dX9_originsOf_35 : decode cX9_originsOf 35 = .ok (.goto 11, 3) := by decide +kernel
theorem dX9_originsOf_38 : decode cX9_originsOf 38 = .ok (.iconst 1, 1) := by decide +kernel
theorem dX9_originsOf_39 : decode cX9_originsOf 39 = .ok (.aload_n 0, 1) := by decide +kernel
theorem dX9_originsOf_40 : decode cX9_originsOf 40 = .ok (.iload 5, 2) := by decide +kernel
theorem dX9_originsOf_42 : decode cX9_originsOf 42 = .ok (.invokevirtual 111, 3) := by decide +kernel
theorem dX9_originsOf_45 : decode cX9_originsOf 45 = .ok (.ishl, 1) := by decide +kernel
theorem dX9_originsOf_46 : decode cX9_originsOf 46 = .ok (.istore 6, 2) := by decide +kernel
theorem dX9_originsOf_48 : decode cX9_originsOf 48 = .ok (.iload_n 3, 1) := by decide +kernel
theorem dX9_originsOf_49 : decode cX9_originsOf 49 = .ok (.iload_n 2, 1) := by decide +kernel
theorem dX9_originsOf_50 : decode cX9_originsOf 50 = .ok (.iload 6, 2) := by decide +kernel
theorem dX9_originsOf_52 : decode cX9_originsOf 52 = .ok (.iand, 1) := by decide +kernel
theorem dX9_originsOf_53 : decode cX9_originsOf 53 = .ok (.iload 6, 2) := by decide +kernel
theorem dX9_originsOf_55 : decode cX9_originsOf 55 = .ok (.if_icmp .ne 7, 3) := by decide +kernel
theorem dX9_originsOf_58 : decode cX9_originsOf 58 = .ok (.iconst 0, 1) := by decide +kernel
theorem dX9_originsOf_59 : decode cX9_originsOf 59 = .ok (.goto 4, 3) := by decide +kernel
theorem dX9_originsOf_62 : decode cX9_originsOf 62 = .ok (.iconst 1, 1) := by decide +kernel
theorem dX9_originsOf_63 : decode cX9_originsOf 63 = .ok (.iadd, 1) := by decide +kernel
theorem dX9_originsOf_64 : decode cX9_originsOf 64 = .ok (.istore_n 3, 1) := by decide +kernel
theorem dX9_originsOf_65 : decode cX9_originsOf 65 = .ok (.iload_n 2, 1) := by decide +kernel
theorem dX9_originsOf_66 : decode cX9_originsOf 66 = .ok (.iload 6, 2) := by decide +kernel
theorem dX9_originsOf_68 : decode cX9_originsOf 68 = .ok (.ior, 1) := by decide +kernel
theorem dX9_originsOf_69 : decode cX9_originsOf 69 = .ok (.istore_n 2, 1) := by decide +kernel
theorem dX9_originsOf_70 : decode cX9_originsOf 70 = .ok (.iinc 4 1, 3) := by decide +kernel
theorem dX9_originsOf_73 : decode cX9_originsOf 73 = .ok (.goto (-66), 3) := by decide +kernel
theorem dX9_originsOf_76 : decode cX9_originsOf 76 = .ok (.iload_n 3, 1) := by decide +kernel
theorem dX9_originsOf_77 : decode cX9_originsOf 77 = .ok (.ireturn, 1) := by decide +kernel
theorem dX9_origins_0 : decode cX9_origins 0 = .ok (.aload_n 0, 1) := by decide +kernel
theorem dX9_origins_1 : decode cX9_origins 1 = .ok (.iload_n 1, 1) := by decide +kernel
theorem dX9_origins_2 : decode cX9_origins 2 = .ok (.iload_n 2, 1) := by decide +kernel
theorem dX9_origins_3 : decode cX9_origins 3 = .ok (.invokestatic 84, 3) := by decide +kernel
theorem dX9_origins_6 : decode cX9_origins 6 = .ok (.ifCond .eq 7, 3) := by decide +kernel
theorem dX9_origins_9 : decode cX9_origins 9 = .ok (.iconst 0, 1) := by decide +kernel
theorem dX9_origins_10 : decode cX9_origins 10 = .ok (.goto 4, 3) := by decide +kernel
theorem dX9_origins_13 : decode cX9_origins 13 = .ok (.iconst 1, 1) := by decide +kernel
theorem dX9_origins_14 : decode cX9_origins 14 = .ok (.putfield 47, 3) := by decide +kernel
theorem dX9_origins_17 : decode cX9_origins 17 = .ok (.aload_n 0, 1) := by decide +kernel
theorem dX9_origins_18 : decode cX9_origins 18 = .ok (.getfield 47, 3) := by decide +kernel
theorem dX9_origins_21 : decode cX9_origins 21 = .ok (.ifCond .ne 15, 3) := by decide +kernel
theorem dX9_origins_24 : decode cX9_origins 24 = .ok (.aload_n 0, 1) := by decide +kernel
theorem dX9_origins_25 : decode cX9_origins 25 = .ok (.iload_n 1, 1) := by decide +kernel
theorem dX9_origins_26 : decode cX9_origins 26 = .ok (.iload_n 2, 1) := by decide +kernel
theorem dX9_origins_27 : decode cX9_origins 27 = .ok (.invokestatic 66, 3) := by decide +kernel
theorem dX9_origins_30 : decode cX9_origins 30 = .ok (.invokevirtual 114, 3) := by decide +kernel
theorem dX9_origins_33 : decode cX9_origins 33 = .ok (.goto 4, 3) := by decide +kernel
theorem dX9_origins_36 : decode cX9_origins 36 = .ok (.iconst 0, 1) := by decide +kernel
theorem dX9_origins_37 : decode cX9_origins 37 = .ok (.ireturn, 1) := by decide +kernel
theorem dX9_contested_0 : decode cX9_contested 0 = .ok (.aload_n 0, 1) := by decide +kernel
theorem dX9_contested_1 : decode cX9_contested 1 = .ok (.iconst 0, 1) := by decide +kernel
theorem dX9_contested_2 : decode cX9_contested 2 = .ok (.putfield 47, 3) := by decide +kernel
theorem dX9_contested_5 : decode cX9_contested 5 = .ok (.iconst 0, 1) := by decide +kernel
theorem dX9_contested_6 : decode cX9_contested 6 = .ok (.istore_n 1, 1) := by decide +kernel
theorem dX9_contested_7 : decode cX9_contested 7 = .ok (.iconst 1, 1) := by decide +kernel
theorem dX9_contested_8 : decode cX9_contested 8 = .ok (.istore_n 2, 1) := by decide +kernel
theorem dX9_contested_9 : decode cX9_contested 9 = .ok (.iload_n 2, 1) := by decide +kernel
theorem dX9_contested_10 : decode cX9_contested 10 = .ok (.sipush 512, 3) := by decide +kernel
theorem dX9_contested_13 : decode cX9_contested 13 = .ok (.if_icmp .ge 26, 3) := by decide +kernel
theorem dX9_contested_16 : decode cX9_contested 16 = .ok (.iload_n 1, 1) := by decide +kernel
theorem dX9_contested_17 : decode cX9_contested 17 = .ok (.aload_n 0, 1) := by decide +kernel
theorem dX9_contested_18 : decode cX9_contested 18 = .ok (.iload_n 2, 1) := by decide +kernel
theorem dX9_contested_19 : decode cX9_contested 19 = .ok (.invokevirtual 114, 3) := by decide +kernel
theorem dX9_contested_22 : decode cX9_contested 22 = .ok (.iconst 1, 1) := by decide +kernel
theorem dX9_contested_23 : decode cX9_contested 23 = .ok (.if_icmp .le 7, 3) := by decide +kernel
theorem dX9_contested_26 : decode cX9_contested 26 = .ok (.iconst 1, 1) := by decide +kernel
theorem dX9_contested_27 : decode cX9_contested 27 = .ok (.goto 4, 3) := by decide +kernel
theorem dX9_contested_30 : decode cX9_contested 30 = .ok (.iconst 0, 1) := by decide +kernel
theorem dX9_contested_31 : decode cX9_contested 31 = .ok (.iadd, 1) := by decide +kernel
theorem dX9_contested_32 : decode cX9_contested 32 = .ok (.istore_n 1, 1) := by decide +kernel
theorem dX9_contested_33 : decode cX9_contested 33 = .ok (.iinc 2 1, 3) := by decide +kernel
theorem dX9_contested_36 : decode cX9_contested 36 = .ok (.goto (-27), 3) := by decide +kernel
theorem dX9_contested_39 : decode cX9_contested 39 = .ok (.iload_n 1, 1) := by decide +kernel
theorem dX9_contested_40 : decode cX9_contested 40 = .ok (.ireturn, 1) := by decide +kernel
theorem dX9_isHijack_0 : decode cX9_isHijack 0 = .ok (.aload_n 0, 1) := by decide +kernel
theorem dX9_isHijack_1 : decode cX9_isHijack 1 = .ok (.iload_n 1, 1) := by decide +kernel
theorem dX9_isHijack_2 : decode cX9_isHijack 2 = .ok (.iload_n 2, 1) := by decide +kernel
theorem dX9_isHijack_3 : decode cX9_isHijack 3 = .ok (.iload_n 3, 1) := by decide +kernel
theorem dX9_isHijack_4 : decode cX9_isHijack 4 = .ok (.invokevirtual 92, 3) := by decide +kernel
theorem dX9_isHijack_7 : decode cX9_isHijack 7 = .ok (.istore 4, 2) := by decide +kernel
theorem dX9_isHijack_9 : decode cX9_isHijack 9 = .ok (.aload_n 0, 1) := by decide +kernel
theorem dX9_isHijack_10 : decode cX9_isHijack 10 = .ok (.getfield 47, 3) := by decide +kernel
theorem dX9_isHijack_13 : decode cX9_isHijack 13 = .ok (.ifCond .le 5, 3) := by decide +kernel
theorem dX9_isHijack_16 : decode cX9_isHijack 16 = .ok (.iconst 0, 1) := by decide +kernel
theorem dX9_isHijack_17 : decode cX9_isHijack 17 = .ok (.ireturn, 1) := by decide +kernel
theorem dX9_isHijack_18 : decode cX9_isHijack 18 = .ok (.aload_n 0, 1) := by decide +kernel
theorem dX9_isHijack_19 : decode cX9_isHijack 19 = .ok (.getfield 19, 3) := by decide +kernel
theorem dX9_isHijack_22 : decode cX9_isHijack 22 = .ok (.iload 4, 2) := by decide +kernel
theorem dX9_isHijack_24 : decode cX9_isHijack 24 = .ok (.iaload, 1) := by decide +kernel
theorem dX9_isHijack_25 : decode cX9_isHijack 25 = .ok (.iconst 1, 1) := by decide +kernel
theorem dX9_isHijack_26 : decode cX9_isHijack 26 = .ok (.ishr, 1) := by decide +kernel
theorem dX9_isHijack_27 : decode cX9_isHijack 27 = .ok (.istore 5, 2) := by decide +kernel
theorem dX9_isHijack_29 : decode cX9_isHijack 29 = .ok (.iload 5, 2) := by decide +kernel
theorem dX9_isHijack_31 : decode cX9_isHijack 31 = .ok (.ifCond .le 23, 3) := by decide +kernel
theorem dX9_isHijack_34 : decode cX9_isHijack 34 = .ok (.aload_n 0, 1) := by decide +kernel
theorem dX9_isHijack_35 : decode cX9_isHijack 35 = .ok (.iconst 0, 1) := by decide +kernel
theorem dX9_isHijack_36 : decode cX9_isHijack 36 = .ok (.iload 5, 2) := by decide +kernel
theorem dX9_isHijack_38 : decode cX9_isHijack 38 = .ok (.invokevirtual 70, 3) := by decide +kernel
theorem dX9_isHijack_41 : decode cX9_isHijack 41 = .ok (.iconst (-1), 1) := by decide +kernel
theorem dX9_isHijack_42 : decode cX9_isHijack 42 = .ok (.if_icmp .ne 12, 3) := by decide +kernel
theorem dX9_isHijack_45 : decode cX9_isHijack 45 = .ok (.iload 5, 2) := by decide +kernel
theorem dX9_isHijack_47 : decode cX9_isHijack 47 = .ok (.iconst 1, 1) := by decide +kernel
theorem dX9_isHijack_48 : decode cX9_isHijack 48 = .ok (.ishr, 1) := by decide +kernel
theorem dX9_isHijack_49 : decode cX9_isHijack 49 = .ok (.istore 5, 2) := by decide +kernel
theorem dX9_isHijack_51 : decode cX9_isHijack 51 = .ok (.goto (-22), 3) := by decide +kernel
theorem dX9_isHijack_54 : decode cX9_isHijack 54 = .ok (.iload 5, 2) := by decide +kernel
theorem dX9_isHijack_56 : decode cX9_isHijack 56 = .ok (.ifCond .le 7, 3) := by decide +kernel
theorem dX9_isHijack_59 : decode cX9_isHijack 59 = .ok (.iconst 1, 1) := by decide +kernel
theorem dX9_isHijack_60 : decode cX9_isHijack 60 = .ok (.goto 4, 3) := by decide +kernel
theorem dX9_isHijack_63 : decode cX9_isHijack 63 = .ok (.iconst 0, 1) := by decide +kernel
theorem dX9_isHijack_64 : decode cX9_isHijack 64 = .ok (.istore 6, 2) := by decide +kernel
theorem dX9_isHijack_66 : decode cX9_isHijack 66 = .ok (.iconst 0, 1) := by decide +kernel
theorem dX9_isHijack_67 : decode cX9_isHijack 67 = .ok (.istore 7, 2) := by decide +kernel
theorem dX9_isHijack_69 : decode cX9_isHijack 69 = .ok (.iload 7, 2) := by decide +kernel
theorem dX9_isHijack_71 : decode cX9_isHijack 71 = .ok (.bipush 6, 2) := by decide +kernel
theorem dX9_isHijack_73 : decode cX9_isHijack 73 = .ok (.if_icmp .ge 57, 3) := by decide +kernel
theorem dX9_isHijack_76 : decode cX9_isHijack 76 = .ok (.iload 6, 2) := by decide +kernel
theorem dX9_isHijack_78 : decode cX9_isHijack 78 = .ok (.ifCond .eq 52, 3) := by decide +kernel
theorem dX9_isHijack_81 : decode cX9_isHijack 81 = .ok (.aload_n 0, 1) := by decide +kernel
theorem dX9_isHijack_82 : decode cX9_isHijack 82 = .ok (.getfield 28, 3) := by decide +kernel
theorem dX9_isHijack_85 : decode cX9_isHijack 85 = .ok (.iconst 0, 1) := by decide +kernel
theorem dX9_isHijack_86 : decode cX9_isHijack 86 = .ok (.iload 7, 2) := by decide +kernel
theorem dX9_isHijack_88 : decode cX9_isHijack 88 = .ok (.iload 5, 2) := by decide +kernel
theorem dX9_isHijack_90 : decode cX9_isHijack 90 = .ok (.invokestatic 55, 3) := by decide +kernel
theorem dX9_isHijack_93 : decode cX9_isHijack 93 = .ok (.iaload, 1) := by decide +kernel
theorem dX9_isHijack_94 : decode cX9_isHijack 94 = .ok (.istore 8, 2) := by decide +kernel
theorem dX9_isHijack_96 : decode cX9_isHijack 96 = .ok (.iload 8, 2) := by decide +kernel
theorem dX9_isHijack_98 : decode cX9_isHijack 98 = .ok (.iconst (-1), 1) := by decide +kernel
theorem dX9_isHijack_99 : decode cX9_isHijack 99 = .ok (.if_icmp .eq 18, 3) := by decide +kernel
theorem dX9_isHijack_102 : decode cX9_isHijack 102 = .ok (.aload_n 0, 1) := by decide +kernel
theorem dX9_isHijack_103 : decode cX9_isHijack 103 = .ok (.iload 8, 2) := by decide +kernel
theorem dX9_isHijack_105 : decode cX9_isHijack 105 = .ok (.invokevirtual 111, 3) := by decide +kernel
theorem dX9_isHijack_108 : decode cX9_isHijack 108 = .ok (.aload_n 0, 1) := by decide +kernel
theorem dX9_isHijack_109 : decode cX9_isHijack 109 = .ok (.iload 4, 2) := by decide +kernel
theorem dX9_isHijack_111 : decode cX9_isHijack 111 = .ok (.invokevirtual 111, 3) := by decide +kernel
theorem dX9_isHijack_114 : decode cX9_isHijack 114 = .ok (.if_icmp .eq 7, 3) := by decide +kernel
theorem dX9_isHijack_117 : decode cX9_isHijack 117 = .ok (.iconst 1, 1) := by decide +kernel
theorem dX9_isHijack_118 : decode cX9_isHijack 118 = .ok (.goto 4, 3) := by decide +kernel
theorem dX9_isHijack_121 : decode cX9_isHijack 121 = .ok (.iconst 0, 1) := by decide +kernel
theorem dX9_isHijack_122 : decode cX9_isHijack 122 = .ok (.istore 6, 2) := by decide +kernel
theorem dX9_isHijack_124 : decode cX9_isHijack 124 = .ok (.iinc 7 1, 3) := by decide +kernel
theorem dX9_isHijack_127 : decode cX9_isHijack 127 = .ok (.goto (-58), 3) := by decide +kernel
theorem dX9_isHijack_130 : decode cX9_isHijack 130 = .ok (.iload 6, 2) := by decide +kernel
theorem dX9_isHijack_132 : decode cX9_isHijack 132 = .ok (.ireturn, 1) := by decide +kernel
theorem dX9_allow_0 : decode cX9_allow 0 = .ok (.aload_n 0, 1) := by decide +kernel
theorem dX9_allow_1 : decode cX9_allow 1 = .ok (.iload_n 1, 1) := by decide +kernel
theorem dX9_allow_2 : decode cX9_allow 2 = .ok (.iload_n 2, 1) := by decide +kernel
theorem dX9_allow_3 : decode cX9_allow 3 = .ok (.invokestatic 84, 3) := by decide +kernel
theorem dX9_allow_6 : decode cX9_allow 6 = .ok (.ifCond .eq 24, 3) := by decide +kernel
theorem dX9_allow_9 : decode cX9_allow 9 = .ok (.iload_n 3, 1) := by decide +kernel
theorem dX9_allow_10 : decode cX9_allow 10 = .ok (.iload_n 2, 1) := by decide +kernel
theorem dX9_allow_11 : decode cX9_allow 11 = .ok (.bipush 8, 2) := by decide +kernel
theorem dX9_allow_13 : decode cX9_allow 13 = .ok (.invokestatic 51, 3) := by decide +kernel
theorem dX9_allow_16 : decode cX9_allow 16 = .ok (.ifCond .eq 14, 3) := by decide +kernel
theorem dX9_allow_19 : decode cX9_allow 19 = .ok (.iload 4, 2) := by decide +kernel
theorem dX9_allow_21 : decode cX9_allow 21 = .ok (.iconst 1, 1) := by decide +kernel
theorem dX9_allow_22 : decode cX9_allow 22 = .ok (.bipush 30, 2) := by decide +kernel
theorem dX9_allow_24 : decode cX9_allow 24 = .ok (.invokestatic 51, 3) := by decide +kernel
theorem dX9_allow_27 : decode cX9_allow 27 = .ok (.ifCond .ne 7, 3) := by decide +kernel
theorem dX9_allow_30 : decode cX9_allow 30 = .ok (.iconst 1, 1) := by decide +kernel
theorem dX9_allow_31 : decode cX9_allow 31 = .ok (.goto 4, 3) := by decide +kernel
theorem dX9_allow_34 : decode cX9_allow 34 = .ok (.iconst 0, 1) := by decide +kernel
theorem dX9_allow_35 : decode cX9_allow 35 = .ok (.putfield 47, 3) := by decide +kernel
theorem dX9_allow_38 : decode cX9_allow 38 = .ok (.aload_n 0, 1) := by decide +kernel
theorem dX9_allow_39 : decode cX9_allow 39 = .ok (.getfield 47, 3) := by decide +kernel
theorem dX9_allow_42 : decode cX9_allow 42 = .ok (.ifCond .le 5, 3) := by decide +kernel
theorem dX9_allow_45 : decode cX9_allow 45 = .ok (.iconst 0, 1) := by decide +kernel
theorem dX9_allow_46 : decode cX9_allow 46 = .ok (.ireturn, 1) := by decide +kernel
theorem dX9_allow_47 : decode cX9_allow 47 = .ok (.iload_n 1, 1) := by decide +kernel
theorem dX9_allow_48 : decode cX9_allow 48 = .ok (.iload_n 2, 1) := by decide +kernel
theorem dX9_allow_49 : decode cX9_allow 49 = .ok (.invokestatic 66, 3) := by decide +kernel
theorem dX9_allow_52 : decode cX9_allow 52 = .ok (.istore 5, 2) := by decide +kernel
theorem dX9_allow_54 : decode cX9_allow 54 = .ok (.iconst 0, 1) := by decide +kernel
theorem dX9_allow_55 : decode cX9_allow 55 = .ok (.istore 6, 2) := by decide +kernel
theorem dX9_allow_57 : decode cX9_allow 57 = .ok (.iload 6, 2) := by decide +kernel
theorem dX9_allow_59 : decode cX9_allow 59 = .ok (.aload_n 0, 1) := by decide +kernel
theorem dX9_allow_60 : decode cX9_allow 60 = .ok (.getfield 117, 3) := by decide +kernel
theorem dX9_allow_63 : decode cX9_allow 63 = .ok (.if_icmp .ge 104, 3) := by decide +kernel
theorem dX9_allow_66 : decode cX9_allow 66 = .ok (.aload_n 0, 1) := by decide +kernel
theorem dX9_allow_67 : decode cX9_allow 67 = .ok (.getfield 31, 3) := by decide +kernel
theorem dX9_allow_70 : decode cX9_allow 70 = .ok (.iload 6, 2) := by decide +kernel
theorem dX9_allow_72 : decode cX9_allow 72 = .ok (.iaload, 1) := by decide +kernel
theorem dX9_allow_73 : decode cX9_allow 73 = .ok (.iload 5, 2) := by decide +kernel
theorem dX9_allow_75 : decode cX9_allow 75 = .ok (.if_icmp .ne 86, 3) := by decide +kernel
theorem dX9_allow_78 : decode cX9_allow 78 = .ok (.aload_n 0, 1) := by decide +kernel
theorem dX9_allow_79 : decode cX9_allow 79 = .ok (.getfield 34, 3) := by decide +kernel
theorem dX9_allow_82 : decode cX9_allow 82 = .ok (.iload 6, 2) := by decide +kernel
theorem dX9_allow_84 : decode cX9_allow 84 = .ok (.iaload, 1) := by decide +kernel
theorem dX9_allow_85 : decode cX9_allow 85 = .ok (.iload_n 3, 1) := by decide +kernel
theorem dX9_allow_86 : decode cX9_allow 86 = .ok (.if_icmp .ne 75, 3) := by decide +kernel
theorem dX9_allow_89 : decode cX9_allow 89 = .ok (.aload_n 0, 1) := by decide +kernel
theorem dX9_allow_90 : decode cX9_allow 90 = .ok (.getfield 37, 3) := by decide +kernel
theorem dX9_allow_93 : decode cX9_allow 93 = .ok (.iload 6, 2) := by decide +kernel
theorem dX9_allow_95 : decode cX9_allow 95 = .ok (.iaload, 1) := by decide +kernel
theorem dX9_allow_96 : decode cX9_allow 96 = .ok (.iload 4, 2) := by decide +kernel
theorem dX9_allow_98 : decode cX9_allow 98 = .ok (.if_icmp .ne 63, 3) := by decide +kernel
theorem dX9_allow_101 : decode cX9_allow 101 = .ok (.aload_n 0, 1) := by decide +kernel
theorem dX9_allow_102 : decode cX9_allow 102 = .ok (.dup, 1) := by decide +kernel
theorem dX9_allow_103 : decode cX9_allow 103 = .ok (.getfield 117, 3) := by decide +kernel
theorem dX9_allow_106 : decode cX9_allow 106 = .ok (.iconst 1, 1) := by decide +kernel
theorem dX9_allow_107 : decode cX9_allow 107 = .ok (.isub, 1) := by decide +kernel
theorem dX9_allow_108 : decode cX9_allow 108 = .ok (.putfield 117, 3) := by decide +kernel
theorem dX9_allow_111 : decode cX9_allow 111 = .ok (.aload_n 0, 1) := by decide +kernel
theorem dX9_allow_112 : decode cX9_allow 112 = .ok (.getfield 31, 3) := by decide +kernel
theorem dX9_allow_115 : decode cX9_allow 115 = .ok (.iload 6, 2) := by decide +kernel
theorem dX9_allow_117 : decode cX9_allow 117 = .ok (.aload_n 0, 1) := by decide +kernel
theorem dX9_allow_118 : decode cX9_allow 118 = .ok (.getfield 31, 3) := by decide +kernel
theorem dX9_allow_121 : decode cX9_allow 121 = .ok (.aload_n 0, 1) := by decide +kernel
theorem dX9_allow_122 : decode cX9_allow 122 = .ok (.getfield 117, 3) := by decide +kernel
theorem dX9_allow_125 : decode cX9_allow 125 = .ok (.iaload, 1) := by decide +kernel
theorem dX9_allow_126 : decode cX9_allow 126 = .ok (.iastore, 1) := by decide +kernel
theorem dX9_allow_127 : decode cX9_allow 127 = .ok (.aload_n 0, 1) := by decide +kernel
theorem dX9_allow_128 : decode cX9_allow 128 = .ok (.getfield 34, 3) := by decide +kernel
theorem dX9_allow_131 : decode cX9_allow 131 = .ok (.iload 6, 2) := by decide +kernel
theorem dX9_allow_133 : decode cX9_allow 133 = .ok (.aload_n 0, 1) := by decide +kernel
theorem dX9_allow_134 : decode cX9_allow 134 = .ok (.getfield 34, 3) := by decide +kernel
theorem dX9_allow_137 : decode cX9_allow 137 = .ok (.aload_n 0, 1) := by decide +kernel
theorem dX9_allow_138 : decode cX9_allow 138 = .ok (.getfield 117, 3) := by decide +kernel
theorem dX9_allow_141 : decode cX9_allow 141 = .ok (.iaload, 1) := by decide +kernel
theorem dX9_allow_142 : decode cX9_allow 142 = .ok (.iastore, 1) := by decide +kernel
theorem dX9_allow_143 : decode cX9_allow 143 = .ok (.aload_n 0, 1) := by decide +kernel
theorem dX9_allow_144 : decode cX9_allow 144 = .ok (.getfield 37, 3) := by decide +kernel
theorem dX9_allow_147 : decode cX9_allow 147 = .ok (.iload 6, 2) := by decide +kernel
theorem dX9_allow_149 : decode cX9_allow 149 = .ok (.aload_n 0, 1) := by decide +kernel
theorem dX9_allow_150 : decode cX9_allow 150 = .ok (.getfield 37, 3) := by decide +kernel
theorem dX9_allow_153 : decode cX9_allow 153 = .ok (.aload_n 0, 1) := by decide +kernel
theorem dX9_allow_154 : decode cX9_allow 154 = .ok (.getfield 117, 3) := by decide +kernel
theorem dX9_allow_157 : decode cX9_allow 157 = .ok (.iaload, 1) := by decide +kernel
theorem dX9_allow_158 : decode cX9_allow 158 = .ok (.iastore, 1) := by decide +kernel
theorem dX9_allow_159 : decode cX9_allow 159 = .ok (.iconst 0, 1) := by decide +kernel
theorem dX9_allow_160 : decode cX9_allow 160 = .ok (.ireturn, 1) := by decide +kernel
theorem dX9_allow_161 : decode cX9_allow 161 = .ok (.iinc 6 1, 3) := by decide +kernel
theorem dX9_allow_164 : decode cX9_allow 164 = .ok (.goto (-107), 3) := by decide +kernel
theorem dX9_allow_167 : decode cX9_allow 167 = .ok (.aload_n 0, 1) := by decide +kernel
theorem dX9_allow_168 : decode cX9_allow 168 = .ok (.aload_n 0, 1) := by decide +kernel
theorem dX9_allow_169 : decode cX9_allow 169 = .ok (.getfield 117, 3) := by decide +kernel
theorem dX9_allow_172 : decode cX9_allow 172 = .ok (.bipush 20, 2) := by decide +kernel
theorem dX9_allow_174 : decode cX9_allow 174 = .ok (.if_icmp .ne 7, 3) := by decide +kernel
theorem dX9_allow_177 : decode cX9_allow 177 = .ok (.iconst 2, 1) := by decide +kernel
theorem dX9_allow_178 : decode cX9_allow 178 = .ok (.goto 4, 3) := by decide +kernel
theorem dX9_allow_181 : decode cX9_allow 181 = .ok (.iconst 0, 1) := by decide +kernel
theorem dX9_allow_182 : decode cX9_allow 182 = .ok (.putfield 47, 3) := by decide +kernel
theorem dX9_allow_185 : decode cX9_allow 185 = .ok (.aload_n 0, 1) := by decide +kernel
theorem dX9_allow_186 : decode cX9_allow 186 = .ok (.getfield 47, 3) := by decide +kernel
theorem dX9_allow_189 : decode cX9_allow 189 = .ok (.ifCond .le 5, 3) := by decide +kernel
theorem dX9_allow_192 : decode cX9_allow 192 = .ok (.iconst 0, 1) := by decide +kernel
theorem dX9_allow_193 : decode cX9_allow 193 = .ok (.ireturn, 1) := by decide +kernel
theorem dX9_allow_194 : decode cX9_allow 194 = .ok (.aload_n 0, 1) := by decide +kernel
theorem dX9_allow_195 : decode cX9_allow 195 = .ok (.getfield 31, 3) := by decide +kernel
theorem dX9_allow_198 : decode cX9_allow 198 = .ok (.aload_n 0, 1) := by decide +kernel
theorem dX9_allow_199 : decode cX9_allow 199 = .ok (.getfield 117, 3) := by decide +kernel
theorem dX9_allow_202 : decode cX9_allow 202 = .ok (.iload 5, 2) := by decide +kernel
theorem dX9_allow_204 : decode cX9_allow 204 = .ok (.iastore, 1) := by decide +kernel
theorem dX9_allow_205 : decode cX9_allow 205 = .ok (.aload_n 0, 1) := by decide +kernel
theorem dX9_allow_206 : decode cX9_allow 206 = .ok (.getfield 34, 3) := by decide +kernel
theorem dX9_allow_209 : decode cX9_allow 209 = .ok (.aload_n 0, 1) := by decide +kernel
theorem dX9_allow_210 : decode cX9_allow 210 = .ok (.getfield 117, 3) := by decide +kernel
theorem dX9_allow_213 : decode cX9_allow 213 = .ok (.iload_n 3, 1) := by decide +kernel
theorem dX9_allow_214 : decode cX9_allow 214 = .ok (.iastore, 1) := by decide +kernel
theorem dX9_allow_215 : decode cX9_allow 215 = .ok (.aload_n 0, 1) := by decide +kernel
theorem dX9_allow_216 : decode cX9_allow 216 = .ok (.getfield 37, 3) := by decide +kernel
theorem dX9_allow_219 : decode cX9_allow 219 = .ok (.aload_n 0, 1) := by decide +kernel
theorem dX9_allow_220 : decode cX9_allow 220 = .ok (.getfield 117, 3) := by decide +kernel
theorem dX9_allow_223 : decode cX9_allow 223 = .ok (.iload 4, 2) := by decide +kernel
theorem dX9_allow_225 : decode cX9_allow 225 = .ok (.iastore, 1) := by decide +kernel
theorem dX9_allow_226 : decode cX9_allow 226 = .ok (.aload_n 0, 1) := by decide +kernel
theorem dX9_allow_227 : decode cX9_allow 227 = .ok (.dup, 1) := by decide +kernel
theorem dX9_allow_228 : decode cX9_allow 228 = .ok (.getfield 117, 3) := by decide +kernel
theorem dX9_allow_231 : decode cX9_allow 231 = .ok (.iconst 1, 1) := by decide +kernel
theorem dX9_allow_232 : decode cX9_allow 232 = .ok (.iadd, 1) := by decide +kernel
theorem dX9_allow_233 : decode cX9_allow 233 = .ok (.putfield 117, 3) := by decide +kernel
theorem dX9_allow_236 : decode cX9_allow 236 = .ok (.iconst 1, 1) := by decide +kernel
theorem dX9_allow_237 : decode cX9_allow 237 = .ok (.ireturn, 1) := by decide +kernel
theorem dX9_covers_0 : decode cX9_covers 0 = .ok (.iload_n 1, 1) := by decide +kernel
theorem dX9_covers_1 : decode cX9_covers 1 = .ok (.invokestatic 102, 3) := by decide +kernel
theorem dX9_covers_4 : decode cX9_covers 4 = .ok (.iload_n 0, 1) := by decide +kernel
theorem dX9_covers_5 : decode cX9_covers 5 = .ok (.invokestatic 102, 3) := by decide +kernel
theorem dX9_covers_8 : decode cX9_covers 8 = .ok (.isub, 1) := by decide +kernel
theorem dX9_covers_9 : decode cX9_covers 9 = .ok (.istore_n 2, 1) := by decide +kernel
theorem dX9_covers_10 : decode cX9_covers 10 = .ok (.iload_n 2, 1) := by decide +kernel
theorem dX9_covers_11 : decode cX9_covers 11 = .ok (.ifCond .lt 14, 3) := by decide +kernel
theorem dX9_covers_14 : decode cX9_covers 14 = .ok (.iload_n 1, 1) := by decide +kernel
theorem dX9_covers_15 : decode cX9_covers 15 = .ok (.iload_n 2, 1) := by decide +kernel
theorem dX9_covers_16 : decode cX9_covers 16 = .ok (.ishr, 1) := by decide +kernel
theorem dX9_covers_17 : decode cX9_covers 17 = .ok (.iload_n 0, 1) := by decide +kernel
theorem dX9_covers_18 : decode cX9_covers 18 = .ok (.if_icmp .ne 7, 3) := by decide +kernel
theorem dX9_covers_21 : decode cX9_covers 21 = .ok (.iconst 1, 1) := by decide +kernel
theorem dX9_covers_22 : decode cX9_covers 22 = .ok (.goto 4, 3) := by decide +kernel
theorem dX9_covers_25 : decode cX9_covers 25 = .ok (.iconst 0, 1) := by decide +kernel
theorem dX9_covers_26 : decode cX9_covers 26 = .ok (.ireturn, 1) := by decide +kernel
theorem dX9_verdict_0 : decode cX9_verdict 0 = .ok (.aload_n 0, 1) := by decide +kernel
theorem dX9_verdict_1 : decode cX9_verdict 1 = .ok (.iload_n 1, 1) := by decide +kernel
theorem dX9_verdict_2 : decode cX9_verdict 2 = .ok (.iload_n 2, 1) := by decide +kernel
theorem dX9_verdict_3 : decode cX9_verdict 3 = .ok (.iload_n 3, 1) := by decide +kernel
theorem dX9_verdict_4 : decode cX9_verdict 4 = .ok (.invokevirtual 92, 3) := by decide +kernel
theorem dX9_verdict_7 : decode cX9_verdict 7 = .ok (.istore 4, 2) := by decide +kernel
theorem dX9_verdict_9 : decode cX9_verdict 9 = .ok (.iconst 0, 1) := by decide +kernel
theorem dX9_verdict_10 : decode cX9_verdict 10 = .ok (.istore 5, 2) := by decide +kernel
theorem dX9_verdict_12 : decode cX9_verdict 12 = .ok (.iconst 0, 1) := by decide +kernel
theorem dX9_verdict_13 : decode cX9_verdict 13 = .ok (.istore 6, 2) := by decide +kernel
theorem dX9_verdict_15 : decode cX9_verdict 15 = .ok (.iload 6, 2) := by decide +kernel
theorem dX9_verdict_17 : decode cX9_verdict 17 = .ok (.aload_n 0, 1) := by decide +kernel
theorem dX9_verdict_18 : decode cX9_verdict 18 = .ok (.getfield 117, 3) := by decide +kernel
theorem dX9_verdict_21 : decode cX9_verdict 21 = .ok (.if_icmp .ge 88, 3) := by decide +kernel
theorem dX9_verdict_24 : decode cX9_verdict 24 = .ok (.aload_n 0, 1) := by decide +kernel
theorem dX9_verdict_25 : decode cX9_verdict 25 = .ok (.getfield 47, 3) := by decide +kernel
theorem dX9_verdict_28 : decode cX9_verdict 28 = .ok (.ifCond .ne 81, 3) := by decide +kernel
theorem dX9_verdict_31 : decode cX9_verdict 31 = .ok (.aload_n 0, 1) := by decide +kernel
theorem dX9_verdict_32 : decode cX9_verdict 32 = .ok (.getfield 31, 3) := by decide +kernel
theorem dX9_verdict_35 : decode cX9_verdict 35 = .ok (.iload 6, 2) := by decide +kernel
theorem dX9_verdict_37 : decode cX9_verdict 37 = .ok (.iaload, 1) := by decide +kernel
theorem dX9_verdict_38 : decode cX9_verdict 38 = .ok (.aload_n 0, 1) := by decide +kernel
theorem dX9_verdict_39 : decode cX9_verdict 39 = .ok (.getfield 19, 3) := by decide +kernel
theorem dX9_verdict_42 : decode cX9_verdict 42 = .ok (.iload 4, 2) := by decide +kernel
theorem dX9_verdict_44 : decode cX9_verdict 44 = .ok (.iaload, 1) := by decide +kernel
theorem dX9_verdict_45 : decode cX9_verdict 45 = .ok (.invokestatic 120, 3) := by decide +kernel
theorem dX9_verdict_48 : decode cX9_verdict 48 = .ok (.ifCond .eq 55, 3) := by decide +kernel
theorem dX9_verdict_51 : decode cX9_verdict 51 = .ok (.aload_n 0, 1) := by decide +kernel
theorem dX9_verdict_52 : decode cX9_verdict 52 = .ok (.getfield 37, 3) := by decide +kernel
theorem dX9_verdict_55 : decode cX9_verdict 55 = .ok (.iload 6, 2) := by decide +kernel
theorem dX9_verdict_57 : decode cX9_verdict 57 = .ok (.iaload, 1) := by decide +kernel
theorem dX9_verdict_58 : decode cX9_verdict 58 = .ok (.aload_n 0, 1) := by decide +kernel
theorem dX9_verdict_59 : decode cX9_verdict 59 = .ok (.iload 4, 2) := by decide +kernel
theorem dX9_verdict_61 : decode cX9_verdict 61 = .ok (.invokevirtual 111, 3) := by decide +kernel
theorem dX9_verdict_64 : decode cX9_verdict 64 = .ok (.if_icmp .ne 18, 3) := by decide +kernel
theorem dX9_verdict_67 : decode cX9_verdict 67 = .ok (.aload_n 0, 1) := by decide +kernel
theorem dX9_verdict_68 : decode cX9_verdict 68 = .ok (.getfield 34, 3) := by decide +kernel
theorem dX9_verdict_71 : decode cX9_verdict 71 = .ok (.iload 6, 2) := by decide +kernel
theorem dX9_verdict_73 : decode cX9_verdict 73 = .ok (.iaload, 1) := by decide +kernel
theorem dX9_verdict_74 : decode cX9_verdict 74 = .ok (.iload_n 3, 1) := by decide +kernel
theorem dX9_verdict_75 : decode cX9_verdict 75 = .ok (.if_icmp .lt 7, 3) := by decide +kernel
theorem dX9_verdict_78 : decode cX9_verdict 78 = .ok (.iconst 1, 1) := by decide +kernel
theorem dX9_verdict_79 : decode cX9_verdict 79 = .ok (.goto 4, 3) := by decide +kernel
theorem dX9_verdict_82 : decode cX9_verdict 82 = .ok (.iconst 0, 1) := by decide +kernel
theorem dX9_verdict_83 : decode cX9_verdict 83 = .ok (.istore 7, 2) := by decide +kernel
theorem dX9_verdict_85 : decode cX9_verdict 85 = .ok (.iload 7, 2) := by decide +kernel
theorem dX9_verdict_87 : decode cX9_verdict 87 = .ok (.ifCond .ne 9, 3) := by decide +kernel
theorem dX9_verdict_90 : decode cX9_verdict 90 = .ok (.iload 5, 2) := by decide +kernel
theorem dX9_verdict_92 : decode cX9_verdict 92 = .ok (.iconst 1, 1) := by decide +kernel
theorem dX9_verdict_93 : decode cX9_verdict 93 = .ok (.if_icmp .ne 7, 3) := by decide +kernel
theorem dX9_verdict_96 : decode cX9_verdict 96 = .ok (.iconst 1, 1) := by decide +kernel
theorem dX9_verdict_97 : decode cX9_verdict 97 = .ok (.goto 4, 3) := by decide +kernel
theorem dX9_verdict_100 : decode cX9_verdict 100 = .ok (.iconst 2, 1) := by decide +kernel
theorem dX9_verdict_101 : decode cX9_verdict 101 = .ok (.istore 5, 2) := by decide +kernel
theorem dX9_verdict_103 : decode cX9_verdict 103 = .ok (.iinc 6 1, 3) := by decide +kernel
theorem dX9_verdict_106 : decode cX9_verdict 106 = .ok (.goto (-91), 3) := by decide +kernel
theorem dX9_verdict_109 : decode cX9_verdict 109 = .ok (.iload 5, 2) := by decide +kernel
theorem dX9_verdict_111 : decode cX9_verdict 111 = .ok (.ireturn, 1) := by decide +kernel
theorem dX9_relate_0 : decode cX9_relate 0 = .ok (.aload_n 0, 1) := by decide +kernel
theorem dX9_relate_1 : decode cX9_relate 1 = .ok (.iload_n 1, 1) := by decide +kernel
theorem dX9_relate_2 : decode cX9_relate 2 = .ok (.iconst 1, 1) := by decide +kernel
theorem dX9_relate_3 : decode cX9_relate 3 = .ok (.bipush 30, 2) := by decide +kernel
theorem dX9_relate_5 : decode cX9_relate 5 = .ok (.invokestatic 51, 3) := by decide +kernel
theorem dX9_relate_8 : decode cX9_relate 8 = .ok (.ifCond .eq 27, 3) := by decide +kernel
theorem dX9_relate_11 : decode cX9_relate 11 = .ok (.iload_n 2, 1) := by decide +kernel
theorem dX9_relate_12 : decode cX9_relate 12 = .ok (.iconst 1, 1) := by decide +kernel
theorem dX9_relate_13 : decode cX9_relate 13 = .ok (.bipush 30, 2) := by decide +kernel
theorem dX9_relate_15 : decode cX9_relate 15 = .ok (.invokestatic 51, 3) := by decide +kernel
theorem dX9_relate_18 : decode cX9_relate 18 = .ok (.ifCond .eq 17, 3) := by decide +kernel
theorem dX9_relate_21 : decode cX9_relate 21 = .ok (.iload_n 1, 1) := by decide +kernel
theorem dX9_relate_22 : decode cX9_relate 22 = .ok (.iload_n 2, 1) := by decide +kernel
theorem dX9_relate_23 : decode cX9_relate 23 = .ok (.if_icmp .eq 12, 3) := by decide +kernel
theorem dX9_relate_26 : decode cX9_relate 26 = .ok (.iload_n 3, 1) := by decide +kernel
theorem dX9_relate_27 : decode cX9_relate 27 = .ok (.iconst 0, 1) := by decide +kernel
theorem dX9_relate_28 : decode cX9_relate 28 = .ok (.iconst 3, 1) := by decide +kernel
theorem dX9_relate_29 : decode cX9_relate 29 = .ok (.invokestatic 51, 3) := by decide +kernel
theorem dX9_relate_32 : decode cX9_relate 32 = .ok (.ifCond .ne 7, 3) := by decide +kernel
theorem dX9_relate_35 : decode cX9_relate 35 = .ok (.iconst 1, 1) := by decide +kernel
theorem dX9_relate_36 : decode cX9_relate 36 = .ok (.goto 4, 3) := by decide +kernel
theorem dX9_relate_39 : decode cX9_relate 39 = .ok (.iconst 0, 1) := by decide +kernel
theorem dX9_relate_40 : decode cX9_relate 40 = .ok (.putfield 47, 3) := by decide +kernel
theorem dX9_relate_43 : decode cX9_relate 43 = .ok (.aload_n 0, 1) := by decide +kernel
theorem dX9_relate_44 : decode cX9_relate 44 = .ok (.getfield 47, 3) := by decide +kernel
theorem dX9_relate_47 : decode cX9_relate 47 = .ok (.ifCond .le 5, 3) := by decide +kernel
theorem dX9_relate_50 : decode cX9_relate 50 = .ok (.iconst 0, 1) := by decide +kernel
theorem dX9_relate_51 : decode cX9_relate 51 = .ok (.ireturn, 1) := by decide +kernel
theorem dX9_relate_52 : decode cX9_relate 52 = .ok (.aload_n 0, 1) := by decide +kernel
theorem dX9_relate_53 : decode cX9_relate 53 = .ok (.getfield 40, 3) := by decide +kernel
theorem dX9_relate_56 : decode cX9_relate 56 = .ok (.bipush 31, 2) := by decide +kernel
theorem dX9_relate_58 : decode cX9_relate 58 = .ok (.iload_n 1, 1) := by decide +kernel
theorem dX9_relate_59 : decode cX9_relate 59 = .ok (.imul, 1) := by decide +kernel
theorem dX9_relate_60 : decode cX9_relate 60 = .ok (.iload_n 2, 1) := by decide +kernel
theorem dX9_relate_61 : decode cX9_relate 61 = .ok (.iadd, 1) := by decide +kernel
theorem dX9_relate_62 : decode cX9_relate 62 = .ok (.iaload, 1) := by decide +kernel
theorem dX9_relate_63 : decode cX9_relate 63 = .ok (.istore 4, 2) := by decide +kernel
theorem dX9_relate_65 : decode cX9_relate 65 = .ok (.aload_n 0, 1) := by decide +kernel
theorem dX9_relate_66 : decode cX9_relate 66 = .ok (.getfield 40, 3) := by decide +kernel
theorem dX9_relate_69 : decode cX9_relate 69 = .ok (.bipush 31, 2) := by decide +kernel
theorem dX9_relate_71 : decode cX9_relate 71 = .ok (.iload_n 1, 1) := by decide +kernel
theorem dX9_relate_72 : decode cX9_relate 72 = .ok (.imul, 1) := by decide +kernel
theorem dX9_relate_73 : decode cX9_relate 73 = .ok (.iload_n 2, 1) := by decide +kernel
theorem dX9_relate_74 : decode cX9_relate 74 = .ok (.iadd, 1) := by decide +kernel
theorem dX9_relate_75 : decode cX9_relate 75 = .ok (.iload_n 3, 1) := by decide +kernel
theorem dX9_relate_76 : decode cX9_relate 76 = .ok (.iastore, 1) := by decide +kernel
theorem dX9_relate_77 : decode cX9_relate 77 = .ok (.aload_n 0, 1) := by decide +kernel
theorem dX9_relate_78 : decode cX9_relate 78 = .ok (.getfield 40, 3) := by decide +kernel
theorem dX9_relate_81 : decode cX9_relate 81 = .ok (.bipush 31, 2) := by decide +kernel
theorem dX9_relate_83 : decode cX9_relate 83 = .ok (.iload_n 2, 1) := by decide +kernel
theorem dX9_relate_84 : decode cX9_relate 84 = .ok (.imul, 1) := by decide +kernel
theorem dX9_relate_85 : decode cX9_relate 85 = .ok (.iload_n 1, 1) := by decide +kernel
theorem dX9_relate_86 : decode cX9_relate 86 = .ok (.iadd, 1) := by decide +kernel
theorem dX9_relate_87 : decode cX9_relate 87 = .ok (.iload_n 3, 1) := by decide +kernel
theorem dX9_relate_88 : decode cX9_relate 88 = .ok (.ifCond .ne 7, 3) := by decide +kernel
theorem dX9_relate_91 : decode cX9_relate 91 = .ok (.iconst 0, 1) := by decide +kernel
theorem dX9_relate_92 : decode cX9_relate 92 = .ok (.goto 6, 3) := by decide +kernel
theorem dX9_relate_95 : decode cX9_relate 95 = .ok (.iconst 4, 1) := by decide +kernel
theorem dX9_relate_96 : decode cX9_relate 96 = .ok (.iload_n 3, 1) := by decide +kernel
theorem dX9_relate_97 : decode cX9_relate 97 = .ok (.isub, 1) := by decide +kernel
theorem dX9_relate_98 : decode cX9_relate 98 = .ok (.iastore, 1) := by decide +kernel
theorem dX9_relate_99 : decode cX9_relate 99 = .ok (.iload 4, 2) := by decide +kernel
theorem dX9_relate_101 : decode cX9_relate 101 = .ok (.ireturn, 1) := by decide +kernel
theorem dX9_valley_0 : decode cX9_valley 0 = .ok (.aload_n 0, 1) := by decide +kernel
theorem dX9_valley_1 : decode cX9_valley 1 = .ok (.iload_n 1, 1) := by decide +kernel
theorem dX9_valley_2 : decode cX9_valley 2 = .ok (.iload_n 2, 1) := by decide +kernel
theorem dX9_valley_3 : decode cX9_valley 3 = .ok (.iload_n 3, 1) := by decide +kernel
theorem dX9_valley_4 : decode cX9_valley 4 = .ok (.invokevirtual 92, 3) := by decide +kernel
theorem dX9_valley_7 : decode cX9_valley 7 = .ok (.istore 4, 2) := by decide +kernel
theorem dX9_valley_9 : decode cX9_valley 9 = .ok (.aload_n 0, 1) := by decide +kernel
theorem dX9_valley_10 : decode cX9_valley 10 = .ok (.getfield 47, 3) := by decide +kernel
theorem dX9_valley_13 : decode cX9_valley 13 = .ok (.ifCond .le 5, 3) := by decide +kernel
theorem dX9_valley_16 : decode cX9_valley 16 = .ok (.iconst 0, 1) := by decide +kernel
theorem dX9_valley_17 : decode cX9_valley 17 = .ok (.ireturn, 1) := by decide +kernel
theorem dX9_valley_18 : decode cX9_valley 18 = .ok (.iconst 0, 1) := by decide +kernel
theorem dX9_valley_19 : decode cX9_valley 19 = .ok (.istore 5, 2) := by decide +kernel
theorem dX9_valley_21 : decode cX9_valley 21 = .ok (.iconst 0, 1) := by decide +kernel
theorem dX9_valley_22 : decode cX9_valley 22 = .ok (.istore 6, 2) := by decide +kernel
theorem dX9_valley_24 : decode cX9_valley 24 = .ok (.iconst 0, 1) := by decide +kernel
theorem dX9_valley_25 : decode cX9_valley 25 = .ok (.istore 7, 2) := by decide +kernel
theorem dX9_valley_27 : decode cX9_valley 27 = .ok (.aload_n 0, 1) := by decide +kernel
theorem dX9_valley_28 : decode cX9_valley 28 = .ok (.getfield 22, 3) := by decide +kernel
theorem dX9_valley_31 : decode cX9_valley 31 = .ok (.iload 4, 2) := by decide +kernel
theorem dX9_valley_33 : decode cX9_valley 33 = .ok (.iaload, 1) := by decide +kernel
theorem dX9_valley_34 : decode cX9_valley 34 = .ok (.iconst 2, 1) := by decide +kernel
theorem dX9_valley_35 : decode cX9_valley 35 = .ok (.isub, 1) := by decide +kernel
theorem dX9_valley_36 : decode cX9_valley 36 = .ok (.istore 8, 2) := by decide +kernel
theorem dX9_valley_38 : decode cX9_valley 38 = .ok (.iload 8, 2) := by decide +kernel
theorem dX9_valley_40 : decode cX9_valley 40 = .ok (.ifCond .lt 132, 3) := by decide +kernel
theorem dX9_valley_43 : decode cX9_valley 43 = .ok (.aload_n 0, 1) := by decide +kernel
theorem dX9_valley_44 : decode cX9_valley 44 = .ok (.getfield 25, 3) := by decide +kernel
theorem dX9_valley_47 : decode cX9_valley 47 = .ok (.bipush 8, 2) := by decide +kernel
theorem dX9_valley_49 : decode cX9_valley 49 = .ok (.iload 4, 2) := by decide +kernel
theorem dX9_valley_51 : decode cX9_valley 51 = .ok (.imul, 1) := by decide +kernel
theorem dX9_valley_52 : decode cX9_valley 52 = .ok (.iload 8, 2) := by decide +kernel
theorem dX9_valley_54 : decode cX9_valley 54 = .ok (.iadd, 1) := by decide +kernel
theorem dX9_valley_55 : decode cX9_valley 55 = .ok (.iconst 1, 1) := by decide +kernel
theorem dX9_valley_56 : decode cX9_valley 56 = .ok (.iadd, 1) := by decide +kernel
theorem dX9_valley_57 : decode cX9_valley 57 = .ok (.iaload, 1) := by decide +kernel
theorem dX9_valley_58 : decode cX9_valley 58 = .ok (.istore 9, 2) := by decide +kernel
theorem dX9_valley_60 : decode cX9_valley 60 = .ok (.aload_n 0, 1) := by decide +kernel
theorem dX9_valley_61 : decode cX9_valley 61 = .ok (.getfield 25, 3) := by decide +kernel
theorem dX9_valley_64 : decode cX9_valley 64 = .ok (.bipush 8, 2) := by decide +kernel
theorem dX9_valley_66 : decode cX9_valley 66 = .ok (.iload 4, 2) := by decide +kernel
theorem dX9_valley_68 : decode cX9_valley 68 = .ok (.imul, 1) := by decide +kernel
theorem dX9_valley_69 : decode cX9_valley 69 = .ok (.iload 8, 2) := by decide +kernel
theorem dX9_valley_71 : decode cX9_valley 71 = .ok (.iadd, 1) := by decide +kernel
theorem dX9_valley_72 : decode cX9_valley 72 = .ok (.iaload, 1) := by decide +kernel
theorem dX9_valley_73 : decode cX9_valley 73 = .ok (.istore 10, 2) := by decide +kernel
theorem dX9_valley_75 : decode cX9_valley 75 = .ok (.aload_n 0, 1) := by decide +kernel
theorem dX9_valley_76 : decode cX9_valley 76 = .ok (.getfield 40, 3) := by decide +kernel
theorem dX9_valley_79 : decode cX9_valley 79 = .ok (.bipush 31, 2) := by decide +kernel
theorem dX9_valley_81 : decode cX9_valley 81 = .ok (.iload 10, 2) := by decide +kernel
theorem dX9_valley_83 : decode cX9_valley 83 = .ok (.imul, 1) := by decide +kernel
theorem dX9_valley_84 : decode cX9_valley 84 = .ok (.iload 9, 2) := by decide +kernel
theorem dX9_valley_86 : decode cX9_valley 86 = .ok (.iadd, 1) := by decide +kernel
theorem dX9_valley_87 : decode cX9_valley 87 = .ok (.iaload, 1) := by decide +kernel
theorem dX9_valley_88 : decode cX9_valley 88 = .ok (.istore 11, 2) := by decide +kernel
theorem dX9_valley_90 : decode cX9_valley 90 = .ok (.iload 5, 2) := by decide +kernel
theorem dX9_valley_92 : decode cX9_valley 92 = .ok (.ifCond .ne 15, 3) := by decide +kernel
theorem dX9_valley_95 : decode cX9_valley 95 = .ok (.iload 9, 2) := by decide +kernel
theorem dX9_valley_97 : decode cX9_valley 97 = .ok (.iload 10, 2) := by decide +kernel
theorem dX9_valley_99 : decode cX9_valley 99 = .ok (.if_icmp .eq 12, 3) := by decide +kernel
theorem dX9_valley_102 : decode cX9_valley 102 = .ok (.iload 11, 2) := by decide +kernel
theorem dX9_valley_104 : decode cX9_valley 104 = .ok (.ifCond .ne 7, 3) := by decide +kernel
theorem dX9_valley_107 : decode cX9_valley 107 = .ok (.iconst 1, 1) := by decide +kernel
theorem dX9_valley_108 : decode cX9_valley 108 = .ok (.goto 4, 3) := by decide +kernel
theorem dX9_valley_111 : decode cX9_valley 111 = .ok (.iconst 0, 1) := by decide +kernel
theorem dX9_valley_112 : decode cX9_valley 112 = .ok (.istore 5, 2) := by decide +kernel
theorem dX9_valley_114 : decode cX9_valley 114 = .ok (.iload 7, 2) := by decide +kernel
theorem dX9_valley_116 : decode cX9_valley 116 = .ok (.ifCond .ne 20, 3) := by decide +kernel
theorem dX9_valley_119 : decode cX9_valley 119 = .ok (.iload 6, 2) := by decide +kernel
theorem dX9_valley_121 : decode cX9_valley 121 = .ok (.ifCond .eq 19, 3) := by decide +kernel
theorem dX9_valley_124 : decode cX9_valley 124 = .ok (.iload 11, 2) := by decide +kernel
theorem dX9_valley_126 : decode cX9_valley 126 = .ok (.iconst 1, 1) := by decide +kernel
theorem dX9_valley_127 : decode cX9_valley 127 = .ok (.if_icmp .eq 9, 3) := by decide +kernel
theorem dX9_valley_130 : decode cX9_valley 130 = .ok (.iload 11, 2) := by decide +kernel
theorem dX9_valley_132 : decode cX9_valley 132 = .ok (.iconst 2, 1) := by decide +kernel
theorem dX9_valley_133 : decode cX9_valley 133 = .ok (.if_icmp .ne 7, 3) := by decide +kernel
theorem dX9_valley_136 : decode cX9_valley 136 = .ok (.iconst 1, 1) := by decide +kernel
theorem dX9_valley_137 : decode cX9_valley 137 = .ok (.goto 4, 3) := by decide +kernel
theorem dX9_valley_140 : decode cX9_valley 140 = .ok (.iconst 0, 1) := by decide +kernel
theorem dX9_valley_141 : decode cX9_valley 141 = .ok (.istore 7, 2) := by decide +kernel
theorem dX9_valley_143 : decode cX9_valley 143 = .ok (.iload 6, 2) := by decide +kernel
theorem dX9_valley_145 : decode cX9_valley 145 = .ok (.ifCond .ne 14, 3) := by decide +kernel
theorem dX9_valley_148 : decode cX9_valley 148 = .ok (.iload 11, 2) := by decide +kernel
theorem dX9_valley_150 : decode cX9_valley 150 = .ok (.ifCond .eq 13, 3) := by decide +kernel
theorem dX9_valley_153 : decode cX9_valley 153 = .ok (.iload 11, 2) := by decide +kernel
theorem dX9_valley_155 : decode cX9_valley 155 = .ok (.iconst 1, 1) := by decide +kernel
theorem dX9_valley_156 : decode cX9_valley 156 = .ok (.if_icmp .eq 7, 3) := by decide +kernel
theorem dX9_valley_159 : decode cX9_valley 159 = .ok (.iconst 1, 1) := by decide +kernel
theorem dX9_valley_160 : decode cX9_valley 160 = .ok (.goto 4, 3) := by decide +kernel
theorem dX9_valley_163 : decode cX9_valley 163 = .ok (.iconst 0, 1) := by decide +kernel
theorem dX9_valley_164 : decode cX9_valley 164 = .ok (.istore 6, 2) := by decide +kernel
theorem dX9_valley_166 : decode cX9_valley 166 = .ok (.iinc 8 (-1), 3) := by decide +kernel
theorem dX9_valley_169 : decode cX9_valley 169 = .ok (.goto (-131), 3) := by decide +kernel
theorem dX9_valley_172 : decode cX9_valley 172 = .ok (.iload 7, 2) := by decide +kernel
theorem dX9_valley_174 : decode cX9_valley 174 = .ok (.ifCond .eq 7, 3) := by decide +kernel
theorem dX9_valley_177 : decode cX9_valley 177 = .ok (.iconst 1, 1) := by decide +kernel
theorem dX9_valley_178 : decode cX9_valley 178 = .ok (.goto 13, 3) := by decide +kernel
theorem dX9_valley_181 : decode cX9_valley 181 = .ok (.iload 5, 2) := by decide +kernel
theorem dX9_valley_183 : decode cX9_valley 183 = .ok (.ifCond .eq 7, 3) := by decide +kernel
theorem dX9_valley_186 : decode cX9_valley 186 = .ok (.iconst 2, 1) := by decide +kernel
theorem dX9_valley_187 : decode cX9_valley 187 = .ok (.goto 4, 3) := by decide +kernel
theorem dX9_valley_190 : decode cX9_valley 190 = .ok (.iconst 0, 1) := by decide +kernel
theorem dX9_valley_191 : decode cX9_valley 191 = .ok (.ireturn, 1) := by decide +kernel
theorem dX9_lookUpAt_0 : decode cX9_lookUpAt 0 = .ok (.aload_n 0, 1) := by decide +kernel
theorem dX9_lookUpAt_1 : decode cX9_lookUpAt 1 = .ok (.iload_n 2, 1) := by decide +kernel
theorem dX9_lookUpAt_2 : decode cX9_lookUpAt 2 = .ok (.iconst 0, 1) := by decide +kernel
theorem dX9_lookUpAt_3 : decode cX9_lookUpAt 3 = .ok (.sipush 255, 3) := by decide +kernel
theorem dX9_lookUpAt_6 : decode cX9_lookUpAt 6 = .ok (.invokestatic 51, 3) := by decide +kernel
theorem dX9_lookUpAt_9 : decode cX9_lookUpAt 9 = .ok (.ifCond .eq 7, 3) := by decide +kernel
theorem dX9_lookUpAt_12 : decode cX9_lookUpAt 12 = .ok (.iconst 0, 1) := by decide +kernel
theorem dX9_lookUpAt_13 : decode cX9_lookUpAt 13 = .ok (.goto 4, 3) := by decide +kernel
theorem dX9_lookUpAt_16 : decode cX9_lookUpAt 16 = .ok (.iconst 1, 1) := by decide +kernel
theorem dX9_lookUpAt_17 : decode cX9_lookUpAt 17 = .ok (.putfield 47, 3) := by decide +kernel
theorem dX9_lookUpAt_20 : decode cX9_lookUpAt 20 = .ok (.aload_n 0, 1) := by decide +kernel
theorem dX9_lookUpAt_21 : decode cX9_lookUpAt 21 = .ok (.getfield 47, 3) := by decide +kernel
theorem dX9_lookUpAt_24 : decode cX9_lookUpAt 24 = .ok (.ifCond .le 5, 3) := by decide +kernel
theorem dX9_lookUpAt_27 : decode cX9_lookUpAt 27 = .ok (.iconst 0, 1) := by decide +kernel
theorem dX9_lookUpAt_28 : decode cX9_lookUpAt 28 = .ok (.ireturn, 1) := by decide +kernel
theorem dX9_lookUpAt_29 : decode cX9_lookUpAt 29 = .ok (.aload_n 0, 1) := by decide +kernel
theorem dX9_lookUpAt_30 : decode cX9_lookUpAt 30 = .ok (.iconst 1, 1) := by decide +kernel
theorem dX9_lookUpAt_31 : decode cX9_lookUpAt 31 = .ok (.iload_n 1, 1) := by decide +kernel
theorem dX9_lookUpAt_32 : decode cX9_lookUpAt 32 = .ok (.invokevirtual 123, 3) := by decide +kernel
theorem dX9_lookUpAt_35 : decode cX9_lookUpAt 35 = .ok (.aload_n 0, 1) := by decide +kernel
theorem dX9_lookUpAt_36 : decode cX9_lookUpAt 36 = .ok (.iconst 1, 1) := by decide +kernel
theorem dX9_lookUpAt_37 : decode cX9_lookUpAt 37 = .ok (.iload_n 2, 1) := by decide +kernel
theorem dX9_lookUpAt_38 : decode cX9_lookUpAt 38 = .ok (.invokevirtual 105, 3) := by decide +kernel
theorem dX9_lookUpAt_41 : decode cX9_lookUpAt 41 = .ok (.ireturn, 1) := by decide +kernel
theorem dX9_originAt_0 : decode cX9_originAt 0 = .ok (.aload_n 0, 1) := by decide +kernel
theorem dX9_originAt_1 : decode cX9_originAt 1 = .ok (.iload_n 2, 1) := by decide +kernel
theorem dX9_originAt_2 : decode cX9_originAt 2 = .ok (.iconst 0, 1) := by decide +kernel
theorem dX9_originAt_3 : decode cX9_originAt 3 = .ok (.sipush 255, 3) := by decide +kernel
theorem dX9_originAt_6 : decode cX9_originAt 6 = .ok (.invokestatic 51, 3) := by decide +kernel
theorem dX9_originAt_9 : decode cX9_originAt 9 = .ok (.ifCond .eq 7, 3) := by decide +kernel
theorem dX9_originAt_12 : decode cX9_originAt 12 = .ok (.iconst 0, 1) := by decide +kernel
theorem dX9_originAt_13 : decode cX9_originAt 13 = .ok (.goto 4, 3) := by decide +kernel
theorem dX9_originAt_16 : decode cX9_originAt 16 = .ok (.iconst 1, 1) := by decide +kernel
theorem dX9_originAt_17 : decode cX9_originAt 17 = .ok (.putfield 47, 3) := by decide +kernel
theorem dX9_originAt_20 : decode cX9_originAt 20 = .ok (.aload_n 0, 1) := by decide +kernel
theorem dX9_originAt_21 : decode cX9_originAt 21 = .ok (.getfield 47, 3) := by decide +kernel
theorem dX9_originAt_24 : decode cX9_originAt 24 = .ok (.ifCond .le 5, 3) := by decide +kernel
theorem dX9_originAt_27 : decode cX9_originAt 27 = .ok (.iconst 0, 1) := by decide +kernel
theorem dX9_originAt_28 : decode cX9_originAt 28 = .ok (.ireturn, 1) := by decide +kernel
theorem dX9_originAt_29 : decode cX9_originAt 29 = .ok (.aload_n 0, 1) := by decide +kernel
theorem dX9_originAt_30 : decode cX9_originAt 30 = .ok (.iconst 1, 1) := by decide +kernel
theorem dX9_originAt_31 : decode cX9_originAt 31 = .ok (.iload_n 1, 1) := by decide +kernel
theorem dX9_originAt_32 : decode cX9_originAt 32 = .ok (.invokevirtual 123, 3) := by decide +kernel
theorem dX9_originAt_35 : decode cX9_originAt 35 = .ok (.aload_n 0, 1) := by decide +kernel
theorem dX9_originAt_36 : decode cX9_originAt 36 = .ok (.iconst 1, 1) := by decide +kernel
theorem dX9_originAt_37 : decode cX9_originAt 37 = .ok (.iload_n 2, 1) := by decide +kernel
theorem dX9_originAt_38 : decode cX9_originAt 38 = .ok (.invokevirtual 99, 3) := by decide +kernel
theorem dX9_originAt_41 : decode cX9_originAt 41 = .ok (.istore_n 3, 1) := by decide +kernel
theorem dX9_originAt_42 : decode cX9_originAt 42 = .ok (.iload_n 3, 1) := by decide +kernel
theorem dX9_originAt_43 : decode cX9_originAt 43 = .ok (.ifCond .ne 7, 3) := by decide +kernel
theorem dX9_originAt_46 : decode cX9_originAt 46 = .ok (.iconst (-1), 1) := by decide +kernel
theorem dX9_originAt_47 : decode cX9_originAt 47 = .ok (.goto 13, 3) := by decide +kernel
theorem dX9_originAt_50 : decode cX9_originAt 50 = .ok (.aload_n 0, 1) := by decide +kernel
theorem dX9_originAt_51 : decode cX9_originAt 51 = .ok (.aload_n 0, 1) := by decide +kernel
theorem dX9_originAt_52 : decode cX9_originAt 52 = .ok (.iconst 1, 1) := by decide +kernel
theorem dX9_originAt_53 : decode cX9_originAt 53 = .ok (.iload_n 3, 1) := by decide +kernel
theorem dX9_originAt_54 : decode cX9_originAt 54 = .ok (.invokevirtual 70, 3) := by decide +kernel
theorem dX9_originAt_57 : decode cX9_originAt 57 = .ok (.invokevirtual 111, 3) := by decide +kernel
theorem dX9_originAt_60 : decode cX9_originAt 60 = .ok (.ireturn, 1) := by decide +kernel
theorem dX9_areAlike_0 : decode cX9_areAlike 0 = .ok (.iload_n 1, 1) := by decide +kernel
theorem dX9_areAlike_1 : decode cX9_areAlike 1 = .ok (.iconst (-1), 1) := by decide +kernel
theorem dX9_areAlike_2 : decode cX9_areAlike 2 = .ok (.if_icmp .eq 8, 3) := by decide +kernel
theorem dX9_areAlike_5 : decode cX9_areAlike 5 = .ok (.iload_n 2, 1) := by decide +kernel
theorem dX9_areAlike_6 : decode cX9_areAlike 6 = .ok (.iconst (-1), 1) := by decide +kernel
theorem dX9_areAlike_7 : decode cX9_areAlike 7 = .ok (.if_icmp .ne 14, 3) := by decide +kernel
theorem dX9_areAlike_10 : decode cX9_areAlike 10 = .ok (.iload_n 1, 1) := by decide +kernel
theorem dX9_areAlike_11 : decode cX9_areAlike 11 = .ok (.iload_n 2, 1) := by decide +kernel
theorem dX9_areAlike_12 : decode cX9_areAlike 12 = .ok (.if_icmp .ne 7, 3) := by decide +kernel
theorem dX9_areAlike_15 : decode cX9_areAlike 15 = .ok (.iconst 1, 1) := by decide +kernel
theorem dX9_areAlike_16 : decode cX9_areAlike 16 = .ok (.goto 4, 3) := by decide +kernel
theorem dX9_areAlike_19 : decode cX9_areAlike 19 = .ok (.iconst 0, 1) := by decide +kernel
theorem dX9_areAlike_20 : decode cX9_areAlike 20 = .ok (.ireturn, 1) := by decide +kernel
theorem dX9_areAlike_21 : decode cX9_areAlike 21 = .ok (.aload_n 0, 1) := by decide +kernel
theorem dX9_areAlike_22 : decode cX9_areAlike 22 = .ok (.getfield 16, 3) := by decide +kernel
theorem dX9_areAlike_25 : decode cX9_areAlike 25 = .ok (.iload_n 1, 1) := by decide +kernel
theorem dX9_areAlike_26 : decode cX9_areAlike 26 = .ok (.iaload, 1) := by decide +kernel
theorem dX9_areAlike_27 : decode cX9_areAlike 27 = .ok (.aload_n 0, 1) := by decide +kernel
theorem dX9_areAlike_28 : decode cX9_areAlike 28 = .ok (.getfield 16, 3) := by decide +kernel
theorem dX9_areAlike_31 : decode cX9_areAlike 31 = .ok (.iload_n 2, 1) := by decide +kernel
theorem dX9_areAlike_32 : decode cX9_areAlike 32 = .ok (.iaload, 1) := by decide +kernel
theorem dX9_areAlike_33 : decode cX9_areAlike 33 = .ok (.if_icmp .ne 22, 3) := by decide +kernel
theorem dX9_areAlike_36 : decode cX9_areAlike 36 = .ok (.aload_n 0, 1) := by decide +kernel
theorem dX9_areAlike_37 : decode cX9_areAlike 37 = .ok (.getfield 22, 3) := by decide +kernel
theorem dX9_areAlike_40 : decode cX9_areAlike 40 = .ok (.iload_n 1, 1) := by decide +kernel
theorem dX9_areAlike_41 : decode cX9_areAlike 41 = .ok (.iaload, 1) := by decide +kernel
theorem dX9_areAlike_42 : decode cX9_areAlike 42 = .ok (.aload_n 0, 1) := by decide +kernel
theorem dX9_areAlike_43 : decode cX9_areAlike 43 = .ok (.getfield 22, 3) := by decide +kernel
theorem dX9_areAlike_46 : decode cX9_areAlike 46 = .ok (.iload_n 2, 1) := by decide +kernel
theorem dX9_areAlike_47 : decode cX9_areAlike 47 = .ok (.iaload, 1) := by decide +kernel
theorem dX9_areAlike_48 : decode cX9_areAlike 48 = .ok (.if_icmp .ne 7, 3) := by decide +kernel
theorem dX9_areAlike_51 : decode cX9_areAlike 51 = .ok (.iconst 1, 1) := by decide +kernel
theorem dX9_areAlike_52 : decode cX9_areAlike 52 = .ok (.goto 4, 3) := by decide +kernel
theorem dX9_areAlike_55 : decode cX9_areAlike 55 = .ok (.iconst 0, 1) := by decide +kernel
theorem dX9_areAlike_56 : decode cX9_areAlike 56 = .ok (.istore_n 3, 1) := by decide +kernel
theorem dX9_areAlike_57 : decode cX9_areAlike 57 = .ok (.iconst 0, 1) := by decide +kernel
theorem dX9_areAlike_58 : decode cX9_areAlike 58 = .ok (.istore 4, 2) := by decide +kernel
theorem dX9_areAlike_60 : decode cX9_areAlike 60 = .ok (.iload 4, 2) := by decide +kernel
theorem dX9_areAlike_62 : decode cX9_areAlike 62 = .ok (.aload_n 0, 1) := by decide +kernel
theorem dX9_areAlike_63 : decode cX9_areAlike 63 = .ok (.getfield 22, 3) := by decide +kernel
theorem dX9_areAlike_66 : decode cX9_areAlike 66 = .ok (.iload_n 1, 1) := by decide +kernel
theorem dX9_areAlike_67 : decode cX9_areAlike 67 = .ok (.iaload, 1) := by decide +kernel
theorem dX9_areAlike_68 : decode cX9_areAlike 68 = .ok (.if_icmp .ge 46, 3) := by decide +kernel
theorem dX9_areAlike_71 : decode cX9_areAlike 71 = .ok (.iload_n 3, 1) := by decide +kernel
theorem dX9_areAlike_72 : decode cX9_areAlike 72 = .ok (.ifCond .eq 42, 3) := by decide +kernel
theorem dX9_areAlike_75 : decode cX9_areAlike 75 = .ok (.aload_n 0, 1) := by decide +kernel
theorem dX9_areAlike_76 : decode cX9_areAlike 76 = .ok (.getfield 25, 3) := by decide +kernel
theorem dX9_areAlike_79 : decode cX9_areAlike 79 = .ok (.bipush 8, 2) := by decide +kernel
theorem dX9_areAlike_81 : decode cX9_areAlike 81 = .ok (.iload_n 1, 1) := by decide +kernel
theorem dX9_areAlike_82 : decode cX9_areAlike 82 = .ok (.imul, 1) := by decide +kernel
theorem dX9_areAlike_83 : decode cX9_areAlike 83 = .ok (.iload 4, 2) := by decide +kernel
theorem dX9_areAlike_85 : decode cX9_areAlike 85 = .ok (.iadd, 1) := by decide +kernel
theorem dX9_areAlike_86 : decode cX9_areAlike 86 = .ok (.iaload, 1) := by decide +kernel
theorem dX9_areAlike_87 : decode cX9_areAlike 87 = .ok (.aload_n 0, 1) := by decide +kernel
theorem dX9_areAlike_88 : decode cX9_areAlike 88 = .ok (.getfield 25, 3) := by decide +kernel
theorem dX9_areAlike_91 : decode cX9_areAlike 91 = .ok (.bipush 8, 2) := by decide +kernel
theorem dX9_areAlike_93 : decode cX9_areAlike 93 = .ok (.iload_n 2, 1) := by decide +kernel
theorem dX9_areAlike_94 : decode cX9_areAlike 94 = .ok (.imul, 1) := by decide +kernel
theorem dX9_areAlike_95 : decode cX9_areAlike 95 = .ok (.iload 4, 2) := by decide +kernel
theorem dX9_areAlike_97 : decode cX9_areAlike 97 = .ok (.iadd, 1) := by decide +kernel
theorem dX9_areAlike_98 : decode cX9_areAlike 98 = .ok (.iaload, 1) := by decide +kernel
theorem dX9_areAlike_99 : decode cX9_areAlike 99 = .ok (.if_icmp .ne 7, 3) := by decide +kernel
theorem dX9_areAlike_102 : decode cX9_areAlike 102 = .ok (.iconst 1, 1) := by decide +kernel
theorem dX9_areAlike_103 : decode cX9_areAlike 103 = .ok (.goto 4, 3) := by decide +kernel
theorem dX9_areAlike_106 : decode cX9_areAlike 106 = .ok (.iconst 0, 1) := by decide +kernel
theorem dX9_areAlike_107 : decode cX9_areAlike 107 = .ok (.istore_n 3, 1) := by decide +kernel
theorem dX9_areAlike_108 : decode cX9_areAlike 108 = .ok (.iinc 4 1, 3) := by decide +kernel
theorem dX9_areAlike_111 : decode cX9_areAlike 111 = .ok (.goto (-51), 3) := by decide +kernel
theorem dX9_areAlike_114 : decode cX9_areAlike 114 = .ok (.iload_n 3, 1) := by decide +kernel
theorem dX9_areAlike_115 : decode cX9_areAlike 115 = .ok (.ireturn, 1) := by decide +kernel
theorem dX9_changes_0 : decode cX9_changes 0 = .ok (.aload_n 0, 1) := by decide +kernel
theorem dX9_changes_1 : decode cX9_changes 1 = .ok (.iconst 0, 1) := by decide +kernel
theorem dX9_changes_2 : decode cX9_changes 2 = .ok (.putfield 47, 3) := by decide +kernel
theorem dX9_changes_5 : decode cX9_changes 5 = .ok (.aload_n 0, 1) := by decide +kernel
theorem dX9_changes_6 : decode cX9_changes 6 = .ok (.iconst 1, 1) := by decide +kernel
theorem dX9_changes_7 : decode cX9_changes 7 = .ok (.iload_n 1, 1) := by decide +kernel
theorem dX9_changes_8 : decode cX9_changes 8 = .ok (.invokevirtual 123, 3) := by decide +kernel
theorem dX9_changes_11 : decode cX9_changes 11 = .ok (.aload_n 0, 1) := by decide +kernel
theorem dX9_changes_12 : decode cX9_changes 12 = .ok (.iconst 2, 1) := by decide +kernel
theorem dX9_changes_13 : decode cX9_changes 13 = .ok (.iload_n 2, 1) := by decide +kernel
theorem dX9_changes_14 : decode cX9_changes 14 = .ok (.invokevirtual 123, 3) := by decide +kernel
theorem dX9_changes_17 : decode cX9_changes 17 = .ok (.iconst 0, 1) := by decide +kernel
theorem dX9_changes_18 : decode cX9_changes 18 = .ok (.istore_n 3, 1) := by decide +kernel
theorem dX9_changes_19 : decode cX9_changes 19 = .ok (.iconst 1, 1) := by decide +kernel
theorem dX9_changes_20 : decode cX9_changes 20 = .ok (.istore 4, 2) := by decide +kernel
theorem dX9_changes_22 : decode cX9_changes 22 = .ok (.iload 4, 2) := by decide +kernel
theorem dX9_changes_24 : decode cX9_changes 24 = .ok (.sipush 512, 3) := by decide +kernel
theorem dX9_changes_27 : decode cX9_changes 27 = .ok (.if_icmp .ge 38, 3) := by decide +kernel
theorem dX9_changes_30 : decode cX9_changes 30 = .ok (.iload_n 3, 1) := by decide +kernel
theorem dX9_changes_31 : decode cX9_changes 31 = .ok (.aload_n 0, 1) := by decide +kernel
theorem dX9_changes_32 : decode cX9_changes 32 = .ok (.aload_n 0, 1) := by decide +kernel
theorem dX9_changes_33 : decode cX9_changes 33 = .ok (.iconst 1, 1) := by decide +kernel
theorem dX9_changes_34 : decode cX9_changes 34 = .ok (.iload 4, 2) := by decide +kernel
theorem dX9_changes_36 : decode cX9_changes 36 = .ok (.invokevirtual 70, 3) := by decide +kernel
theorem dX9_changes_39 : decode cX9_changes 39 = .ok (.aload_n 0, 1) := by decide +kernel
theorem dX9_changes_40 : decode cX9_changes 40 = .ok (.iconst 2, 1) := by decide +kernel
theorem dX9_changes_41 : decode cX9_changes 41 = .ok (.iload 4, 2) := by decide +kernel
theorem dX9_changes_43 : decode cX9_changes 43 = .ok (.invokevirtual 70, 3) := by decide +kernel
theorem dX9_changes_46 : decode cX9_changes 46 = .ok (.invokevirtual 126, 3) := by decide +kernel
theorem dX9_changes_49 : decode cX9_changes 49 = .ok (.ifCond .eq 7, 3) := by decide +kernel
theorem dX9_changes_52 : decode cX9_changes 52 = .ok (.iconst 0, 1) := by decide +kernel
theorem dX9_changes_53 : decode cX9_changes 53 = .ok (.goto 4, 3) := by decide +kernel
theorem dX9_changes_56 : decode cX9_changes 56 = .ok (.iconst 1, 1) := by decide +kernel
theorem dX9_changes_57 : decode cX9_changes 57 = .ok (.iadd, 1) := by decide +kernel
theorem dX9_changes_58 : decode cX9_changes 58 = .ok (.istore_n 3, 1) := by decide +kernel
theorem dX9_changes_59 : decode cX9_changes 59 = .ok (.iinc 4 1, 3) := by decide +kernel
theorem dX9_changes_62 : decode cX9_changes 62 = .ok (.goto (-40), 3) := by decide +kernel
theorem dX9_changes_65 : decode cX9_changes 65 = .ok (.iload_n 3, 1) := by decide +kernel
theorem dX9_changes_66 : decode cX9_changes 66 = .ok (.ireturn, 1) := by decide +kernel
