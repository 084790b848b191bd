theorem dX0_init_0 : decode cX0_init 0 = .ok (.aload_n 0, 1) := by decide +kernel
theorem dX0_init_1 : decode cX0_init 1 = .ok (.invokespecial 1, 3) := by decide +kernel
theorem dX0_init_4 : decode cX0_init 4 = .ok (.aload_n 0, 1) := by decide +kernel
theorem dX0_init_5 : decode cX0_init 5 = .ok (.aload_n 1, 1) := by decide +kernel
theorem dX0_init_6 : decode cX0_init 6 = .ok (.putfield 7, 3) := by decide +kernel
theorem dX0_init_9 : decode cX0_init 9 = .ok (.aload_n 0, 1) := by decide +kernel
theorem dX0_init_10 : decode cX0_init 10 = .ok (.iload_n 2, 1) := by decide +kernel
theorem dX0_init_11 : decode cX0_init 11 = .ok (.putfield 13, 3) := by decide +kernel
theorem dX0_init_14 : decode cX0_init 14 = .ok (.aload_n 0, 1) := by decide +kernel
theorem dX0_init_15 : decode cX0_init 15 = .ok (.iload_n 3, 1) := by decide +kernel
theorem dX0_init_16 : decode cX0_init 16 = .ok (.putfield 17, 3) := by decide +kernel
theorem dX0_init_19 : decode cX0_init 19 = .ok (.return_, 1) := by decide +kernel
theorem dX0_isLike_0 : decode cX0_isLike 0 = .ok (.aload_n 0, 1) := by decide +kernel
theorem dX0_isLike_1 : decode cX0_isLike 1 = .ok (.getfield 7, 3) := by decide +kernel
theorem dX0_isLike_4 : decode cX0_isLike 4 = .ok (.getfield 20, 3) := by decide +kernel
theorem dX0_isLike_7 : decode cX0_isLike 7 = .ok (.aload_n 1, 1) := by decide +kernel
theorem dX0_isLike_8 : decode cX0_isLike 8 = .ok (.getfield 7, 3) := by decide +kernel
theorem dX0_isLike_11 : decode cX0_isLike 11 = .ok (.getfield 20, 3) := by decide +kernel
theorem dX0_isLike_14 : decode cX0_isLike 14 = .ok (.if_icmp .ne 29, 3) := by decide +kernel
theorem dX0_isLike_17 : decode cX0_isLike 17 = .ok (.aload_n 0, 1) := by decide +kernel
theorem dX0_isLike_18 : decode cX0_isLike 18 = .ok (.getfield 13, 3) := by decide +kernel
theorem dX0_isLike_21 : decode cX0_isLike 21 = .ok (.aload_n 1, 1) := by decide +kernel
theorem dX0_isLike_22 : decode cX0_isLike 22 = .ok (.getfield 13, 3) := by decide +kernel
theorem dX0_isLike_25 : decode cX0_isLike 25 = .ok (.if_icmp .ne 18, 3) := by decide +kernel
theorem dX0_isLike_28 : decode cX0_isLike 28 = .ok (.aload_n 0, 1) := by decide +kernel
theorem dX0_isLike_29 : decode cX0_isLike 29 = .ok (.getfield 17, 3) := by decide +kernel
theorem dX0_isLike_32 : decode cX0_isLike 32 = .ok (.aload_n 1, 1) := by decide +kernel
theorem dX0_isLike_33 : decode cX0_isLike 33 = .ok (.getfield 17, 3) := by decide +kernel
theorem dX0_isLike_36 : decode cX0_isLike 36 = .ok (.if_icmp .ne 7, 3) := by decide +kernel
theorem dX0_isLike_39 : decode cX0_isLike 39 = .ok (.iconst 1, 1) := by decide +kernel
theorem dX0_isLike_40 : decode cX0_isLike 40 = .ok (.goto 4, 3) := by decide +kernel
theorem dX0_isLike_43 : decode cX0_isLike 43 = .ok (.iconst 0, 1) := by decide +kernel
theorem dX0_isLike_44 : decode cX0_isLike 44 = .ok (.ireturn, 1) := by decide +kernel
theorem dX0_concerns_0 : decode cX0_concerns 0 = .ok (.aload_n 0, 1) := by decide +kernel
theorem dX0_concerns_1 : decode cX0_concerns 1 = .ok (.getfield 7, 3) := by decide +kernel
theorem dX0_concerns_4 : decode cX0_concerns 4 = .ok (.aload_n 1, 1) := by decide +kernel
theorem dX0_concerns_5 : decode cX0_concerns 5 = .ok (.getfield 25, 3) := by decide +kernel
theorem dX0_concerns_8 : decode cX0_concerns 8 = .ok (.invokevirtual 28, 3) := by decide +kernel
theorem dX0_concerns_11 : decode cX0_concerns 11 = .ok (.ireturn, 1) := by decide +kernel
theorem dX0_permits_0 : decode cX0_permits 0 = .ok (.aload_n 0, 1) := by decide +kernel
theorem dX0_permits_1 : decode cX0_permits 1 = .ok (.getfield 17, 3) := by decide +kernel
theorem dX0_permits_4 : decode cX0_permits 4 = .ok (.aload_n 1, 1) := by decide +kernel
theorem dX0_permits_5 : decode cX0_permits 5 = .ok (.getfield 32, 3) := by decide +kernel
theorem dX0_permits_8 : decode cX0_permits 8 = .ok (.invokevirtual 36, 3) := by decide +kernel
theorem dX0_permits_11 : decode cX0_permits 11 = .ok (.if_icmp .ne 21, 3) := by decide +kernel
theorem dX0_permits_14 : decode cX0_permits 14 = .ok (.aload_n 0, 1) := by decide +kernel
theorem dX0_permits_15 : decode cX0_permits 15 = .ok (.getfield 13, 3) := by decide +kernel
theorem dX0_permits_18 : decode cX0_permits 18 = .ok (.aload_n 1, 1) := by decide +kernel
theorem dX0_permits_19 : decode cX0_permits 19 = .ok (.getfield 25, 3) := by decide +kernel
theorem dX0_permits_22 : decode cX0_permits 22 = .ok (.getfield 41, 3) := by decide +kernel
theorem dX0_permits_25 : decode cX0_permits 25 = .ok (.if_icmp .lt 7, 3) := by decide +kernel
theorem dX0_permits_28 : decode cX0_permits 28 = .ok (.iconst 1, 1) := by decide +kernel
theorem dX0_permits_29 : decode cX0_permits 29 = .ok (.goto 4, 3) := by decide +kernel
theorem dX0_permits_32 : decode cX0_permits 32 = .ok (.iconst 0, 1) := by decide +kernel
theorem dX0_permits_33 : decode cX0_permits 33 = .ok (.ireturn, 1) := by decide +kernel
theorem dX1_init_0 : decode cX1_init 0 = .ok (.aload_n 0, 1) := by decide +kernel
theorem dX1_init_1 : decode cX1_init 1 = .ok (.invokespecial 3, 3) := by decide +kernel
theorem dX1_init_4 : decode cX1_init 4 = .ok (.aload_n 0, 1) := by decide +kernel
theorem dX1_init_5 : decode cX1_init 5 = .ok (.sipush 300, 3) := by decide +kernel
theorem dX1_init_8 : decode cX1_init 8 = .ok (.newarray .int, 2) := by decide +kernel
theorem dX1_init_10 : decode cX1_init 10 = .ok (.putfield 9, 3) := by decide +kernel
theorem dX1_init_13 : decode cX1_init 13 = .ok (.aload_n 0, 1) := by decide +kernel
theorem dX1_init_14 : decode cX1_init 14 = .ok (.iconst 0, 1) := by decide +kernel
theorem dX1_init_15 : decode cX1_init 15 = .ok (.putfield 15, 3) := by decide +kernel
theorem dX1_init_18 : decode cX1_init 18 = .ok (.aload_n 0, 1) := by decide +kernel
theorem dX1_init_19 : decode cX1_init 19 = .ok (.sipush 300, 3) := by decide +kernel
theorem dX1_init_22 : decode cX1_init 22 = .ok (.anewarray 19, 3) := by decide +kernel
theorem dX1_init_25 : decode cX1_init 25 = .ok (.putfield 21, 3) := by decide +kernel
theorem dX1_init_28 : decode cX1_init 28 = .ok (.aload_n 0, 1) := by decide +kernel
theorem dX1_init_29 : decode cX1_init 29 = .ok (.iconst 0, 1) := by decide +kernel
theorem dX1_init_30 : decode cX1_init 30 = .ok (.putfield 25, 3) := by decide +kernel
theorem dX1_init_33 : decode cX1_init 33 = .ok (.aload_n 0, 1) := by decide +kernel
theorem dX1_init_34 : decode cX1_init 34 = .ok (.sipush 512, 3) := by decide +kernel
theorem dX1_init_37 : decode cX1_init 37 = .ok (.anewarray 19, 3) := by decide +kernel
theorem dX1_init_40 : decode cX1_init 40 = .ok (.putfield 28, 3) := by decide +kernel
theorem dX1_init_43 : decode cX1_init 43 = .ok (.aload_n 0, 1) := by decide +kernel
theorem dX1_init_44 : decode cX1_init 44 = .ok (.sipush 512, 3) := by decide +kernel
theorem dX1_init_47 : decode cX1_init 47 = .ok (.anewarray 19, 3) := by decide +kernel
theorem dX1_init_50 : decode cX1_init 50 = .ok (.putfield 31, 3) := by decide +kernel
theorem dX1_init_53 : decode cX1_init 53 = .ok (.return_, 1) := by decide +kernel
theorem dX1_size_0 : decode cX1_size 0 = .ok (.aload_n 0, 1) := by decide +kernel
theorem dX1_size_1 : decode cX1_size 1 = .ok (.getfield 15, 3) := by decide +kernel
theorem dX1_size_4 : decode cX1_size 4 = .ok (.ireturn, 1) := by decide +kernel
theorem dX1_isFull_0 : decode cX1_isFull 0 = .ok (.aload_n 0, 1) := by decide +kernel
theorem dX1_isFull_1 : decode cX1_isFull 1 = .ok (.getfield 15, 3) := by decide +kernel
theorem dX1_isFull_4 : decode cX1_isFull 4 = .ok (.sipush 300, 3) := by decide +kernel
theorem dX1_isFull_7 : decode cX1_isFull 7 = .ok (.if_icmp .lt 7, 3) := by decide +kernel
theorem dX1_isFull_10 : decode cX1_isFull 10 = .ok (.iconst 1, 1) := by decide +kernel
theorem dX1_isFull_11 : decode cX1_isFull 11 = .ok (.goto 4, 3) := by decide +kernel
theorem dX1_isFull_14 : decode cX1_isFull 14 = .ok (.iconst 0, 1) := by decide +kernel
theorem dX1_isFull_15 : decode cX1_isFull 15 = .ok (.ireturn, 1) := by decide +kernel
theorem dX1_noteUpdate_0 : decode cX1_noteUpdate 0 = .ok (.aload_n 0, 1) := by decide +kernel
theorem dX1_noteUpdate_1 : decode cX1_noteUpdate 1 = .ok (.invokevirtual 34, 3) := by decide +kernel
theorem dX1_noteUpdate_4 : decode cX1_noteUpdate 4 = .ok (.ifCond .ne 23, 3) := by decide +kernel
theorem dX1_noteUpdate_7 : decode cX1_noteUpdate 7 = .ok (.aload_n 0, 1) := by decide +kernel
theorem dX1_noteUpdate_8 : decode cX1_noteUpdate 8 = .ok (.getfield 9, 3) := by decide +kernel
theorem dX1_noteUpdate_11 : decode cX1_noteUpdate 11 = .ok (.aload_n 0, 1) := by decide +kernel
theorem dX1_noteUpdate_12 : decode cX1_noteUpdate 12 = .ok (.getfield 15, 3) := by decide +kernel
theorem dX1_noteUpdate_15 : decode cX1_noteUpdate 15 = .ok (.iload_n 1, 1) := by decide +kernel
theorem dX1_noteUpdate_16 : decode cX1_noteUpdate 16 = .ok (.iastore, 1) := by decide +kernel
theorem dX1_noteUpdate_17 : decode cX1_noteUpdate 17 = .ok (.aload_n 0, 1) := by decide +kernel
theorem dX1_noteUpdate_18 : decode cX1_noteUpdate 18 = .ok (.dup, 1) := by decide +kernel
theorem dX1_noteUpdate_19 : decode cX1_noteUpdate 19 = .ok (.getfield 15, 3) := by decide +kernel
theorem dX1_noteUpdate_22 : decode cX1_noteUpdate 22 = .ok (.iconst 1, 1) := by decide +kernel
theorem dX1_noteUpdate_23 : decode cX1_noteUpdate 23 = .ok (.iadd, 1) := by decide +kernel
theorem dX1_noteUpdate_24 : decode cX1_noteUpdate 24 = .ok (.putfield 15, 3) := by decide +kernel
theorem dX1_noteUpdate_27 : decode cX1_noteUpdate 27 = .ok (.return_, 1) := by decide +kernel
theorem dX1_keep_0 : decode cX1_keep 0 = .ok (.aload_n 0, 1) := by decide +kernel
theorem dX1_keep_1 : decode cX1_keep 1 = .ok (.getfield 25, 3) := by decide +kernel
theorem dX1_keep_4 : decode cX1_keep 4 = .ok (.sipush 300, 3) := by decide +kernel
theorem dX1_keep_7 : decode cX1_keep 7 = .ok (.if_icmp .ge 23, 3) := by decide +kernel
theorem dX1_keep_10 : decode cX1_keep 10 = .ok (.aload_n 0, 1) := by decide +kernel
theorem dX1_keep_11 : decode cX1_keep 11 = .ok (.getfield 21, 3) := by decide +kernel
theorem dX1_keep_14 : decode cX1_keep 14 = .ok (.aload_n 0, 1) := by decide +kernel
theorem dX1_keep_15 : decode cX1_keep 15 = .ok (.getfield 25, 3) := by decide +kernel
theorem dX1_keep_18 : decode cX1_keep 18 = .ok (.aload_n 1, 1) := by decide +kernel
theorem dX1_keep_19 : decode cX1_keep 19 = .ok (.aastore, 1) := by decide +kernel
theorem dX1_keep_20 : decode cX1_keep 20 = .ok (.aload_n 0, 1) := by decide +kernel
theorem dX1_keep_21 : decode cX1_keep 21 = .ok (.dup, 1) := by decide +kernel
theorem dX1_keep_22 : decode cX1_keep 22 = .ok (.getfield 25, 3) := by decide +kernel
theorem dX1_keep_25 : decode cX1_keep 25 = .ok (.iconst 1, 1) := by decide +kernel
theorem dX1_keep_26 : decode cX1_keep 26 = .ok (.iadd, 1) := by decide +kernel
theorem dX1_keep_27 : decode cX1_keep 27 = .ok (.putfield 25, 3) := by decide +kernel
theorem dX1_keep_30 : decode cX1_keep 30 = .ok (.return_, 1) := by decide +kernel
theorem dX1_sizeAt_0 : decode cX1_sizeAt 0 = .ok (.iconst 0, 1) := by decide +kernel
theorem dX1_sizeAt_1 : decode cX1_sizeAt 1 = .ok (.istore_n 2, 1) := by decide +kernel
theorem dX1_sizeAt_2 : decode cX1_sizeAt 2 = .ok (.iload_n 2, 1) := by decide +kernel
theorem dX1_sizeAt_3 : decode cX1_sizeAt 3 = .ok (.aload_n 0, 1) := by decide +kernel
theorem dX1_sizeAt_4 : decode cX1_sizeAt 4 = .ok (.getfield 15, 3) := by decide +kernel
theorem dX1_sizeAt_7 : decode cX1_sizeAt 7 = .ok (.if_icmp .ge 19, 3) := by decide +kernel
theorem dX1_sizeAt_10 : decode cX1_sizeAt 10 = .ok (.aload_n 0, 1) := by decide +kernel
theorem dX1_sizeAt_11 : decode cX1_sizeAt 11 = .ok (.getfield 9, 3) := by decide +kernel
theorem dX1_sizeAt_14 : decode cX1_sizeAt 14 = .ok (.iload_n 2, 1) := by decide +kernel
theorem dX1_sizeAt_15 : decode cX1_sizeAt 15 = .ok (.iaload, 1) := by decide +kernel
theorem dX1_sizeAt_16 : decode cX1_sizeAt 16 = .ok (.iload_n 1, 1) := by decide +kernel
theorem dX1_sizeAt_17 : decode cX1_sizeAt 17 = .ok (.if_icmp .gt 9, 3) := by decide +kernel
theorem dX1_sizeAt_20 : decode cX1_sizeAt 20 = .ok (.iinc 2 1, 3) := by decide +kernel
theorem dX1_sizeAt_23 : decode cX1_sizeAt 23 = .ok (.goto (-21), 3) := by decide +kernel
theorem dX1_sizeAt_26 : decode cX1_sizeAt 26 = .ok (.iload_n 2, 1) := by decide +kernel
theorem dX1_sizeAt_27 : decode cX1_sizeAt 27 = .ok (.ireturn, 1) := by decide +kernel
theorem dX1_routeFor_0 : decode cX1_routeFor 0 = .ok (.aconst_null, 1) := by decide +kernel
theorem dX1_routeFor_1 : decode cX1_routeFor 1 = .ok (.astore_n 3, 1) := by decide +kernel
theorem dX1_routeFor_2 : decode cX1_routeFor 2 = .ok (.iconst 0, 1) := by decide +kernel
theorem dX1_routeFor_3 : decode cX1_routeFor 3 = .ok (.istore 4, 2) := by decide +kernel
theorem dX1_routeFor_5 : decode cX1_routeFor 5 = .ok (.iload 4, 2) := by decide +kernel
theorem dX1_routeFor_7 : decode cX1_routeFor 7 = .ok (.aload_n 0, 1) := by decide +kernel
theorem dX1_routeFor_8 : decode cX1_routeFor 8 = .ok (.getfield 25, 3) := by decide +kernel
theorem dX1_routeFor_11 : decode cX1_routeFor 11 = .ok (.if_icmp .ge 56, 3) := by decide +kernel
theorem dX1_routeFor_14 : decode cX1_routeFor 14 = .ok (.aload_n 0, 1) := by decide +kernel
theorem dX1_routeFor_15 : decode cX1_routeFor 15 = .ok (.getfield 21, 3) := by decide +kernel
theorem dX1_routeFor_18 : decode cX1_routeFor 18 = .ok (.iload 4, 2) := by decide +kernel
theorem dX1_routeFor_20 : decode cX1_routeFor 20 = .ok (.aaload, 1) := by decide +kernel
theorem dX1_routeFor_21 : decode cX1_routeFor 21 = .ok (.astore 5, 2) := by decide +kernel
theorem dX1_routeFor_23 : decode cX1_routeFor 23 = .ok (.aload 5, 2) := by decide +kernel
theorem dX1_routeFor_25 : decode cX1_routeFor 25 = .ok (.ifnull 36, 3) := by decide +kernel
theorem dX1_routeFor_28 : decode cX1_routeFor 28 = .ok (.aload 5, 2) := by decide +kernel
theorem dX1_routeFor_30 : decode cX1_routeFor 30 = .ok (.iload_n 2, 1) := by decide +kernel
theorem dX1_routeFor_31 : decode cX1_routeFor 31 = .ok (.invokevirtual 38, 3) := by decide +kernel
theorem dX1_routeFor_34 : decode cX1_routeFor 34 = .ok (.ifCond .eq 27, 3) := by decide +kernel
theorem dX1_routeFor_37 : decode cX1_routeFor 37 = .ok (.aload 5, 2) := by decide +kernel
theorem dX1_routeFor_39 : decode cX1_routeFor 39 = .ok (.getfield 42, 3) := by decide +kernel
theorem dX1_routeFor_42 : decode cX1_routeFor 42 = .ok (.iload_n 1, 1) := by decide +kernel
theorem dX1_routeFor_43 : decode cX1_routeFor 43 = .ok (.invokevirtual 46, 3) := by decide +kernel
theorem dX1_routeFor_46 : decode cX1_routeFor 46 = .ok (.ifCond .eq 15, 3) := by decide +kernel
theorem dX1_routeFor_49 : decode cX1_routeFor 49 = .ok (.aload 5, 2) := by decide +kernel
theorem dX1_routeFor_51 : decode cX1_routeFor 51 = .ok (.aload_n 3, 1) := by decide +kernel
theorem dX1_routeFor_52 : decode cX1_routeFor 52 = .ok (.invokevirtual 51, 3) := by decide +kernel
theorem dX1_routeFor_55 : decode cX1_routeFor 55 = .ok (.ifCond .eq 6, 3) := by decide +kernel
theorem dX1_routeFor_58 : decode cX1_routeFor 58 = .ok (.aload 5, 2) := by decide +kernel
theorem dX1_routeFor_60 : decode cX1_routeFor 60 = .ok (.astore_n 3, 1) := by decide +kernel
theorem dX1_routeFor_61 : decode cX1_routeFor 61 = .ok (.iinc 4 1, 3) := by decide +kernel
theorem dX1_routeFor_64 : decode cX1_routeFor 64 = .ok (.goto (-59), 3) := by decide +kernel
theorem dX1_routeFor_67 : decode cX1_routeFor 67 = .ok (.aload_n 3, 1) := by decide +kernel
theorem dX1_routeFor_68 : decode cX1_routeFor 68 = .ok (.areturn, 1) := by decide +kernel
theorem dX1_countUnlike_0 : decode cX1_countUnlike 0 = .ok (.aload_n 0, 1) := by decide +kernel
theorem dX1_countUnlike_1 : decode cX1_countUnlike 1 = .ok (.aload_n 0, 1) := by decide +kernel
theorem dX1_countUnlike_2 : decode cX1_countUnlike 2 = .ok (.getfield 28, 3) := by decide +kernel
theorem dX1_countUnlike_5 : decode cX1_countUnlike 5 = .ok (.iload_n 1, 1) := by decide +kernel
theorem dX1_countUnlike_6 : decode cX1_countUnlike 6 = .ok (.invokevirtual 55, 3) := by decide +kernel
theorem dX1_countUnlike_9 : decode cX1_countUnlike 9 = .ok (.aload_n 0, 1) := by decide +kernel
theorem dX1_countUnlike_10 : decode cX1_countUnlike 10 = .ok (.aload_n 0, 1) := by decide +kernel
theorem dX1_countUnlike_11 : decode cX1_countUnlike 11 = .ok (.getfield 31, 3) := by decide +kernel
theorem dX1_countUnlike_14 : decode cX1_countUnlike 14 = .ok (.iload_n 2, 1) := by decide +kernel
theorem dX1_countUnlike_15 : decode cX1_countUnlike 15 = .ok (.invokevirtual 55, 3) := by decide +kernel
theorem dX1_countUnlike_18 : decode cX1_countUnlike 18 = .ok (.iconst 0, 1) := by decide +kernel
theorem dX1_countUnlike_19 : decode cX1_countUnlike 19 = .ok (.istore_n 3, 1) := by decide +kernel
theorem dX1_countUnlike_20 : decode cX1_countUnlike 20 = .ok (.iconst 1, 1) := by decide +kernel
theorem dX1_countUnlike_21 : decode cX1_countUnlike 21 = .ok (.istore 4, 2) := by decide +kernel
theorem dX1_countUnlike_23 : decode cX1_countUnlike 23 = .ok (.iload 4, 2) := by decide +kernel
theorem dX1_countUnlike_25 : decode cX1_countUnlike 25 = .ok (.sipush 512, 3) := by decide +kernel
theorem dX1_countUnlike_28 : decode cX1_countUnlike 28 = .ok (.if_icmp .ge 32, 3) := by decide +kernel
theorem dX1_countUnlike_31 : decode cX1_countUnlike 31 = .ok (.aload_n 0, 1) := by decide +kernel
theorem dX1_countUnlike_32 : decode cX1_countUnlike 32 = .ok (.getfield 28, 3) := by decide +kernel
theorem dX1_countUnlike_35 : decode cX1_countUnlike 35 = .ok (.iload 4, 2) := by decide +kernel
theorem dX1_countUnlike_37 : decode cX1_countUnlike 37 = .ok (.aaload, 1) := by decide +kernel
theorem dX1_countUnlike_38 : decode cX1_countUnlike 38 = .ok (.aload_n 0, 1) := by decide +kernel
theorem dX1_countUnlike_39 : decode cX1_countUnlike 39 = .ok (.getfield 31, 3) := by decide +kernel
theorem dX1_countUnlike_42 : decode cX1_countUnlike 42 = .ok (.iload 4, 2) := by decide +kernel
theorem dX1_countUnlike_44 : decode cX1_countUnlike 44 = .ok (.aaload, 1) := by decide +kernel
theorem dX1_countUnlike_45 : decode cX1_countUnlike 45 = .ok (.invokestatic 59, 3) := by decide +kernel
theorem dX1_countUnlike_48 : decode cX1_countUnlike 48 = .ok (.ifCond .eq 6, 3) := by decide +kernel
theorem dX1_countUnlike_51 : decode cX1_countUnlike 51 = .ok (.iinc 3 1, 3) := by decide +kernel
theorem dX1_countUnlike_54 : decode cX1_countUnlike 54 = .ok (.iinc 4 1, 3) := by decide +kernel
theorem dX1_countUnlike_57 : decode cX1_countUnlike 57 = .ok (.goto (-34), 3) := by decide +kernel
theorem dX1_countUnlike_60 : decode cX1_countUnlike 60 = .ok (.iload_n 3, 1) := by decide +kernel
theorem dX1_countUnlike_61 : decode cX1_countUnlike 61 = .ok (.ireturn, 1) := by decide +kernel
theorem dX1_fillBest_0 : decode cX1_fillBest 0 = .ok (.iconst 0, 1) := by decide +kernel
theorem dX1_fillBest_1 : decode cX1_fillBest 1 = .ok (.istore_n 3, 1) := by decide +kernel
theorem dX1_fillBest_2 : decode cX1_fillBest 2 = .ok (.iload_n 3, 1) := by decide +kernel
theorem dX1_fillBest_3 : decode cX1_fillBest 3 = .ok (.sipush 512, 3) := by decide +kernel
theorem dX1_fillBest_6 : decode cX1_fillBest 6 = .ok (.if_icmp .ge 13, 3) := by decide +kernel
theorem dX1_fillBest_9 : decode cX1_fillBest 9 = .ok (.aload_n 1, 1) := by decide +kernel
theorem dX1_fillBest_10 : decode cX1_fillBest 10 = .ok (.iload_n 3, 1) := by decide +kernel
theorem dX1_fillBest_11 : decode cX1_fillBest 11 = .ok (.aconst_null, 1) := by decide +kernel
theorem dX1_fillBest_12 : decode cX1_fillBest 12 = .ok (.aastore, 1) := by decide +kernel
theorem dX1_fillBest_13 : decode cX1_fillBest 13 = .ok (.iinc 3 1, 3) := by decide +kernel
theorem dX1_fillBest_16 : decode cX1_fillBest 16 = .ok (.goto (-14), 3) := by decide +kernel
theorem dX1_fillBest_19 : decode cX1_fillBest 19 = .ok (.iconst 0, 1) := by decide +kernel
theorem dX1_fillBest_20 : decode cX1_fillBest 20 = .ok (.istore_n 3, 1) := by decide +kernel
theorem dX1_fillBest_21 : decode cX1_fillBest 21 = .ok (.iload_n 3, 1) := by decide +kernel
theorem dX1_fillBest_22 : decode cX1_fillBest 22 = .ok (.aload_n 0, 1) := by decide +kernel
theorem dX1_fillBest_23 : decode cX1_fillBest 23 = .ok (.getfield 25, 3) := by decide +kernel
theorem dX1_fillBest_26 : decode cX1_fillBest 26 = .ok (.if_icmp .ge 70, 3) := by decide +kernel
theorem dX1_fillBest_29 : decode cX1_fillBest 29 = .ok (.aload_n 0, 1) := by decide +kernel
theorem dX1_fillBest_30 : decode cX1_fillBest 30 = .ok (.getfield 21, 3) := by decide +kernel
theorem dX1_fillBest_33 : decode cX1_fillBest 33 = .ok (.iload_n 3, 1) := by decide +kernel
theorem dX1_fillBest_34 : decode cX1_fillBest 34 = .ok (.aaload, 1) := by decide +kernel
theorem dX1_fillBest_35 : decode cX1_fillBest 35 = .ok (.astore 4, 2) := by decide +kernel
theorem dX1_fillBest_37 : decode cX1_fillBest 37 = .ok (.aload 4, 2) := by decide +kernel
theorem dX1_fillBest_39 : decode cX1_fillBest 39 = .ok (.ifnull 51, 3) := by decide +kernel
theorem dX1_fillBest_42 : decode cX1_fillBest 42 = .ok (.aload 4, 2) := by decide +kernel
theorem dX1_fillBest_44 : decode cX1_fillBest 44 = .ok (.iload_n 2, 1) := by decide +kernel
theorem dX1_fillBest_45 : decode cX1_fillBest 45 = .ok (.invokevirtual 38, 3) := by decide +kernel
theorem dX1_fillBest_48 : decode cX1_fillBest 48 = .ok (.ifCond .ne 6, 3) := by decide +kernel
theorem dX1_fillBest_51 : decode cX1_fillBest 51 = .ok (.goto 39, 3) := by decide +kernel
theorem dX1_fillBest_54 : decode cX1_fillBest 54 = .ok (.aload 4, 2) := by decide +kernel
theorem dX1_fillBest_56 : decode cX1_fillBest 56 = .ok (.getfield 42, 3) := by decide +kernel
theorem dX1_fillBest_59 : decode cX1_fillBest 59 = .ok (.getfield 63, 3) := by decide +kernel
theorem dX1_fillBest_62 : decode cX1_fillBest 62 = .ok (.istore 5, 2) := by decide +kernel
theorem dX1_fillBest_64 : decode cX1_fillBest 64 = .ok (.iload 5, 2) := by decide +kernel
theorem dX1_fillBest_66 : decode cX1_fillBest 66 = .ok (.invokestatic 66, 3) := by decide +kernel
theorem dX1_fillBest_69 : decode cX1_fillBest 69 = .ok (.ifCond .eq 21, 3) := by decide +kernel
theorem dX1_fillBest_72 : decode cX1_fillBest 72 = .ok (.aload 4, 2) := by decide +kernel
theorem dX1_fillBest_74 : decode cX1_fillBest 74 = .ok (.aload_n 1, 1) := by decide +kernel
theorem dX1_fillBest_75 : decode cX1_fillBest 75 = .ok (.iload 5, 2) := by decide +kernel
theorem dX1_fillBest_77 : decode cX1_fillBest 77 = .ok (.aaload, 1) := by decide +kernel
theorem dX1_fillBest_78 : decode cX1_fillBest 78 = .ok (.invokevirtual 69, 3) := by decide +kernel
theorem dX1_fillBest_81 : decode cX1_fillBest 81 = .ok (.ifCond .eq 9, 3) := by decide +kernel
theorem dX1_fillBest_84 : decode cX1_fillBest 84 = .ok (.aload_n 1, 1) := by decide +kernel
theorem dX1_fillBest_85 : decode cX1_fillBest 85 = .ok (.iload 5, 2) := by decide +kernel
theorem dX1_fillBest_87 : decode cX1_fillBest 87 = .ok (.aload 4, 2) := by decide +kernel
theorem dX1_fillBest_89 : decode cX1_fillBest 89 = .ok (.aastore, 1) := by decide +kernel
theorem dX1_fillBest_90 : decode cX1_fillBest 90 = .ok (.iinc 3 1, 3) := by decide +kernel
theorem dX1_fillBest_93 : decode cX1_fillBest 93 = .ok (.goto (-72), 3) := by decide +kernel
theorem dX1_fillBest_96 : decode cX1_fillBest 96 = .ok (.return_, 1) := by decide +kernel
theorem dX1_areUnlike_0 : decode cX1_areUnlike 0 = .ok (.aload_n 0, 1) := by decide +kernel
theorem dX1_areUnlike_1 : decode cX1_areUnlike 1 = .ok (.ifnull 7, 3) := by decide +kernel
theorem dX1_areUnlike_4 : decode cX1_areUnlike 4 = .ok (.aload_n 1, 1) := by decide +kernel
theorem dX1_areUnlike_5 : decode cX1_areUnlike 5 = .ok (.ifnonnull 14, 3) := by decide +kernel
theorem dX1_areUnlike_8 : decode cX1_areUnlike 8 = .ok (.aload_n 0, 1) := by decide +kernel
theorem dX1_areUnlike_9 : decode cX1_areUnlike 9 = .ok (.aload_n 1, 1) := by decide +kernel
theorem dX1_areUnlike_10 : decode cX1_areUnlike 10 = .ok (.if_acmp .eq 7, 3) := by decide +kernel
theorem dX1_areUnlike_13 : decode cX1_areUnlike 13 = .ok (.iconst 1, 1) := by decide +kernel
theorem dX1_areUnlike_14 : decode cX1_areUnlike 14 = .ok (.goto 4, 3) := by decide +kernel
theorem dX1_areUnlike_17 : decode cX1_areUnlike 17 = .ok (.iconst 0, 1) := by decide +kernel
theorem dX1_areUnlike_18 : decode cX1_areUnlike 18 = .ok (.ireturn, 1) := by decide +kernel
theorem dX1_areUnlike_19 : decode cX1_areUnlike 19 = .ok (.aload_n 0, 1) := by decide +kernel
theorem dX1_areUnlike_20 : decode cX1_areUnlike 20 = .ok (.aload_n 1, 1) := by decide +kernel
theorem dX1_areUnlike_21 : decode cX1_areUnlike 21 = .ok (.invokevirtual 72, 3) := by decide +kernel
theorem dX1_areUnlike_24 : decode cX1_areUnlike 24 = .ok (.ifCond .ne 7, 3) := by decide +kernel
theorem dX1_areUnlike_27 : decode cX1_areUnlike 27 = .ok (.iconst 1, 1) := by decide +kernel
theorem dX1_areUnlike_28 : decode cX1_areUnlike 28 = .ok (.goto 4, 3) := by decide +kernel
theorem dX1_areUnlike_31 : decode cX1_areUnlike 31 = .ok (.iconst 0, 1) := by decide +kernel
theorem dX1_areUnlike_32 : decode cX1_areUnlike 32 = .ok (.ireturn, 1) := by decide +kernel
theorem dX2_init_0 : decode cX2_init 0 = .ok (.aload_n 0, 1) := by decide +kernel
theorem dX2_init_1 : decode cX2_init 1 = .ok (.invokespecial 3, 3) := by decide +kernel
theorem dX2_init_4 : decode cX2_init 4 = .ok (.aload_n 0, 1) := by decide +kernel
theorem dX2_init_5 : decode cX2_init 5 = .ok (.bipush 8, 2) := by decide +kernel
theorem dX2_init_7 : decode cX2_init 7 = .ok (.newarray .int, 2) := by decide +kernel
theorem dX2_init_9 : decode cX2_init 9 = .ok (.putfield 9, 3) := by decide +kernel
theorem dX2_init_12 : decode cX2_init 12 = .ok (.aload_n 0, 1) := by decide +kernel
theorem dX2_init_13 : decode cX2_init 13 = .ok (.iconst 0, 1) := by decide +kernel
theorem dX2_init_14 : decode cX2_init 14 = .ok (.putfield 15, 3) := by decide +kernel
theorem dX2_init_17 : decode cX2_init 17 = .ok (.return_, 1) := by decide +kernel
theorem dX2_size_0 : decode cX2_size 0 = .ok (.aload_n 0, 1) := by decide +kernel
theorem dX2_size_1 : decode cX2_size 1 = .ok (.getfield 15, 3) := by decide +kernel
theorem dX2_size_4 : decode cX2_size 4 = .ok (.ireturn, 1) := by decide +kernel
theorem dX2_isFull_0 : decode cX2_isFull 0 = .ok (.aload_n 0, 1) := by decide +kernel
theorem dX2_isFull_1 : decode cX2_isFull 1 = .ok (.getfield 15, 3) := by decide +kernel
theorem dX2_isFull_4 : decode cX2_isFull 4 = .ok (.bipush 8, 2) := by decide +kernel
theorem dX2_isFull_6 : decode cX2_isFull 6 = .ok (.if_icmp .lt 7, 3) := by decide +kernel
theorem dX2_isFull_9 : decode cX2_isFull 9 = .ok (.iconst 1, 1) := by decide +kernel
theorem dX2_isFull_10 : decode cX2_isFull 10 = .ok (.goto 4, 3) := by decide +kernel
theorem dX2_isFull_13 : decode cX2_isFull 13 = .ok (.iconst 0, 1) := by decide +kernel
theorem dX2_isFull_14 : decode cX2_isFull 14 = .ok (.ireturn, 1) := by decide +kernel
theorem dX2_networkAt_0 : decode cX2_networkAt 0 = .ok (.iload_n 1, 1) := by decide +kernel
theorem dX2_networkAt_1 : decode cX2_networkAt 1 = .ok (.ifCond .lt 11, 3) := by decide +kernel
theorem dX2_networkAt_4 : decode cX2_networkAt 4 = .ok (.iload_n 1, 1) := by decide +kernel
theorem dX2_networkAt_5 : decode cX2_networkAt 5 = .ok (.aload_n 0, 1) := by decide +kernel
theorem dX2_networkAt_6 : decode cX2_networkAt 6 = .ok (.getfield 15, 3) := by decide +kernel
theorem dX2_networkAt_9 : decode cX2_networkAt 9 = .ok (.if_icmp .lt 7, 3) := by decide +kernel
theorem dX2_networkAt_12 : decode cX2_networkAt 12 = .ok (.iconst (-1), 1) := by decide +kernel
theorem dX2_networkAt_13 : decode cX2_networkAt 13 = .ok (.goto 9, 3) := by decide +kernel
theorem dX2_networkAt_16 : decode cX2_networkAt 16 = .ok (.aload_n 0, 1) := by decide +kernel
theorem dX2_networkAt_17 : decode cX2_networkAt 17 = .ok (.getfield 9, 3) := by decide +kernel
theorem dX2_networkAt_20 : decode cX2_networkAt 20 = .ok (.iload_n 1, 1) := by decide +kernel
theorem dX2_networkAt_21 : decode cX2_networkAt 21 = .ok (.iaload, 1) := by decide +kernel
theorem dX2_networkAt_22 : decode cX2_networkAt 22 = .ok (.ireturn, 1) := by decide +kernel
theorem dX2_origin_0 : decode cX2_origin 0 = .ok (.aload_n 0, 1) := by decide +kernel
theorem dX2_origin_1 : decode cX2_origin 1 = .ok (.aload_n 0, 1) := by decide +kernel
theorem dX2_origin_2 : decode cX2_origin 2 = .ok (.getfield 15, 3) := by decide +kernel
theorem dX2_origin_5 : decode cX2_origin 5 = .ok (.iconst 1, 1) := by decide +kernel
theorem dX2_origin_6 : decode cX2_origin 6 = .ok (.isub, 1) := by decide +kernel
theorem dX2_origin_7 : decode cX2_origin 7 = .ok (.invokevirtual 19, 3) := by decide +kernel
theorem dX2_origin_10 : decode cX2_origin 10 = .ok (.ireturn, 1) := by decide +kernel
theorem dX2_hasLeft_0 : decode cX2_hasLeft 0 = .ok (.aload_n 0, 1) := by decide +kernel
theorem dX2_hasLeft_1 : decode cX2_hasLeft 1 = .ok (.invokevirtual 23, 3) := by decide +kernel
theorem dX2_hasLeft_4 : decode cX2_hasLeft 4 = .ok (.iload_n 1, 1) := by decide +kernel
theorem dX2_hasLeft_5 : decode cX2_hasLeft 5 = .ok (.if_icmp .ne 5, 3) := by decide +kernel
theorem dX2_hasLeft_8 : decode cX2_hasLeft 8 = .ok (.iconst 0, 1) := by decide +kernel
theorem dX2_hasLeft_9 : decode cX2_hasLeft 9 = .ok (.ireturn, 1) := by decide +kernel
theorem dX2_hasLeft_10 : decode cX2_hasLeft 10 = .ok (.iconst 0, 1) := by decide +kernel
theorem dX2_hasLeft_11 : decode cX2_hasLeft 11 = .ok (.istore_n 2, 1) := by decide +kernel
theorem dX2_hasLeft_12 : decode cX2_hasLeft 12 = .ok (.iload_n 2, 1) := by decide +kernel
theorem dX2_hasLeft_13 : decode cX2_hasLeft 13 = .ok (.aload_n 0, 1) := by decide +kernel
theorem dX2_hasLeft_14 : decode cX2_hasLeft 14 = .ok (.getfield 15, 3) := by decide +kernel
theorem dX2_hasLeft_17 : decode cX2_hasLeft 17 = .ok (.if_icmp .ge 20, 3) := by decide +kernel
theorem dX2_hasLeft_20 : decode cX2_hasLeft 20 = .ok (.aload_n 0, 1) := by decide +kernel
theorem dX2_hasLeft_21 : decode cX2_hasLeft 21 = .ok (.iload_n 2, 1) := by decide +kernel
theorem dX2_hasLeft_22 : decode cX2_hasLeft 22 = .ok (.invokevirtual 19, 3) := by decide +kernel
theorem dX2_hasLeft_25 : decode cX2_hasLeft 25 = .ok (.iload_n 1, 1) := by decide +kernel
theorem dX2_hasLeft_26 : decode cX2_hasLeft 26 = .ok (.if_icmp .ne 5, 3) := by decide +kernel
theorem dX2_hasLeft_29 : decode cX2_hasLeft 29 = .ok (.iconst 1, 1) := by decide +kernel
theorem dX2_hasLeft_30 : decode cX2_hasLeft 30 = .ok (.ireturn, 1) := by decide +kernel
theorem dX2_hasLeft_31 : decode cX2_hasLeft 31 = .ok (.iinc 2 1, 3) := by decide +kernel
theorem dX2_hasLeft_34 : decode cX2_hasLeft 34 = .ok (.goto (-22), 3) := by decide +kernel
theorem dX2_hasLeft_37 : decode cX2_hasLeft 37 = .ok (.iconst 0, 1) := by decide +kernel
theorem dX2_hasLeft_38 : decode cX2_hasLeft 38 = .ok (.ireturn, 1) := by decide +kernel
theorem dX2_add_0 : decode cX2_add 0 = .ok (.aload_n 0, 1) := by decide +kernel
theorem dX2_add_1 : decode cX2_add 1 = .ok (.invokevirtual 27, 3) := by decide +kernel
theorem dX2_add_4 : decode cX2_add 4 = .ok (.ifCond .ne 23, 3) := by decide +kernel
theorem dX2_add_7 : decode cX2_add 7 = .ok (.aload_n 0, 1) := by decide +kernel
theorem dX2_add_8 : decode cX2_add 8 = .ok (.getfield 9, 3) := by decide +kernel
theorem dX2_add_11 : decode cX2_add 11 = .ok (.aload_n 0, 1) := by decide +kernel
theorem dX2_add_12 : decode cX2_add 12 = .ok (.getfield 15, 3) := by decide +kernel
theorem dX2_add_15 : decode cX2_add 15 = .ok (.iload_n 1, 1) := by decide +kernel
theorem dX2_add_16 : decode cX2_add 16 = .ok (.iastore, 1) := by decide +kernel
theorem dX2_add_17 : decode cX2_add 17 = .ok (.aload_n 0, 1) := by decide +kernel
theorem dX2_add_18 : decode cX2_add 18 = .ok (.dup, 1) := by decide +kernel
theorem dX2_add_19 : decode cX2_add 19 = .ok (.getfield 15, 3) := by decide +kernel
theorem dX2_add_22 : decode cX2_add 22 = .ok (.iconst 1, 1) := by decide +kernel
theorem dX2_add_23 : decode cX2_add 23 = .ok (.iadd, 1) := by decide +kernel
theorem dX2_add_24 : decode cX2_add 24 = .ok (.putfield 15, 3) := by decide +kernel
theorem dX2_add_27 : decode cX2_add 27 = .ok (.return_, 1) := by decide +kernel
theorem dX2_clear_0 : decode cX2_clear 0 = .ok (.aload_n 0, 1) := by decide +kernel
theorem dX2_clear_1 : decode cX2_clear 1 = .ok (.iconst 0, 1) := by decide +kernel
theorem dX2_clear_2 : decode cX2_clear 2 = .ok (.putfield 15, 3) := by decide +kernel
theorem dX2_clear_5 : decode cX2_clear 5 = .ok (.return_, 1) := by decide +kernel
theorem dX2_copy_0 : decode cX2_copy 0 = .ok (.new 10, 3) := by decide +kernel
theorem dX2_copy_3 : decode cX2_copy 3 = .ok (.dup, 1) := by decide +kernel
theorem dX2_copy_4 : decode cX2_copy 4 = .ok (.invokespecial 31, 3) := by decide +kernel
theorem dX2_copy_7 : decode cX2_copy 7 = .ok (.astore_n 1, 1) := by decide +kernel
theorem dX2_copy_8 : decode cX2_copy 8 = .ok (.iconst 0, 1) := by decide +kernel
theorem dX2_copy_9 : decode cX2_copy 9 = .ok (.istore_n 2, 1) := by decide +kernel
theorem dX2_copy_10 : decode cX2_copy 10 = .ok (.iload_n 2, 1) := by decide +kernel
theorem dX2_copy_11 : decode cX2_copy 11 = .ok (.aload_n 0, 1) := by decide +kernel
theorem dX2_copy_12 : decode cX2_copy 12 = .ok (.getfield 15, 3) := by decide +kernel
theorem dX2_copy_15 : decode cX2_copy 15 = .ok (.if_icmp .ge 18, 3) := by decide +kernel
theorem dX2_copy_18 : decode cX2_copy 18 = .ok (.aload_n 1, 1) := by decide +kernel
theorem dX2_copy_19 : decode cX2_copy 19 = .ok (.aload_n 0, 1) := by decide +kernel
theorem dX2_copy_20 : decode cX2_copy 20 = .ok (.iload_n 2, 1) := by decide +kernel
theorem dX2_copy_21 : decode cX2_copy 21 = .ok (.invokevirtual 19, 3) := by decide +kernel
theorem dX2_copy_24 : decode cX2_copy 24 = .ok (.invokevirtual 32, 3) := by decide +kernel
theorem dX2_copy_27 : decode cX2_copy 27 = .ok (.iinc 2 1, 3) := by decide +kernel
theorem dX2_copy_30 : decode cX2_copy 30 = .ok (.goto (-20), 3) := by decide +kernel
theorem dX2_copy_33 : decode cX2_copy 33 = .ok (.aload_n 1, 1) := by decide +kernel
theorem dX2_copy_34 : decode cX2_copy 34 = .ok (.areturn, 1) := by decide +kernel
theorem dX2_isLike_0 : decode cX2_isLike 0 = .ok (.aload_n 0, 1) := by decide +kernel
theorem dX2_isLike_1 : decode cX2_isLike 1 = .ok (.getfield 15, 3) := by decide +kernel
theorem dX2_isLike_4 : decode cX2_isLike 4 = .ok (.aload_n 1, 1) := by decide +kernel
theorem dX2_isLike_5 : decode cX2_isLike 5 = .ok (.getfield 15, 3) := by decide +kernel
theorem dX2_isLike_8 : decode cX2_isLike 8 = .ok (.if_icmp .eq 5, 3) := by decide +kernel
theorem dX2_isLike_11 : decode cX2_isLike 11 = .ok (.iconst 0, 1) := by decide +kernel
theorem dX2_isLike_12 : decode cX2_isLike 12 = .ok (.ireturn, 1) := by decide +kernel
theorem dX2_isLike_13 : decode cX2_isLike 13 = .ok (.iconst 0, 1) := by decide +kernel
theorem dX2_isLike_14 : decode cX2_isLike 14 = .ok (.istore_n 2, 1) := by decide +kernel
theorem dX2_isLike_15 : decode cX2_isLike 15 = .ok (.iload_n 2, 1) := by decide +kernel
theorem dX2_isLike_16 : decode cX2_isLike 16 = .ok (.aload_n 0, 1) := by decide +kernel
theorem dX2_isLike_17 : decode cX2_isLike 17 = .ok (.getfield 15, 3) := by decide +kernel
theorem dX2_isLike_20 : decode cX2_isLike 20 = .ok (.if_icmp .ge 24, 3) := by decide +kernel
theorem dX2_isLike_23 : decode cX2_isLike 23 = .ok (.aload_n 0, 1) := by decide +kernel
theorem dX2_isLike_24 : decode cX2_isLike 24 = .ok (.iload_n 2, 1) := by decide +kernel
theorem dX2_isLike_25 : decode cX2_isLike 25 = .ok (.invokevirtual 19, 3) := by decide +kernel
theorem dX2_isLike_28 : decode cX2_isLike 28 = .ok (.aload_n 1, 1) := by decide +kernel
theorem dX2_isLike_29 : decode cX2_isLike 29 = .ok (.iload_n 2, 1) := by decide +kernel
theorem dX2_isLike_30 : decode cX2_isLike 30 = .ok (.invokevirtual 19, 3) := by decide +kernel
theorem dX2_isLike_33 : decode cX2_isLike 33 = .ok (.if_icmp .eq 5, 3) := by decide +kernel
theorem dX2_isLike_36 : decode cX2_isLike 36 = .ok (.iconst 0, 1) := by decide +kernel
theorem dX2_isLike_37 : decode cX2_isLike 37 = .ok (.ireturn, 1) := by decide +kernel
theorem dX2_isLike_38 : decode cX2_isLike 38 = .ok (.iinc 2 1, 3) := by decide +kernel
theorem dX2_isLike_41 : decode cX2_isLike 41 = .ok (.goto (-26), 3) := by decide +kernel
theorem dX2_isLike_44 : decode cX2_isLike 44 = .ok (.iconst 1, 1) := by decide +kernel
theorem dX2_isLike_45 : decode cX2_isLike 45 = .ok (.ireturn, 1) := by decide +kernel
theorem dX3_init_0 : decode cX3_init 0 = .ok (.aload_n 0, 1) := by decide +kernel
theorem dX3_init_1 : decode cX3_init 1 = .ok (.invokespecial 1, 3) := by decide +kernel
theorem dX3_init_4 : decode cX3_init 4 = .ok (.aload_n 0, 1) := by decide +kernel
theorem dX3_init_5 : decode cX3_init 5 = .ok (.iload_n 1, 1) := by decide +kernel
theorem dX3_init_6 : decode cX3_init 6 = .ok (.iload_n 2, 1) := by decide +kernel
theorem dX3_init_7 : decode cX3_init 7 = .ok (.invokestatic 7, 3) := by decide +kernel
theorem dX3_init_10 : decode cX3_init 10 = .ok (.putfield 13, 3) := by decide +kernel
theorem dX3_init_13 : decode cX3_init 13 = .ok (.aload_n 0, 1) := by decide +kernel
theorem dX3_init_14 : decode cX3_init 14 = .ok (.iload_n 2, 1) := by decide +kernel
theorem dX3_init_15 : decode cX3_init 15 = .ok (.putfield 19, 3) := by decide +kernel
theorem dX3_init_18 : decode cX3_init 18 = .ok (.return_, 1) := by decide +kernel
theorem dX3_has_0 : decode cX3_has 0 = .ok (.iload_n 1, 1) := by decide +kernel
theorem dX3_has_1 : decode cX3_has 1 = .ok (.aload_n 0, 1) := by decide +kernel
theorem dX3_has_2 : decode cX3_has 2 = .ok (.getfield 19, 3) := by decide +kernel
theorem dX3_has_5 : decode cX3_has 5 = .ok (.invokestatic 7, 3) := by decide +kernel
theorem dX3_has_8 : decode cX3_has 8 = .ok (.aload_n 0, 1) := by decide +kernel
theorem dX3_has_9 : decode cX3_has 9 = .ok (.getfield 13, 3) := by decide +kernel
theorem dX3_has_12 : decode cX3_has 12 = .ok (.if_icmp .ne 7, 3) := by decide +kernel
theorem dX3_has_15 : decode cX3_has 15 = .ok (.iconst 1, 1) := by decide +kernel
theorem dX3_has_16 : decode cX3_has 16 = .ok (.goto 4, 3) := by decide +kernel
theorem dX3_has_19 : decode cX3_has 19 = .ok (.iconst 0, 1) := by decide +kernel
theorem dX3_has_20 : decode cX3_has 20 = .ok (.ireturn, 1) := by decide +kernel
theorem dX3_covers_0 : decode cX3_covers 0 = .ok (.aload_n 0, 1) := by decide +kernel
theorem dX3_covers_1 : decode cX3_covers 1 = .ok (.getfield 19, 3) := by decide +kernel
theorem dX3_covers_4 : decode cX3_covers 4 = .ok (.aload_n 1, 1) := by decide +kernel
theorem dX3_covers_5 : decode cX3_covers 5 = .ok (.getfield 19, 3) := by decide +kernel
theorem dX3_covers_8 : decode cX3_covers 8 = .ok (.if_icmp .gt 28, 3) := by decide +kernel
theorem dX3_covers_11 : decode cX3_covers 11 = .ok (.aload_n 1, 1) := by decide +kernel
theorem dX3_covers_12 : decode cX3_covers 12 = .ok (.getfield 13, 3) := by decide +kernel
theorem dX3_covers_15 : decode cX3_covers 15 = .ok (.aload_n 1, 1) := by decide +kernel
theorem dX3_covers_16 : decode cX3_covers 16 = .ok (.getfield 19, 3) := by decide +kernel
theorem dX3_covers_19 : decode cX3_covers 19 = .ok (.aload_n 0, 1) := by decide +kernel
theorem dX3_covers_20 : decode cX3_covers 20 = .ok (.getfield 19, 3) := by decide +kernel
theorem dX3_covers_23 : decode cX3_covers 23 = .ok (.isub, 1) := by decide +kernel
theorem dX3_covers_24 : decode cX3_covers 24 = .ok (.ishr, 1) := by decide +kernel
theorem dX3_covers_25 : decode cX3_covers 25 = .ok (.aload_n 0, 1) := by decide +kernel
theorem dX3_covers_26 : decode cX3_covers 26 = .ok (.getfield 13, 3) := by decide +kernel
theorem dX3_covers_29 : decode cX3_covers 29 = .ok (.if_icmp .ne 7, 3) := by decide +kernel
theorem dX3_covers_32 : decode cX3_covers 32 = .ok (.iconst 1, 1) := by decide +kernel
theorem dX3_covers_33 : decode cX3_covers 33 = .ok (.goto 4, 3) := by decide +kernel
theorem dX3_covers_36 : decode cX3_covers 36 = .ok (.iconst 0, 1) := by decide +kernel
theorem dX3_covers_37 : decode cX3_covers 37 = .ok (.ireturn, 1) := by decide +kernel
theorem dX4_init_0 : decode cX4_init 0 = .ok (.aload_n 0, 1) := by decide +kernel
theorem dX4_init_1 : decode cX4_init 1 = .ok (.invokespecial 3, 3) := by decide +kernel
theorem dX4_init_4 : decode cX4_init 4 = .ok (.aload_n 0, 1) := by decide +kernel
theorem dX4_init_5 : decode cX4_init 5 = .ok (.bipush 20, 2) := by decide +kernel
theorem dX4_init_7 : decode cX4_init 7 = .ok (.anewarray 9, 3) := by decide +kernel
theorem dX4_init_10 : decode cX4_init 10 = .ok (.putfield 11, 3) := by decide +kernel
theorem dX4_init_13 : decode cX4_init 13 = .ok (.aload_n 0, 1) := by decide +kernel
theorem dX4_init_14 : decode cX4_init 14 = .ok (.iconst 0, 1) := by decide +kernel
theorem dX4_init_15 : decode cX4_init 15 = .ok (.putfield 17, 3) := by decide +kernel
theorem dX4_init_18 : decode cX4_init 18 = .ok (.return_, 1) := by decide +kernel
theorem dX4_isFull_0 : decode cX4_isFull 0 = .ok (.aload_n 0, 1) := by decide +kernel
theorem dX4_isFull_1 : decode cX4_isFull 1 = .ok (.getfield 17, 3) := by decide +kernel
theorem dX4_isFull_4 : decode cX4_isFull 4 = .ok (.bipush 20, 2) := by decide +kernel
theorem dX4_isFull_6 : decode cX4_isFull 6 = .ok (.if_icmp .lt 7, 3) := by decide +kernel
theorem dX4_isFull_9 : decode cX4_isFull 9 = .ok (.iconst 1, 1) := by decide +kernel
theorem dX4_isFull_10 : decode cX4_isFull 10 = .ok (.goto 4, 3) := by decide +kernel
theorem dX4_isFull_13 : decode cX4_isFull 13 = .ok (.iconst 0, 1) := by decide +kernel
theorem dX4_isFull_14 : decode cX4_isFull 14 = .ok (.ireturn, 1) := by decide +kernel
theorem dX4_placeOf_0 : decode cX4_placeOf 0 = .ok (.iconst 0, 1) := by decide +kernel
theorem dX4_placeOf_1 : decode cX4_placeOf 1 = .ok (.istore_n 2, 1) := by decide +kernel
theorem dX4_placeOf_2 : decode cX4_placeOf 2 = .ok (.iload_n 2, 1) := by decide +kernel
theorem dX4_placeOf_3 : decode cX4_placeOf 3 = .ok (.aload_n 0, 1) := by decide +kernel
theorem dX4_placeOf_4 : decode cX4_placeOf 4 = .ok (.getfield 17, 3) := by decide +kernel
theorem dX4_placeOf_7 : decode cX4_placeOf 7 = .ok (.if_icmp .ge 30, 3) := by decide +kernel
theorem dX4_placeOf_10 : decode cX4_placeOf 10 = .ok (.aload_n 0, 1) := by decide +kernel
theorem dX4_placeOf_11 : decode cX4_placeOf 11 = .ok (.getfield 11, 3) := by decide +kernel
theorem dX4_placeOf_14 : decode cX4_placeOf 14 = .ok (.iload_n 2, 1) := by decide +kernel
theorem dX4_placeOf_15 : decode cX4_placeOf 15 = .ok (.aaload, 1) := by decide +kernel
theorem dX4_placeOf_16 : decode cX4_placeOf 16 = .ok (.astore_n 3, 1) := by decide +kernel
theorem dX4_placeOf_17 : decode cX4_placeOf 17 = .ok (.aload_n 3, 1) := by decide +kernel
theorem dX4_placeOf_18 : decode cX4_placeOf 18 = .ok (.ifnull 13, 3) := by decide +kernel
theorem dX4_placeOf_21 : decode cX4_placeOf 21 = .ok (.aload_n 3, 1) := by decide +kernel
theorem dX4_placeOf_22 : decode cX4_placeOf 22 = .ok (.aload_n 1, 1) := by decide +kernel
theorem dX4_placeOf_23 : decode cX4_placeOf 23 = .ok (.invokevirtual 21, 3) := by decide +kernel
theorem dX4_placeOf_26 : decode cX4_placeOf 26 = .ok (.ifCond .eq 5, 3) := by decide +kernel
theorem dX4_placeOf_29 : decode cX4_placeOf 29 = .ok (.iload_n 2, 1) := by decide +kernel
theorem dX4_placeOf_30 : decode cX4_placeOf 30 = .ok (.ireturn, 1) := by decide +kernel
theorem dX4_placeOf_31 : decode cX4_placeOf 31 = .ok (.iinc 2 1, 3) := by decide +kernel
theorem dX4_placeOf_34 : decode cX4_placeOf 34 = .ok (.goto (-32), 3) := by decide +kernel
theorem dX4_placeOf_37 : decode cX4_placeOf 37 = .ok (.iconst (-1), 1) := by decide +kernel
theorem dX4_placeOf_38 : decode cX4_placeOf 38 = .ok (.ireturn, 1) := by decide +kernel
theorem dX4_add_0 : decode cX4_add 0 = .ok (.aload_n 0, 1) := by decide +kernel
theorem dX4_add_1 : decode cX4_add 1 = .ok (.invokevirtual 25, 3) := by decide +kernel
theorem dX4_add_4 : decode cX4_add 4 = .ok (.ifCond .ne 23, 3) := by decide +kernel
theorem dX4_add_7 : decode cX4_add 7 = .ok (.aload_n 0, 1) := by decide +kernel
theorem dX4_add_8 : decode cX4_add 8 = .ok (.getfield 11, 3) := by decide +kernel
theorem dX4_add_11 : decode cX4_add 11 = .ok (.aload_n 0, 1) := by decide +kernel
theorem dX4_add_12 : decode cX4_add 12 = .ok (.getfield 17, 3) := by decide +kernel
theorem dX4_add_15 : decode cX4_add 15 = .ok (.aload_n 1, 1) := by decide +kernel
theorem dX4_add_16 : decode cX4_add 16 = .ok (.aastore, 1) := by decide +kernel
theorem dX4_add_17 : decode cX4_add 17 = .ok (.aload_n 0, 1) := by decide +kernel
theorem dX4_add_18 : decode cX4_add 18 = .ok (.dup, 1) := by decide +kernel
theorem dX4_add_19 : decode cX4_add 19 = .ok (.getfield 17, 3) := by decide +kernel
theorem dX4_add_22 : decode cX4_add 22 = .ok (.iconst 1, 1) := by decide +kernel
theorem dX4_add_23 : decode cX4_add 23 = .ok (.iadd, 1) := by decide +kernel
theorem dX4_add_24 : decode cX4_add 24 = .ok (.putfield 17, 3) := by decide +kernel
theorem dX4_add_27 : decode cX4_add 27 = .ok (.return_, 1) := by decide +kernel
theorem dX4_takeOut_0 : decode cX4_takeOut 0 = .ok (.iload_n 1, 1) := by decide +kernel
theorem dX4_takeOut_1 : decode cX4_takeOut 1 = .ok (.ifCond .lt 46, 3) := by decide +kernel
theorem dX4_takeOut_4 : decode cX4_takeOut 4 = .ok (.iload_n 1, 1) := by decide +kernel
theorem dX4_takeOut_5 : decode cX4_takeOut 5 = .ok (.aload_n 0, 1) := by decide +kernel
theorem dX4_takeOut_6 : decode cX4_takeOut 6 = .ok (.getfield 17, 3) := by decide +kernel
theorem dX4_takeOut_9 : decode cX4_takeOut 9 = .ok (.if_icmp .ge 38, 3) := by decide +kernel
theorem dX4_takeOut_12 : decode cX4_takeOut 12 = .ok (.aload_n 0, 1) := by decide +kernel
theorem dX4_takeOut_13 : decode cX4_takeOut 13 = .ok (.dup, 1) := by decide +kernel
theorem dX4_takeOut_14 : decode cX4_takeOut 14 = .ok (.getfield 17, 3) := by decide +kernel
theorem dX4_takeOut_17 : decode cX4_takeOut 17 = .ok (.iconst 1, 1) := by decide +kernel
theorem dX4_takeOut_18 : decode cX4_takeOut 18 = .ok (.isub, 1) := by decide +kernel
theorem dX4_takeOut_19 : decode cX4_takeOut 19 = .ok (.putfield 17, 3) := by decide +kernel
theorem dX4_takeOut_22 : decode cX4_takeOut 22 = .ok (.aload_n 0, 1) := by decide +kernel
theorem dX4_takeOut_23 : decode cX4_takeOut 23 = .ok (.getfield 11, 3) := by decide +kernel
theorem dX4_takeOut_26 : decode cX4_takeOut 26 = .ok (.iload_n 1, 1) := by decide +kernel
theorem dX4_takeOut_27 : decode cX4_takeOut 27 = .ok (.aload_n 0, 1) := by decide +kernel
theorem dX4_takeOut_28 : decode cX4_takeOut 28 = .ok (.getfield 11, 3) := by decide +kernel
theorem dX4_takeOut_31 : decode cX4_takeOut 31 = .ok (.aload_n 0, 1) := by decide +kernel
theorem dX4_takeOut_32 : decode cX4_takeOut 32 = .ok (.getfield 17, 3) := by decide +kernel
theorem dX4_takeOut_35 : decode cX4_takeOut 35 = .ok (.aaload, 1) := by decide +kernel
theorem dX4_takeOut_36 : decode cX4_takeOut 36 = .ok (.aastore, 1) := by decide +kernel
theorem dX4_takeOut_37 : decode cX4_takeOut 37 = .ok (.aload_n 0, 1) := by decide +kernel
theorem dX4_takeOut_38 : decode cX4_takeOut 38 = .ok (.getfield 11, 3) := by decide +kernel
theorem dX4_takeOut_41 : decode cX4_takeOut 41 = .ok (.aload_n 0, 1) := by decide +kernel
theorem dX4_takeOut_42 : decode cX4_takeOut 42 = .ok (.getfield 17, 3) := by decide +kernel
theorem dX4_takeOut_45 : decode cX4_takeOut 45 = .ok (.aconst_null, 1) := by decide +kernel
theorem dX4_takeOut_46 : decode cX4_takeOut 46 = .ok (.aastore, 1) := by decide +kernel
theorem dX4_takeOut_47 : decode cX4_takeOut 47 = .ok (.return_, 1) := by decide +kernel
theorem dX4_judge_0 : decode cX4_judge 0 = .ok (.iconst 0, 1) := by decide +kernel
theorem dX4_judge_1 : decode cX4_judge 1 = .ok (.istore_n 2, 1) := by decide +kernel
theorem dX4_judge_2 : decode cX4_judge 2 = .ok (.iconst 0, 1) := by decide +kernel
theorem dX4_judge_3 : decode cX4_judge 3 = .ok (.istore_n 3, 1) := by decide +kernel
theorem dX4_judge_4 : decode cX4_judge 4 = .ok (.iload_n 3, 1) := by decide +kernel
theorem dX4_judge_5 : decode cX4_judge 5 = .ok (.aload_n 0, 1) := by decide +kernel
theorem dX4_judge_6 : decode cX4_judge 6 = .ok (.getfield 17, 3) := by decide +kernel
theorem dX4_judge_9 : decode cX4_judge 9 = .ok (.if_icmp .ge 47, 3) := by decide +kernel
theorem dX4_judge_12 : decode cX4_judge 12 = .ok (.aload_n 0, 1) := by decide +kernel
theorem dX4_judge_13 : decode cX4_judge 13 = .ok (.getfield 11, 3) := by decide +kernel
theorem dX4_judge_16 : decode cX4_judge 16 = .ok (.iload_n 3, 1) := by decide +kernel
theorem dX4_judge_17 : decode cX4_judge 17 = .ok (.aaload, 1) := by decide +kernel
theorem dX4_judge_18 : decode cX4_judge 18 = .ok (.astore 4, 2) := by decide +kernel
theorem dX4_judge_20 : decode cX4_judge 20 = .ok (.aload 4, 2) := by decide +kernel
theorem dX4_judge_22 : decode cX4_judge 22 = .ok (.ifnull 28, 3) := by decide +kernel
theorem dX4_judge_25 : decode cX4_judge 25 = .ok (.aload 4, 2) := by decide +kernel
theorem dX4_judge_27 : decode cX4_judge 27 = .ok (.aload_n 1, 1) := by decide +kernel
theorem dX4_judge_28 : decode cX4_judge 28 = .ok (.invokevirtual 29, 3) := by decide +kernel
theorem dX4_judge_31 : decode cX4_judge 31 = .ok (.ifCond .ne 6, 3) := by decide +kernel
theorem dX4_judge_34 : decode cX4_judge 34 = .ok (.goto 16, 3) := by decide +kernel
theorem dX4_judge_37 : decode cX4_judge 37 = .ok (.aload 4, 2) := by decide +kernel
theorem dX4_judge_39 : decode cX4_judge 39 = .ok (.aload_n 1, 1) := by decide +kernel
theorem dX4_judge_40 : decode cX4_judge 40 = .ok (.invokevirtual 33, 3) := by decide +kernel
theorem dX4_judge_43 : decode cX4_judge 43 = .ok (.ifCond .eq 5, 3) := by decide +kernel
theorem dX4_judge_46 : decode cX4_judge 46 = .ok (.iconst 1, 1) := by decide +kernel
theorem dX4_judge_47 : decode cX4_judge 47 = .ok (.ireturn, 1) := by decide +kernel
theorem dX4_judge_48 : decode cX4_judge 48 = .ok (.iconst 1, 1) := by decide +kernel
theorem dX4_judge_49 : decode cX4_judge 49 = .ok (.istore_n 2, 1) := by decide +kernel
theorem dX4_judge_50 : decode cX4_judge 50 = .ok (.iinc 3 1, 3) := by decide +kernel
theorem dX4_judge_53 : decode cX4_judge 53 = .ok (.goto (-49), 3) := by decide +kernel
theorem dX4_judge_56 : decode cX4_judge 56 = .ok (.iload_n 2, 1) := by decide +kernel
theorem dX4_judge_57 : decode cX4_judge 57 = .ok (.ifCond .eq 7, 3) := by decide +kernel
theorem dX4_judge_60 : decode cX4_judge 60 = .ok (.iconst 2, 1) := by decide +kernel
theorem dX4_judge_61 : decode cX4_judge 61 = .ok (.goto 4, 3) := by decide +kernel
theorem dX4_judge_64 : decode cX4_judge 64 = .ok (.iconst 0, 1) := by decide +kernel
theorem dX4_judge_65 : decode cX4_judge 65 = .ok (.ireturn, 1) := by decide +kernel
theorem dX5_init_0 : decode cX5_init 0 = .ok (.aload_n 0, 1) := by decide +kernel
theorem dX5_init_1 : decode cX5_init 1 = .ok (.invokespecial 3, 3) := by decide +kernel
theorem dX5_init_4 : decode cX5_init 4 = .ok (.aload_n 0, 1) := by decide +kernel
theorem dX5_init_5 : decode cX5_init 5 = .ok (.bipush 31, 2) := by decide +kernel
theorem dX5_init_7 : decode cX5_init 7 = .ok (.bipush 31, 2) := by decide +kernel
theorem dX5_init_9 : decode cX5_init 9 = .ok (.multianewarray 9 2, 4) := by decide +kernel
theorem dX5_init_13 : decode cX5_init 13 = .ok (.putfield 11, 3) := by decide +kernel
theorem dX5_init_16 : decode cX5_init 16 = .ok (.return_, 1) := by decide +kernel
theorem dX5_between_0 : decode cX5_between 0 = .ok (.iload_n 1, 1) := by decide +kernel
theorem dX5_between_1 : decode cX5_between 1 = .ok (.invokestatic 16, 3) := by decide +kernel
theorem dX5_between_4 : decode cX5_between 4 = .ok (.ifCond .eq 21, 3) := by decide +kernel
theorem dX5_between_7 : decode cX5_between 7 = .ok (.iload_n 2, 1) := by decide +kernel
theorem dX5_between_8 : decode cX5_between 8 = .ok (.invokestatic 16, 3) := by decide +kernel
theorem dX5_between_11 : decode cX5_between 11 = .ok (.ifCond .eq 14, 3) := by decide +kernel
theorem dX5_between_14 : decode cX5_between 14 = .ok (.aload_n 0, 1) := by decide +kernel
theorem dX5_between_15 : decode cX5_between 15 = .ok (.getfield 11, 3) := by decide +kernel
theorem dX5_between_18 : decode cX5_between 18 = .ok (.iload_n 1, 1) := by decide +kernel
theorem dX5_between_19 : decode cX5_between 19 = .ok (.aaload, 1) := by decide +kernel
theorem dX5_between_20 : decode cX5_between 20 = .ok (.iload_n 2, 1) := by decide +kernel
theorem dX5_between_21 : decode cX5_between 21 = .ok (.iaload, 1) := by decide +kernel
theorem dX5_between_22 : decode cX5_between 22 = .ok (.goto 4, 3) := by decide +kernel
theorem dX5_between_25 : decode cX5_between 25 = .ok (.iconst 0, 1) := by decide +kernel
theorem dX5_between_26 : decode cX5_between 26 = .ok (.ireturn, 1) := by decide +kernel
theorem dX5_put_0 : decode cX5_put 0 = .ok (.iload_n 1, 1) := by decide +kernel
theorem dX5_put_1 : decode cX5_put 1 = .ok (.invokestatic 16, 3) := by decide +kernel
theorem dX5_put_4 : decode cX5_put 4 = .ok (.ifCond .eq 19, 3) := by decide +kernel
theorem dX5_put_7 : decode cX5_put 7 = .ok (.iload_n 2, 1) := by decide +kernel
theorem dX5_put_8 : decode cX5_put 8 = .ok (.invokestatic 16, 3) := by decide +kernel
theorem dX5_put_11 : decode cX5_put 11 = .ok (.ifCond .eq 12, 3) := by decide +kernel
theorem dX5_put_14 : decode cX5_put 14 = .ok (.aload_n 0, 1) := by decide +kernel
theorem dX5_put_15 : decode cX5_put 15 = .ok (.getfield 11, 3) := by decide +kernel
theorem dX5_put_18 : decode cX5_put 18 = .ok (.iload_n 1, 1) := by decide +kernel
theorem dX5_put_19 : decode cX5_put 19 = .ok (.aaload, 1) := by decide +kernel
theorem dX5_put_20 : decode cX5_put 20 = .ok (.iload_n 2, 1) := by decide +kernel
theorem dX5_put_21 : decode cX5_put 21 = .ok (.iload_n 3, 1) := by decide +kernel
theorem dX5_put_22 : decode cX5_put 22 = .ok (.iastore, 1) := by decide +kernel
theorem dX5_put_23 : decode cX5_put 23 = .ok (.return_, 1) := by decide +kernel
theorem dX5_shapeOf_0 : decode cX5_shapeOf 0 = .ok (.iconst 0, 1) := by decide +kernel
theorem dX5_shapeOf_1 : decode cX5_shapeOf 1 = .ok (.istore_n 2, 1) := by decide +kernel
theorem dX5_shapeOf_2 : decode cX5_shapeOf 2 = .ok (.iconst 0, 1) := by decide +kernel
theorem dX5_shapeOf_3 : decode cX5_shapeOf 3 = .ok (.istore_n 3, 1) := by decide +kernel
theorem dX5_shapeOf_4 : decode cX5_shapeOf 4 = .ok (.aload_n 1, 1) := by decide +kernel
theorem dX5_shapeOf_5 : decode cX5_shapeOf 5 = .ok (.invokevirtual 20, 3) := by decide +kernel
theorem dX5_shapeOf_8 : decode cX5_shapeOf 8 = .ok (.iconst 1, 1) := by decide +kernel
theorem dX5_shapeOf_9 : decode cX5_shapeOf 9 = .ok (.isub, 1) := by decide +kernel
theorem dX5_shapeOf_10 : decode cX5_shapeOf 10 = .ok (.istore 4, 2) := by decide +kernel
theorem dX5_shapeOf_12 : decode cX5_shapeOf 12 = .ok (.iload 4, 2) := by decide +kernel
theorem dX5_shapeOf_14 : decode cX5_shapeOf 14 = .ok (.ifCond .le 77, 3) := by decide +kernel
theorem dX5_shapeOf_17 : decode cX5_shapeOf 17 = .ok (.aload_n 1, 1) := by decide +kernel
theorem dX5_shapeOf_18 : decode cX5_shapeOf 18 = .ok (.iload 4, 2) := by decide +kernel
theorem dX5_shapeOf_20 : decode cX5_shapeOf 20 = .ok (.invokevirtual 26, 3) := by decide +kernel
theorem dX5_shapeOf_23 : decode cX5_shapeOf 23 = .ok (.istore 5, 2) := by decide +kernel
theorem dX5_shapeOf_25 : decode cX5_shapeOf 25 = .ok (.aload_n 1, 1) := by decide +kernel
theorem dX5_shapeOf_26 : decode cX5_shapeOf 26 = .ok (.iload 4, 2) := by decide +kernel
theorem dX5_shapeOf_28 : decode cX5_shapeOf 28 = .ok (.iconst 1, 1) := by decide +kernel
theorem dX5_shapeOf_29 : decode cX5_shapeOf 29 = .ok (.isub, 1) := by decide +kernel
theorem dX5_shapeOf_30 : decode cX5_shapeOf 30 = .ok (.invokevirtual 26, 3) := by decide +kernel
theorem dX5_shapeOf_33 : decode cX5_shapeOf 33 = .ok (.istore 6, 2) := by decide +kernel
theorem dX5_shapeOf_35 : decode cX5_shapeOf 35 = .ok (.iload 6, 2) := by decide +kernel
theorem dX5_shapeOf_37 : decode cX5_shapeOf 37 = .ok (.iload 5, 2) := by decide +kernel
theorem dX5_shapeOf_39 : decode cX5_shapeOf 39 = .ok (.if_icmp .ne 6, 3) := by decide +kernel
theorem dX5_shapeOf_42 : decode cX5_shapeOf 42 = .ok (.goto 43, 3) := by decide +kernel
theorem dX5_shapeOf_45 : decode cX5_shapeOf 45 = .ok (.aload_n 0, 1) := by decide +kernel
theorem dX5_shapeOf_46 : decode cX5_shapeOf 46 = .ok (.iload 6, 2) := by decide +kernel
theorem dX5_shapeOf_48 : decode cX5_shapeOf 48 = .ok (.iload 5, 2) := by decide +kernel
theorem dX5_shapeOf_50 : decode cX5_shapeOf 50 = .ok (.invokevirtual 30, 3) := by decide +kernel
theorem dX5_shapeOf_53 : decode cX5_shapeOf 53 = .ok (.istore 7, 2) := by decide +kernel
theorem dX5_shapeOf_55 : decode cX5_shapeOf 55 = .ok (.iload 7, 2) := by decide +kernel
theorem dX5_shapeOf_57 : decode cX5_shapeOf 57 = .ok (.ifCond .ne 8, 3) := by decide +kernel
theorem dX5_shapeOf_60 : decode cX5_shapeOf 60 = .ok (.iconst 1, 1) := by decide +kernel
theorem dX5_shapeOf_61 : decode cX5_shapeOf 61 = .ok (.istore_n 3, 1) := by decide +kernel
theorem dX5_shapeOf_62 : decode cX5_shapeOf 62 = .ok (.goto 23, 3) := by decide +kernel
theorem dX5_shapeOf_65 : decode cX5_shapeOf 65 = .ok (.iload_n 2, 1) := by decide +kernel
theorem dX5_shapeOf_66 : decode cX5_shapeOf 66 = .ok (.ifCond .eq 11, 3) := by decide +kernel
theorem dX5_shapeOf_69 : decode cX5_shapeOf 69 = .ok (.iload 7, 2) := by decide +kernel
theorem dX5_shapeOf_71 : decode cX5_shapeOf 71 = .ok (.iconst 3, 1) := by decide +kernel
theorem dX5_shapeOf_72 : decode cX5_shapeOf 72 = .ok (.if_icmp .eq 5, 3) := by decide +kernel
theorem dX5_shapeOf_75 : decode cX5_shapeOf 75 = .ok (.iconst 1, 1) := by decide +kernel
theorem dX5_shapeOf_76 : decode cX5_shapeOf 76 = .ok (.ireturn, 1) := by decide +kernel
theorem dX5_shapeOf_77 : decode cX5_shapeOf 77 = .ok (.iload 7, 2) := by decide +kernel
theorem dX5_shapeOf_79 : decode cX5_shapeOf 79 = .ok (.iconst 1, 1) := by decide +kernel
theorem dX5_shapeOf_80 : decode cX5_shapeOf 80 = .ok (.if_icmp .eq 5, 3) := by decide +kernel
theorem dX5_shapeOf_83 : decode cX5_shapeOf 83 = .ok (.iconst 1, 1) := by decide +kernel
theorem dX5_shapeOf_84 : decode cX5_shapeOf 84 = .ok (.istore_n 2, 1) := by decide +kernel
theorem dX5_shapeOf_85 : decode cX5_shapeOf 85 = .ok (.iinc 4 (-1), 3) := by decide +kernel
theorem dX5_shapeOf_88 : decode cX5_shapeOf 88 = .ok (.goto (-76), 3) := by decide +kernel
theorem dX5_shapeOf_91 : decode cX5_shapeOf 91 = .ok (.iload_n 3, 1) := by decide +kernel
theorem dX5_shapeOf_92 : decode cX5_shapeOf 92 = .ok (.ifCond .eq 7, 3) := by decide +kernel
theorem dX5_shapeOf_95 : decode cX5_shapeOf 95 = .ok (.iconst 2, 1) := by decide +kernel
theorem dX5_shapeOf_96 : decode cX5_shapeOf 96 = .ok (.goto 4, 3) := by decide +kernel
theorem dX5_shapeOf_99 : decode cX5_shapeOf 99 = .ok (.iconst 0, 1) := by decide +kernel
theorem dX5_shapeOf_100 : decode cX5_shapeOf 100 = .ok (.ireturn, 1) := by decide +kernel
theorem dX6_init_0 : decode cX6_init 0 = .ok (.aload_n 0, 1) := by decide +kernel
theorem dX6_init_1 : decode cX6_init 1 = .ok (.invokespecial 3, 3) := by decide +kernel
theorem dX6_init_4 : decode cX6_init 4 = .ok (.aload_n 0, 1) := by decide +kernel
theorem dX6_init_5 : decode cX6_init 5 = .ok (.sipush 300, 3) := by decide +kernel
theorem dX6_init_8 : decode cX6_init 8 = .ok (.putfield 9, 3) := by decide +kernel
theorem dX6_init_11 : decode cX6_init 11 = .ok (.aload_n 0, 1) := by decide +kernel
theorem dX6_init_12 : decode cX6_init 12 = .ok (.iload_n 1, 1) := by decide +kernel
theorem dX6_init_13 : decode cX6_init 13 = .ok (.putfield 15, 3) := by decide +kernel
theorem dX6_init_16 : decode cX6_init 16 = .ok (.aload_n 0, 1) := by decide +kernel
theorem dX6_init_17 : decode cX6_init 17 = .ok (.aload_n 2, 1) := by decide +kernel
theorem dX6_init_18 : decode cX6_init 18 = .ok (.putfield 18, 3) := by decide +kernel
theorem dX6_init_21 : decode cX6_init 21 = .ok (.aload_n 0, 1) := by decide +kernel
theorem dX6_init_22 : decode cX6_init 22 = .ok (.aload_n 3, 1) := by decide +kernel
theorem dX6_init_23 : decode cX6_init 23 = .ok (.putfield 22, 3) := by decide +kernel
theorem dX6_init_26 : decode cX6_init 26 = .ok (.aload_n 0, 1) := by decide +kernel
theorem dX6_init_27 : decode cX6_init 27 = .ok (.iload 4, 2) := by decide +kernel
theorem dX6_init_29 : decode cX6_init 29 = .ok (.putfield 26, 3) := by decide +kernel
theorem dX6_init_32 : decode cX6_init 32 = .ok (.return_, 1) := by decide +kernel
theorem dX6_standsAfter_0 : decode cX6_standsAfter 0 = .ok (.aload_n 0, 1) := by decide +kernel
theorem dX6_standsAfter_1 : decode cX6_standsAfter 1 = .ok (.getfield 26, 3) := by decide +kernel
theorem dX6_standsAfter_4 : decode cX6_standsAfter 4 = .ok (.iload_n 1, 1) := by decide +kernel
theorem dX6_standsAfter_5 : decode cX6_standsAfter 5 = .ok (.if_icmp .ge 15, 3) := by decide +kernel
theorem dX6_standsAfter_8 : decode cX6_standsAfter 8 = .ok (.iload_n 1, 1) := by decide +kernel
theorem dX6_standsAfter_9 : decode cX6_standsAfter 9 = .ok (.aload_n 0, 1) := by decide +kernel
theorem dX6_standsAfter_10 : decode cX6_standsAfter 10 = .ok (.getfield 9, 3) := by decide +kernel
theorem dX6_standsAfter_13 : decode cX6_standsAfter 13 = .ok (.if_icmp .gt 7, 3) := by decide +kernel
theorem dX6_standsAfter_16 : decode cX6_standsAfter 16 = .ok (.iconst 1, 1) := by decide +kernel
theorem dX6_standsAfter_17 : decode cX6_standsAfter 17 = .ok (.goto 4, 3) := by decide +kernel
theorem dX6_standsAfter_20 : decode cX6_standsAfter 20 = .ok (.iconst 0, 1) := by decide +kernel
theorem dX6_standsAfter_21 : decode cX6_standsAfter 21 = .ok (.ireturn, 1) := by decide +kernel
theorem dX6_isBetterThan_0 : decode cX6_isBetterThan 0 = .ok (.aload_n 1, 1) := by decide +kernel
theorem dX6_isBetterThan_1 : decode cX6_isBetterThan 1 = .ok (.ifnonnull 5, 3) := by decide +kernel
theorem dX6_isBetterThan_4 : decode cX6_isBetterThan 4 = .ok (.iconst 1, 1) := by decide +kernel
theorem dX6_isBetterThan_5 : decode cX6_isBetterThan 5 = .ok (.ireturn, 1) := by decide +kernel
theorem dX6_isBetterThan_6 : decode cX6_isBetterThan 6 = .ok (.aload_n 0, 1) := by decide +kernel
theorem dX6_isBetterThan_7 : decode cX6_isBetterThan 7 = .ok (.getfield 22, 3) := by decide +kernel
theorem dX6_isBetterThan_10 : decode cX6_isBetterThan 10 = .ok (.invokevirtual 29, 3) := by decide +kernel
theorem dX6_isBetterThan_13 : decode cX6_isBetterThan 13 = .ok (.aload_n 1, 1) := by decide +kernel
theorem dX6_isBetterThan_14 : decode cX6_isBetterThan 14 = .ok (.getfield 22, 3) := by decide +kernel
theorem dX6_isBetterThan_17 : decode cX6_isBetterThan 17 = .ok (.invokevirtual 29, 3) := by decide +kernel
theorem dX6_isBetterThan_20 : decode cX6_isBetterThan 20 = .ok (.if_icmp .eq 26, 3) := by decide +kernel
theorem dX6_isBetterThan_23 : decode cX6_isBetterThan 23 = .ok (.aload_n 0, 1) := by decide +kernel
theorem dX6_isBetterThan_24 : decode cX6_isBetterThan 24 = .ok (.getfield 22, 3) := by decide +kernel
theorem dX6_isBetterThan_27 : decode cX6_isBetterThan 27 = .ok (.invokevirtual 29, 3) := by decide +kernel
theorem dX6_isBetterThan_30 : decode cX6_isBetterThan 30 = .ok (.aload_n 1, 1) := by decide +kernel
theorem dX6_isBetterThan_31 : decode cX6_isBetterThan 31 = .ok (.getfield 22, 3) := by decide +kernel
theorem dX6_isBetterThan_34 : decode cX6_isBetterThan 34 = .ok (.invokevirtual 29, 3) := by decide +kernel
theorem dX6_isBetterThan_37 : decode cX6_isBetterThan 37 = .ok (.if_icmp .ge 7, 3) := by decide +kernel
theorem dX6_isBetterThan_40 : decode cX6_isBetterThan 40 = .ok (.iconst 1, 1) := by decide +kernel
theorem dX6_isBetterThan_41 : decode cX6_isBetterThan 41 = .ok (.goto 4, 3) := by decide +kernel
theorem dX6_isBetterThan_44 : decode cX6_isBetterThan 44 = .ok (.iconst 0, 1) := by decide +kernel
theorem dX6_isBetterThan_45 : decode cX6_isBetterThan 45 = .ok (.ireturn, 1) := by decide +kernel
theorem dX6_isBetterThan_46 : decode cX6_isBetterThan 46 = .ok (.aload_n 0, 1) := by decide +kernel
theorem dX6_isBetterThan_47 : decode cX6_isBetterThan 47 = .ok (.getfield 15, 3) := by decide +kernel
theorem dX6_isBetterThan_50 : decode cX6_isBetterThan 50 = .ok (.aload_n 1, 1) := by decide +kernel
theorem dX6_isBetterThan_51 : decode cX6_isBetterThan 51 = .ok (.getfield 15, 3) := by decide +kernel
theorem dX6_isBetterThan_54 : decode cX6_isBetterThan 54 = .ok (.if_icmp .ge 7, 3) := by decide +kernel
theorem dX6_isBetterThan_57 : decode cX6_isBetterThan 57 = .ok (.iconst 1, 1) := by decide +kernel
theorem dX6_isBetterThan_58 : decode cX6_isBetterThan 58 = .ok (.goto 4, 3) := by decide +kernel
theorem dX6_isBetterThan_61 : decode cX6_isBetterThan 61 = .ok (.iconst 0, 1) := by decide +kernel
theorem dX6_isBetterThan_62 : decode cX6_isBetterThan 62 = .ok (.ireturn, 1) := by decide +kernel
theorem dX6_isFoundBefore_0 : decode cX6_isFoundBefore 0 = .ok (.aload_n 1, 1) := by decide +kernel
theorem dX6_isFoundBefore_1 : decode cX6_isFoundBefore 1 = .ok (.ifnonnull 5, 3) := by decide +kernel
theorem dX6_isFoundBefore_4 : decode cX6_isFoundBefore 4 = .ok (.iconst 1, 1) := by decide +kernel
theorem dX6_isFoundBefore_5 : decode cX6_isFoundBefore 5 = .ok (.ireturn, 1) := by decide +kernel
theorem dX6_isFoundBefore_6 : decode cX6_isFoundBefore 6 = .ok (.aload_n 0, 1) := by decide +kernel
theorem dX6_isFoundBefore_7 : decode cX6_isFoundBefore 7 = .ok (.getfield 18, 3) := by decide +kernel
theorem dX6_isFoundBefore_10 : decode cX6_isFoundBefore 10 = .ok (.getfield 35, 3) := by decide +kernel
theorem dX6_isFoundBefore_13 : decode cX6_isFoundBefore 13 = .ok (.aload_n 1, 1) := by decide +kernel
theorem dX6_isFoundBefore_14 : decode cX6_isFoundBefore 14 = .ok (.getfield 18, 3) := by decide +kernel
theorem dX6_isFoundBefore_17 : decode cX6_isFoundBefore 17 = .ok (.getfield 35, 3) := by decide +kernel
theorem dX6_isFoundBefore_20 : decode cX6_isFoundBefore 20 = .ok (.if_icmp .eq 26, 3) := by decide +kernel
theorem dX6_isFoundBefore_23 : decode cX6_isFoundBefore 23 = .ok (.aload_n 0, 1) := by decide +kernel
theorem dX6_isFoundBefore_24 : decode cX6_isFoundBefore 24 = .ok (.getfield 18, 3) := by decide +kernel
theorem dX6_isFoundBefore_27 : decode cX6_isFoundBefore 27 = .ok (.getfield 35, 3) := by decide +kernel
theorem dX6_isFoundBefore_30 : decode cX6_isFoundBefore 30 = .ok (.aload_n 1, 1) := by decide +kernel
theorem dX6_isFoundBefore_31 : decode cX6_isFoundBefore 31 = .ok (.getfield 18, 3) := by decide +kernel
theorem dX6_isFoundBefore_34 : decode cX6_isFoundBefore 34 = .ok (.getfield 35, 3) := by decide +kernel
theorem dX6_isFoundBefore_37 : decode cX6_isFoundBefore 37 = .ok (.if_icmp .le 7, 3) := by decide +kernel
theorem dX6_isFoundBefore_40 : decode cX6_isFoundBefore 40 = .ok (.iconst 1, 1) := by decide +kernel
theorem dX6_isFoundBefore_41 : decode cX6_isFoundBefore 41 = .ok (.goto 4, 3) := by decide +kernel
theorem dX6_isFoundBefore_44 : decode cX6_isFoundBefore 44 = .ok (.iconst 0, 1) := by decide +kernel
theorem dX6_isFoundBefore_45 : decode cX6_isFoundBefore 45 = .ok (.ireturn, 1) := by decide +kernel
theorem dX6_isFoundBefore_46 : decode cX6_isFoundBefore 46 = .ok (.aload_n 0, 1) := by decide +kernel
theorem dX6_isFoundBefore_47 : decode cX6_isFoundBefore 47 = .ok (.aload_n 1, 1) := by decide +kernel
theorem dX6_isFoundBefore_48 : decode cX6_isFoundBefore 48 = .ok (.invokevirtual 40, 3) := by decide +kernel
theorem dX6_isFoundBefore_51 : decode cX6_isFoundBefore 51 = .ok (.ireturn, 1) := by decide +kernel
theorem dX6_isLike_0 : decode cX6_isLike 0 = .ok (.aload_n 0, 1) := by decide +kernel
theorem dX6_isLike_1 : decode cX6_isLike 1 = .ok (.getfield 15, 3) := by decide +kernel
theorem dX6_isLike_4 : decode cX6_isLike 4 = .ok (.aload_n 1, 1) := by decide +kernel
theorem dX6_isLike_5 : decode cX6_isLike 5 = .ok (.getfield 15, 3) := by decide +kernel
theorem dX6_isLike_8 : decode cX6_isLike 8 = .ok (.if_icmp .ne 21, 3) := by decide +kernel
theorem dX6_isLike_11 : decode cX6_isLike 11 = .ok (.aload_n 0, 1) := by decide +kernel
theorem dX6_isLike_12 : decode cX6_isLike 12 = .ok (.getfield 22, 3) := by decide +kernel
theorem dX6_isLike_15 : decode cX6_isLike 15 = .ok (.aload_n 1, 1) := by decide +kernel
theorem dX6_isLike_16 : decode cX6_isLike 16 = .ok (.getfield 22, 3) := by decide +kernel
theorem dX6_isLike_19 : decode cX6_isLike 19 = .ok (.invokevirtual 44, 3) := by decide +kernel
theorem dX6_isLike_22 : decode cX6_isLike 22 = .ok (.ifCond .eq 7, 3) := by decide +kernel
theorem dX6_isLike_25 : decode cX6_isLike 25 = .ok (.iconst 1, 1) := by decide +kernel
theorem dX6_isLike_26 : decode cX6_isLike 26 = .ok (.goto 4, 3) := by decide +kernel
theorem dX6_isLike_29 : decode cX6_isLike 29 = .ok (.iconst 0, 1) := by decide +kernel
theorem dX6_isLike_30 : decode cX6_isLike 30 = .ok (.ireturn, 1) := by decide +kernel
theorem dX7_init_0 : decode cX7_init 0 = .ok (.aload_n 0, 1) := by decide +kernel
theorem dX7_init_1 : decode cX7_init 1 = .ok (.invokespecial 3, 3) := by decide +kernel
theorem dX7_init_4 : decode cX7_init 4 = .ok (.aload_n 0, 1) := by decide +kernel
theorem dX7_init_5 : decode cX7_init 5 = .ok (.sipush 3072, 3) := by decide +kernel
theorem dX7_init_8 : decode cX7_init 8 = .ok (.anewarray 9, 3) := by decide +kernel
theorem dX7_init_11 : decode cX7_init 11 = .ok (.putfield 11, 3) := by decide +kernel
theorem dX7_init_14 : decode cX7_init 14 = .ok (.aload_n 0, 1) := by decide +kernel
theorem dX7_init_15 : decode cX7_init 15 = .ok (.sipush 512, 3) := by decide +kernel
theorem dX7_init_18 : decode cX7_init 18 = .ok (.newarray .int, 2) := by decide +kernel
theorem dX7_init_20 : decode cX7_init 20 = .ok (.putfield 17, 3) := by decide +kernel
theorem dX7_init_23 : decode cX7_init 23 = .ok (.aload_n 0, 1) := by decide +kernel
theorem dX7_init_24 : decode cX7_init 24 = .ok (.bipush 6, 2) := by decide +kernel
theorem dX7_init_26 : decode cX7_init 26 = .ok (.newarray .int, 2) := by decide +kernel
theorem dX7_init_28 : decode cX7_init 28 = .ok (.putfield 21, 3) := by decide +kernel
theorem dX7_init_31 : decode cX7_init 31 = .ok (.return_, 1) := by decide +kernel
theorem dX7_routeOf_0 : decode cX7_routeOf 0 = .ok (.iload_n 1, 1) := by decide +kernel
theorem dX7_routeOf_1 : decode cX7_routeOf 1 = .ok (.iload_n 2, 1) := by decide +kernel
theorem dX7_routeOf_2 : decode cX7_routeOf 2 = .ok (.invokestatic 24, 3) := by decide +kernel
theorem dX7_routeOf_5 : decode cX7_routeOf 5 = .ok (.istore_n 3, 1) := by decide +kernel
theorem dX7_routeOf_6 : decode cX7_routeOf 6 = .ok (.iload_n 3, 1) := by decide +kernel
theorem dX7_routeOf_7 : decode cX7_routeOf 7 = .ok (.iconst (-1), 1) := by decide +kernel
theorem dX7_routeOf_8 : decode cX7_routeOf 8 = .ok (.if_icmp .ne 7, 3) := by decide +kernel
theorem dX7_routeOf_11 : decode cX7_routeOf 11 = .ok (.aconst_null, 1) := by decide +kernel
theorem dX7_routeOf_12 : decode cX7_routeOf 12 = .ok (.goto 9, 3) := by decide +kernel
theorem dX7_routeOf_15 : decode cX7_routeOf 15 = .ok (.aload_n 0, 1) := by decide +kernel
theorem dX7_routeOf_16 : decode cX7_routeOf 16 = .ok (.getfield 11, 3) := by decide +kernel
theorem dX7_routeOf_19 : decode cX7_routeOf 19 = .ok (.iload_n 3, 1) := by decide +kernel
theorem dX7_routeOf_20 : decode cX7_routeOf 20 = .ok (.aaload, 1) := by decide +kernel
theorem dX7_routeOf_21 : decode cX7_routeOf 21 = .ok (.areturn, 1) := by decide +kernel
theorem dX7_put_0 : decode cX7_put 0 = .ok (.aload_n 1, 1) := by decide +kernel
theorem dX7_put_1 : decode cX7_put 1 = .ok (.getfield 28, 3) := by decide +kernel
theorem dX7_put_4 : decode cX7_put 4 = .ok (.getfield 32, 3) := by decide +kernel
theorem dX7_put_7 : decode cX7_put 7 = .ok (.istore_n 2, 1) := by decide +kernel
theorem dX7_put_8 : decode cX7_put 8 = .ok (.aload_n 1, 1) := by decide +kernel
theorem dX7_put_9 : decode cX7_put 9 = .ok (.getfield 38, 3) := by decide +kernel
theorem dX7_put_12 : decode cX7_put 12 = .ok (.iload_n 2, 1) := by decide +kernel
theorem dX7_put_13 : decode cX7_put 13 = .ok (.invokestatic 24, 3) := by decide +kernel
theorem dX7_put_16 : decode cX7_put 16 = .ok (.istore_n 3, 1) := by decide +kernel
theorem dX7_put_17 : decode cX7_put 17 = .ok (.iload_n 3, 1) := by decide +kernel
theorem dX7_put_18 : decode cX7_put 18 = .ok (.iconst (-1), 1) := by decide +kernel
theorem dX7_put_19 : decode cX7_put 19 = .ok (.if_icmp .eq 42, 3) := by decide +kernel
theorem dX7_put_22 : decode cX7_put 22 = .ok (.aload_n 0, 1) := by decide +kernel
theorem dX7_put_23 : decode cX7_put 23 = .ok (.getfield 11, 3) := by decide +kernel
theorem dX7_put_26 : decode cX7_put 26 = .ok (.iload_n 3, 1) := by decide +kernel
theorem dX7_put_27 : decode cX7_put 27 = .ok (.aaload, 1) := by decide +kernel
theorem dX7_put_28 : decode cX7_put 28 = .ok (.ifnonnull 33, 3) := by decide +kernel
theorem dX7_put_31 : decode cX7_put 31 = .ok (.aload_n 0, 1) := by decide +kernel
theorem dX7_put_32 : decode cX7_put 32 = .ok (.getfield 11, 3) := by decide +kernel
theorem dX7_put_35 : decode cX7_put 35 = .ok (.iload_n 3, 1) := by decide +kernel
theorem dX7_put_36 : decode cX7_put 36 = .ok (.aload_n 1, 1) := by decide +kernel
theorem dX7_put_37 : decode cX7_put 37 = .ok (.aastore, 1) := by decide +kernel
theorem dX7_put_38 : decode cX7_put 38 = .ok (.aload_n 0, 1) := by decide +kernel
theorem dX7_put_39 : decode cX7_put 39 = .ok (.getfield 17, 3) := by decide +kernel
theorem dX7_put_42 : decode cX7_put 42 = .ok (.iload_n 2, 1) := by decide +kernel
theorem dX7_put_43 : decode cX7_put 43 = .ok (.dup2, 1) := by decide +kernel
theorem dX7_put_44 : decode cX7_put 44 = .ok (.iaload, 1) := by decide +kernel
theorem dX7_put_45 : decode cX7_put 45 = .ok (.iconst 1, 1) := by decide +kernel
theorem dX7_put_46 : decode cX7_put 46 = .ok (.iadd, 1) := by decide +kernel
theorem dX7_put_47 : decode cX7_put 47 = .ok (.iastore, 1) := by decide +kernel
theorem dX7_put_48 : decode cX7_put 48 = .ok (.aload_n 0, 1) := by decide +kernel
theorem dX7_put_49 : decode cX7_put 49 = .ok (.getfield 21, 3) := by decide +kernel
theorem dX7_put_52 : decode cX7_put 52 = .ok (.aload_n 1, 1) := by decide +kernel
theorem dX7_put_53 : decode cX7_put 53 = .ok (.getfield 38, 3) := by decide +kernel
theorem dX7_put_56 : decode cX7_put 56 = .ok (.dup2, 1) := by decide +kernel
theorem dX7_put_57 : decode cX7_put 57 = .ok (.iaload, 1) := by decide +kernel
theorem dX7_put_58 : decode cX7_put 58 = .ok (.iconst 1, 1) := by decide +kernel
theorem dX7_put_59 : decode cX7_put 59 = .ok (.iadd, 1) := by decide +kernel
theorem dX7_put_60 : decode cX7_put 60 = .ok (.iastore, 1) := by decide +kernel
theorem dX7_put_61 : decode cX7_put 61 = .ok (.return_, 1) := by decide +kernel
theorem dX7_remove_0 : decode cX7_remove 0 = .ok (.aload_n 1, 1) := by decide +kernel
theorem dX7_remove_1 : decode cX7_remove 1 = .ok (.getfield 28, 3) := by decide +kernel
theorem dX7_remove_4 : decode cX7_remove 4 = .ok (.getfield 32, 3) := by decide +kernel
theorem dX7_remove_7 : decode cX7_remove 7 = .ok (.istore_n 2, 1) := by decide +kernel
theorem dX7_remove_8 : decode cX7_remove 8 = .ok (.aload_n 1, 1) := by decide +kernel
theorem dX7_remove_9 : decode cX7_remove 9 = .ok (.getfield 38, 3) := by decide +kernel
theorem dX7_remove_12 : decode cX7_remove 12 = .ok (.iload_n 2, 1) := by decide +kernel
theorem dX7_remove_13 : decode cX7_remove 13 = .ok (.invokestatic 24, 3) := by decide +kernel
theorem dX7_remove_16 : decode cX7_remove 16 = .ok (.istore_n 3, 1) := by decide +kernel
theorem dX7_remove_17 : decode cX7_remove 17 = .ok (.iload_n 3, 1) := by decide +kernel
theorem dX7_remove_18 : decode cX7_remove 18 = .ok (.iconst (-1), 1) := by decide +kernel
theorem dX7_remove_19 : decode cX7_remove 19 = .ok (.if_icmp .eq 43, 3) := by decide +kernel
theorem dX7_remove_22 : decode cX7_remove 22 = .ok (.aload_n 0, 1) := by decide +kernel
theorem dX7_remove_23 : decode cX7_remove 23 = .ok (.getfield 11, 3) := by decide +kernel
theorem dX7_remove_26 : decode cX7_remove 26 = .ok (.iload_n 3, 1) := by decide +kernel
theorem dX7_remove_27 : decode cX7_remove 27 = .ok (.aaload, 1) := by decide +kernel
theorem dX7_remove_28 : decode cX7_remove 28 = .ok (.aload_n 1, 1) := by decide +kernel
theorem dX7_remove_29 : decode cX7_remove 29 = .ok (.if_acmp .ne 33, 3) := by decide +kernel
theorem dX7_remove_32 : decode cX7_remove 32 = .ok (.aload_n 0, 1) := by decide +kernel
theorem dX7_remove_33 : decode cX7_remove 33 = .ok (.getfield 11, 3) := by decide +kernel
theorem dX7_remove_36 : decode cX7_remove 36 = .ok (.iload_n 3, 1) := by decide +kernel
theorem dX7_remove_37 : decode cX7_remove 37 = .ok (.aconst_null, 1) := by decide +kernel
theorem dX7_remove_38 : decode cX7_remove 38 = .ok (.aastore, 1) := by decide +kernel
theorem dX7_remove_39 : decode cX7_remove 39 = .ok (.aload_n 0, 1) := by decide +kernel
theorem dX7_remove_40 : decode cX7_remove 40 = .ok (.getfield 17, 3) := by decide +kernel
theorem dX7_remove_43 : decode cX7_remove 43 = .ok (.iload_n 2, 1) := by decide +kernel
theorem dX7_remove_44 : decode cX7_remove 44 = .ok (.dup2, 1) := by decide +kernel
theorem dX7_remove_45 : decode cX7_remove 45 = .ok (.iaload, 1) := by decide +kernel
theorem dX7_remove_46 : decode cX7_remove 46 = .ok (.iconst 1, 1) := by decide +kernel
theorem dX7_remove_47 : decode cX7_remove 47 = .ok (.isub, 1) := by decide +kernel
theorem dX7_remove_48 : decode cX7_remove 48 = .ok (.iastore, 1) := by decide +kernel
theorem dX7_remove_49 : decode cX7_remove 49 = .ok (.aload_n 0, 1) := by decide +kernel
theorem dX7_remove_50 : decode cX7_remove 50 = .ok (.getfield 21, 3) := by decide +kernel
theorem dX7_remove_53 : decode cX7_remove 53 = .ok (.aload_n 1, 1) := by decide +kernel
theorem dX7_remove_54 : decode cX7_remove 54 = .ok (.getfield 38, 3) := by decide +kernel
theorem dX7_remove_57 : decode cX7_remove 57 = .ok (.dup2, 1) := by decide +kernel
theorem dX7_remove_58 : decode cX7_remove 58 = .ok (.iaload, 1) := by decide +kernel
theorem dX7_remove_59 : decode cX7_remove 59 = .ok (.iconst 1, 1) := by decide +kernel
theorem dX7_remove_60 : decode cX7_remove 60 = .ok (.isub, 1) := by decide +kernel
theorem dX7_remove_61 : decode cX7_remove 61 = .ok (.iastore, 1) := by decide +kernel
theorem dX7_remove_62 : decode cX7_remove 62 = .ok (.return_, 1) := by decide +kernel
theorem dX7_countOfPeer_0 : decode cX7_countOfPeer 0 = .ok (.iload_n 1, 1) := by decide +kernel
theorem dX7_countOfPeer_1 : decode cX7_countOfPeer 1 = .ok (.invokestatic 41, 3) := by decide +kernel
theorem dX7_countOfPeer_4 : decode cX7_countOfPeer 4 = .ok (.ifCond .eq 12, 3) := by decide +kernel
theorem dX7_countOfPeer_7 : decode cX7_countOfPeer 7 = .ok (.aload_n 0, 1) := by decide +kernel
theorem dX7_countOfPeer_8 : decode cX7_countOfPeer 8 = .ok (.getfield 21, 3) := by decide +kernel
theorem dX7_countOfPeer_11 : decode cX7_countOfPeer 11 = .ok (.iload_n 1, 1) := by decide +kernel
theorem dX7_countOfPeer_12 : decode cX7_countOfPeer 12 = .ok (.iaload, 1) := by decide +kernel
theorem dX7_countOfPeer_13 : decode cX7_countOfPeer 13 = .ok (.goto 4, 3) := by decide +kernel
theorem dX7_countOfPeer_16 : decode cX7_countOfPeer 16 = .ok (.iconst 0, 1) := by decide +kernel
theorem dX7_countOfPeer_17 : decode cX7_countOfPeer 17 = .ok (.ireturn, 1) := by decide +kernel
theorem dX7_countPrefixes_0 : decode cX7_countPrefixes 0 = .ok (.iconst 0, 1) := by decide +kernel
theorem dX7_countPrefixes_1 : decode cX7_countPrefixes 1 = .ok (.istore_n 1, 1) := by decide +kernel
theorem dX7_countPrefixes_2 : decode cX7_countPrefixes 2 = .ok (.iconst 1, 1) := by decide +kernel
theorem dX7_countPrefixes_3 : decode cX7_countPrefixes 3 = .ok (.istore_n 2, 1) := by decide +kernel
theorem dX7_countPrefixes_4 : decode cX7_countPrefixes 4 = .ok (.iload_n 2, 1) := by decide +kernel
theorem dX7_countPrefixes_5 : decode cX7_countPrefixes 5 = .ok (.sipush 512, 3) := by decide +kernel
theorem dX7_countPrefixes_8 : decode cX7_countPrefixes 8 = .ok (.if_icmp .ge 20, 3) := by decide +kernel
theorem dX7_countPrefixes_11 : decode cX7_countPrefixes 11 = .ok (.aload_n 0, 1) := by decide +kernel
theorem dX7_countPrefixes_12 : decode cX7_countPrefixes 12 = .ok (.iload_n 2, 1) := by decide +kernel
theorem dX7_countPrefixes_13 : decode cX7_countPrefixes 13 = .ok (.invokevirtual 45, 3) := by decide +kernel
theorem dX7_countPrefixes_16 : decode cX7_countPrefixes 16 = .ok (.ifCond .eq 6, 3) := by decide +kernel
theorem dX7_countPrefixes_19 : decode cX7_countPrefixes 19 = .ok (.iinc 1 1, 3) := by decide +kernel
theorem dX7_countPrefixes_22 : decode cX7_countPrefixes 22 = .ok (.iinc 2 1, 3) := by decide +kernel
theorem dX7_countPrefixes_25 : decode cX7_countPrefixes 25 = .ok (.goto (-21), 3) := by decide +kernel
theorem dX7_countPrefixes_28 : decode cX7_countPrefixes 28 = .ok (.iload_n 1, 1) := by decide +kernel
theorem dX7_countPrefixes_29 : decode cX7_countPrefixes 29 = .ok (.ireturn, 1) := by decide +kernel
theorem dX7_bestOf_0 : decode cX7_bestOf 0 = .ok (.aconst_null, 1) := by decide +kernel
theorem dX7_bestOf_1 : decode cX7_bestOf 1 = .ok (.astore_n 2, 1) := by decide +kernel
theorem dX7_bestOf_2 : decode cX7_bestOf 2 = .ok (.iconst 0, 1) := by decide +kernel
theorem dX7_bestOf_3 : decode cX7_bestOf 3 = .ok (.istore_n 3, 1) := by decide +kernel
theorem dX7_bestOf_4 : decode cX7_bestOf 4 = .ok (.iload_n 3, 1) := by decide +kernel
theorem dX7_bestOf_5 : decode cX7_bestOf 5 = .ok (.bipush 6, 2) := by decide +kernel
theorem dX7_bestOf_7 : decode cX7_bestOf 7 = .ok (.if_icmp .ge 34, 3) := by decide +kernel
theorem dX7_bestOf_10 : decode cX7_bestOf 10 = .ok (.aload_n 0, 1) := by decide +kernel
theorem dX7_bestOf_11 : decode cX7_bestOf 11 = .ok (.iload_n 3, 1) := by decide +kernel
theorem dX7_bestOf_12 : decode cX7_bestOf 12 = .ok (.iload_n 1, 1) := by decide +kernel
theorem dX7_bestOf_13 : decode cX7_bestOf 13 = .ok (.invokevirtual 48, 3) := by decide +kernel
theorem dX7_bestOf_16 : decode cX7_bestOf 16 = .ok (.astore 4, 2) := by decide +kernel
theorem dX7_bestOf_18 : decode cX7_bestOf 18 = .ok (.aload 4, 2) := by decide +kernel
theorem dX7_bestOf_20 : decode cX7_bestOf 20 = .ok (.ifnull 15, 3) := by decide +kernel
theorem dX7_bestOf_23 : decode cX7_bestOf 23 = .ok (.aload 4, 2) := by decide +kernel
theorem dX7_bestOf_25 : decode cX7_bestOf 25 = .ok (.aload_n 2, 1) := by decide +kernel
theorem dX7_bestOf_26 : decode cX7_bestOf 26 = .ok (.invokevirtual 52, 3) := by decide +kernel
theorem dX7_bestOf_29 : decode cX7_bestOf 29 = .ok (.ifCond .eq 6, 3) := by decide +kernel
theorem dX7_bestOf_32 : decode cX7_bestOf 32 = .ok (.aload 4, 2) := by decide +kernel
theorem dX7_bestOf_34 : decode cX7_bestOf 34 = .ok (.astore_n 2, 1) := by decide +kernel
theorem dX7_bestOf_35 : decode cX7_bestOf 35 = .ok (.iinc 3 1, 3) := by decide +kernel
theorem dX7_bestOf_38 : decode cX7_bestOf 38 = .ok (.goto (-34), 3) := by decide +kernel
theorem dX7_bestOf_41 : decode cX7_bestOf 41 = .ok (.aload_n 2, 1) := by decide +kernel
theorem dX7_bestOf_42 : decode cX7_bestOf 42 = .ok (.areturn, 1) := by decide +kernel
theorem dX7_longestLengthFor_0 : decode cX7_longestLengthFor 0 = .ok (.iconst (-1), 1) := by decide +kernel
theorem dX7_longestLengthFor_1 : decode cX7_longestLengthFor 1 = .ok (.istore_n 2, 1) := by decide +kernel
theorem dX7_longestLengthFor_2 : decode cX7_longestLengthFor 2 = .ok (.iconst 0, 1) := by decide +kernel
theorem dX7_longestLengthFor_3 : decode cX7_longestLengthFor 3 = .ok (.istore_n 3, 1) := by decide +kernel
theorem dX7_longestLengthFor_4 : decode cX7_longestLengthFor 4 = .ok (.iload_n 3, 1) := by decide +kernel
theorem dX7_longestLengthFor_5 : decode cX7_longestLengthFor 5 = .ok (.bipush 8, 2) := by decide +kernel
theorem dX7_longestLengthFor_7 : decode cX7_longestLengthFor 7 = .ok (.if_icmp .gt 23, 3) := by decide +kernel
theorem dX7_longestLengthFor_10 : decode cX7_longestLengthFor 10 = .ok (.aload_n 0, 1) := by decide +kernel
theorem dX7_longestLengthFor_11 : decode cX7_longestLengthFor 11 = .ok (.iload_n 1, 1) := by decide +kernel
theorem dX7_longestLengthFor_12 : decode cX7_longestLengthFor 12 = .ok (.iload_n 3, 1) := by decide +kernel
theorem dX7_longestLengthFor_13 : decode cX7_longestLengthFor 13 = .ok (.invokestatic 56, 3) := by decide +kernel
theorem dX7_longestLengthFor_16 : decode cX7_longestLengthFor 16 = .ok (.invokevirtual 45, 3) := by decide +kernel
theorem dX7_longestLengthFor_19 : decode cX7_longestLengthFor 19 = .ok (.ifCond .eq 5, 3) := by decide +kernel
theorem dX7_longestLengthFor_22 : decode cX7_longestLengthFor 22 = .ok (.iload_n 3, 1) := by decide +kernel
theorem dX7_longestLengthFor_23 : decode cX7_longestLengthFor 23 = .ok (.istore_n 2, 1) := by decide +kernel
theorem dX7_longestLengthFor_24 : decode cX7_longestLengthFor 24 = .ok (.iinc 3 1, 3) := by decide +kernel
theorem dX7_longestLengthFor_27 : decode cX7_longestLengthFor 27 = .ok (.goto (-23), 3) := by decide +kernel
theorem dX7_longestLengthFor_30 : decode cX7_longestLengthFor 30 = .ok (.iload_n 2, 1) := by decide +kernel
theorem dX7_longestLengthFor_31 : decode cX7_longestLengthFor 31 = .ok (.ireturn, 1) := by decide +kernel
theorem dX7_nearestAbove_0 : decode cX7_nearestAbove 0 = .ok (.iload_n 1, 1) := by decide +kernel
theorem dX7_nearestAbove_1 : decode cX7_nearestAbove 1 = .ok (.iconst 2, 1) := by decide +kernel
theorem dX7_nearestAbove_2 : decode cX7_nearestAbove 2 = .ok (.idiv, 1) := by decide +kernel
theorem dX7_nearestAbove_3 : decode cX7_nearestAbove 3 = .ok (.istore_n 2, 1) := by decide +kernel
theorem dX7_nearestAbove_4 : decode cX7_nearestAbove 4 = .ok (.iload_n 2, 1) := by decide +kernel
theorem dX7_nearestAbove_5 : decode cX7_nearestAbove 5 = .ok (.iconst 1, 1) := by decide +kernel
theorem dX7_nearestAbove_6 : decode cX7_nearestAbove 6 = .ok (.if_icmp .lt 20, 3) := by decide +kernel
theorem dX7_nearestAbove_9 : decode cX7_nearestAbove 9 = .ok (.aload_n 0, 1) := by decide +kernel
theorem dX7_nearestAbove_10 : decode cX7_nearestAbove 10 = .ok (.iload_n 2, 1) := by decide +kernel
theorem dX7_nearestAbove_11 : decode cX7_nearestAbove 11 = .ok (.invokevirtual 45, 3) := by decide +kernel
theorem dX7_nearestAbove_14 : decode cX7_nearestAbove 14 = .ok (.ifCond .eq 5, 3) := by decide +kernel
theorem dX7_nearestAbove_17 : decode cX7_nearestAbove 17 = .ok (.iload_n 2, 1) := by decide +kernel
theorem dX7_nearestAbove_18 : decode cX7_nearestAbove 18 = .ok (.ireturn, 1) := by decide +kernel
theorem dX7_nearestAbove_19 : decode cX7_nearestAbove 19 = .ok (.iload_n 2, 1) := by decide +kernel
theorem dX7_nearestAbove_20 : decode cX7_nearestAbove 20 = .ok (.iconst 2, 1) := by decide +kernel
theorem dX7_nearestAbove_21 : decode cX7_nearestAbove 21 = .ok (.idiv, 1) := by decide +kernel
theorem dX7_nearestAbove_22 : decode cX7_nearestAbove 22 = .ok (.istore_n 2, 1) := by decide +kernel
theorem dX7_nearestAbove_23 : decode cX7_nearestAbove 23 = .ok (.goto (-19), 3) := by decide +kernel
theorem dX7_nearestAbove_26 : decode cX7_nearestAbove 26 = .ok (.iconst (-1), 1) := by decide +kernel
theorem dX7_nearestAbove_27 : decode cX7_nearestAbove 27 = .ok (.ireturn, 1) := by decide +kernel
theorem dX7_countOrigins_0 : decode cX7_countOrigins 0 = .ok (.aload_n 0, 1) := by decide +kernel
theorem dX7_countOrigins_1 : decode cX7_countOrigins 1 = .ok (.iload_n 1, 1) := by decide +kernel
theorem dX7_countOrigins_2 : decode cX7_countOrigins 2 = .ok (.invokevirtual 59, 3) := by decide +kernel
theorem dX7_countOrigins_5 : decode cX7_countOrigins 5 = .ok (.invokestatic 63, 3) := by decide +kernel
theorem dX7_countOrigins_8 : decode cX7_countOrigins 8 = .ok (.ireturn, 1) := by decide +kernel
theorem dX7_hasOrigin_0 : decode cX7_hasOrigin 0 = .ok (.aload_n 0, 1) := by decide +kernel
theorem dX7_hasOrigin_1 : decode cX7_hasOrigin 1 = .ok (.iload_n 1, 1) := by decide +kernel
theorem dX7_hasOrigin_2 : decode cX7_hasOrigin 2 = .ok (.invokevirtual 59, 3) := by decide +kernel
theorem dX7_hasOrigin_5 : decode cX7_hasOrigin 5 = .ok (.iconst 1, 1) := by decide +kernel
theorem dX7_hasOrigin_6 : decode cX7_hasOrigin 6 = .ok (.iload_n 2, 1) := by decide +kernel
theorem dX7_hasOrigin_7 : decode cX7_hasOrigin 7 = .ok (.ishl, 1) := by decide +kernel
theorem dX7_hasOrigin_8 : decode cX7_hasOrigin 8 = .ok (.iand, 1) := by decide +kernel
theorem dX7_hasOrigin_9 : decode cX7_hasOrigin 9 = .ok (.ifCond .eq 7, 3) := by decide +kernel
theorem dX7_hasOrigin_12 : decode cX7_hasOrigin 12 = .ok (.iconst 1, 1) := by decide +kernel
theorem dX7_hasOrigin_13 : decode cX7_hasOrigin 13 = .ok (.goto 4, 3) := by decide +kernel
theorem dX7_hasOrigin_16 : decode cX7_hasOrigin 16 = .ok (.iconst 0, 1) := by decide +kernel
theorem dX7_hasOrigin_17 : decode cX7_hasOrigin 17 = .ok (.ireturn, 1) := by decide +kernel
theorem dX7_originBits_0 : decode cX7_originBits 0 = .ok (.aload_n 0, 1) := by decide +kernel
theorem dX7_originBits_1 : decode cX7_originBits 1 = .ok (.iload_n 1, 1) := by decide +kernel
theorem dX7_originBits_2 : decode cX7_originBits 2 = .ok (.invokevirtual 45, 3) := by decide +kernel
theorem dX7_originBits_5 : decode cX7_originBits 5 = .ok (.ifCond .ne 5, 3) := by decide +kernel
theorem dX7_originBits_8 : decode cX7_originBits 8 = .ok (.iconst 0, 1) := by decide +kernel
theorem dX7_originBits_9 : decode cX7_originBits 9 = .ok (.ireturn, 1) := by decide +kernel
theorem dX7_originBits_10 : decode cX7_originBits 10 = .ok (.iconst 0, 1) := by decide +kernel
theorem dX7_originBits_11 : decode cX7_originBits 11 = .ok (.istore_n 2, 1) := by decide +kernel
theorem dX7_originBits_12 : decode cX7_originBits 12 = .ok (.iconst 0, 1) := by decide +kernel
theorem dX7_originBits_13 : decode cX7_originBits 13 = .ok (.istore_n 3, 1) := by decide +kernel
theorem dX7_originBits_14 : decode cX7_originBits 14 = .ok (.iload_n 3, 1) := by decide +kernel
theorem dX7_originBits_15 : decode cX7_originBits 15 = .ok (.bipush 6, 2) := by decide +kernel
theorem dX7_originBits_17 : decode cX7_originBits 17 = .ok (.if_icmp .ge 35, 3) := by decide +kernel
theorem dX7_originBits_20 : decode cX7_originBits 20 = .ok (.aload_n 0, 1) := by decide +kernel
theorem dX7_originBits_21 : decode cX7_originBits 21 = .ok (.iload_n 3, 1) := by decide +kernel
theorem dX7_originBits_22 : decode cX7_originBits 22 = .ok (.iload_n 1, 1) := by decide +kernel
theorem dX7_originBits_23 : decode cX7_originBits 23 = .ok (.invokevirtual 48, 3) := by decide +kernel
theorem dX7_originBits_26 : decode cX7_originBits 26 = .ok (.astore 4, 2) := by decide +kernel
theorem dX7_originBits_28 : decode cX7_originBits 28 = .ok (.aload 4, 2) := by decide +kernel
theorem dX7_originBits_30 : decode cX7_originBits 30 = .ok (.ifnull 16, 3) := by decide +kernel
theorem dX7_originBits_33 : decode cX7_originBits 33 = .ok (.iload_n 2, 1) := by decide +kernel
theorem dX7_originBits_34 : decode cX7_originBits 34 = .ok (.iconst 1, 1) := by decide +kernel
theorem dX7_originBits_35 : decode cX7_originBits 35 = .ok (.aload 4, 2) := by decide +kernel
theorem dX7_originBits_37 : decode cX7_originBits 37 = .ok (.getfield 68, 3) := by decide +kernel
theorem dX7_originBits_40 : decode cX7_originBits 40 = .ok (.invokevirtual 72, 3) := by decide +kernel
theorem dX7_originBits_43 : decode cX7_originBits 43 = .ok (.ishl, 1) := by decide +kernel
theorem dX7_originBits_44 : decode cX7_originBits 44 = .ok (.ior, 1) := by decide +kernel
theorem dX7_originBits_45 : decode cX7_originBits 45 = .ok (.istore_n 2, 1) := by decide +kernel
theorem dX7_originBits_46 : decode cX7_originBits 46 = .ok (.iinc 3 1, 3) := by decide +kernel
theorem dX7_originBits_49 : decode cX7_originBits 49 = .ok (.goto (-35), 3) := by decide +kernel
theorem dX7_originBits_52 : decode cX7_originBits 52 = .ok (.iload_n 2, 1) := by decide +kernel
theorem dX7_originBits_53 : decode cX7_originBits 53 = .ok (.ireturn, 1) := by decide +kernel
theorem dX7_isThere_0 : decode cX7_isThere 0 = .ok (.iload_n 1, 1) := by decide +kernel
theorem dX7_isThere_1 : decode cX7_isThere 1 = .ok (.invokestatic 78, 3) := by decide +kernel
theorem dX7_isThere_4 : decode cX7_isThere 4 = .ok (.ifCond .eq 16, 3) := by decide +kernel
theorem dX7_isThere_7 : decode cX7_isThere 7 = .ok (.aload_n 0, 1) := by decide +kernel
theorem dX7_isThere_8 : decode cX7_isThere 8 = .ok (.getfield 17, 3) := by decide +kernel
theorem dX7_isThere_11 : decode cX7_isThere 11 = .ok (.iload_n 1, 1) := by decide +kernel
theorem dX7_isThere_12 : decode cX7_isThere 12 = .ok (.iaload, 1) := by decide +kernel
theorem dX7_isThere_13 : decode cX7_isThere 13 = .ok (.ifCond .le 7, 3) := by decide +kernel
theorem dX7_isThere_16 : decode cX7_isThere 16 = .ok (.iconst 1, 1) := by decide +kernel
theorem dX7_isThere_17 : decode cX7_isThere 17 = .ok (.goto 4, 3) := by decide +kernel
theorem dX7_isThere_20 : decode cX7_isThere 20 = .ok (.iconst 0, 1) := by decide +kernel
theorem dX7_isThere_21 : decode cX7_isThere 21 = .ok (.ireturn, 1) := by decide +kernel
theorem dX7_cellOf_0 : decode cX7_cellOf 0 = .ok (.iload_n 0, 1) := by decide +kernel
theorem dX7_cellOf_1 : decode cX7_cellOf 1 = .ok (.invokestatic 41, 3) := by decide +kernel
theorem dX7_cellOf_4 : decode cX7_cellOf 4 = .ok (.ifCond .eq 20, 3) := by decide +kernel
theorem dX7_cellOf_7 : decode cX7_cellOf 7 = .ok (.iload_n 1, 1) := by decide +kernel
theorem dX7_cellOf_8 : decode cX7_cellOf 8 = .ok (.invokestatic 78, 3) := by decide +kernel
theorem dX7_cellOf_11 : decode cX7_cellOf 11 = .ok (.ifCond .eq 13, 3) := by decide +kernel
theorem dX7_cellOf_14 : decode cX7_cellOf 14 = .ok (.iload_n 0, 1) := by decide +kernel
theorem dX7_cellOf_15 : decode cX7_cellOf 15 = .ok (.sipush 512, 3) := by decide +kernel
theorem dX7_cellOf_18 : decode cX7_cellOf 18 = .ok (.imul, 1) := by decide +kernel
theorem dX7_cellOf_19 : decode cX7_cellOf 19 = .ok (.iload_n 1, 1) := by decide +kernel
theorem dX7_cellOf_20 : decode cX7_cellOf 20 = .ok (.iadd, 1) := by decide +kernel
theorem dX7_cellOf_21 : decode cX7_cellOf 21 = .ok (.goto 4, 3) := by decide +kernel
theorem dX7_cellOf_24 : decode cX7_cellOf 24 = .ok (.iconst (-1), 1) := by decide +kernel
theorem dX7_cellOf_25 : decode cX7_cellOf 25 = .ok (.ireturn, 1) := by decide +kernel
theorem dJ6_bitCount_0f7a4_0 : decode cJ6_bitCount_0f7a4 0 = .ok (.iload_n 0, 1) := by decide +kernel
theorem dJ6_bitCount_0f7a4_1 : decode cJ6_bitCount_0f7a4 1 = .ok (.iload_n 0, 1) := by decide +kernel
theorem dJ6_bitCount_0f7a4_2 : decode cJ6_bitCount_0f7a4 2 = .ok (.iconst 1, 1) := by decide +kernel
theorem dJ6_bitCount_0f7a4_3 : decode cJ6_bitCount_0f7a4 3 = .ok (.iushr, 1) := by decide +kernel
theorem dJ6_bitCount_0f7a4_4 : decode cJ6_bitCount_0f7a4 4 = .ok (.ldc_w 265, 3) := by decide +kernel
theorem dJ6_bitCount_0f7a4_7 : decode cJ6_bitCount_0f7a4 7 = .ok (.iand, 1) := by decide +kernel
theorem dJ6_bitCount_0f7a4_8 : decode cJ6_bitCount_0f7a4 8 = .ok (.isub, 1) := by decide +kernel
theorem dJ6_bitCount_0f7a4_9 : decode cJ6_bitCount_0f7a4 9 = .ok (.istore_n 0, 1) := by decide +kernel
theorem dJ6_bitCount_0f7a4_10 : decode cJ6_bitCount_0f7a4 10 = .ok (.iload_n 0, 1) := by decide +kernel
theorem dJ6_bitCount_0f7a4_11 : decode cJ6_bitCount_0f7a4 11 = .ok (.ldc_w 266, 3) := by decide +kernel
theorem dJ6_bitCount_0f7a4_14 : decode cJ6_bitCount_0f7a4 14 = .ok (.iand, 1) := by decide +kernel
theorem dJ6_bitCount_0f7a4_15 : decode cJ6_bitCount_0f7a4 15 = .ok (.iload_n 0, 1) := by decide +kernel
theorem dJ6_bitCount_0f7a4_16 : decode cJ6_bitCount_0f7a4 16 = .ok (.iconst 2, 1) := by decide +kernel
theorem dJ6_bitCount_0f7a4_17 : decode cJ6_bitCount_0f7a4 17 = .ok (.iushr, 1) := by decide +kernel
theorem dJ6_bitCount_0f7a4_18 : decode cJ6_bitCount_0f7a4 18 = .ok (.ldc_w 266, 3) := by decide +kernel
theorem dJ6_bitCount_0f7a4_21 : decode cJ6_bitCount_0f7a4 21 = .ok (.iand, 1) := by decide +kernel
theorem dJ6_bitCount_0f7a4_22 : decode cJ6_bitCount_0f7a4 22 = .ok (.iadd, 1) := by decide +kernel
theorem dJ6_bitCount_0f7a4_23 : decode cJ6_bitCount_0f7a4 23 = .ok (.istore_n 0, 1) := by decide +kernel
theorem dJ6_bitCount_0f7a4_24 : decode cJ6_bitCount_0f7a4 24 = .ok (.iload_n 0, 1) := by decide +kernel
theorem dJ6_bitCount_0f7a4_25 : decode cJ6_bitCount_0f7a4 25 = .ok (.iload_n 0, 1) := by decide +kernel
theorem dJ6_bitCount_0f7a4_26 : decode cJ6_bitCount_0f7a4 26 = .ok (.iconst 4, 1) := by decide +kernel
theorem dJ6_bitCount_0f7a4_27 : decode cJ6_bitCount_0f7a4 27 = .ok (.iushr, 1) := by decide +kernel
theorem dJ6_bitCount_0f7a4_28 : decode cJ6_bitCount_0f7a4 28 = .ok (.iadd, 1) := by decide +kernel
theorem dJ6_bitCount_0f7a4_29 : decode cJ6_bitCount_0f7a4 29 = .ok (.ldc_w 267, 3) := by decide +kernel
theorem dJ6_bitCount_0f7a4_32 : decode cJ6_bitCount_0f7a4 32 = .ok (.iand, 1) := by decide +kernel
theorem dJ6_bitCount_0f7a4_33 : decode cJ6_bitCount_0f7a4 33 = .ok (.istore_n 0, 1) := by decide +kernel
theorem dJ6_bitCount_0f7a4_34 : decode cJ6_bitCount_0f7a4 34 = .ok (.iload_n 0, 1) := by decide +kernel
theorem dJ6_bitCount_0f7a4_35 : decode cJ6_bitCount_0f7a4 35 = .ok (.iload_n 0, 1) := by decide +kernel
theorem dJ6_bitCount_0f7a4_36 : decode cJ6_bitCount_0f7a4 36 = .ok (.bipush 8, 2) := by decide +kernel
theorem dJ6_bitCount_0f7a4_38 : decode cJ6_bitCount_0f7a4 38 = .ok (.iushr, 1) := by decide +kernel
theorem dJ6_bitCount_0f7a4_39 : decode cJ6_bitCount_0f7a4 39 = .ok (.iadd, 1) := by decide +kernel
theorem dJ6_bitCount_0f7a4_40 : decode cJ6_bitCount_0f7a4 40 = .ok (.istore_n 0, 1) := by decide +kernel
theorem dJ6_bitCount_0f7a4_41 : decode cJ6_bitCount_0f7a4 41 = .ok (.iload_n 0, 1) := by decide +kernel
theorem dJ6_bitCount_0f7a4_42 : decode cJ6_bitCount_0f7a4 42 = .ok (.iload_n 0, 1) := by decide +kernel
theorem dJ6_bitCount_0f7a4_43 : decode cJ6_bitCount_0f7a4 43 = .ok (.bipush 16, 2) := by decide +kernel
theorem dJ6_bitCount_0f7a4_45 : decode cJ6_bitCount_0f7a4 45 = .ok (.iushr, 1) := by decide +kernel
theorem dJ6_bitCount_0f7a4_46 : decode cJ6_bitCount_0f7a4 46 = .ok (.iadd, 1) := by decide +kernel
theorem dJ6_bitCount_0f7a4_47 : decode cJ6_bitCount_0f7a4 47 = .ok (.istore_n 0, 1) := by decide +kernel
theorem dJ6_bitCount_0f7a4_48 : decode cJ6_bitCount_0f7a4 48 = .ok (.iload_n 0, 1) := by decide +kernel
theorem dJ6_bitCount_0f7a4_49 : decode cJ6_bitCount_0f7a4 49 = .ok (.bipush 63, 2) := by decide +kernel
theorem dJ6_bitCount_0f7a4_51 : decode cJ6_bitCount_0f7a4 51 = .ok (.iand, 1) := by decide +kernel
theorem dJ6_bitCount_0f7a4_52 : decode cJ6_bitCount_0f7a4 52 = .ok (.ireturn, 1) := by decide +kernel
