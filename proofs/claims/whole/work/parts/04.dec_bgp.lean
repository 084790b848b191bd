theorem dX8_init_0 : decode cX8_init 0 = .ok (.aload_n 0, 1) := by decide +kernel
theorem dX8_init_1 : decode cX8_init 1 = .ok (.invokespecial 3, 3) := by decide +kernel
theorem dX8_init_4 : decode cX8_init 4 = .ok (.aload_n 0, 1) := by decide +kernel
theorem dX8_init_5 : decode cX8_init 5 = .ok (.new 9, 3) := by decide +kernel
theorem dX8_init_8 : decode cX8_init 8 = .ok (.dup, 1) := by decide +kernel
theorem dX8_init_9 : decode cX8_init 9 = .ok (.invokespecial 11, 3) := by decide +kernel
theorem dX8_init_12 : decode cX8_init 12 = .ok (.putfield 12, 3) := by decide +kernel
theorem dX8_init_15 : decode cX8_init 15 = .ok (.aload_n 0, 1) := by decide +kernel
theorem dX8_init_16 : decode cX8_init 16 = .ok (.new 16, 3) := by decide +kernel
theorem dX8_init_19 : decode cX8_init 19 = .ok (.dup, 1) := by decide +kernel
theorem dX8_init_20 : decode cX8_init 20 = .ok (.invokespecial 18, 3) := by decide +kernel
theorem dX8_init_23 : decode cX8_init 23 = .ok (.putfield 19, 3) := by decide +kernel
theorem dX8_init_26 : decode cX8_init 26 = .ok (.aload_n 0, 1) := by decide +kernel
theorem dX8_init_27 : decode cX8_init 27 = .ok (.new 23, 3) := by decide +kernel
theorem dX8_init_30 : decode cX8_init 30 = .ok (.dup, 1) := by decide +kernel
theorem dX8_init_31 : decode cX8_init 31 = .ok (.invokespecial 25, 3) := by decide +kernel
theorem dX8_init_34 : decode cX8_init 34 = .ok (.putfield 26, 3) := by decide +kernel
theorem dX8_init_37 : decode cX8_init 37 = .ok (.aload_n 0, 1) := by decide +kernel
theorem dX8_init_38 : decode cX8_init 38 = .ok (.new 30, 3) := by decide +kernel
theorem dX8_init_41 : decode cX8_init 41 = .ok (.dup, 1) := by decide +kernel
theorem dX8_init_42 : decode cX8_init 42 = .ok (.invokespecial 32, 3) := by decide +kernel
theorem dX8_init_45 : decode cX8_init 45 = .ok (.putfield 33, 3) := by decide +kernel
theorem dX8_init_48 : decode cX8_init 48 = .ok (.aload_n 0, 1) := by decide +kernel
theorem dX8_init_49 : decode cX8_init 49 = .ok (.new 37, 3) := by decide +kernel
theorem dX8_init_52 : decode cX8_init 52 = .ok (.dup, 1) := by decide +kernel
theorem dX8_init_53 : decode cX8_init 53 = .ok (.invokespecial 39, 3) := by decide +kernel
theorem dX8_init_56 : decode cX8_init 56 = .ok (.putfield 40, 3) := by decide +kernel
theorem dX8_init_59 : decode cX8_init 59 = .ok (.aload_n 0, 1) := by decide +kernel
theorem dX8_init_60 : decode cX8_init 60 = .ok (.iconst 0, 1) := by decide +kernel
theorem dX8_init_61 : decode cX8_init 61 = .ok (.putfield 44, 3) := by decide +kernel
theorem dX8_init_64 : decode cX8_init 64 = .ok (.return_, 1) := by decide +kernel
theorem dX8_pass_0 : decode cX8_pass 0 = .ok (.iload_n 1, 1) := by decide +kernel
theorem dX8_pass_1 : decode cX8_pass 1 = .ok (.iconst 1, 1) := by decide +kernel
theorem dX8_pass_2 : decode cX8_pass 2 = .ok (.if_icmp .lt 10, 3) := by decide +kernel
theorem dX8_pass_5 : decode cX8_pass 5 = .ok (.iload_n 1, 1) := by decide +kernel
theorem dX8_pass_6 : decode cX8_pass 6 = .ok (.sipush 1000, 3) := by decide +kernel
theorem dX8_pass_9 : decode cX8_pass 9 = .ok (.if_icmp .le 13, 3) := by decide +kernel
theorem dX8_pass_12 : decode cX8_pass 12 = .ok (.new 48, 3) := by decide +kernel
theorem dX8_pass_15 : decode cX8_pass 15 = .ok (.dup, 1) := by decide +kernel
theorem dX8_pass_16 : decode cX8_pass 16 = .ok (.ldc 50, 2) := by decide +kernel
theorem dX8_pass_18 : decode cX8_pass 18 = .ok (.invokespecial 52, 3) := by decide +kernel
theorem dX8_pass_21 : decode cX8_pass 21 = .ok (.athrow, 1) := by decide +kernel
theorem dX8_pass_22 : decode cX8_pass 22 = .ok (.aload_n 0, 1) := by decide +kernel
theorem dX8_pass_23 : decode cX8_pass 23 = .ok (.getfield 44, 3) := by decide +kernel
theorem dX8_pass_26 : decode cX8_pass 26 = .ok (.ldc 55, 2) := by decide +kernel
theorem dX8_pass_28 : decode cX8_pass 28 = .ok (.iload_n 1, 1) := by decide +kernel
theorem dX8_pass_29 : decode cX8_pass 29 = .ok (.isub, 1) := by decide +kernel
theorem dX8_pass_30 : decode cX8_pass 30 = .ok (.if_icmp .le 13, 3) := by decide +kernel
theorem dX8_pass_33 : decode cX8_pass 33 = .ok (.new 56, 3) := by decide +kernel
theorem dX8_pass_36 : decode cX8_pass 36 = .ok (.dup, 1) := by decide +kernel
theorem dX8_pass_37 : decode cX8_pass 37 = .ok (.ldc 58, 2) := by decide +kernel
theorem dX8_pass_39 : decode cX8_pass 39 = .ok (.invokespecial 60, 3) := by decide +kernel
theorem dX8_pass_42 : decode cX8_pass 42 = .ok (.athrow, 1) := by decide +kernel
theorem dX8_pass_43 : decode cX8_pass 43 = .ok (.aload_n 0, 1) := by decide +kernel
theorem dX8_pass_44 : decode cX8_pass 44 = .ok (.dup, 1) := by decide +kernel
theorem dX8_pass_45 : decode cX8_pass 45 = .ok (.getfield 44, 3) := by decide +kernel
theorem dX8_pass_48 : decode cX8_pass 48 = .ok (.iload_n 1, 1) := by decide +kernel
theorem dX8_pass_49 : decode cX8_pass 49 = .ok (.iadd, 1) := by decide +kernel
theorem dX8_pass_50 : decode cX8_pass 50 = .ok (.putfield 44, 3) := by decide +kernel
theorem dX8_pass_53 : decode cX8_pass 53 = .ok (.aload_n 0, 1) := by decide +kernel
theorem dX8_pass_54 : decode cX8_pass 54 = .ok (.getfield 44, 3) := by decide +kernel
theorem dX8_pass_57 : decode cX8_pass 57 = .ok (.ireturn, 1) := by decide +kernel
theorem dX8_now_0 : decode cX8_now 0 = .ok (.aload_n 0, 1) := by decide +kernel
theorem dX8_now_1 : decode cX8_now 1 = .ok (.getfield 44, 3) := by decide +kernel
theorem dX8_now_4 : decode cX8_now 4 = .ok (.ireturn, 1) := by decide +kernel
theorem dX8_hop_0 : decode cX8_hop 0 = .ok (.iload_n 1, 1) := by decide +kernel
theorem dX8_hop_1 : decode cX8_hop 1 = .ok (.invokestatic 61, 3) := by decide +kernel
theorem dX8_hop_4 : decode cX8_hop 4 = .ok (.ifCond .ne 13, 3) := by decide +kernel
theorem dX8_hop_7 : decode cX8_hop 7 = .ok (.new 48, 3) := by decide +kernel
theorem dX8_hop_10 : decode cX8_hop 10 = .ok (.dup, 1) := by decide +kernel
theorem dX8_hop_11 : decode cX8_hop 11 = .ok (.ldc 65, 2) := by decide +kernel
theorem dX8_hop_13 : decode cX8_hop 13 = .ok (.invokespecial 52, 3) := by decide +kernel
theorem dX8_hop_16 : decode cX8_hop 16 = .ok (.athrow, 1) := by decide +kernel
theorem dX8_hop_17 : decode cX8_hop 17 = .ok (.aload_n 0, 1) := by decide +kernel
theorem dX8_hop_18 : decode cX8_hop 18 = .ok (.getfield 12, 3) := by decide +kernel
theorem dX8_hop_21 : decode cX8_hop 21 = .ok (.invokevirtual 67, 3) := by decide +kernel
theorem dX8_hop_24 : decode cX8_hop 24 = .ok (.ifCond .eq 13, 3) := by decide +kernel
theorem dX8_hop_27 : decode cX8_hop 27 = .ok (.new 56, 3) := by decide +kernel
theorem dX8_hop_30 : decode cX8_hop 30 = .ok (.dup, 1) := by decide +kernel
theorem dX8_hop_31 : decode cX8_hop 31 = .ok (.ldc 71, 2) := by decide +kernel
theorem dX8_hop_33 : decode cX8_hop 33 = .ok (.invokespecial 60, 3) := by decide +kernel
theorem dX8_hop_36 : decode cX8_hop 36 = .ok (.athrow, 1) := by decide +kernel
theorem dX8_hop_37 : decode cX8_hop 37 = .ok (.aload_n 0, 1) := by decide +kernel
theorem dX8_hop_38 : decode cX8_hop 38 = .ok (.getfield 12, 3) := by decide +kernel
theorem dX8_hop_41 : decode cX8_hop 41 = .ok (.iload_n 1, 1) := by decide +kernel
theorem dX8_hop_42 : decode cX8_hop 42 = .ok (.invokevirtual 73, 3) := by decide +kernel
theorem dX8_hop_45 : decode cX8_hop 45 = .ok (.ifCond .eq 13, 3) := by decide +kernel
theorem dX8_hop_48 : decode cX8_hop 48 = .ok (.new 56, 3) := by decide +kernel
theorem dX8_hop_51 : decode cX8_hop 51 = .ok (.dup, 1) := by decide +kernel
theorem dX8_hop_52 : decode cX8_hop 52 = .ok (.ldc 76, 2) := by decide +kernel
theorem dX8_hop_54 : decode cX8_hop 54 = .ok (.invokespecial 60, 3) := by decide +kernel
theorem dX8_hop_57 : decode cX8_hop 57 = .ok (.athrow, 1) := by decide +kernel
theorem dX8_hop_58 : decode cX8_hop 58 = .ok (.aload_n 0, 1) := by decide +kernel
theorem dX8_hop_59 : decode cX8_hop 59 = .ok (.getfield 12, 3) := by decide +kernel
theorem dX8_hop_62 : decode cX8_hop 62 = .ok (.iload_n 1, 1) := by decide +kernel
theorem dX8_hop_63 : decode cX8_hop 63 = .ok (.invokevirtual 78, 3) := by decide +kernel
theorem dX8_hop_66 : decode cX8_hop 66 = .ok (.aload_n 0, 1) := by decide +kernel
theorem dX8_hop_67 : decode cX8_hop 67 = .ok (.getfield 12, 3) := by decide +kernel
theorem dX8_hop_70 : decode cX8_hop 70 = .ok (.invokevirtual 82, 3) := by decide +kernel
theorem dX8_hop_73 : decode cX8_hop 73 = .ok (.ireturn, 1) := by decide +kernel
theorem dX8_clearPath_0 : decode cX8_clearPath 0 = .ok (.aload_n 0, 1) := by decide +kernel
theorem dX8_clearPath_1 : decode cX8_clearPath 1 = .ok (.getfield 12, 3) := by decide +kernel
theorem dX8_clearPath_4 : decode cX8_clearPath 4 = .ok (.invokevirtual 82, 3) := by decide +kernel
theorem dX8_clearPath_7 : decode cX8_clearPath 7 = .ok (.istore_n 1, 1) := by decide +kernel
theorem dX8_clearPath_8 : decode cX8_clearPath 8 = .ok (.aload_n 0, 1) := by decide +kernel
theorem dX8_clearPath_9 : decode cX8_clearPath 9 = .ok (.getfield 12, 3) := by decide +kernel
theorem dX8_clearPath_12 : decode cX8_clearPath 12 = .ok (.invokevirtual 86, 3) := by decide +kernel
theorem dX8_clearPath_15 : decode cX8_clearPath 15 = .ok (.iload_n 1, 1) := by decide +kernel
theorem dX8_clearPath_16 : decode cX8_clearPath 16 = .ok (.ireturn, 1) := by decide +kernel
theorem dX8_announce_0 : decode cX8_announce 0 = .ok (.aload_n 0, 1) := by decide +kernel
theorem dX8_announce_1 : decode cX8_announce 1 = .ok (.iload_n 1, 1) := by decide +kernel
theorem dX8_announce_2 : decode cX8_announce 2 = .ok (.invokevirtual 89, 3) := by decide +kernel
theorem dX8_announce_5 : decode cX8_announce 5 = .ok (.aload_n 0, 1) := by decide +kernel
theorem dX8_announce_6 : decode cX8_announce 6 = .ok (.iload_n 2, 1) := by decide +kernel
theorem dX8_announce_7 : decode cX8_announce 7 = .ok (.iload_n 3, 1) := by decide +kernel
theorem dX8_announce_8 : decode cX8_announce 8 = .ok (.invokevirtual 92, 3) := by decide +kernel
theorem dX8_announce_11 : decode cX8_announce 11 = .ok (.astore 4, 2) := by decide +kernel
theorem dX8_announce_13 : decode cX8_announce 13 = .ok (.aload_n 0, 1) := by decide +kernel
theorem dX8_announce_14 : decode cX8_announce 14 = .ok (.getfield 12, 3) := by decide +kernel
theorem dX8_announce_17 : decode cX8_announce 17 = .ok (.iconst 0, 1) := by decide +kernel
theorem dX8_announce_18 : decode cX8_announce 18 = .ok (.invokevirtual 96, 3) := by decide +kernel
theorem dX8_announce_21 : decode cX8_announce 21 = .ok (.iload_n 1, 1) := by decide +kernel
theorem dX8_announce_22 : decode cX8_announce 22 = .ok (.invokestatic 100, 3) := by decide +kernel
theorem dX8_announce_25 : decode cX8_announce 25 = .ok (.if_icmp .eq 13, 3) := by decide +kernel
theorem dX8_announce_28 : decode cX8_announce 28 = .ok (.new 56, 3) := by decide +kernel
theorem dX8_announce_31 : decode cX8_announce 31 = .ok (.dup, 1) := by decide +kernel
theorem dX8_announce_32 : decode cX8_announce 32 = .ok (.ldc 103, 2) := by decide +kernel
theorem dX8_announce_34 : decode cX8_announce 34 = .ok (.invokespecial 60, 3) := by decide +kernel
theorem dX8_announce_37 : decode cX8_announce 37 = .ok (.athrow, 1) := by decide +kernel
theorem dX8_announce_38 : decode cX8_announce 38 = .ok (.aload_n 0, 1) := by decide +kernel
theorem dX8_announce_39 : decode cX8_announce 39 = .ok (.invokevirtual 105, 3) := by decide +kernel
theorem dX8_announce_42 : decode cX8_announce 42 = .ok (.aload_n 0, 1) := by decide +kernel
theorem dX8_announce_43 : decode cX8_announce 43 = .ok (.getfield 19, 3) := by decide +kernel
theorem dX8_announce_46 : decode cX8_announce 46 = .ok (.iload_n 1, 1) := by decide +kernel
theorem dX8_announce_47 : decode cX8_announce 47 = .ok (.aload 4, 2) := by decide +kernel
theorem dX8_announce_49 : decode cX8_announce 49 = .ok (.getfield 108, 3) := by decide +kernel
theorem dX8_announce_52 : decode cX8_announce 52 = .ok (.invokevirtual 113, 3) := by decide +kernel
theorem dX8_announce_55 : decode cX8_announce 55 = .ok (.astore 5, 2) := by decide +kernel
theorem dX8_announce_57 : decode cX8_announce 57 = .ok (.aload 5, 2) := by decide +kernel
theorem dX8_announce_59 : decode cX8_announce 59 = .ok (.ifnull 9, 3) := by decide +kernel
theorem dX8_announce_62 : decode cX8_announce 62 = .ok (.aload_n 0, 1) := by decide +kernel
theorem dX8_announce_63 : decode cX8_announce 63 = .ok (.aload 5, 2) := by decide +kernel
theorem dX8_announce_65 : decode cX8_announce 65 = .ok (.invokevirtual 117, 3) := by decide +kernel
theorem dX8_announce_68 : decode cX8_announce 68 = .ok (.new 121, 3) := by decide +kernel
theorem dX8_announce_71 : decode cX8_announce 71 = .ok (.dup, 1) := by decide +kernel
theorem dX8_announce_72 : decode cX8_announce 72 = .ok (.iload_n 1, 1) := by decide +kernel
theorem dX8_announce_73 : decode cX8_announce 73 = .ok (.aload 4, 2) := by decide +kernel
theorem dX8_announce_75 : decode cX8_announce 75 = .ok (.aload_n 0, 1) := by decide +kernel
theorem dX8_announce_76 : decode cX8_announce 76 = .ok (.getfield 12, 3) := by decide +kernel
theorem dX8_announce_79 : decode cX8_announce 79 = .ok (.invokevirtual 123, 3) := by decide +kernel
theorem dX8_announce_82 : decode cX8_announce 82 = .ok (.aload_n 0, 1) := by decide +kernel
theorem dX8_announce_83 : decode cX8_announce 83 = .ok (.getfield 26, 3) := by decide +kernel
theorem dX8_announce_86 : decode cX8_announce 86 = .ok (.invokevirtual 127, 3) := by decide +kernel
theorem dX8_announce_89 : decode cX8_announce 89 = .ok (.invokespecial 128, 3) := by decide +kernel
theorem dX8_announce_92 : decode cX8_announce 92 = .ok (.astore 6, 2) := by decide +kernel
theorem dX8_announce_94 : decode cX8_announce 94 = .ok (.aload_n 0, 1) := by decide +kernel
theorem dX8_announce_95 : decode cX8_announce 95 = .ok (.getfield 19, 3) := by decide +kernel
theorem dX8_announce_98 : decode cX8_announce 98 = .ok (.aload 6, 2) := by decide +kernel
theorem dX8_announce_100 : decode cX8_announce 100 = .ok (.invokevirtual 131, 3) := by decide +kernel
theorem dX8_announce_103 : decode cX8_announce 103 = .ok (.aload_n 0, 1) := by decide +kernel
theorem dX8_announce_104 : decode cX8_announce 104 = .ok (.getfield 26, 3) := by decide +kernel
theorem dX8_announce_107 : decode cX8_announce 107 = .ok (.aload 6, 2) := by decide +kernel
theorem dX8_announce_109 : decode cX8_announce 109 = .ok (.invokevirtual 134, 3) := by decide +kernel
theorem dX8_announce_112 : decode cX8_announce 112 = .ok (.aload_n 0, 1) := by decide +kernel
theorem dX8_announce_113 : decode cX8_announce 113 = .ok (.getfield 26, 3) := by decide +kernel
theorem dX8_announce_116 : decode cX8_announce 116 = .ok (.aload_n 0, 1) := by decide +kernel
theorem dX8_announce_117 : decode cX8_announce 117 = .ok (.getfield 44, 3) := by decide +kernel
theorem dX8_announce_120 : decode cX8_announce 120 = .ok (.invokevirtual 137, 3) := by decide +kernel
theorem dX8_announce_123 : decode cX8_announce 123 = .ok (.aload 5, 2) := by decide +kernel
theorem dX8_announce_125 : decode cX8_announce 125 = .ok (.ifnonnull 7, 3) := by decide +kernel
theorem dX8_announce_128 : decode cX8_announce 128 = .ok (.iconst 1, 1) := by decide +kernel
theorem dX8_announce_129 : decode cX8_announce 129 = .ok (.goto 4, 3) := by decide +kernel
theorem dX8_announce_132 : decode cX8_announce 132 = .ok (.iconst 0, 1) := by decide +kernel
theorem dX8_announce_133 : decode cX8_announce 133 = .ok (.ireturn, 1) := by decide +kernel
theorem dX8_withdraw_0 : decode cX8_withdraw 0 = .ok (.aload_n 0, 1) := by decide +kernel
theorem dX8_withdraw_1 : decode cX8_withdraw 1 = .ok (.iload_n 1, 1) := by decide +kernel
theorem dX8_withdraw_2 : decode cX8_withdraw 2 = .ok (.iload_n 2, 1) := by decide +kernel
theorem dX8_withdraw_3 : decode cX8_withdraw 3 = .ok (.iload_n 3, 1) := by decide +kernel
theorem dX8_withdraw_4 : decode cX8_withdraw 4 = .ok (.invokevirtual 140, 3) := by decide +kernel
theorem dX8_withdraw_7 : decode cX8_withdraw 7 = .ok (.astore 4, 2) := by decide +kernel
theorem dX8_withdraw_9 : decode cX8_withdraw 9 = .ok (.aload_n 0, 1) := by decide +kernel
theorem dX8_withdraw_10 : decode cX8_withdraw 10 = .ok (.invokevirtual 105, 3) := by decide +kernel
theorem dX8_withdraw_13 : decode cX8_withdraw 13 = .ok (.aload_n 0, 1) := by decide +kernel
theorem dX8_withdraw_14 : decode cX8_withdraw 14 = .ok (.aload 4, 2) := by decide +kernel
theorem dX8_withdraw_16 : decode cX8_withdraw 16 = .ok (.invokevirtual 117, 3) := by decide +kernel
theorem dX8_withdraw_19 : decode cX8_withdraw 19 = .ok (.aload_n 0, 1) := by decide +kernel
theorem dX8_withdraw_20 : decode cX8_withdraw 20 = .ok (.getfield 26, 3) := by decide +kernel
theorem dX8_withdraw_23 : decode cX8_withdraw 23 = .ok (.aload_n 0, 1) := by decide +kernel
theorem dX8_withdraw_24 : decode cX8_withdraw 24 = .ok (.getfield 44, 3) := by decide +kernel
theorem dX8_withdraw_27 : decode cX8_withdraw 27 = .ok (.invokevirtual 137, 3) := by decide +kernel
theorem dX8_withdraw_30 : decode cX8_withdraw 30 = .ok (.aload_n 0, 1) := by decide +kernel
theorem dX8_withdraw_31 : decode cX8_withdraw 31 = .ok (.getfield 19, 3) := by decide +kernel
theorem dX8_withdraw_34 : decode cX8_withdraw 34 = .ok (.iload_n 1, 1) := by decide +kernel
theorem dX8_withdraw_35 : decode cX8_withdraw 35 = .ok (.invokevirtual 144, 3) := by decide +kernel
theorem dX8_withdraw_38 : decode cX8_withdraw 38 = .ok (.ireturn, 1) := by decide +kernel
theorem dX8_drop_0 : decode cX8_drop 0 = .ok (.aload_n 0, 1) := by decide +kernel
theorem dX8_drop_1 : decode cX8_drop 1 = .ok (.iload_n 1, 1) := by decide +kernel
theorem dX8_drop_2 : decode cX8_drop 2 = .ok (.invokevirtual 89, 3) := by decide +kernel
theorem dX8_drop_5 : decode cX8_drop 5 = .ok (.aload_n 0, 1) := by decide +kernel
theorem dX8_drop_6 : decode cX8_drop 6 = .ok (.invokevirtual 105, 3) := by decide +kernel
theorem dX8_drop_9 : decode cX8_drop 9 = .ok (.aload_n 0, 1) := by decide +kernel
theorem dX8_drop_10 : decode cX8_drop 10 = .ok (.getfield 19, 3) := by decide +kernel
theorem dX8_drop_13 : decode cX8_drop 13 = .ok (.iload_n 1, 1) := by decide +kernel
theorem dX8_drop_14 : decode cX8_drop 14 = .ok (.invokevirtual 144, 3) := by decide +kernel
theorem dX8_drop_17 : decode cX8_drop 17 = .ok (.istore_n 2, 1) := by decide +kernel
theorem dX8_drop_18 : decode cX8_drop 18 = .ok (.iconst 1, 1) := by decide +kernel
theorem dX8_drop_19 : decode cX8_drop 19 = .ok (.istore_n 3, 1) := by decide +kernel
theorem dX8_drop_20 : decode cX8_drop 20 = .ok (.iload_n 3, 1) := by decide +kernel
theorem dX8_drop_21 : decode cX8_drop 21 = .ok (.sipush 512, 3) := by decide +kernel
theorem dX8_drop_24 : decode cX8_drop 24 = .ok (.if_icmp .ge 31, 3) := by decide +kernel
theorem dX8_drop_27 : decode cX8_drop 27 = .ok (.aload_n 0, 1) := by decide +kernel
theorem dX8_drop_28 : decode cX8_drop 28 = .ok (.getfield 19, 3) := by decide +kernel
theorem dX8_drop_31 : decode cX8_drop 31 = .ok (.iload_n 1, 1) := by decide +kernel
theorem dX8_drop_32 : decode cX8_drop 32 = .ok (.iload_n 3, 1) := by decide +kernel
theorem dX8_drop_33 : decode cX8_drop 33 = .ok (.invokevirtual 113, 3) := by decide +kernel
theorem dX8_drop_36 : decode cX8_drop 36 = .ok (.astore 4, 2) := by decide +kernel
theorem dX8_drop_38 : decode cX8_drop 38 = .ok (.aload 4, 2) := by decide +kernel
theorem dX8_drop_40 : decode cX8_drop 40 = .ok (.ifnull 9, 3) := by decide +kernel
theorem dX8_drop_43 : decode cX8_drop 43 = .ok (.aload_n 0, 1) := by decide +kernel
theorem dX8_drop_44 : decode cX8_drop 44 = .ok (.aload 4, 2) := by decide +kernel
theorem dX8_drop_46 : decode cX8_drop 46 = .ok (.invokevirtual 117, 3) := by decide +kernel
theorem dX8_drop_49 : decode cX8_drop 49 = .ok (.iinc 3 1, 3) := by decide +kernel
theorem dX8_drop_52 : decode cX8_drop 52 = .ok (.goto (-32), 3) := by decide +kernel
theorem dX8_drop_55 : decode cX8_drop 55 = .ok (.aload_n 0, 1) := by decide +kernel
theorem dX8_drop_56 : decode cX8_drop 56 = .ok (.getfield 26, 3) := by decide +kernel
theorem dX8_drop_59 : decode cX8_drop 59 = .ok (.aload_n 0, 1) := by decide +kernel
theorem dX8_drop_60 : decode cX8_drop 60 = .ok (.getfield 44, 3) := by decide +kernel
theorem dX8_drop_63 : decode cX8_drop 63 = .ok (.invokevirtual 137, 3) := by decide +kernel
theorem dX8_drop_66 : decode cX8_drop 66 = .ok (.iload_n 2, 1) := by decide +kernel
theorem dX8_drop_67 : decode cX8_drop 67 = .ok (.ireturn, 1) := by decide +kernel
theorem dX8_updates_0 : decode cX8_updates 0 = .ok (.aload_n 0, 1) := by decide +kernel
theorem dX8_updates_1 : decode cX8_updates 1 = .ok (.getfield 26, 3) := by decide +kernel
theorem dX8_updates_4 : decode cX8_updates 4 = .ok (.invokevirtual 127, 3) := by decide +kernel
theorem dX8_updates_7 : decode cX8_updates 7 = .ok (.ireturn, 1) := by decide +kernel
theorem dX8_routes_0 : decode cX8_routes 0 = .ok (.aload_n 0, 1) := by decide +kernel
theorem dX8_routes_1 : decode cX8_routes 1 = .ok (.iload_n 1, 1) := by decide +kernel
theorem dX8_routes_2 : decode cX8_routes 2 = .ok (.invokevirtual 89, 3) := by decide +kernel
theorem dX8_routes_5 : decode cX8_routes 5 = .ok (.aload_n 0, 1) := by decide +kernel
theorem dX8_routes_6 : decode cX8_routes 6 = .ok (.getfield 19, 3) := by decide +kernel
theorem dX8_routes_9 : decode cX8_routes 9 = .ok (.iload_n 1, 1) := by decide +kernel
theorem dX8_routes_10 : decode cX8_routes 10 = .ok (.invokevirtual 144, 3) := by decide +kernel
theorem dX8_routes_13 : decode cX8_routes 13 = .ok (.ireturn, 1) := by decide +kernel
theorem dX8_prefixes_0 : decode cX8_prefixes 0 = .ok (.aload_n 0, 1) := by decide +kernel
theorem dX8_prefixes_1 : decode cX8_prefixes 1 = .ok (.getfield 19, 3) := by decide +kernel
theorem dX8_prefixes_4 : decode cX8_prefixes 4 = .ok (.invokevirtual 147, 3) := by decide +kernel
theorem dX8_prefixes_7 : decode cX8_prefixes 7 = .ok (.ireturn, 1) := by decide +kernel
theorem dX8_pathAt_0 : decode cX8_pathAt 0 = .ok (.iload 4, 2) := by decide +kernel
theorem dX8_pathAt_2 : decode cX8_pathAt 2 = .ok (.ifCond .ge 13, 3) := by decide +kernel
theorem dX8_pathAt_5 : decode cX8_pathAt 5 = .ok (.new 150, 3) := by decide +kernel
theorem dX8_pathAt_8 : decode cX8_pathAt 8 = .ok (.dup, 1) := by decide +kernel
theorem dX8_pathAt_9 : decode cX8_pathAt 9 = .ok (.ldc 152, 2) := by decide +kernel
theorem dX8_pathAt_11 : decode cX8_pathAt 11 = .ok (.invokespecial 154, 3) := by decide +kernel
theorem dX8_pathAt_14 : decode cX8_pathAt 14 = .ok (.athrow, 1) := by decide +kernel
theorem dX8_pathAt_15 : decode cX8_pathAt 15 = .ok (.aload_n 0, 1) := by decide +kernel
theorem dX8_pathAt_16 : decode cX8_pathAt 16 = .ok (.iload_n 1, 1) := by decide +kernel
theorem dX8_pathAt_17 : decode cX8_pathAt 17 = .ok (.iload_n 2, 1) := by decide +kernel
theorem dX8_pathAt_18 : decode cX8_pathAt 18 = .ok (.iload_n 3, 1) := by decide +kernel
theorem dX8_pathAt_19 : decode cX8_pathAt 19 = .ok (.invokevirtual 140, 3) := by decide +kernel
theorem dX8_pathAt_22 : decode cX8_pathAt 22 = .ok (.getfield 155, 3) := by decide +kernel
theorem dX8_pathAt_25 : decode cX8_pathAt 25 = .ok (.iload 4, 2) := by decide +kernel
theorem dX8_pathAt_27 : decode cX8_pathAt 27 = .ok (.invokevirtual 96, 3) := by decide +kernel
theorem dX8_pathAt_30 : decode cX8_pathAt 30 = .ok (.ireturn, 1) := by decide +kernel
theorem dX8_bestPeer_0 : decode cX8_bestPeer 0 = .ok (.aload_n 0, 1) := by decide +kernel
theorem dX8_bestPeer_1 : decode cX8_bestPeer 1 = .ok (.getfield 19, 3) := by decide +kernel
theorem dX8_bestPeer_4 : decode cX8_bestPeer 4 = .ok (.aload_n 0, 1) := by decide +kernel
theorem dX8_bestPeer_5 : decode cX8_bestPeer 5 = .ok (.iload_n 1, 1) := by decide +kernel
theorem dX8_bestPeer_6 : decode cX8_bestPeer 6 = .ok (.iload_n 2, 1) := by decide +kernel
theorem dX8_bestPeer_7 : decode cX8_bestPeer 7 = .ok (.invokevirtual 92, 3) := by decide +kernel
theorem dX8_bestPeer_10 : decode cX8_bestPeer 10 = .ok (.getfield 108, 3) := by decide +kernel
theorem dX8_bestPeer_13 : decode cX8_bestPeer 13 = .ok (.invokevirtual 158, 3) := by decide +kernel
theorem dX8_bestPeer_16 : decode cX8_bestPeer 16 = .ok (.astore_n 3, 1) := by decide +kernel
theorem dX8_bestPeer_17 : decode cX8_bestPeer 17 = .ok (.aload_n 3, 1) := by decide +kernel
theorem dX8_bestPeer_18 : decode cX8_bestPeer 18 = .ok (.ifnonnull 7, 3) := by decide +kernel
theorem dX8_bestPeer_21 : decode cX8_bestPeer 21 = .ok (.iconst (-1), 1) := by decide +kernel
theorem dX8_bestPeer_22 : decode cX8_bestPeer 22 = .ok (.goto 7, 3) := by decide +kernel
theorem dX8_bestPeer_25 : decode cX8_bestPeer 25 = .ok (.aload_n 3, 1) := by decide +kernel
theorem dX8_bestPeer_26 : decode cX8_bestPeer 26 = .ok (.getfield 162, 3) := by decide +kernel
theorem dX8_bestPeer_29 : decode cX8_bestPeer 29 = .ok (.ireturn, 1) := by decide +kernel
theorem dX8_lookUp_0 : decode cX8_lookUp 0 = .ok (.aload_n 0, 1) := by decide +kernel
theorem dX8_lookUp_1 : decode cX8_lookUp 1 = .ok (.iload_n 1, 1) := by decide +kernel
theorem dX8_lookUp_2 : decode cX8_lookUp 2 = .ok (.invokevirtual 165, 3) := by decide +kernel
theorem dX8_lookUp_5 : decode cX8_lookUp 5 = .ok (.aload_n 0, 1) := by decide +kernel
theorem dX8_lookUp_6 : decode cX8_lookUp 6 = .ok (.getfield 19, 3) := by decide +kernel
theorem dX8_lookUp_9 : decode cX8_lookUp 9 = .ok (.iload_n 1, 1) := by decide +kernel
theorem dX8_lookUp_10 : decode cX8_lookUp 10 = .ok (.invokevirtual 168, 3) := by decide +kernel
theorem dX8_lookUp_13 : decode cX8_lookUp 13 = .ok (.ireturn, 1) := by decide +kernel
theorem dX8_lookUpByScan_0 : decode cX8_lookUpByScan 0 = .ok (.aload_n 0, 1) := by decide +kernel
theorem dX8_lookUpByScan_1 : decode cX8_lookUpByScan 1 = .ok (.iload_n 1, 1) := by decide +kernel
theorem dX8_lookUpByScan_2 : decode cX8_lookUpByScan 2 = .ok (.invokevirtual 165, 3) := by decide +kernel
theorem dX8_lookUpByScan_5 : decode cX8_lookUpByScan 5 = .ok (.aload_n 0, 1) := by decide +kernel
theorem dX8_lookUpByScan_6 : decode cX8_lookUpByScan 6 = .ok (.getfield 26, 3) := by decide +kernel
theorem dX8_lookUpByScan_9 : decode cX8_lookUpByScan 9 = .ok (.iload_n 1, 1) := by decide +kernel
theorem dX8_lookUpByScan_10 : decode cX8_lookUpByScan 10 = .ok (.aload_n 0, 1) := by decide +kernel
theorem dX8_lookUpByScan_11 : decode cX8_lookUpByScan 11 = .ok (.getfield 26, 3) := by decide +kernel
theorem dX8_lookUpByScan_14 : decode cX8_lookUpByScan 14 = .ok (.invokevirtual 127, 3) := by decide +kernel
theorem dX8_lookUpByScan_17 : decode cX8_lookUpByScan 17 = .ok (.invokevirtual 171, 3) := by decide +kernel
theorem dX8_lookUpByScan_20 : decode cX8_lookUpByScan 20 = .ok (.invokestatic 174, 3) := by decide +kernel
theorem dX8_lookUpByScan_23 : decode cX8_lookUpByScan 23 = .ok (.ireturn, 1) := by decide +kernel
theorem dX8_origins_0 : decode cX8_origins 0 = .ok (.aload_n 0, 1) := by decide +kernel
theorem dX8_origins_1 : decode cX8_origins 1 = .ok (.getfield 19, 3) := by decide +kernel
theorem dX8_origins_4 : decode cX8_origins 4 = .ok (.aload_n 0, 1) := by decide +kernel
theorem dX8_origins_5 : decode cX8_origins 5 = .ok (.iload_n 1, 1) := by decide +kernel
theorem dX8_origins_6 : decode cX8_origins 6 = .ok (.iload_n 2, 1) := by decide +kernel
theorem dX8_origins_7 : decode cX8_origins 7 = .ok (.invokevirtual 92, 3) := by decide +kernel
theorem dX8_origins_10 : decode cX8_origins 10 = .ok (.getfield 108, 3) := by decide +kernel
theorem dX8_origins_13 : decode cX8_origins 13 = .ok (.invokevirtual 178, 3) := by decide +kernel
theorem dX8_origins_16 : decode cX8_origins 16 = .ok (.ireturn, 1) := by decide +kernel
theorem dX8_contested_0 : decode cX8_contested 0 = .ok (.iconst 0, 1) := by decide +kernel
theorem dX8_contested_1 : decode cX8_contested 1 = .ok (.istore_n 1, 1) := by decide +kernel
theorem dX8_contested_2 : decode cX8_contested 2 = .ok (.iconst 1, 1) := by decide +kernel
theorem dX8_contested_3 : decode cX8_contested 3 = .ok (.istore_n 2, 1) := by decide +kernel
theorem dX8_contested_4 : decode cX8_contested 4 = .ok (.iload_n 2, 1) := by decide +kernel
theorem dX8_contested_5 : decode cX8_contested 5 = .ok (.sipush 512, 3) := by decide +kernel
theorem dX8_contested_8 : decode cX8_contested 8 = .ok (.if_icmp .ge 24, 3) := by decide +kernel
theorem dX8_contested_11 : decode cX8_contested 11 = .ok (.aload_n 0, 1) := by decide +kernel
theorem dX8_contested_12 : decode cX8_contested 12 = .ok (.getfield 19, 3) := by decide +kernel
theorem dX8_contested_15 : decode cX8_contested 15 = .ok (.iload_n 2, 1) := by decide +kernel
theorem dX8_contested_16 : decode cX8_contested 16 = .ok (.invokevirtual 178, 3) := by decide +kernel
theorem dX8_contested_19 : decode cX8_contested 19 = .ok (.iconst 1, 1) := by decide +kernel
theorem dX8_contested_20 : decode cX8_contested 20 = .ok (.if_icmp .le 6, 3) := by decide +kernel
theorem dX8_contested_23 : decode cX8_contested 23 = .ok (.iinc 1 1, 3) := by decide +kernel
theorem dX8_contested_26 : decode cX8_contested 26 = .ok (.iinc 2 1, 3) := by decide +kernel
theorem dX8_contested_29 : decode cX8_contested 29 = .ok (.goto (-25), 3) := by decide +kernel
theorem dX8_contested_32 : decode cX8_contested 32 = .ok (.iload_n 1, 1) := by decide +kernel
theorem dX8_contested_33 : decode cX8_contested 33 = .ok (.ireturn, 1) := by decide +kernel
theorem dX8_isHijack_0 : decode cX8_isHijack 0 = .ok (.aload_n 0, 1) := by decide +kernel
theorem dX8_isHijack_1 : decode cX8_isHijack 1 = .ok (.iload_n 1, 1) := by decide +kernel
theorem dX8_isHijack_2 : decode cX8_isHijack 2 = .ok (.iload_n 2, 1) := by decide +kernel
theorem dX8_isHijack_3 : decode cX8_isHijack 3 = .ok (.iload_n 3, 1) := by decide +kernel
theorem dX8_isHijack_4 : decode cX8_isHijack 4 = .ok (.invokevirtual 140, 3) := by decide +kernel
theorem dX8_isHijack_7 : decode cX8_isHijack 7 = .ok (.astore 4, 2) := by decide +kernel
theorem dX8_isHijack_9 : decode cX8_isHijack 9 = .ok (.aload_n 0, 1) := by decide +kernel
theorem dX8_isHijack_10 : decode cX8_isHijack 10 = .ok (.getfield 19, 3) := by decide +kernel
theorem dX8_isHijack_13 : decode cX8_isHijack 13 = .ok (.aload 4, 2) := by decide +kernel
theorem dX8_isHijack_15 : decode cX8_isHijack 15 = .ok (.getfield 181, 3) := by decide +kernel
theorem dX8_isHijack_18 : decode cX8_isHijack 18 = .ok (.getfield 108, 3) := by decide +kernel
theorem dX8_isHijack_21 : decode cX8_isHijack 21 = .ok (.invokevirtual 185, 3) := by decide +kernel
theorem dX8_isHijack_24 : decode cX8_isHijack 24 = .ok (.istore 5, 2) := by decide +kernel
theorem dX8_isHijack_26 : decode cX8_isHijack 26 = .ok (.iload 5, 2) := by decide +kernel
theorem dX8_isHijack_28 : decode cX8_isHijack 28 = .ok (.iconst (-1), 1) := by decide +kernel
theorem dX8_isHijack_29 : decode cX8_isHijack 29 = .ok (.if_icmp .eq 27, 3) := by decide +kernel
theorem dX8_isHijack_32 : decode cX8_isHijack 32 = .ok (.aload_n 0, 1) := by decide +kernel
theorem dX8_isHijack_33 : decode cX8_isHijack 33 = .ok (.getfield 19, 3) := by decide +kernel
theorem dX8_isHijack_36 : decode cX8_isHijack 36 = .ok (.iload 5, 2) := by decide +kernel
theorem dX8_isHijack_38 : decode cX8_isHijack 38 = .ok (.aload 4, 2) := by decide +kernel
theorem dX8_isHijack_40 : decode cX8_isHijack 40 = .ok (.getfield 155, 3) := by decide +kernel
theorem dX8_isHijack_43 : decode cX8_isHijack 43 = .ok (.invokevirtual 188, 3) := by decide +kernel
theorem dX8_isHijack_46 : decode cX8_isHijack 46 = .ok (.invokevirtual 191, 3) := by decide +kernel
theorem dX8_isHijack_49 : decode cX8_isHijack 49 = .ok (.ifCond .ne 7, 3) := by decide +kernel
theorem dX8_isHijack_52 : decode cX8_isHijack 52 = .ok (.iconst 1, 1) := by decide +kernel
theorem dX8_isHijack_53 : decode cX8_isHijack 53 = .ok (.goto 4, 3) := by decide +kernel
theorem dX8_isHijack_56 : decode cX8_isHijack 56 = .ok (.iconst 0, 1) := by decide +kernel
theorem dX8_isHijack_57 : decode cX8_isHijack 57 = .ok (.ireturn, 1) := by decide +kernel
theorem dX8_allow_0 : decode cX8_allow 0 = .ok (.aload_n 0, 1) := by decide +kernel
theorem dX8_allow_1 : decode cX8_allow 1 = .ok (.iload_n 1, 1) := by decide +kernel
theorem dX8_allow_2 : decode cX8_allow 2 = .ok (.iload_n 2, 1) := by decide +kernel
theorem dX8_allow_3 : decode cX8_allow 3 = .ok (.invokevirtual 92, 3) := by decide +kernel
theorem dX8_allow_6 : decode cX8_allow 6 = .ok (.astore 5, 2) := by decide +kernel
theorem dX8_allow_8 : decode cX8_allow 8 = .ok (.iload 4, 2) := by decide +kernel
theorem dX8_allow_10 : decode cX8_allow 10 = .ok (.invokestatic 61, 3) := by decide +kernel
theorem dX8_allow_13 : decode cX8_allow 13 = .ok (.ifCond .ne 13, 3) := by decide +kernel
theorem dX8_allow_16 : decode cX8_allow 16 = .ok (.new 48, 3) := by decide +kernel
theorem dX8_allow_19 : decode cX8_allow 19 = .ok (.dup, 1) := by decide +kernel
theorem dX8_allow_20 : decode cX8_allow 20 = .ok (.ldc 65, 2) := by decide +kernel
theorem dX8_allow_22 : decode cX8_allow 22 = .ok (.invokespecial 52, 3) := by decide +kernel
theorem dX8_allow_25 : decode cX8_allow 25 = .ok (.athrow, 1) := by decide +kernel
theorem dX8_allow_26 : decode cX8_allow 26 = .ok (.iload_n 3, 1) := by decide +kernel
theorem dX8_allow_27 : decode cX8_allow 27 = .ok (.iload_n 2, 1) := by decide +kernel
theorem dX8_allow_28 : decode cX8_allow 28 = .ok (.if_icmp .lt 9, 3) := by decide +kernel
theorem dX8_allow_31 : decode cX8_allow 31 = .ok (.iload_n 3, 1) := by decide +kernel
theorem dX8_allow_32 : decode cX8_allow 32 = .ok (.bipush 8, 2) := by decide +kernel
theorem dX8_allow_34 : decode cX8_allow 34 = .ok (.if_icmp .le 13, 3) := by decide +kernel
theorem dX8_allow_37 : decode cX8_allow 37 = .ok (.new 48, 3) := by decide +kernel
theorem dX8_allow_40 : decode cX8_allow 40 = .ok (.dup, 1) := by decide +kernel
theorem dX8_allow_41 : decode cX8_allow 41 = .ok (.ldc 195, 2) := by decide +kernel
theorem dX8_allow_43 : decode cX8_allow 43 = .ok (.invokespecial 52, 3) := by decide +kernel
theorem dX8_allow_46 : decode cX8_allow 46 = .ok (.athrow, 1) := by decide +kernel
theorem dX8_allow_47 : decode cX8_allow 47 = .ok (.new 197, 3) := by decide +kernel
theorem dX8_allow_50 : decode cX8_allow 50 = .ok (.dup, 1) := by decide +kernel
theorem dX8_allow_51 : decode cX8_allow 51 = .ok (.aload 5, 2) := by decide +kernel
theorem dX8_allow_53 : decode cX8_allow 53 = .ok (.iload_n 3, 1) := by decide +kernel
theorem dX8_allow_54 : decode cX8_allow 54 = .ok (.iload 4, 2) := by decide +kernel
theorem dX8_allow_56 : decode cX8_allow 56 = .ok (.invokespecial 199, 3) := by decide +kernel
theorem dX8_allow_59 : decode cX8_allow 59 = .ok (.astore 6, 2) := by decide +kernel
theorem dX8_allow_61 : decode cX8_allow 61 = .ok (.aload_n 0, 1) := by decide +kernel
theorem dX8_allow_62 : decode cX8_allow 62 = .ok (.getfield 33, 3) := by decide +kernel
theorem dX8_allow_65 : decode cX8_allow 65 = .ok (.aload 6, 2) := by decide +kernel
theorem dX8_allow_67 : decode cX8_allow 67 = .ok (.invokevirtual 202, 3) := by decide +kernel
theorem dX8_allow_70 : decode cX8_allow 70 = .ok (.istore 7, 2) := by decide +kernel
theorem dX8_allow_72 : decode cX8_allow 72 = .ok (.iload 7, 2) := by decide +kernel
theorem dX8_allow_74 : decode cX8_allow 74 = .ok (.iconst (-1), 1) := by decide +kernel
theorem dX8_allow_75 : decode cX8_allow 75 = .ok (.if_icmp .eq 14, 3) := by decide +kernel
theorem dX8_allow_78 : decode cX8_allow 78 = .ok (.aload_n 0, 1) := by decide +kernel
theorem dX8_allow_79 : decode cX8_allow 79 = .ok (.getfield 33, 3) := by decide +kernel
theorem dX8_allow_82 : decode cX8_allow 82 = .ok (.iload 7, 2) := by decide +kernel
theorem dX8_allow_84 : decode cX8_allow 84 = .ok (.invokevirtual 206, 3) := by decide +kernel
theorem dX8_allow_87 : decode cX8_allow 87 = .ok (.iconst 0, 1) := by decide +kernel
theorem dX8_allow_88 : decode cX8_allow 88 = .ok (.ireturn, 1) := by decide +kernel
theorem dX8_allow_89 : decode cX8_allow 89 = .ok (.aload_n 0, 1) := by decide +kernel
theorem dX8_allow_90 : decode cX8_allow 90 = .ok (.getfield 33, 3) := by decide +kernel
theorem dX8_allow_93 : decode cX8_allow 93 = .ok (.invokevirtual 209, 3) := by decide +kernel
theorem dX8_allow_96 : decode cX8_allow 96 = .ok (.ifCond .eq 13, 3) := by decide +kernel
theorem dX8_allow_99 : decode cX8_allow 99 = .ok (.new 56, 3) := by decide +kernel
theorem dX8_allow_102 : decode cX8_allow 102 = .ok (.dup, 1) := by decide +kernel
theorem dX8_allow_103 : decode cX8_allow 103 = .ok (.ldc 210, 2) := by decide +kernel
theorem dX8_allow_105 : decode cX8_allow 105 = .ok (.invokespecial 60, 3) := by decide +kernel
theorem dX8_allow_108 : decode cX8_allow 108 = .ok (.athrow, 1) := by decide +kernel
theorem dX8_allow_109 : decode cX8_allow 109 = .ok (.aload_n 0, 1) := by decide +kernel
theorem dX8_allow_110 : decode cX8_allow 110 = .ok (.getfield 33, 3) := by decide +kernel
theorem dX8_allow_113 : decode cX8_allow 113 = .ok (.aload 6, 2) := by decide +kernel
theorem dX8_allow_115 : decode cX8_allow 115 = .ok (.invokevirtual 212, 3) := by decide +kernel
theorem dX8_allow_118 : decode cX8_allow 118 = .ok (.iconst 1, 1) := by decide +kernel
theorem dX8_allow_119 : decode cX8_allow 119 = .ok (.ireturn, 1) := by decide +kernel
theorem dX8_verdict_0 : decode cX8_verdict 0 = .ok (.aload_n 0, 1) := by decide +kernel
theorem dX8_verdict_1 : decode cX8_verdict 1 = .ok (.getfield 33, 3) := by decide +kernel
theorem dX8_verdict_4 : decode cX8_verdict 4 = .ok (.aload_n 0, 1) := by decide +kernel
theorem dX8_verdict_5 : decode cX8_verdict 5 = .ok (.iload_n 1, 1) := by decide +kernel
theorem dX8_verdict_6 : decode cX8_verdict 6 = .ok (.iload_n 2, 1) := by decide +kernel
theorem dX8_verdict_7 : decode cX8_verdict 7 = .ok (.iload_n 3, 1) := by decide +kernel
theorem dX8_verdict_8 : decode cX8_verdict 8 = .ok (.invokevirtual 140, 3) := by decide +kernel
theorem dX8_verdict_11 : decode cX8_verdict 11 = .ok (.invokevirtual 215, 3) := by decide +kernel
theorem dX8_verdict_14 : decode cX8_verdict 14 = .ok (.ireturn, 1) := by decide +kernel
theorem dX8_relate_0 : decode cX8_relate 0 = .ok (.iload_n 1, 1) := by decide +kernel
theorem dX8_relate_1 : decode cX8_relate 1 = .ok (.invokestatic 61, 3) := by decide +kernel
theorem dX8_relate_4 : decode cX8_relate 4 = .ok (.ifCond .eq 15, 3) := by decide +kernel
theorem dX8_relate_7 : decode cX8_relate 7 = .ok (.iload_n 2, 1) := by decide +kernel
theorem dX8_relate_8 : decode cX8_relate 8 = .ok (.invokestatic 61, 3) := by decide +kernel
theorem dX8_relate_11 : decode cX8_relate 11 = .ok (.ifCond .eq 8, 3) := by decide +kernel
theorem dX8_relate_14 : decode cX8_relate 14 = .ok (.iload_n 1, 1) := by decide +kernel
theorem dX8_relate_15 : decode cX8_relate 15 = .ok (.iload_n 2, 1) := by decide +kernel
theorem dX8_relate_16 : decode cX8_relate 16 = .ok (.if_icmp .ne 13, 3) := by decide +kernel
theorem dX8_relate_19 : decode cX8_relate 19 = .ok (.new 48, 3) := by decide +kernel
theorem dX8_relate_22 : decode cX8_relate 22 = .ok (.dup, 1) := by decide +kernel
theorem dX8_relate_23 : decode cX8_relate 23 = .ok (.ldc 218, 2) := by decide +kernel
theorem dX8_relate_25 : decode cX8_relate 25 = .ok (.invokespecial 52, 3) := by decide +kernel
theorem dX8_relate_28 : decode cX8_relate 28 = .ok (.athrow, 1) := by decide +kernel
theorem dX8_relate_29 : decode cX8_relate 29 = .ok (.iload_n 3, 1) := by decide +kernel
theorem dX8_relate_30 : decode cX8_relate 30 = .ok (.ifCond .lt 8, 3) := by decide +kernel
theorem dX8_relate_33 : decode cX8_relate 33 = .ok (.iload_n 3, 1) := by decide +kernel
theorem dX8_relate_34 : decode cX8_relate 34 = .ok (.iconst 3, 1) := by decide +kernel
theorem dX8_relate_35 : decode cX8_relate 35 = .ok (.if_icmp .le 13, 3) := by decide +kernel
theorem dX8_relate_38 : decode cX8_relate 38 = .ok (.new 48, 3) := by decide +kernel
theorem dX8_relate_41 : decode cX8_relate 41 = .ok (.dup, 1) := by decide +kernel
theorem dX8_relate_42 : decode cX8_relate 42 = .ok (.ldc 220, 2) := by decide +kernel
theorem dX8_relate_44 : decode cX8_relate 44 = .ok (.invokespecial 52, 3) := by decide +kernel
theorem dX8_relate_47 : decode cX8_relate 47 = .ok (.athrow, 1) := by decide +kernel
theorem dX8_relate_48 : decode cX8_relate 48 = .ok (.aload_n 0, 1) := by decide +kernel
theorem dX8_relate_49 : decode cX8_relate 49 = .ok (.getfield 40, 3) := by decide +kernel
theorem dX8_relate_52 : decode cX8_relate 52 = .ok (.iload_n 1, 1) := by decide +kernel
theorem dX8_relate_53 : decode cX8_relate 53 = .ok (.iload_n 2, 1) := by decide +kernel
theorem dX8_relate_54 : decode cX8_relate 54 = .ok (.invokevirtual 222, 3) := by decide +kernel
theorem dX8_relate_57 : decode cX8_relate 57 = .ok (.istore 4, 2) := by decide +kernel
theorem dX8_relate_59 : decode cX8_relate 59 = .ok (.aload_n 0, 1) := by decide +kernel
theorem dX8_relate_60 : decode cX8_relate 60 = .ok (.getfield 40, 3) := by decide +kernel
theorem dX8_relate_63 : decode cX8_relate 63 = .ok (.iload_n 1, 1) := by decide +kernel
theorem dX8_relate_64 : decode cX8_relate 64 = .ok (.iload_n 2, 1) := by decide +kernel
theorem dX8_relate_65 : decode cX8_relate 65 = .ok (.iload_n 3, 1) := by decide +kernel
theorem dX8_relate_66 : decode cX8_relate 66 = .ok (.invokevirtual 226, 3) := by decide +kernel
theorem dX8_relate_69 : decode cX8_relate 69 = .ok (.aload_n 0, 1) := by decide +kernel
theorem dX8_relate_70 : decode cX8_relate 70 = .ok (.getfield 40, 3) := by decide +kernel
theorem dX8_relate_73 : decode cX8_relate 73 = .ok (.iload_n 2, 1) := by decide +kernel
theorem dX8_relate_74 : decode cX8_relate 74 = .ok (.iload_n 1, 1) := by decide +kernel
theorem dX8_relate_75 : decode cX8_relate 75 = .ok (.iload_n 3, 1) := by decide +kernel
theorem dX8_relate_76 : decode cX8_relate 76 = .ok (.invokestatic 229, 3) := by decide +kernel
theorem dX8_relate_79 : decode cX8_relate 79 = .ok (.invokevirtual 226, 3) := by decide +kernel
theorem dX8_relate_82 : decode cX8_relate 82 = .ok (.iload 4, 2) := by decide +kernel
theorem dX8_relate_84 : decode cX8_relate 84 = .ok (.ireturn, 1) := by decide +kernel
theorem dX8_valley_0 : decode cX8_valley 0 = .ok (.aload_n 0, 1) := by decide +kernel
theorem dX8_valley_1 : decode cX8_valley 1 = .ok (.getfield 40, 3) := by decide +kernel
theorem dX8_valley_4 : decode cX8_valley 4 = .ok (.aload_n 0, 1) := by decide +kernel
theorem dX8_valley_5 : decode cX8_valley 5 = .ok (.iload_n 1, 1) := by decide +kernel
theorem dX8_valley_6 : decode cX8_valley 6 = .ok (.iload_n 2, 1) := by decide +kernel
theorem dX8_valley_7 : decode cX8_valley 7 = .ok (.iload_n 3, 1) := by decide +kernel
theorem dX8_valley_8 : decode cX8_valley 8 = .ok (.invokevirtual 140, 3) := by decide +kernel
theorem dX8_valley_11 : decode cX8_valley 11 = .ok (.getfield 155, 3) := by decide +kernel
theorem dX8_valley_14 : decode cX8_valley 14 = .ok (.invokevirtual 232, 3) := by decide +kernel
theorem dX8_valley_17 : decode cX8_valley 17 = .ok (.ireturn, 1) := by decide +kernel
theorem dX8_lookUpAt_0 : decode cX8_lookUpAt 0 = .ok (.aload_n 0, 1) := by decide +kernel
theorem dX8_lookUpAt_1 : decode cX8_lookUpAt 1 = .ok (.iload_n 2, 1) := by decide +kernel
theorem dX8_lookUpAt_2 : decode cX8_lookUpAt 2 = .ok (.invokevirtual 165, 3) := by decide +kernel
theorem dX8_lookUpAt_5 : decode cX8_lookUpAt 5 = .ok (.aload_n 0, 1) := by decide +kernel
theorem dX8_lookUpAt_6 : decode cX8_lookUpAt 6 = .ok (.getfield 26, 3) := by decide +kernel
theorem dX8_lookUpAt_9 : decode cX8_lookUpAt 9 = .ok (.iload_n 2, 1) := by decide +kernel
theorem dX8_lookUpAt_10 : decode cX8_lookUpAt 10 = .ok (.aload_n 0, 1) := by decide +kernel
theorem dX8_lookUpAt_11 : decode cX8_lookUpAt 11 = .ok (.getfield 26, 3) := by decide +kernel
theorem dX8_lookUpAt_14 : decode cX8_lookUpAt 14 = .ok (.iload_n 1, 1) := by decide +kernel
theorem dX8_lookUpAt_15 : decode cX8_lookUpAt 15 = .ok (.invokevirtual 236, 3) := by decide +kernel
theorem dX8_lookUpAt_18 : decode cX8_lookUpAt 18 = .ok (.invokevirtual 171, 3) := by decide +kernel
theorem dX8_lookUpAt_21 : decode cX8_lookUpAt 21 = .ok (.invokestatic 174, 3) := by decide +kernel
theorem dX8_lookUpAt_24 : decode cX8_lookUpAt 24 = .ok (.ireturn, 1) := by decide +kernel
theorem dX8_originAt_0 : decode cX8_originAt 0 = .ok (.aload_n 0, 1) := by decide +kernel
theorem dX8_originAt_1 : decode cX8_originAt 1 = .ok (.iload_n 2, 1) := by decide +kernel
theorem dX8_originAt_2 : decode cX8_originAt 2 = .ok (.invokevirtual 165, 3) := by decide +kernel
theorem dX8_originAt_5 : decode cX8_originAt 5 = .ok (.aload_n 0, 1) := by decide +kernel
theorem dX8_originAt_6 : decode cX8_originAt 6 = .ok (.getfield 26, 3) := by decide +kernel
theorem dX8_originAt_9 : decode cX8_originAt 9 = .ok (.iload_n 2, 1) := by decide +kernel
theorem dX8_originAt_10 : decode cX8_originAt 10 = .ok (.aload_n 0, 1) := by decide +kernel
theorem dX8_originAt_11 : decode cX8_originAt 11 = .ok (.getfield 26, 3) := by decide +kernel
theorem dX8_originAt_14 : decode cX8_originAt 14 = .ok (.iload_n 1, 1) := by decide +kernel
theorem dX8_originAt_15 : decode cX8_originAt 15 = .ok (.invokevirtual 236, 3) := by decide +kernel
theorem dX8_originAt_18 : decode cX8_originAt 18 = .ok (.invokevirtual 171, 3) := by decide +kernel
theorem dX8_originAt_21 : decode cX8_originAt 21 = .ok (.astore_n 3, 1) := by decide +kernel
theorem dX8_originAt_22 : decode cX8_originAt 22 = .ok (.aload_n 3, 1) := by decide +kernel
theorem dX8_originAt_23 : decode cX8_originAt 23 = .ok (.ifnonnull 7, 3) := by decide +kernel
theorem dX8_originAt_26 : decode cX8_originAt 26 = .ok (.iconst (-1), 1) := by decide +kernel
theorem dX8_originAt_27 : decode cX8_originAt 27 = .ok (.goto 10, 3) := by decide +kernel
theorem dX8_originAt_30 : decode cX8_originAt 30 = .ok (.aload_n 3, 1) := by decide +kernel
theorem dX8_originAt_31 : decode cX8_originAt 31 = .ok (.getfield 155, 3) := by decide +kernel
theorem dX8_originAt_34 : decode cX8_originAt 34 = .ok (.invokevirtual 188, 3) := by decide +kernel
theorem dX8_originAt_37 : decode cX8_originAt 37 = .ok (.ireturn, 1) := by decide +kernel
theorem dX8_changes_0 : decode cX8_changes 0 = .ok (.aload_n 0, 1) := by decide +kernel
theorem dX8_changes_1 : decode cX8_changes 1 = .ok (.getfield 26, 3) := by decide +kernel
theorem dX8_changes_4 : decode cX8_changes 4 = .ok (.aload_n 0, 1) := by decide +kernel
theorem dX8_changes_5 : decode cX8_changes 5 = .ok (.getfield 26, 3) := by decide +kernel
theorem dX8_changes_8 : decode cX8_changes 8 = .ok (.iload_n 1, 1) := by decide +kernel
theorem dX8_changes_9 : decode cX8_changes 9 = .ok (.invokevirtual 236, 3) := by decide +kernel
theorem dX8_changes_12 : decode cX8_changes 12 = .ok (.aload_n 0, 1) := by decide +kernel
theorem dX8_changes_13 : decode cX8_changes 13 = .ok (.getfield 26, 3) := by decide +kernel
theorem dX8_changes_16 : decode cX8_changes 16 = .ok (.iload_n 2, 1) := by decide +kernel
theorem dX8_changes_17 : decode cX8_changes 17 = .ok (.invokevirtual 236, 3) := by decide +kernel
theorem dX8_changes_20 : decode cX8_changes 20 = .ok (.invokevirtual 239, 3) := by decide +kernel
theorem dX8_changes_23 : decode cX8_changes 23 = .ok (.ireturn, 1) := by decide +kernel
theorem dX8_needPeer_0 : decode cX8_needPeer 0 = .ok (.iload_n 1, 1) := by decide +kernel
theorem dX8_needPeer_1 : decode cX8_needPeer 1 = .ok (.invokestatic 242, 3) := by decide +kernel
theorem dX8_needPeer_4 : decode cX8_needPeer 4 = .ok (.ifCond .ne 13, 3) := by decide +kernel
theorem dX8_needPeer_7 : decode cX8_needPeer 7 = .ok (.new 150, 3) := by decide +kernel
theorem dX8_needPeer_10 : decode cX8_needPeer 10 = .ok (.dup, 1) := by decide +kernel
theorem dX8_needPeer_11 : decode cX8_needPeer 11 = .ok (.ldc 245, 2) := by decide +kernel
theorem dX8_needPeer_13 : decode cX8_needPeer 13 = .ok (.invokespecial 154, 3) := by decide +kernel
theorem dX8_needPeer_16 : decode cX8_needPeer 16 = .ok (.athrow, 1) := by decide +kernel
theorem dX8_needPeer_17 : decode cX8_needPeer 17 = .ok (.return_, 1) := by decide +kernel
theorem dX8_needAddress_0 : decode cX8_needAddress 0 = .ok (.iload_n 1, 1) := by decide +kernel
theorem dX8_needAddress_1 : decode cX8_needAddress 1 = .ok (.invokestatic 247, 3) := by decide +kernel
theorem dX8_needAddress_4 : decode cX8_needAddress 4 = .ok (.ifCond .ne 13, 3) := by decide +kernel
theorem dX8_needAddress_7 : decode cX8_needAddress 7 = .ok (.new 150, 3) := by decide +kernel
theorem dX8_needAddress_10 : decode cX8_needAddress 10 = .ok (.dup, 1) := by decide +kernel
theorem dX8_needAddress_11 : decode cX8_needAddress 11 = .ok (.ldc 250, 2) := by decide +kernel
theorem dX8_needAddress_13 : decode cX8_needAddress 13 = .ok (.invokespecial 154, 3) := by decide +kernel
theorem dX8_needAddress_16 : decode cX8_needAddress 16 = .ok (.athrow, 1) := by decide +kernel
theorem dX8_needAddress_17 : decode cX8_needAddress 17 = .ok (.return_, 1) := by decide +kernel
theorem dX8_needPrefix_0 : decode cX8_needPrefix 0 = .ok (.iload_n 1, 1) := by decide +kernel
theorem dX8_needPrefix_1 : decode cX8_needPrefix 1 = .ok (.iload_n 2, 1) := by decide +kernel
theorem dX8_needPrefix_2 : decode cX8_needPrefix 2 = .ok (.invokestatic 252, 3) := by decide +kernel
theorem dX8_needPrefix_5 : decode cX8_needPrefix 5 = .ok (.ifCond .ne 13, 3) := by decide +kernel
theorem dX8_needPrefix_8 : decode cX8_needPrefix 8 = .ok (.new 48, 3) := by decide +kernel
theorem dX8_needPrefix_11 : decode cX8_needPrefix 11 = .ok (.dup, 1) := by decide +kernel
theorem dX8_needPrefix_12 : decode cX8_needPrefix 12 = .ok (.ldc 255, 2) := by decide +kernel
theorem dX8_needPrefix_14 : decode cX8_needPrefix 14 = .ok (.invokespecial 52, 3) := by decide +kernel
theorem dX8_needPrefix_17 : decode cX8_needPrefix 17 = .ok (.athrow, 1) := by decide +kernel
theorem dX8_needPrefix_18 : decode cX8_needPrefix 18 = .ok (.new 109, 3) := by decide +kernel
theorem dX8_needPrefix_21 : decode cX8_needPrefix 21 = .ok (.dup, 1) := by decide +kernel
theorem dX8_needPrefix_22 : decode cX8_needPrefix 22 = .ok (.iload_n 1, 1) := by decide +kernel
theorem dX8_needPrefix_23 : decode cX8_needPrefix 23 = .ok (.iload_n 2, 1) := by decide +kernel
theorem dX8_needPrefix_24 : decode cX8_needPrefix 24 = .ok (.invokespecial 257, 3) := by decide +kernel
theorem dX8_needPrefix_27 : decode cX8_needPrefix 27 = .ok (.areturn, 1) := by decide +kernel
theorem dX8_needRoute_0 : decode cX8_needRoute 0 = .ok (.aload_n 0, 1) := by decide +kernel
theorem dX8_needRoute_1 : decode cX8_needRoute 1 = .ok (.iload_n 1, 1) := by decide +kernel
theorem dX8_needRoute_2 : decode cX8_needRoute 2 = .ok (.invokevirtual 89, 3) := by decide +kernel
theorem dX8_needRoute_5 : decode cX8_needRoute 5 = .ok (.aload_n 0, 1) := by decide +kernel
theorem dX8_needRoute_6 : decode cX8_needRoute 6 = .ok (.getfield 19, 3) := by decide +kernel
theorem dX8_needRoute_9 : decode cX8_needRoute 9 = .ok (.iload_n 1, 1) := by decide +kernel
theorem dX8_needRoute_10 : decode cX8_needRoute 10 = .ok (.aload_n 0, 1) := by decide +kernel
theorem dX8_needRoute_11 : decode cX8_needRoute 11 = .ok (.iload_n 2, 1) := by decide +kernel
theorem dX8_needRoute_12 : decode cX8_needRoute 12 = .ok (.iload_n 3, 1) := by decide +kernel
theorem dX8_needRoute_13 : decode cX8_needRoute 13 = .ok (.invokevirtual 92, 3) := by decide +kernel
theorem dX8_needRoute_16 : decode cX8_needRoute 16 = .ok (.getfield 108, 3) := by decide +kernel
theorem dX8_needRoute_19 : decode cX8_needRoute 19 = .ok (.invokevirtual 113, 3) := by decide +kernel
theorem dX8_needRoute_22 : decode cX8_needRoute 22 = .ok (.astore 4, 2) := by decide +kernel
theorem dX8_needRoute_24 : decode cX8_needRoute 24 = .ok (.aload 4, 2) := by decide +kernel
theorem dX8_needRoute_26 : decode cX8_needRoute 26 = .ok (.ifnonnull 14, 3) := by decide +kernel
theorem dX8_needRoute_29 : decode cX8_needRoute 29 = .ok (.new 260, 3) := by decide +kernel
theorem dX8_needRoute_32 : decode cX8_needRoute 32 = .ok (.dup, 1) := by decide +kernel
theorem dX8_needRoute_33 : decode cX8_needRoute 33 = .ok (.ldc_w 262, 3) := by decide +kernel
theorem dX8_needRoute_36 : decode cX8_needRoute 36 = .ok (.invokespecial 264, 3) := by decide +kernel
theorem dX8_needRoute_39 : decode cX8_needRoute 39 = .ok (.athrow, 1) := by decide +kernel
theorem dX8_needRoute_40 : decode cX8_needRoute 40 = .ok (.aload 4, 2) := by decide +kernel
theorem dX8_needRoute_42 : decode cX8_needRoute 42 = .ok (.areturn, 1) := by decide +kernel
theorem dX8_needRoomForUpdate_0 : decode cX8_needRoomForUpdate 0 = .ok (.aload_n 0, 1) := by decide +kernel
theorem dX8_needRoomForUpdate_1 : decode cX8_needRoomForUpdate 1 = .ok (.getfield 26, 3) := by decide +kernel
theorem dX8_needRoomForUpdate_4 : decode cX8_needRoomForUpdate 4 = .ok (.invokevirtual 265, 3) := by decide +kernel
theorem dX8_needRoomForUpdate_7 : decode cX8_needRoomForUpdate 7 = .ok (.ifCond .eq 14, 3) := by decide +kernel
theorem dX8_needRoomForUpdate_10 : decode cX8_needRoomForUpdate 10 = .ok (.new 56, 3) := by decide +kernel
theorem dX8_needRoomForUpdate_13 : decode cX8_needRoomForUpdate 13 = .ok (.dup, 1) := by decide +kernel
theorem dX8_needRoomForUpdate_14 : decode cX8_needRoomForUpdate 14 = .ok (.ldc_w 266, 3) := by decide +kernel
theorem dX8_needRoomForUpdate_17 : decode cX8_needRoomForUpdate 17 = .ok (.invokespecial 60, 3) := by decide +kernel
theorem dX8_needRoomForUpdate_20 : decode cX8_needRoomForUpdate 20 = .ok (.athrow, 1) := by decide +kernel
theorem dX8_needRoomForUpdate_21 : decode cX8_needRoomForUpdate 21 = .ok (.return_, 1) := by decide +kernel
theorem dX8_endRoute_0 : decode cX8_endRoute 0 = .ok (.aload_n 1, 1) := by decide +kernel
theorem dX8_endRoute_1 : decode cX8_endRoute 1 = .ok (.aload_n 0, 1) := by decide +kernel
theorem dX8_endRoute_2 : decode cX8_endRoute 2 = .ok (.getfield 26, 3) := by decide +kernel
theorem dX8_endRoute_5 : decode cX8_endRoute 5 = .ok (.invokevirtual 127, 3) := by decide +kernel
theorem dX8_endRoute_8 : decode cX8_endRoute 8 = .ok (.putfield 268, 3) := by decide +kernel
theorem dX8_endRoute_11 : decode cX8_endRoute 11 = .ok (.aload_n 0, 1) := by decide +kernel
theorem dX8_endRoute_12 : decode cX8_endRoute 12 = .ok (.getfield 19, 3) := by decide +kernel
theorem dX8_endRoute_15 : decode cX8_endRoute 15 = .ok (.aload_n 1, 1) := by decide +kernel
theorem dX8_endRoute_16 : decode cX8_endRoute 16 = .ok (.invokevirtual 271, 3) := by decide +kernel
theorem dX8_endRoute_19 : decode cX8_endRoute 19 = .ok (.return_, 1) := by decide +kernel
theorem dX8_networkOf_0 : decode cX8_networkOf 0 = .ok (.iload_n 0, 1) := by decide +kernel
theorem dX8_networkOf_1 : decode cX8_networkOf 1 = .ok (.iconst 1, 1) := by decide +kernel
theorem dX8_networkOf_2 : decode cX8_networkOf 2 = .ok (.iadd, 1) := by decide +kernel
theorem dX8_networkOf_3 : decode cX8_networkOf 3 = .ok (.ireturn, 1) := by decide +kernel
theorem dX8_lengthOf_0 : decode cX8_lengthOf 0 = .ok (.aload_n 0, 1) := by decide +kernel
theorem dX8_lengthOf_1 : decode cX8_lengthOf 1 = .ok (.ifnonnull 7, 3) := by decide +kernel
theorem dX8_lengthOf_4 : decode cX8_lengthOf 4 = .ok (.iconst (-1), 1) := by decide +kernel
theorem dX8_lengthOf_5 : decode cX8_lengthOf 5 = .ok (.goto 10, 3) := by decide +kernel
theorem dX8_lengthOf_8 : decode cX8_lengthOf 8 = .ok (.aload_n 0, 1) := by decide +kernel
theorem dX8_lengthOf_9 : decode cX8_lengthOf 9 = .ok (.getfield 181, 3) := by decide +kernel
theorem dX8_lengthOf_12 : decode cX8_lengthOf 12 = .ok (.getfield 274, 3) := by decide +kernel
theorem dX8_lengthOf_15 : decode cX8_lengthOf 15 = .ok (.ireturn, 1) := by decide +kernel
theorem dX8_reverseOf_0 : decode cX8_reverseOf 0 = .ok (.iload_n 0, 1) := by decide +kernel
theorem dX8_reverseOf_1 : decode cX8_reverseOf 1 = .ok (.lookupswitch 31 #[(1, 27), (3, 29)], 27) := by decide +kernel
theorem dX8_reverseOf_28 : decode cX8_reverseOf 28 = .ok (.iconst 3, 1) := by decide +kernel
theorem dX8_reverseOf_29 : decode cX8_reverseOf 29 = .ok (.ireturn, 1) := by decide +kernel
theorem dX8_reverseOf_30 : decode cX8_reverseOf 30 = .ok (.iconst 1, 1) := by decide +kernel
theorem dX8_reverseOf_31 : decode cX8_reverseOf 31 = .ok (.ireturn, 1) := by decide +kernel
theorem dX8_reverseOf_32 : decode cX8_reverseOf 32 = .ok (.iload_n 0, 1) := by decide +kernel
theorem dX8_reverseOf_33 : decode cX8_reverseOf 33 = .ok (.ireturn, 1) := by decide +kernel
theorem dX8_isPeer_0 : decode cX8_isPeer 0 = .ok (.iload_n 0, 1) := by decide +kernel
theorem dX8_isPeer_1 : decode cX8_isPeer 1 = .ok (.ifCond .lt 13, 3) := by decide +kernel
theorem dX8_isPeer_4 : decode cX8_isPeer 4 = .ok (.iload_n 0, 1) := by decide +kernel
theorem dX8_isPeer_5 : decode cX8_isPeer 5 = .ok (.bipush 6, 2) := by decide +kernel
theorem dX8_isPeer_7 : decode cX8_isPeer 7 = .ok (.if_icmp .ge 7, 3) := by decide +kernel
theorem dX8_isPeer_10 : decode cX8_isPeer 10 = .ok (.iconst 1, 1) := by decide +kernel
theorem dX8_isPeer_11 : decode cX8_isPeer 11 = .ok (.goto 4, 3) := by decide +kernel
theorem dX8_isPeer_14 : decode cX8_isPeer 14 = .ok (.iconst 0, 1) := by decide +kernel
theorem dX8_isPeer_15 : decode cX8_isPeer 15 = .ok (.ireturn, 1) := by decide +kernel
theorem dX8_isNetwork_0 : decode cX8_isNetwork 0 = .ok (.iload_n 0, 1) := by decide +kernel
theorem dX8_isNetwork_1 : decode cX8_isNetwork 1 = .ok (.iconst 1, 1) := by decide +kernel
theorem dX8_isNetwork_2 : decode cX8_isNetwork 2 = .ok (.if_icmp .lt 13, 3) := by decide +kernel
theorem dX8_isNetwork_5 : decode cX8_isNetwork 5 = .ok (.iload_n 0, 1) := by decide +kernel
theorem dX8_isNetwork_6 : decode cX8_isNetwork 6 = .ok (.bipush 30, 2) := by decide +kernel
theorem dX8_isNetwork_8 : decode cX8_isNetwork 8 = .ok (.if_icmp .gt 7, 3) := by decide +kernel
theorem dX8_isNetwork_11 : decode cX8_isNetwork 11 = .ok (.iconst 1, 1) := by decide +kernel
theorem dX8_isNetwork_12 : decode cX8_isNetwork 12 = .ok (.goto 4, 3) := by decide +kernel
theorem dX8_isNetwork_15 : decode cX8_isNetwork 15 = .ok (.iconst 0, 1) := by decide +kernel
theorem dX8_isNetwork_16 : decode cX8_isNetwork 16 = .ok (.ireturn, 1) := by decide +kernel
theorem dX8_isAddress_0 : decode cX8_isAddress 0 = .ok (.iload_n 0, 1) := by decide +kernel
theorem dX8_isAddress_1 : decode cX8_isAddress 1 = .ok (.ifCond .lt 14, 3) := by decide +kernel
theorem dX8_isAddress_4 : decode cX8_isAddress 4 = .ok (.iload_n 0, 1) := by decide +kernel
theorem dX8_isAddress_5 : decode cX8_isAddress 5 = .ok (.sipush 256, 3) := by decide +kernel
theorem dX8_isAddress_8 : decode cX8_isAddress 8 = .ok (.if_icmp .ge 7, 3) := by decide +kernel
theorem dX8_isAddress_11 : decode cX8_isAddress 11 = .ok (.iconst 1, 1) := by decide +kernel
theorem dX8_isAddress_12 : decode cX8_isAddress 12 = .ok (.goto 4, 3) := by decide +kernel
theorem dX8_isAddress_15 : decode cX8_isAddress 15 = .ok (.iconst 0, 1) := by decide +kernel
theorem dX8_isAddress_16 : decode cX8_isAddress 16 = .ok (.ireturn, 1) := by decide +kernel
theorem dX8_isPrefix_0 : decode cX8_isPrefix 0 = .ok (.iload_n 0, 1) := by decide +kernel
theorem dX8_isPrefix_1 : decode cX8_isPrefix 1 = .ok (.invokestatic 247, 3) := by decide +kernel
theorem dX8_isPrefix_4 : decode cX8_isPrefix 4 = .ok (.ifCond .eq 13, 3) := by decide +kernel
theorem dX8_isPrefix_7 : decode cX8_isPrefix 7 = .ok (.iload_n 1, 1) := by decide +kernel
theorem dX8_isPrefix_8 : decode cX8_isPrefix 8 = .ok (.ifCond .lt 9, 3) := by decide +kernel
theorem dX8_isPrefix_11 : decode cX8_isPrefix 11 = .ok (.iload_n 1, 1) := by decide +kernel
theorem dX8_isPrefix_12 : decode cX8_isPrefix 12 = .ok (.bipush 8, 2) := by decide +kernel
theorem dX8_isPrefix_14 : decode cX8_isPrefix 14 = .ok (.if_icmp .le 5, 3) := by decide +kernel
theorem dX8_isPrefix_17 : decode cX8_isPrefix 17 = .ok (.iconst 0, 1) := by decide +kernel
theorem dX8_isPrefix_18 : decode cX8_isPrefix 18 = .ok (.ireturn, 1) := by decide +kernel
theorem dX8_isPrefix_19 : decode cX8_isPrefix 19 = .ok (.iconst 1, 1) := by decide +kernel
theorem dX8_isPrefix_20 : decode cX8_isPrefix 20 = .ok (.bipush 8, 2) := by decide +kernel
theorem dX8_isPrefix_22 : decode cX8_isPrefix 22 = .ok (.iload_n 1, 1) := by decide +kernel
theorem dX8_isPrefix_23 : decode cX8_isPrefix 23 = .ok (.isub, 1) := by decide +kernel
theorem dX8_isPrefix_24 : decode cX8_isPrefix 24 = .ok (.ishl, 1) := by decide +kernel
theorem dX8_isPrefix_25 : decode cX8_isPrefix 25 = .ok (.iconst 1, 1) := by decide +kernel
theorem dX8_isPrefix_26 : decode cX8_isPrefix 26 = .ok (.isub, 1) := by decide +kernel
theorem dX8_isPrefix_27 : decode cX8_isPrefix 27 = .ok (.istore_n 2, 1) := by decide +kernel
theorem dX8_isPrefix_28 : decode cX8_isPrefix 28 = .ok (.iload_n 0, 1) := by decide +kernel
theorem dX8_isPrefix_29 : decode cX8_isPrefix 29 = .ok (.iload_n 2, 1) := by decide +kernel
theorem dX8_isPrefix_30 : decode cX8_isPrefix 30 = .ok (.iand, 1) := by decide +kernel
theorem dX8_isPrefix_31 : decode cX8_isPrefix 31 = .ok (.ifCond .ne 7, 3) := by decide +kernel
theorem dX8_isPrefix_34 : decode cX8_isPrefix 34 = .ok (.iconst 1, 1) := by decide +kernel
theorem dX8_isPrefix_35 : decode cX8_isPrefix 35 = .ok (.goto 4, 3) := by decide +kernel
theorem dX8_isPrefix_38 : decode cX8_isPrefix 38 = .ok (.iconst 0, 1) := by decide +kernel
theorem dX8_isPrefix_39 : decode cX8_isPrefix 39 = .ok (.ireturn, 1) := by decide +kernel
theorem dX8_isPrefixNumber_0 : decode cX8_isPrefixNumber 0 = .ok (.iload_n 0, 1) := by decide +kernel
theorem dX8_isPrefixNumber_1 : decode cX8_isPrefixNumber 1 = .ok (.iconst 1, 1) := by decide +kernel
theorem dX8_isPrefixNumber_2 : decode cX8_isPrefixNumber 2 = .ok (.if_icmp .lt 14, 3) := by decide +kernel
theorem dX8_isPrefixNumber_5 : decode cX8_isPrefixNumber 5 = .ok (.iload_n 0, 1) := by decide +kernel
theorem dX8_isPrefixNumber_6 : decode cX8_isPrefixNumber 6 = .ok (.sipush 512, 3) := by decide +kernel
theorem dX8_isPrefixNumber_9 : decode cX8_isPrefixNumber 9 = .ok (.if_icmp .ge 7, 3) := by decide +kernel
theorem dX8_isPrefixNumber_12 : decode cX8_isPrefixNumber 12 = .ok (.iconst 1, 1) := by decide +kernel
theorem dX8_isPrefixNumber_13 : decode cX8_isPrefixNumber 13 = .ok (.goto 4, 3) := by decide +kernel
theorem dX8_isPrefixNumber_16 : decode cX8_isPrefixNumber 16 = .ok (.iconst 0, 1) := by decide +kernel
theorem dX8_isPrefixNumber_17 : decode cX8_isPrefixNumber 17 = .ok (.ireturn, 1) := by decide +kernel
theorem dX8_prefixNumber_0 : decode cX8_prefixNumber 0 = .ok (.sipush 256, 3) := by decide +kernel
theorem dX8_prefixNumber_3 : decode cX8_prefixNumber 3 = .ok (.iload_n 0, 1) := by decide +kernel
theorem dX8_prefixNumber_4 : decode cX8_prefixNumber 4 = .ok (.iadd, 1) := by decide +kernel
theorem dX8_prefixNumber_5 : decode cX8_prefixNumber 5 = .ok (.bipush 8, 2) := by decide +kernel
theorem dX8_prefixNumber_7 : decode cX8_prefixNumber 7 = .ok (.iload_n 1, 1) := by decide +kernel
theorem dX8_prefixNumber_8 : decode cX8_prefixNumber 8 = .ok (.isub, 1) := by decide +kernel
theorem dX8_prefixNumber_9 : decode cX8_prefixNumber 9 = .ok (.ishr, 1) := by decide +kernel
theorem dX8_prefixNumber_10 : decode cX8_prefixNumber 10 = .ok (.ireturn, 1) := by decide +kernel
