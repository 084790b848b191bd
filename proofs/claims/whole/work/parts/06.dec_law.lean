theorem dL_pass_0 : decode cL_pass 0 = .ok (.aload_n 2, 1) := by decide +kernel
theorem dL_pass_1 : decode cL_pass 1 = .ok (.iconst 0, 1) := by decide +kernel
theorem dL_pass_2 : decode cL_pass 2 = .ok (.aload_n 0, 1) := by decide +kernel
theorem dL_pass_3 : decode cL_pass 3 = .ok (.iload_n 1, 1) := by decide +kernel
theorem dL_pass_4 : decode cL_pass 4 = .ok (.invokevirtual 7, 3) := by decide +kernel
theorem dL_pass_7 : decode cL_pass 7 = .ok (.i2l, 1) := by decide +kernel
theorem dL_pass_8 : decode cL_pass 8 = .ok (.lastore, 1) := by decide +kernel
theorem dL_pass_9 : decode cL_pass 9 = .ok (.goto 9, 3) := by decide +kernel
theorem dL_pass_12 : decode cL_pass 12 = .ok (.astore_n 3, 1) := by decide +kernel
theorem dL_pass_13 : decode cL_pass 13 = .ok (.iconst 1, 1) := by decide +kernel
theorem dL_pass_14 : decode cL_pass 14 = .ok (.ireturn, 1) := by decide +kernel
theorem dL_pass_15 : decode cL_pass 15 = .ok (.astore_n 3, 1) := by decide +kernel
theorem dL_pass_16 : decode cL_pass 16 = .ok (.iconst 2, 1) := by decide +kernel
theorem dL_pass_17 : decode cL_pass 17 = .ok (.ireturn, 1) := by decide +kernel
theorem dL_pass_18 : decode cL_pass 18 = .ok (.iconst 0, 1) := by decide +kernel
theorem dL_pass_19 : decode cL_pass 19 = .ok (.ireturn, 1) := by decide +kernel
theorem dL_hop_0 : decode cL_hop 0 = .ok (.aload_n 2, 1) := by decide +kernel
theorem dL_hop_1 : decode cL_hop 1 = .ok (.iconst 0, 1) := by decide +kernel
theorem dL_hop_2 : decode cL_hop 2 = .ok (.aload_n 0, 1) := by decide +kernel
theorem dL_hop_3 : decode cL_hop 3 = .ok (.iload_n 1, 1) := by decide +kernel
theorem dL_hop_4 : decode cL_hop 4 = .ok (.invokevirtual 17, 3) := by decide +kernel
theorem dL_hop_7 : decode cL_hop 7 = .ok (.i2l, 1) := by decide +kernel
theorem dL_hop_8 : decode cL_hop 8 = .ok (.lastore, 1) := by decide +kernel
theorem dL_hop_9 : decode cL_hop 9 = .ok (.goto 9, 3) := by decide +kernel
theorem dL_hop_12 : decode cL_hop 12 = .ok (.astore_n 3, 1) := by decide +kernel
theorem dL_hop_13 : decode cL_hop 13 = .ok (.iconst 1, 1) := by decide +kernel
theorem dL_hop_14 : decode cL_hop 14 = .ok (.ireturn, 1) := by decide +kernel
theorem dL_hop_15 : decode cL_hop 15 = .ok (.astore_n 3, 1) := by decide +kernel
theorem dL_hop_16 : decode cL_hop 16 = .ok (.iconst 2, 1) := by decide +kernel
theorem dL_hop_17 : decode cL_hop 17 = .ok (.ireturn, 1) := by decide +kernel
theorem dL_hop_18 : decode cL_hop 18 = .ok (.iconst 0, 1) := by decide +kernel
theorem dL_hop_19 : decode cL_hop 19 = .ok (.ireturn, 1) := by decide +kernel
theorem dL_announce_0 : decode cL_announce 0 = .ok (.aload 4, 2) := by decide +kernel
theorem dL_announce_2 : decode cL_announce 2 = .ok (.iconst 0, 1) := by decide +kernel
theorem dL_announce_3 : decode cL_announce 3 = .ok (.aload_n 0, 1) := by decide +kernel
theorem dL_announce_4 : decode cL_announce 4 = .ok (.iload_n 1, 1) := by decide +kernel
theorem dL_announce_5 : decode cL_announce 5 = .ok (.iload_n 2, 1) := by decide +kernel
theorem dL_announce_6 : decode cL_announce 6 = .ok (.iload_n 3, 1) := by decide +kernel
theorem dL_announce_7 : decode cL_announce 7 = .ok (.invokevirtual 20, 3) := by decide +kernel
theorem dL_announce_10 : decode cL_announce 10 = .ok (.ifCond .eq 7, 3) := by decide +kernel
theorem dL_announce_13 : decode cL_announce 13 = .ok (.lconst 1, 1) := by decide +kernel
theorem dL_announce_14 : decode cL_announce 14 = .ok (.goto 4, 3) := by decide +kernel
theorem dL_announce_17 : decode cL_announce 17 = .ok (.lconst 0, 1) := by decide +kernel
theorem dL_announce_18 : decode cL_announce 18 = .ok (.lastore, 1) := by decide +kernel
theorem dL_announce_19 : decode cL_announce 19 = .ok (.goto 15, 3) := by decide +kernel
theorem dL_announce_22 : decode cL_announce 22 = .ok (.astore 5, 2) := by decide +kernel
theorem dL_announce_24 : decode cL_announce 24 = .ok (.iconst 1, 1) := by decide +kernel
theorem dL_announce_25 : decode cL_announce 25 = .ok (.ireturn, 1) := by decide +kernel
theorem dL_announce_26 : decode cL_announce 26 = .ok (.astore 5, 2) := by decide +kernel
theorem dL_announce_28 : decode cL_announce 28 = .ok (.iconst 2, 1) := by decide +kernel
theorem dL_announce_29 : decode cL_announce 29 = .ok (.ireturn, 1) := by decide +kernel
theorem dL_announce_30 : decode cL_announce 30 = .ok (.astore 5, 2) := by decide +kernel
theorem dL_announce_32 : decode cL_announce 32 = .ok (.iconst 3, 1) := by decide +kernel
theorem dL_announce_33 : decode cL_announce 33 = .ok (.ireturn, 1) := by decide +kernel
theorem dL_announce_34 : decode cL_announce 34 = .ok (.iconst 0, 1) := by decide +kernel
theorem dL_announce_35 : decode cL_announce 35 = .ok (.ireturn, 1) := by decide +kernel
theorem dL_withdraw_0 : decode cL_withdraw 0 = .ok (.aload 4, 2) := by decide +kernel
theorem dL_withdraw_2 : decode cL_withdraw 2 = .ok (.iconst 0, 1) := by decide +kernel
theorem dL_withdraw_3 : decode cL_withdraw 3 = .ok (.aload_n 0, 1) := by decide +kernel
theorem dL_withdraw_4 : decode cL_withdraw 4 = .ok (.iload_n 1, 1) := by decide +kernel
theorem dL_withdraw_5 : decode cL_withdraw 5 = .ok (.iload_n 2, 1) := by decide +kernel
theorem dL_withdraw_6 : decode cL_withdraw 6 = .ok (.iload_n 3, 1) := by decide +kernel
theorem dL_withdraw_7 : decode cL_withdraw 7 = .ok (.invokevirtual 26, 3) := by decide +kernel
theorem dL_withdraw_10 : decode cL_withdraw 10 = .ok (.i2l, 1) := by decide +kernel
theorem dL_withdraw_11 : decode cL_withdraw 11 = .ok (.lastore, 1) := by decide +kernel
theorem dL_withdraw_12 : decode cL_withdraw 12 = .ok (.goto 19, 3) := by decide +kernel
theorem dL_withdraw_15 : decode cL_withdraw 15 = .ok (.astore 5, 2) := by decide +kernel
theorem dL_withdraw_17 : decode cL_withdraw 17 = .ok (.iconst 1, 1) := by decide +kernel
theorem dL_withdraw_18 : decode cL_withdraw 18 = .ok (.ireturn, 1) := by decide +kernel
theorem dL_withdraw_19 : decode cL_withdraw 19 = .ok (.astore 5, 2) := by decide +kernel
theorem dL_withdraw_21 : decode cL_withdraw 21 = .ok (.iconst 2, 1) := by decide +kernel
theorem dL_withdraw_22 : decode cL_withdraw 22 = .ok (.ireturn, 1) := by decide +kernel
theorem dL_withdraw_23 : decode cL_withdraw 23 = .ok (.astore 5, 2) := by decide +kernel
theorem dL_withdraw_25 : decode cL_withdraw 25 = .ok (.iconst 3, 1) := by decide +kernel
theorem dL_withdraw_26 : decode cL_withdraw 26 = .ok (.ireturn, 1) := by decide +kernel
theorem dL_withdraw_27 : decode cL_withdraw 27 = .ok (.astore 5, 2) := by decide +kernel
theorem dL_withdraw_29 : decode cL_withdraw 29 = .ok (.iconst 4, 1) := by decide +kernel
theorem dL_withdraw_30 : decode cL_withdraw 30 = .ok (.ireturn, 1) := by decide +kernel
theorem dL_withdraw_31 : decode cL_withdraw 31 = .ok (.iconst 0, 1) := by decide +kernel
theorem dL_withdraw_32 : decode cL_withdraw 32 = .ok (.ireturn, 1) := by decide +kernel
theorem dL_drop_0 : decode cL_drop 0 = .ok (.aload_n 2, 1) := by decide +kernel
theorem dL_drop_1 : decode cL_drop 1 = .ok (.iconst 0, 1) := by decide +kernel
theorem dL_drop_2 : decode cL_drop 2 = .ok (.aload_n 0, 1) := by decide +kernel
theorem dL_drop_3 : decode cL_drop 3 = .ok (.iload_n 1, 1) := by decide +kernel
theorem dL_drop_4 : decode cL_drop 4 = .ok (.invokevirtual 32, 3) := by decide +kernel
theorem dL_drop_7 : decode cL_drop 7 = .ok (.i2l, 1) := by decide +kernel
theorem dL_drop_8 : decode cL_drop 8 = .ok (.lastore, 1) := by decide +kernel
theorem dL_drop_9 : decode cL_drop 9 = .ok (.goto 9, 3) := by decide +kernel
theorem dL_drop_12 : decode cL_drop 12 = .ok (.astore_n 3, 1) := by decide +kernel
theorem dL_drop_13 : decode cL_drop 13 = .ok (.iconst 1, 1) := by decide +kernel
theorem dL_drop_14 : decode cL_drop 14 = .ok (.ireturn, 1) := by decide +kernel
theorem dL_drop_15 : decode cL_drop 15 = .ok (.astore_n 3, 1) := by decide +kernel
theorem dL_drop_16 : decode cL_drop 16 = .ok (.iconst 2, 1) := by decide +kernel
theorem dL_drop_17 : decode cL_drop 17 = .ok (.ireturn, 1) := by decide +kernel
theorem dL_drop_18 : decode cL_drop 18 = .ok (.iconst 0, 1) := by decide +kernel
theorem dL_drop_19 : decode cL_drop 19 = .ok (.ireturn, 1) := by decide +kernel
theorem dL_routes_0 : decode cL_routes 0 = .ok (.aload_n 2, 1) := by decide +kernel
theorem dL_routes_1 : decode cL_routes 1 = .ok (.iconst 0, 1) := by decide +kernel
theorem dL_routes_2 : decode cL_routes 2 = .ok (.aload_n 0, 1) := by decide +kernel
theorem dL_routes_3 : decode cL_routes 3 = .ok (.iload_n 1, 1) := by decide +kernel
theorem dL_routes_4 : decode cL_routes 4 = .ok (.invokevirtual 35, 3) := by decide +kernel
theorem dL_routes_7 : decode cL_routes 7 = .ok (.i2l, 1) := by decide +kernel
theorem dL_routes_8 : decode cL_routes 8 = .ok (.lastore, 1) := by decide +kernel
theorem dL_routes_9 : decode cL_routes 9 = .ok (.goto 6, 3) := by decide +kernel
theorem dL_routes_12 : decode cL_routes 12 = .ok (.astore_n 3, 1) := by decide +kernel
theorem dL_routes_13 : decode cL_routes 13 = .ok (.iconst 1, 1) := by decide +kernel
theorem dL_routes_14 : decode cL_routes 14 = .ok (.ireturn, 1) := by decide +kernel
theorem dL_routes_15 : decode cL_routes 15 = .ok (.iconst 0, 1) := by decide +kernel
theorem dL_routes_16 : decode cL_routes 16 = .ok (.ireturn, 1) := by decide +kernel
theorem dL_pathAt_0 : decode cL_pathAt 0 = .ok (.aload 5, 2) := by decide +kernel
theorem dL_pathAt_2 : decode cL_pathAt 2 = .ok (.iconst 0, 1) := by decide +kernel
theorem dL_pathAt_3 : decode cL_pathAt 3 = .ok (.aload_n 0, 1) := by decide +kernel
theorem dL_pathAt_4 : decode cL_pathAt 4 = .ok (.iload_n 1, 1) := by decide +kernel
theorem dL_pathAt_5 : decode cL_pathAt 5 = .ok (.iload_n 2, 1) := by decide +kernel
theorem dL_pathAt_6 : decode cL_pathAt 6 = .ok (.iload_n 3, 1) := by decide +kernel
theorem dL_pathAt_7 : decode cL_pathAt 7 = .ok (.iload 4, 2) := by decide +kernel
theorem dL_pathAt_9 : decode cL_pathAt 9 = .ok (.invokevirtual 38, 3) := by decide +kernel
theorem dL_pathAt_12 : decode cL_pathAt 12 = .ok (.i2l, 1) := by decide +kernel
theorem dL_pathAt_13 : decode cL_pathAt 13 = .ok (.lastore, 1) := by decide +kernel
theorem dL_pathAt_14 : decode cL_pathAt 14 = .ok (.goto 15, 3) := by decide +kernel
theorem dL_pathAt_17 : decode cL_pathAt 17 = .ok (.astore 6, 2) := by decide +kernel
theorem dL_pathAt_19 : decode cL_pathAt 19 = .ok (.iconst 1, 1) := by decide +kernel
theorem dL_pathAt_20 : decode cL_pathAt 20 = .ok (.ireturn, 1) := by decide +kernel
theorem dL_pathAt_21 : decode cL_pathAt 21 = .ok (.astore 6, 2) := by decide +kernel
theorem dL_pathAt_23 : decode cL_pathAt 23 = .ok (.iconst 2, 1) := by decide +kernel
theorem dL_pathAt_24 : decode cL_pathAt 24 = .ok (.ireturn, 1) := by decide +kernel
theorem dL_pathAt_25 : decode cL_pathAt 25 = .ok (.astore 6, 2) := by decide +kernel
theorem dL_pathAt_27 : decode cL_pathAt 27 = .ok (.iconst 3, 1) := by decide +kernel
theorem dL_pathAt_28 : decode cL_pathAt 28 = .ok (.ireturn, 1) := by decide +kernel
theorem dL_pathAt_29 : decode cL_pathAt 29 = .ok (.iconst 0, 1) := by decide +kernel
theorem dL_pathAt_30 : decode cL_pathAt 30 = .ok (.ireturn, 1) := by decide +kernel
theorem dL_bestPeer_0 : decode cL_bestPeer 0 = .ok (.aload_n 3, 1) := by decide +kernel
theorem dL_bestPeer_1 : decode cL_bestPeer 1 = .ok (.iconst 0, 1) := by decide +kernel
theorem dL_bestPeer_2 : decode cL_bestPeer 2 = .ok (.aload_n 0, 1) := by decide +kernel
theorem dL_bestPeer_3 : decode cL_bestPeer 3 = .ok (.iload_n 1, 1) := by decide +kernel
theorem dL_bestPeer_4 : decode cL_bestPeer 4 = .ok (.iload_n 2, 1) := by decide +kernel
theorem dL_bestPeer_5 : decode cL_bestPeer 5 = .ok (.invokevirtual 42, 3) := by decide +kernel
theorem dL_bestPeer_8 : decode cL_bestPeer 8 = .ok (.i2l, 1) := by decide +kernel
theorem dL_bestPeer_9 : decode cL_bestPeer 9 = .ok (.lastore, 1) := by decide +kernel
theorem dL_bestPeer_10 : decode cL_bestPeer 10 = .ok (.goto 7, 3) := by decide +kernel
theorem dL_bestPeer_13 : decode cL_bestPeer 13 = .ok (.astore 4, 2) := by decide +kernel
theorem dL_bestPeer_15 : decode cL_bestPeer 15 = .ok (.iconst 1, 1) := by decide +kernel
theorem dL_bestPeer_16 : decode cL_bestPeer 16 = .ok (.ireturn, 1) := by decide +kernel
theorem dL_bestPeer_17 : decode cL_bestPeer 17 = .ok (.iconst 0, 1) := by decide +kernel
theorem dL_bestPeer_18 : decode cL_bestPeer 18 = .ok (.ireturn, 1) := by decide +kernel
theorem dL_lookUp_0 : decode cL_lookUp 0 = .ok (.aload_n 2, 1) := by decide +kernel
theorem dL_lookUp_1 : decode cL_lookUp 1 = .ok (.iconst 0, 1) := by decide +kernel
theorem dL_lookUp_2 : decode cL_lookUp 2 = .ok (.aload_n 0, 1) := by decide +kernel
theorem dL_lookUp_3 : decode cL_lookUp 3 = .ok (.iload_n 1, 1) := by decide +kernel
theorem dL_lookUp_4 : decode cL_lookUp 4 = .ok (.invokevirtual 46, 3) := by decide +kernel
theorem dL_lookUp_7 : decode cL_lookUp 7 = .ok (.i2l, 1) := by decide +kernel
theorem dL_lookUp_8 : decode cL_lookUp 8 = .ok (.lastore, 1) := by decide +kernel
theorem dL_lookUp_9 : decode cL_lookUp 9 = .ok (.goto 6, 3) := by decide +kernel
theorem dL_lookUp_12 : decode cL_lookUp 12 = .ok (.astore_n 3, 1) := by decide +kernel
theorem dL_lookUp_13 : decode cL_lookUp 13 = .ok (.iconst 1, 1) := by decide +kernel
theorem dL_lookUp_14 : decode cL_lookUp 14 = .ok (.ireturn, 1) := by decide +kernel
theorem dL_lookUp_15 : decode cL_lookUp 15 = .ok (.iconst 0, 1) := by decide +kernel
theorem dL_lookUp_16 : decode cL_lookUp 16 = .ok (.ireturn, 1) := by decide +kernel
theorem dL_lookUpByScan_0 : decode cL_lookUpByScan 0 = .ok (.aload_n 2, 1) := by decide +kernel
theorem dL_lookUpByScan_1 : decode cL_lookUpByScan 1 = .ok (.iconst 0, 1) := by decide +kernel
theorem dL_lookUpByScan_2 : decode cL_lookUpByScan 2 = .ok (.aload_n 0, 1) := by decide +kernel
theorem dL_lookUpByScan_3 : decode cL_lookUpByScan 3 = .ok (.iload_n 1, 1) := by decide +kernel
theorem dL_lookUpByScan_4 : decode cL_lookUpByScan 4 = .ok (.invokevirtual 49, 3) := by decide +kernel
theorem dL_lookUpByScan_7 : decode cL_lookUpByScan 7 = .ok (.i2l, 1) := by decide +kernel
theorem dL_lookUpByScan_8 : decode cL_lookUpByScan 8 = .ok (.lastore, 1) := by decide +kernel
theorem dL_lookUpByScan_9 : decode cL_lookUpByScan 9 = .ok (.goto 6, 3) := by decide +kernel
theorem dL_lookUpByScan_12 : decode cL_lookUpByScan 12 = .ok (.astore_n 3, 1) := by decide +kernel
theorem dL_lookUpByScan_13 : decode cL_lookUpByScan 13 = .ok (.iconst 1, 1) := by decide +kernel
theorem dL_lookUpByScan_14 : decode cL_lookUpByScan 14 = .ok (.ireturn, 1) := by decide +kernel
theorem dL_lookUpByScan_15 : decode cL_lookUpByScan 15 = .ok (.iconst 0, 1) := by decide +kernel
theorem dL_lookUpByScan_16 : decode cL_lookUpByScan 16 = .ok (.ireturn, 1) := by decide +kernel
theorem dL_origins_0 : decode cL_origins 0 = .ok (.aload_n 3, 1) := by decide +kernel
theorem dL_origins_1 : decode cL_origins 1 = .ok (.iconst 0, 1) := by decide +kernel
theorem dL_origins_2 : decode cL_origins 2 = .ok (.aload_n 0, 1) := by decide +kernel
theorem dL_origins_3 : decode cL_origins 3 = .ok (.iload_n 1, 1) := by decide +kernel
theorem dL_origins_4 : decode cL_origins 4 = .ok (.iload_n 2, 1) := by decide +kernel
theorem dL_origins_5 : decode cL_origins 5 = .ok (.invokevirtual 52, 3) := by decide +kernel
theorem dL_origins_8 : decode cL_origins 8 = .ok (.i2l, 1) := by decide +kernel
theorem dL_origins_9 : decode cL_origins 9 = .ok (.lastore, 1) := by decide +kernel
theorem dL_origins_10 : decode cL_origins 10 = .ok (.goto 7, 3) := by decide +kernel
theorem dL_origins_13 : decode cL_origins 13 = .ok (.astore 4, 2) := by decide +kernel
theorem dL_origins_15 : decode cL_origins 15 = .ok (.iconst 1, 1) := by decide +kernel
theorem dL_origins_16 : decode cL_origins 16 = .ok (.ireturn, 1) := by decide +kernel
theorem dL_origins_17 : decode cL_origins 17 = .ok (.iconst 0, 1) := by decide +kernel
theorem dL_origins_18 : decode cL_origins 18 = .ok (.ireturn, 1) := by decide +kernel
theorem dL_isHijack_0 : decode cL_isHijack 0 = .ok (.aload 4, 2) := by decide +kernel
theorem dL_isHijack_2 : decode cL_isHijack 2 = .ok (.iconst 0, 1) := by decide +kernel
theorem dL_isHijack_3 : decode cL_isHijack 3 = .ok (.aload_n 0, 1) := by decide +kernel
theorem dL_isHijack_4 : decode cL_isHijack 4 = .ok (.iload_n 1, 1) := by decide +kernel
theorem dL_isHijack_5 : decode cL_isHijack 5 = .ok (.iload_n 2, 1) := by decide +kernel
theorem dL_isHijack_6 : decode cL_isHijack 6 = .ok (.iload_n 3, 1) := by decide +kernel
theorem dL_isHijack_7 : decode cL_isHijack 7 = .ok (.invokevirtual 55, 3) := by decide +kernel
theorem dL_isHijack_10 : decode cL_isHijack 10 = .ok (.ifCond .eq 7, 3) := by decide +kernel
theorem dL_isHijack_13 : decode cL_isHijack 13 = .ok (.lconst 1, 1) := by decide +kernel
theorem dL_isHijack_14 : decode cL_isHijack 14 = .ok (.goto 4, 3) := by decide +kernel
theorem dL_isHijack_17 : decode cL_isHijack 17 = .ok (.lconst 0, 1) := by decide +kernel
theorem dL_isHijack_18 : decode cL_isHijack 18 = .ok (.lastore, 1) := by decide +kernel
theorem dL_isHijack_19 : decode cL_isHijack 19 = .ok (.goto 15, 3) := by decide +kernel
theorem dL_isHijack_22 : decode cL_isHijack 22 = .ok (.astore 5, 2) := by decide +kernel
theorem dL_isHijack_24 : decode cL_isHijack 24 = .ok (.iconst 1, 1) := by decide +kernel
theorem dL_isHijack_25 : decode cL_isHijack 25 = .ok (.ireturn, 1) := by decide +kernel
theorem dL_isHijack_26 : decode cL_isHijack 26 = .ok (.astore 5, 2) := by decide +kernel
theorem dL_isHijack_28 : decode cL_isHijack 28 = .ok (.iconst 2, 1) := by decide +kernel
theorem dL_isHijack_29 : decode cL_isHijack 29 = .ok (.ireturn, 1) := by decide +kernel
theorem dL_isHijack_30 : decode cL_isHijack 30 = .ok (.astore 5, 2) := by decide +kernel
theorem dL_isHijack_32 : decode cL_isHijack 32 = .ok (.iconst 3, 1) := by decide +kernel
theorem dL_isHijack_33 : decode cL_isHijack 33 = .ok (.ireturn, 1) := by decide +kernel
theorem dL_isHijack_34 : decode cL_isHijack 34 = .ok (.iconst 0, 1) := by decide +kernel
theorem dL_isHijack_35 : decode cL_isHijack 35 = .ok (.ireturn, 1) := by decide +kernel
theorem dL_allow_0 : decode cL_allow 0 = .ok (.aload 5, 2) := by decide +kernel
theorem dL_allow_2 : decode cL_allow 2 = .ok (.iconst 0, 1) := by decide +kernel
theorem dL_allow_3 : decode cL_allow 3 = .ok (.aload_n 0, 1) := by decide +kernel
theorem dL_allow_4 : decode cL_allow 4 = .ok (.iload_n 1, 1) := by decide +kernel
theorem dL_allow_5 : decode cL_allow 5 = .ok (.iload_n 2, 1) := by decide +kernel
theorem dL_allow_6 : decode cL_allow 6 = .ok (.iload_n 3, 1) := by decide +kernel
theorem dL_allow_7 : decode cL_allow 7 = .ok (.iload 4, 2) := by decide +kernel
theorem dL_allow_9 : decode cL_allow 9 = .ok (.invokevirtual 58, 3) := by decide +kernel
theorem dL_allow_12 : decode cL_allow 12 = .ok (.ifCond .eq 7, 3) := by decide +kernel
theorem dL_allow_15 : decode cL_allow 15 = .ok (.lconst 1, 1) := by decide +kernel
theorem dL_allow_16 : decode cL_allow 16 = .ok (.goto 4, 3) := by decide +kernel
theorem dL_allow_19 : decode cL_allow 19 = .ok (.lconst 0, 1) := by decide +kernel
theorem dL_allow_20 : decode cL_allow 20 = .ok (.lastore, 1) := by decide +kernel
theorem dL_allow_21 : decode cL_allow 21 = .ok (.goto 11, 3) := by decide +kernel
theorem dL_allow_24 : decode cL_allow 24 = .ok (.astore 6, 2) := by decide +kernel
theorem dL_allow_26 : decode cL_allow 26 = .ok (.iconst 1, 1) := by decide +kernel
theorem dL_allow_27 : decode cL_allow 27 = .ok (.ireturn, 1) := by decide +kernel
theorem dL_allow_28 : decode cL_allow 28 = .ok (.astore 6, 2) := by decide +kernel
theorem dL_allow_30 : decode cL_allow 30 = .ok (.iconst 2, 1) := by decide +kernel
theorem dL_allow_31 : decode cL_allow 31 = .ok (.ireturn, 1) := by decide +kernel
theorem dL_allow_32 : decode cL_allow 32 = .ok (.iconst 0, 1) := by decide +kernel
theorem dL_allow_33 : decode cL_allow 33 = .ok (.ireturn, 1) := by decide +kernel
theorem dL_verdict_0 : decode cL_verdict 0 = .ok (.aload 4, 2) := by decide +kernel
theorem dL_verdict_2 : decode cL_verdict 2 = .ok (.iconst 0, 1) := by decide +kernel
theorem dL_verdict_3 : decode cL_verdict 3 = .ok (.aload_n 0, 1) := by decide +kernel
theorem dL_verdict_4 : decode cL_verdict 4 = .ok (.iload_n 1, 1) := by decide +kernel
theorem dL_verdict_5 : decode cL_verdict 5 = .ok (.iload_n 2, 1) := by decide +kernel
theorem dL_verdict_6 : decode cL_verdict 6 = .ok (.iload_n 3, 1) := by decide +kernel
theorem dL_verdict_7 : decode cL_verdict 7 = .ok (.invokevirtual 62, 3) := by decide +kernel
theorem dL_verdict_10 : decode cL_verdict 10 = .ok (.i2l, 1) := by decide +kernel
theorem dL_verdict_11 : decode cL_verdict 11 = .ok (.lastore, 1) := by decide +kernel
theorem dL_verdict_12 : decode cL_verdict 12 = .ok (.goto 15, 3) := by decide +kernel
theorem dL_verdict_15 : decode cL_verdict 15 = .ok (.astore 5, 2) := by decide +kernel
theorem dL_verdict_17 : decode cL_verdict 17 = .ok (.iconst 1, 1) := by decide +kernel
theorem dL_verdict_18 : decode cL_verdict 18 = .ok (.ireturn, 1) := by decide +kernel
theorem dL_verdict_19 : decode cL_verdict 19 = .ok (.astore 5, 2) := by decide +kernel
theorem dL_verdict_21 : decode cL_verdict 21 = .ok (.iconst 2, 1) := by decide +kernel
theorem dL_verdict_22 : decode cL_verdict 22 = .ok (.ireturn, 1) := by decide +kernel
theorem dL_verdict_23 : decode cL_verdict 23 = .ok (.astore 5, 2) := by decide +kernel
theorem dL_verdict_25 : decode cL_verdict 25 = .ok (.iconst 3, 1) := by decide +kernel
theorem dL_verdict_26 : decode cL_verdict 26 = .ok (.ireturn, 1) := by decide +kernel
theorem dL_verdict_27 : decode cL_verdict 27 = .ok (.iconst 0, 1) := by decide +kernel
theorem dL_verdict_28 : decode cL_verdict 28 = .ok (.ireturn, 1) := by decide +kernel
theorem dL_relate_0 : decode cL_relate 0 = .ok (.aload 4, 2) := by decide +kernel
theorem dL_relate_2 : decode cL_relate 2 = .ok (.iconst 0, 1) := by decide +kernel
theorem dL_relate_3 : decode cL_relate 3 = .ok (.aload_n 0, 1) := by decide +kernel
theorem dL_relate_4 : decode cL_relate 4 = .ok (.iload_n 1, 1) := by decide +kernel
theorem dL_relate_5 : decode cL_relate 5 = .ok (.iload_n 2, 1) := by decide +kernel
theorem dL_relate_6 : decode cL_relate 6 = .ok (.iload_n 3, 1) := by decide +kernel
theorem dL_relate_7 : decode cL_relate 7 = .ok (.invokevirtual 65, 3) := by decide +kernel
theorem dL_relate_10 : decode cL_relate 10 = .ok (.i2l, 1) := by decide +kernel
theorem dL_relate_11 : decode cL_relate 11 = .ok (.lastore, 1) := by decide +kernel
theorem dL_relate_12 : decode cL_relate 12 = .ok (.goto 7, 3) := by decide +kernel
theorem dL_relate_15 : decode cL_relate 15 = .ok (.astore 5, 2) := by decide +kernel
theorem dL_relate_17 : decode cL_relate 17 = .ok (.iconst 1, 1) := by decide +kernel
theorem dL_relate_18 : decode cL_relate 18 = .ok (.ireturn, 1) := by decide +kernel
theorem dL_relate_19 : decode cL_relate 19 = .ok (.iconst 0, 1) := by decide +kernel
theorem dL_relate_20 : decode cL_relate 20 = .ok (.ireturn, 1) := by decide +kernel
theorem dL_valley_0 : decode cL_valley 0 = .ok (.aload 4, 2) := by decide +kernel
theorem dL_valley_2 : decode cL_valley 2 = .ok (.iconst 0, 1) := by decide +kernel
theorem dL_valley_3 : decode cL_valley 3 = .ok (.aload_n 0, 1) := by decide +kernel
theorem dL_valley_4 : decode cL_valley 4 = .ok (.iload_n 1, 1) := by decide +kernel
theorem dL_valley_5 : decode cL_valley 5 = .ok (.iload_n 2, 1) := by decide +kernel
theorem dL_valley_6 : decode cL_valley 6 = .ok (.iload_n 3, 1) := by decide +kernel
theorem dL_valley_7 : decode cL_valley 7 = .ok (.invokevirtual 68, 3) := by decide +kernel
theorem dL_valley_10 : decode cL_valley 10 = .ok (.i2l, 1) := by decide +kernel
theorem dL_valley_11 : decode cL_valley 11 = .ok (.lastore, 1) := by decide +kernel
theorem dL_valley_12 : decode cL_valley 12 = .ok (.goto 15, 3) := by decide +kernel
theorem dL_valley_15 : decode cL_valley 15 = .ok (.astore 5, 2) := by decide +kernel
theorem dL_valley_17 : decode cL_valley 17 = .ok (.iconst 1, 1) := by decide +kernel
theorem dL_valley_18 : decode cL_valley 18 = .ok (.ireturn, 1) := by decide +kernel
theorem dL_valley_19 : decode cL_valley 19 = .ok (.astore 5, 2) := by decide +kernel
theorem dL_valley_21 : decode cL_valley 21 = .ok (.iconst 2, 1) := by decide +kernel
theorem dL_valley_22 : decode cL_valley 22 = .ok (.ireturn, 1) := by decide +kernel
theorem dL_valley_23 : decode cL_valley 23 = .ok (.astore 5, 2) := by decide +kernel
theorem dL_valley_25 : decode cL_valley 25 = .ok (.iconst 3, 1) := by decide +kernel
theorem dL_valley_26 : decode cL_valley 26 = .ok (.ireturn, 1) := by decide +kernel
theorem dL_valley_27 : decode cL_valley 27 = .ok (.iconst 0, 1) := by decide +kernel
theorem dL_valley_28 : decode cL_valley 28 = .ok (.ireturn, 1) := by decide +kernel
theorem dL_lookUpAt_0 : decode cL_lookUpAt 0 = .ok (.aload_n 3, 1) := by decide +kernel
theorem dL_lookUpAt_1 : decode cL_lookUpAt 1 = .ok (.iconst 0, 1) := by decide +kernel
theorem dL_lookUpAt_2 : decode cL_lookUpAt 2 = .ok (.aload_n 0, 1) := by decide +kernel
theorem dL_lookUpAt_3 : decode cL_lookUpAt 3 = .ok (.iload_n 1, 1) := by decide +kernel
theorem dL_lookUpAt_4 : decode cL_lookUpAt 4 = .ok (.iload_n 2, 1) := by decide +kernel
theorem dL_lookUpAt_5 : decode cL_lookUpAt 5 = .ok (.invokevirtual 71, 3) := by decide +kernel
theorem dL_lookUpAt_8 : decode cL_lookUpAt 8 = .ok (.i2l, 1) := by decide +kernel
theorem dL_lookUpAt_9 : decode cL_lookUpAt 9 = .ok (.lastore, 1) := by decide +kernel
theorem dL_lookUpAt_10 : decode cL_lookUpAt 10 = .ok (.goto 7, 3) := by decide +kernel
theorem dL_lookUpAt_13 : decode cL_lookUpAt 13 = .ok (.astore 4, 2) := by decide +kernel
theorem dL_lookUpAt_15 : decode cL_lookUpAt 15 = .ok (.iconst 1, 1) := by decide +kernel
theorem dL_lookUpAt_16 : decode cL_lookUpAt 16 = .ok (.ireturn, 1) := by decide +kernel
theorem dL_lookUpAt_17 : decode cL_lookUpAt 17 = .ok (.iconst 0, 1) := by decide +kernel
theorem dL_lookUpAt_18 : decode cL_lookUpAt 18 = .ok (.ireturn, 1) := by decide +kernel
theorem dL_originAt_0 : decode cL_originAt 0 = .ok (.aload_n 3, 1) := by decide +kernel
theorem dL_originAt_1 : decode cL_originAt 1 = .ok (.iconst 0, 1) := by decide +kernel
theorem dL_originAt_2 : decode cL_originAt 2 = .ok (.aload_n 0, 1) := by decide +kernel
theorem dL_originAt_3 : decode cL_originAt 3 = .ok (.iload_n 1, 1) := by decide +kernel
theorem dL_originAt_4 : decode cL_originAt 4 = .ok (.iload_n 2, 1) := by decide +kernel
theorem dL_originAt_5 : decode cL_originAt 5 = .ok (.invokevirtual 74, 3) := by decide +kernel
theorem dL_originAt_8 : decode cL_originAt 8 = .ok (.i2l, 1) := by decide +kernel
theorem dL_originAt_9 : decode cL_originAt 9 = .ok (.lastore, 1) := by decide +kernel
theorem dL_originAt_10 : decode cL_originAt 10 = .ok (.goto 7, 3) := by decide +kernel
theorem dL_originAt_13 : decode cL_originAt 13 = .ok (.astore 4, 2) := by decide +kernel
theorem dL_originAt_15 : decode cL_originAt 15 = .ok (.iconst 1, 1) := by decide +kernel
theorem dL_originAt_16 : decode cL_originAt 16 = .ok (.ireturn, 1) := by decide +kernel
theorem dL_originAt_17 : decode cL_originAt 17 = .ok (.iconst 0, 1) := by decide +kernel
theorem dL_originAt_18 : decode cL_originAt 18 = .ok (.ireturn, 1) := by decide +kernel
