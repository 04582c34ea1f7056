theorem dX0_init_0 : decode cX0_init 0 = .ok (.aload_n 0, 1) := by decide +kernel
theorem dX0_init_1 : decode cX0_init 1 = .ok (.invokespecial 3, 3) := by decide +kernel
theorem dX0_init_4 : decode cX0_init 4 = .ok (.aload_n 0, 1) := by decide +kernel
theorem dX0_init_5 : decode cX0_init 5 = .ok (.iload_n 1, 1) := by decide +kernel
theorem dX0_init_6 : decode cX0_init 6 = .ok (.putfield 9, 3) := by decide +kernel
theorem dX0_init_9 : decode cX0_init 9 = .ok (.aload_n 0, 1) := by decide +kernel
theorem dX0_init_10 : decode cX0_init 10 = .ok (.aload_n 2, 1) := by decide +kernel
theorem dX0_init_11 : decode cX0_init 11 = .ok (.putfield 15, 3) := by decide +kernel
theorem dX0_init_14 : decode cX0_init 14 = .ok (.aload_n 0, 1) := by decide +kernel
theorem dX0_init_15 : decode cX0_init 15 = .ok (.aload_n 3, 1) := by decide +kernel
theorem dX0_init_16 : decode cX0_init 16 = .ok (.putfield 19, 3) := by decide +kernel
theorem dX0_init_19 : decode cX0_init 19 = .ok (.aload_n 0, 1) := by decide +kernel
theorem dX0_init_20 : decode cX0_init 20 = .ok (.iload 4, 2) := by decide +kernel
theorem dX0_init_22 : decode cX0_init 22 = .ok (.putfield 22, 3) := by decide +kernel
theorem dX0_init_25 : decode cX0_init 25 = .ok (.aload_n 0, 1) := by decide +kernel
theorem dX0_init_26 : decode cX0_init 26 = .ok (.aload_n 2, 1) := by decide +kernel
theorem dX0_init_27 : decode cX0_init 27 = .ok (.getfield 25, 3) := by decide +kernel
theorem dX0_init_30 : decode cX0_init 30 = .ok (.aload_n 3, 1) := by decide +kernel
theorem dX0_init_31 : decode cX0_init 31 = .ok (.getfield 25, 3) := by decide +kernel
theorem dX0_init_34 : decode cX0_init 34 = .ok (.ior, 1) := by decide +kernel
theorem dX0_init_35 : decode cX0_init 35 = .ok (.putfield 30, 3) := by decide +kernel
theorem dX0_init_38 : decode cX0_init 38 = .ok (.aload_n 0, 1) := by decide +kernel
theorem dX0_init_39 : decode cX0_init 39 = .ok (.bipush (-6), 2) := by decide +kernel
theorem dX0_init_41 : decode cX0_init 41 = .ok (.putfield 33, 3) := by decide +kernel
theorem dX0_init_44 : decode cX0_init 44 = .ok (.aload_n 0, 1) := by decide +kernel
theorem dX0_init_45 : decode cX0_init 45 = .ok (.iconst 1, 1) := by decide +kernel
theorem dX0_init_46 : decode cX0_init 46 = .ok (.putfield 36, 3) := by decide +kernel
theorem dX0_init_49 : decode cX0_init 49 = .ok (.return_, 1) := by decide +kernel
theorem dX0_putLock_0 : decode cX0_putLock 0 = .ok (.aload_n 0, 1) := by decide +kernel
theorem dX0_putLock_1 : decode cX0_putLock 1 = .ok (.iload_n 1, 1) := by decide +kernel
theorem dX0_putLock_2 : decode cX0_putLock 2 = .ok (.putfield 40, 3) := by decide +kernel
theorem dX0_putLock_5 : decode cX0_putLock 5 = .ok (.aload_n 0, 1) := by decide +kernel
theorem dX0_putLock_6 : decode cX0_putLock 6 = .ok (.iload_n 2, 1) := by decide +kernel
theorem dX0_putLock_7 : decode cX0_putLock 7 = .ok (.putfield 33, 3) := by decide +kernel
theorem dX0_putLock_10 : decode cX0_putLock 10 = .ok (.aload_n 0, 1) := by decide +kernel
theorem dX0_putLock_11 : decode cX0_putLock 11 = .ok (.iload_n 3, 1) := by decide +kernel
theorem dX0_putLock_12 : decode cX0_putLock 12 = .ok (.putfield 43, 3) := by decide +kernel
theorem dX0_putLock_15 : decode cX0_putLock 15 = .ok (.aload_n 0, 1) := by decide +kernel
theorem dX0_putLock_16 : decode cX0_putLock 16 = .ok (.iconst 0, 1) := by decide +kernel
theorem dX0_putLock_17 : decode cX0_putLock 17 = .ok (.putfield 36, 3) := by decide +kernel
theorem dX0_putLock_20 : decode cX0_putLock 20 = .ok (.return_, 1) := by decide +kernel
theorem dX0_openFrom_0 : decode cX0_openFrom 0 = .ok (.aload_n 0, 1) := by decide +kernel
theorem dX0_openFrom_1 : decode cX0_openFrom 1 = .ok (.iconst 1, 1) := by decide +kernel
theorem dX0_openFrom_2 : decode cX0_openFrom 2 = .ok (.putfield 36, 3) := by decide +kernel
theorem dX0_openFrom_5 : decode cX0_openFrom 5 = .ok (.aload_n 0, 1) := by decide +kernel
theorem dX0_openFrom_6 : decode cX0_openFrom 6 = .ok (.iload_n 1, 1) := by decide +kernel
theorem dX0_openFrom_7 : decode cX0_openFrom 7 = .ok (.putfield 46, 3) := by decide +kernel
theorem dX0_openFrom_10 : decode cX0_openFrom 10 = .ok (.return_, 1) := by decide +kernel
theorem dX0_isAt_0 : decode cX0_isAt 0 = .ok (.aload_n 1, 1) := by decide +kernel
theorem dX0_isAt_1 : decode cX0_isAt 1 = .ok (.aload_n 0, 1) := by decide +kernel
theorem dX0_isAt_2 : decode cX0_isAt 2 = .ok (.getfield 15, 3) := by decide +kernel
theorem dX0_isAt_5 : decode cX0_isAt 5 = .ok (.if_acmp .eq 11, 3) := by decide +kernel
theorem dX0_isAt_8 : decode cX0_isAt 8 = .ok (.aload_n 1, 1) := by decide +kernel
theorem dX0_isAt_9 : decode cX0_isAt 9 = .ok (.aload_n 0, 1) := by decide +kernel
theorem dX0_isAt_10 : decode cX0_isAt 10 = .ok (.getfield 19, 3) := by decide +kernel
theorem dX0_isAt_13 : decode cX0_isAt 13 = .ok (.if_acmp .ne 7, 3) := by decide +kernel
theorem dX0_isAt_16 : decode cX0_isAt 16 = .ok (.iconst 1, 1) := by decide +kernel
theorem dX0_isAt_17 : decode cX0_isAt 17 = .ok (.goto 4, 3) := by decide +kernel
theorem dX0_isAt_20 : decode cX0_isAt 20 = .ok (.iconst 0, 1) := by decide +kernel
theorem dX0_isAt_21 : decode cX0_isAt 21 = .ok (.ireturn, 1) := by decide +kernel
theorem dX0_otherRoom_0 : decode cX0_otherRoom 0 = .ok (.aload_n 1, 1) := by decide +kernel
theorem dX0_otherRoom_1 : decode cX0_otherRoom 1 = .ok (.aload_n 0, 1) := by decide +kernel
theorem dX0_otherRoom_2 : decode cX0_otherRoom 2 = .ok (.getfield 15, 3) := by decide +kernel
theorem dX0_otherRoom_5 : decode cX0_otherRoom 5 = .ok (.if_acmp .ne 10, 3) := by decide +kernel
theorem dX0_otherRoom_8 : decode cX0_otherRoom 8 = .ok (.aload_n 0, 1) := by decide +kernel
theorem dX0_otherRoom_9 : decode cX0_otherRoom 9 = .ok (.getfield 19, 3) := by decide +kernel
theorem dX0_otherRoom_12 : decode cX0_otherRoom 12 = .ok (.goto 7, 3) := by decide +kernel
theorem dX0_otherRoom_15 : decode cX0_otherRoom 15 = .ok (.aload_n 0, 1) := by decide +kernel
theorem dX0_otherRoom_16 : decode cX0_otherRoom 16 = .ok (.getfield 15, 3) := by decide +kernel
theorem dX0_otherRoom_19 : decode cX0_otherRoom 19 = .ok (.areturn, 1) := by decide +kernel
theorem dX0_timeBehind_0 : decode cX0_timeBehind 0 = .ok (.iload_n 1, 1) := by decide +kernel
theorem dX0_timeBehind_1 : decode cX0_timeBehind 1 = .ok (.aload_n 0, 1) := by decide +kernel
theorem dX0_timeBehind_2 : decode cX0_timeBehind 2 = .ok (.getfield 46, 3) := by decide +kernel
theorem dX0_timeBehind_5 : decode cX0_timeBehind 5 = .ok (.invokestatic 49, 3) := by decide +kernel
theorem dX0_timeBehind_8 : decode cX0_timeBehind 8 = .ok (.aload_n 0, 1) := by decide +kernel
theorem dX0_timeBehind_9 : decode cX0_timeBehind 9 = .ok (.getfield 22, 3) := by decide +kernel
theorem dX0_timeBehind_12 : decode cX0_timeBehind 12 = .ok (.iadd, 1) := by decide +kernel
theorem dX0_timeBehind_13 : decode cX0_timeBehind 13 = .ok (.ireturn, 1) := by decide +kernel
theorem dX0_isPassable_0 : decode cX0_isPassable 0 = .ok (.iload_n 1, 1) := by decide +kernel
theorem dX0_isPassable_1 : decode cX0_isPassable 1 = .ok (.aload_n 0, 1) := by decide +kernel
theorem dX0_isPassable_2 : decode cX0_isPassable 2 = .ok (.getfield 40, 3) := by decide +kernel
theorem dX0_isPassable_5 : decode cX0_isPassable 5 = .ok (.iand, 1) := by decide +kernel
theorem dX0_isPassable_6 : decode cX0_isPassable 6 = .ok (.aload_n 0, 1) := by decide +kernel
theorem dX0_isPassable_7 : decode cX0_isPassable 7 = .ok (.getfield 40, 3) := by decide +kernel
theorem dX0_isPassable_10 : decode cX0_isPassable 10 = .ok (.if_icmp .ne 7, 3) := by decide +kernel
theorem dX0_isPassable_13 : decode cX0_isPassable 13 = .ok (.iconst 1, 1) := by decide +kernel
theorem dX0_isPassable_14 : decode cX0_isPassable 14 = .ok (.goto 4, 3) := by decide +kernel
theorem dX0_isPassable_17 : decode cX0_isPassable 17 = .ok (.iconst 0, 1) := by decide +kernel
theorem dX0_isPassable_18 : decode cX0_isPassable 18 = .ok (.ireturn, 1) := by decide +kernel
theorem dX0_leadsOutOf_0 : decode cX0_leadsOutOf 0 = .ok (.iload_n 1, 1) := by decide +kernel
theorem dX0_leadsOutOf_1 : decode cX0_leadsOutOf 1 = .ok (.aload_n 0, 1) := by decide +kernel
theorem dX0_leadsOutOf_2 : decode cX0_leadsOutOf 2 = .ok (.getfield 30, 3) := by decide +kernel
theorem dX0_leadsOutOf_5 : decode cX0_leadsOutOf 5 = .ok (.iand, 1) := by decide +kernel
theorem dX0_leadsOutOf_6 : decode cX0_leadsOutOf 6 = .ok (.istore_n 2, 1) := by decide +kernel
theorem dX0_leadsOutOf_7 : decode cX0_leadsOutOf 7 = .ok (.iload_n 2, 1) := by decide +kernel
theorem dX0_leadsOutOf_8 : decode cX0_leadsOutOf 8 = .ok (.ifCond .eq 15, 3) := by decide +kernel
theorem dX0_leadsOutOf_11 : decode cX0_leadsOutOf 11 = .ok (.iload_n 2, 1) := by decide +kernel
theorem dX0_leadsOutOf_12 : decode cX0_leadsOutOf 12 = .ok (.aload_n 0, 1) := by decide +kernel
theorem dX0_leadsOutOf_13 : decode cX0_leadsOutOf 13 = .ok (.getfield 30, 3) := by decide +kernel
theorem dX0_leadsOutOf_16 : decode cX0_leadsOutOf 16 = .ok (.if_icmp .eq 7, 3) := by decide +kernel
theorem dX0_leadsOutOf_19 : decode cX0_leadsOutOf 19 = .ok (.iconst 1, 1) := by decide +kernel
theorem dX0_leadsOutOf_20 : decode cX0_leadsOutOf 20 = .ok (.goto 4, 3) := by decide +kernel
theorem dX0_leadsOutOf_23 : decode cX0_leadsOutOf 23 = .ok (.iconst 0, 1) := by decide +kernel
theorem dX0_leadsOutOf_24 : decode cX0_leadsOutOf 24 = .ok (.ireturn, 1) := by decide +kernel
theorem dX0_speedsUp_0 : decode cX0_speedsUp 0 = .ok (.aload_n 1, 1) := by decide +kernel
theorem dX0_speedsUp_1 : decode cX0_speedsUp 1 = .ok (.getfield 55, 3) := by decide +kernel
theorem dX0_speedsUp_4 : decode cX0_speedsUp 4 = .ok (.ldc 58, 2) := by decide +kernel
theorem dX0_speedsUp_6 : decode cX0_speedsUp 6 = .ok (.if_icmp .eq 18, 3) := by decide +kernel
theorem dX0_speedsUp_9 : decode cX0_speedsUp 9 = .ok (.aload_n 0, 1) := by decide +kernel
theorem dX0_speedsUp_10 : decode cX0_speedsUp 10 = .ok (.aload_n 1, 1) := by decide +kernel
theorem dX0_speedsUp_11 : decode cX0_speedsUp 11 = .ok (.getfield 55, 3) := by decide +kernel
theorem dX0_speedsUp_14 : decode cX0_speedsUp 14 = .ok (.invokevirtual 59, 3) := by decide +kernel
theorem dX0_speedsUp_17 : decode cX0_speedsUp 17 = .ok (.aload_n 2, 1) := by decide +kernel
theorem dX0_speedsUp_18 : decode cX0_speedsUp 18 = .ok (.getfield 55, 3) := by decide +kernel
theorem dX0_speedsUp_21 : decode cX0_speedsUp 21 = .ok (.if_icmp .lt 5, 3) := by decide +kernel
theorem dX0_speedsUp_24 : decode cX0_speedsUp 24 = .ok (.iconst 0, 1) := by decide +kernel
theorem dX0_speedsUp_25 : decode cX0_speedsUp 25 = .ok (.ireturn, 1) := by decide +kernel
theorem dX0_speedsUp_26 : decode cX0_speedsUp 26 = .ok (.aload_n 2, 1) := by decide +kernel
theorem dX0_speedsUp_27 : decode cX0_speedsUp 27 = .ok (.aload_n 0, 1) := by decide +kernel
theorem dX0_speedsUp_28 : decode cX0_speedsUp 28 = .ok (.aload_n 1, 1) := by decide +kernel
theorem dX0_speedsUp_29 : decode cX0_speedsUp 29 = .ok (.getfield 55, 3) := by decide +kernel
theorem dX0_speedsUp_32 : decode cX0_speedsUp 32 = .ok (.invokevirtual 59, 3) := by decide +kernel
theorem dX0_speedsUp_35 : decode cX0_speedsUp 35 = .ok (.putfield 55, 3) := by decide +kernel
theorem dX0_speedsUp_38 : decode cX0_speedsUp 38 = .ok (.iconst 1, 1) := by decide +kernel
theorem dX0_speedsUp_39 : decode cX0_speedsUp 39 = .ok (.ireturn, 1) := by decide +kernel
theorem dX1_init_0 : decode cX1_init 0 = .ok (.aload_n 0, 1) := by decide +kernel
theorem dX1_init_1 : decode cX1_init 1 = .ok (.invokespecial 3, 3) := by decide +kernel
theorem dX1_init_4 : decode cX1_init 4 = .ok (.aload_n 0, 1) := by decide +kernel
theorem dX1_init_5 : decode cX1_init 5 = .ok (.iload_n 1, 1) := by decide +kernel
theorem dX1_init_6 : decode cX1_init 6 = .ok (.putfield 9, 3) := by decide +kernel
theorem dX1_init_9 : decode cX1_init 9 = .ok (.aload_n 0, 1) := by decide +kernel
theorem dX1_init_10 : decode cX1_init 10 = .ok (.iload_n 2, 1) := by decide +kernel
theorem dX1_init_11 : decode cX1_init 11 = .ok (.putfield 15, 3) := by decide +kernel
theorem dX1_init_14 : decode cX1_init 14 = .ok (.aload_n 0, 1) := by decide +kernel
theorem dX1_init_15 : decode cX1_init 15 = .ok (.aload_n 3, 1) := by decide +kernel
theorem dX1_init_16 : decode cX1_init 16 = .ok (.putfield 18, 3) := by decide +kernel
theorem dX1_init_19 : decode cX1_init 19 = .ok (.aload_n 0, 1) := by decide +kernel
theorem dX1_init_20 : decode cX1_init 20 = .ok (.iload 4, 2) := by decide +kernel
theorem dX1_init_22 : decode cX1_init 22 = .ok (.putfield 22, 3) := by decide +kernel
theorem dX1_init_25 : decode cX1_init 25 = .ok (.aload_n 0, 1) := by decide +kernel
theorem dX1_init_26 : decode cX1_init 26 = .ok (.iconst 0, 1) := by decide +kernel
theorem dX1_init_27 : decode cX1_init 27 = .ok (.putfield 25, 3) := by decide +kernel
theorem dX1_init_30 : decode cX1_init 30 = .ok (.return_, 1) := by decide +kernel
theorem dX1_isInPlay_0 : decode cX1_isInPlay 0 = .ok (.aload_n 0, 1) := by decide +kernel
theorem dX1_isInPlay_1 : decode cX1_isInPlay 1 = .ok (.getfield 25, 3) := by decide +kernel
theorem dX1_isInPlay_4 : decode cX1_isInPlay 4 = .ok (.ifCond .ne 7, 3) := by decide +kernel
theorem dX1_isInPlay_7 : decode cX1_isInPlay 7 = .ok (.iconst 1, 1) := by decide +kernel
theorem dX1_isInPlay_8 : decode cX1_isInPlay 8 = .ok (.goto 4, 3) := by decide +kernel
theorem dX1_isInPlay_11 : decode cX1_isInPlay 11 = .ok (.iconst 0, 1) := by decide +kernel
theorem dX1_isInPlay_12 : decode cX1_isInPlay 12 = .ok (.ireturn, 1) := by decide +kernel
theorem dX2_init_0 : decode cX2_init 0 = .ok (.aload_n 0, 1) := by decide +kernel
theorem dX2_init_1 : decode cX2_init 1 = .ok (.invokespecial 3, 3) := by decide +kernel
theorem dX2_init_4 : decode cX2_init 4 = .ok (.aload_n 0, 1) := by decide +kernel
theorem dX2_init_5 : decode cX2_init 5 = .ok (.iload_n 1, 1) := by decide +kernel
theorem dX2_init_6 : decode cX2_init 6 = .ok (.putfield 9, 3) := by decide +kernel
theorem dX2_init_9 : decode cX2_init 9 = .ok (.aload_n 0, 1) := by decide +kernel
theorem dX2_init_10 : decode cX2_init 10 = .ok (.iload_n 2, 1) := by decide +kernel
theorem dX2_init_11 : decode cX2_init 11 = .ok (.putfield 15, 3) := by decide +kernel
theorem dX2_init_14 : decode cX2_init 14 = .ok (.aload_n 0, 1) := by decide +kernel
theorem dX2_init_15 : decode cX2_init 15 = .ok (.aload_n 3, 1) := by decide +kernel
theorem dX2_init_16 : decode cX2_init 16 = .ok (.putfield 18, 3) := by decide +kernel
theorem dX2_init_19 : decode cX2_init 19 = .ok (.return_, 1) := by decide +kernel
theorem dX2_state_0 : decode cX2_state 0 = .ok (.aload_n 0, 1) := by decide +kernel
theorem dX2_state_1 : decode cX2_state 1 = .ok (.getfield 18, 3) := by decide +kernel
theorem dX2_state_4 : decode cX2_state 4 = .ok (.ifnull 5, 3) := by decide +kernel
theorem dX2_state_7 : decode cX2_state 7 = .ok (.iconst 0, 1) := by decide +kernel
theorem dX2_state_8 : decode cX2_state 8 = .ok (.ireturn, 1) := by decide +kernel
theorem dX2_state_9 : decode cX2_state 9 = .ok (.aload_n 0, 1) := by decide +kernel
theorem dX2_state_10 : decode cX2_state 10 = .ok (.getfield 22, 3) := by decide +kernel
theorem dX2_state_13 : decode cX2_state 13 = .ok (.ifnull 7, 3) := by decide +kernel
theorem dX2_state_16 : decode cX2_state 16 = .ok (.iconst 1, 1) := by decide +kernel
theorem dX2_state_17 : decode cX2_state 17 = .ok (.goto 4, 3) := by decide +kernel
theorem dX2_state_20 : decode cX2_state 20 = .ok (.iconst 2, 1) := by decide +kernel
theorem dX2_state_21 : decode cX2_state 21 = .ok (.ireturn, 1) := by decide +kernel
theorem dX2_layDown_0 : decode cX2_layDown 0 = .ok (.aload_n 0, 1) := by decide +kernel
theorem dX2_layDown_1 : decode cX2_layDown 1 = .ok (.aload_n 1, 1) := by decide +kernel
theorem dX2_layDown_2 : decode cX2_layDown 2 = .ok (.putfield 18, 3) := by decide +kernel
theorem dX2_layDown_5 : decode cX2_layDown 5 = .ok (.aload_n 0, 1) := by decide +kernel
theorem dX2_layDown_6 : decode cX2_layDown 6 = .ok (.iload_n 2, 1) := by decide +kernel
theorem dX2_layDown_7 : decode cX2_layDown 7 = .ok (.putfield 26, 3) := by decide +kernel
theorem dX2_layDown_10 : decode cX2_layDown 10 = .ok (.aload_n 0, 1) := by decide +kernel
theorem dX2_layDown_11 : decode cX2_layDown 11 = .ok (.aconst_null, 1) := by decide +kernel
theorem dX2_layDown_12 : decode cX2_layDown 12 = .ok (.putfield 22, 3) := by decide +kernel
theorem dX2_layDown_15 : decode cX2_layDown 15 = .ok (.return_, 1) := by decide +kernel
theorem dX2_giveTo_0 : decode cX2_giveTo 0 = .ok (.aload_n 0, 1) := by decide +kernel
theorem dX2_giveTo_1 : decode cX2_giveTo 1 = .ok (.aconst_null, 1) := by decide +kernel
theorem dX2_giveTo_2 : decode cX2_giveTo 2 = .ok (.putfield 18, 3) := by decide +kernel
theorem dX2_giveTo_5 : decode cX2_giveTo 5 = .ok (.aload_n 0, 1) := by decide +kernel
theorem dX2_giveTo_6 : decode cX2_giveTo 6 = .ok (.aload_n 1, 1) := by decide +kernel
theorem dX2_giveTo_7 : decode cX2_giveTo 7 = .ok (.putfield 22, 3) := by decide +kernel
theorem dX2_giveTo_10 : decode cX2_giveTo 10 = .ok (.return_, 1) := by decide +kernel
theorem dX2_useUp_0 : decode cX2_useUp 0 = .ok (.aload_n 0, 1) := by decide +kernel
theorem dX2_useUp_1 : decode cX2_useUp 1 = .ok (.aconst_null, 1) := by decide +kernel
theorem dX2_useUp_2 : decode cX2_useUp 2 = .ok (.putfield 22, 3) := by decide +kernel
theorem dX2_useUp_5 : decode cX2_useUp 5 = .ok (.aload_n 0, 1) := by decide +kernel
theorem dX2_useUp_6 : decode cX2_useUp 6 = .ok (.aload_n 1, 1) := by decide +kernel
theorem dX2_useUp_7 : decode cX2_useUp 7 = .ok (.putfield 29, 3) := by decide +kernel
theorem dX2_useUp_10 : decode cX2_useUp 10 = .ok (.return_, 1) := by decide +kernel
theorem dX2_isWithin_0 : decode cX2_isWithin 0 = .ok (.aload_n 0, 1) := by decide +kernel
theorem dX2_isWithin_1 : decode cX2_isWithin 1 = .ok (.getfield 18, 3) := by decide +kernel
theorem dX2_isWithin_4 : decode cX2_isWithin 4 = .ok (.ifnull 21, 3) := by decide +kernel
theorem dX2_isWithin_7 : decode cX2_isWithin 7 = .ok (.aload_n 0, 1) := by decide +kernel
theorem dX2_isWithin_8 : decode cX2_isWithin 8 = .ok (.getfield 18, 3) := by decide +kernel
theorem dX2_isWithin_11 : decode cX2_isWithin 11 = .ok (.getfield 33, 3) := by decide +kernel
theorem dX2_isWithin_14 : decode cX2_isWithin 14 = .ok (.iload_n 2, 1) := by decide +kernel
theorem dX2_isWithin_15 : decode cX2_isWithin 15 = .ok (.iand, 1) := by decide +kernel
theorem dX2_isWithin_16 : decode cX2_isWithin 16 = .ok (.ifCond .eq 7, 3) := by decide +kernel
theorem dX2_isWithin_19 : decode cX2_isWithin 19 = .ok (.iconst 1, 1) := by decide +kernel
theorem dX2_isWithin_20 : decode cX2_isWithin 20 = .ok (.goto 4, 3) := by decide +kernel
theorem dX2_isWithin_23 : decode cX2_isWithin 23 = .ok (.iconst 0, 1) := by decide +kernel
theorem dX2_isWithin_24 : decode cX2_isWithin 24 = .ok (.ireturn, 1) := by decide +kernel
theorem dX2_isWithin_25 : decode cX2_isWithin 25 = .ok (.aload_n 0, 1) := by decide +kernel
theorem dX2_isWithin_26 : decode cX2_isWithin 26 = .ok (.getfield 22, 3) := by decide +kernel
theorem dX2_isWithin_29 : decode cX2_isWithin 29 = .ok (.aload_n 1, 1) := by decide +kernel
theorem dX2_isWithin_30 : decode cX2_isWithin 30 = .ok (.if_acmp .ne 7, 3) := by decide +kernel
theorem dX2_isWithin_33 : decode cX2_isWithin 33 = .ok (.iconst 1, 1) := by decide +kernel
theorem dX2_isWithin_34 : decode cX2_isWithin 34 = .ok (.goto 4, 3) := by decide +kernel
theorem dX2_isWithin_37 : decode cX2_isWithin 37 = .ok (.iconst 0, 1) := by decide +kernel
theorem dX2_isWithin_38 : decode cX2_isWithin 38 = .ok (.ireturn, 1) := by decide +kernel
theorem dX3_init_0 : decode cX3_init 0 = .ok (.aload_n 0, 1) := by decide +kernel
theorem dX3_init_1 : decode cX3_init 1 = .ok (.invokespecial 3, 3) := by decide +kernel
theorem dX3_init_4 : decode cX3_init 4 = .ok (.aload_n 0, 1) := by decide +kernel
theorem dX3_init_5 : decode cX3_init 5 = .ok (.sipush 1024, 3) := by decide +kernel
theorem dX3_init_8 : decode cX3_init 8 = .ok (.newarray .int, 2) := by decide +kernel
theorem dX3_init_10 : decode cX3_init 10 = .ok (.putfield 9, 3) := by decide +kernel
theorem dX3_init_13 : decode cX3_init 13 = .ok (.aload_n 0, 1) := by decide +kernel
theorem dX3_init_14 : decode cX3_init 14 = .ok (.sipush 1024, 3) := by decide +kernel
theorem dX3_init_17 : decode cX3_init 17 = .ok (.newarray .long, 2) := by decide +kernel
theorem dX3_init_19 : decode cX3_init 19 = .ok (.putfield 15, 3) := by decide +kernel
theorem dX3_init_22 : decode cX3_init 22 = .ok (.return_, 1) := by decide +kernel
theorem dX3_find_0 : decode cX3_find 0 = .ok (.aload_n 0, 1) := by decide +kernel
theorem dX3_find_1 : decode cX3_find 1 = .ok (.iconst 0, 1) := by decide +kernel
theorem dX3_find_2 : decode cX3_find 2 = .ok (.putfield 19, 3) := by decide +kernel
theorem dX3_find_5 : decode cX3_find 5 = .ok (.aload_n 2, 1) := by decide +kernel
theorem dX3_find_6 : decode cX3_find 6 = .ok (.ifnonnull 4, 3) := by decide +kernel
theorem dX3_find_9 : decode cX3_find 9 = .ok (.return_, 1) := by decide +kernel
theorem dX3_find_10 : decode cX3_find 10 = .ok (.aload_n 0, 1) := by decide +kernel
theorem dX3_find_11 : decode cX3_find 11 = .ok (.aload_n 1, 1) := by decide +kernel
theorem dX3_find_12 : decode cX3_find 12 = .ok (.putfield 23, 3) := by decide +kernel
theorem dX3_find_15 : decode cX3_find 15 = .ok (.aload_n 0, 1) := by decide +kernel
theorem dX3_find_16 : decode cX3_find 16 = .ok (.aload_n 3, 1) := by decide +kernel
theorem dX3_find_17 : decode cX3_find 17 = .ok (.putfield 27, 3) := by decide +kernel
theorem dX3_find_20 : decode cX3_find 20 = .ok (.aload_n 0, 1) := by decide +kernel
theorem dX3_find_21 : decode cX3_find 21 = .ok (.aload 4, 2) := by decide +kernel
theorem dX3_find_23 : decode cX3_find 23 = .ok (.putfield 31, 3) := by decide +kernel
theorem dX3_find_26 : decode cX3_find 26 = .ok (.aload_n 0, 1) := by decide +kernel
theorem dX3_find_27 : decode cX3_find 27 = .ok (.aload_n 3, 1) := by decide +kernel
theorem dX3_find_28 : decode cX3_find 28 = .ok (.invokestatic 34, 3) := by decide +kernel
theorem dX3_find_31 : decode cX3_find 31 = .ok (.putfield 38, 3) := by decide +kernel
theorem dX3_find_34 : decode cX3_find 34 = .ok (.iconst 1, 1) := by decide +kernel
theorem dX3_find_35 : decode cX3_find 35 = .ok (.iload 5, 2) := by decide +kernel
theorem dX3_find_37 : decode cX3_find 37 = .ok (.ishl, 1) := by decide +kernel
theorem dX3_find_38 : decode cX3_find 38 = .ok (.aload_n 0, 1) := by decide +kernel
theorem dX3_find_39 : decode cX3_find 39 = .ok (.getfield 9, 3) := by decide +kernel
theorem dX3_find_42 : decode cX3_find 42 = .ok (.arraylength, 1) := by decide +kernel
theorem dX3_find_43 : decode cX3_find 43 = .ok (.aload_n 0, 1) := by decide +kernel
theorem dX3_find_44 : decode cX3_find 44 = .ok (.getfield 15, 3) := by decide +kernel
theorem dX3_find_47 : decode cX3_find 47 = .ok (.arraylength, 1) := by decide +kernel
theorem dX3_find_48 : decode cX3_find 48 = .ok (.invokestatic 42, 3) := by decide +kernel
theorem dX3_find_51 : decode cX3_find 51 = .ok (.invokestatic 42, 3) := by decide +kernel
theorem dX3_find_54 : decode cX3_find 54 = .ok (.istore 6, 2) := by decide +kernel
theorem dX3_find_56 : decode cX3_find 56 = .ok (.iconst 0, 1) := by decide +kernel
theorem dX3_find_57 : decode cX3_find 57 = .ok (.istore 7, 2) := by decide +kernel
theorem dX3_find_59 : decode cX3_find 59 = .ok (.iload 7, 2) := by decide +kernel
theorem dX3_find_61 : decode cX3_find 61 = .ok (.iload 6, 2) := by decide +kernel
theorem dX3_find_63 : decode cX3_find 63 = .ok (.if_icmp .ge 17, 3) := by decide +kernel
theorem dX3_find_66 : decode cX3_find 66 = .ok (.aload_n 0, 1) := by decide +kernel
theorem dX3_find_67 : decode cX3_find 67 = .ok (.getfield 9, 3) := by decide +kernel
theorem dX3_find_70 : decode cX3_find 70 = .ok (.iload 7, 2) := by decide +kernel
theorem dX3_find_72 : decode cX3_find 72 = .ok (.iconst 0, 1) := by decide +kernel
theorem dX3_find_73 : decode cX3_find 73 = .ok (.iastore, 1) := by decide +kernel
theorem dX3_find_74 : decode cX3_find 74 = .ok (.iinc 7 1, 3) := by decide +kernel
theorem dX3_find_77 : decode cX3_find 77 = .ok (.goto (-18), 3) := by decide +kernel
theorem dX3_find_80 : decode cX3_find 80 = .ok (.aload_n 0, 1) := by decide +kernel
theorem dX3_find_81 : decode cX3_find 81 = .ok (.aload_n 0, 1) := by decide +kernel
theorem dX3_find_82 : decode cX3_find 82 = .ok (.getfield 38, 3) := by decide +kernel
theorem dX3_find_85 : decode cX3_find 85 = .ok (.aload_n 1, 1) := by decide +kernel
theorem dX3_find_86 : decode cX3_find 86 = .ok (.getfield 48, 3) := by decide +kernel
theorem dX3_find_89 : decode cX3_find 89 = .ok (.getfield 54, 3) := by decide +kernel
theorem dX3_find_92 : decode cX3_find 92 = .ok (.lconst 0, 1) := by decide +kernel
theorem dX3_find_93 : decode cX3_find 93 = .ok (.invokevirtual 59, 3) := by decide +kernel
theorem dX3_find_96 : decode cX3_find 96 = .ok (.iconst 0, 1) := by decide +kernel
theorem dX3_find_97 : decode cX3_find 97 = .ok (.istore 7, 2) := by decide +kernel
theorem dX3_find_99 : decode cX3_find 99 = .ok (.iload 7, 2) := by decide +kernel
theorem dX3_find_101 : decode cX3_find 101 = .ok (.iload 6, 2) := by decide +kernel
theorem dX3_find_103 : decode cX3_find 103 = .ok (.if_icmp .ge 70, 3) := by decide +kernel
theorem dX3_find_106 : decode cX3_find 106 = .ok (.aload_n 0, 1) := by decide +kernel
theorem dX3_find_107 : decode cX3_find 107 = .ok (.getfield 9, 3) := by decide +kernel
theorem dX3_find_110 : decode cX3_find 110 = .ok (.iload 7, 2) := by decide +kernel
theorem dX3_find_112 : decode cX3_find 112 = .ok (.iaload, 1) := by decide +kernel
theorem dX3_find_113 : decode cX3_find 113 = .ok (.aload_n 2, 1) := by decide +kernel
theorem dX3_find_114 : decode cX3_find 114 = .ok (.getfield 54, 3) := by decide +kernel
theorem dX3_find_117 : decode cX3_find 117 = .ok (.iand, 1) := by decide +kernel
theorem dX3_find_118 : decode cX3_find 118 = .ok (.ifCond .eq 19, 3) := by decide +kernel
theorem dX3_find_121 : decode cX3_find 121 = .ok (.aload_n 0, 1) := by decide +kernel
theorem dX3_find_122 : decode cX3_find 122 = .ok (.iload 7, 2) := by decide +kernel
theorem dX3_find_124 : decode cX3_find 124 = .ok (.aload_n 0, 1) := by decide +kernel
theorem dX3_find_125 : decode cX3_find 125 = .ok (.getfield 15, 3) := by decide +kernel
theorem dX3_find_128 : decode cX3_find 128 = .ok (.iload 7, 2) := by decide +kernel
theorem dX3_find_130 : decode cX3_find 130 = .ok (.laload, 1) := by decide +kernel
theorem dX3_find_131 : decode cX3_find 131 = .ok (.invokevirtual 63, 3) := by decide +kernel
theorem dX3_find_134 : decode cX3_find 134 = .ok (.goto 33, 3) := by decide +kernel
theorem dX3_find_137 : decode cX3_find 137 = .ok (.aload_n 0, 1) := by decide +kernel
theorem dX3_find_138 : decode cX3_find 138 = .ok (.getfield 9, 3) := by decide +kernel
theorem dX3_find_141 : decode cX3_find 141 = .ok (.iload 7, 2) := by decide +kernel
theorem dX3_find_143 : decode cX3_find 143 = .ok (.iaload, 1) := by decide +kernel
theorem dX3_find_144 : decode cX3_find 144 = .ok (.ifCond .eq 23, 3) := by decide +kernel
theorem dX3_find_147 : decode cX3_find 147 = .ok (.aload_n 0, 1) := by decide +kernel
theorem dX3_find_148 : decode cX3_find 148 = .ok (.iload 7, 2) := by decide +kernel
theorem dX3_find_150 : decode cX3_find 150 = .ok (.aload_n 0, 1) := by decide +kernel
theorem dX3_find_151 : decode cX3_find 151 = .ok (.getfield 9, 3) := by decide +kernel
theorem dX3_find_154 : decode cX3_find 154 = .ok (.iload 7, 2) := by decide +kernel
theorem dX3_find_156 : decode cX3_find 156 = .ok (.iaload, 1) := by decide +kernel
theorem dX3_find_157 : decode cX3_find 157 = .ok (.aload_n 0, 1) := by decide +kernel
theorem dX3_find_158 : decode cX3_find 158 = .ok (.getfield 15, 3) := by decide +kernel
theorem dX3_find_161 : decode cX3_find 161 = .ok (.iload 7, 2) := by decide +kernel
theorem dX3_find_163 : decode cX3_find 163 = .ok (.laload, 1) := by decide +kernel
theorem dX3_find_164 : decode cX3_find 164 = .ok (.invokevirtual 67, 3) := by decide +kernel
theorem dX3_find_167 : decode cX3_find 167 = .ok (.iinc 7 1, 3) := by decide +kernel
theorem dX3_find_170 : decode cX3_find 170 = .ok (.goto (-71), 3) := by decide +kernel
theorem dX3_find_173 : decode cX3_find 173 = .ok (.return_, 1) := by decide +kernel
theorem dX3_doorAt_0 : decode cX3_doorAt 0 = .ok (.aload_n 0, 1) := by decide +kernel
theorem dX3_doorAt_1 : decode cX3_doorAt 1 = .ok (.getfield 70, 3) := by decide +kernel
theorem dX3_doorAt_4 : decode cX3_doorAt 4 = .ok (.iconst 4, 1) := by decide +kernel
theorem dX3_doorAt_5 : decode cX3_doorAt 5 = .ok (.aload_n 0, 1) := by decide +kernel
theorem dX3_doorAt_6 : decode cX3_doorAt 6 = .ok (.getfield 74, 3) := by decide +kernel
theorem dX3_doorAt_9 : decode cX3_doorAt 9 = .ok (.iconst 1, 1) := by decide +kernel
theorem dX3_doorAt_10 : decode cX3_doorAt 10 = .ok (.isub, 1) := by decide +kernel
theorem dX3_doorAt_11 : decode cX3_doorAt 11 = .ok (.iload_n 1, 1) := by decide +kernel
theorem dX3_doorAt_12 : decode cX3_doorAt 12 = .ok (.isub, 1) := by decide +kernel
theorem dX3_doorAt_13 : decode cX3_doorAt 13 = .ok (.imul, 1) := by decide +kernel
theorem dX3_doorAt_14 : decode cX3_doorAt 14 = .ok (.lshr, 1) := by decide +kernel
theorem dX3_doorAt_15 : decode cX3_doorAt 15 = .ok (.l2i, 1) := by decide +kernel
theorem dX3_doorAt_16 : decode cX3_doorAt 16 = .ok (.bipush 15, 2) := by decide +kernel
theorem dX3_doorAt_18 : decode cX3_doorAt 18 = .ok (.iand, 1) := by decide +kernel
theorem dX3_doorAt_19 : decode cX3_doorAt 19 = .ok (.ireturn, 1) := by decide +kernel
theorem dX3_comeTo_0 : decode cX3_comeTo 0 = .ok (.iload_n 1, 1) := by decide +kernel
theorem dX3_comeTo_1 : decode cX3_comeTo 1 = .ok (.ifCond .lt 21, 3) := by decide +kernel
theorem dX3_comeTo_4 : decode cX3_comeTo 4 = .ok (.iload_n 1, 1) := by decide +kernel
theorem dX3_comeTo_5 : decode cX3_comeTo 5 = .ok (.aload_n 0, 1) := by decide +kernel
theorem dX3_comeTo_6 : decode cX3_comeTo 6 = .ok (.getfield 9, 3) := by decide +kernel
theorem dX3_comeTo_9 : decode cX3_comeTo 9 = .ok (.arraylength, 1) := by decide +kernel
theorem dX3_comeTo_10 : decode cX3_comeTo 10 = .ok (.if_icmp .ge 12, 3) := by decide +kernel
theorem dX3_comeTo_13 : decode cX3_comeTo 13 = .ok (.iload_n 1, 1) := by decide +kernel
theorem dX3_comeTo_14 : decode cX3_comeTo 14 = .ok (.aload_n 0, 1) := by decide +kernel
theorem dX3_comeTo_15 : decode cX3_comeTo 15 = .ok (.getfield 15, 3) := by decide +kernel
theorem dX3_comeTo_18 : decode cX3_comeTo 18 = .ok (.arraylength, 1) := by decide +kernel
theorem dX3_comeTo_19 : decode cX3_comeTo 19 = .ok (.if_icmp .lt 4, 3) := by decide +kernel
theorem dX3_comeTo_22 : decode cX3_comeTo 22 = .ok (.return_, 1) := by decide +kernel
theorem dX3_comeTo_23 : decode cX3_comeTo 23 = .ok (.aload_n 0, 1) := by decide +kernel
theorem dX3_comeTo_24 : decode cX3_comeTo 24 = .ok (.getfield 9, 3) := by decide +kernel
theorem dX3_comeTo_27 : decode cX3_comeTo 27 = .ok (.iload_n 1, 1) := by decide +kernel
theorem dX3_comeTo_28 : decode cX3_comeTo 28 = .ok (.iaload, 1) := by decide +kernel
theorem dX3_comeTo_29 : decode cX3_comeTo 29 = .ok (.ifCond .ne 28, 3) := by decide +kernel
theorem dX3_comeTo_32 : decode cX3_comeTo 32 = .ok (.aload_n 0, 1) := by decide +kernel
theorem dX3_comeTo_33 : decode cX3_comeTo 33 = .ok (.getfield 9, 3) := by decide +kernel
theorem dX3_comeTo_36 : decode cX3_comeTo 36 = .ok (.iload_n 1, 1) := by decide +kernel
theorem dX3_comeTo_37 : decode cX3_comeTo 37 = .ok (.aload_n 0, 1) := by decide +kernel
theorem dX3_comeTo_38 : decode cX3_comeTo 38 = .ok (.getfield 27, 3) := by decide +kernel
theorem dX3_comeTo_41 : decode cX3_comeTo 41 = .ok (.iload_n 2, 1) := by decide +kernel
theorem dX3_comeTo_42 : decode cX3_comeTo 42 = .ok (.iload_n 1, 1) := by decide +kernel
theorem dX3_comeTo_43 : decode cX3_comeTo 43 = .ok (.invokestatic 77, 3) := by decide +kernel
theorem dX3_comeTo_46 : decode cX3_comeTo 46 = .ok (.iastore, 1) := by decide +kernel
theorem dX3_comeTo_47 : decode cX3_comeTo 47 = .ok (.aload_n 0, 1) := by decide +kernel
theorem dX3_comeTo_48 : decode cX3_comeTo 48 = .ok (.getfield 15, 3) := by decide +kernel
theorem dX3_comeTo_51 : decode cX3_comeTo 51 = .ok (.iload_n 1, 1) := by decide +kernel
theorem dX3_comeTo_52 : decode cX3_comeTo 52 = .ok (.lload_n 3, 1) := by decide +kernel
theorem dX3_comeTo_53 : decode cX3_comeTo 53 = .ok (.lastore, 1) := by decide +kernel
theorem dX3_comeTo_54 : decode cX3_comeTo 54 = .ok (.goto 21, 3) := by decide +kernel
theorem dX3_comeTo_57 : decode cX3_comeTo 57 = .ok (.lload_n 3, 1) := by decide +kernel
theorem dX3_comeTo_58 : decode cX3_comeTo 58 = .ok (.aload_n 0, 1) := by decide +kernel
theorem dX3_comeTo_59 : decode cX3_comeTo 59 = .ok (.getfield 15, 3) := by decide +kernel
theorem dX3_comeTo_62 : decode cX3_comeTo 62 = .ok (.iload_n 1, 1) := by decide +kernel
theorem dX3_comeTo_63 : decode cX3_comeTo 63 = .ok (.laload, 1) := by decide +kernel
theorem dX3_comeTo_64 : decode cX3_comeTo 64 = .ok (.lcmp, 1) := by decide +kernel
theorem dX3_comeTo_65 : decode cX3_comeTo 65 = .ok (.ifCond .ge 10, 3) := by decide +kernel
theorem dX3_comeTo_68 : decode cX3_comeTo 68 = .ok (.aload_n 0, 1) := by decide +kernel
theorem dX3_comeTo_69 : decode cX3_comeTo 69 = .ok (.getfield 15, 3) := by decide +kernel
theorem dX3_comeTo_72 : decode cX3_comeTo 72 = .ok (.iload_n 1, 1) := by decide +kernel
theorem dX3_comeTo_73 : decode cX3_comeTo 73 = .ok (.lload_n 3, 1) := by decide +kernel
theorem dX3_comeTo_74 : decode cX3_comeTo 74 = .ok (.lastore, 1) := by decide +kernel
theorem dX3_comeTo_75 : decode cX3_comeTo 75 = .ok (.return_, 1) := by decide +kernel
theorem dX3_goOnFrom_0 : decode cX3_goOnFrom 0 = .ok (.aload_n 0, 1) := by decide +kernel
theorem dX3_goOnFrom_1 : decode cX3_goOnFrom 1 = .ok (.iload_n 1, 1) := by decide +kernel
theorem dX3_goOnFrom_2 : decode cX3_goOnFrom 2 = .ok (.iload_n 2, 1) := by decide +kernel
theorem dX3_goOnFrom_3 : decode cX3_goOnFrom 3 = .ok (.invokevirtual 81, 3) := by decide +kernel
theorem dX3_goOnFrom_6 : decode cX3_goOnFrom 6 = .ok (.istore 5, 2) := by decide +kernel
theorem dX3_goOnFrom_8 : decode cX3_goOnFrom 8 = .ok (.iconst 0, 1) := by decide +kernel
theorem dX3_goOnFrom_9 : decode cX3_goOnFrom 9 = .ok (.istore 6, 2) := by decide +kernel
theorem dX3_goOnFrom_11 : decode cX3_goOnFrom 11 = .ok (.iload 6, 2) := by decide +kernel
theorem dX3_goOnFrom_13 : decode cX3_goOnFrom 13 = .ok (.aload_n 0, 1) := by decide +kernel
theorem dX3_goOnFrom_14 : decode cX3_goOnFrom 14 = .ok (.getfield 27, 3) := by decide +kernel
theorem dX3_goOnFrom_17 : decode cX3_goOnFrom 17 = .ok (.invokevirtual 84, 3) := by decide +kernel
theorem dX3_goOnFrom_20 : decode cX3_goOnFrom 20 = .ok (.if_icmp .ge 82, 3) := by decide +kernel
theorem dX3_goOnFrom_23 : decode cX3_goOnFrom 23 = .ok (.aload_n 0, 1) := by decide +kernel
theorem dX3_goOnFrom_24 : decode cX3_goOnFrom 24 = .ok (.getfield 27, 3) := by decide +kernel
theorem dX3_goOnFrom_27 : decode cX3_goOnFrom 27 = .ok (.iload 6, 2) := by decide +kernel
theorem dX3_goOnFrom_29 : decode cX3_goOnFrom 29 = .ok (.invokevirtual 90, 3) := by decide +kernel
theorem dX3_goOnFrom_32 : decode cX3_goOnFrom 32 = .ok (.checkcast 94, 3) := by decide +kernel
theorem dX3_goOnFrom_35 : decode cX3_goOnFrom 35 = .ok (.astore 7, 2) := by decide +kernel
theorem dX3_goOnFrom_37 : decode cX3_goOnFrom 37 = .ok (.aload 7, 2) := by decide +kernel
theorem dX3_goOnFrom_39 : decode cX3_goOnFrom 39 = .ok (.iload_n 1, 1) := by decide +kernel
theorem dX3_goOnFrom_40 : decode cX3_goOnFrom 40 = .ok (.invokevirtual 96, 3) := by decide +kernel
theorem dX3_goOnFrom_43 : decode cX3_goOnFrom 43 = .ok (.ifCond .ne 53, 3) := by decide +kernel
theorem dX3_goOnFrom_46 : decode cX3_goOnFrom 46 = .ok (.aload 7, 2) := by decide +kernel
theorem dX3_goOnFrom_48 : decode cX3_goOnFrom 48 = .ok (.iload_n 2, 1) := by decide +kernel
theorem dX3_goOnFrom_49 : decode cX3_goOnFrom 49 = .ok (.invokevirtual 100, 3) := by decide +kernel
theorem dX3_goOnFrom_52 : decode cX3_goOnFrom 52 = .ok (.ifCond .eq 44, 3) := by decide +kernel
theorem dX3_goOnFrom_55 : decode cX3_goOnFrom 55 = .ok (.iload 5, 2) := by decide +kernel
theorem dX3_goOnFrom_57 : decode cX3_goOnFrom 57 = .ok (.aload 7, 2) := by decide +kernel
theorem dX3_goOnFrom_59 : decode cX3_goOnFrom 59 = .ok (.getfield 103, 3) := by decide +kernel
theorem dX3_goOnFrom_62 : decode cX3_goOnFrom 62 = .ok (.invokestatic 106, 3) := by decide +kernel
theorem dX3_goOnFrom_65 : decode cX3_goOnFrom 65 = .ok (.ifCond .eq 31, 3) := by decide +kernel
theorem dX3_goOnFrom_68 : decode cX3_goOnFrom 68 = .ok (.aload_n 0, 1) := by decide +kernel
theorem dX3_goOnFrom_69 : decode cX3_goOnFrom 69 = .ok (.iload_n 1, 1) := by decide +kernel
theorem dX3_goOnFrom_70 : decode cX3_goOnFrom 70 = .ok (.aload 7, 2) := by decide +kernel
theorem dX3_goOnFrom_72 : decode cX3_goOnFrom 72 = .ok (.getfield 110, 3) := by decide +kernel
theorem dX3_goOnFrom_75 : decode cX3_goOnFrom 75 = .ok (.ior, 1) := by decide +kernel
theorem dX3_goOnFrom_76 : decode cX3_goOnFrom 76 = .ok (.iload_n 2, 1) := by decide +kernel
theorem dX3_goOnFrom_77 : decode cX3_goOnFrom 77 = .ok (.aload 7, 2) := by decide +kernel
theorem dX3_goOnFrom_79 : decode cX3_goOnFrom 79 = .ok (.getfield 113, 3) := by decide +kernel
theorem dX3_goOnFrom_82 : decode cX3_goOnFrom 82 = .ok (.ior, 1) := by decide +kernel
theorem dX3_goOnFrom_83 : decode cX3_goOnFrom 83 = .ok (.lload_n 3, 1) := by decide +kernel
theorem dX3_goOnFrom_84 : decode cX3_goOnFrom 84 = .ok (.iconst 4, 1) := by decide +kernel
theorem dX3_goOnFrom_85 : decode cX3_goOnFrom 85 = .ok (.lshl, 1) := by decide +kernel
theorem dX3_goOnFrom_86 : decode cX3_goOnFrom 86 = .ok (.aload 7, 2) := by decide +kernel
theorem dX3_goOnFrom_88 : decode cX3_goOnFrom 88 = .ok (.getfield 116, 3) := by decide +kernel
theorem dX3_goOnFrom_91 : decode cX3_goOnFrom 91 = .ok (.i2l, 1) := by decide +kernel
theorem dX3_goOnFrom_92 : decode cX3_goOnFrom 92 = .ok (.lor, 1) := by decide +kernel
theorem dX3_goOnFrom_93 : decode cX3_goOnFrom 93 = .ok (.invokevirtual 59, 3) := by decide +kernel
theorem dX3_goOnFrom_96 : decode cX3_goOnFrom 96 = .ok (.iinc 6 1, 3) := by decide +kernel
theorem dX3_goOnFrom_99 : decode cX3_goOnFrom 99 = .ok (.goto (-88), 3) := by decide +kernel
theorem dX3_goOnFrom_102 : decode cX3_goOnFrom 102 = .ok (.return_, 1) := by decide +kernel
theorem dX3_keysLeft_0 : decode cX3_keysLeft 0 = .ok (.iconst 0, 1) := by decide +kernel
theorem dX3_keysLeft_1 : decode cX3_keysLeft 1 = .ok (.istore_n 3, 1) := by decide +kernel
theorem dX3_keysLeft_2 : decode cX3_keysLeft 2 = .ok (.iconst 0, 1) := by decide +kernel
theorem dX3_keysLeft_3 : decode cX3_keysLeft 3 = .ok (.istore 4, 2) := by decide +kernel
theorem dX3_keysLeft_5 : decode cX3_keysLeft 5 = .ok (.iload 4, 2) := by decide +kernel
theorem dX3_keysLeft_7 : decode cX3_keysLeft 7 = .ok (.aload_n 0, 1) := by decide +kernel
theorem dX3_keysLeft_8 : decode cX3_keysLeft 8 = .ok (.getfield 31, 3) := by decide +kernel
theorem dX3_keysLeft_11 : decode cX3_keysLeft 11 = .ok (.invokevirtual 84, 3) := by decide +kernel
theorem dX3_keysLeft_14 : decode cX3_keysLeft 14 = .ok (.if_icmp .ge 48, 3) := by decide +kernel
theorem dX3_keysLeft_17 : decode cX3_keysLeft 17 = .ok (.aload_n 0, 1) := by decide +kernel
theorem dX3_keysLeft_18 : decode cX3_keysLeft 18 = .ok (.getfield 31, 3) := by decide +kernel
theorem dX3_keysLeft_21 : decode cX3_keysLeft 21 = .ok (.iload 4, 2) := by decide +kernel
theorem dX3_keysLeft_23 : decode cX3_keysLeft 23 = .ok (.invokevirtual 90, 3) := by decide +kernel
theorem dX3_keysLeft_26 : decode cX3_keysLeft 26 = .ok (.checkcast 119, 3) := by decide +kernel
theorem dX3_keysLeft_29 : decode cX3_keysLeft 29 = .ok (.astore 5, 2) := by decide +kernel
theorem dX3_keysLeft_31 : decode cX3_keysLeft 31 = .ok (.aload 5, 2) := by decide +kernel
theorem dX3_keysLeft_33 : decode cX3_keysLeft 33 = .ok (.aload_n 0, 1) := by decide +kernel
theorem dX3_keysLeft_34 : decode cX3_keysLeft 34 = .ok (.getfield 23, 3) := by decide +kernel
theorem dX3_keysLeft_37 : decode cX3_keysLeft 37 = .ok (.iload_n 2, 1) := by decide +kernel
theorem dX3_keysLeft_38 : decode cX3_keysLeft 38 = .ok (.invokevirtual 121, 3) := by decide +kernel
theorem dX3_keysLeft_41 : decode cX3_keysLeft 41 = .ok (.ifCond .eq 15, 3) := by decide +kernel
theorem dX3_keysLeft_44 : decode cX3_keysLeft 44 = .ok (.iload_n 3, 1) := by decide +kernel
theorem dX3_keysLeft_45 : decode cX3_keysLeft 45 = .ok (.iconst 1, 1) := by decide +kernel
theorem dX3_keysLeft_46 : decode cX3_keysLeft 46 = .ok (.iconst 5, 1) := by decide +kernel
theorem dX3_keysLeft_47 : decode cX3_keysLeft 47 = .ok (.aload 5, 2) := by decide +kernel
theorem dX3_keysLeft_49 : decode cX3_keysLeft 49 = .ok (.getfield 125, 3) := by decide +kernel
theorem dX3_keysLeft_52 : decode cX3_keysLeft 52 = .ok (.imul, 1) := by decide +kernel
theorem dX3_keysLeft_53 : decode cX3_keysLeft 53 = .ok (.ishl, 1) := by decide +kernel
theorem dX3_keysLeft_54 : decode cX3_keysLeft 54 = .ok (.iadd, 1) := by decide +kernel
theorem dX3_keysLeft_55 : decode cX3_keysLeft 55 = .ok (.istore_n 3, 1) := by decide +kernel
theorem dX3_keysLeft_56 : decode cX3_keysLeft 56 = .ok (.iinc 4 1, 3) := by decide +kernel
theorem dX3_keysLeft_59 : decode cX3_keysLeft 59 = .ok (.goto (-54), 3) := by decide +kernel
theorem dX3_keysLeft_62 : decode cX3_keysLeft 62 = .ok (.iconst 0, 1) := by decide +kernel
theorem dX3_keysLeft_63 : decode cX3_keysLeft 63 = .ok (.istore 4, 2) := by decide +kernel
theorem dX3_keysLeft_65 : decode cX3_keysLeft 65 = .ok (.iload 4, 2) := by decide +kernel
theorem dX3_keysLeft_67 : decode cX3_keysLeft 67 = .ok (.aload_n 0, 1) := by decide +kernel
theorem dX3_keysLeft_68 : decode cX3_keysLeft 68 = .ok (.getfield 27, 3) := by decide +kernel
theorem dX3_keysLeft_71 : decode cX3_keysLeft 71 = .ok (.invokevirtual 84, 3) := by decide +kernel
theorem dX3_keysLeft_74 : decode cX3_keysLeft 74 = .ok (.if_icmp .ge 45, 3) := by decide +kernel
theorem dX3_keysLeft_77 : decode cX3_keysLeft 77 = .ok (.aload_n 0, 1) := by decide +kernel
theorem dX3_keysLeft_78 : decode cX3_keysLeft 78 = .ok (.getfield 27, 3) := by decide +kernel
theorem dX3_keysLeft_81 : decode cX3_keysLeft 81 = .ok (.iload 4, 2) := by decide +kernel
theorem dX3_keysLeft_83 : decode cX3_keysLeft 83 = .ok (.invokevirtual 90, 3) := by decide +kernel
theorem dX3_keysLeft_86 : decode cX3_keysLeft 86 = .ok (.checkcast 94, 3) := by decide +kernel
theorem dX3_keysLeft_89 : decode cX3_keysLeft 89 = .ok (.astore 5, 2) := by decide +kernel
theorem dX3_keysLeft_91 : decode cX3_keysLeft 91 = .ok (.aload_n 0, 1) := by decide +kernel
theorem dX3_keysLeft_92 : decode cX3_keysLeft 92 = .ok (.aload 5, 2) := by decide +kernel
theorem dX3_keysLeft_94 : decode cX3_keysLeft 94 = .ok (.iload_n 1, 1) := by decide +kernel
theorem dX3_keysLeft_95 : decode cX3_keysLeft 95 = .ok (.invokevirtual 126, 3) := by decide +kernel
theorem dX3_keysLeft_98 : decode cX3_keysLeft 98 = .ok (.ifCond .eq 15, 3) := by decide +kernel
theorem dX3_keysLeft_101 : decode cX3_keysLeft 101 = .ok (.iload_n 3, 1) := by decide +kernel
theorem dX3_keysLeft_102 : decode cX3_keysLeft 102 = .ok (.iconst 1, 1) := by decide +kernel
theorem dX3_keysLeft_103 : decode cX3_keysLeft 103 = .ok (.iconst 5, 1) := by decide +kernel
theorem dX3_keysLeft_104 : decode cX3_keysLeft 104 = .ok (.aload 5, 2) := by decide +kernel
theorem dX3_keysLeft_106 : decode cX3_keysLeft 106 = .ok (.getfield 103, 3) := by decide +kernel
theorem dX3_keysLeft_109 : decode cX3_keysLeft 109 = .ok (.imul, 1) := by decide +kernel
theorem dX3_keysLeft_110 : decode cX3_keysLeft 110 = .ok (.ishl, 1) := by decide +kernel
theorem dX3_keysLeft_111 : decode cX3_keysLeft 111 = .ok (.isub, 1) := by decide +kernel
theorem dX3_keysLeft_112 : decode cX3_keysLeft 112 = .ok (.istore_n 3, 1) := by decide +kernel
theorem dX3_keysLeft_113 : decode cX3_keysLeft 113 = .ok (.iinc 4 1, 3) := by decide +kernel
theorem dX3_keysLeft_116 : decode cX3_keysLeft 116 = .ok (.goto (-51), 3) := by decide +kernel
theorem dX3_keysLeft_119 : decode cX3_keysLeft 119 = .ok (.iload_n 3, 1) := by decide +kernel
theorem dX3_keysLeft_120 : decode cX3_keysLeft 120 = .ok (.ireturn, 1) := by decide +kernel
theorem dX3_hasOne_0 : decode cX3_hasOne 0 = .ok (.iload_n 0, 1) := by decide +kernel
theorem dX3_hasOne_1 : decode cX3_hasOne 1 = .ok (.iconst 5, 1) := by decide +kernel
theorem dX3_hasOne_2 : decode cX3_hasOne 2 = .ok (.iload_n 1, 1) := by decide +kernel
theorem dX3_hasOne_3 : decode cX3_hasOne 3 = .ok (.imul, 1) := by decide +kernel
theorem dX3_hasOne_4 : decode cX3_hasOne 4 = .ok (.ishr, 1) := by decide +kernel
theorem dX3_hasOne_5 : decode cX3_hasOne 5 = .ok (.bipush 31, 2) := by decide +kernel
theorem dX3_hasOne_7 : decode cX3_hasOne 7 = .ok (.iand, 1) := by decide +kernel
theorem dX3_hasOne_8 : decode cX3_hasOne 8 = .ok (.ifCond .eq 7, 3) := by decide +kernel
theorem dX3_hasOne_11 : decode cX3_hasOne 11 = .ok (.iconst 1, 1) := by decide +kernel
theorem dX3_hasOne_12 : decode cX3_hasOne 12 = .ok (.goto 4, 3) := by decide +kernel
theorem dX3_hasOne_15 : decode cX3_hasOne 15 = .ok (.iconst 0, 1) := by decide +kernel
theorem dX3_hasOne_16 : decode cX3_hasOne 16 = .ok (.ireturn, 1) := by decide +kernel
theorem dX3_isOpenedByPlan_0 : decode cX3_isOpenedByPlan 0 = .ok (.iload_n 2, 1) := by decide +kernel
theorem dX3_isOpenedByPlan_1 : decode cX3_isOpenedByPlan 1 = .ok (.aload_n 0, 1) := by decide +kernel
theorem dX3_isOpenedByPlan_2 : decode cX3_isOpenedByPlan 2 = .ok (.getfield 38, 3) := by decide +kernel
theorem dX3_isOpenedByPlan_5 : decode cX3_isOpenedByPlan 5 = .ok (.iconst (-1), 1) := by decide +kernel
theorem dX3_isOpenedByPlan_6 : decode cX3_isOpenedByPlan 6 = .ok (.ixor, 1) := by decide +kernel
theorem dX3_isOpenedByPlan_7 : decode cX3_isOpenedByPlan 7 = .ok (.iand, 1) := by decide +kernel
theorem dX3_isOpenedByPlan_8 : decode cX3_isOpenedByPlan 8 = .ok (.aload_n 1, 1) := by decide +kernel
theorem dX3_isOpenedByPlan_9 : decode cX3_isOpenedByPlan 9 = .ok (.getfield 110, 3) := by decide +kernel
theorem dX3_isOpenedByPlan_12 : decode cX3_isOpenedByPlan 12 = .ok (.iand, 1) := by decide +kernel
theorem dX3_isOpenedByPlan_13 : decode cX3_isOpenedByPlan 13 = .ok (.ifCond .eq 7, 3) := by decide +kernel
theorem dX3_isOpenedByPlan_16 : decode cX3_isOpenedByPlan 16 = .ok (.iconst 1, 1) := by decide +kernel
theorem dX3_isOpenedByPlan_17 : decode cX3_isOpenedByPlan 17 = .ok (.goto 4, 3) := by decide +kernel
theorem dX3_isOpenedByPlan_20 : decode cX3_isOpenedByPlan 20 = .ok (.iconst 0, 1) := by decide +kernel
theorem dX3_isOpenedByPlan_21 : decode cX3_isOpenedByPlan 21 = .ok (.ireturn, 1) := by decide +kernel
theorem dX3_keepIfBetter_0 : decode cX3_keepIfBetter 0 = .ok (.aload_n 0, 1) := by decide +kernel
theorem dX3_keepIfBetter_1 : decode cX3_keepIfBetter 1 = .ok (.iload_n 1, 1) := by decide +kernel
theorem dX3_keepIfBetter_2 : decode cX3_keepIfBetter 2 = .ok (.invokevirtual 130, 3) := by decide +kernel
theorem dX3_keepIfBetter_5 : decode cX3_keepIfBetter 5 = .ok (.istore 4, 2) := by decide +kernel
theorem dX3_keepIfBetter_7 : decode cX3_keepIfBetter 7 = .ok (.iload_n 1, 1) := by decide +kernel
theorem dX3_keepIfBetter_8 : decode cX3_keepIfBetter 8 = .ok (.aload_n 0, 1) := by decide +kernel
theorem dX3_keepIfBetter_9 : decode cX3_keepIfBetter 9 = .ok (.getfield 38, 3) := by decide +kernel
theorem dX3_keepIfBetter_12 : decode cX3_keepIfBetter 12 = .ok (.iconst (-1), 1) := by decide +kernel
theorem dX3_keepIfBetter_13 : decode cX3_keepIfBetter 13 = .ok (.ixor, 1) := by decide +kernel
theorem dX3_keepIfBetter_14 : decode cX3_keepIfBetter 14 = .ok (.iand, 1) := by decide +kernel
theorem dX3_keepIfBetter_15 : decode cX3_keepIfBetter 15 = .ok (.invokestatic 134, 3) := by decide +kernel
theorem dX3_keepIfBetter_18 : decode cX3_keepIfBetter 18 = .ok (.istore 5, 2) := by decide +kernel
theorem dX3_keepIfBetter_20 : decode cX3_keepIfBetter 20 = .ok (.aload_n 0, 1) := by decide +kernel
theorem dX3_keepIfBetter_21 : decode cX3_keepIfBetter 21 = .ok (.getfield 19, 3) := by decide +kernel
theorem dX3_keepIfBetter_24 : decode cX3_keepIfBetter 24 = .ok (.ifCond .eq 15, 3) := by decide +kernel
theorem dX3_keepIfBetter_27 : decode cX3_keepIfBetter 27 = .ok (.aload_n 0, 1) := by decide +kernel
theorem dX3_keepIfBetter_28 : decode cX3_keepIfBetter 28 = .ok (.iload 4, 2) := by decide +kernel
theorem dX3_keepIfBetter_30 : decode cX3_keepIfBetter 30 = .ok (.iload 5, 2) := by decide +kernel
theorem dX3_keepIfBetter_32 : decode cX3_keepIfBetter 32 = .ok (.lload_n 2, 1) := by decide +kernel
theorem dX3_keepIfBetter_33 : decode cX3_keepIfBetter 33 = .ok (.invokevirtual 139, 3) := by decide +kernel
theorem dX3_keepIfBetter_36 : decode cX3_keepIfBetter 36 = .ok (.ifCond .eq 25, 3) := by decide +kernel
theorem dX3_keepIfBetter_39 : decode cX3_keepIfBetter 39 = .ok (.aload_n 0, 1) := by decide +kernel
theorem dX3_keepIfBetter_40 : decode cX3_keepIfBetter 40 = .ok (.iconst 1, 1) := by decide +kernel
theorem dX3_keepIfBetter_41 : decode cX3_keepIfBetter 41 = .ok (.putfield 19, 3) := by decide +kernel
theorem dX3_keepIfBetter_44 : decode cX3_keepIfBetter 44 = .ok (.aload_n 0, 1) := by decide +kernel
theorem dX3_keepIfBetter_45 : decode cX3_keepIfBetter 45 = .ok (.iload 4, 2) := by decide +kernel
theorem dX3_keepIfBetter_47 : decode cX3_keepIfBetter 47 = .ok (.putfield 143, 3) := by decide +kernel
theorem dX3_keepIfBetter_50 : decode cX3_keepIfBetter 50 = .ok (.aload_n 0, 1) := by decide +kernel
theorem dX3_keepIfBetter_51 : decode cX3_keepIfBetter 51 = .ok (.iload 5, 2) := by decide +kernel
theorem dX3_keepIfBetter_53 : decode cX3_keepIfBetter 53 = .ok (.putfield 74, 3) := by decide +kernel
theorem dX3_keepIfBetter_56 : decode cX3_keepIfBetter 56 = .ok (.aload_n 0, 1) := by decide +kernel
theorem dX3_keepIfBetter_57 : decode cX3_keepIfBetter 57 = .ok (.lload_n 2, 1) := by decide +kernel
theorem dX3_keepIfBetter_58 : decode cX3_keepIfBetter 58 = .ok (.putfield 70, 3) := by decide +kernel
theorem dX3_keepIfBetter_61 : decode cX3_keepIfBetter 61 = .ok (.return_, 1) := by decide +kernel
theorem dX3_isBetter_0 : decode cX3_isBetter 0 = .ok (.iload_n 1, 1) := by decide +kernel
theorem dX3_isBetter_1 : decode cX3_isBetter 1 = .ok (.aload_n 0, 1) := by decide +kernel
theorem dX3_isBetter_2 : decode cX3_isBetter 2 = .ok (.getfield 143, 3) := by decide +kernel
theorem dX3_isBetter_5 : decode cX3_isBetter 5 = .ok (.if_icmp .eq 17, 3) := by decide +kernel
theorem dX3_isBetter_8 : decode cX3_isBetter 8 = .ok (.iload_n 1, 1) := by decide +kernel
theorem dX3_isBetter_9 : decode cX3_isBetter 9 = .ok (.aload_n 0, 1) := by decide +kernel
theorem dX3_isBetter_10 : decode cX3_isBetter 10 = .ok (.getfield 143, 3) := by decide +kernel
theorem dX3_isBetter_13 : decode cX3_isBetter 13 = .ok (.if_icmp .ge 7, 3) := by decide +kernel
theorem dX3_isBetter_16 : decode cX3_isBetter 16 = .ok (.iconst 1, 1) := by decide +kernel
theorem dX3_isBetter_17 : decode cX3_isBetter 17 = .ok (.goto 4, 3) := by decide +kernel
theorem dX3_isBetter_20 : decode cX3_isBetter 20 = .ok (.iconst 0, 1) := by decide +kernel
theorem dX3_isBetter_21 : decode cX3_isBetter 21 = .ok (.ireturn, 1) := by decide +kernel
theorem dX3_isBetter_22 : decode cX3_isBetter 22 = .ok (.iload_n 2, 1) := by decide +kernel
theorem dX3_isBetter_23 : decode cX3_isBetter 23 = .ok (.aload_n 0, 1) := by decide +kernel
theorem dX3_isBetter_24 : decode cX3_isBetter 24 = .ok (.getfield 74, 3) := by decide +kernel
theorem dX3_isBetter_27 : decode cX3_isBetter 27 = .ok (.if_icmp .eq 17, 3) := by decide +kernel
theorem dX3_isBetter_30 : decode cX3_isBetter 30 = .ok (.iload_n 2, 1) := by decide +kernel
theorem dX3_isBetter_31 : decode cX3_isBetter 31 = .ok (.aload_n 0, 1) := by decide +kernel
theorem dX3_isBetter_32 : decode cX3_isBetter 32 = .ok (.getfield 74, 3) := by decide +kernel
theorem dX3_isBetter_35 : decode cX3_isBetter 35 = .ok (.if_icmp .ge 7, 3) := by decide +kernel
theorem dX3_isBetter_38 : decode cX3_isBetter 38 = .ok (.iconst 1, 1) := by decide +kernel
theorem dX3_isBetter_39 : decode cX3_isBetter 39 = .ok (.goto 4, 3) := by decide +kernel
theorem dX3_isBetter_42 : decode cX3_isBetter 42 = .ok (.iconst 0, 1) := by decide +kernel
theorem dX3_isBetter_43 : decode cX3_isBetter 43 = .ok (.ireturn, 1) := by decide +kernel
theorem dX3_isBetter_44 : decode cX3_isBetter 44 = .ok (.lload_n 3, 1) := by decide +kernel
theorem dX3_isBetter_45 : decode cX3_isBetter 45 = .ok (.aload_n 0, 1) := by decide +kernel
theorem dX3_isBetter_46 : decode cX3_isBetter 46 = .ok (.getfield 70, 3) := by decide +kernel
theorem dX3_isBetter_49 : decode cX3_isBetter 49 = .ok (.lcmp, 1) := by decide +kernel
theorem dX3_isBetter_50 : decode cX3_isBetter 50 = .ok (.ifCond .ge 7, 3) := by decide +kernel
theorem dX3_isBetter_53 : decode cX3_isBetter 53 = .ok (.iconst 1, 1) := by decide +kernel
theorem dX3_isBetter_54 : decode cX3_isBetter 54 = .ok (.goto 4, 3) := by decide +kernel
theorem dX3_isBetter_57 : decode cX3_isBetter 57 = .ok (.iconst 0, 1) := by decide +kernel
theorem dX3_isBetter_58 : decode cX3_isBetter 58 = .ok (.ireturn, 1) := by decide +kernel
theorem dX3_costOf_0 : decode cX3_costOf 0 = .ok (.iconst 0, 1) := by decide +kernel
theorem dX3_costOf_1 : decode cX3_costOf 1 = .ok (.istore_n 2, 1) := by decide +kernel
theorem dX3_costOf_2 : decode cX3_costOf 2 = .ok (.iconst 0, 1) := by decide +kernel
theorem dX3_costOf_3 : decode cX3_costOf 3 = .ok (.istore_n 3, 1) := by decide +kernel
theorem dX3_costOf_4 : decode cX3_costOf 4 = .ok (.iload_n 3, 1) := by decide +kernel
theorem dX3_costOf_5 : decode cX3_costOf 5 = .ok (.aload_n 0, 1) := by decide +kernel
theorem dX3_costOf_6 : decode cX3_costOf 6 = .ok (.getfield 27, 3) := by decide +kernel
theorem dX3_costOf_9 : decode cX3_costOf 9 = .ok (.invokevirtual 84, 3) := by decide +kernel
theorem dX3_costOf_12 : decode cX3_costOf 12 = .ok (.if_icmp .ge 40, 3) := by decide +kernel
theorem dX3_costOf_15 : decode cX3_costOf 15 = .ok (.aload_n 0, 1) := by decide +kernel
theorem dX3_costOf_16 : decode cX3_costOf 16 = .ok (.getfield 27, 3) := by decide +kernel
theorem dX3_costOf_19 : decode cX3_costOf 19 = .ok (.iload_n 3, 1) := by decide +kernel
theorem dX3_costOf_20 : decode cX3_costOf 20 = .ok (.invokevirtual 90, 3) := by decide +kernel
theorem dX3_costOf_23 : decode cX3_costOf 23 = .ok (.checkcast 94, 3) := by decide +kernel
theorem dX3_costOf_26 : decode cX3_costOf 26 = .ok (.astore 4, 2) := by decide +kernel
theorem dX3_costOf_28 : decode cX3_costOf 28 = .ok (.aload_n 0, 1) := by decide +kernel
theorem dX3_costOf_29 : decode cX3_costOf 29 = .ok (.aload 4, 2) := by decide +kernel
theorem dX3_costOf_31 : decode cX3_costOf 31 = .ok (.iload_n 1, 1) := by decide +kernel
theorem dX3_costOf_32 : decode cX3_costOf 32 = .ok (.invokevirtual 126, 3) := by decide +kernel
theorem dX3_costOf_35 : decode cX3_costOf 35 = .ok (.ifCond .eq 11, 3) := by decide +kernel
theorem dX3_costOf_38 : decode cX3_costOf 38 = .ok (.iload_n 2, 1) := by decide +kernel
theorem dX3_costOf_39 : decode cX3_costOf 39 = .ok (.aload 4, 2) := by decide +kernel
theorem dX3_costOf_41 : decode cX3_costOf 41 = .ok (.getfield 146, 3) := by decide +kernel
theorem dX3_costOf_44 : decode cX3_costOf 44 = .ok (.iadd, 1) := by decide +kernel
theorem dX3_costOf_45 : decode cX3_costOf 45 = .ok (.istore_n 2, 1) := by decide +kernel
theorem dX3_costOf_46 : decode cX3_costOf 46 = .ok (.iinc 3 1, 3) := by decide +kernel
theorem dX3_costOf_49 : decode cX3_costOf 49 = .ok (.goto (-45), 3) := by decide +kernel
theorem dX3_costOf_52 : decode cX3_costOf 52 = .ok (.iload_n 2, 1) := by decide +kernel
theorem dX3_costOf_53 : decode cX3_costOf 53 = .ok (.ireturn, 1) := by decide +kernel
theorem dX4_init_0 : decode cX4_init 0 = .ok (.aload_n 0, 1) := by decide +kernel
theorem dX4_init_1 : decode cX4_init 1 = .ok (.invokespecial 1, 3) := by decide +kernel
theorem dX4_init_4 : decode cX4_init 4 = .ok (.aload_n 0, 1) := by decide +kernel
theorem dX4_init_5 : decode cX4_init 5 = .ok (.iload_n 1, 1) := by decide +kernel
theorem dX4_init_6 : decode cX4_init 6 = .ok (.putfield 7, 3) := by decide +kernel
theorem dX4_init_9 : decode cX4_init 9 = .ok (.aload_n 0, 1) := by decide +kernel
theorem dX4_init_10 : decode cX4_init 10 = .ok (.iconst 1, 1) := by decide +kernel
theorem dX4_init_11 : decode cX4_init 11 = .ok (.iload_n 1, 1) := by decide +kernel
theorem dX4_init_12 : decode cX4_init 12 = .ok (.ishl, 1) := by decide +kernel
theorem dX4_init_13 : decode cX4_init 13 = .ok (.putfield 13, 3) := by decide +kernel
theorem dX4_init_16 : decode cX4_init 16 = .ok (.return_, 1) := by decide +kernel
theorem dJ6_bitCount_0f7a4_0 : decode cJ6_bitCount_0f7a4 0 = .ok (.iload_n 0, 1) := by decide +kernel
theorem dJ6_bitCount_0f7a4_1 : decode cJ6_bitCount_0f7a4 1 = .ok (.iload_n 0, 1) := by decide +kernel
theorem dJ6_bitCount_0f7a4_2 : decode cJ6_bitCount_0f7a4 2 = .ok (.iconst 1, 1) := by decide +kernel
theorem dJ6_bitCount_0f7a4_3 : decode cJ6_bitCount_0f7a4 3 = .ok (.iushr, 1) := by decide +kernel
theorem dJ6_bitCount_0f7a4_4 : decode cJ6_bitCount_0f7a4 4 = .ok (.ldc_w 265, 3) := by decide +kernel
theorem dJ6_bitCount_0f7a4_7 : decode cJ6_bitCount_0f7a4 7 = .ok (.iand, 1) := by decide +kernel
theorem dJ6_bitCount_0f7a4_8 : decode cJ6_bitCount_0f7a4 8 = .ok (.isub, 1) := by decide +kernel
theorem dJ6_bitCount_0f7a4_9 : decode cJ6_bitCount_0f7a4 9 = .ok (.istore_n 0, 1) := by decide +kernel
theorem dJ6_bitCount_0f7a4_10 : decode cJ6_bitCount_0f7a4 10 = .ok (.iload_n 0, 1) := by decide +kernel
theorem dJ6_bitCount_0f7a4_11 : decode cJ6_bitCount_0f7a4 11 = .ok (.ldc_w 266, 3) := by decide +kernel
theorem dJ6_bitCount_0f7a4_14 : decode cJ6_bitCount_0f7a4 14 = .ok (.iand, 1) := by decide +kernel
theorem dJ6_bitCount_0f7a4_15 : decode cJ6_bitCount_0f7a4 15 = .ok (.iload_n 0, 1) := by decide +kernel
theorem dJ6_bitCount_0f7a4_16 : decode cJ6_bitCount_0f7a4 16 = .ok (.iconst 2, 1) := by decide +kernel
theorem dJ6_bitCount_0f7a4_17 : decode cJ6_bitCount_0f7a4 17 = .ok (.iushr, 1) := by decide +kernel
theorem dJ6_bitCount_0f7a4_18 : decode cJ6_bitCount_0f7a4 18 = .ok (.ldc_w 266, 3) := by decide +kernel
theorem dJ6_bitCount_0f7a4_21 : decode cJ6_bitCount_0f7a4 21 = .ok (.iand, 1) := by decide +kernel
theorem dJ6_bitCount_0f7a4_22 : decode cJ6_bitCount_0f7a4 22 = .ok (.iadd, 1) := by decide +kernel
theorem dJ6_bitCount_0f7a4_23 : decode cJ6_bitCount_0f7a4 23 = .ok (.istore_n 0, 1) := by decide +kernel
theorem dJ6_bitCount_0f7a4_24 : decode cJ6_bitCount_0f7a4 24 = .ok (.iload_n 0, 1) := by decide +kernel
theorem dJ6_bitCount_0f7a4_25 : decode cJ6_bitCount_0f7a4 25 = .ok (.iload_n 0, 1) := by decide +kernel
theorem dJ6_bitCount_0f7a4_26 : decode cJ6_bitCount_0f7a4 26 = .ok (.iconst 4, 1) := by decide +kernel
theorem dJ6_bitCount_0f7a4_27 : decode cJ6_bitCount_0f7a4 27 = .ok (.iushr, 1) := by decide +kernel
theorem dJ6_bitCount_0f7a4_28 : decode cJ6_bitCount_0f7a4 28 = .ok (.iadd, 1) := by decide +kernel
theorem dJ6_bitCount_0f7a4_29 : decode cJ6_bitCount_0f7a4 29 = .ok (.ldc_w 267, 3) := by decide +kernel
theorem dJ6_bitCount_0f7a4_32 : decode cJ6_bitCount_0f7a4 32 = .ok (.iand, 1) := by decide +kernel
theorem dJ6_bitCount_0f7a4_33 : decode cJ6_bitCount_0f7a4 33 = .ok (.istore_n 0, 1) := by decide +kernel
theorem dJ6_bitCount_0f7a4_34 : decode cJ6_bitCount_0f7a4 34 = .ok (.iload_n 0, 1) := by decide +kernel
theorem dJ6_bitCount_0f7a4_35 : decode cJ6_bitCount_0f7a4 35 = .ok (.iload_n 0, 1) := by decide +kernel
theorem dJ6_bitCount_0f7a4_36 : decode cJ6_bitCount_0f7a4 36 = .ok (.bipush 8, 2) := by decide +kernel
theorem dJ6_bitCount_0f7a4_38 : decode cJ6_bitCount_0f7a4 38 = .ok (.iushr, 1) := by decide +kernel
theorem dJ6_bitCount_0f7a4_39 : decode cJ6_bitCount_0f7a4 39 = .ok (.iadd, 1) := by decide +kernel
theorem dJ6_bitCount_0f7a4_40 : decode cJ6_bitCount_0f7a4 40 = .ok (.istore_n 0, 1) := by decide +kernel
theorem dJ6_bitCount_0f7a4_41 : decode cJ6_bitCount_0f7a4 41 = .ok (.iload_n 0, 1) := by decide +kernel
theorem dJ6_bitCount_0f7a4_42 : decode cJ6_bitCount_0f7a4 42 = .ok (.iload_n 0, 1) := by decide +kernel
theorem dJ6_bitCount_0f7a4_43 : decode cJ6_bitCount_0f7a4 43 = .ok (.bipush 16, 2) := by decide +kernel
theorem dJ6_bitCount_0f7a4_45 : decode cJ6_bitCount_0f7a4 45 = .ok (.iushr, 1) := by decide +kernel
theorem dJ6_bitCount_0f7a4_46 : decode cJ6_bitCount_0f7a4 46 = .ok (.iadd, 1) := by decide +kernel
theorem dJ6_bitCount_0f7a4_47 : decode cJ6_bitCount_0f7a4 47 = .ok (.istore_n 0, 1) := by decide +kernel
theorem dJ6_bitCount_0f7a4_48 : decode cJ6_bitCount_0f7a4 48 = .ok (.iload_n 0, 1) := by decide +kernel
theorem dJ6_bitCount_0f7a4_49 : decode cJ6_bitCount_0f7a4 49 = .ok (.bipush 63, 2) := by decide +kernel
theorem dJ6_bitCount_0f7a4_51 : decode cJ6_bitCount_0f7a4 51 = .ok (.iand, 1) := by decide +kernel
theorem dJ6_bitCount_0f7a4_52 : decode cJ6_bitCount_0f7a4 52 = .ok (.ireturn, 1) := by decide +kernel
theorem dJ9_max_7cf53_0 : decode cJ9_max_7cf53 0 = .ok (.iload_n 0, 1) := by decide +kernel
theorem dJ9_max_7cf53_1 : decode cJ9_max_7cf53 1 = .ok (.iload_n 1, 1) := by decide +kernel
theorem dJ9_max_7cf53_2 : decode cJ9_max_7cf53 2 = .ok (.if_icmp .lt 7, 3) := by decide +kernel
theorem dJ9_max_7cf53_5 : decode cJ9_max_7cf53 5 = .ok (.iload_n 0, 1) := by decide +kernel
theorem dJ9_max_7cf53_6 : decode cJ9_max_7cf53 6 = .ok (.goto 4, 3) := by decide +kernel
theorem dJ9_max_7cf53_9 : decode cJ9_max_7cf53 9 = .ok (.iload_n 1, 1) := by decide +kernel
theorem dJ9_max_7cf53_10 : decode cJ9_max_7cf53 10 = .ok (.ireturn, 1) := by decide +kernel
theorem dJ9_min_7cf53_0 : decode cJ9_min_7cf53 0 = .ok (.iload_n 0, 1) := by decide +kernel
theorem dJ9_min_7cf53_1 : decode cJ9_min_7cf53 1 = .ok (.iload_n 1, 1) := by decide +kernel
theorem dJ9_min_7cf53_2 : decode cJ9_min_7cf53 2 = .ok (.if_icmp .gt 7, 3) := by decide +kernel
theorem dJ9_min_7cf53_5 : decode cJ9_min_7cf53 5 = .ok (.iload_n 0, 1) := by decide +kernel
theorem dJ9_min_7cf53_6 : decode cJ9_min_7cf53 6 = .ok (.goto 4, 3) := by decide +kernel
theorem dJ9_min_7cf53_9 : decode cJ9_min_7cf53 9 = .ok (.iload_n 1, 1) := by decide +kernel
theorem dJ9_min_7cf53_10 : decode cJ9_min_7cf53 10 = .ok (.ireturn, 1) := by decide +kernel
theorem dJxa1e45_init_da8c8_0 : decode cJxa1e45_init_da8c8 0 = .ok (.aload_n 0, 1) := by decide +kernel
theorem dJxa1e45_init_da8c8_1 : decode cJxa1e45_init_da8c8 1 = .ok (.invokespecial 1, 3) := by decide +kernel
theorem dJxa1e45_init_da8c8_4 : decode cJxa1e45_init_da8c8 4 = .ok (.return_, 1) := by decide +kernel
theorem dJxc12de_init_da8c8_0 : decode cJxc12de_init_da8c8 0 = .ok (.aload_n 0, 1) := by decide +kernel
theorem dJxc12de_init_da8c8_1 : decode cJxc12de_init_da8c8 1 = .ok (.invokespecial 1, 3) := by decide +kernel
theorem dJxc12de_init_da8c8_4 : decode cJxc12de_init_da8c8 4 = .ok (.aload_n 0, 1) := by decide +kernel
theorem dJxc12de_init_da8c8_5 : decode cJxc12de_init_da8c8 5 = .ok (.iconst 0, 1) := by decide +kernel
theorem dJxc12de_init_da8c8_6 : decode cJxc12de_init_da8c8 6 = .ok (.putfield 7, 3) := by decide +kernel
theorem dJxc12de_init_da8c8_9 : decode cJxc12de_init_da8c8 9 = .ok (.return_, 1) := by decide +kernel
theorem dJx4a65c_init_da8c8_0 : decode cJx4a65c_init_da8c8 0 = .ok (.aload_n 0, 1) := by decide +kernel
theorem dJx4a65c_init_da8c8_1 : decode cJx4a65c_init_da8c8 1 = .ok (.invokespecial 1, 3) := by decide +kernel
theorem dJx4a65c_init_da8c8_4 : decode cJx4a65c_init_da8c8 4 = .ok (.aload_n 0, 1) := by decide +kernel
theorem dJx4a65c_init_da8c8_5 : decode cJx4a65c_init_da8c8 5 = .ok (.getstatic 39, 3) := by decide +kernel
theorem dJx4a65c_init_da8c8_8 : decode cJx4a65c_init_da8c8 8 = .ok (.putfield 9, 3) := by decide +kernel
theorem dJx4a65c_init_da8c8_11 : decode cJx4a65c_init_da8c8 11 = .ok (.return_, 1) := by decide +kernel
theorem dJx4a65c_grow_92f84_0 : decode cJx4a65c_grow_92f84 0 = .ok (.aload_n 0, 1) := by decide +kernel
theorem dJx4a65c_grow_92f84_1 : decode cJx4a65c_grow_92f84 1 = .ok (.getfield 9, 3) := by decide +kernel
theorem dJx4a65c_grow_92f84_4 : decode cJx4a65c_grow_92f84 4 = .ok (.arraylength, 1) := by decide +kernel
theorem dJx4a65c_grow_92f84_5 : decode cJx4a65c_grow_92f84 5 = .ok (.istore_n 2, 1) := by decide +kernel
theorem dJx4a65c_grow_92f84_6 : decode cJx4a65c_grow_92f84 6 = .ok (.iload_n 2, 1) := by decide +kernel
theorem dJx4a65c_grow_92f84_7 : decode cJx4a65c_grow_92f84 7 = .ok (.ifCond .gt 13, 3) := by decide +kernel
theorem dJx4a65c_grow_92f84_10 : decode cJx4a65c_grow_92f84 10 = .ok (.aload_n 0, 1) := by decide +kernel
theorem dJx4a65c_grow_92f84_11 : decode cJx4a65c_grow_92f84 11 = .ok (.getfield 9, 3) := by decide +kernel
theorem dJx4a65c_grow_92f84_14 : decode cJx4a65c_grow_92f84 14 = .ok (.getstatic 39, 3) := by decide +kernel
theorem dJx4a65c_grow_92f84_17 : decode cJx4a65c_grow_92f84 17 = .ok (.if_acmp .eq 28, 3) := by decide +kernel
theorem dJx4a65c_grow_92f84_20 : decode cJx4a65c_grow_92f84 20 = .ok (.iload_n 2, 1) := by decide +kernel
theorem dJx4a65c_grow_92f84_21 : decode cJx4a65c_grow_92f84 21 = .ok (.iload_n 1, 1) := by decide +kernel
theorem dJx4a65c_grow_92f84_22 : decode cJx4a65c_grow_92f84 22 = .ok (.iload_n 2, 1) := by decide +kernel
theorem dJx4a65c_grow_92f84_23 : decode cJx4a65c_grow_92f84 23 = .ok (.isub, 1) := by decide +kernel
theorem dJx4a65c_grow_92f84_24 : decode cJx4a65c_grow_92f84 24 = .ok (.iload_n 2, 1) := by decide +kernel
theorem dJx4a65c_grow_92f84_25 : decode cJx4a65c_grow_92f84 25 = .ok (.iconst 1, 1) := by decide +kernel
theorem dJx4a65c_grow_92f84_26 : decode cJx4a65c_grow_92f84 26 = .ok (.ishr, 1) := by decide +kernel
theorem dJx4a65c_grow_92f84_27 : decode cJx4a65c_grow_92f84 27 = .ok (.invokestatic 73, 3) := by decide +kernel
theorem dJx4a65c_grow_92f84_30 : decode cJx4a65c_grow_92f84 30 = .ok (.istore_n 3, 1) := by decide +kernel
theorem dJx4a65c_grow_92f84_31 : decode cJx4a65c_grow_92f84 31 = .ok (.aload_n 0, 1) := by decide +kernel
theorem dJx4a65c_grow_92f84_32 : decode cJx4a65c_grow_92f84 32 = .ok (.aload_n 0, 1) := by decide +kernel
theorem dJx4a65c_grow_92f84_33 : decode cJx4a65c_grow_92f84 33 = .ok (.getfield 9, 3) := by decide +kernel
theorem dJx4a65c_grow_92f84_36 : decode cJx4a65c_grow_92f84 36 = .ok (.iload_n 3, 1) := by decide +kernel
theorem dJx4a65c_grow_92f84_37 : decode cJx4a65c_grow_92f84 37 = .ok (.invokestatic 66, 3) := by decide +kernel
theorem dJx4a65c_grow_92f84_40 : decode cJx4a65c_grow_92f84 40 = .ok (.dup_x1, 1) := by decide +kernel
theorem dJx4a65c_grow_92f84_41 : decode cJx4a65c_grow_92f84 41 = .ok (.putfield 9, 3) := by decide +kernel
theorem dJx4a65c_grow_92f84_44 : decode cJx4a65c_grow_92f84 44 = .ok (.areturn, 1) := by decide +kernel
theorem dJx4a65c_grow_92f84_45 : decode cJx4a65c_grow_92f84 45 = .ok (.aload_n 0, 1) := by decide +kernel
theorem dJx4a65c_grow_92f84_46 : decode cJx4a65c_grow_92f84 46 = .ok (.bipush 10, 2) := by decide +kernel
theorem dJx4a65c_grow_92f84_48 : decode cJx4a65c_grow_92f84 48 = .ok (.iload_n 1, 1) := by decide +kernel
theorem dJx4a65c_grow_92f84_49 : decode cJx4a65c_grow_92f84 49 = .ok (.invokestatic 79, 3) := by decide +kernel
theorem dJx4a65c_grow_92f84_52 : decode cJx4a65c_grow_92f84 52 = .ok (.anewarray 7, 3) := by decide +kernel
theorem dJx4a65c_grow_92f84_55 : decode cJx4a65c_grow_92f84 55 = .ok (.dup_x1, 1) := by decide +kernel
theorem dJx4a65c_grow_92f84_56 : decode cJx4a65c_grow_92f84 56 = .ok (.putfield 9, 3) := by decide +kernel
theorem dJx4a65c_grow_92f84_59 : decode cJx4a65c_grow_92f84 59 = .ok (.areturn, 1) := by decide +kernel
theorem dJx4a65c_grow_d5877_0 : decode cJx4a65c_grow_d5877 0 = .ok (.aload_n 0, 1) := by decide +kernel
theorem dJx4a65c_grow_d5877_1 : decode cJx4a65c_grow_d5877 1 = .ok (.aload_n 0, 1) := by decide +kernel
theorem dJx4a65c_grow_d5877_2 : decode cJx4a65c_grow_d5877 2 = .ok (.getfield 48, 3) := by decide +kernel
theorem dJx4a65c_grow_d5877_5 : decode cJx4a65c_grow_d5877 5 = .ok (.iconst 1, 1) := by decide +kernel
theorem dJx4a65c_grow_d5877_6 : decode cJx4a65c_grow_d5877 6 = .ok (.iadd, 1) := by decide +kernel
theorem dJx4a65c_grow_d5877_7 : decode cJx4a65c_grow_d5877 7 = .ok (.invokevirtual 69, 3) := by decide +kernel
theorem dJx4a65c_grow_d5877_10 : decode cJx4a65c_grow_d5877 10 = .ok (.areturn, 1) := by decide +kernel
theorem dJx4a65c_size_8abf5_0 : decode cJx4a65c_size_8abf5 0 = .ok (.aload_n 0, 1) := by decide +kernel
theorem dJx4a65c_size_8abf5_1 : decode cJx4a65c_size_8abf5 1 = .ok (.getfield 48, 3) := by decide +kernel
theorem dJx4a65c_size_8abf5_4 : decode cJx4a65c_size_8abf5 4 = .ok (.ireturn, 1) := by decide +kernel
theorem dJx4a65c_elementData_915e3_0 : decode cJx4a65c_elementData_915e3 0 = .ok (.aload_n 0, 1) := by decide +kernel
theorem dJx4a65c_elementData_915e3_1 : decode cJx4a65c_elementData_915e3 1 = .ok (.getfield 9, 3) := by decide +kernel
theorem dJx4a65c_elementData_915e3_4 : decode cJx4a65c_elementData_915e3 4 = .ok (.iload_n 1, 1) := by decide +kernel
theorem dJx4a65c_elementData_915e3_5 : decode cJx4a65c_elementData_915e3 5 = .ok (.aaload, 1) := by decide +kernel
theorem dJx4a65c_elementData_915e3_6 : decode cJx4a65c_elementData_915e3 6 = .ok (.areturn, 1) := by decide +kernel
theorem dJx4a65c_get_915e3_0 : decode cJx4a65c_get_915e3 0 = .ok (.iload_n 1, 1) := by decide +kernel
theorem dJx4a65c_get_915e3_1 : decode cJx4a65c_get_915e3 1 = .ok (.aload_n 0, 1) := by decide +kernel
theorem dJx4a65c_get_915e3_2 : decode cJx4a65c_get_915e3 2 = .ok (.getfield 48, 3) := by decide +kernel
theorem dJx4a65c_get_915e3_5 : decode cJx4a65c_get_915e3 5 = .ok (.invokestatic 118, 3) := by decide +kernel
theorem dJx4a65c_get_915e3_8 : decode cJx4a65c_get_915e3 8 = .ok (.pop, 1) := by decide +kernel
theorem dJx4a65c_get_915e3_9 : decode cJx4a65c_get_915e3 9 = .ok (.aload_n 0, 1) := by decide +kernel
theorem dJx4a65c_get_915e3_10 : decode cJx4a65c_get_915e3 10 = .ok (.iload_n 1, 1) := by decide +kernel
theorem dJx4a65c_get_915e3_11 : decode cJx4a65c_get_915e3 11 = .ok (.invokevirtual 123, 3) := by decide +kernel
theorem dJx4a65c_get_915e3_14 : decode cJx4a65c_get_915e3 14 = .ok (.areturn, 1) := by decide +kernel
theorem dJx4a65c_add_72be8_0 : decode cJx4a65c_add_72be8 0 = .ok (.iload_n 3, 1) := by decide +kernel
theorem dJx4a65c_add_72be8_1 : decode cJx4a65c_add_72be8 1 = .ok (.aload_n 2, 1) := by decide +kernel
theorem dJx4a65c_add_72be8_2 : decode cJx4a65c_add_72be8 2 = .ok (.arraylength, 1) := by decide +kernel
theorem dJx4a65c_add_72be8_3 : decode cJx4a65c_add_72be8 3 = .ok (.if_icmp .ne 8, 3) := by decide +kernel
theorem dJx4a65c_add_72be8_6 : decode cJx4a65c_add_72be8 6 = .ok (.aload_n 0, 1) := by decide +kernel
theorem dJx4a65c_add_72be8_7 : decode cJx4a65c_add_72be8 7 = .ok (.invokevirtual 129, 3) := by decide +kernel
theorem dJx4a65c_add_72be8_10 : decode cJx4a65c_add_72be8 10 = .ok (.astore_n 2, 1) := by decide +kernel
theorem dJx4a65c_add_72be8_11 : decode cJx4a65c_add_72be8 11 = .ok (.aload_n 2, 1) := by decide +kernel
theorem dJx4a65c_add_72be8_12 : decode cJx4a65c_add_72be8 12 = .ok (.iload_n 3, 1) := by decide +kernel
theorem dJx4a65c_add_72be8_13 : decode cJx4a65c_add_72be8 13 = .ok (.aload_n 1, 1) := by decide +kernel
theorem dJx4a65c_add_72be8_14 : decode cJx4a65c_add_72be8 14 = .ok (.aastore, 1) := by decide +kernel
theorem dJx4a65c_add_72be8_15 : decode cJx4a65c_add_72be8 15 = .ok (.aload_n 0, 1) := by decide +kernel
theorem dJx4a65c_add_72be8_16 : decode cJx4a65c_add_72be8 16 = .ok (.iload_n 3, 1) := by decide +kernel
theorem dJx4a65c_add_72be8_17 : decode cJx4a65c_add_72be8 17 = .ok (.iconst 1, 1) := by decide +kernel
theorem dJx4a65c_add_72be8_18 : decode cJx4a65c_add_72be8 18 = .ok (.iadd, 1) := by decide +kernel
theorem dJx4a65c_add_72be8_19 : decode cJx4a65c_add_72be8 19 = .ok (.putfield 48, 3) := by decide +kernel
theorem dJx4a65c_add_72be8_22 : decode cJx4a65c_add_72be8 22 = .ok (.return_, 1) := by decide +kernel
theorem dJx4a65c_add_9ea2d_0 : decode cJx4a65c_add_9ea2d 0 = .ok (.aload_n 0, 1) := by decide +kernel
theorem dJx4a65c_add_9ea2d_1 : decode cJx4a65c_add_9ea2d 1 = .ok (.dup, 1) := by decide +kernel
theorem dJx4a65c_add_9ea2d_2 : decode cJx4a65c_add_9ea2d 2 = .ok (.getfield 63, 3) := by decide +kernel
theorem dJx4a65c_add_9ea2d_5 : decode cJx4a65c_add_9ea2d 5 = .ok (.iconst 1, 1) := by decide +kernel
theorem dJx4a65c_add_9ea2d_6 : decode cJx4a65c_add_9ea2d 6 = .ok (.iadd, 1) := by decide +kernel
theorem dJx4a65c_add_9ea2d_7 : decode cJx4a65c_add_9ea2d 7 = .ok (.putfield 63, 3) := by decide +kernel
theorem dJx4a65c_add_9ea2d_10 : decode cJx4a65c_add_9ea2d 10 = .ok (.aload_n 0, 1) := by decide +kernel
theorem dJx4a65c_add_9ea2d_11 : decode cJx4a65c_add_9ea2d 11 = .ok (.aload_n 1, 1) := by decide +kernel
theorem dJx4a65c_add_9ea2d_12 : decode cJx4a65c_add_9ea2d 12 = .ok (.aload_n 0, 1) := by decide +kernel
theorem dJx4a65c_add_9ea2d_13 : decode cJx4a65c_add_9ea2d 13 = .ok (.getfield 9, 3) := by decide +kernel
theorem dJx4a65c_add_9ea2d_16 : decode cJx4a65c_add_9ea2d 16 = .ok (.aload_n 0, 1) := by decide +kernel
theorem dJx4a65c_add_9ea2d_17 : decode cJx4a65c_add_9ea2d 17 = .ok (.getfield 48, 3) := by decide +kernel
theorem dJx4a65c_add_9ea2d_20 : decode cJx4a65c_add_9ea2d 20 = .ok (.invokevirtual 131, 3) := by decide +kernel
theorem dJx4a65c_add_9ea2d_23 : decode cJx4a65c_add_9ea2d 23 = .ok (.iconst 1, 1) := by decide +kernel
theorem dJx4a65c_add_9ea2d_24 : decode cJx4a65c_add_9ea2d 24 = .ok (.ireturn, 1) := by decide +kernel
theorem dJ7_copyOf_1904c_0 : decode cJ7_copyOf_1904c 0 = .ok (.aload_n 0, 1) := by decide +kernel
theorem dJ7_copyOf_1904c_1 : decode cJ7_copyOf_1904c 1 = .ok (.iload_n 1, 1) := by decide +kernel
theorem dJ7_copyOf_1904c_2 : decode cJ7_copyOf_1904c 2 = .ok (.aload_n 0, 1) := by decide +kernel
theorem dJ7_copyOf_1904c_3 : decode cJ7_copyOf_1904c 3 = .ok (.invokevirtual 86, 3) := by decide +kernel
theorem dJ7_copyOf_1904c_6 : decode cJ7_copyOf_1904c 6 = .ok (.invokestatic 300, 3) := by decide +kernel
theorem dJ7_copyOf_1904c_9 : decode cJ7_copyOf_1904c 9 = .ok (.areturn, 1) := by decide +kernel
theorem dJ7_copyOf_6403c_0 : decode cJ7_copyOf_6403c 0 = .ok (.aload_n 2, 1) := by decide +kernel
theorem dJ7_copyOf_6403c_1 : decode cJ7_copyOf_6403c 1 = .ok (.ldc 110, 2) := by decide +kernel
theorem dJ7_copyOf_6403c_3 : decode cJ7_copyOf_6403c 3 = .ok (.if_acmp .ne 10, 3) := by decide +kernel
theorem dJ7_copyOf_6403c_6 : decode cJ7_copyOf_6403c 6 = .ok (.iload_n 1, 1) := by decide +kernel
theorem dJ7_copyOf_6403c_7 : decode cJ7_copyOf_6403c 7 = .ok (.anewarray 2, 3) := by decide +kernel
theorem dJ7_copyOf_6403c_10 : decode cJ7_copyOf_6403c 10 = .ok (.goto 14, 3) := by decide +kernel
theorem dJ7_copyOf_6403c_13 : decode cJ7_copyOf_6403c 13 = .ok (.aload_n 2, 1) := by decide +kernel
theorem dJ7_copyOf_6403c_14 : decode cJ7_copyOf_6403c 14 = .ok (.invokevirtual 90, 3) := by decide +kernel
theorem dJ7_copyOf_6403c_17 : decode cJ7_copyOf_6403c 17 = .ok (.iload_n 1, 1) := by decide +kernel
theorem dJ7_copyOf_6403c_18 : decode cJ7_copyOf_6403c 18 = .ok (.invokestatic 95, 3) := by decide +kernel
theorem dJ7_copyOf_6403c_21 : decode cJ7_copyOf_6403c 21 = .ok (.checkcast 110, 3) := by decide +kernel
theorem dJ7_copyOf_6403c_24 : decode cJ7_copyOf_6403c 24 = .ok (.astore_n 3, 1) := by decide +kernel
theorem dJ7_copyOf_6403c_25 : decode cJ7_copyOf_6403c 25 = .ok (.aload_n 0, 1) := by decide +kernel
theorem dJ7_copyOf_6403c_26 : decode cJ7_copyOf_6403c 26 = .ok (.iconst 0, 1) := by decide +kernel
theorem dJ7_copyOf_6403c_27 : decode cJ7_copyOf_6403c 27 = .ok (.aload_n 3, 1) := by decide +kernel
theorem dJ7_copyOf_6403c_28 : decode cJ7_copyOf_6403c 28 = .ok (.iconst 0, 1) := by decide +kernel
theorem dJ7_copyOf_6403c_29 : decode cJ7_copyOf_6403c 29 = .ok (.aload_n 0, 1) := by decide +kernel
theorem dJ7_copyOf_6403c_30 : decode cJ7_copyOf_6403c 30 = .ok (.arraylength, 1) := by decide +kernel
theorem dJ7_copyOf_6403c_31 : decode cJ7_copyOf_6403c 31 = .ok (.iload_n 1, 1) := by decide +kernel
theorem dJ7_copyOf_6403c_32 : decode cJ7_copyOf_6403c 32 = .ok (.invokestatic 304, 3) := by decide +kernel
theorem dJ7_copyOf_6403c_35 : decode cJ7_copyOf_6403c 35 = .ok (.invokestatic 150, 3) := by decide +kernel
theorem dJ7_copyOf_6403c_38 : decode cJ7_copyOf_6403c 38 = .ok (.aload_n 3, 1) := by decide +kernel
theorem dJ7_copyOf_6403c_39 : decode cJ7_copyOf_6403c 39 = .ok (.areturn, 1) := by decide +kernel
theorem dJ15_checkIndex_7cf53_0 : decode cJ15_checkIndex_7cf53 0 = .ok (.iload_n 0, 1) := by decide +kernel
theorem dJ15_checkIndex_7cf53_1 : decode cJ15_checkIndex_7cf53 1 = .ok (.iload_n 1, 1) := by decide +kernel
theorem dJ15_checkIndex_7cf53_2 : decode cJ15_checkIndex_7cf53 2 = .ok (.aconst_null, 1) := by decide +kernel
theorem dJ15_checkIndex_7cf53_3 : decode cJ15_checkIndex_7cf53 3 = .ok (.invokestatic 105, 3) := by decide +kernel
theorem dJ15_checkIndex_7cf53_6 : decode cJ15_checkIndex_7cf53 6 = .ok (.ireturn, 1) := by decide +kernel
theorem dJ8_newLength_cabcc_0 : decode cJ8_newLength_cabcc 0 = .ok (.iload_n 0, 1) := by decide +kernel
theorem dJ8_newLength_cabcc_1 : decode cJ8_newLength_cabcc 1 = .ok (.iload_n 1, 1) := by decide +kernel
theorem dJ8_newLength_cabcc_2 : decode cJ8_newLength_cabcc 2 = .ok (.iload_n 2, 1) := by decide +kernel
theorem dJ8_newLength_cabcc_3 : decode cJ8_newLength_cabcc 3 = .ok (.invokestatic 194, 3) := by decide +kernel
theorem dJ8_newLength_cabcc_6 : decode cJ8_newLength_cabcc 6 = .ok (.iadd, 1) := by decide +kernel
theorem dJ8_newLength_cabcc_7 : decode cJ8_newLength_cabcc 7 = .ok (.istore_n 3, 1) := by decide +kernel
theorem dJ8_newLength_cabcc_8 : decode cJ8_newLength_cabcc 8 = .ok (.iconst 0, 1) := by decide +kernel
theorem dJ8_newLength_cabcc_9 : decode cJ8_newLength_cabcc 9 = .ok (.iload_n 3, 1) := by decide +kernel
theorem dJ8_newLength_cabcc_10 : decode cJ8_newLength_cabcc 10 = .ok (.if_icmp .ge 11, 3) := by decide +kernel
theorem dJ8_newLength_cabcc_13 : decode cJ8_newLength_cabcc 13 = .ok (.iload_n 3, 1) := by decide +kernel
theorem dJ8_newLength_cabcc_14 : decode cJ8_newLength_cabcc 14 = .ok (.ldc 200, 2) := by decide +kernel
theorem dJ8_newLength_cabcc_16 : decode cJ8_newLength_cabcc 16 = .ok (.if_icmp .gt 5, 3) := by decide +kernel
theorem dJ8_newLength_cabcc_19 : decode cJ8_newLength_cabcc 19 = .ok (.iload_n 3, 1) := by decide +kernel
theorem dJ8_newLength_cabcc_20 : decode cJ8_newLength_cabcc 20 = .ok (.ireturn, 1) := by decide +kernel
theorem dJ8_newLength_cabcc_21 : decode cJ8_newLength_cabcc 21 = .ok (.iload_n 0, 1) := by decide +kernel
theorem dJ8_newLength_cabcc_22 : decode cJ8_newLength_cabcc 22 = .ok (.iload_n 1, 1) := by decide +kernel
theorem dJ8_newLength_cabcc_23 : decode cJ8_newLength_cabcc 23 = .ok (.invokestatic 201, 3) := by decide +kernel
theorem dJ8_newLength_cabcc_26 : decode cJ8_newLength_cabcc 26 = .ok (.ireturn, 1) := by decide +kernel
theorem dJ8_hugeLength_7cf53_0 : decode cJ8_hugeLength_7cf53 0 = .ok (.iload_n 0, 1) := by decide +kernel
theorem dJ8_hugeLength_7cf53_1 : decode cJ8_hugeLength_7cf53 1 = .ok (.iload_n 1, 1) := by decide +kernel
theorem dJ8_hugeLength_7cf53_2 : decode cJ8_hugeLength_7cf53 2 = .ok (.iadd, 1) := by decide +kernel
theorem dJ8_hugeLength_7cf53_3 : decode cJ8_hugeLength_7cf53 3 = .ok (.istore_n 2, 1) := by decide +kernel
theorem dJ8_hugeLength_7cf53_4 : decode cJ8_hugeLength_7cf53 4 = .ok (.iload_n 2, 1) := by decide +kernel
theorem dJ8_hugeLength_7cf53_5 : decode cJ8_hugeLength_7cf53 5 = .ok (.ifCond .ge 44, 3) := by decide +kernel
theorem dJ8_hugeLength_7cf53_8 : decode cJ8_hugeLength_7cf53 8 = .ok (.new 204, 3) := by decide +kernel
theorem dJ8_hugeLength_7cf53_11 : decode cJ8_hugeLength_7cf53 11 = .ok (.dup, 1) := by decide +kernel
theorem dJ8_hugeLength_7cf53_12 : decode cJ8_hugeLength_7cf53 12 = .ok (.new 89, 3) := by decide +kernel
theorem dJ8_hugeLength_7cf53_15 : decode cJ8_hugeLength_7cf53 15 = .ok (.dup, 1) := by decide +kernel
theorem dJ8_hugeLength_7cf53_16 : decode cJ8_hugeLength_7cf53 16 = .ok (.invokespecial 91, 3) := by decide +kernel
theorem dJ8_hugeLength_7cf53_19 : decode cJ8_hugeLength_7cf53 19 = .ok (.ldc 206, 2) := by decide +kernel
theorem dJ8_hugeLength_7cf53_21 : decode cJ8_hugeLength_7cf53 21 = .ok (.invokevirtual 94, 3) := by decide +kernel
theorem dJ8_hugeLength_7cf53_24 : decode cJ8_hugeLength_7cf53 24 = .ok (.iload_n 0, 1) := by decide +kernel
theorem dJ8_hugeLength_7cf53_25 : decode cJ8_hugeLength_7cf53 25 = .ok (.invokevirtual 98, 3) := by decide +kernel
theorem dJ8_hugeLength_7cf53_28 : decode cJ8_hugeLength_7cf53 28 = .ok (.ldc 208, 2) := by decide +kernel
theorem dJ8_hugeLength_7cf53_30 : decode cJ8_hugeLength_7cf53 30 = .ok (.invokevirtual 94, 3) := by decide +kernel
theorem dJ8_hugeLength_7cf53_33 : decode cJ8_hugeLength_7cf53 33 = .ok (.iload_n 1, 1) := by decide +kernel
theorem dJ8_hugeLength_7cf53_34 : decode cJ8_hugeLength_7cf53 34 = .ok (.invokevirtual 98, 3) := by decide +kernel
theorem dJ8_hugeLength_7cf53_37 : decode cJ8_hugeLength_7cf53 37 = .ok (.ldc 210, 2) := by decide +kernel
theorem dJ8_hugeLength_7cf53_39 : decode cJ8_hugeLength_7cf53 39 = .ok (.invokevirtual 94, 3) := by decide +kernel
theorem dJ8_hugeLength_7cf53_42 : decode cJ8_hugeLength_7cf53 42 = .ok (.invokevirtual 101, 3) := by decide +kernel
theorem dJ8_hugeLength_7cf53_45 : decode cJ8_hugeLength_7cf53 45 = .ok (.invokespecial 212, 3) := by decide +kernel
theorem dJ8_hugeLength_7cf53_48 : decode cJ8_hugeLength_7cf53 48 = .ok (.athrow, 1) := by decide +kernel
theorem dJ8_hugeLength_7cf53_49 : decode cJ8_hugeLength_7cf53 49 = .ok (.iload_n 2, 1) := by decide +kernel
theorem dJ8_hugeLength_7cf53_50 : decode cJ8_hugeLength_7cf53 50 = .ok (.ldc 200, 2) := by decide +kernel
theorem dJ8_hugeLength_7cf53_52 : decode cJ8_hugeLength_7cf53 52 = .ok (.if_icmp .gt 6, 3) := by decide +kernel
theorem dJ8_hugeLength_7cf53_55 : decode cJ8_hugeLength_7cf53 55 = .ok (.ldc 200, 2) := by decide +kernel
theorem dJ8_hugeLength_7cf53_57 : decode cJ8_hugeLength_7cf53 57 = .ok (.ireturn, 1) := by decide +kernel
theorem dJ8_hugeLength_7cf53_58 : decode cJ8_hugeLength_7cf53 58 = .ok (.iload_n 2, 1) := by decide +kernel
theorem dJ8_hugeLength_7cf53_59 : decode cJ8_hugeLength_7cf53 59 = .ok (.ireturn, 1) := by decide +kernel
theorem dJ3_checkIndex_8e157_0 : decode cJ3_checkIndex_8e157 0 = .ok (.iload_n 0, 1) := by decide +kernel
theorem dJ3_checkIndex_8e157_1 : decode cJ3_checkIndex_8e157 1 = .ok (.ifCond .lt 8, 3) := by decide +kernel
theorem dJ3_checkIndex_8e157_4 : decode cJ3_checkIndex_8e157 4 = .ok (.iload_n 0, 1) := by decide +kernel
theorem dJ3_checkIndex_8e157_5 : decode cJ3_checkIndex_8e157 5 = .ok (.iload_n 1, 1) := by decide +kernel
theorem dJ3_checkIndex_8e157_6 : decode cJ3_checkIndex_8e157 6 = .ok (.if_icmp .lt 10, 3) := by decide +kernel
theorem dJ3_checkIndex_8e157_9 : decode cJ3_checkIndex_8e157 9 = .ok (.aload_n 2, 1) := by decide +kernel
theorem dJ3_checkIndex_8e157_10 : decode cJ3_checkIndex_8e157 10 = .ok (.iload_n 0, 1) := by decide +kernel
theorem dJ3_checkIndex_8e157_11 : decode cJ3_checkIndex_8e157 11 = .ok (.iload_n 1, 1) := by decide +kernel
theorem dJ3_checkIndex_8e157_12 : decode cJ3_checkIndex_8e157 12 = .ok (.invokestatic 95, 3) := by decide +kernel
theorem dJ3_checkIndex_8e157_15 : decode cJ3_checkIndex_8e157 15 = .ok (.athrow, 1) := by decide +kernel
theorem dJ3_checkIndex_8e157_16 : decode cJ3_checkIndex_8e157 16 = .ok (.iload_n 0, 1) := by decide +kernel
theorem dJ3_checkIndex_8e157_17 : decode cJ3_checkIndex_8e157 17 = .ok (.ireturn, 1) := by decide +kernel
