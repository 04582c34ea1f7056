theorem dX5_init_0 : decode cX5_init 0 = .ok (.aload_n 0, 1) := by decide +kernel
theorem dX5_init_1 : decode cX5_init 1 = .ok (.invokespecial 1, 3) := by decide +kernel
theorem dX5_init_4 : decode cX5_init 4 = .ok (.aload_n 0, 1) := by decide +kernel
theorem dX5_init_5 : decode cX5_init 5 = .ok (.new 7, 3) := by decide +kernel
theorem dX5_init_8 : decode cX5_init 8 = .ok (.dup, 1) := by decide +kernel
theorem dX5_init_9 : decode cX5_init 9 = .ok (.invokespecial 9, 3) := by decide +kernel
theorem dX5_init_12 : decode cX5_init 12 = .ok (.putfield 10, 3) := by decide +kernel
theorem dX5_init_15 : decode cX5_init 15 = .ok (.aload_n 0, 1) := by decide +kernel
theorem dX5_init_16 : decode cX5_init 16 = .ok (.new 7, 3) := by decide +kernel
theorem dX5_init_19 : decode cX5_init 19 = .ok (.dup, 1) := by decide +kernel
theorem dX5_init_20 : decode cX5_init 20 = .ok (.invokespecial 9, 3) := by decide +kernel
theorem dX5_init_23 : decode cX5_init 23 = .ok (.putfield 16, 3) := by decide +kernel
theorem dX5_init_26 : decode cX5_init 26 = .ok (.aload_n 0, 1) := by decide +kernel
theorem dX5_init_27 : decode cX5_init 27 = .ok (.new 7, 3) := by decide +kernel
theorem dX5_init_30 : decode cX5_init 30 = .ok (.dup, 1) := by decide +kernel
theorem dX5_init_31 : decode cX5_init 31 = .ok (.invokespecial 9, 3) := by decide +kernel
theorem dX5_init_34 : decode cX5_init 34 = .ok (.putfield 19, 3) := by decide +kernel
theorem dX5_init_37 : decode cX5_init 37 = .ok (.aload_n 0, 1) := by decide +kernel
theorem dX5_init_38 : decode cX5_init 38 = .ok (.new 7, 3) := by decide +kernel
theorem dX5_init_41 : decode cX5_init 41 = .ok (.dup, 1) := by decide +kernel
theorem dX5_init_42 : decode cX5_init 42 = .ok (.invokespecial 9, 3) := by decide +kernel
theorem dX5_init_45 : decode cX5_init 45 = .ok (.putfield 22, 3) := by decide +kernel
theorem dX5_init_48 : decode cX5_init 48 = .ok (.aload_n 0, 1) := by decide +kernel
theorem dX5_init_49 : decode cX5_init 49 = .ok (.new 25, 3) := by decide +kernel
theorem dX5_init_52 : decode cX5_init 52 = .ok (.dup, 1) := by decide +kernel
theorem dX5_init_53 : decode cX5_init 53 = .ok (.invokespecial 27, 3) := by decide +kernel
theorem dX5_init_56 : decode cX5_init 56 = .ok (.putfield 28, 3) := by decide +kernel
theorem dX5_init_59 : decode cX5_init 59 = .ok (.aload_n 0, 1) := by decide +kernel
theorem dX5_init_60 : decode cX5_init 60 = .ok (.aconst_null, 1) := by decide +kernel
theorem dX5_init_61 : decode cX5_init 61 = .ok (.putfield 32, 3) := by decide +kernel
theorem dX5_init_64 : decode cX5_init 64 = .ok (.aload_n 0, 1) := by decide +kernel
theorem dX5_init_65 : decode cX5_init 65 = .ok (.iconst 5, 1) := by decide +kernel
theorem dX5_init_66 : decode cX5_init 66 = .ok (.putfield 36, 3) := by decide +kernel
theorem dX5_init_69 : decode cX5_init 69 = .ok (.aload_n 0, 1) := by decide +kernel
theorem dX5_init_70 : decode cX5_init 70 = .ok (.iconst 5, 1) := by decide +kernel
theorem dX5_init_71 : decode cX5_init 71 = .ok (.putfield 40, 3) := by decide +kernel
theorem dX5_init_74 : decode cX5_init 74 = .ok (.return_, 1) := by decide +kernel
theorem dX5_addRoom_0 : decode cX5_addRoom 0 = .ok (.aload_n 0, 1) := by decide +kernel
theorem dX5_addRoom_1 : decode cX5_addRoom 1 = .ok (.getfield 10, 3) := by decide +kernel
theorem dX5_addRoom_4 : decode cX5_addRoom 4 = .ok (.invokevirtual 43, 3) := by decide +kernel
theorem dX5_addRoom_7 : decode cX5_addRoom 7 = .ok (.istore_n 1, 1) := by decide +kernel
theorem dX5_addRoom_8 : decode cX5_addRoom 8 = .ok (.iload_n 1, 1) := by decide +kernel
theorem dX5_addRoom_9 : decode cX5_addRoom 9 = .ok (.bipush 12, 2) := by decide +kernel
theorem dX5_addRoom_11 : decode cX5_addRoom 11 = .ok (.if_icmp .lt 6, 3) := by decide +kernel
theorem dX5_addRoom_14 : decode cX5_addRoom 14 = .ok (.bipush (-3), 2) := by decide +kernel
theorem dX5_addRoom_16 : decode cX5_addRoom 16 = .ok (.ireturn, 1) := by decide +kernel
theorem dX5_addRoom_17 : decode cX5_addRoom 17 = .ok (.aload_n 0, 1) := by decide +kernel
theorem dX5_addRoom_18 : decode cX5_addRoom 18 = .ok (.getfield 10, 3) := by decide +kernel
theorem dX5_addRoom_21 : decode cX5_addRoom 21 = .ok (.new 47, 3) := by decide +kernel
theorem dX5_addRoom_24 : decode cX5_addRoom 24 = .ok (.dup, 1) := by decide +kernel
theorem dX5_addRoom_25 : decode cX5_addRoom 25 = .ok (.iload_n 1, 1) := by decide +kernel
theorem dX5_addRoom_26 : decode cX5_addRoom 26 = .ok (.invokespecial 49, 3) := by decide +kernel
theorem dX5_addRoom_29 : decode cX5_addRoom 29 = .ok (.invokevirtual 52, 3) := by decide +kernel
theorem dX5_addRoom_32 : decode cX5_addRoom 32 = .ok (.pop, 1) := by decide +kernel
theorem dX5_addRoom_33 : decode cX5_addRoom 33 = .ok (.iload_n 1, 1) := by decide +kernel
theorem dX5_addRoom_34 : decode cX5_addRoom 34 = .ok (.ireturn, 1) := by decide +kernel
theorem dX5_setExit_0 : decode cX5_setExit 0 = .ok (.aload_n 0, 1) := by decide +kernel
theorem dX5_setExit_1 : decode cX5_setExit 1 = .ok (.iload_n 1, 1) := by decide +kernel
theorem dX5_setExit_2 : decode cX5_setExit 2 = .ok (.invokevirtual 56, 3) := by decide +kernel
theorem dX5_setExit_5 : decode cX5_setExit 5 = .ok (.ifCond .ne 5, 3) := by decide +kernel
theorem dX5_setExit_8 : decode cX5_setExit 8 = .ok (.iconst (-1), 1) := by decide +kernel
theorem dX5_setExit_9 : decode cX5_setExit 9 = .ok (.ireturn, 1) := by decide +kernel
theorem dX5_setExit_10 : decode cX5_setExit 10 = .ok (.aload_n 0, 1) := by decide +kernel
theorem dX5_setExit_11 : decode cX5_setExit 11 = .ok (.invokevirtual 60, 3) := by decide +kernel
theorem dX5_setExit_14 : decode cX5_setExit 14 = .ok (.istore_n 2, 1) := by decide +kernel
theorem dX5_setExit_15 : decode cX5_setExit 15 = .ok (.aload_n 0, 1) := by decide +kernel
theorem dX5_setExit_16 : decode cX5_setExit 16 = .ok (.aload_n 0, 1) := by decide +kernel
theorem dX5_setExit_17 : decode cX5_setExit 17 = .ok (.getfield 10, 3) := by decide +kernel
theorem dX5_setExit_20 : decode cX5_setExit 20 = .ok (.iload_n 1, 1) := by decide +kernel
theorem dX5_setExit_21 : decode cX5_setExit 21 = .ok (.invokevirtual 63, 3) := by decide +kernel
theorem dX5_setExit_24 : decode cX5_setExit 24 = .ok (.checkcast 47, 3) := by decide +kernel
theorem dX5_setExit_27 : decode cX5_setExit 27 = .ok (.putfield 32, 3) := by decide +kernel
theorem dX5_setExit_30 : decode cX5_setExit 30 = .ok (.iload_n 2, 1) := by decide +kernel
theorem dX5_setExit_31 : decode cX5_setExit 31 = .ok (.ireturn, 1) := by decide +kernel
theorem dX5_addDoor_0 : decode cX5_addDoor 0 = .ok (.aload_n 0, 1) := by decide +kernel
theorem dX5_addDoor_1 : decode cX5_addDoor 1 = .ok (.iload_n 1, 1) := by decide +kernel
theorem dX5_addDoor_2 : decode cX5_addDoor 2 = .ok (.invokevirtual 56, 3) := by decide +kernel
theorem dX5_addDoor_5 : decode cX5_addDoor 5 = .ok (.ifCond .eq 11, 3) := by decide +kernel
theorem dX5_addDoor_8 : decode cX5_addDoor 8 = .ok (.aload_n 0, 1) := by decide +kernel
theorem dX5_addDoor_9 : decode cX5_addDoor 9 = .ok (.iload_n 2, 1) := by decide +kernel
theorem dX5_addDoor_10 : decode cX5_addDoor 10 = .ok (.invokevirtual 56, 3) := by decide +kernel
theorem dX5_addDoor_13 : decode cX5_addDoor 13 = .ok (.ifCond .ne 5, 3) := by decide +kernel
theorem dX5_addDoor_16 : decode cX5_addDoor 16 = .ok (.iconst (-1), 1) := by decide +kernel
theorem dX5_addDoor_17 : decode cX5_addDoor 17 = .ok (.ireturn, 1) := by decide +kernel
theorem dX5_addDoor_18 : decode cX5_addDoor 18 = .ok (.iload_n 1, 1) := by decide +kernel
theorem dX5_addDoor_19 : decode cX5_addDoor 19 = .ok (.iload_n 2, 1) := by decide +kernel
theorem dX5_addDoor_20 : decode cX5_addDoor 20 = .ok (.if_icmp .eq 13, 3) := by decide +kernel
theorem dX5_addDoor_23 : decode cX5_addDoor 23 = .ok (.iload_n 3, 1) := by decide +kernel
theorem dX5_addDoor_24 : decode cX5_addDoor 24 = .ok (.iconst 1, 1) := by decide +kernel
theorem dX5_addDoor_25 : decode cX5_addDoor 25 = .ok (.bipush 30, 2) := by decide +kernel
theorem dX5_addDoor_27 : decode cX5_addDoor 27 = .ok (.invokestatic 67, 3) := by decide +kernel
theorem dX5_addDoor_30 : decode cX5_addDoor 30 = .ok (.ifCond .ne 6, 3) := by decide +kernel
theorem dX5_addDoor_33 : decode cX5_addDoor 33 = .ok (.bipush (-2), 2) := by decide +kernel
theorem dX5_addDoor_35 : decode cX5_addDoor 35 = .ok (.ireturn, 1) := by decide +kernel
theorem dX5_addDoor_36 : decode cX5_addDoor 36 = .ok (.aload_n 0, 1) := by decide +kernel
theorem dX5_addDoor_37 : decode cX5_addDoor 37 = .ok (.getfield 16, 3) := by decide +kernel
theorem dX5_addDoor_40 : decode cX5_addDoor 40 = .ok (.invokevirtual 43, 3) := by decide +kernel
theorem dX5_addDoor_43 : decode cX5_addDoor 43 = .ok (.istore 4, 2) := by decide +kernel
theorem dX5_addDoor_45 : decode cX5_addDoor 45 = .ok (.iload 4, 2) := by decide +kernel
theorem dX5_addDoor_47 : decode cX5_addDoor 47 = .ok (.bipush 16, 2) := by decide +kernel
theorem dX5_addDoor_49 : decode cX5_addDoor 49 = .ok (.if_icmp .lt 6, 3) := by decide +kernel
theorem dX5_addDoor_52 : decode cX5_addDoor 52 = .ok (.bipush (-3), 2) := by decide +kernel
theorem dX5_addDoor_54 : decode cX5_addDoor 54 = .ok (.ireturn, 1) := by decide +kernel
theorem dX5_addDoor_55 : decode cX5_addDoor 55 = .ok (.aload_n 0, 1) := by decide +kernel
theorem dX5_addDoor_56 : decode cX5_addDoor 56 = .ok (.getfield 16, 3) := by decide +kernel
theorem dX5_addDoor_59 : decode cX5_addDoor 59 = .ok (.new 71, 3) := by decide +kernel
theorem dX5_addDoor_62 : decode cX5_addDoor 62 = .ok (.dup, 1) := by decide +kernel
theorem dX5_addDoor_63 : decode cX5_addDoor 63 = .ok (.iload 4, 2) := by decide +kernel
theorem dX5_addDoor_65 : decode cX5_addDoor 65 = .ok (.aload_n 0, 1) := by decide +kernel
theorem dX5_addDoor_66 : decode cX5_addDoor 66 = .ok (.iload_n 1, 1) := by decide +kernel
theorem dX5_addDoor_67 : decode cX5_addDoor 67 = .ok (.iload_n 2, 1) := by decide +kernel
theorem dX5_addDoor_68 : decode cX5_addDoor 68 = .ok (.invokevirtual 73, 3) := by decide +kernel
theorem dX5_addDoor_71 : decode cX5_addDoor 71 = .ok (.aload_n 0, 1) := by decide +kernel
theorem dX5_addDoor_72 : decode cX5_addDoor 72 = .ok (.iload_n 1, 1) := by decide +kernel
theorem dX5_addDoor_73 : decode cX5_addDoor 73 = .ok (.iload_n 2, 1) := by decide +kernel
theorem dX5_addDoor_74 : decode cX5_addDoor 74 = .ok (.invokevirtual 77, 3) := by decide +kernel
theorem dX5_addDoor_77 : decode cX5_addDoor 77 = .ok (.iload_n 3, 1) := by decide +kernel
theorem dX5_addDoor_78 : decode cX5_addDoor 78 = .ok (.invokespecial 80, 3) := by decide +kernel
theorem dX5_addDoor_81 : decode cX5_addDoor 81 = .ok (.invokevirtual 52, 3) := by decide +kernel
theorem dX5_addDoor_84 : decode cX5_addDoor 84 = .ok (.pop, 1) := by decide +kernel
theorem dX5_addDoor_85 : decode cX5_addDoor 85 = .ok (.iload 4, 2) := by decide +kernel
theorem dX5_addDoor_87 : decode cX5_addDoor 87 = .ok (.ireturn, 1) := by decide +kernel
theorem dX5_addLock_0 : decode cX5_addLock 0 = .ok (.aload_n 0, 1) := by decide +kernel
theorem dX5_addLock_1 : decode cX5_addLock 1 = .ok (.iload_n 1, 1) := by decide +kernel
theorem dX5_addLock_2 : decode cX5_addLock 2 = .ok (.invokevirtual 56, 3) := by decide +kernel
theorem dX5_addLock_5 : decode cX5_addLock 5 = .ok (.ifCond .eq 11, 3) := by decide +kernel
theorem dX5_addLock_8 : decode cX5_addLock 8 = .ok (.aload_n 0, 1) := by decide +kernel
theorem dX5_addLock_9 : decode cX5_addLock 9 = .ok (.iload_n 2, 1) := by decide +kernel
theorem dX5_addLock_10 : decode cX5_addLock 10 = .ok (.invokevirtual 56, 3) := by decide +kernel
theorem dX5_addLock_13 : decode cX5_addLock 13 = .ok (.ifCond .ne 5, 3) := by decide +kernel
theorem dX5_addLock_16 : decode cX5_addLock 16 = .ok (.iconst (-1), 1) := by decide +kernel
theorem dX5_addLock_17 : decode cX5_addLock 17 = .ok (.ireturn, 1) := by decide +kernel
theorem dX5_addLock_18 : decode cX5_addLock 18 = .ok (.iload_n 1, 1) := by decide +kernel
theorem dX5_addLock_19 : decode cX5_addLock 19 = .ok (.iload_n 2, 1) := by decide +kernel
theorem dX5_addLock_20 : decode cX5_addLock 20 = .ok (.if_icmp .eq 32, 3) := by decide +kernel
theorem dX5_addLock_23 : decode cX5_addLock 23 = .ok (.iload_n 3, 1) := by decide +kernel
theorem dX5_addLock_24 : decode cX5_addLock 24 = .ok (.iconst 1, 1) := by decide +kernel
theorem dX5_addLock_25 : decode cX5_addLock 25 = .ok (.bipush 30, 2) := by decide +kernel
theorem dX5_addLock_27 : decode cX5_addLock 27 = .ok (.invokestatic 67, 3) := by decide +kernel
theorem dX5_addLock_30 : decode cX5_addLock 30 = .ok (.ifCond .eq 22, 3) := by decide +kernel
theorem dX5_addLock_33 : decode cX5_addLock 33 = .ok (.iload 4, 2) := by decide +kernel
theorem dX5_addLock_35 : decode cX5_addLock 35 = .ok (.invokestatic 83, 3) := by decide +kernel
theorem dX5_addLock_38 : decode cX5_addLock 38 = .ok (.ifCond .eq 14, 3) := by decide +kernel
theorem dX5_addLock_41 : decode cX5_addLock 41 = .ok (.iload 5, 2) := by decide +kernel
theorem dX5_addLock_43 : decode cX5_addLock 43 = .ok (.iconst 1, 1) := by decide +kernel
theorem dX5_addLock_44 : decode cX5_addLock 44 = .ok (.bipush 60, 2) := by decide +kernel
theorem dX5_addLock_46 : decode cX5_addLock 46 = .ok (.invokestatic 67, 3) := by decide +kernel
theorem dX5_addLock_49 : decode cX5_addLock 49 = .ok (.ifCond .ne 6, 3) := by decide +kernel
theorem dX5_addLock_52 : decode cX5_addLock 52 = .ok (.bipush (-2), 2) := by decide +kernel
theorem dX5_addLock_54 : decode cX5_addLock 54 = .ok (.ireturn, 1) := by decide +kernel
theorem dX5_addLock_55 : decode cX5_addLock 55 = .ok (.aload_n 0, 1) := by decide +kernel
theorem dX5_addLock_56 : decode cX5_addLock 56 = .ok (.getfield 16, 3) := by decide +kernel
theorem dX5_addLock_59 : decode cX5_addLock 59 = .ok (.invokevirtual 43, 3) := by decide +kernel
theorem dX5_addLock_62 : decode cX5_addLock 62 = .ok (.istore 6, 2) := by decide +kernel
theorem dX5_addLock_64 : decode cX5_addLock 64 = .ok (.iload 6, 2) := by decide +kernel
theorem dX5_addLock_66 : decode cX5_addLock 66 = .ok (.bipush 16, 2) := by decide +kernel
theorem dX5_addLock_68 : decode cX5_addLock 68 = .ok (.if_icmp .ge 12, 3) := by decide +kernel
theorem dX5_addLock_71 : decode cX5_addLock 71 = .ok (.aload_n 0, 1) := by decide +kernel
theorem dX5_addLock_72 : decode cX5_addLock 72 = .ok (.getfield 86, 3) := by decide +kernel
theorem dX5_addLock_75 : decode cX5_addLock 75 = .ok (.bipush 10, 2) := by decide +kernel
theorem dX5_addLock_77 : decode cX5_addLock 77 = .ok (.if_icmp .lt 6, 3) := by decide +kernel
theorem dX5_addLock_80 : decode cX5_addLock 80 = .ok (.bipush (-3), 2) := by decide +kernel
theorem dX5_addLock_82 : decode cX5_addLock 82 = .ok (.ireturn, 1) := by decide +kernel
theorem dX5_addLock_83 : decode cX5_addLock 83 = .ok (.new 71, 3) := by decide +kernel
theorem dX5_addLock_86 : decode cX5_addLock 86 = .ok (.dup, 1) := by decide +kernel
theorem dX5_addLock_87 : decode cX5_addLock 87 = .ok (.iload 6, 2) := by decide +kernel
theorem dX5_addLock_89 : decode cX5_addLock 89 = .ok (.aload_n 0, 1) := by decide +kernel
theorem dX5_addLock_90 : decode cX5_addLock 90 = .ok (.iload_n 1, 1) := by decide +kernel
theorem dX5_addLock_91 : decode cX5_addLock 91 = .ok (.iload_n 2, 1) := by decide +kernel
theorem dX5_addLock_92 : decode cX5_addLock 92 = .ok (.invokevirtual 73, 3) := by decide +kernel
theorem dX5_addLock_95 : decode cX5_addLock 95 = .ok (.aload_n 0, 1) := by decide +kernel
theorem dX5_addLock_96 : decode cX5_addLock 96 = .ok (.iload_n 1, 1) := by decide +kernel
theorem dX5_addLock_97 : decode cX5_addLock 97 = .ok (.iload_n 2, 1) := by decide +kernel
theorem dX5_addLock_98 : decode cX5_addLock 98 = .ok (.invokevirtual 77, 3) := by decide +kernel
theorem dX5_addLock_101 : decode cX5_addLock 101 = .ok (.iload_n 3, 1) := by decide +kernel
theorem dX5_addLock_102 : decode cX5_addLock 102 = .ok (.invokespecial 80, 3) := by decide +kernel
theorem dX5_addLock_105 : decode cX5_addLock 105 = .ok (.astore 7, 2) := by decide +kernel
theorem dX5_addLock_107 : decode cX5_addLock 107 = .ok (.aload 7, 2) := by decide +kernel
theorem dX5_addLock_109 : decode cX5_addLock 109 = .ok (.iconst 1, 1) := by decide +kernel
theorem dX5_addLock_110 : decode cX5_addLock 110 = .ok (.aload_n 0, 1) := by decide +kernel
theorem dX5_addLock_111 : decode cX5_addLock 111 = .ok (.getfield 86, 3) := by decide +kernel
theorem dX5_addLock_114 : decode cX5_addLock 114 = .ok (.ishl, 1) := by decide +kernel
theorem dX5_addLock_115 : decode cX5_addLock 115 = .ok (.iload 4, 2) := by decide +kernel
theorem dX5_addLock_117 : decode cX5_addLock 117 = .ok (.iload 5, 2) := by decide +kernel
theorem dX5_addLock_119 : decode cX5_addLock 119 = .ok (.invokevirtual 89, 3) := by decide +kernel
theorem dX5_addLock_122 : decode cX5_addLock 122 = .ok (.aload_n 0, 1) := by decide +kernel
theorem dX5_addLock_123 : decode cX5_addLock 123 = .ok (.getfield 16, 3) := by decide +kernel
theorem dX5_addLock_126 : decode cX5_addLock 126 = .ok (.aload 7, 2) := by decide +kernel
theorem dX5_addLock_128 : decode cX5_addLock 128 = .ok (.invokevirtual 52, 3) := by decide +kernel
theorem dX5_addLock_131 : decode cX5_addLock 131 = .ok (.pop, 1) := by decide +kernel
theorem dX5_addLock_132 : decode cX5_addLock 132 = .ok (.aload_n 0, 1) := by decide +kernel
theorem dX5_addLock_133 : decode cX5_addLock 133 = .ok (.dup, 1) := by decide +kernel
theorem dX5_addLock_134 : decode cX5_addLock 134 = .ok (.getfield 86, 3) := by decide +kernel
theorem dX5_addLock_137 : decode cX5_addLock 137 = .ok (.iconst 1, 1) := by decide +kernel
theorem dX5_addLock_138 : decode cX5_addLock 138 = .ok (.iadd, 1) := by decide +kernel
theorem dX5_addLock_139 : decode cX5_addLock 139 = .ok (.putfield 86, 3) := by decide +kernel
theorem dX5_addLock_142 : decode cX5_addLock 142 = .ok (.iload 6, 2) := by decide +kernel
theorem dX5_addLock_144 : decode cX5_addLock 144 = .ok (.ireturn, 1) := by decide +kernel
theorem dX5_addKey_0 : decode cX5_addKey 0 = .ok (.aload_n 0, 1) := by decide +kernel
theorem dX5_addKey_1 : decode cX5_addKey 1 = .ok (.iload_n 1, 1) := by decide +kernel
theorem dX5_addKey_2 : decode cX5_addKey 2 = .ok (.invokevirtual 56, 3) := by decide +kernel
theorem dX5_addKey_5 : decode cX5_addKey 5 = .ok (.ifCond .ne 5, 3) := by decide +kernel
theorem dX5_addKey_8 : decode cX5_addKey 8 = .ok (.iconst (-1), 1) := by decide +kernel
theorem dX5_addKey_9 : decode cX5_addKey 9 = .ok (.ireturn, 1) := by decide +kernel
theorem dX5_addKey_10 : decode cX5_addKey 10 = .ok (.iload_n 2, 1) := by decide +kernel
theorem dX5_addKey_11 : decode cX5_addKey 11 = .ok (.invokestatic 83, 3) := by decide +kernel
theorem dX5_addKey_14 : decode cX5_addKey 14 = .ok (.ifCond .ne 6, 3) := by decide +kernel
theorem dX5_addKey_17 : decode cX5_addKey 17 = .ok (.bipush (-2), 2) := by decide +kernel
theorem dX5_addKey_19 : decode cX5_addKey 19 = .ok (.ireturn, 1) := by decide +kernel
theorem dX5_addKey_20 : decode cX5_addKey 20 = .ok (.aload_n 0, 1) := by decide +kernel
theorem dX5_addKey_21 : decode cX5_addKey 21 = .ok (.getfield 19, 3) := by decide +kernel
theorem dX5_addKey_24 : decode cX5_addKey 24 = .ok (.invokevirtual 43, 3) := by decide +kernel
theorem dX5_addKey_27 : decode cX5_addKey 27 = .ok (.istore_n 3, 1) := by decide +kernel
theorem dX5_addKey_28 : decode cX5_addKey 28 = .ok (.iload_n 3, 1) := by decide +kernel
theorem dX5_addKey_29 : decode cX5_addKey 29 = .ok (.bipush 16, 2) := by decide +kernel
theorem dX5_addKey_31 : decode cX5_addKey 31 = .ok (.if_icmp .lt 6, 3) := by decide +kernel
theorem dX5_addKey_34 : decode cX5_addKey 34 = .ok (.bipush (-3), 2) := by decide +kernel
theorem dX5_addKey_36 : decode cX5_addKey 36 = .ok (.ireturn, 1) := by decide +kernel
theorem dX5_addKey_37 : decode cX5_addKey 37 = .ok (.aload_n 0, 1) := by decide +kernel
theorem dX5_addKey_38 : decode cX5_addKey 38 = .ok (.getfield 19, 3) := by decide +kernel
theorem dX5_addKey_41 : decode cX5_addKey 41 = .ok (.new 93, 3) := by decide +kernel
theorem dX5_addKey_44 : decode cX5_addKey 44 = .ok (.dup, 1) := by decide +kernel
theorem dX5_addKey_45 : decode cX5_addKey 45 = .ok (.iload_n 3, 1) := by decide +kernel
theorem dX5_addKey_46 : decode cX5_addKey 46 = .ok (.iload_n 2, 1) := by decide +kernel
theorem dX5_addKey_47 : decode cX5_addKey 47 = .ok (.aload_n 0, 1) := by decide +kernel
theorem dX5_addKey_48 : decode cX5_addKey 48 = .ok (.getfield 10, 3) := by decide +kernel
theorem dX5_addKey_51 : decode cX5_addKey 51 = .ok (.iload_n 1, 1) := by decide +kernel
theorem dX5_addKey_52 : decode cX5_addKey 52 = .ok (.invokevirtual 63, 3) := by decide +kernel
theorem dX5_addKey_55 : decode cX5_addKey 55 = .ok (.checkcast 47, 3) := by decide +kernel
theorem dX5_addKey_58 : decode cX5_addKey 58 = .ok (.invokespecial 95, 3) := by decide +kernel
theorem dX5_addKey_61 : decode cX5_addKey 61 = .ok (.invokevirtual 52, 3) := by decide +kernel
theorem dX5_addKey_64 : decode cX5_addKey 64 = .ok (.pop, 1) := by decide +kernel
theorem dX5_addKey_65 : decode cX5_addKey 65 = .ok (.iload_n 3, 1) := by decide +kernel
theorem dX5_addKey_66 : decode cX5_addKey 66 = .ok (.ireturn, 1) := by decide +kernel
theorem dX5_addGroup_0 : decode cX5_addGroup 0 = .ok (.aload_n 0, 1) := by decide +kernel
theorem dX5_addGroup_1 : decode cX5_addGroup 1 = .ok (.iload_n 2, 1) := by decide +kernel
theorem dX5_addGroup_2 : decode cX5_addGroup 2 = .ok (.invokevirtual 56, 3) := by decide +kernel
theorem dX5_addGroup_5 : decode cX5_addGroup 5 = .ok (.ifCond .ne 5, 3) := by decide +kernel
theorem dX5_addGroup_8 : decode cX5_addGroup 8 = .ok (.iconst (-1), 1) := by decide +kernel
theorem dX5_addGroup_9 : decode cX5_addGroup 9 = .ok (.ireturn, 1) := by decide +kernel
theorem dX5_addGroup_10 : decode cX5_addGroup 10 = .ok (.iload_n 1, 1) := by decide +kernel
theorem dX5_addGroup_11 : decode cX5_addGroup 11 = .ok (.iconst 1, 1) := by decide +kernel
theorem dX5_addGroup_12 : decode cX5_addGroup 12 = .ok (.bipush 24, 2) := by decide +kernel
theorem dX5_addGroup_14 : decode cX5_addGroup 14 = .ok (.invokestatic 67, 3) := by decide +kernel
theorem dX5_addGroup_17 : decode cX5_addGroup 17 = .ok (.ifCond .ne 6, 3) := by decide +kernel
theorem dX5_addGroup_20 : decode cX5_addGroup 20 = .ok (.bipush (-2), 2) := by decide +kernel
theorem dX5_addGroup_22 : decode cX5_addGroup 22 = .ok (.ireturn, 1) := by decide +kernel
theorem dX5_addGroup_23 : decode cX5_addGroup 23 = .ok (.aload_n 0, 1) := by decide +kernel
theorem dX5_addGroup_24 : decode cX5_addGroup 24 = .ok (.getfield 22, 3) := by decide +kernel
theorem dX5_addGroup_27 : decode cX5_addGroup 27 = .ok (.invokevirtual 43, 3) := by decide +kernel
theorem dX5_addGroup_30 : decode cX5_addGroup 30 = .ok (.istore_n 3, 1) := by decide +kernel
theorem dX5_addGroup_31 : decode cX5_addGroup 31 = .ok (.aload_n 0, 1) := by decide +kernel
theorem dX5_addGroup_32 : decode cX5_addGroup 32 = .ok (.iconst 0, 1) := by decide +kernel
theorem dX5_addGroup_33 : decode cX5_addGroup 33 = .ok (.invokevirtual 98, 3) := by decide +kernel
theorem dX5_addGroup_36 : decode cX5_addGroup 36 = .ok (.aload_n 0, 1) := by decide +kernel
theorem dX5_addGroup_37 : decode cX5_addGroup 37 = .ok (.iconst 1, 1) := by decide +kernel
theorem dX5_addGroup_38 : decode cX5_addGroup 38 = .ok (.invokevirtual 98, 3) := by decide +kernel
theorem dX5_addGroup_41 : decode cX5_addGroup 41 = .ok (.iadd, 1) := by decide +kernel
theorem dX5_addGroup_42 : decode cX5_addGroup 42 = .ok (.istore 4, 2) := by decide +kernel
theorem dX5_addGroup_44 : decode cX5_addGroup 44 = .ok (.iload_n 3, 1) := by decide +kernel
theorem dX5_addGroup_45 : decode cX5_addGroup 45 = .ok (.bipush 6, 2) := by decide +kernel
theorem dX5_addGroup_47 : decode cX5_addGroup 47 = .ok (.if_icmp .ge 12, 3) := by decide +kernel
theorem dX5_addGroup_50 : decode cX5_addGroup 50 = .ok (.iload 4, 2) := by decide +kernel
theorem dX5_addGroup_52 : decode cX5_addGroup 52 = .ok (.iload_n 1, 1) := by decide +kernel
theorem dX5_addGroup_53 : decode cX5_addGroup 53 = .ok (.iadd, 1) := by decide +kernel
theorem dX5_addGroup_54 : decode cX5_addGroup 54 = .ok (.bipush 24, 2) := by decide +kernel
theorem dX5_addGroup_56 : decode cX5_addGroup 56 = .ok (.if_icmp .le 6, 3) := by decide +kernel
theorem dX5_addGroup_59 : decode cX5_addGroup 59 = .ok (.bipush (-3), 2) := by decide +kernel
theorem dX5_addGroup_61 : decode cX5_addGroup 61 = .ok (.ireturn, 1) := by decide +kernel
theorem dX5_addGroup_62 : decode cX5_addGroup 62 = .ok (.aload_n 0, 1) := by decide +kernel
theorem dX5_addGroup_63 : decode cX5_addGroup 63 = .ok (.getfield 22, 3) := by decide +kernel
theorem dX5_addGroup_66 : decode cX5_addGroup 66 = .ok (.new 102, 3) := by decide +kernel
theorem dX5_addGroup_69 : decode cX5_addGroup 69 = .ok (.dup, 1) := by decide +kernel
theorem dX5_addGroup_70 : decode cX5_addGroup 70 = .ok (.iload_n 3, 1) := by decide +kernel
theorem dX5_addGroup_71 : decode cX5_addGroup 71 = .ok (.iload_n 1, 1) := by decide +kernel
theorem dX5_addGroup_72 : decode cX5_addGroup 72 = .ok (.aload_n 0, 1) := by decide +kernel
theorem dX5_addGroup_73 : decode cX5_addGroup 73 = .ok (.getfield 10, 3) := by decide +kernel
theorem dX5_addGroup_76 : decode cX5_addGroup 76 = .ok (.iload_n 2, 1) := by decide +kernel
theorem dX5_addGroup_77 : decode cX5_addGroup 77 = .ok (.invokevirtual 63, 3) := by decide +kernel
theorem dX5_addGroup_80 : decode cX5_addGroup 80 = .ok (.checkcast 47, 3) := by decide +kernel
theorem dX5_addGroup_83 : decode cX5_addGroup 83 = .ok (.iconst 0, 1) := by decide +kernel
theorem dX5_addGroup_84 : decode cX5_addGroup 84 = .ok (.invokespecial 104, 3) := by decide +kernel
theorem dX5_addGroup_87 : decode cX5_addGroup 87 = .ok (.invokevirtual 52, 3) := by decide +kernel
theorem dX5_addGroup_90 : decode cX5_addGroup 90 = .ok (.pop, 1) := by decide +kernel
theorem dX5_addGroup_91 : decode cX5_addGroup 91 = .ok (.iload_n 3, 1) := by decide +kernel
theorem dX5_addGroup_92 : decode cX5_addGroup 92 = .ok (.ireturn, 1) := by decide +kernel
theorem dX5_setHints_0 : decode cX5_setHints 0 = .ok (.iload_n 1, 1) := by decide +kernel
theorem dX5_setHints_1 : decode cX5_setHints 1 = .ok (.iconst 1, 1) := by decide +kernel
theorem dX5_setHints_2 : decode cX5_setHints 2 = .ok (.bipush 30, 2) := by decide +kernel
theorem dX5_setHints_4 : decode cX5_setHints 4 = .ok (.invokestatic 67, 3) := by decide +kernel
theorem dX5_setHints_7 : decode cX5_setHints 7 = .ok (.ifCond .eq 13, 3) := by decide +kernel
theorem dX5_setHints_10 : decode cX5_setHints 10 = .ok (.iload_n 2, 1) := by decide +kernel
theorem dX5_setHints_11 : decode cX5_setHints 11 = .ok (.iconst 0, 1) := by decide +kernel
theorem dX5_setHints_12 : decode cX5_setHints 12 = .ok (.bipush 30, 2) := by decide +kernel
theorem dX5_setHints_14 : decode cX5_setHints 14 = .ok (.invokestatic 67, 3) := by decide +kernel
theorem dX5_setHints_17 : decode cX5_setHints 17 = .ok (.ifCond .ne 6, 3) := by decide +kernel
theorem dX5_setHints_20 : decode cX5_setHints 20 = .ok (.bipush (-2), 2) := by decide +kernel
theorem dX5_setHints_22 : decode cX5_setHints 22 = .ok (.ireturn, 1) := by decide +kernel
theorem dX5_setHints_23 : decode cX5_setHints 23 = .ok (.aload_n 0, 1) := by decide +kernel
theorem dX5_setHints_24 : decode cX5_setHints 24 = .ok (.getfield 36, 3) := by decide +kernel
theorem dX5_setHints_27 : decode cX5_setHints 27 = .ok (.istore_n 3, 1) := by decide +kernel
theorem dX5_setHints_28 : decode cX5_setHints 28 = .ok (.aload_n 0, 1) := by decide +kernel
theorem dX5_setHints_29 : decode cX5_setHints 29 = .ok (.iload_n 1, 1) := by decide +kernel
theorem dX5_setHints_30 : decode cX5_setHints 30 = .ok (.putfield 36, 3) := by decide +kernel
theorem dX5_setHints_33 : decode cX5_setHints 33 = .ok (.aload_n 0, 1) := by decide +kernel
theorem dX5_setHints_34 : decode cX5_setHints 34 = .ok (.iload_n 2, 1) := by decide +kernel
theorem dX5_setHints_35 : decode cX5_setHints 35 = .ok (.putfield 40, 3) := by decide +kernel
theorem dX5_setHints_38 : decode cX5_setHints 38 = .ok (.iload_n 3, 1) := by decide +kernel
theorem dX5_setHints_39 : decode cX5_setHints 39 = .ok (.ireturn, 1) := by decide +kernel
theorem dX5_walk_0 : decode cX5_walk 0 = .ok (.aload_n 0, 1) := by decide +kernel
theorem dX5_walk_1 : decode cX5_walk 1 = .ok (.iload_n 1, 1) := by decide +kernel
theorem dX5_walk_2 : decode cX5_walk 2 = .ok (.invokevirtual 107, 3) := by decide +kernel
theorem dX5_walk_5 : decode cX5_walk 5 = .ok (.ifCond .eq 11, 3) := by decide +kernel
theorem dX5_walk_8 : decode cX5_walk 8 = .ok (.aload_n 0, 1) := by decide +kernel
theorem dX5_walk_9 : decode cX5_walk 9 = .ok (.iload_n 2, 1) := by decide +kernel
theorem dX5_walk_10 : decode cX5_walk 10 = .ok (.invokevirtual 110, 3) := by decide +kernel
theorem dX5_walk_13 : decode cX5_walk 13 = .ok (.ifCond .ne 5, 3) := by decide +kernel
theorem dX5_walk_16 : decode cX5_walk 16 = .ok (.iconst (-1), 1) := by decide +kernel
theorem dX5_walk_17 : decode cX5_walk 17 = .ok (.ireturn, 1) := by decide +kernel
theorem dX5_walk_18 : decode cX5_walk 18 = .ok (.aload_n 0, 1) := by decide +kernel
theorem dX5_walk_19 : decode cX5_walk 19 = .ok (.getfield 22, 3) := by decide +kernel
theorem dX5_walk_22 : decode cX5_walk 22 = .ok (.iload_n 1, 1) := by decide +kernel
theorem dX5_walk_23 : decode cX5_walk 23 = .ok (.invokevirtual 63, 3) := by decide +kernel
theorem dX5_walk_26 : decode cX5_walk 26 = .ok (.checkcast 102, 3) := by decide +kernel
theorem dX5_walk_29 : decode cX5_walk 29 = .ok (.astore_n 3, 1) := by decide +kernel
theorem dX5_walk_30 : decode cX5_walk 30 = .ok (.aload_n 0, 1) := by decide +kernel
theorem dX5_walk_31 : decode cX5_walk 31 = .ok (.getfield 16, 3) := by decide +kernel
theorem dX5_walk_34 : decode cX5_walk 34 = .ok (.iload_n 2, 1) := by decide +kernel
theorem dX5_walk_35 : decode cX5_walk 35 = .ok (.invokevirtual 63, 3) := by decide +kernel
theorem dX5_walk_38 : decode cX5_walk 38 = .ok (.checkcast 71, 3) := by decide +kernel
theorem dX5_walk_41 : decode cX5_walk 41 = .ok (.astore 4, 2) := by decide +kernel
theorem dX5_walk_43 : decode cX5_walk 43 = .ok (.aload_n 3, 1) := by decide +kernel
theorem dX5_walk_44 : decode cX5_walk 44 = .ok (.invokevirtual 113, 3) := by decide +kernel
theorem dX5_walk_47 : decode cX5_walk 47 = .ok (.ifCond .eq 23, 3) := by decide +kernel
theorem dX5_walk_50 : decode cX5_walk 50 = .ok (.aload 4, 2) := by decide +kernel
theorem dX5_walk_52 : decode cX5_walk 52 = .ok (.aload_n 3, 1) := by decide +kernel
theorem dX5_walk_53 : decode cX5_walk 53 = .ok (.getfield 117, 3) := by decide +kernel
theorem dX5_walk_56 : decode cX5_walk 56 = .ok (.invokevirtual 120, 3) := by decide +kernel
theorem dX5_walk_59 : decode cX5_walk 59 = .ok (.ifCond .eq 11, 3) := by decide +kernel
theorem dX5_walk_62 : decode cX5_walk 62 = .ok (.aload 4, 2) := by decide +kernel
theorem dX5_walk_64 : decode cX5_walk 64 = .ok (.getfield 124, 3) := by decide +kernel
theorem dX5_walk_67 : decode cX5_walk 67 = .ok (.ifCond .ne 6, 3) := by decide +kernel
theorem dX5_walk_70 : decode cX5_walk 70 = .ok (.bipush (-4), 2) := by decide +kernel
theorem dX5_walk_72 : decode cX5_walk 72 = .ok (.ireturn, 1) := by decide +kernel
theorem dX5_walk_73 : decode cX5_walk 73 = .ok (.aload 4, 2) := by decide +kernel
theorem dX5_walk_75 : decode cX5_walk 75 = .ok (.aload_n 3, 1) := by decide +kernel
theorem dX5_walk_76 : decode cX5_walk 76 = .ok (.getfield 128, 3) := by decide +kernel
theorem dX5_walk_79 : decode cX5_walk 79 = .ok (.invokevirtual 131, 3) := by decide +kernel
theorem dX5_walk_82 : decode cX5_walk 82 = .ok (.istore 5, 2) := by decide +kernel
theorem dX5_walk_84 : decode cX5_walk 84 = .ok (.iload 5, 2) := by decide +kernel
theorem dX5_walk_86 : decode cX5_walk 86 = .ok (.ldc 134, 2) := by decide +kernel
theorem dX5_walk_88 : decode cX5_walk 88 = .ok (.if_icmp .le 6, 3) := by decide +kernel
theorem dX5_walk_91 : decode cX5_walk 91 = .ok (.bipush (-5), 2) := by decide +kernel
theorem dX5_walk_93 : decode cX5_walk 93 = .ok (.ireturn, 1) := by decide +kernel
theorem dX5_walk_94 : decode cX5_walk 94 = .ok (.aload_n 3, 1) := by decide +kernel
theorem dX5_walk_95 : decode cX5_walk 95 = .ok (.iload 5, 2) := by decide +kernel
theorem dX5_walk_97 : decode cX5_walk 97 = .ok (.putfield 128, 3) := by decide +kernel
theorem dX5_walk_100 : decode cX5_walk 100 = .ok (.aload_n 3, 1) := by decide +kernel
theorem dX5_walk_101 : decode cX5_walk 101 = .ok (.aload 4, 2) := by decide +kernel
theorem dX5_walk_103 : decode cX5_walk 103 = .ok (.aload_n 3, 1) := by decide +kernel
theorem dX5_walk_104 : decode cX5_walk 104 = .ok (.getfield 117, 3) := by decide +kernel
theorem dX5_walk_107 : decode cX5_walk 107 = .ok (.invokevirtual 135, 3) := by decide +kernel
theorem dX5_walk_110 : decode cX5_walk 110 = .ok (.putfield 117, 3) := by decide +kernel
theorem dX5_walk_113 : decode cX5_walk 113 = .ok (.iload 5, 2) := by decide +kernel
theorem dX5_walk_115 : decode cX5_walk 115 = .ok (.ireturn, 1) := by decide +kernel
theorem dX5_unlock_0 : decode cX5_unlock 0 = .ok (.aload_n 0, 1) := by decide +kernel
theorem dX5_unlock_1 : decode cX5_unlock 1 = .ok (.iload_n 1, 1) := by decide +kernel
theorem dX5_unlock_2 : decode cX5_unlock 2 = .ok (.invokevirtual 107, 3) := by decide +kernel
theorem dX5_unlock_5 : decode cX5_unlock 5 = .ok (.ifCond .eq 11, 3) := by decide +kernel
theorem dX5_unlock_8 : decode cX5_unlock 8 = .ok (.aload_n 0, 1) := by decide +kernel
theorem dX5_unlock_9 : decode cX5_unlock 9 = .ok (.iload_n 2, 1) := by decide +kernel
theorem dX5_unlock_10 : decode cX5_unlock 10 = .ok (.invokevirtual 110, 3) := by decide +kernel
theorem dX5_unlock_13 : decode cX5_unlock 13 = .ok (.ifCond .ne 5, 3) := by decide +kernel
theorem dX5_unlock_16 : decode cX5_unlock 16 = .ok (.iconst (-1), 1) := by decide +kernel
theorem dX5_unlock_17 : decode cX5_unlock 17 = .ok (.ireturn, 1) := by decide +kernel
theorem dX5_unlock_18 : decode cX5_unlock 18 = .ok (.aload_n 0, 1) := by decide +kernel
theorem dX5_unlock_19 : decode cX5_unlock 19 = .ok (.getfield 22, 3) := by decide +kernel
theorem dX5_unlock_22 : decode cX5_unlock 22 = .ok (.iload_n 1, 1) := by decide +kernel
theorem dX5_unlock_23 : decode cX5_unlock 23 = .ok (.invokevirtual 63, 3) := by decide +kernel
theorem dX5_unlock_26 : decode cX5_unlock 26 = .ok (.checkcast 102, 3) := by decide +kernel
theorem dX5_unlock_29 : decode cX5_unlock 29 = .ok (.astore_n 3, 1) := by decide +kernel
theorem dX5_unlock_30 : decode cX5_unlock 30 = .ok (.aload_n 0, 1) := by decide +kernel
theorem dX5_unlock_31 : decode cX5_unlock 31 = .ok (.getfield 16, 3) := by decide +kernel
theorem dX5_unlock_34 : decode cX5_unlock 34 = .ok (.iload_n 2, 1) := by decide +kernel
theorem dX5_unlock_35 : decode cX5_unlock 35 = .ok (.invokevirtual 63, 3) := by decide +kernel
theorem dX5_unlock_38 : decode cX5_unlock 38 = .ok (.checkcast 71, 3) := by decide +kernel
theorem dX5_unlock_41 : decode cX5_unlock 41 = .ok (.astore 4, 2) := by decide +kernel
theorem dX5_unlock_43 : decode cX5_unlock 43 = .ok (.aload_n 3, 1) := by decide +kernel
theorem dX5_unlock_44 : decode cX5_unlock 44 = .ok (.invokevirtual 113, 3) := by decide +kernel
theorem dX5_unlock_47 : decode cX5_unlock 47 = .ok (.ifCond .eq 23, 3) := by decide +kernel
theorem dX5_unlock_50 : decode cX5_unlock 50 = .ok (.aload 4, 2) := by decide +kernel
theorem dX5_unlock_52 : decode cX5_unlock 52 = .ok (.aload_n 3, 1) := by decide +kernel
theorem dX5_unlock_53 : decode cX5_unlock 53 = .ok (.getfield 117, 3) := by decide +kernel
theorem dX5_unlock_56 : decode cX5_unlock 56 = .ok (.invokevirtual 120, 3) := by decide +kernel
theorem dX5_unlock_59 : decode cX5_unlock 59 = .ok (.ifCond .eq 11, 3) := by decide +kernel
theorem dX5_unlock_62 : decode cX5_unlock 62 = .ok (.aload 4, 2) := by decide +kernel
theorem dX5_unlock_64 : decode cX5_unlock 64 = .ok (.getfield 124, 3) := by decide +kernel
theorem dX5_unlock_67 : decode cX5_unlock 67 = .ok (.ifCond .eq 6, 3) := by decide +kernel
theorem dX5_unlock_70 : decode cX5_unlock 70 = .ok (.bipush (-4), 2) := by decide +kernel
theorem dX5_unlock_72 : decode cX5_unlock 72 = .ok (.ireturn, 1) := by decide +kernel
theorem dX5_unlock_73 : decode cX5_unlock 73 = .ok (.aload_n 0, 1) := by decide +kernel
theorem dX5_unlock_74 : decode cX5_unlock 74 = .ok (.aload_n 3, 1) := by decide +kernel
theorem dX5_unlock_75 : decode cX5_unlock 75 = .ok (.aload 4, 2) := by decide +kernel
theorem dX5_unlock_77 : decode cX5_unlock 77 = .ok (.getfield 139, 3) := by decide +kernel
theorem dX5_unlock_80 : decode cX5_unlock 80 = .ok (.invokevirtual 142, 3) := by decide +kernel
theorem dX5_unlock_83 : decode cX5_unlock 83 = .ok (.astore 5, 2) := by decide +kernel
theorem dX5_unlock_85 : decode cX5_unlock 85 = .ok (.aload 5, 2) := by decide +kernel
theorem dX5_unlock_87 : decode cX5_unlock 87 = .ok (.ifnonnull 6, 3) := by decide +kernel
theorem dX5_unlock_90 : decode cX5_unlock 90 = .ok (.bipush (-4), 2) := by decide +kernel
theorem dX5_unlock_92 : decode cX5_unlock 92 = .ok (.ireturn, 1) := by decide +kernel
theorem dX5_unlock_93 : decode cX5_unlock 93 = .ok (.aload_n 3, 1) := by decide +kernel
theorem dX5_unlock_94 : decode cX5_unlock 94 = .ok (.getfield 128, 3) := by decide +kernel
theorem dX5_unlock_97 : decode cX5_unlock 97 = .ok (.aload 4, 2) := by decide +kernel
theorem dX5_unlock_99 : decode cX5_unlock 99 = .ok (.getfield 146, 3) := by decide +kernel
theorem dX5_unlock_102 : decode cX5_unlock 102 = .ok (.iadd, 1) := by decide +kernel
theorem dX5_unlock_103 : decode cX5_unlock 103 = .ok (.istore 6, 2) := by decide +kernel
theorem dX5_unlock_105 : decode cX5_unlock 105 = .ok (.iload 6, 2) := by decide +kernel
theorem dX5_unlock_107 : decode cX5_unlock 107 = .ok (.ldc 134, 2) := by decide +kernel
theorem dX5_unlock_109 : decode cX5_unlock 109 = .ok (.if_icmp .le 6, 3) := by decide +kernel
theorem dX5_unlock_112 : decode cX5_unlock 112 = .ok (.bipush (-5), 2) := by decide +kernel
theorem dX5_unlock_114 : decode cX5_unlock 114 = .ok (.ireturn, 1) := by decide +kernel
theorem dX5_unlock_115 : decode cX5_unlock 115 = .ok (.aload_n 3, 1) := by decide +kernel
theorem dX5_unlock_116 : decode cX5_unlock 116 = .ok (.iload 6, 2) := by decide +kernel
theorem dX5_unlock_118 : decode cX5_unlock 118 = .ok (.putfield 128, 3) := by decide +kernel
theorem dX5_unlock_121 : decode cX5_unlock 121 = .ok (.aload 4, 2) := by decide +kernel
theorem dX5_unlock_123 : decode cX5_unlock 123 = .ok (.iload 6, 2) := by decide +kernel
theorem dX5_unlock_125 : decode cX5_unlock 125 = .ok (.invokevirtual 149, 3) := by decide +kernel
theorem dX5_unlock_128 : decode cX5_unlock 128 = .ok (.aload 5, 2) := by decide +kernel
theorem dX5_unlock_130 : decode cX5_unlock 130 = .ok (.aload 4, 2) := by decide +kernel
theorem dX5_unlock_132 : decode cX5_unlock 132 = .ok (.invokevirtual 152, 3) := by decide +kernel
theorem dX5_unlock_135 : decode cX5_unlock 135 = .ok (.aload 5, 2) := by decide +kernel
theorem dX5_unlock_137 : decode cX5_unlock 137 = .ok (.getfield 156, 3) := by decide +kernel
theorem dX5_unlock_140 : decode cX5_unlock 140 = .ok (.ireturn, 1) := by decide +kernel
theorem dX5_take_0 : decode cX5_take 0 = .ok (.aload_n 0, 1) := by decide +kernel
theorem dX5_take_1 : decode cX5_take 1 = .ok (.iload_n 1, 1) := by decide +kernel
theorem dX5_take_2 : decode cX5_take 2 = .ok (.invokevirtual 107, 3) := by decide +kernel
theorem dX5_take_5 : decode cX5_take 5 = .ok (.ifCond .eq 11, 3) := by decide +kernel
theorem dX5_take_8 : decode cX5_take 8 = .ok (.aload_n 0, 1) := by decide +kernel
theorem dX5_take_9 : decode cX5_take 9 = .ok (.iload_n 2, 1) := by decide +kernel
theorem dX5_take_10 : decode cX5_take 10 = .ok (.invokevirtual 159, 3) := by decide +kernel
theorem dX5_take_13 : decode cX5_take 13 = .ok (.ifCond .ne 5, 3) := by decide +kernel
theorem dX5_take_16 : decode cX5_take 16 = .ok (.iconst (-1), 1) := by decide +kernel
theorem dX5_take_17 : decode cX5_take 17 = .ok (.ireturn, 1) := by decide +kernel
theorem dX5_take_18 : decode cX5_take 18 = .ok (.aload_n 0, 1) := by decide +kernel
theorem dX5_take_19 : decode cX5_take 19 = .ok (.getfield 22, 3) := by decide +kernel
theorem dX5_take_22 : decode cX5_take 22 = .ok (.iload_n 1, 1) := by decide +kernel
theorem dX5_take_23 : decode cX5_take 23 = .ok (.invokevirtual 63, 3) := by decide +kernel
theorem dX5_take_26 : decode cX5_take 26 = .ok (.checkcast 102, 3) := by decide +kernel
theorem dX5_take_29 : decode cX5_take 29 = .ok (.astore_n 3, 1) := by decide +kernel
theorem dX5_take_30 : decode cX5_take 30 = .ok (.aload_n 0, 1) := by decide +kernel
theorem dX5_take_31 : decode cX5_take 31 = .ok (.getfield 19, 3) := by decide +kernel
theorem dX5_take_34 : decode cX5_take 34 = .ok (.iload_n 2, 1) := by decide +kernel
theorem dX5_take_35 : decode cX5_take 35 = .ok (.invokevirtual 63, 3) := by decide +kernel
theorem dX5_take_38 : decode cX5_take 38 = .ok (.checkcast 93, 3) := by decide +kernel
theorem dX5_take_41 : decode cX5_take 41 = .ok (.astore 4, 2) := by decide +kernel
theorem dX5_take_43 : decode cX5_take 43 = .ok (.aload_n 3, 1) := by decide +kernel
theorem dX5_take_44 : decode cX5_take 44 = .ok (.invokevirtual 113, 3) := by decide +kernel
theorem dX5_take_47 : decode cX5_take 47 = .ok (.ifCond .eq 15, 3) := by decide +kernel
theorem dX5_take_50 : decode cX5_take 50 = .ok (.aload 4, 2) := by decide +kernel
theorem dX5_take_52 : decode cX5_take 52 = .ok (.getfield 162, 3) := by decide +kernel
theorem dX5_take_55 : decode cX5_take 55 = .ok (.aload_n 3, 1) := by decide +kernel
theorem dX5_take_56 : decode cX5_take 56 = .ok (.getfield 117, 3) := by decide +kernel
theorem dX5_take_59 : decode cX5_take 59 = .ok (.if_acmp .eq 6, 3) := by decide +kernel
theorem dX5_take_62 : decode cX5_take 62 = .ok (.bipush (-4), 2) := by decide +kernel
theorem dX5_take_64 : decode cX5_take 64 = .ok (.ireturn, 1) := by decide +kernel
theorem dX5_take_65 : decode cX5_take 65 = .ok (.aload_n 3, 1) := by decide +kernel
theorem dX5_take_66 : decode cX5_take 66 = .ok (.aload_n 3, 1) := by decide +kernel
theorem dX5_take_67 : decode cX5_take 67 = .ok (.getfield 128, 3) := by decide +kernel
theorem dX5_take_70 : decode cX5_take 70 = .ok (.aload 4, 2) := by decide +kernel
theorem dX5_take_72 : decode cX5_take 72 = .ok (.getfield 163, 3) := by decide +kernel
theorem dX5_take_75 : decode cX5_take 75 = .ok (.invokestatic 166, 3) := by decide +kernel
theorem dX5_take_78 : decode cX5_take 78 = .ok (.putfield 128, 3) := by decide +kernel
theorem dX5_take_81 : decode cX5_take 81 = .ok (.aload 4, 2) := by decide +kernel
theorem dX5_take_83 : decode cX5_take 83 = .ok (.aload_n 3, 1) := by decide +kernel
theorem dX5_take_84 : decode cX5_take 84 = .ok (.invokevirtual 172, 3) := by decide +kernel
theorem dX5_take_87 : decode cX5_take 87 = .ok (.aload_n 0, 1) := by decide +kernel
theorem dX5_take_88 : decode cX5_take 88 = .ok (.aload_n 3, 1) := by decide +kernel
theorem dX5_take_89 : decode cX5_take 89 = .ok (.invokevirtual 176, 3) := by decide +kernel
theorem dX5_take_92 : decode cX5_take 92 = .ok (.ireturn, 1) := by decide +kernel
theorem dX5_drop_0 : decode cX5_drop 0 = .ok (.aload_n 0, 1) := by decide +kernel
theorem dX5_drop_1 : decode cX5_drop 1 = .ok (.iload_n 1, 1) := by decide +kernel
theorem dX5_drop_2 : decode cX5_drop 2 = .ok (.invokevirtual 107, 3) := by decide +kernel
theorem dX5_drop_5 : decode cX5_drop 5 = .ok (.ifCond .eq 11, 3) := by decide +kernel
theorem dX5_drop_8 : decode cX5_drop 8 = .ok (.aload_n 0, 1) := by decide +kernel
theorem dX5_drop_9 : decode cX5_drop 9 = .ok (.iload_n 2, 1) := by decide +kernel
theorem dX5_drop_10 : decode cX5_drop 10 = .ok (.invokevirtual 159, 3) := by decide +kernel
theorem dX5_drop_13 : decode cX5_drop 13 = .ok (.ifCond .ne 5, 3) := by decide +kernel
theorem dX5_drop_16 : decode cX5_drop 16 = .ok (.iconst (-1), 1) := by decide +kernel
theorem dX5_drop_17 : decode cX5_drop 17 = .ok (.ireturn, 1) := by decide +kernel
theorem dX5_drop_18 : decode cX5_drop 18 = .ok (.aload_n 0, 1) := by decide +kernel
theorem dX5_drop_19 : decode cX5_drop 19 = .ok (.getfield 22, 3) := by decide +kernel
theorem dX5_drop_22 : decode cX5_drop 22 = .ok (.iload_n 1, 1) := by decide +kernel
theorem dX5_drop_23 : decode cX5_drop 23 = .ok (.invokevirtual 63, 3) := by decide +kernel
theorem dX5_drop_26 : decode cX5_drop 26 = .ok (.checkcast 102, 3) := by decide +kernel
theorem dX5_drop_29 : decode cX5_drop 29 = .ok (.astore_n 3, 1) := by decide +kernel
theorem dX5_drop_30 : decode cX5_drop 30 = .ok (.aload_n 0, 1) := by decide +kernel
theorem dX5_drop_31 : decode cX5_drop 31 = .ok (.getfield 19, 3) := by decide +kernel
theorem dX5_drop_34 : decode cX5_drop 34 = .ok (.iload_n 2, 1) := by decide +kernel
theorem dX5_drop_35 : decode cX5_drop 35 = .ok (.invokevirtual 63, 3) := by decide +kernel
theorem dX5_drop_38 : decode cX5_drop 38 = .ok (.checkcast 93, 3) := by decide +kernel
theorem dX5_drop_41 : decode cX5_drop 41 = .ok (.astore 4, 2) := by decide +kernel
theorem dX5_drop_43 : decode cX5_drop 43 = .ok (.aload_n 3, 1) := by decide +kernel
theorem dX5_drop_44 : decode cX5_drop 44 = .ok (.invokevirtual 113, 3) := by decide +kernel
theorem dX5_drop_47 : decode cX5_drop 47 = .ok (.ifCond .eq 12, 3) := by decide +kernel
theorem dX5_drop_50 : decode cX5_drop 50 = .ok (.aload 4, 2) := by decide +kernel
theorem dX5_drop_52 : decode cX5_drop 52 = .ok (.getfield 180, 3) := by decide +kernel
theorem dX5_drop_55 : decode cX5_drop 55 = .ok (.aload_n 3, 1) := by decide +kernel
theorem dX5_drop_56 : decode cX5_drop 56 = .ok (.if_acmp .eq 6, 3) := by decide +kernel
theorem dX5_drop_59 : decode cX5_drop 59 = .ok (.bipush (-4), 2) := by decide +kernel
theorem dX5_drop_61 : decode cX5_drop 61 = .ok (.ireturn, 1) := by decide +kernel
theorem dX5_drop_62 : decode cX5_drop 62 = .ok (.aload 4, 2) := by decide +kernel
theorem dX5_drop_64 : decode cX5_drop 64 = .ok (.aload_n 3, 1) := by decide +kernel
theorem dX5_drop_65 : decode cX5_drop 65 = .ok (.getfield 117, 3) := by decide +kernel
theorem dX5_drop_68 : decode cX5_drop 68 = .ok (.aload_n 3, 1) := by decide +kernel
theorem dX5_drop_69 : decode cX5_drop 69 = .ok (.getfield 128, 3) := by decide +kernel
theorem dX5_drop_72 : decode cX5_drop 72 = .ok (.invokevirtual 184, 3) := by decide +kernel
theorem dX5_drop_75 : decode cX5_drop 75 = .ok (.aload_n 0, 1) := by decide +kernel
theorem dX5_drop_76 : decode cX5_drop 76 = .ok (.aload_n 3, 1) := by decide +kernel
theorem dX5_drop_77 : decode cX5_drop 77 = .ok (.invokevirtual 176, 3) := by decide +kernel
theorem dX5_drop_80 : decode cX5_drop 80 = .ok (.ireturn, 1) := by decide +kernel
theorem dX5_idle_0 : decode cX5_idle 0 = .ok (.aload_n 0, 1) := by decide +kernel
theorem dX5_idle_1 : decode cX5_idle 1 = .ok (.iload_n 1, 1) := by decide +kernel
theorem dX5_idle_2 : decode cX5_idle 2 = .ok (.invokevirtual 107, 3) := by decide +kernel
theorem dX5_idle_5 : decode cX5_idle 5 = .ok (.ifCond .ne 5, 3) := by decide +kernel
theorem dX5_idle_8 : decode cX5_idle 8 = .ok (.iconst (-1), 1) := by decide +kernel
theorem dX5_idle_9 : decode cX5_idle 9 = .ok (.ireturn, 1) := by decide +kernel
theorem dX5_idle_10 : decode cX5_idle 10 = .ok (.iload_n 2, 1) := by decide +kernel
theorem dX5_idle_11 : decode cX5_idle 11 = .ok (.iconst 1, 1) := by decide +kernel
theorem dX5_idle_12 : decode cX5_idle 12 = .ok (.sipush 1000, 3) := by decide +kernel
theorem dX5_idle_15 : decode cX5_idle 15 = .ok (.invokestatic 67, 3) := by decide +kernel
theorem dX5_idle_18 : decode cX5_idle 18 = .ok (.ifCond .ne 6, 3) := by decide +kernel
theorem dX5_idle_21 : decode cX5_idle 21 = .ok (.bipush (-2), 2) := by decide +kernel
theorem dX5_idle_23 : decode cX5_idle 23 = .ok (.ireturn, 1) := by decide +kernel
theorem dX5_idle_24 : decode cX5_idle 24 = .ok (.aload_n 0, 1) := by decide +kernel
theorem dX5_idle_25 : decode cX5_idle 25 = .ok (.getfield 22, 3) := by decide +kernel
theorem dX5_idle_28 : decode cX5_idle 28 = .ok (.iload_n 1, 1) := by decide +kernel
theorem dX5_idle_29 : decode cX5_idle 29 = .ok (.invokevirtual 63, 3) := by decide +kernel
theorem dX5_idle_32 : decode cX5_idle 32 = .ok (.checkcast 102, 3) := by decide +kernel
theorem dX5_idle_35 : decode cX5_idle 35 = .ok (.astore_n 3, 1) := by decide +kernel
theorem dX5_idle_36 : decode cX5_idle 36 = .ok (.aload_n 3, 1) := by decide +kernel
theorem dX5_idle_37 : decode cX5_idle 37 = .ok (.invokevirtual 113, 3) := by decide +kernel
theorem dX5_idle_40 : decode cX5_idle 40 = .ok (.ifCond .ne 6, 3) := by decide +kernel
theorem dX5_idle_43 : decode cX5_idle 43 = .ok (.bipush (-4), 2) := by decide +kernel
theorem dX5_idle_45 : decode cX5_idle 45 = .ok (.ireturn, 1) := by decide +kernel
theorem dX5_idle_46 : decode cX5_idle 46 = .ok (.aload_n 3, 1) := by decide +kernel
theorem dX5_idle_47 : decode cX5_idle 47 = .ok (.getfield 128, 3) := by decide +kernel
theorem dX5_idle_50 : decode cX5_idle 50 = .ok (.iload_n 2, 1) := by decide +kernel
theorem dX5_idle_51 : decode cX5_idle 51 = .ok (.iadd, 1) := by decide +kernel
theorem dX5_idle_52 : decode cX5_idle 52 = .ok (.istore 4, 2) := by decide +kernel
theorem dX5_idle_54 : decode cX5_idle 54 = .ok (.iload 4, 2) := by decide +kernel
theorem dX5_idle_56 : decode cX5_idle 56 = .ok (.ldc 134, 2) := by decide +kernel
theorem dX5_idle_58 : decode cX5_idle 58 = .ok (.if_icmp .le 6, 3) := by decide +kernel
theorem dX5_idle_61 : decode cX5_idle 61 = .ok (.bipush (-5), 2) := by decide +kernel
theorem dX5_idle_63 : decode cX5_idle 63 = .ok (.ireturn, 1) := by decide +kernel
theorem dX5_idle_64 : decode cX5_idle 64 = .ok (.aload_n 3, 1) := by decide +kernel
theorem dX5_idle_65 : decode cX5_idle 65 = .ok (.iload 4, 2) := by decide +kernel
theorem dX5_idle_67 : decode cX5_idle 67 = .ok (.putfield 128, 3) := by decide +kernel
theorem dX5_idle_70 : decode cX5_idle 70 = .ok (.iload 4, 2) := by decide +kernel
theorem dX5_idle_72 : decode cX5_idle 72 = .ok (.ireturn, 1) := by decide +kernel
theorem dX5_part_0 : decode cX5_part 0 = .ok (.aload_n 0, 1) := by decide +kernel
theorem dX5_part_1 : decode cX5_part 1 = .ok (.iload_n 1, 1) := by decide +kernel
theorem dX5_part_2 : decode cX5_part 2 = .ok (.invokevirtual 107, 3) := by decide +kernel
theorem dX5_part_5 : decode cX5_part 5 = .ok (.ifCond .ne 5, 3) := by decide +kernel
theorem dX5_part_8 : decode cX5_part 8 = .ok (.iconst (-1), 1) := by decide +kernel
theorem dX5_part_9 : decode cX5_part 9 = .ok (.ireturn, 1) := by decide +kernel
theorem dX5_part_10 : decode cX5_part 10 = .ok (.iload_n 2, 1) := by decide +kernel
theorem dX5_part_11 : decode cX5_part 11 = .ok (.iconst 1, 1) := by decide +kernel
theorem dX5_part_12 : decode cX5_part 12 = .ok (.bipush 23, 2) := by decide +kernel
theorem dX5_part_14 : decode cX5_part 14 = .ok (.invokestatic 67, 3) := by decide +kernel
theorem dX5_part_17 : decode cX5_part 17 = .ok (.ifCond .ne 6, 3) := by decide +kernel
theorem dX5_part_20 : decode cX5_part 20 = .ok (.bipush (-2), 2) := by decide +kernel
theorem dX5_part_22 : decode cX5_part 22 = .ok (.ireturn, 1) := by decide +kernel
theorem dX5_part_23 : decode cX5_part 23 = .ok (.aload_n 0, 1) := by decide +kernel
theorem dX5_part_24 : decode cX5_part 24 = .ok (.getfield 22, 3) := by decide +kernel
theorem dX5_part_27 : decode cX5_part 27 = .ok (.iload_n 1, 1) := by decide +kernel
theorem dX5_part_28 : decode cX5_part 28 = .ok (.invokevirtual 63, 3) := by decide +kernel
theorem dX5_part_31 : decode cX5_part 31 = .ok (.checkcast 102, 3) := by decide +kernel
theorem dX5_part_34 : decode cX5_part 34 = .ok (.astore_n 3, 1) := by decide +kernel
theorem dX5_part_35 : decode cX5_part 35 = .ok (.aload_n 3, 1) := by decide +kernel
theorem dX5_part_36 : decode cX5_part 36 = .ok (.invokevirtual 113, 3) := by decide +kernel
theorem dX5_part_39 : decode cX5_part 39 = .ok (.ifCond .eq 11, 3) := by decide +kernel
theorem dX5_part_42 : decode cX5_part 42 = .ok (.aload_n 3, 1) := by decide +kernel
theorem dX5_part_43 : decode cX5_part 43 = .ok (.getfield 188, 3) := by decide +kernel
theorem dX5_part_46 : decode cX5_part 46 = .ok (.iload_n 2, 1) := by decide +kernel
theorem dX5_part_47 : decode cX5_part 47 = .ok (.if_icmp .gt 6, 3) := by decide +kernel
theorem dX5_part_50 : decode cX5_part 50 = .ok (.bipush (-4), 2) := by decide +kernel
theorem dX5_part_52 : decode cX5_part 52 = .ok (.ireturn, 1) := by decide +kernel
theorem dX5_part_53 : decode cX5_part 53 = .ok (.aload_n 0, 1) := by decide +kernel
theorem dX5_part_54 : decode cX5_part 54 = .ok (.getfield 22, 3) := by decide +kernel
theorem dX5_part_57 : decode cX5_part 57 = .ok (.invokevirtual 43, 3) := by decide +kernel
theorem dX5_part_60 : decode cX5_part 60 = .ok (.istore 4, 2) := by decide +kernel
theorem dX5_part_62 : decode cX5_part 62 = .ok (.iload 4, 2) := by decide +kernel
theorem dX5_part_64 : decode cX5_part 64 = .ok (.bipush 6, 2) := by decide +kernel
theorem dX5_part_66 : decode cX5_part 66 = .ok (.if_icmp .lt 6, 3) := by decide +kernel
theorem dX5_part_69 : decode cX5_part 69 = .ok (.bipush (-3), 2) := by decide +kernel
theorem dX5_part_71 : decode cX5_part 71 = .ok (.ireturn, 1) := by decide +kernel
theorem dX5_part_72 : decode cX5_part 72 = .ok (.aload_n 3, 1) := by decide +kernel
theorem dX5_part_73 : decode cX5_part 73 = .ok (.dup, 1) := by decide +kernel
theorem dX5_part_74 : decode cX5_part 74 = .ok (.getfield 188, 3) := by decide +kernel
theorem dX5_part_77 : decode cX5_part 77 = .ok (.iload_n 2, 1) := by decide +kernel
theorem dX5_part_78 : decode cX5_part 78 = .ok (.isub, 1) := by decide +kernel
theorem dX5_part_79 : decode cX5_part 79 = .ok (.putfield 188, 3) := by decide +kernel
theorem dX5_part_82 : decode cX5_part 82 = .ok (.aload_n 0, 1) := by decide +kernel
theorem dX5_part_83 : decode cX5_part 83 = .ok (.getfield 22, 3) := by decide +kernel
theorem dX5_part_86 : decode cX5_part 86 = .ok (.new 102, 3) := by decide +kernel
theorem dX5_part_89 : decode cX5_part 89 = .ok (.dup, 1) := by decide +kernel
theorem dX5_part_90 : decode cX5_part 90 = .ok (.iload 4, 2) := by decide +kernel
theorem dX5_part_92 : decode cX5_part 92 = .ok (.iload_n 2, 1) := by decide +kernel
theorem dX5_part_93 : decode cX5_part 93 = .ok (.aload_n 3, 1) := by decide +kernel
theorem dX5_part_94 : decode cX5_part 94 = .ok (.getfield 117, 3) := by decide +kernel
theorem dX5_part_97 : decode cX5_part 97 = .ok (.aload_n 3, 1) := by decide +kernel
theorem dX5_part_98 : decode cX5_part 98 = .ok (.getfield 128, 3) := by decide +kernel
theorem dX5_part_101 : decode cX5_part 101 = .ok (.invokespecial 104, 3) := by decide +kernel
theorem dX5_part_104 : decode cX5_part 104 = .ok (.invokevirtual 52, 3) := by decide +kernel
theorem dX5_part_107 : decode cX5_part 107 = .ok (.pop, 1) := by decide +kernel
theorem dX5_part_108 : decode cX5_part 108 = .ok (.iload 4, 2) := by decide +kernel
theorem dX5_part_110 : decode cX5_part 110 = .ok (.ireturn, 1) := by decide +kernel
theorem dX5_join_0 : decode cX5_join 0 = .ok (.aload_n 0, 1) := by decide +kernel
theorem dX5_join_1 : decode cX5_join 1 = .ok (.iload_n 1, 1) := by decide +kernel
theorem dX5_join_2 : decode cX5_join 2 = .ok (.invokevirtual 107, 3) := by decide +kernel
theorem dX5_join_5 : decode cX5_join 5 = .ok (.ifCond .eq 11, 3) := by decide +kernel
theorem dX5_join_8 : decode cX5_join 8 = .ok (.aload_n 0, 1) := by decide +kernel
theorem dX5_join_9 : decode cX5_join 9 = .ok (.iload_n 2, 1) := by decide +kernel
theorem dX5_join_10 : decode cX5_join 10 = .ok (.invokevirtual 107, 3) := by decide +kernel
theorem dX5_join_13 : decode cX5_join 13 = .ok (.ifCond .ne 5, 3) := by decide +kernel
theorem dX5_join_16 : decode cX5_join 16 = .ok (.iconst (-1), 1) := by decide +kernel
theorem dX5_join_17 : decode cX5_join 17 = .ok (.ireturn, 1) := by decide +kernel
theorem dX5_join_18 : decode cX5_join 18 = .ok (.iload_n 1, 1) := by decide +kernel
theorem dX5_join_19 : decode cX5_join 19 = .ok (.iload_n 2, 1) := by decide +kernel
theorem dX5_join_20 : decode cX5_join 20 = .ok (.if_icmp .ne 6, 3) := by decide +kernel
theorem dX5_join_23 : decode cX5_join 23 = .ok (.bipush (-2), 2) := by decide +kernel
theorem dX5_join_25 : decode cX5_join 25 = .ok (.ireturn, 1) := by decide +kernel
theorem dX5_join_26 : decode cX5_join 26 = .ok (.aload_n 0, 1) := by decide +kernel
theorem dX5_join_27 : decode cX5_join 27 = .ok (.getfield 22, 3) := by decide +kernel
theorem dX5_join_30 : decode cX5_join 30 = .ok (.iload_n 1, 1) := by decide +kernel
theorem dX5_join_31 : decode cX5_join 31 = .ok (.invokevirtual 63, 3) := by decide +kernel
theorem dX5_join_34 : decode cX5_join 34 = .ok (.checkcast 102, 3) := by decide +kernel
theorem dX5_join_37 : decode cX5_join 37 = .ok (.astore_n 3, 1) := by decide +kernel
theorem dX5_join_38 : decode cX5_join 38 = .ok (.aload_n 0, 1) := by decide +kernel
theorem dX5_join_39 : decode cX5_join 39 = .ok (.getfield 22, 3) := by decide +kernel
theorem dX5_join_42 : decode cX5_join 42 = .ok (.iload_n 2, 1) := by decide +kernel
theorem dX5_join_43 : decode cX5_join 43 = .ok (.invokevirtual 63, 3) := by decide +kernel
theorem dX5_join_46 : decode cX5_join 46 = .ok (.checkcast 102, 3) := by decide +kernel
theorem dX5_join_49 : decode cX5_join 49 = .ok (.astore 4, 2) := by decide +kernel
theorem dX5_join_51 : decode cX5_join 51 = .ok (.aload_n 3, 1) := by decide +kernel
theorem dX5_join_52 : decode cX5_join 52 = .ok (.invokevirtual 113, 3) := by decide +kernel
theorem dX5_join_55 : decode cX5_join 55 = .ok (.ifCond .eq 23, 3) := by decide +kernel
theorem dX5_join_58 : decode cX5_join 58 = .ok (.aload 4, 2) := by decide +kernel
theorem dX5_join_60 : decode cX5_join 60 = .ok (.invokevirtual 113, 3) := by decide +kernel
theorem dX5_join_63 : decode cX5_join 63 = .ok (.ifCond .eq 15, 3) := by decide +kernel
theorem dX5_join_66 : decode cX5_join 66 = .ok (.aload_n 3, 1) := by decide +kernel
theorem dX5_join_67 : decode cX5_join 67 = .ok (.getfield 117, 3) := by decide +kernel
theorem dX5_join_70 : decode cX5_join 70 = .ok (.aload 4, 2) := by decide +kernel
theorem dX5_join_72 : decode cX5_join 72 = .ok (.getfield 117, 3) := by decide +kernel
theorem dX5_join_75 : decode cX5_join 75 = .ok (.if_acmp .eq 6, 3) := by decide +kernel
theorem dX5_join_78 : decode cX5_join 78 = .ok (.bipush (-4), 2) := by decide +kernel
theorem dX5_join_80 : decode cX5_join 80 = .ok (.ireturn, 1) := by decide +kernel
theorem dX5_join_81 : decode cX5_join 81 = .ok (.aload_n 0, 1) := by decide +kernel
theorem dX5_join_82 : decode cX5_join 82 = .ok (.aload_n 3, 1) := by decide +kernel
theorem dX5_join_83 : decode cX5_join 83 = .ok (.aload 4, 2) := by decide +kernel
theorem dX5_join_85 : decode cX5_join 85 = .ok (.invokevirtual 190, 3) := by decide +kernel
theorem dX5_join_88 : decode cX5_join 88 = .ok (.aload 4, 2) := by decide +kernel
theorem dX5_join_90 : decode cX5_join 90 = .ok (.dup, 1) := by decide +kernel
theorem dX5_join_91 : decode cX5_join 91 = .ok (.getfield 188, 3) := by decide +kernel
theorem dX5_join_94 : decode cX5_join 94 = .ok (.aload_n 3, 1) := by decide +kernel
theorem dX5_join_95 : decode cX5_join 95 = .ok (.getfield 188, 3) := by decide +kernel
theorem dX5_join_98 : decode cX5_join 98 = .ok (.iadd, 1) := by decide +kernel
theorem dX5_join_99 : decode cX5_join 99 = .ok (.putfield 188, 3) := by decide +kernel
theorem dX5_join_102 : decode cX5_join 102 = .ok (.aload 4, 2) := by decide +kernel
theorem dX5_join_104 : decode cX5_join 104 = .ok (.aload 4, 2) := by decide +kernel
theorem dX5_join_106 : decode cX5_join 106 = .ok (.getfield 128, 3) := by decide +kernel
theorem dX5_join_109 : decode cX5_join 109 = .ok (.aload_n 3, 1) := by decide +kernel
theorem dX5_join_110 : decode cX5_join 110 = .ok (.getfield 128, 3) := by decide +kernel
theorem dX5_join_113 : decode cX5_join 113 = .ok (.invokestatic 166, 3) := by decide +kernel
theorem dX5_join_116 : decode cX5_join 116 = .ok (.putfield 128, 3) := by decide +kernel
theorem dX5_join_119 : decode cX5_join 119 = .ok (.aload 4, 2) := by decide +kernel
theorem dX5_join_121 : decode cX5_join 121 = .ok (.dup, 1) := by decide +kernel
theorem dX5_join_122 : decode cX5_join 122 = .ok (.getfield 194, 3) := by decide +kernel
theorem dX5_join_125 : decode cX5_join 125 = .ok (.aload_n 3, 1) := by decide +kernel
theorem dX5_join_126 : decode cX5_join 126 = .ok (.getfield 194, 3) := by decide +kernel
theorem dX5_join_129 : decode cX5_join 129 = .ok (.iadd, 1) := by decide +kernel
theorem dX5_join_130 : decode cX5_join 130 = .ok (.putfield 194, 3) := by decide +kernel
theorem dX5_join_133 : decode cX5_join 133 = .ok (.aload_n 3, 1) := by decide +kernel
theorem dX5_join_134 : decode cX5_join 134 = .ok (.iconst 0, 1) := by decide +kernel
theorem dX5_join_135 : decode cX5_join 135 = .ok (.putfield 188, 3) := by decide +kernel
theorem dX5_join_138 : decode cX5_join 138 = .ok (.aload_n 3, 1) := by decide +kernel
theorem dX5_join_139 : decode cX5_join 139 = .ok (.iconst 2, 1) := by decide +kernel
theorem dX5_join_140 : decode cX5_join 140 = .ok (.putfield 197, 3) := by decide +kernel
theorem dX5_join_143 : decode cX5_join 143 = .ok (.aload 4, 2) := by decide +kernel
theorem dX5_join_145 : decode cX5_join 145 = .ok (.getfield 188, 3) := by decide +kernel
theorem dX5_join_148 : decode cX5_join 148 = .ok (.ireturn, 1) := by decide +kernel
theorem dX5_leave_0 : decode cX5_leave 0 = .ok (.aload_n 0, 1) := by decide +kernel
theorem dX5_leave_1 : decode cX5_leave 1 = .ok (.iload_n 1, 1) := by decide +kernel
theorem dX5_leave_2 : decode cX5_leave 2 = .ok (.invokevirtual 107, 3) := by decide +kernel
theorem dX5_leave_5 : decode cX5_leave 5 = .ok (.ifCond .ne 5, 3) := by decide +kernel
theorem dX5_leave_8 : decode cX5_leave 8 = .ok (.iconst (-1), 1) := by decide +kernel
theorem dX5_leave_9 : decode cX5_leave 9 = .ok (.ireturn, 1) := by decide +kernel
theorem dX5_leave_10 : decode cX5_leave 10 = .ok (.aload_n 0, 1) := by decide +kernel
theorem dX5_leave_11 : decode cX5_leave 11 = .ok (.getfield 22, 3) := by decide +kernel
theorem dX5_leave_14 : decode cX5_leave 14 = .ok (.iload_n 1, 1) := by decide +kernel
theorem dX5_leave_15 : decode cX5_leave 15 = .ok (.invokevirtual 63, 3) := by decide +kernel
theorem dX5_leave_18 : decode cX5_leave 18 = .ok (.checkcast 102, 3) := by decide +kernel
theorem dX5_leave_21 : decode cX5_leave 21 = .ok (.astore_n 2, 1) := by decide +kernel
theorem dX5_leave_22 : decode cX5_leave 22 = .ok (.aload_n 2, 1) := by decide +kernel
theorem dX5_leave_23 : decode cX5_leave 23 = .ok (.invokevirtual 113, 3) := by decide +kernel
theorem dX5_leave_26 : decode cX5_leave 26 = .ok (.ifCond .eq 14, 3) := by decide +kernel
theorem dX5_leave_29 : decode cX5_leave 29 = .ok (.aload_n 2, 1) := by decide +kernel
theorem dX5_leave_30 : decode cX5_leave 30 = .ok (.getfield 117, 3) := by decide +kernel
theorem dX5_leave_33 : decode cX5_leave 33 = .ok (.aload_n 0, 1) := by decide +kernel
theorem dX5_leave_34 : decode cX5_leave 34 = .ok (.getfield 32, 3) := by decide +kernel
theorem dX5_leave_37 : decode cX5_leave 37 = .ok (.if_acmp .eq 6, 3) := by decide +kernel
theorem dX5_leave_40 : decode cX5_leave 40 = .ok (.bipush (-4), 2) := by decide +kernel
theorem dX5_leave_42 : decode cX5_leave 42 = .ok (.ireturn, 1) := by decide +kernel
theorem dX5_leave_43 : decode cX5_leave 43 = .ok (.aload_n 2, 1) := by decide +kernel
theorem dX5_leave_44 : decode cX5_leave 44 = .ok (.iconst 1, 1) := by decide +kernel
theorem dX5_leave_45 : decode cX5_leave 45 = .ok (.putfield 197, 3) := by decide +kernel
theorem dX5_leave_48 : decode cX5_leave 48 = .ok (.aload_n 2, 1) := by decide +kernel
theorem dX5_leave_49 : decode cX5_leave 49 = .ok (.getfield 128, 3) := by decide +kernel
theorem dX5_leave_52 : decode cX5_leave 52 = .ok (.ireturn, 1) := by decide +kernel
theorem dX5_hint_0 : decode cX5_hint 0 = .ok (.aload_n 0, 1) := by decide +kernel
theorem dX5_hint_1 : decode cX5_hint 1 = .ok (.iload_n 1, 1) := by decide +kernel
theorem dX5_hint_2 : decode cX5_hint 2 = .ok (.invokevirtual 107, 3) := by decide +kernel
theorem dX5_hint_5 : decode cX5_hint 5 = .ok (.ifCond .ne 5, 3) := by decide +kernel
theorem dX5_hint_8 : decode cX5_hint 8 = .ok (.iconst (-1), 1) := by decide +kernel
theorem dX5_hint_9 : decode cX5_hint 9 = .ok (.ireturn, 1) := by decide +kernel
theorem dX5_hint_10 : decode cX5_hint 10 = .ok (.aload_n 0, 1) := by decide +kernel
theorem dX5_hint_11 : decode cX5_hint 11 = .ok (.getfield 22, 3) := by decide +kernel
theorem dX5_hint_14 : decode cX5_hint 14 = .ok (.iload_n 1, 1) := by decide +kernel
theorem dX5_hint_15 : decode cX5_hint 15 = .ok (.invokevirtual 63, 3) := by decide +kernel
theorem dX5_hint_18 : decode cX5_hint 18 = .ok (.checkcast 102, 3) := by decide +kernel
theorem dX5_hint_21 : decode cX5_hint 21 = .ok (.astore_n 2, 1) := by decide +kernel
theorem dX5_hint_22 : decode cX5_hint 22 = .ok (.aload_n 2, 1) := by decide +kernel
theorem dX5_hint_23 : decode cX5_hint 23 = .ok (.invokevirtual 113, 3) := by decide +kernel
theorem dX5_hint_26 : decode cX5_hint 26 = .ok (.ifCond .ne 6, 3) := by decide +kernel
theorem dX5_hint_29 : decode cX5_hint 29 = .ok (.bipush (-4), 2) := by decide +kernel
theorem dX5_hint_31 : decode cX5_hint 31 = .ok (.ireturn, 1) := by decide +kernel
theorem dX5_hint_32 : decode cX5_hint 32 = .ok (.aload_n 2, 1) := by decide +kernel
theorem dX5_hint_33 : decode cX5_hint 33 = .ok (.getfield 128, 3) := by decide +kernel
theorem dX5_hint_36 : decode cX5_hint 36 = .ok (.aload_n 0, 1) := by decide +kernel
theorem dX5_hint_37 : decode cX5_hint 37 = .ok (.getfield 36, 3) := by decide +kernel
theorem dX5_hint_40 : decode cX5_hint 40 = .ok (.iadd, 1) := by decide +kernel
theorem dX5_hint_41 : decode cX5_hint 41 = .ok (.aload_n 0, 1) := by decide +kernel
theorem dX5_hint_42 : decode cX5_hint 42 = .ok (.getfield 40, 3) := by decide +kernel
theorem dX5_hint_45 : decode cX5_hint 45 = .ok (.aload_n 2, 1) := by decide +kernel
theorem dX5_hint_46 : decode cX5_hint 46 = .ok (.getfield 194, 3) := by decide +kernel
theorem dX5_hint_49 : decode cX5_hint 49 = .ok (.imul, 1) := by decide +kernel
theorem dX5_hint_50 : decode cX5_hint 50 = .ok (.iadd, 1) := by decide +kernel
theorem dX5_hint_51 : decode cX5_hint 51 = .ok (.istore_n 3, 1) := by decide +kernel
theorem dX5_hint_52 : decode cX5_hint 52 = .ok (.iload_n 3, 1) := by decide +kernel
theorem dX5_hint_53 : decode cX5_hint 53 = .ok (.ldc 134, 2) := by decide +kernel
theorem dX5_hint_55 : decode cX5_hint 55 = .ok (.if_icmp .le 6, 3) := by decide +kernel
theorem dX5_hint_58 : decode cX5_hint 58 = .ok (.bipush (-5), 2) := by decide +kernel
theorem dX5_hint_60 : decode cX5_hint 60 = .ok (.ireturn, 1) := by decide +kernel
theorem dX5_hint_61 : decode cX5_hint 61 = .ok (.aload_n 2, 1) := by decide +kernel
theorem dX5_hint_62 : decode cX5_hint 62 = .ok (.iload_n 3, 1) := by decide +kernel
theorem dX5_hint_63 : decode cX5_hint 63 = .ok (.putfield 128, 3) := by decide +kernel
theorem dX5_hint_66 : decode cX5_hint 66 = .ok (.aload_n 2, 1) := by decide +kernel
theorem dX5_hint_67 : decode cX5_hint 67 = .ok (.dup, 1) := by decide +kernel
theorem dX5_hint_68 : decode cX5_hint 68 = .ok (.getfield 194, 3) := by decide +kernel
theorem dX5_hint_71 : decode cX5_hint 71 = .ok (.iconst 1, 1) := by decide +kernel
theorem dX5_hint_72 : decode cX5_hint 72 = .ok (.iadd, 1) := by decide +kernel
theorem dX5_hint_73 : decode cX5_hint 73 = .ok (.putfield 194, 3) := by decide +kernel
theorem dX5_hint_76 : decode cX5_hint 76 = .ok (.aload_n 0, 1) := by decide +kernel
theorem dX5_hint_77 : decode cX5_hint 77 = .ok (.dup, 1) := by decide +kernel
theorem dX5_hint_78 : decode cX5_hint 78 = .ok (.getfield 200, 3) := by decide +kernel
theorem dX5_hint_81 : decode cX5_hint 81 = .ok (.iconst 1, 1) := by decide +kernel
theorem dX5_hint_82 : decode cX5_hint 82 = .ok (.iadd, 1) := by decide +kernel
theorem dX5_hint_83 : decode cX5_hint 83 = .ok (.putfield 200, 3) := by decide +kernel
theorem dX5_hint_86 : decode cX5_hint 86 = .ok (.aload_n 0, 1) := by decide +kernel
theorem dX5_hint_87 : decode cX5_hint 87 = .ok (.getfield 28, 3) := by decide +kernel
theorem dX5_hint_90 : decode cX5_hint 90 = .ok (.aload_n 2, 1) := by decide +kernel
theorem dX5_hint_91 : decode cX5_hint 91 = .ok (.aload_n 0, 1) := by decide +kernel
theorem dX5_hint_92 : decode cX5_hint 92 = .ok (.getfield 32, 3) := by decide +kernel
theorem dX5_hint_95 : decode cX5_hint 95 = .ok (.aload_n 0, 1) := by decide +kernel
theorem dX5_hint_96 : decode cX5_hint 96 = .ok (.getfield 16, 3) := by decide +kernel
theorem dX5_hint_99 : decode cX5_hint 99 = .ok (.aload_n 0, 1) := by decide +kernel
theorem dX5_hint_100 : decode cX5_hint 100 = .ok (.getfield 19, 3) := by decide +kernel
theorem dX5_hint_103 : decode cX5_hint 103 = .ok (.aload_n 0, 1) := by decide +kernel
theorem dX5_hint_104 : decode cX5_hint 104 = .ok (.getfield 86, 3) := by decide +kernel
theorem dX5_hint_107 : decode cX5_hint 107 = .ok (.invokevirtual 203, 3) := by decide +kernel
theorem dX5_hint_110 : decode cX5_hint 110 = .ok (.aload_n 0, 1) := by decide +kernel
theorem dX5_hint_111 : decode cX5_hint 111 = .ok (.getfield 28, 3) := by decide +kernel
theorem dX5_hint_114 : decode cX5_hint 114 = .ok (.getfield 207, 3) := by decide +kernel
theorem dX5_hint_117 : decode cX5_hint 117 = .ok (.ifCond .ne 6, 3) := by decide +kernel
theorem dX5_hint_120 : decode cX5_hint 120 = .ok (.bipush 17, 2) := by decide +kernel
theorem dX5_hint_122 : decode cX5_hint 122 = .ok (.ireturn, 1) := by decide +kernel
theorem dX5_hint_123 : decode cX5_hint 123 = .ok (.aload_n 0, 1) := by decide +kernel
theorem dX5_hint_124 : decode cX5_hint 124 = .ok (.getfield 28, 3) := by decide +kernel
theorem dX5_hint_127 : decode cX5_hint 127 = .ok (.getfield 210, 3) := by decide +kernel
theorem dX5_hint_130 : decode cX5_hint 130 = .ok (.ifCond .ne 8, 3) := by decide +kernel
theorem dX5_hint_133 : decode cX5_hint 133 = .ok (.bipush 16, 2) := by decide +kernel
theorem dX5_hint_135 : decode cX5_hint 135 = .ok (.goto 11, 3) := by decide +kernel
theorem dX5_hint_138 : decode cX5_hint 138 = .ok (.aload_n 0, 1) := by decide +kernel
theorem dX5_hint_139 : decode cX5_hint 139 = .ok (.getfield 28, 3) := by decide +kernel
theorem dX5_hint_142 : decode cX5_hint 142 = .ok (.iconst 0, 1) := by decide +kernel
theorem dX5_hint_143 : decode cX5_hint 143 = .ok (.invokevirtual 213, 3) := by decide +kernel
theorem dX5_hint_146 : decode cX5_hint 146 = .ok (.ireturn, 1) := by decide +kernel
theorem dX5_plan_0 : decode cX5_plan 0 = .ok (.aload_n 0, 1) := by decide +kernel
theorem dX5_plan_1 : decode cX5_plan 1 = .ok (.iload_n 1, 1) := by decide +kernel
theorem dX5_plan_2 : decode cX5_plan 2 = .ok (.invokevirtual 107, 3) := by decide +kernel
theorem dX5_plan_5 : decode cX5_plan 5 = .ok (.ifCond .ne 5, 3) := by decide +kernel
theorem dX5_plan_8 : decode cX5_plan 8 = .ok (.iconst (-1), 1) := by decide +kernel
theorem dX5_plan_9 : decode cX5_plan 9 = .ok (.ireturn, 1) := by decide +kernel
theorem dX5_plan_10 : decode cX5_plan 10 = .ok (.iload_n 2, 1) := by decide +kernel
theorem dX5_plan_11 : decode cX5_plan 11 = .ok (.iconst 0, 1) := by decide +kernel
theorem dX5_plan_12 : decode cX5_plan 12 = .ok (.iconst 1, 1) := by decide +kernel
theorem dX5_plan_13 : decode cX5_plan 13 = .ok (.invokestatic 67, 3) := by decide +kernel
theorem dX5_plan_16 : decode cX5_plan 16 = .ok (.ifCond .ne 6, 3) := by decide +kernel
theorem dX5_plan_19 : decode cX5_plan 19 = .ok (.bipush (-2), 2) := by decide +kernel
theorem dX5_plan_21 : decode cX5_plan 21 = .ok (.ireturn, 1) := by decide +kernel
theorem dX5_plan_22 : decode cX5_plan 22 = .ok (.aload_n 0, 1) := by decide +kernel
theorem dX5_plan_23 : decode cX5_plan 23 = .ok (.getfield 22, 3) := by decide +kernel
theorem dX5_plan_26 : decode cX5_plan 26 = .ok (.iload_n 1, 1) := by decide +kernel
theorem dX5_plan_27 : decode cX5_plan 27 = .ok (.invokevirtual 63, 3) := by decide +kernel
theorem dX5_plan_30 : decode cX5_plan 30 = .ok (.checkcast 102, 3) := by decide +kernel
theorem dX5_plan_33 : decode cX5_plan 33 = .ok (.astore_n 3, 1) := by decide +kernel
theorem dX5_plan_34 : decode cX5_plan 34 = .ok (.aload_n 3, 1) := by decide +kernel
theorem dX5_plan_35 : decode cX5_plan 35 = .ok (.invokevirtual 113, 3) := by decide +kernel
theorem dX5_plan_38 : decode cX5_plan 38 = .ok (.ifCond .ne 6, 3) := by decide +kernel
theorem dX5_plan_41 : decode cX5_plan 41 = .ok (.bipush (-4), 2) := by decide +kernel
theorem dX5_plan_43 : decode cX5_plan 43 = .ok (.ireturn, 1) := by decide +kernel
theorem dX5_plan_44 : decode cX5_plan 44 = .ok (.aload_n 0, 1) := by decide +kernel
theorem dX5_plan_45 : decode cX5_plan 45 = .ok (.getfield 28, 3) := by decide +kernel
theorem dX5_plan_48 : decode cX5_plan 48 = .ok (.aload_n 3, 1) := by decide +kernel
theorem dX5_plan_49 : decode cX5_plan 49 = .ok (.aload_n 0, 1) := by decide +kernel
theorem dX5_plan_50 : decode cX5_plan 50 = .ok (.getfield 32, 3) := by decide +kernel
theorem dX5_plan_53 : decode cX5_plan 53 = .ok (.aload_n 0, 1) := by decide +kernel
theorem dX5_plan_54 : decode cX5_plan 54 = .ok (.getfield 16, 3) := by decide +kernel
theorem dX5_plan_57 : decode cX5_plan 57 = .ok (.aload_n 0, 1) := by decide +kernel
theorem dX5_plan_58 : decode cX5_plan 58 = .ok (.getfield 19, 3) := by decide +kernel
theorem dX5_plan_61 : decode cX5_plan 61 = .ok (.aload_n 0, 1) := by decide +kernel
theorem dX5_plan_62 : decode cX5_plan 62 = .ok (.getfield 86, 3) := by decide +kernel
theorem dX5_plan_65 : decode cX5_plan 65 = .ok (.invokevirtual 203, 3) := by decide +kernel
theorem dX5_plan_68 : decode cX5_plan 68 = .ok (.aload_n 0, 1) := by decide +kernel
theorem dX5_plan_69 : decode cX5_plan 69 = .ok (.getfield 28, 3) := by decide +kernel
theorem dX5_plan_72 : decode cX5_plan 72 = .ok (.getfield 207, 3) := by decide +kernel
theorem dX5_plan_75 : decode cX5_plan 75 = .ok (.ifCond .ne 6, 3) := by decide +kernel
theorem dX5_plan_78 : decode cX5_plan 78 = .ok (.bipush (-6), 2) := by decide +kernel
theorem dX5_plan_80 : decode cX5_plan 80 = .ok (.ireturn, 1) := by decide +kernel
theorem dX5_plan_81 : decode cX5_plan 81 = .ok (.iload_n 2, 1) := by decide +kernel
theorem dX5_plan_82 : decode cX5_plan 82 = .ok (.ifCond .ne 13, 3) := by decide +kernel
theorem dX5_plan_85 : decode cX5_plan 85 = .ok (.aload_n 0, 1) := by decide +kernel
theorem dX5_plan_86 : decode cX5_plan 86 = .ok (.getfield 28, 3) := by decide +kernel
theorem dX5_plan_89 : decode cX5_plan 89 = .ok (.getfield 216, 3) := by decide +kernel
theorem dX5_plan_92 : decode cX5_plan 92 = .ok (.goto 10, 3) := by decide +kernel
theorem dX5_plan_95 : decode cX5_plan 95 = .ok (.aload_n 0, 1) := by decide +kernel
theorem dX5_plan_96 : decode cX5_plan 96 = .ok (.getfield 28, 3) := by decide +kernel
theorem dX5_plan_99 : decode cX5_plan 99 = .ok (.getfield 210, 3) := by decide +kernel
theorem dX5_plan_102 : decode cX5_plan 102 = .ok (.ireturn, 1) := by decide +kernel
theorem dX5_planned_0 : decode cX5_planned 0 = .ok (.aload_n 0, 1) := by decide +kernel
theorem dX5_planned_1 : decode cX5_planned 1 = .ok (.iload_n 1, 1) := by decide +kernel
theorem dX5_planned_2 : decode cX5_planned 2 = .ok (.invokevirtual 107, 3) := by decide +kernel
theorem dX5_planned_5 : decode cX5_planned 5 = .ok (.ifCond .ne 5, 3) := by decide +kernel
theorem dX5_planned_8 : decode cX5_planned 8 = .ok (.iconst (-1), 1) := by decide +kernel
theorem dX5_planned_9 : decode cX5_planned 9 = .ok (.ireturn, 1) := by decide +kernel
theorem dX5_planned_10 : decode cX5_planned 10 = .ok (.iload_n 2, 1) := by decide +kernel
theorem dX5_planned_11 : decode cX5_planned 11 = .ok (.ifCond .ge 6, 3) := by decide +kernel
theorem dX5_planned_14 : decode cX5_planned 14 = .ok (.bipush (-2), 2) := by decide +kernel
theorem dX5_planned_16 : decode cX5_planned 16 = .ok (.ireturn, 1) := by decide +kernel
theorem dX5_planned_17 : decode cX5_planned 17 = .ok (.aload_n 0, 1) := by decide +kernel
theorem dX5_planned_18 : decode cX5_planned 18 = .ok (.getfield 22, 3) := by decide +kernel
theorem dX5_planned_21 : decode cX5_planned 21 = .ok (.iload_n 1, 1) := by decide +kernel
theorem dX5_planned_22 : decode cX5_planned 22 = .ok (.invokevirtual 63, 3) := by decide +kernel
theorem dX5_planned_25 : decode cX5_planned 25 = .ok (.checkcast 102, 3) := by decide +kernel
theorem dX5_planned_28 : decode cX5_planned 28 = .ok (.astore_n 3, 1) := by decide +kernel
theorem dX5_planned_29 : decode cX5_planned 29 = .ok (.aload_n 3, 1) := by decide +kernel
theorem dX5_planned_30 : decode cX5_planned 30 = .ok (.invokevirtual 113, 3) := by decide +kernel
theorem dX5_planned_33 : decode cX5_planned 33 = .ok (.ifCond .ne 6, 3) := by decide +kernel
theorem dX5_planned_36 : decode cX5_planned 36 = .ok (.bipush (-4), 2) := by decide +kernel
theorem dX5_planned_38 : decode cX5_planned 38 = .ok (.ireturn, 1) := by decide +kernel
theorem dX5_planned_39 : decode cX5_planned 39 = .ok (.aload_n 0, 1) := by decide +kernel
theorem dX5_planned_40 : decode cX5_planned 40 = .ok (.getfield 28, 3) := by decide +kernel
theorem dX5_planned_43 : decode cX5_planned 43 = .ok (.aload_n 3, 1) := by decide +kernel
theorem dX5_planned_44 : decode cX5_planned 44 = .ok (.aload_n 0, 1) := by decide +kernel
theorem dX5_planned_45 : decode cX5_planned 45 = .ok (.getfield 32, 3) := by decide +kernel
theorem dX5_planned_48 : decode cX5_planned 48 = .ok (.aload_n 0, 1) := by decide +kernel
theorem dX5_planned_49 : decode cX5_planned 49 = .ok (.getfield 16, 3) := by decide +kernel
theorem dX5_planned_52 : decode cX5_planned 52 = .ok (.aload_n 0, 1) := by decide +kernel
theorem dX5_planned_53 : decode cX5_planned 53 = .ok (.getfield 19, 3) := by decide +kernel
theorem dX5_planned_56 : decode cX5_planned 56 = .ok (.aload_n 0, 1) := by decide +kernel
theorem dX5_planned_57 : decode cX5_planned 57 = .ok (.getfield 86, 3) := by decide +kernel
theorem dX5_planned_60 : decode cX5_planned 60 = .ok (.invokevirtual 203, 3) := by decide +kernel
theorem dX5_planned_63 : decode cX5_planned 63 = .ok (.aload_n 0, 1) := by decide +kernel
theorem dX5_planned_64 : decode cX5_planned 64 = .ok (.getfield 28, 3) := by decide +kernel
theorem dX5_planned_67 : decode cX5_planned 67 = .ok (.getfield 207, 3) := by decide +kernel
theorem dX5_planned_70 : decode cX5_planned 70 = .ok (.ifCond .eq 14, 3) := by decide +kernel
theorem dX5_planned_73 : decode cX5_planned 73 = .ok (.iload_n 2, 1) := by decide +kernel
theorem dX5_planned_74 : decode cX5_planned 74 = .ok (.aload_n 0, 1) := by decide +kernel
theorem dX5_planned_75 : decode cX5_planned 75 = .ok (.getfield 28, 3) := by decide +kernel
theorem dX5_planned_78 : decode cX5_planned 78 = .ok (.getfield 210, 3) := by decide +kernel
theorem dX5_planned_81 : decode cX5_planned 81 = .ok (.if_icmp .lt 6, 3) := by decide +kernel
theorem dX5_planned_84 : decode cX5_planned 84 = .ok (.bipush (-6), 2) := by decide +kernel
theorem dX5_planned_86 : decode cX5_planned 86 = .ok (.ireturn, 1) := by decide +kernel
theorem dX5_planned_87 : decode cX5_planned 87 = .ok (.aload_n 0, 1) := by decide +kernel
theorem dX5_planned_88 : decode cX5_planned 88 = .ok (.getfield 28, 3) := by decide +kernel
theorem dX5_planned_91 : decode cX5_planned 91 = .ok (.iload_n 2, 1) := by decide +kernel
theorem dX5_planned_92 : decode cX5_planned 92 = .ok (.invokevirtual 213, 3) := by decide +kernel
theorem dX5_planned_95 : decode cX5_planned 95 = .ok (.ireturn, 1) := by decide +kernel
theorem dX5_way_0 : decode cX5_way 0 = .ok (.aload_n 0, 1) := by decide +kernel
theorem dX5_way_1 : decode cX5_way 1 = .ok (.iload_n 1, 1) := by decide +kernel
theorem dX5_way_2 : decode cX5_way 2 = .ok (.invokevirtual 107, 3) := by decide +kernel
theorem dX5_way_5 : decode cX5_way 5 = .ok (.ifCond .eq 11, 3) := by decide +kernel
theorem dX5_way_8 : decode cX5_way 8 = .ok (.aload_n 0, 1) := by decide +kernel
theorem dX5_way_9 : decode cX5_way 9 = .ok (.iload_n 2, 1) := by decide +kernel
theorem dX5_way_10 : decode cX5_way 10 = .ok (.invokevirtual 56, 3) := by decide +kernel
theorem dX5_way_13 : decode cX5_way 13 = .ok (.ifCond .ne 5, 3) := by decide +kernel
theorem dX5_way_16 : decode cX5_way 16 = .ok (.iconst (-1), 1) := by decide +kernel
theorem dX5_way_17 : decode cX5_way 17 = .ok (.ireturn, 1) := by decide +kernel
theorem dX5_way_18 : decode cX5_way 18 = .ok (.aload_n 0, 1) := by decide +kernel
theorem dX5_way_19 : decode cX5_way 19 = .ok (.getfield 22, 3) := by decide +kernel
theorem dX5_way_22 : decode cX5_way 22 = .ok (.iload_n 1, 1) := by decide +kernel
theorem dX5_way_23 : decode cX5_way 23 = .ok (.invokevirtual 63, 3) := by decide +kernel
theorem dX5_way_26 : decode cX5_way 26 = .ok (.checkcast 102, 3) := by decide +kernel
theorem dX5_way_29 : decode cX5_way 29 = .ok (.astore_n 3, 1) := by decide +kernel
theorem dX5_way_30 : decode cX5_way 30 = .ok (.aload_n 3, 1) := by decide +kernel
theorem dX5_way_31 : decode cX5_way 31 = .ok (.invokevirtual 113, 3) := by decide +kernel
theorem dX5_way_34 : decode cX5_way 34 = .ok (.ifCond .ne 6, 3) := by decide +kernel
theorem dX5_way_37 : decode cX5_way 37 = .ok (.bipush (-4), 2) := by decide +kernel
theorem dX5_way_39 : decode cX5_way 39 = .ok (.ireturn, 1) := by decide +kernel
theorem dX5_way_40 : decode cX5_way 40 = .ok (.aload_n 0, 1) := by decide +kernel
theorem dX5_way_41 : decode cX5_way 41 = .ok (.aload_n 3, 1) := by decide +kernel
theorem dX5_way_42 : decode cX5_way 42 = .ok (.invokevirtual 219, 3) := by decide +kernel
theorem dX5_way_45 : decode cX5_way 45 = .ok (.aload_n 0, 1) := by decide +kernel
theorem dX5_way_46 : decode cX5_way 46 = .ok (.getfield 10, 3) := by decide +kernel
theorem dX5_way_49 : decode cX5_way 49 = .ok (.iload_n 2, 1) := by decide +kernel
theorem dX5_way_50 : decode cX5_way 50 = .ok (.invokevirtual 63, 3) := by decide +kernel
theorem dX5_way_53 : decode cX5_way 53 = .ok (.checkcast 47, 3) := by decide +kernel
theorem dX5_way_56 : decode cX5_way 56 = .ok (.getfield 222, 3) := by decide +kernel
theorem dX5_way_59 : decode cX5_way 59 = .ok (.istore 4, 2) := by decide +kernel
theorem dX5_way_61 : decode cX5_way 61 = .ok (.iload 4, 2) := by decide +kernel
theorem dX5_way_63 : decode cX5_way 63 = .ok (.ldc 225, 2) := by decide +kernel
theorem dX5_way_65 : decode cX5_way 65 = .ok (.if_icmp .ne 8, 3) := by decide +kernel
theorem dX5_way_68 : decode cX5_way 68 = .ok (.bipush (-6), 2) := by decide +kernel
theorem dX5_way_70 : decode cX5_way 70 = .ok (.goto 10, 3) := by decide +kernel
theorem dX5_way_73 : decode cX5_way 73 = .ok (.iload 4, 2) := by decide +kernel
theorem dX5_way_75 : decode cX5_way 75 = .ok (.aload_n 3, 1) := by decide +kernel
theorem dX5_way_76 : decode cX5_way 76 = .ok (.getfield 128, 3) := by decide +kernel
theorem dX5_way_79 : decode cX5_way 79 = .ok (.isub, 1) := by decide +kernel
theorem dX5_way_80 : decode cX5_way 80 = .ok (.ireturn, 1) := by decide +kernel
theorem dX5_reach_0 : decode cX5_reach 0 = .ok (.aload_n 0, 1) := by decide +kernel
theorem dX5_reach_1 : decode cX5_reach 1 = .ok (.iload_n 1, 1) := by decide +kernel
theorem dX5_reach_2 : decode cX5_reach 2 = .ok (.invokevirtual 107, 3) := by decide +kernel
theorem dX5_reach_5 : decode cX5_reach 5 = .ok (.ifCond .ne 5, 3) := by decide +kernel
theorem dX5_reach_8 : decode cX5_reach 8 = .ok (.iconst (-1), 1) := by decide +kernel
theorem dX5_reach_9 : decode cX5_reach 9 = .ok (.ireturn, 1) := by decide +kernel
theorem dX5_reach_10 : decode cX5_reach 10 = .ok (.aload_n 0, 1) := by decide +kernel
theorem dX5_reach_11 : decode cX5_reach 11 = .ok (.getfield 22, 3) := by decide +kernel
theorem dX5_reach_14 : decode cX5_reach 14 = .ok (.iload_n 1, 1) := by decide +kernel
theorem dX5_reach_15 : decode cX5_reach 15 = .ok (.invokevirtual 63, 3) := by decide +kernel
theorem dX5_reach_18 : decode cX5_reach 18 = .ok (.checkcast 102, 3) := by decide +kernel
theorem dX5_reach_21 : decode cX5_reach 21 = .ok (.astore_n 2, 1) := by decide +kernel
theorem dX5_reach_22 : decode cX5_reach 22 = .ok (.aload_n 2, 1) := by decide +kernel
theorem dX5_reach_23 : decode cX5_reach 23 = .ok (.invokevirtual 113, 3) := by decide +kernel
theorem dX5_reach_26 : decode cX5_reach 26 = .ok (.ifCond .ne 6, 3) := by decide +kernel
theorem dX5_reach_29 : decode cX5_reach 29 = .ok (.bipush (-4), 2) := by decide +kernel
theorem dX5_reach_31 : decode cX5_reach 31 = .ok (.ireturn, 1) := by decide +kernel
theorem dX5_reach_32 : decode cX5_reach 32 = .ok (.aload_n 0, 1) := by decide +kernel
theorem dX5_reach_33 : decode cX5_reach 33 = .ok (.getfield 16, 3) := by decide +kernel
theorem dX5_reach_36 : decode cX5_reach 36 = .ok (.aload_n 2, 1) := by decide +kernel
theorem dX5_reach_37 : decode cX5_reach 37 = .ok (.getfield 117, 3) := by decide +kernel
theorem dX5_reach_40 : decode cX5_reach 40 = .ok (.getfield 226, 3) := by decide +kernel
theorem dX5_reach_43 : decode cX5_reach 43 = .ok (.aload_n 0, 1) := by decide +kernel
theorem dX5_reach_44 : decode cX5_reach 44 = .ok (.getfield 16, 3) := by decide +kernel
theorem dX5_reach_47 : decode cX5_reach 47 = .ok (.invokestatic 229, 3) := by decide +kernel
theorem dX5_reach_50 : decode cX5_reach 50 = .ok (.invokestatic 233, 3) := by decide +kernel
theorem dX5_reach_53 : decode cX5_reach 53 = .ok (.ireturn, 1) := by decide +kernel
theorem dX5_door_0 : decode cX5_door 0 = .ok (.aload_n 0, 1) := by decide +kernel
theorem dX5_door_1 : decode cX5_door 1 = .ok (.iload_n 1, 1) := by decide +kernel
theorem dX5_door_2 : decode cX5_door 2 = .ok (.invokevirtual 110, 3) := by decide +kernel
theorem dX5_door_5 : decode cX5_door 5 = .ok (.ifCond .ne 5, 3) := by decide +kernel
theorem dX5_door_8 : decode cX5_door 8 = .ok (.iconst (-1), 1) := by decide +kernel
theorem dX5_door_9 : decode cX5_door 9 = .ok (.ireturn, 1) := by decide +kernel
theorem dX5_door_10 : decode cX5_door 10 = .ok (.aload_n 0, 1) := by decide +kernel
theorem dX5_door_11 : decode cX5_door 11 = .ok (.getfield 16, 3) := by decide +kernel
theorem dX5_door_14 : decode cX5_door 14 = .ok (.iload_n 1, 1) := by decide +kernel
theorem dX5_door_15 : decode cX5_door 15 = .ok (.invokevirtual 63, 3) := by decide +kernel
theorem dX5_door_18 : decode cX5_door 18 = .ok (.checkcast 71, 3) := by decide +kernel
theorem dX5_door_21 : decode cX5_door 21 = .ok (.astore_n 3, 1) := by decide +kernel
theorem dX5_door_22 : decode cX5_door 22 = .ok (.iload_n 2, 1) := by decide +kernel
theorem dX5_door_23 : decode cX5_door 23 = .ok (.tableswitch 85 0 5 #[37, 45, 53, 58, 63, 68], 37) := by decide +kernel
theorem dX5_door_60 : decode cX5_door 60 = .ok (.aload_n 3, 1) := by decide +kernel
theorem dX5_door_61 : decode cX5_door 61 = .ok (.getfield 237, 3) := by decide +kernel
theorem dX5_door_64 : decode cX5_door 64 = .ok (.getfield 240, 3) := by decide +kernel
theorem dX5_door_67 : decode cX5_door 67 = .ok (.ireturn, 1) := by decide +kernel
theorem dX5_door_68 : decode cX5_door 68 = .ok (.aload_n 3, 1) := by decide +kernel
theorem dX5_door_69 : decode cX5_door 69 = .ok (.getfield 241, 3) := by decide +kernel
theorem dX5_door_72 : decode cX5_door 72 = .ok (.getfield 240, 3) := by decide +kernel
theorem dX5_door_75 : decode cX5_door 75 = .ok (.ireturn, 1) := by decide +kernel
theorem dX5_door_76 : decode cX5_door 76 = .ok (.aload_n 3, 1) := by decide +kernel
theorem dX5_door_77 : decode cX5_door 77 = .ok (.getfield 244, 3) := by decide +kernel
theorem dX5_door_80 : decode cX5_door 80 = .ok (.ireturn, 1) := by decide +kernel
theorem dX5_door_81 : decode cX5_door 81 = .ok (.aload_n 3, 1) := by decide +kernel
theorem dX5_door_82 : decode cX5_door 82 = .ok (.getfield 139, 3) := by decide +kernel
theorem dX5_door_85 : decode cX5_door 85 = .ok (.ireturn, 1) := by decide +kernel
theorem dX5_door_86 : decode cX5_door 86 = .ok (.aload_n 3, 1) := by decide +kernel
theorem dX5_door_87 : decode cX5_door 87 = .ok (.getfield 146, 3) := by decide +kernel
theorem dX5_door_90 : decode cX5_door 90 = .ok (.ireturn, 1) := by decide +kernel
theorem dX5_door_91 : decode cX5_door 91 = .ok (.aload_n 3, 1) := by decide +kernel
theorem dX5_door_92 : decode cX5_door 92 = .ok (.getfield 124, 3) := by decide +kernel
theorem dX5_door_95 : decode cX5_door 95 = .ok (.ifCond .eq 10, 3) := by decide +kernel
theorem dX5_door_98 : decode cX5_door 98 = .ok (.aload_n 3, 1) := by decide +kernel
theorem dX5_door_99 : decode cX5_door 99 = .ok (.getfield 247, 3) := by decide +kernel
theorem dX5_door_102 : decode cX5_door 102 = .ok (.goto 5, 3) := by decide +kernel
theorem dX5_door_105 : decode cX5_door 105 = .ok (.bipush (-6), 2) := by decide +kernel
theorem dX5_door_107 : decode cX5_door 107 = .ok (.ireturn, 1) := by decide +kernel
theorem dX5_door_108 : decode cX5_door 108 = .ok (.bipush (-2), 2) := by decide +kernel
theorem dX5_door_110 : decode cX5_door 110 = .ok (.ireturn, 1) := by decide +kernel
theorem dX5_key_0 : decode cX5_key 0 = .ok (.aload_n 0, 1) := by decide +kernel
theorem dX5_key_1 : decode cX5_key 1 = .ok (.iload_n 1, 1) := by decide +kernel
theorem dX5_key_2 : decode cX5_key 2 = .ok (.invokevirtual 159, 3) := by decide +kernel
theorem dX5_key_5 : decode cX5_key 5 = .ok (.ifCond .ne 5, 3) := by decide +kernel
theorem dX5_key_8 : decode cX5_key 8 = .ok (.iconst (-1), 1) := by decide +kernel
theorem dX5_key_9 : decode cX5_key 9 = .ok (.ireturn, 1) := by decide +kernel
theorem dX5_key_10 : decode cX5_key 10 = .ok (.aload_n 0, 1) := by decide +kernel
theorem dX5_key_11 : decode cX5_key 11 = .ok (.getfield 19, 3) := by decide +kernel
theorem dX5_key_14 : decode cX5_key 14 = .ok (.iload_n 1, 1) := by decide +kernel
theorem dX5_key_15 : decode cX5_key 15 = .ok (.invokevirtual 63, 3) := by decide +kernel
theorem dX5_key_18 : decode cX5_key 18 = .ok (.checkcast 93, 3) := by decide +kernel
theorem dX5_key_21 : decode cX5_key 21 = .ok (.astore_n 3, 1) := by decide +kernel
theorem dX5_key_22 : decode cX5_key 22 = .ok (.iload_n 2, 1) := by decide +kernel
theorem dX5_key_23 : decode cX5_key 23 = .ok (.tableswitch 103 0 4 #[33, 38, 43, 63, 83], 33) := by decide +kernel
theorem dX5_key_56 : decode cX5_key 56 = .ok (.aload_n 3, 1) := by decide +kernel
theorem dX5_key_57 : decode cX5_key 57 = .ok (.getfield 250, 3) := by decide +kernel
theorem dX5_key_60 : decode cX5_key 60 = .ok (.ireturn, 1) := by decide +kernel
theorem dX5_key_61 : decode cX5_key 61 = .ok (.aload_n 3, 1) := by decide +kernel
theorem dX5_key_62 : decode cX5_key 62 = .ok (.invokevirtual 251, 3) := by decide +kernel
theorem dX5_key_65 : decode cX5_key 65 = .ok (.ireturn, 1) := by decide +kernel
theorem dX5_key_66 : decode cX5_key 66 = .ok (.aload_n 3, 1) := by decide +kernel
theorem dX5_key_67 : decode cX5_key 67 = .ok (.getfield 162, 3) := by decide +kernel
theorem dX5_key_70 : decode cX5_key 70 = .ok (.ifnonnull 8, 3) := by decide +kernel
theorem dX5_key_73 : decode cX5_key 73 = .ok (.bipush (-6), 2) := by decide +kernel
theorem dX5_key_75 : decode cX5_key 75 = .ok (.goto 10, 3) := by decide +kernel
theorem dX5_key_78 : decode cX5_key 78 = .ok (.aload_n 3, 1) := by decide +kernel
theorem dX5_key_79 : decode cX5_key 79 = .ok (.getfield 162, 3) := by decide +kernel
theorem dX5_key_82 : decode cX5_key 82 = .ok (.getfield 240, 3) := by decide +kernel
theorem dX5_key_85 : decode cX5_key 85 = .ok (.ireturn, 1) := by decide +kernel
theorem dX5_key_86 : decode cX5_key 86 = .ok (.aload_n 3, 1) := by decide +kernel
theorem dX5_key_87 : decode cX5_key 87 = .ok (.getfield 180, 3) := by decide +kernel
theorem dX5_key_90 : decode cX5_key 90 = .ok (.ifnonnull 8, 3) := by decide +kernel
theorem dX5_key_93 : decode cX5_key 93 = .ok (.bipush (-6), 2) := by decide +kernel
theorem dX5_key_95 : decode cX5_key 95 = .ok (.goto 10, 3) := by decide +kernel
theorem dX5_key_98 : decode cX5_key 98 = .ok (.aload_n 3, 1) := by decide +kernel
theorem dX5_key_99 : decode cX5_key 99 = .ok (.getfield 180, 3) := by decide +kernel
theorem dX5_key_102 : decode cX5_key 102 = .ok (.getfield 253, 3) := by decide +kernel
theorem dX5_key_105 : decode cX5_key 105 = .ok (.ireturn, 1) := by decide +kernel
theorem dX5_key_106 : decode cX5_key 106 = .ok (.aload_n 3, 1) := by decide +kernel
theorem dX5_key_107 : decode cX5_key 107 = .ok (.getfield 254, 3) := by decide +kernel
theorem dX5_key_110 : decode cX5_key 110 = .ok (.ifnonnull 8, 3) := by decide +kernel
theorem dX5_key_113 : decode cX5_key 113 = .ok (.bipush (-6), 2) := by decide +kernel
theorem dX5_key_115 : decode cX5_key 115 = .ok (.goto 10, 3) := by decide +kernel
theorem dX5_key_118 : decode cX5_key 118 = .ok (.aload_n 3, 1) := by decide +kernel
theorem dX5_key_119 : decode cX5_key 119 = .ok (.getfield 254, 3) := by decide +kernel
theorem dX5_key_122 : decode cX5_key 122 = .ok (.getfield 258, 3) := by decide +kernel
theorem dX5_key_125 : decode cX5_key 125 = .ok (.ireturn, 1) := by decide +kernel
theorem dX5_key_126 : decode cX5_key 126 = .ok (.bipush (-2), 2) := by decide +kernel
theorem dX5_key_128 : decode cX5_key 128 = .ok (.ireturn, 1) := by decide +kernel
theorem dX5_group_0 : decode cX5_group 0 = .ok (.aload_n 0, 1) := by decide +kernel
theorem dX5_group_1 : decode cX5_group 1 = .ok (.iload_n 1, 1) := by decide +kernel
theorem dX5_group_2 : decode cX5_group 2 = .ok (.invokevirtual 107, 3) := by decide +kernel
theorem dX5_group_5 : decode cX5_group 5 = .ok (.ifCond .ne 5, 3) := by decide +kernel
theorem dX5_group_8 : decode cX5_group 8 = .ok (.iconst (-1), 1) := by decide +kernel
theorem dX5_group_9 : decode cX5_group 9 = .ok (.ireturn, 1) := by decide +kernel
theorem dX5_group_10 : decode cX5_group 10 = .ok (.aload_n 0, 1) := by decide +kernel
theorem dX5_group_11 : decode cX5_group 11 = .ok (.getfield 22, 3) := by decide +kernel
theorem dX5_group_14 : decode cX5_group 14 = .ok (.iload_n 1, 1) := by decide +kernel
theorem dX5_group_15 : decode cX5_group 15 = .ok (.invokevirtual 63, 3) := by decide +kernel
theorem dX5_group_18 : decode cX5_group 18 = .ok (.checkcast 102, 3) := by decide +kernel
theorem dX5_group_21 : decode cX5_group 21 = .ok (.astore_n 3, 1) := by decide +kernel
theorem dX5_group_22 : decode cX5_group 22 = .ok (.iload_n 2, 1) := by decide +kernel
theorem dX5_group_23 : decode cX5_group 23 = .ok (.tableswitch 71 0 5 #[37, 42, 50, 55, 61, 66], 37) := by decide +kernel
theorem dX5_group_60 : decode cX5_group 60 = .ok (.aload_n 3, 1) := by decide +kernel
theorem dX5_group_61 : decode cX5_group 61 = .ok (.getfield 188, 3) := by decide +kernel
theorem dX5_group_64 : decode cX5_group 64 = .ok (.ireturn, 1) := by decide +kernel
theorem dX5_group_65 : decode cX5_group 65 = .ok (.aload_n 3, 1) := by decide +kernel
theorem dX5_group_66 : decode cX5_group 66 = .ok (.getfield 117, 3) := by decide +kernel
theorem dX5_group_69 : decode cX5_group 69 = .ok (.getfield 240, 3) := by decide +kernel
theorem dX5_group_72 : decode cX5_group 72 = .ok (.ireturn, 1) := by decide +kernel
theorem dX5_group_73 : decode cX5_group 73 = .ok (.aload_n 3, 1) := by decide +kernel
theorem dX5_group_74 : decode cX5_group 74 = .ok (.getfield 128, 3) := by decide +kernel
theorem dX5_group_77 : decode cX5_group 77 = .ok (.ireturn, 1) := by decide +kernel
theorem dX5_group_78 : decode cX5_group 78 = .ok (.aload_n 0, 1) := by decide +kernel
theorem dX5_group_79 : decode cX5_group 79 = .ok (.aload_n 3, 1) := by decide +kernel
theorem dX5_group_80 : decode cX5_group 80 = .ok (.invokevirtual 176, 3) := by decide +kernel
theorem dX5_group_83 : decode cX5_group 83 = .ok (.ireturn, 1) := by decide +kernel
theorem dX5_group_84 : decode cX5_group 84 = .ok (.aload_n 3, 1) := by decide +kernel
theorem dX5_group_85 : decode cX5_group 85 = .ok (.getfield 194, 3) := by decide +kernel
theorem dX5_group_88 : decode cX5_group 88 = .ok (.ireturn, 1) := by decide +kernel
theorem dX5_group_89 : decode cX5_group 89 = .ok (.aload_n 3, 1) := by decide +kernel
theorem dX5_group_90 : decode cX5_group 90 = .ok (.getfield 197, 3) := by decide +kernel
theorem dX5_group_93 : decode cX5_group 93 = .ok (.ireturn, 1) := by decide +kernel
theorem dX5_group_94 : decode cX5_group 94 = .ok (.bipush (-2), 2) := by decide +kernel
theorem dX5_group_96 : decode cX5_group 96 = .ok (.ireturn, 1) := by decide +kernel
theorem dX5_color_0 : decode cX5_color 0 = .ok (.iload_n 1, 1) := by decide +kernel
theorem dX5_color_1 : decode cX5_color 1 = .ok (.invokestatic 83, 3) := by decide +kernel
theorem dX5_color_4 : decode cX5_color 4 = .ok (.ifCond .ne 6, 3) := by decide +kernel
theorem dX5_color_7 : decode cX5_color 7 = .ok (.bipush (-2), 2) := by decide +kernel
theorem dX5_color_9 : decode cX5_color 9 = .ok (.ireturn, 1) := by decide +kernel
theorem dX5_color_10 : decode cX5_color 10 = .ok (.iload_n 2, 1) := by decide +kernel
theorem dX5_color_11 : decode cX5_color 11 = .ok (.lookupswitch 37 #[(0, 25), (1, 31)], 25) := by decide +kernel
theorem dX5_color_36 : decode cX5_color 36 = .ok (.aload_n 0, 1) := by decide +kernel
theorem dX5_color_37 : decode cX5_color 37 = .ok (.iload_n 1, 1) := by decide +kernel
theorem dX5_color_38 : decode cX5_color 38 = .ok (.invokevirtual 259, 3) := by decide +kernel
theorem dX5_color_41 : decode cX5_color 41 = .ok (.ireturn, 1) := by decide +kernel
theorem dX5_color_42 : decode cX5_color 42 = .ok (.aload_n 0, 1) := by decide +kernel
theorem dX5_color_43 : decode cX5_color 43 = .ok (.iload_n 1, 1) := by decide +kernel
theorem dX5_color_44 : decode cX5_color 44 = .ok (.invokevirtual 262, 3) := by decide +kernel
theorem dX5_color_47 : decode cX5_color 47 = .ok (.ireturn, 1) := by decide +kernel
theorem dX5_color_48 : decode cX5_color 48 = .ok (.bipush (-2), 2) := by decide +kernel
theorem dX5_color_50 : decode cX5_color 50 = .ok (.ireturn, 1) := by decide +kernel
theorem dX5_count_0 : decode cX5_count 0 = .ok (.iload_n 1, 1) := by decide +kernel
theorem dX5_count_1 : decode cX5_count 1 = .ok (.tableswitch 134 0 10 #[59, 67, 75, 83, 91, 96, 107, 113, 119, 124, 129], 59) := by decide +kernel
theorem dX5_count_60 : decode cX5_count 60 = .ok (.aload_n 0, 1) := by decide +kernel
theorem dX5_count_61 : decode cX5_count 61 = .ok (.getfield 10, 3) := by decide +kernel
theorem dX5_count_64 : decode cX5_count 64 = .ok (.invokevirtual 43, 3) := by decide +kernel
theorem dX5_count_67 : decode cX5_count 67 = .ok (.ireturn, 1) := by decide +kernel
theorem dX5_count_68 : decode cX5_count 68 = .ok (.aload_n 0, 1) := by decide +kernel
theorem dX5_count_69 : decode cX5_count 69 = .ok (.getfield 16, 3) := by decide +kernel
theorem dX5_count_72 : decode cX5_count 72 = .ok (.invokevirtual 43, 3) := by decide +kernel
theorem dX5_count_75 : decode cX5_count 75 = .ok (.ireturn, 1) := by decide +kernel
theorem dX5_count_76 : decode cX5_count 76 = .ok (.aload_n 0, 1) := by decide +kernel
theorem dX5_count_77 : decode cX5_count 77 = .ok (.getfield 19, 3) := by decide +kernel
theorem dX5_count_80 : decode cX5_count 80 = .ok (.invokevirtual 43, 3) := by decide +kernel
theorem dX5_count_83 : decode cX5_count 83 = .ok (.ireturn, 1) := by decide +kernel
theorem dX5_count_84 : decode cX5_count 84 = .ok (.aload_n 0, 1) := by decide +kernel
theorem dX5_count_85 : decode cX5_count 85 = .ok (.getfield 22, 3) := by decide +kernel
theorem dX5_count_88 : decode cX5_count 88 = .ok (.invokevirtual 43, 3) := by decide +kernel
theorem dX5_count_91 : decode cX5_count 91 = .ok (.ireturn, 1) := by decide +kernel
theorem dX5_count_92 : decode cX5_count 92 = .ok (.aload_n 0, 1) := by decide +kernel
theorem dX5_count_93 : decode cX5_count 93 = .ok (.invokevirtual 60, 3) := by decide +kernel
theorem dX5_count_96 : decode cX5_count 96 = .ok (.ireturn, 1) := by decide +kernel
theorem dX5_count_97 : decode cX5_count 97 = .ok (.aload_n 0, 1) := by decide +kernel
theorem dX5_count_98 : decode cX5_count 98 = .ok (.getfield 16, 3) := by decide +kernel
theorem dX5_count_101 : decode cX5_count 101 = .ok (.invokestatic 229, 3) := by decide +kernel
theorem dX5_count_104 : decode cX5_count 104 = .ok (.invokestatic 265, 3) := by decide +kernel
theorem dX5_count_107 : decode cX5_count 107 = .ok (.ireturn, 1) := by decide +kernel
theorem dX5_count_108 : decode cX5_count 108 = .ok (.aload_n 0, 1) := by decide +kernel
theorem dX5_count_109 : decode cX5_count 109 = .ok (.iconst 1, 1) := by decide +kernel
theorem dX5_count_110 : decode cX5_count 110 = .ok (.invokevirtual 98, 3) := by decide +kernel
theorem dX5_count_113 : decode cX5_count 113 = .ok (.ireturn, 1) := by decide +kernel
theorem dX5_count_114 : decode cX5_count 114 = .ok (.aload_n 0, 1) := by decide +kernel
theorem dX5_count_115 : decode cX5_count 115 = .ok (.iconst 0, 1) := by decide +kernel
theorem dX5_count_116 : decode cX5_count 116 = .ok (.invokevirtual 98, 3) := by decide +kernel
theorem dX5_count_119 : decode cX5_count 119 = .ok (.ireturn, 1) := by decide +kernel
theorem dX5_count_120 : decode cX5_count 120 = .ok (.aload_n 0, 1) := by decide +kernel
theorem dX5_count_121 : decode cX5_count 121 = .ok (.invokevirtual 270, 3) := by decide +kernel
theorem dX5_count_124 : decode cX5_count 124 = .ok (.ireturn, 1) := by decide +kernel
theorem dX5_count_125 : decode cX5_count 125 = .ok (.aload_n 0, 1) := by decide +kernel
theorem dX5_count_126 : decode cX5_count 126 = .ok (.getfield 200, 3) := by decide +kernel
theorem dX5_count_129 : decode cX5_count 129 = .ok (.ireturn, 1) := by decide +kernel
theorem dX5_count_130 : decode cX5_count 130 = .ok (.aload_n 0, 1) := by decide +kernel
theorem dX5_count_131 : decode cX5_count 131 = .ok (.invokevirtual 273, 3) := by decide +kernel
theorem dX5_count_134 : decode cX5_count 134 = .ok (.ireturn, 1) := by decide +kernel
theorem dX5_count_135 : decode cX5_count 135 = .ok (.bipush (-2), 2) := by decide +kernel
theorem dX5_count_137 : decode cX5_count 137 = .ok (.ireturn, 1) := by decide +kernel
theorem dX5_isBetween_0 : decode cX5_isBetween 0 = .ok (.iload_n 0, 1) := by decide +kernel
theorem dX5_isBetween_1 : decode cX5_isBetween 1 = .ok (.iload_n 1, 1) := by decide +kernel
theorem dX5_isBetween_2 : decode cX5_isBetween 2 = .ok (.if_icmp .lt 12, 3) := by decide +kernel
theorem dX5_isBetween_5 : decode cX5_isBetween 5 = .ok (.iload_n 0, 1) := by decide +kernel
theorem dX5_isBetween_6 : decode cX5_isBetween 6 = .ok (.iload_n 2, 1) := by decide +kernel
theorem dX5_isBetween_7 : decode cX5_isBetween 7 = .ok (.if_icmp .gt 7, 3) := by decide +kernel
theorem dX5_isBetween_10 : decode cX5_isBetween 10 = .ok (.iconst 1, 1) := by decide +kernel
theorem dX5_isBetween_11 : decode cX5_isBetween 11 = .ok (.goto 4, 3) := by decide +kernel
theorem dX5_isBetween_14 : decode cX5_isBetween 14 = .ok (.iconst 0, 1) := by decide +kernel
theorem dX5_isBetween_15 : decode cX5_isBetween 15 = .ok (.ireturn, 1) := by decide +kernel
theorem dX5_isColor_0 : decode cX5_isColor 0 = .ok (.iload_n 0, 1) := by decide +kernel
theorem dX5_isColor_1 : decode cX5_isColor 1 = .ok (.iconst 0, 1) := by decide +kernel
theorem dX5_isColor_2 : decode cX5_isColor 2 = .ok (.iconst 5, 1) := by decide +kernel
theorem dX5_isColor_3 : decode cX5_isColor 3 = .ok (.invokestatic 67, 3) := by decide +kernel
theorem dX5_isColor_6 : decode cX5_isColor 6 = .ok (.ireturn, 1) := by decide +kernel
theorem dX5_isRoom_0 : decode cX5_isRoom 0 = .ok (.iload_n 1, 1) := by decide +kernel
theorem dX5_isRoom_1 : decode cX5_isRoom 1 = .ok (.ifCond .lt 18, 3) := by decide +kernel
theorem dX5_isRoom_4 : decode cX5_isRoom 4 = .ok (.iload_n 1, 1) := by decide +kernel
theorem dX5_isRoom_5 : decode cX5_isRoom 5 = .ok (.aload_n 0, 1) := by decide +kernel
theorem dX5_isRoom_6 : decode cX5_isRoom 6 = .ok (.getfield 10, 3) := by decide +kernel
theorem dX5_isRoom_9 : decode cX5_isRoom 9 = .ok (.invokevirtual 43, 3) := by decide +kernel
theorem dX5_isRoom_12 : decode cX5_isRoom 12 = .ok (.if_icmp .ge 7, 3) := by decide +kernel
theorem dX5_isRoom_15 : decode cX5_isRoom 15 = .ok (.iconst 1, 1) := by decide +kernel
theorem dX5_isRoom_16 : decode cX5_isRoom 16 = .ok (.goto 4, 3) := by decide +kernel
theorem dX5_isRoom_19 : decode cX5_isRoom 19 = .ok (.iconst 0, 1) := by decide +kernel
theorem dX5_isRoom_20 : decode cX5_isRoom 20 = .ok (.ireturn, 1) := by decide +kernel
theorem dX5_isDoor_0 : decode cX5_isDoor 0 = .ok (.iload_n 1, 1) := by decide +kernel
theorem dX5_isDoor_1 : decode cX5_isDoor 1 = .ok (.ifCond .lt 18, 3) := by decide +kernel
theorem dX5_isDoor_4 : decode cX5_isDoor 4 = .ok (.iload_n 1, 1) := by decide +kernel
theorem dX5_isDoor_5 : decode cX5_isDoor 5 = .ok (.aload_n 0, 1) := by decide +kernel
theorem dX5_isDoor_6 : decode cX5_isDoor 6 = .ok (.getfield 16, 3) := by decide +kernel
theorem dX5_isDoor_9 : decode cX5_isDoor 9 = .ok (.invokevirtual 43, 3) := by decide +kernel
theorem dX5_isDoor_12 : decode cX5_isDoor 12 = .ok (.if_icmp .ge 7, 3) := by decide +kernel
theorem dX5_isDoor_15 : decode cX5_isDoor 15 = .ok (.iconst 1, 1) := by decide +kernel
theorem dX5_isDoor_16 : decode cX5_isDoor 16 = .ok (.goto 4, 3) := by decide +kernel
theorem dX5_isDoor_19 : decode cX5_isDoor 19 = .ok (.iconst 0, 1) := by decide +kernel
theorem dX5_isDoor_20 : decode cX5_isDoor 20 = .ok (.ireturn, 1) := by decide +kernel
theorem dX5_isKey_0 : decode cX5_isKey 0 = .ok (.iload_n 1, 1) := by decide +kernel
theorem dX5_isKey_1 : decode cX5_isKey 1 = .ok (.ifCond .lt 18, 3) := by decide +kernel
theorem dX5_isKey_4 : decode cX5_isKey 4 = .ok (.iload_n 1, 1) := by decide +kernel
theorem dX5_isKey_5 : decode cX5_isKey 5 = .ok (.aload_n 0, 1) := by decide +kernel
theorem dX5_isKey_6 : decode cX5_isKey 6 = .ok (.getfield 19, 3) := by decide +kernel
theorem dX5_isKey_9 : decode cX5_isKey 9 = .ok (.invokevirtual 43, 3) := by decide +kernel
theorem dX5_isKey_12 : decode cX5_isKey 12 = .ok (.if_icmp .ge 7, 3) := by decide +kernel
theorem dX5_isKey_15 : decode cX5_isKey 15 = .ok (.iconst 1, 1) := by decide +kernel
theorem dX5_isKey_16 : decode cX5_isKey 16 = .ok (.goto 4, 3) := by decide +kernel
theorem dX5_isKey_19 : decode cX5_isKey 19 = .ok (.iconst 0, 1) := by decide +kernel
theorem dX5_isKey_20 : decode cX5_isKey 20 = .ok (.ireturn, 1) := by decide +kernel
theorem dX5_isGroup_0 : decode cX5_isGroup 0 = .ok (.iload_n 1, 1) := by decide +kernel
theorem dX5_isGroup_1 : decode cX5_isGroup 1 = .ok (.ifCond .lt 18, 3) := by decide +kernel
theorem dX5_isGroup_4 : decode cX5_isGroup 4 = .ok (.iload_n 1, 1) := by decide +kernel
theorem dX5_isGroup_5 : decode cX5_isGroup 5 = .ok (.aload_n 0, 1) := by decide +kernel
theorem dX5_isGroup_6 : decode cX5_isGroup 6 = .ok (.getfield 22, 3) := by decide +kernel
theorem dX5_isGroup_9 : decode cX5_isGroup 9 = .ok (.invokevirtual 43, 3) := by decide +kernel
theorem dX5_isGroup_12 : decode cX5_isGroup 12 = .ok (.if_icmp .ge 7, 3) := by decide +kernel
theorem dX5_isGroup_15 : decode cX5_isGroup 15 = .ok (.iconst 1, 1) := by decide +kernel
theorem dX5_isGroup_16 : decode cX5_isGroup 16 = .ok (.goto 4, 3) := by decide +kernel
theorem dX5_isGroup_19 : decode cX5_isGroup 19 = .ok (.iconst 0, 1) := by decide +kernel
theorem dX5_isGroup_20 : decode cX5_isGroup 20 = .ok (.ireturn, 1) := by decide +kernel
theorem dX5_lowerRoom_0 : decode cX5_lowerRoom 0 = .ok (.aload_n 0, 1) := by decide +kernel
theorem dX5_lowerRoom_1 : decode cX5_lowerRoom 1 = .ok (.getfield 10, 3) := by decide +kernel
theorem dX5_lowerRoom_4 : decode cX5_lowerRoom 4 = .ok (.iload_n 1, 1) := by decide +kernel
theorem dX5_lowerRoom_5 : decode cX5_lowerRoom 5 = .ok (.iload_n 2, 1) := by decide +kernel
theorem dX5_lowerRoom_6 : decode cX5_lowerRoom 6 = .ok (.invokestatic 276, 3) := by decide +kernel
theorem dX5_lowerRoom_9 : decode cX5_lowerRoom 9 = .ok (.invokevirtual 63, 3) := by decide +kernel
theorem dX5_lowerRoom_12 : decode cX5_lowerRoom 12 = .ok (.checkcast 47, 3) := by decide +kernel
theorem dX5_lowerRoom_15 : decode cX5_lowerRoom 15 = .ok (.areturn, 1) := by decide +kernel
theorem dX5_higherRoom_0 : decode cX5_higherRoom 0 = .ok (.aload_n 0, 1) := by decide +kernel
theorem dX5_higherRoom_1 : decode cX5_higherRoom 1 = .ok (.getfield 10, 3) := by decide +kernel
theorem dX5_higherRoom_4 : decode cX5_higherRoom 4 = .ok (.iload_n 1, 1) := by decide +kernel
theorem dX5_higherRoom_5 : decode cX5_higherRoom 5 = .ok (.iload_n 2, 1) := by decide +kernel
theorem dX5_higherRoom_6 : decode cX5_higherRoom 6 = .ok (.invokestatic 166, 3) := by decide +kernel
theorem dX5_higherRoom_9 : decode cX5_higherRoom 9 = .ok (.invokevirtual 63, 3) := by decide +kernel
theorem dX5_higherRoom_12 : decode cX5_higherRoom 12 = .ok (.checkcast 47, 3) := by decide +kernel
theorem dX5_higherRoom_15 : decode cX5_higherRoom 15 = .ok (.areturn, 1) := by decide +kernel
theorem dX5_exitNumber_0 : decode cX5_exitNumber 0 = .ok (.aload_n 0, 1) := by decide +kernel
theorem dX5_exitNumber_1 : decode cX5_exitNumber 1 = .ok (.getfield 32, 3) := by decide +kernel
theorem dX5_exitNumber_4 : decode cX5_exitNumber 4 = .ok (.ifnonnull 8, 3) := by decide +kernel
theorem dX5_exitNumber_7 : decode cX5_exitNumber 7 = .ok (.bipush (-6), 2) := by decide +kernel
theorem dX5_exitNumber_9 : decode cX5_exitNumber 9 = .ok (.goto 10, 3) := by decide +kernel
theorem dX5_exitNumber_12 : decode cX5_exitNumber 12 = .ok (.aload_n 0, 1) := by decide +kernel
theorem dX5_exitNumber_13 : decode cX5_exitNumber 13 = .ok (.getfield 32, 3) := by decide +kernel
theorem dX5_exitNumber_16 : decode cX5_exitNumber 16 = .ok (.getfield 240, 3) := by decide +kernel
theorem dX5_exitNumber_19 : decode cX5_exitNumber 19 = .ok (.ireturn, 1) := by decide +kernel
theorem dX5_playersThat_0 : decode cX5_playersThat 0 = .ok (.iconst 0, 1) := by decide +kernel
theorem dX5_playersThat_1 : decode cX5_playersThat 1 = .ok (.istore_n 2, 1) := by decide +kernel
theorem dX5_playersThat_2 : decode cX5_playersThat 2 = .ok (.iconst 0, 1) := by decide +kernel
theorem dX5_playersThat_3 : decode cX5_playersThat 3 = .ok (.istore_n 3, 1) := by decide +kernel
theorem dX5_playersThat_4 : decode cX5_playersThat 4 = .ok (.iload_n 3, 1) := by decide +kernel
theorem dX5_playersThat_5 : decode cX5_playersThat 5 = .ok (.aload_n 0, 1) := by decide +kernel
theorem dX5_playersThat_6 : decode cX5_playersThat 6 = .ok (.getfield 22, 3) := by decide +kernel
theorem dX5_playersThat_9 : decode cX5_playersThat 9 = .ok (.invokevirtual 43, 3) := by decide +kernel
theorem dX5_playersThat_12 : decode cX5_playersThat 12 = .ok (.if_icmp .ge 39, 3) := by decide +kernel
theorem dX5_playersThat_15 : decode cX5_playersThat 15 = .ok (.aload_n 0, 1) := by decide +kernel
theorem dX5_playersThat_16 : decode cX5_playersThat 16 = .ok (.getfield 22, 3) := by decide +kernel
theorem dX5_playersThat_19 : decode cX5_playersThat 19 = .ok (.iload_n 3, 1) := by decide +kernel
theorem dX5_playersThat_20 : decode cX5_playersThat 20 = .ok (.invokevirtual 63, 3) := by decide +kernel
theorem dX5_playersThat_23 : decode cX5_playersThat 23 = .ok (.checkcast 102, 3) := by decide +kernel
theorem dX5_playersThat_26 : decode cX5_playersThat 26 = .ok (.astore 4, 2) := by decide +kernel
theorem dX5_playersThat_28 : decode cX5_playersThat 28 = .ok (.aload 4, 2) := by decide +kernel
theorem dX5_playersThat_30 : decode cX5_playersThat 30 = .ok (.getfield 197, 3) := by decide +kernel
theorem dX5_playersThat_33 : decode cX5_playersThat 33 = .ok (.iload_n 1, 1) := by decide +kernel
theorem dX5_playersThat_34 : decode cX5_playersThat 34 = .ok (.if_icmp .ne 11, 3) := by decide +kernel
theorem dX5_playersThat_37 : decode cX5_playersThat 37 = .ok (.iload_n 2, 1) := by decide +kernel
theorem dX5_playersThat_38 : decode cX5_playersThat 38 = .ok (.aload 4, 2) := by decide +kernel
theorem dX5_playersThat_40 : decode cX5_playersThat 40 = .ok (.getfield 188, 3) := by decide +kernel
theorem dX5_playersThat_43 : decode cX5_playersThat 43 = .ok (.iadd, 1) := by decide +kernel
theorem dX5_playersThat_44 : decode cX5_playersThat 44 = .ok (.istore_n 2, 1) := by decide +kernel
theorem dX5_playersThat_45 : decode cX5_playersThat 45 = .ok (.iinc 3 1, 3) := by decide +kernel
theorem dX5_playersThat_48 : decode cX5_playersThat 48 = .ok (.goto (-44), 3) := by decide +kernel
theorem dX5_playersThat_51 : decode cX5_playersThat 51 = .ok (.iload_n 2, 1) := by decide +kernel
theorem dX5_playersThat_52 : decode cX5_playersThat 52 = .ok (.ireturn, 1) := by decide +kernel
theorem dX5_latestEscape_0 : decode cX5_latestEscape 0 = .ok (.bipush (-6), 2) := by decide +kernel
theorem dX5_latestEscape_2 : decode cX5_latestEscape 2 = .ok (.istore_n 1, 1) := by decide +kernel
theorem dX5_latestEscape_3 : decode cX5_latestEscape 3 = .ok (.iconst 0, 1) := by decide +kernel
theorem dX5_latestEscape_4 : decode cX5_latestEscape 4 = .ok (.istore_n 2, 1) := by decide +kernel
theorem dX5_latestEscape_5 : decode cX5_latestEscape 5 = .ok (.iload_n 2, 1) := by decide +kernel
theorem dX5_latestEscape_6 : decode cX5_latestEscape 6 = .ok (.aload_n 0, 1) := by decide +kernel
theorem dX5_latestEscape_7 : decode cX5_latestEscape 7 = .ok (.getfield 22, 3) := by decide +kernel
theorem dX5_latestEscape_10 : decode cX5_latestEscape 10 = .ok (.invokevirtual 43, 3) := by decide +kernel
theorem dX5_latestEscape_13 : decode cX5_latestEscape 13 = .ok (.if_icmp .ge 38, 3) := by decide +kernel
theorem dX5_latestEscape_16 : decode cX5_latestEscape 16 = .ok (.aload_n 0, 1) := by decide +kernel
theorem dX5_latestEscape_17 : decode cX5_latestEscape 17 = .ok (.getfield 22, 3) := by decide +kernel
theorem dX5_latestEscape_20 : decode cX5_latestEscape 20 = .ok (.iload_n 2, 1) := by decide +kernel
theorem dX5_latestEscape_21 : decode cX5_latestEscape 21 = .ok (.invokevirtual 63, 3) := by decide +kernel
theorem dX5_latestEscape_24 : decode cX5_latestEscape 24 = .ok (.checkcast 102, 3) := by decide +kernel
theorem dX5_latestEscape_27 : decode cX5_latestEscape 27 = .ok (.astore_n 3, 1) := by decide +kernel
theorem dX5_latestEscape_28 : decode cX5_latestEscape 28 = .ok (.aload_n 3, 1) := by decide +kernel
theorem dX5_latestEscape_29 : decode cX5_latestEscape 29 = .ok (.getfield 197, 3) := by decide +kernel
theorem dX5_latestEscape_32 : decode cX5_latestEscape 32 = .ok (.iconst 1, 1) := by decide +kernel
theorem dX5_latestEscape_33 : decode cX5_latestEscape 33 = .ok (.if_icmp .ne 12, 3) := by decide +kernel
theorem dX5_latestEscape_36 : decode cX5_latestEscape 36 = .ok (.iload_n 1, 1) := by decide +kernel
theorem dX5_latestEscape_37 : decode cX5_latestEscape 37 = .ok (.aload_n 3, 1) := by decide +kernel
theorem dX5_latestEscape_38 : decode cX5_latestEscape 38 = .ok (.getfield 128, 3) := by decide +kernel
theorem dX5_latestEscape_41 : decode cX5_latestEscape 41 = .ok (.invokestatic 166, 3) := by decide +kernel
theorem dX5_latestEscape_44 : decode cX5_latestEscape 44 = .ok (.istore_n 1, 1) := by decide +kernel
theorem dX5_latestEscape_45 : decode cX5_latestEscape 45 = .ok (.iinc 2 1, 3) := by decide +kernel
theorem dX5_latestEscape_48 : decode cX5_latestEscape 48 = .ok (.goto (-43), 3) := by decide +kernel
theorem dX5_latestEscape_51 : decode cX5_latestEscape 51 = .ok (.iload_n 1, 1) := by decide +kernel
theorem dX5_latestEscape_52 : decode cX5_latestEscape 52 = .ok (.ireturn, 1) := by decide +kernel
theorem dX5_groupsInDeadEnd_0 : decode cX5_groupsInDeadEnd 0 = .ok (.iconst 0, 1) := by decide +kernel
theorem dX5_groupsInDeadEnd_1 : decode cX5_groupsInDeadEnd 1 = .ok (.istore_n 1, 1) := by decide +kernel
theorem dX5_groupsInDeadEnd_2 : decode cX5_groupsInDeadEnd 2 = .ok (.iconst 0, 1) := by decide +kernel
theorem dX5_groupsInDeadEnd_3 : decode cX5_groupsInDeadEnd 3 = .ok (.istore_n 2, 1) := by decide +kernel
theorem dX5_groupsInDeadEnd_4 : decode cX5_groupsInDeadEnd 4 = .ok (.iload_n 2, 1) := by decide +kernel
theorem dX5_groupsInDeadEnd_5 : decode cX5_groupsInDeadEnd 5 = .ok (.aload_n 0, 1) := by decide +kernel
theorem dX5_groupsInDeadEnd_6 : decode cX5_groupsInDeadEnd 6 = .ok (.getfield 22, 3) := by decide +kernel
theorem dX5_groupsInDeadEnd_9 : decode cX5_groupsInDeadEnd 9 = .ok (.invokevirtual 43, 3) := by decide +kernel
theorem dX5_groupsInDeadEnd_12 : decode cX5_groupsInDeadEnd 12 = .ok (.if_icmp .ge 65, 3) := by decide +kernel
theorem dX5_groupsInDeadEnd_15 : decode cX5_groupsInDeadEnd 15 = .ok (.aload_n 0, 1) := by decide +kernel
theorem dX5_groupsInDeadEnd_16 : decode cX5_groupsInDeadEnd 16 = .ok (.getfield 22, 3) := by decide +kernel
theorem dX5_groupsInDeadEnd_19 : decode cX5_groupsInDeadEnd 19 = .ok (.iload_n 2, 1) := by decide +kernel
theorem dX5_groupsInDeadEnd_20 : decode cX5_groupsInDeadEnd 20 = .ok (.invokevirtual 63, 3) := by decide +kernel
theorem dX5_groupsInDeadEnd_23 : decode cX5_groupsInDeadEnd 23 = .ok (.checkcast 102, 3) := by decide +kernel
theorem dX5_groupsInDeadEnd_26 : decode cX5_groupsInDeadEnd 26 = .ok (.astore_n 3, 1) := by decide +kernel
theorem dX5_groupsInDeadEnd_27 : decode cX5_groupsInDeadEnd 27 = .ok (.aload_n 3, 1) := by decide +kernel
theorem dX5_groupsInDeadEnd_28 : decode cX5_groupsInDeadEnd 28 = .ok (.invokevirtual 113, 3) := by decide +kernel
theorem dX5_groupsInDeadEnd_31 : decode cX5_groupsInDeadEnd 31 = .ok (.ifCond .eq 40, 3) := by decide +kernel
theorem dX5_groupsInDeadEnd_34 : decode cX5_groupsInDeadEnd 34 = .ok (.aload_n 0, 1) := by decide +kernel
theorem dX5_groupsInDeadEnd_35 : decode cX5_groupsInDeadEnd 35 = .ok (.getfield 28, 3) := by decide +kernel
theorem dX5_groupsInDeadEnd_38 : decode cX5_groupsInDeadEnd 38 = .ok (.aload_n 3, 1) := by decide +kernel
theorem dX5_groupsInDeadEnd_39 : decode cX5_groupsInDeadEnd 39 = .ok (.aload_n 0, 1) := by decide +kernel
theorem dX5_groupsInDeadEnd_40 : decode cX5_groupsInDeadEnd 40 = .ok (.getfield 32, 3) := by decide +kernel
theorem dX5_groupsInDeadEnd_43 : decode cX5_groupsInDeadEnd 43 = .ok (.aload_n 0, 1) := by decide +kernel
theorem dX5_groupsInDeadEnd_44 : decode cX5_groupsInDeadEnd 44 = .ok (.getfield 16, 3) := by decide +kernel
theorem dX5_groupsInDeadEnd_47 : decode cX5_groupsInDeadEnd 47 = .ok (.aload_n 0, 1) := by decide +kernel
theorem dX5_groupsInDeadEnd_48 : decode cX5_groupsInDeadEnd 48 = .ok (.getfield 19, 3) := by decide +kernel
theorem dX5_groupsInDeadEnd_51 : decode cX5_groupsInDeadEnd 51 = .ok (.aload_n 0, 1) := by decide +kernel
theorem dX5_groupsInDeadEnd_52 : decode cX5_groupsInDeadEnd 52 = .ok (.getfield 86, 3) := by decide +kernel
theorem dX5_groupsInDeadEnd_55 : decode cX5_groupsInDeadEnd 55 = .ok (.invokevirtual 203, 3) := by decide +kernel
theorem dX5_groupsInDeadEnd_58 : decode cX5_groupsInDeadEnd 58 = .ok (.aload_n 0, 1) := by decide +kernel
theorem dX5_groupsInDeadEnd_59 : decode cX5_groupsInDeadEnd 59 = .ok (.getfield 28, 3) := by decide +kernel
theorem dX5_groupsInDeadEnd_62 : decode cX5_groupsInDeadEnd 62 = .ok (.getfield 207, 3) := by decide +kernel
theorem dX5_groupsInDeadEnd_65 : decode cX5_groupsInDeadEnd 65 = .ok (.ifCond .ne 6, 3) := by decide +kernel
theorem dX5_groupsInDeadEnd_68 : decode cX5_groupsInDeadEnd 68 = .ok (.iinc 1 1, 3) := by decide +kernel
theorem dX5_groupsInDeadEnd_71 : decode cX5_groupsInDeadEnd 71 = .ok (.iinc 2 1, 3) := by decide +kernel
theorem dX5_groupsInDeadEnd_74 : decode cX5_groupsInDeadEnd 74 = .ok (.goto (-70), 3) := by decide +kernel
theorem dX5_groupsInDeadEnd_77 : decode cX5_groupsInDeadEnd 77 = .ok (.iload_n 1, 1) := by decide +kernel
theorem dX5_groupsInDeadEnd_78 : decode cX5_groupsInDeadEnd 78 = .ok (.ireturn, 1) := by decide +kernel
theorem dX5_keysHeldBy_0 : decode cX5_keysHeldBy 0 = .ok (.iconst 0, 1) := by decide +kernel
theorem dX5_keysHeldBy_1 : decode cX5_keysHeldBy 1 = .ok (.istore_n 2, 1) := by decide +kernel
theorem dX5_keysHeldBy_2 : decode cX5_keysHeldBy 2 = .ok (.iconst 0, 1) := by decide +kernel
theorem dX5_keysHeldBy_3 : decode cX5_keysHeldBy 3 = .ok (.istore_n 3, 1) := by decide +kernel
theorem dX5_keysHeldBy_4 : decode cX5_keysHeldBy 4 = .ok (.iload_n 3, 1) := by decide +kernel
theorem dX5_keysHeldBy_5 : decode cX5_keysHeldBy 5 = .ok (.aload_n 0, 1) := by decide +kernel
theorem dX5_keysHeldBy_6 : decode cX5_keysHeldBy 6 = .ok (.getfield 19, 3) := by decide +kernel
theorem dX5_keysHeldBy_9 : decode cX5_keysHeldBy 9 = .ok (.invokevirtual 43, 3) := by decide +kernel
theorem dX5_keysHeldBy_12 : decode cX5_keysHeldBy 12 = .ok (.if_icmp .ge 30, 3) := by decide +kernel
theorem dX5_keysHeldBy_15 : decode cX5_keysHeldBy 15 = .ok (.aload_n 0, 1) := by decide +kernel
theorem dX5_keysHeldBy_16 : decode cX5_keysHeldBy 16 = .ok (.getfield 19, 3) := by decide +kernel
theorem dX5_keysHeldBy_19 : decode cX5_keysHeldBy 19 = .ok (.iload_n 3, 1) := by decide +kernel
theorem dX5_keysHeldBy_20 : decode cX5_keysHeldBy 20 = .ok (.invokevirtual 63, 3) := by decide +kernel
theorem dX5_keysHeldBy_23 : decode cX5_keysHeldBy 23 = .ok (.checkcast 93, 3) := by decide +kernel
theorem dX5_keysHeldBy_26 : decode cX5_keysHeldBy 26 = .ok (.getfield 180, 3) := by decide +kernel
theorem dX5_keysHeldBy_29 : decode cX5_keysHeldBy 29 = .ok (.aload_n 1, 1) := by decide +kernel
theorem dX5_keysHeldBy_30 : decode cX5_keysHeldBy 30 = .ok (.if_acmp .ne 6, 3) := by decide +kernel
theorem dX5_keysHeldBy_33 : decode cX5_keysHeldBy 33 = .ok (.iinc 2 1, 3) := by decide +kernel
theorem dX5_keysHeldBy_36 : decode cX5_keysHeldBy 36 = .ok (.iinc 3 1, 3) := by decide +kernel
theorem dX5_keysHeldBy_39 : decode cX5_keysHeldBy 39 = .ok (.goto (-35), 3) := by decide +kernel
theorem dX5_keysHeldBy_42 : decode cX5_keysHeldBy 42 = .ok (.iload_n 2, 1) := by decide +kernel
theorem dX5_keysHeldBy_43 : decode cX5_keysHeldBy 43 = .ok (.ireturn, 1) := by decide +kernel
theorem dX5_lowestHeldKey_0 : decode cX5_lowestHeldKey 0 = .ok (.iconst 0, 1) := by decide +kernel
theorem dX5_lowestHeldKey_1 : decode cX5_lowestHeldKey 1 = .ok (.istore_n 3, 1) := by decide +kernel
theorem dX5_lowestHeldKey_2 : decode cX5_lowestHeldKey 2 = .ok (.iload_n 3, 1) := by decide +kernel
theorem dX5_lowestHeldKey_3 : decode cX5_lowestHeldKey 3 = .ok (.aload_n 0, 1) := by decide +kernel
theorem dX5_lowestHeldKey_4 : decode cX5_lowestHeldKey 4 = .ok (.getfield 19, 3) := by decide +kernel
theorem dX5_lowestHeldKey_7 : decode cX5_lowestHeldKey 7 = .ok (.invokevirtual 43, 3) := by decide +kernel
theorem dX5_lowestHeldKey_10 : decode cX5_lowestHeldKey 10 = .ok (.if_icmp .ge 43, 3) := by decide +kernel
theorem dX5_lowestHeldKey_13 : decode cX5_lowestHeldKey 13 = .ok (.aload_n 0, 1) := by decide +kernel
theorem dX5_lowestHeldKey_14 : decode cX5_lowestHeldKey 14 = .ok (.getfield 19, 3) := by decide +kernel
theorem dX5_lowestHeldKey_17 : decode cX5_lowestHeldKey 17 = .ok (.iload_n 3, 1) := by decide +kernel
theorem dX5_lowestHeldKey_18 : decode cX5_lowestHeldKey 18 = .ok (.invokevirtual 63, 3) := by decide +kernel
theorem dX5_lowestHeldKey_21 : decode cX5_lowestHeldKey 21 = .ok (.checkcast 93, 3) := by decide +kernel
theorem dX5_lowestHeldKey_24 : decode cX5_lowestHeldKey 24 = .ok (.astore 4, 2) := by decide +kernel
theorem dX5_lowestHeldKey_26 : decode cX5_lowestHeldKey 26 = .ok (.aload 4, 2) := by decide +kernel
theorem dX5_lowestHeldKey_28 : decode cX5_lowestHeldKey 28 = .ok (.getfield 180, 3) := by decide +kernel
theorem dX5_lowestHeldKey_31 : decode cX5_lowestHeldKey 31 = .ok (.aload_n 1, 1) := by decide +kernel
theorem dX5_lowestHeldKey_32 : decode cX5_lowestHeldKey 32 = .ok (.if_acmp .ne 15, 3) := by decide +kernel
theorem dX5_lowestHeldKey_35 : decode cX5_lowestHeldKey 35 = .ok (.aload 4, 2) := by decide +kernel
theorem dX5_lowestHeldKey_37 : decode cX5_lowestHeldKey 37 = .ok (.getfield 250, 3) := by decide +kernel
theorem dX5_lowestHeldKey_40 : decode cX5_lowestHeldKey 40 = .ok (.iload_n 2, 1) := by decide +kernel
theorem dX5_lowestHeldKey_41 : decode cX5_lowestHeldKey 41 = .ok (.if_icmp .ne 6, 3) := by decide +kernel
theorem dX5_lowestHeldKey_44 : decode cX5_lowestHeldKey 44 = .ok (.aload 4, 2) := by decide +kernel
theorem dX5_lowestHeldKey_46 : decode cX5_lowestHeldKey 46 = .ok (.areturn, 1) := by decide +kernel
theorem dX5_lowestHeldKey_47 : decode cX5_lowestHeldKey 47 = .ok (.iinc 3 1, 3) := by decide +kernel
theorem dX5_lowestHeldKey_50 : decode cX5_lowestHeldKey 50 = .ok (.goto (-48), 3) := by decide +kernel
theorem dX5_lowestHeldKey_53 : decode cX5_lowestHeldKey 53 = .ok (.aconst_null, 1) := by decide +kernel
theorem dX5_lowestHeldKey_54 : decode cX5_lowestHeldKey 54 = .ok (.areturn, 1) := by decide +kernel
theorem dX5_handOverKeys_0 : decode cX5_handOverKeys 0 = .ok (.iconst 0, 1) := by decide +kernel
theorem dX5_handOverKeys_1 : decode cX5_handOverKeys 1 = .ok (.istore_n 3, 1) := by decide +kernel
theorem dX5_handOverKeys_2 : decode cX5_handOverKeys 2 = .ok (.iload_n 3, 1) := by decide +kernel
theorem dX5_handOverKeys_3 : decode cX5_handOverKeys 3 = .ok (.aload_n 0, 1) := by decide +kernel
theorem dX5_handOverKeys_4 : decode cX5_handOverKeys 4 = .ok (.getfield 19, 3) := by decide +kernel
theorem dX5_handOverKeys_7 : decode cX5_handOverKeys 7 = .ok (.invokevirtual 43, 3) := by decide +kernel
theorem dX5_handOverKeys_10 : decode cX5_handOverKeys 10 = .ok (.if_icmp .ge 37, 3) := by decide +kernel
theorem dX5_handOverKeys_13 : decode cX5_handOverKeys 13 = .ok (.aload_n 0, 1) := by decide +kernel
theorem dX5_handOverKeys_14 : decode cX5_handOverKeys 14 = .ok (.getfield 19, 3) := by decide +kernel
theorem dX5_handOverKeys_17 : decode cX5_handOverKeys 17 = .ok (.iload_n 3, 1) := by decide +kernel
theorem dX5_handOverKeys_18 : decode cX5_handOverKeys 18 = .ok (.invokevirtual 63, 3) := by decide +kernel
theorem dX5_handOverKeys_21 : decode cX5_handOverKeys 21 = .ok (.checkcast 93, 3) := by decide +kernel
theorem dX5_handOverKeys_24 : decode cX5_handOverKeys 24 = .ok (.astore 4, 2) := by decide +kernel
theorem dX5_handOverKeys_26 : decode cX5_handOverKeys 26 = .ok (.aload 4, 2) := by decide +kernel
theorem dX5_handOverKeys_28 : decode cX5_handOverKeys 28 = .ok (.getfield 180, 3) := by decide +kernel
theorem dX5_handOverKeys_31 : decode cX5_handOverKeys 31 = .ok (.aload_n 1, 1) := by decide +kernel
theorem dX5_handOverKeys_32 : decode cX5_handOverKeys 32 = .ok (.if_acmp .ne 9, 3) := by decide +kernel
theorem dX5_handOverKeys_35 : decode cX5_handOverKeys 35 = .ok (.aload 4, 2) := by decide +kernel
theorem dX5_handOverKeys_37 : decode cX5_handOverKeys 37 = .ok (.aload_n 2, 1) := by decide +kernel
theorem dX5_handOverKeys_38 : decode cX5_handOverKeys 38 = .ok (.invokevirtual 172, 3) := by decide +kernel
theorem dX5_handOverKeys_41 : decode cX5_handOverKeys 41 = .ok (.iinc 3 1, 3) := by decide +kernel
theorem dX5_handOverKeys_44 : decode cX5_handOverKeys 44 = .ok (.goto (-42), 3) := by decide +kernel
theorem dX5_handOverKeys_47 : decode cX5_handOverKeys 47 = .ok (.return_, 1) := by decide +kernel
theorem dX5_closedLocksOf_0 : decode cX5_closedLocksOf 0 = .ok (.iconst 0, 1) := by decide +kernel
theorem dX5_closedLocksOf_1 : decode cX5_closedLocksOf 1 = .ok (.istore_n 2, 1) := by decide +kernel
theorem dX5_closedLocksOf_2 : decode cX5_closedLocksOf 2 = .ok (.iconst 0, 1) := by decide +kernel
theorem dX5_closedLocksOf_3 : decode cX5_closedLocksOf 3 = .ok (.istore_n 3, 1) := by decide +kernel
theorem dX5_closedLocksOf_4 : decode cX5_closedLocksOf 4 = .ok (.iload_n 3, 1) := by decide +kernel
theorem dX5_closedLocksOf_5 : decode cX5_closedLocksOf 5 = .ok (.aload_n 0, 1) := by decide +kernel
theorem dX5_closedLocksOf_6 : decode cX5_closedLocksOf 6 = .ok (.getfield 16, 3) := by decide +kernel
theorem dX5_closedLocksOf_9 : decode cX5_closedLocksOf 9 = .ok (.invokevirtual 43, 3) := by decide +kernel
theorem dX5_closedLocksOf_12 : decode cX5_closedLocksOf 12 = .ok (.if_icmp .ge 42, 3) := by decide +kernel
theorem dX5_closedLocksOf_15 : decode cX5_closedLocksOf 15 = .ok (.aload_n 0, 1) := by decide +kernel
theorem dX5_closedLocksOf_16 : decode cX5_closedLocksOf 16 = .ok (.getfield 16, 3) := by decide +kernel
theorem dX5_closedLocksOf_19 : decode cX5_closedLocksOf 19 = .ok (.iload_n 3, 1) := by decide +kernel
theorem dX5_closedLocksOf_20 : decode cX5_closedLocksOf 20 = .ok (.invokevirtual 63, 3) := by decide +kernel
theorem dX5_closedLocksOf_23 : decode cX5_closedLocksOf 23 = .ok (.checkcast 71, 3) := by decide +kernel
theorem dX5_closedLocksOf_26 : decode cX5_closedLocksOf 26 = .ok (.astore 4, 2) := by decide +kernel
theorem dX5_closedLocksOf_28 : decode cX5_closedLocksOf 28 = .ok (.aload 4, 2) := by decide +kernel
theorem dX5_closedLocksOf_30 : decode cX5_closedLocksOf 30 = .ok (.getfield 139, 3) := by decide +kernel
theorem dX5_closedLocksOf_33 : decode cX5_closedLocksOf 33 = .ok (.iload_n 1, 1) := by decide +kernel
theorem dX5_closedLocksOf_34 : decode cX5_closedLocksOf 34 = .ok (.if_icmp .ne 14, 3) := by decide +kernel
theorem dX5_closedLocksOf_37 : decode cX5_closedLocksOf 37 = .ok (.aload 4, 2) := by decide +kernel
theorem dX5_closedLocksOf_39 : decode cX5_closedLocksOf 39 = .ok (.getfield 124, 3) := by decide +kernel
theorem dX5_closedLocksOf_42 : decode cX5_closedLocksOf 42 = .ok (.ifCond .ne 6, 3) := by decide +kernel
theorem dX5_closedLocksOf_45 : decode cX5_closedLocksOf 45 = .ok (.iinc 2 1, 3) := by decide +kernel
theorem dX5_closedLocksOf_48 : decode cX5_closedLocksOf 48 = .ok (.iinc 3 1, 3) := by decide +kernel
theorem dX5_closedLocksOf_51 : decode cX5_closedLocksOf 51 = .ok (.goto (-47), 3) := by decide +kernel
theorem dX5_closedLocksOf_54 : decode cX5_closedLocksOf 54 = .ok (.iload_n 2, 1) := by decide +kernel
theorem dX5_closedLocksOf_55 : decode cX5_closedLocksOf 55 = .ok (.ireturn, 1) := by decide +kernel
theorem dX5_keysLeftOf_0 : decode cX5_keysLeftOf 0 = .ok (.iconst 0, 1) := by decide +kernel
theorem dX5_keysLeftOf_1 : decode cX5_keysLeftOf 1 = .ok (.istore_n 2, 1) := by decide +kernel
theorem dX5_keysLeftOf_2 : decode cX5_keysLeftOf 2 = .ok (.iconst 0, 1) := by decide +kernel
theorem dX5_keysLeftOf_3 : decode cX5_keysLeftOf 3 = .ok (.istore_n 3, 1) := by decide +kernel
theorem dX5_keysLeftOf_4 : decode cX5_keysLeftOf 4 = .ok (.iload_n 3, 1) := by decide +kernel
theorem dX5_keysLeftOf_5 : decode cX5_keysLeftOf 5 = .ok (.aload_n 0, 1) := by decide +kernel
theorem dX5_keysLeftOf_6 : decode cX5_keysLeftOf 6 = .ok (.getfield 19, 3) := by decide +kernel
theorem dX5_keysLeftOf_9 : decode cX5_keysLeftOf 9 = .ok (.invokevirtual 43, 3) := by decide +kernel
theorem dX5_keysLeftOf_12 : decode cX5_keysLeftOf 12 = .ok (.if_icmp .ge 43, 3) := by decide +kernel
theorem dX5_keysLeftOf_15 : decode cX5_keysLeftOf 15 = .ok (.aload_n 0, 1) := by decide +kernel
theorem dX5_keysLeftOf_16 : decode cX5_keysLeftOf 16 = .ok (.getfield 19, 3) := by decide +kernel
theorem dX5_keysLeftOf_19 : decode cX5_keysLeftOf 19 = .ok (.iload_n 3, 1) := by decide +kernel
theorem dX5_keysLeftOf_20 : decode cX5_keysLeftOf 20 = .ok (.invokevirtual 63, 3) := by decide +kernel
theorem dX5_keysLeftOf_23 : decode cX5_keysLeftOf 23 = .ok (.checkcast 93, 3) := by decide +kernel
theorem dX5_keysLeftOf_26 : decode cX5_keysLeftOf 26 = .ok (.astore 4, 2) := by decide +kernel
theorem dX5_keysLeftOf_28 : decode cX5_keysLeftOf 28 = .ok (.aload 4, 2) := by decide +kernel
theorem dX5_keysLeftOf_30 : decode cX5_keysLeftOf 30 = .ok (.getfield 250, 3) := by decide +kernel
theorem dX5_keysLeftOf_33 : decode cX5_keysLeftOf 33 = .ok (.iload_n 1, 1) := by decide +kernel
theorem dX5_keysLeftOf_34 : decode cX5_keysLeftOf 34 = .ok (.if_icmp .ne 15, 3) := by decide +kernel
theorem dX5_keysLeftOf_37 : decode cX5_keysLeftOf 37 = .ok (.aload 4, 2) := by decide +kernel
theorem dX5_keysLeftOf_39 : decode cX5_keysLeftOf 39 = .ok (.invokevirtual 251, 3) := by decide +kernel
theorem dX5_keysLeftOf_42 : decode cX5_keysLeftOf 42 = .ok (.iconst 2, 1) := by decide +kernel
theorem dX5_keysLeftOf_43 : decode cX5_keysLeftOf 43 = .ok (.if_icmp .eq 6, 3) := by decide +kernel
theorem dX5_keysLeftOf_46 : decode cX5_keysLeftOf 46 = .ok (.iinc 2 1, 3) := by decide +kernel
theorem dX5_keysLeftOf_49 : decode cX5_keysLeftOf 49 = .ok (.iinc 3 1, 3) := by decide +kernel
theorem dX5_keysLeftOf_52 : decode cX5_keysLeftOf 52 = .ok (.goto (-48), 3) := by decide +kernel
theorem dX5_keysLeftOf_55 : decode cX5_keysLeftOf 55 = .ok (.iload_n 2, 1) := by decide +kernel
theorem dX5_keysLeftOf_56 : decode cX5_keysLeftOf 56 = .ok (.ireturn, 1) := by decide +kernel
theorem dX5_openLocks_0 : decode cX5_openLocks 0 = .ok (.iconst 0, 1) := by decide +kernel
theorem dX5_openLocks_1 : decode cX5_openLocks 1 = .ok (.istore_n 1, 1) := by decide +kernel
theorem dX5_openLocks_2 : decode cX5_openLocks 2 = .ok (.iconst 0, 1) := by decide +kernel
theorem dX5_openLocks_3 : decode cX5_openLocks 3 = .ok (.istore_n 2, 1) := by decide +kernel
theorem dX5_openLocks_4 : decode cX5_openLocks 4 = .ok (.iload_n 2, 1) := by decide +kernel
theorem dX5_openLocks_5 : decode cX5_openLocks 5 = .ok (.aload_n 0, 1) := by decide +kernel
theorem dX5_openLocks_6 : decode cX5_openLocks 6 = .ok (.invokevirtual 43, 3) := by decide +kernel
theorem dX5_openLocks_9 : decode cX5_openLocks 9 = .ok (.if_icmp .ge 32, 3) := by decide +kernel
theorem dX5_openLocks_12 : decode cX5_openLocks 12 = .ok (.aload_n 0, 1) := by decide +kernel
theorem dX5_openLocks_13 : decode cX5_openLocks 13 = .ok (.iload_n 2, 1) := by decide +kernel
theorem dX5_openLocks_14 : decode cX5_openLocks 14 = .ok (.invokevirtual 63, 3) := by decide +kernel
theorem dX5_openLocks_17 : decode cX5_openLocks 17 = .ok (.checkcast 71, 3) := by decide +kernel
theorem dX5_openLocks_20 : decode cX5_openLocks 20 = .ok (.astore_n 3, 1) := by decide +kernel
theorem dX5_openLocks_21 : decode cX5_openLocks 21 = .ok (.aload_n 3, 1) := by decide +kernel
theorem dX5_openLocks_22 : decode cX5_openLocks 22 = .ok (.getfield 124, 3) := by decide +kernel
theorem dX5_openLocks_25 : decode cX5_openLocks 25 = .ok (.ifCond .eq 10, 3) := by decide +kernel
theorem dX5_openLocks_28 : decode cX5_openLocks 28 = .ok (.iload_n 1, 1) := by decide +kernel
theorem dX5_openLocks_29 : decode cX5_openLocks 29 = .ok (.aload_n 3, 1) := by decide +kernel
theorem dX5_openLocks_30 : decode cX5_openLocks 30 = .ok (.getfield 279, 3) := by decide +kernel
theorem dX5_openLocks_33 : decode cX5_openLocks 33 = .ok (.ior, 1) := by decide +kernel
theorem dX5_openLocks_34 : decode cX5_openLocks 34 = .ok (.istore_n 1, 1) := by decide +kernel
theorem dX5_openLocks_35 : decode cX5_openLocks 35 = .ok (.iinc 2 1, 3) := by decide +kernel
theorem dX5_openLocks_38 : decode cX5_openLocks 38 = .ok (.goto (-34), 3) := by decide +kernel
theorem dX5_openLocks_41 : decode cX5_openLocks 41 = .ok (.iload_n 1, 1) := by decide +kernel
theorem dX5_openLocks_42 : decode cX5_openLocks 42 = .ok (.ireturn, 1) := by decide +kernel
theorem dX5_spread_0 : decode cX5_spread 0 = .ok (.iload_n 1, 1) := by decide +kernel
theorem dX5_spread_1 : decode cX5_spread 1 = .ok (.istore_n 3, 1) := by decide +kernel
theorem dX5_spread_2 : decode cX5_spread 2 = .ok (.iconst 1, 1) := by decide +kernel
theorem dX5_spread_3 : decode cX5_spread 3 = .ok (.istore 4, 2) := by decide +kernel
theorem dX5_spread_5 : decode cX5_spread 5 = .ok (.iconst 0, 1) := by decide +kernel
theorem dX5_spread_6 : decode cX5_spread 6 = .ok (.istore 5, 2) := by decide +kernel
theorem dX5_spread_8 : decode cX5_spread 8 = .ok (.iload 4, 2) := by decide +kernel
theorem dX5_spread_10 : decode cX5_spread 10 = .ok (.ifCond .eq 77, 3) := by decide +kernel
theorem dX5_spread_13 : decode cX5_spread 13 = .ok (.iload 5, 2) := by decide +kernel
theorem dX5_spread_15 : decode cX5_spread 15 = .ok (.bipush 12, 2) := by decide +kernel
theorem dX5_spread_17 : decode cX5_spread 17 = .ok (.if_icmp .ge 70, 3) := by decide +kernel
theorem dX5_spread_20 : decode cX5_spread 20 = .ok (.iconst 0, 1) := by decide +kernel
theorem dX5_spread_21 : decode cX5_spread 21 = .ok (.istore 4, 2) := by decide +kernel
theorem dX5_spread_23 : decode cX5_spread 23 = .ok (.iconst 0, 1) := by decide +kernel
theorem dX5_spread_24 : decode cX5_spread 24 = .ok (.istore 6, 2) := by decide +kernel
theorem dX5_spread_26 : decode cX5_spread 26 = .ok (.iload 6, 2) := by decide +kernel
theorem dX5_spread_28 : decode cX5_spread 28 = .ok (.aload_n 0, 1) := by decide +kernel
theorem dX5_spread_29 : decode cX5_spread 29 = .ok (.invokevirtual 43, 3) := by decide +kernel
theorem dX5_spread_32 : decode cX5_spread 32 = .ok (.if_icmp .ge 49, 3) := by decide +kernel
theorem dX5_spread_35 : decode cX5_spread 35 = .ok (.aload_n 0, 1) := by decide +kernel
theorem dX5_spread_36 : decode cX5_spread 36 = .ok (.iload 6, 2) := by decide +kernel
theorem dX5_spread_38 : decode cX5_spread 38 = .ok (.invokevirtual 63, 3) := by decide +kernel
theorem dX5_spread_41 : decode cX5_spread 41 = .ok (.checkcast 71, 3) := by decide +kernel
theorem dX5_spread_44 : decode cX5_spread 44 = .ok (.astore 7, 2) := by decide +kernel
theorem dX5_spread_46 : decode cX5_spread 46 = .ok (.aload 7, 2) := by decide +kernel
theorem dX5_spread_48 : decode cX5_spread 48 = .ok (.iload_n 2, 1) := by decide +kernel
theorem dX5_spread_49 : decode cX5_spread 49 = .ok (.invokevirtual 282, 3) := by decide +kernel
theorem dX5_spread_52 : decode cX5_spread 52 = .ok (.ifCond .eq 23, 3) := by decide +kernel
theorem dX5_spread_55 : decode cX5_spread 55 = .ok (.aload 7, 2) := by decide +kernel
theorem dX5_spread_57 : decode cX5_spread 57 = .ok (.iload_n 3, 1) := by decide +kernel
theorem dX5_spread_58 : decode cX5_spread 58 = .ok (.invokevirtual 285, 3) := by decide +kernel
theorem dX5_spread_61 : decode cX5_spread 61 = .ok (.ifCond .eq 14, 3) := by decide +kernel
theorem dX5_spread_64 : decode cX5_spread 64 = .ok (.iload_n 3, 1) := by decide +kernel
theorem dX5_spread_65 : decode cX5_spread 65 = .ok (.aload 7, 2) := by decide +kernel
theorem dX5_spread_67 : decode cX5_spread 67 = .ok (.getfield 288, 3) := by decide +kernel
theorem dX5_spread_70 : decode cX5_spread 70 = .ok (.ior, 1) := by decide +kernel
theorem dX5_spread_71 : decode cX5_spread 71 = .ok (.istore_n 3, 1) := by decide +kernel
theorem dX5_spread_72 : decode cX5_spread 72 = .ok (.iconst 1, 1) := by decide +kernel
theorem dX5_spread_73 : decode cX5_spread 73 = .ok (.istore 4, 2) := by decide +kernel
theorem dX5_spread_75 : decode cX5_spread 75 = .ok (.iinc 6 1, 3) := by decide +kernel
theorem dX5_spread_78 : decode cX5_spread 78 = .ok (.goto (-52), 3) := by decide +kernel
theorem dX5_spread_81 : decode cX5_spread 81 = .ok (.iinc 5 1, 3) := by decide +kernel
theorem dX5_spread_84 : decode cX5_spread 84 = .ok (.goto (-76), 3) := by decide +kernel
theorem dX5_spread_87 : decode cX5_spread 87 = .ok (.iload_n 3, 1) := by decide +kernel
theorem dX5_spread_88 : decode cX5_spread 88 = .ok (.ireturn, 1) := by decide +kernel
theorem dX5_findArrivals_0 : decode cX5_findArrivals 0 = .ok (.iconst 0, 1) := by decide +kernel
theorem dX5_findArrivals_1 : decode cX5_findArrivals 1 = .ok (.istore_n 2, 1) := by decide +kernel
theorem dX5_findArrivals_2 : decode cX5_findArrivals 2 = .ok (.iload_n 2, 1) := by decide +kernel
theorem dX5_findArrivals_3 : decode cX5_findArrivals 3 = .ok (.aload_n 0, 1) := by decide +kernel
theorem dX5_findArrivals_4 : decode cX5_findArrivals 4 = .ok (.getfield 10, 3) := by decide +kernel
theorem dX5_findArrivals_7 : decode cX5_findArrivals 7 = .ok (.invokevirtual 43, 3) := by decide +kernel
theorem dX5_findArrivals_10 : decode cX5_findArrivals 10 = .ok (.if_icmp .ge 25, 3) := by decide +kernel
theorem dX5_findArrivals_13 : decode cX5_findArrivals 13 = .ok (.aload_n 0, 1) := by decide +kernel
theorem dX5_findArrivals_14 : decode cX5_findArrivals 14 = .ok (.getfield 10, 3) := by decide +kernel
theorem dX5_findArrivals_17 : decode cX5_findArrivals 17 = .ok (.iload_n 2, 1) := by decide +kernel
theorem dX5_findArrivals_18 : decode cX5_findArrivals 18 = .ok (.invokevirtual 63, 3) := by decide +kernel
theorem dX5_findArrivals_21 : decode cX5_findArrivals 21 = .ok (.checkcast 47, 3) := by decide +kernel
theorem dX5_findArrivals_24 : decode cX5_findArrivals 24 = .ok (.ldc 225, 2) := by decide +kernel
theorem dX5_findArrivals_26 : decode cX5_findArrivals 26 = .ok (.putfield 222, 3) := by decide +kernel
theorem dX5_findArrivals_29 : decode cX5_findArrivals 29 = .ok (.iinc 2 1, 3) := by decide +kernel
theorem dX5_findArrivals_32 : decode cX5_findArrivals 32 = .ok (.goto (-30), 3) := by decide +kernel
theorem dX5_findArrivals_35 : decode cX5_findArrivals 35 = .ok (.aload_n 1, 1) := by decide +kernel
theorem dX5_findArrivals_36 : decode cX5_findArrivals 36 = .ok (.getfield 117, 3) := by decide +kernel
theorem dX5_findArrivals_39 : decode cX5_findArrivals 39 = .ok (.aload_n 1, 1) := by decide +kernel
theorem dX5_findArrivals_40 : decode cX5_findArrivals 40 = .ok (.getfield 128, 3) := by decide +kernel
theorem dX5_findArrivals_43 : decode cX5_findArrivals 43 = .ok (.putfield 222, 3) := by decide +kernel
theorem dX5_findArrivals_46 : decode cX5_findArrivals 46 = .ok (.iconst 1, 1) := by decide +kernel
theorem dX5_findArrivals_47 : decode cX5_findArrivals 47 = .ok (.istore_n 2, 1) := by decide +kernel
theorem dX5_findArrivals_48 : decode cX5_findArrivals 48 = .ok (.iconst 0, 1) := by decide +kernel
theorem dX5_findArrivals_49 : decode cX5_findArrivals 49 = .ok (.istore_n 3, 1) := by decide +kernel
theorem dX5_findArrivals_50 : decode cX5_findArrivals 50 = .ok (.iload_n 2, 1) := by decide +kernel
theorem dX5_findArrivals_51 : decode cX5_findArrivals 51 = .ok (.ifCond .eq 98, 3) := by decide +kernel
theorem dX5_findArrivals_54 : decode cX5_findArrivals 54 = .ok (.iload_n 3, 1) := by decide +kernel
theorem dX5_findArrivals_55 : decode cX5_findArrivals 55 = .ok (.bipush 12, 2) := by decide +kernel
theorem dX5_findArrivals_57 : decode cX5_findArrivals 57 = .ok (.if_icmp .ge 92, 3) := by decide +kernel
theorem dX5_findArrivals_60 : decode cX5_findArrivals 60 = .ok (.iconst 0, 1) := by decide +kernel
theorem dX5_findArrivals_61 : decode cX5_findArrivals 61 = .ok (.istore_n 2, 1) := by decide +kernel
theorem dX5_findArrivals_62 : decode cX5_findArrivals 62 = .ok (.iconst 0, 1) := by decide +kernel
theorem dX5_findArrivals_63 : decode cX5_findArrivals 63 = .ok (.istore 4, 2) := by decide +kernel
theorem dX5_findArrivals_65 : decode cX5_findArrivals 65 = .ok (.iload 4, 2) := by decide +kernel
theorem dX5_findArrivals_67 : decode cX5_findArrivals 67 = .ok (.aload_n 0, 1) := by decide +kernel
theorem dX5_findArrivals_68 : decode cX5_findArrivals 68 = .ok (.getfield 16, 3) := by decide +kernel
theorem dX5_findArrivals_71 : decode cX5_findArrivals 71 = .ok (.invokevirtual 43, 3) := by decide +kernel
theorem dX5_findArrivals_74 : decode cX5_findArrivals 74 = .ok (.if_icmp .ge 69, 3) := by decide +kernel
theorem dX5_findArrivals_77 : decode cX5_findArrivals 77 = .ok (.aload_n 0, 1) := by decide +kernel
theorem dX5_findArrivals_78 : decode cX5_findArrivals 78 = .ok (.getfield 16, 3) := by decide +kernel
theorem dX5_findArrivals_81 : decode cX5_findArrivals 81 = .ok (.iload 4, 2) := by decide +kernel
theorem dX5_findArrivals_83 : decode cX5_findArrivals 83 = .ok (.invokevirtual 63, 3) := by decide +kernel
theorem dX5_findArrivals_86 : decode cX5_findArrivals 86 = .ok (.checkcast 71, 3) := by decide +kernel
theorem dX5_findArrivals_89 : decode cX5_findArrivals 89 = .ok (.astore 5, 2) := by decide +kernel
theorem dX5_findArrivals_91 : decode cX5_findArrivals 91 = .ok (.aload 5, 2) := by decide +kernel
theorem dX5_findArrivals_93 : decode cX5_findArrivals 93 = .ok (.getfield 124, 3) := by decide +kernel
theorem dX5_findArrivals_96 : decode cX5_findArrivals 96 = .ok (.ifCond .eq 41, 3) := by decide +kernel
theorem dX5_findArrivals_99 : decode cX5_findArrivals 99 = .ok (.aload 5, 2) := by decide +kernel
theorem dX5_findArrivals_101 : decode cX5_findArrivals 101 = .ok (.aload 5, 2) := by decide +kernel
theorem dX5_findArrivals_103 : decode cX5_findArrivals 103 = .ok (.getfield 237, 3) := by decide +kernel
theorem dX5_findArrivals_106 : decode cX5_findArrivals 106 = .ok (.aload 5, 2) := by decide +kernel
theorem dX5_findArrivals_108 : decode cX5_findArrivals 108 = .ok (.getfield 241, 3) := by decide +kernel
theorem dX5_findArrivals_111 : decode cX5_findArrivals 111 = .ok (.invokevirtual 291, 3) := by decide +kernel
theorem dX5_findArrivals_114 : decode cX5_findArrivals 114 = .ok (.ifCond .ne 21, 3) := by decide +kernel
theorem dX5_findArrivals_117 : decode cX5_findArrivals 117 = .ok (.aload 5, 2) := by decide +kernel
theorem dX5_findArrivals_119 : decode cX5_findArrivals 119 = .ok (.aload 5, 2) := by decide +kernel
theorem dX5_findArrivals_121 : decode cX5_findArrivals 121 = .ok (.getfield 241, 3) := by decide +kernel
theorem dX5_findArrivals_124 : decode cX5_findArrivals 124 = .ok (.aload 5, 2) := by decide +kernel
theorem dX5_findArrivals_126 : decode cX5_findArrivals 126 = .ok (.getfield 237, 3) := by decide +kernel
theorem dX5_findArrivals_129 : decode cX5_findArrivals 129 = .ok (.invokevirtual 291, 3) := by decide +kernel
theorem dX5_findArrivals_132 : decode cX5_findArrivals 132 = .ok (.ifCond .eq 5, 3) := by decide +kernel
theorem dX5_findArrivals_135 : decode cX5_findArrivals 135 = .ok (.iconst 1, 1) := by decide +kernel
theorem dX5_findArrivals_136 : decode cX5_findArrivals 136 = .ok (.istore_n 2, 1) := by decide +kernel
theorem dX5_findArrivals_137 : decode cX5_findArrivals 137 = .ok (.iinc 4 1, 3) := by decide +kernel
theorem dX5_findArrivals_140 : decode cX5_findArrivals 140 = .ok (.goto (-75), 3) := by decide +kernel
theorem dX5_findArrivals_143 : decode cX5_findArrivals 143 = .ok (.iinc 3 1, 3) := by decide +kernel
theorem dX5_findArrivals_146 : decode cX5_findArrivals 146 = .ok (.goto (-96), 3) := by decide +kernel
theorem dX5_findArrivals_149 : decode cX5_findArrivals 149 = .ok (.return_, 1) := by decide +kernel
