theorem dX6_init_0 : decode cX6_init 0 = .ok (.aload_n 0, 1) := by decide +kernel
theorem dX6_init_1 : decode cX6_init 1 = .ok (.invokespecial 1, 3) := by decide +kernel
theorem dX6_init_4 : decode cX6_init 4 = .ok (.aload_n 0, 1) := by decide +kernel
theorem dX6_init_5 : decode cX6_init 5 = .ok (.bipush (-6), 2) := by decide +kernel
theorem dX6_init_7 : decode cX6_init 7 = .ok (.putfield 9, 3) := by decide +kernel
theorem dX6_init_10 : decode cX6_init 10 = .ok (.aload_n 0, 1) := by decide +kernel
theorem dX6_init_11 : decode cX6_init 11 = .ok (.bipush 16, 2) := by decide +kernel
theorem dX6_init_13 : decode cX6_init 13 = .ok (.newarray .int, 2) := by decide +kernel
theorem dX6_init_15 : decode cX6_init 15 = .ok (.putfield 13, 3) := by decide +kernel
theorem dX6_init_18 : decode cX6_init 18 = .ok (.aload_n 0, 1) := by decide +kernel
theorem dX6_init_19 : decode cX6_init 19 = .ok (.bipush 16, 2) := by decide +kernel
theorem dX6_init_21 : decode cX6_init 21 = .ok (.newarray .int, 2) := by decide +kernel
theorem dX6_init_23 : decode cX6_init 23 = .ok (.putfield 17, 3) := by decide +kernel
theorem dX6_init_26 : decode cX6_init 26 = .ok (.aload_n 0, 1) := by decide +kernel
theorem dX6_init_27 : decode cX6_init 27 = .ok (.bipush 16, 2) := by decide +kernel
theorem dX6_init_29 : decode cX6_init 29 = .ok (.newarray .int, 2) := by decide +kernel
theorem dX6_init_31 : decode cX6_init 31 = .ok (.putfield 20, 3) := by decide +kernel
theorem dX6_init_34 : decode cX6_init 34 = .ok (.aload_n 0, 1) := by decide +kernel
theorem dX6_init_35 : decode cX6_init 35 = .ok (.bipush 16, 2) := by decide +kernel
theorem dX6_init_37 : decode cX6_init 37 = .ok (.newarray .int, 2) := by decide +kernel
theorem dX6_init_39 : decode cX6_init 39 = .ok (.putfield 23, 3) := by decide +kernel
theorem dX6_init_42 : decode cX6_init 42 = .ok (.aload_n 0, 1) := by decide +kernel
theorem dX6_init_43 : decode cX6_init 43 = .ok (.bipush 16, 2) := by decide +kernel
theorem dX6_init_45 : decode cX6_init 45 = .ok (.newarray .int, 2) := by decide +kernel
theorem dX6_init_47 : decode cX6_init 47 = .ok (.putfield 26, 3) := by decide +kernel
theorem dX6_init_50 : decode cX6_init 50 = .ok (.aload_n 0, 1) := by decide +kernel
theorem dX6_init_51 : decode cX6_init 51 = .ok (.bipush 16, 2) := by decide +kernel
theorem dX6_init_53 : decode cX6_init 53 = .ok (.newarray .int, 2) := by decide +kernel
theorem dX6_init_55 : decode cX6_init 55 = .ok (.putfield 29, 3) := by decide +kernel
theorem dX6_init_58 : decode cX6_init 58 = .ok (.aload_n 0, 1) := by decide +kernel
theorem dX6_init_59 : decode cX6_init 59 = .ok (.bipush 16, 2) := by decide +kernel
theorem dX6_init_61 : decode cX6_init 61 = .ok (.newarray .int, 2) := by decide +kernel
theorem dX6_init_63 : decode cX6_init 63 = .ok (.putfield 32, 3) := by decide +kernel
theorem dX6_init_66 : decode cX6_init 66 = .ok (.aload_n 0, 1) := by decide +kernel
theorem dX6_init_67 : decode cX6_init 67 = .ok (.bipush 16, 2) := by decide +kernel
theorem dX6_init_69 : decode cX6_init 69 = .ok (.newarray .int, 2) := by decide +kernel
theorem dX6_init_71 : decode cX6_init 71 = .ok (.putfield 35, 3) := by decide +kernel
theorem dX6_init_74 : decode cX6_init 74 = .ok (.aload_n 0, 1) := by decide +kernel
theorem dX6_init_75 : decode cX6_init 75 = .ok (.bipush 16, 2) := by decide +kernel
theorem dX6_init_77 : decode cX6_init 77 = .ok (.newarray .int, 2) := by decide +kernel
theorem dX6_init_79 : decode cX6_init 79 = .ok (.putfield 38, 3) := by decide +kernel
theorem dX6_init_82 : decode cX6_init 82 = .ok (.aload_n 0, 1) := by decide +kernel
theorem dX6_init_83 : decode cX6_init 83 = .ok (.bipush 16, 2) := by decide +kernel
theorem dX6_init_85 : decode cX6_init 85 = .ok (.newarray .int, 2) := by decide +kernel
theorem dX6_init_87 : decode cX6_init 87 = .ok (.putfield 41, 3) := by decide +kernel
theorem dX6_init_90 : decode cX6_init 90 = .ok (.aload_n 0, 1) := by decide +kernel
theorem dX6_init_91 : decode cX6_init 91 = .ok (.bipush 6, 2) := by decide +kernel
theorem dX6_init_93 : decode cX6_init 93 = .ok (.newarray .int, 2) := by decide +kernel
theorem dX6_init_95 : decode cX6_init 95 = .ok (.putfield 44, 3) := by decide +kernel
theorem dX6_init_98 : decode cX6_init 98 = .ok (.aload_n 0, 1) := by decide +kernel
theorem dX6_init_99 : decode cX6_init 99 = .ok (.bipush 6, 2) := by decide +kernel
theorem dX6_init_101 : decode cX6_init 101 = .ok (.newarray .int, 2) := by decide +kernel
theorem dX6_init_103 : decode cX6_init 103 = .ok (.putfield 47, 3) := by decide +kernel
theorem dX6_init_106 : decode cX6_init 106 = .ok (.aload_n 0, 1) := by decide +kernel
theorem dX6_init_107 : decode cX6_init 107 = .ok (.bipush 6, 2) := by decide +kernel
theorem dX6_init_109 : decode cX6_init 109 = .ok (.newarray .int, 2) := by decide +kernel
theorem dX6_init_111 : decode cX6_init 111 = .ok (.putfield 50, 3) := by decide +kernel
theorem dX6_init_114 : decode cX6_init 114 = .ok (.aload_n 0, 1) := by decide +kernel
theorem dX6_init_115 : decode cX6_init 115 = .ok (.bipush 6, 2) := by decide +kernel
theorem dX6_init_117 : decode cX6_init 117 = .ok (.newarray .int, 2) := by decide +kernel
theorem dX6_init_119 : decode cX6_init 119 = .ok (.putfield 53, 3) := by decide +kernel
theorem dX6_init_122 : decode cX6_init 122 = .ok (.aload_n 0, 1) := by decide +kernel
theorem dX6_init_123 : decode cX6_init 123 = .ok (.bipush 6, 2) := by decide +kernel
theorem dX6_init_125 : decode cX6_init 125 = .ok (.newarray .int, 2) := by decide +kernel
theorem dX6_init_127 : decode cX6_init 127 = .ok (.putfield 56, 3) := by decide +kernel
theorem dX6_init_130 : decode cX6_init 130 = .ok (.aload_n 0, 1) := by decide +kernel
theorem dX6_init_131 : decode cX6_init 131 = .ok (.iconst 5, 1) := by decide +kernel
theorem dX6_init_132 : decode cX6_init 132 = .ok (.putfield 59, 3) := by decide +kernel
theorem dX6_init_135 : decode cX6_init 135 = .ok (.aload_n 0, 1) := by decide +kernel
theorem dX6_init_136 : decode cX6_init 136 = .ok (.iconst 5, 1) := by decide +kernel
theorem dX6_init_137 : decode cX6_init 137 = .ok (.putfield 62, 3) := by decide +kernel
theorem dX6_init_140 : decode cX6_init 140 = .ok (.aload_n 0, 1) := by decide +kernel
theorem dX6_init_141 : decode cX6_init 141 = .ok (.bipush 10, 2) := by decide +kernel
theorem dX6_init_143 : decode cX6_init 143 = .ok (.newarray .int, 2) := by decide +kernel
theorem dX6_init_145 : decode cX6_init 145 = .ok (.putfield 65, 3) := by decide +kernel
theorem dX6_init_148 : decode cX6_init 148 = .ok (.aload_n 0, 1) := by decide +kernel
theorem dX6_init_149 : decode cX6_init 149 = .ok (.sipush 1024, 3) := by decide +kernel
theorem dX6_init_152 : decode cX6_init 152 = .ok (.newarray .int, 2) := by decide +kernel
theorem dX6_init_154 : decode cX6_init 154 = .ok (.putfield 68, 3) := by decide +kernel
theorem dX6_init_157 : decode cX6_init 157 = .ok (.aload_n 0, 1) := by decide +kernel
theorem dX6_init_158 : decode cX6_init 158 = .ok (.sipush 1024, 3) := by decide +kernel
theorem dX6_init_161 : decode cX6_init 161 = .ok (.newarray .int, 2) := by decide +kernel
theorem dX6_init_163 : decode cX6_init 163 = .ok (.putfield 71, 3) := by decide +kernel
theorem dX6_init_166 : decode cX6_init 166 = .ok (.aload_n 0, 1) := by decide +kernel
theorem dX6_init_167 : decode cX6_init 167 = .ok (.sipush 1024, 3) := by decide +kernel
theorem dX6_init_170 : decode cX6_init 170 = .ok (.newarray .boolean, 2) := by decide +kernel
theorem dX6_init_172 : decode cX6_init 172 = .ok (.putfield 74, 3) := by decide +kernel
theorem dX6_init_175 : decode cX6_init 175 = .ok (.aload_n 0, 1) := by decide +kernel
theorem dX6_init_176 : decode cX6_init 176 = .ok (.sipush 1024, 3) := by decide +kernel
theorem dX6_init_179 : decode cX6_init 179 = .ok (.newarray .boolean, 2) := by decide +kernel
theorem dX6_init_181 : decode cX6_init 181 = .ok (.putfield 78, 3) := by decide +kernel
theorem dX6_init_184 : decode cX6_init 184 = .ok (.aload_n 0, 1) := by decide +kernel
theorem dX6_init_185 : decode cX6_init 185 = .ok (.bipush 10, 2) := by decide +kernel
theorem dX6_init_187 : decode cX6_init 187 = .ok (.newarray .int, 2) := by decide +kernel
theorem dX6_init_189 : decode cX6_init 189 = .ok (.putfield 81, 3) := by decide +kernel
theorem dX6_init_192 : decode cX6_init 192 = .ok (.aload_n 0, 1) := by decide +kernel
theorem dX6_init_193 : decode cX6_init 193 = .ok (.bipush 12, 2) := by decide +kernel
theorem dX6_init_195 : decode cX6_init 195 = .ok (.newarray .int, 2) := by decide +kernel
theorem dX6_init_197 : decode cX6_init 197 = .ok (.putfield 84, 3) := by decide +kernel
theorem dX6_init_200 : decode cX6_init 200 = .ok (.return_, 1) := by decide +kernel
theorem dX6_in_0 : decode cX6_in 0 = .ok (.iload_n 0, 1) := by decide +kernel
theorem dX6_in_1 : decode cX6_in 1 = .ok (.iload_n 1, 1) := by decide +kernel
theorem dX6_in_2 : decode cX6_in 2 = .ok (.if_icmp .lt 12, 3) := by decide +kernel
theorem dX6_in_5 : decode cX6_in 5 = .ok (.iload_n 0, 1) := by decide +kernel
theorem dX6_in_6 : decode cX6_in 6 = .ok (.iload_n 2, 1) := by decide +kernel
theorem dX6_in_7 : decode cX6_in 7 = .ok (.if_icmp .gt 7, 3) := by decide +kernel
theorem dX6_in_10 : decode cX6_in 10 = .ok (.iconst 1, 1) := by decide +kernel
theorem dX6_in_11 : decode cX6_in 11 = .ok (.goto 4, 3) := by decide +kernel
theorem dX6_in_14 : decode cX6_in 14 = .ok (.iconst 0, 1) := by decide +kernel
theorem dX6_in_15 : decode cX6_in 15 = .ok (.ireturn, 1) := by decide +kernel
theorem dX6_noRoom_0 : decode cX6_noRoom 0 = .ok (.iload_n 1, 1) := by decide +kernel
theorem dX6_noRoom_1 : decode cX6_noRoom 1 = .ok (.iconst 0, 1) := by decide +kernel
theorem dX6_noRoom_2 : decode cX6_noRoom 2 = .ok (.aload_n 0, 1) := by decide +kernel
theorem dX6_noRoom_3 : decode cX6_noRoom 3 = .ok (.getfield 87, 3) := by decide +kernel
theorem dX6_noRoom_6 : decode cX6_noRoom 6 = .ok (.iconst 1, 1) := by decide +kernel
theorem dX6_noRoom_7 : decode cX6_noRoom 7 = .ok (.isub, 1) := by decide +kernel
theorem dX6_noRoom_8 : decode cX6_noRoom 8 = .ok (.invokestatic 90, 3) := by decide +kernel
theorem dX6_noRoom_11 : decode cX6_noRoom 11 = .ok (.ifCond .ne 7, 3) := by decide +kernel
theorem dX6_noRoom_14 : decode cX6_noRoom 14 = .ok (.iconst 1, 1) := by decide +kernel
theorem dX6_noRoom_15 : decode cX6_noRoom 15 = .ok (.goto 4, 3) := by decide +kernel
theorem dX6_noRoom_18 : decode cX6_noRoom 18 = .ok (.iconst 0, 1) := by decide +kernel
theorem dX6_noRoom_19 : decode cX6_noRoom 19 = .ok (.ireturn, 1) := by decide +kernel
theorem dX6_noDoor_0 : decode cX6_noDoor 0 = .ok (.iload_n 1, 1) := by decide +kernel
theorem dX6_noDoor_1 : decode cX6_noDoor 1 = .ok (.iconst 0, 1) := by decide +kernel
theorem dX6_noDoor_2 : decode cX6_noDoor 2 = .ok (.aload_n 0, 1) := by decide +kernel
theorem dX6_noDoor_3 : decode cX6_noDoor 3 = .ok (.getfield 94, 3) := by decide +kernel
theorem dX6_noDoor_6 : decode cX6_noDoor 6 = .ok (.iconst 1, 1) := by decide +kernel
theorem dX6_noDoor_7 : decode cX6_noDoor 7 = .ok (.isub, 1) := by decide +kernel
theorem dX6_noDoor_8 : decode cX6_noDoor 8 = .ok (.invokestatic 90, 3) := by decide +kernel
theorem dX6_noDoor_11 : decode cX6_noDoor 11 = .ok (.ifCond .ne 7, 3) := by decide +kernel
theorem dX6_noDoor_14 : decode cX6_noDoor 14 = .ok (.iconst 1, 1) := by decide +kernel
theorem dX6_noDoor_15 : decode cX6_noDoor 15 = .ok (.goto 4, 3) := by decide +kernel
theorem dX6_noDoor_18 : decode cX6_noDoor 18 = .ok (.iconst 0, 1) := by decide +kernel
theorem dX6_noDoor_19 : decode cX6_noDoor 19 = .ok (.ireturn, 1) := by decide +kernel
theorem dX6_noKey_0 : decode cX6_noKey 0 = .ok (.iload_n 1, 1) := by decide +kernel
theorem dX6_noKey_1 : decode cX6_noKey 1 = .ok (.iconst 0, 1) := by decide +kernel
theorem dX6_noKey_2 : decode cX6_noKey 2 = .ok (.aload_n 0, 1) := by decide +kernel
theorem dX6_noKey_3 : decode cX6_noKey 3 = .ok (.getfield 97, 3) := by decide +kernel
theorem dX6_noKey_6 : decode cX6_noKey 6 = .ok (.iconst 1, 1) := by decide +kernel
theorem dX6_noKey_7 : decode cX6_noKey 7 = .ok (.isub, 1) := by decide +kernel
theorem dX6_noKey_8 : decode cX6_noKey 8 = .ok (.invokestatic 90, 3) := by decide +kernel
theorem dX6_noKey_11 : decode cX6_noKey 11 = .ok (.ifCond .ne 7, 3) := by decide +kernel
theorem dX6_noKey_14 : decode cX6_noKey 14 = .ok (.iconst 1, 1) := by decide +kernel
theorem dX6_noKey_15 : decode cX6_noKey 15 = .ok (.goto 4, 3) := by decide +kernel
theorem dX6_noKey_18 : decode cX6_noKey 18 = .ok (.iconst 0, 1) := by decide +kernel
theorem dX6_noKey_19 : decode cX6_noKey 19 = .ok (.ireturn, 1) := by decide +kernel
theorem dX6_noGroup_0 : decode cX6_noGroup 0 = .ok (.iload_n 1, 1) := by decide +kernel
theorem dX6_noGroup_1 : decode cX6_noGroup 1 = .ok (.iconst 0, 1) := by decide +kernel
theorem dX6_noGroup_2 : decode cX6_noGroup 2 = .ok (.aload_n 0, 1) := by decide +kernel
theorem dX6_noGroup_3 : decode cX6_noGroup 3 = .ok (.getfield 100, 3) := by decide +kernel
theorem dX6_noGroup_6 : decode cX6_noGroup 6 = .ok (.iconst 1, 1) := by decide +kernel
theorem dX6_noGroup_7 : decode cX6_noGroup 7 = .ok (.isub, 1) := by decide +kernel
theorem dX6_noGroup_8 : decode cX6_noGroup 8 = .ok (.invokestatic 90, 3) := by decide +kernel
theorem dX6_noGroup_11 : decode cX6_noGroup 11 = .ok (.ifCond .ne 7, 3) := by decide +kernel
theorem dX6_noGroup_14 : decode cX6_noGroup 14 = .ok (.iconst 1, 1) := by decide +kernel
theorem dX6_noGroup_15 : decode cX6_noGroup 15 = .ok (.goto 4, 3) := by decide +kernel
theorem dX6_noGroup_18 : decode cX6_noGroup 18 = .ok (.iconst 0, 1) := by decide +kernel
theorem dX6_noGroup_19 : decode cX6_noGroup 19 = .ok (.ireturn, 1) := by decide +kernel
theorem dX6_addRoom_0 : decode cX6_addRoom 0 = .ok (.aload_n 0, 1) := by decide +kernel
theorem dX6_addRoom_1 : decode cX6_addRoom 1 = .ok (.getfield 87, 3) := by decide +kernel
theorem dX6_addRoom_4 : decode cX6_addRoom 4 = .ok (.bipush 12, 2) := by decide +kernel
theorem dX6_addRoom_6 : decode cX6_addRoom 6 = .ok (.if_icmp .ne 6, 3) := by decide +kernel
theorem dX6_addRoom_9 : decode cX6_addRoom 9 = .ok (.bipush (-3), 2) := by decide +kernel
theorem dX6_addRoom_11 : decode cX6_addRoom 11 = .ok (.ireturn, 1) := by decide +kernel
theorem dX6_addRoom_12 : decode cX6_addRoom 12 = .ok (.aload_n 0, 1) := by decide +kernel
theorem dX6_addRoom_13 : decode cX6_addRoom 13 = .ok (.dup, 1) := by decide +kernel
theorem dX6_addRoom_14 : decode cX6_addRoom 14 = .ok (.getfield 87, 3) := by decide +kernel
theorem dX6_addRoom_17 : decode cX6_addRoom 17 = .ok (.iconst 1, 1) := by decide +kernel
theorem dX6_addRoom_18 : decode cX6_addRoom 18 = .ok (.iadd, 1) := by decide +kernel
theorem dX6_addRoom_19 : decode cX6_addRoom 19 = .ok (.putfield 87, 3) := by decide +kernel
theorem dX6_addRoom_22 : decode cX6_addRoom 22 = .ok (.aload_n 0, 1) := by decide +kernel
theorem dX6_addRoom_23 : decode cX6_addRoom 23 = .ok (.getfield 87, 3) := by decide +kernel
theorem dX6_addRoom_26 : decode cX6_addRoom 26 = .ok (.iconst 1, 1) := by decide +kernel
theorem dX6_addRoom_27 : decode cX6_addRoom 27 = .ok (.isub, 1) := by decide +kernel
theorem dX6_addRoom_28 : decode cX6_addRoom 28 = .ok (.ireturn, 1) := by decide +kernel
theorem dX6_setExit_0 : decode cX6_setExit 0 = .ok (.aload_n 0, 1) := by decide +kernel
theorem dX6_setExit_1 : decode cX6_setExit 1 = .ok (.iload_n 1, 1) := by decide +kernel
theorem dX6_setExit_2 : decode cX6_setExit 2 = .ok (.invokevirtual 103, 3) := by decide +kernel
theorem dX6_setExit_5 : decode cX6_setExit 5 = .ok (.ifCond .eq 5, 3) := by decide +kernel
theorem dX6_setExit_8 : decode cX6_setExit 8 = .ok (.iconst (-1), 1) := by decide +kernel
theorem dX6_setExit_9 : decode cX6_setExit 9 = .ok (.ireturn, 1) := by decide +kernel
theorem dX6_setExit_10 : decode cX6_setExit 10 = .ok (.aload_n 0, 1) := by decide +kernel
theorem dX6_setExit_11 : decode cX6_setExit 11 = .ok (.getfield 9, 3) := by decide +kernel
theorem dX6_setExit_14 : decode cX6_setExit 14 = .ok (.istore_n 2, 1) := by decide +kernel
theorem dX6_setExit_15 : decode cX6_setExit 15 = .ok (.aload_n 0, 1) := by decide +kernel
theorem dX6_setExit_16 : decode cX6_setExit 16 = .ok (.iload_n 1, 1) := by decide +kernel
theorem dX6_setExit_17 : decode cX6_setExit 17 = .ok (.putfield 9, 3) := by decide +kernel
theorem dX6_setExit_20 : decode cX6_setExit 20 = .ok (.iload_n 2, 1) := by decide +kernel
theorem dX6_setExit_21 : decode cX6_setExit 21 = .ok (.ireturn, 1) := by decide +kernel
theorem dX6_putDoor_0 : decode cX6_putDoor 0 = .ok (.aload_n 0, 1) := by decide +kernel
theorem dX6_putDoor_1 : decode cX6_putDoor 1 = .ok (.getfield 13, 3) := by decide +kernel
theorem dX6_putDoor_4 : decode cX6_putDoor 4 = .ok (.aload_n 0, 1) := by decide +kernel
theorem dX6_putDoor_5 : decode cX6_putDoor 5 = .ok (.getfield 94, 3) := by decide +kernel
theorem dX6_putDoor_8 : decode cX6_putDoor 8 = .ok (.iload_n 1, 1) := by decide +kernel
theorem dX6_putDoor_9 : decode cX6_putDoor 9 = .ok (.iload_n 2, 1) := by decide +kernel
theorem dX6_putDoor_10 : decode cX6_putDoor 10 = .ok (.if_icmp .ge 7, 3) := by decide +kernel
theorem dX6_putDoor_13 : decode cX6_putDoor 13 = .ok (.iload_n 1, 1) := by decide +kernel
theorem dX6_putDoor_14 : decode cX6_putDoor 14 = .ok (.goto 4, 3) := by decide +kernel
theorem dX6_putDoor_17 : decode cX6_putDoor 17 = .ok (.iload_n 2, 1) := by decide +kernel
theorem dX6_putDoor_18 : decode cX6_putDoor 18 = .ok (.iastore, 1) := by decide +kernel
theorem dX6_putDoor_19 : decode cX6_putDoor 19 = .ok (.aload_n 0, 1) := by decide +kernel
theorem dX6_putDoor_20 : decode cX6_putDoor 20 = .ok (.getfield 17, 3) := by decide +kernel
theorem dX6_putDoor_23 : decode cX6_putDoor 23 = .ok (.aload_n 0, 1) := by decide +kernel
theorem dX6_putDoor_24 : decode cX6_putDoor 24 = .ok (.getfield 94, 3) := by decide +kernel
theorem dX6_putDoor_27 : decode cX6_putDoor 27 = .ok (.iload_n 1, 1) := by decide +kernel
theorem dX6_putDoor_28 : decode cX6_putDoor 28 = .ok (.iload_n 2, 1) := by decide +kernel
theorem dX6_putDoor_29 : decode cX6_putDoor 29 = .ok (.if_icmp .ge 7, 3) := by decide +kernel
theorem dX6_putDoor_32 : decode cX6_putDoor 32 = .ok (.iload_n 2, 1) := by decide +kernel
theorem dX6_putDoor_33 : decode cX6_putDoor 33 = .ok (.goto 4, 3) := by decide +kernel
theorem dX6_putDoor_36 : decode cX6_putDoor 36 = .ok (.iload_n 1, 1) := by decide +kernel
theorem dX6_putDoor_37 : decode cX6_putDoor 37 = .ok (.iastore, 1) := by decide +kernel
theorem dX6_putDoor_38 : decode cX6_putDoor 38 = .ok (.aload_n 0, 1) := by decide +kernel
theorem dX6_putDoor_39 : decode cX6_putDoor 39 = .ok (.getfield 20, 3) := by decide +kernel
theorem dX6_putDoor_42 : decode cX6_putDoor 42 = .ok (.aload_n 0, 1) := by decide +kernel
theorem dX6_putDoor_43 : decode cX6_putDoor 43 = .ok (.getfield 94, 3) := by decide +kernel
theorem dX6_putDoor_46 : decode cX6_putDoor 46 = .ok (.iload_n 3, 1) := by decide +kernel
theorem dX6_putDoor_47 : decode cX6_putDoor 47 = .ok (.iastore, 1) := by decide +kernel
theorem dX6_putDoor_48 : decode cX6_putDoor 48 = .ok (.aload_n 0, 1) := by decide +kernel
theorem dX6_putDoor_49 : decode cX6_putDoor 49 = .ok (.getfield 23, 3) := by decide +kernel
theorem dX6_putDoor_52 : decode cX6_putDoor 52 = .ok (.aload_n 0, 1) := by decide +kernel
theorem dX6_putDoor_53 : decode cX6_putDoor 53 = .ok (.getfield 94, 3) := by decide +kernel
theorem dX6_putDoor_56 : decode cX6_putDoor 56 = .ok (.iload 4, 2) := by decide +kernel
theorem dX6_putDoor_58 : decode cX6_putDoor 58 = .ok (.iastore, 1) := by decide +kernel
theorem dX6_putDoor_59 : decode cX6_putDoor 59 = .ok (.aload_n 0, 1) := by decide +kernel
theorem dX6_putDoor_60 : decode cX6_putDoor 60 = .ok (.getfield 26, 3) := by decide +kernel
theorem dX6_putDoor_63 : decode cX6_putDoor 63 = .ok (.aload_n 0, 1) := by decide +kernel
theorem dX6_putDoor_64 : decode cX6_putDoor 64 = .ok (.getfield 94, 3) := by decide +kernel
theorem dX6_putDoor_67 : decode cX6_putDoor 67 = .ok (.iload 5, 2) := by decide +kernel
theorem dX6_putDoor_69 : decode cX6_putDoor 69 = .ok (.iastore, 1) := by decide +kernel
theorem dX6_putDoor_70 : decode cX6_putDoor 70 = .ok (.aload_n 0, 1) := by decide +kernel
theorem dX6_putDoor_71 : decode cX6_putDoor 71 = .ok (.getfield 29, 3) := by decide +kernel
theorem dX6_putDoor_74 : decode cX6_putDoor 74 = .ok (.aload_n 0, 1) := by decide +kernel
theorem dX6_putDoor_75 : decode cX6_putDoor 75 = .ok (.getfield 94, 3) := by decide +kernel
theorem dX6_putDoor_78 : decode cX6_putDoor 78 = .ok (.iload 4, 2) := by decide +kernel
theorem dX6_putDoor_80 : decode cX6_putDoor 80 = .ok (.ifCond .ge 7, 3) := by decide +kernel
theorem dX6_putDoor_83 : decode cX6_putDoor 83 = .ok (.iconst 0, 1) := by decide +kernel
theorem dX6_putDoor_84 : decode cX6_putDoor 84 = .ok (.goto 5, 3) := by decide +kernel
theorem dX6_putDoor_87 : decode cX6_putDoor 87 = .ok (.bipush (-6), 2) := by decide +kernel
theorem dX6_putDoor_89 : decode cX6_putDoor 89 = .ok (.iastore, 1) := by decide +kernel
theorem dX6_putDoor_90 : decode cX6_putDoor 90 = .ok (.aload_n 0, 1) := by decide +kernel
theorem dX6_putDoor_91 : decode cX6_putDoor 91 = .ok (.dup, 1) := by decide +kernel
theorem dX6_putDoor_92 : decode cX6_putDoor 92 = .ok (.getfield 94, 3) := by decide +kernel
theorem dX6_putDoor_95 : decode cX6_putDoor 95 = .ok (.iconst 1, 1) := by decide +kernel
theorem dX6_putDoor_96 : decode cX6_putDoor 96 = .ok (.iadd, 1) := by decide +kernel
theorem dX6_putDoor_97 : decode cX6_putDoor 97 = .ok (.putfield 94, 3) := by decide +kernel
theorem dX6_putDoor_100 : decode cX6_putDoor 100 = .ok (.aload_n 0, 1) := by decide +kernel
theorem dX6_putDoor_101 : decode cX6_putDoor 101 = .ok (.getfield 94, 3) := by decide +kernel
theorem dX6_putDoor_104 : decode cX6_putDoor 104 = .ok (.iconst 1, 1) := by decide +kernel
theorem dX6_putDoor_105 : decode cX6_putDoor 105 = .ok (.isub, 1) := by decide +kernel
theorem dX6_putDoor_106 : decode cX6_putDoor 106 = .ok (.ireturn, 1) := by decide +kernel
theorem dX6_addDoor_0 : decode cX6_addDoor 0 = .ok (.aload_n 0, 1) := by decide +kernel
theorem dX6_addDoor_1 : decode cX6_addDoor 1 = .ok (.iload_n 1, 1) := by decide +kernel
theorem dX6_addDoor_2 : decode cX6_addDoor 2 = .ok (.invokevirtual 103, 3) := by decide +kernel
theorem dX6_addDoor_5 : decode cX6_addDoor 5 = .ok (.ifCond .ne 11, 3) := by decide +kernel
theorem dX6_addDoor_8 : decode cX6_addDoor 8 = .ok (.aload_n 0, 1) := by decide +kernel
theorem dX6_addDoor_9 : decode cX6_addDoor 9 = .ok (.iload_n 2, 1) := by decide +kernel
theorem dX6_addDoor_10 : decode cX6_addDoor 10 = .ok (.invokevirtual 103, 3) := by decide +kernel
theorem dX6_addDoor_13 : decode cX6_addDoor 13 = .ok (.ifCond .eq 5, 3) := by decide +kernel
theorem dX6_addDoor_16 : decode cX6_addDoor 16 = .ok (.iconst (-1), 1) := by decide +kernel
theorem dX6_addDoor_17 : decode cX6_addDoor 17 = .ok (.ireturn, 1) := by decide +kernel
theorem dX6_addDoor_18 : decode cX6_addDoor 18 = .ok (.iload_n 1, 1) := by decide +kernel
theorem dX6_addDoor_19 : decode cX6_addDoor 19 = .ok (.iload_n 2, 1) := by decide +kernel
theorem dX6_addDoor_20 : decode cX6_addDoor 20 = .ok (.if_icmp .eq 13, 3) := by decide +kernel
theorem dX6_addDoor_23 : decode cX6_addDoor 23 = .ok (.iload_n 3, 1) := by decide +kernel
theorem dX6_addDoor_24 : decode cX6_addDoor 24 = .ok (.iconst 1, 1) := by decide +kernel
theorem dX6_addDoor_25 : decode cX6_addDoor 25 = .ok (.bipush 30, 2) := by decide +kernel
theorem dX6_addDoor_27 : decode cX6_addDoor 27 = .ok (.invokestatic 90, 3) := by decide +kernel
theorem dX6_addDoor_30 : decode cX6_addDoor 30 = .ok (.ifCond .ne 6, 3) := by decide +kernel
theorem dX6_addDoor_33 : decode cX6_addDoor 33 = .ok (.bipush (-2), 2) := by decide +kernel
theorem dX6_addDoor_35 : decode cX6_addDoor 35 = .ok (.ireturn, 1) := by decide +kernel
theorem dX6_addDoor_36 : decode cX6_addDoor 36 = .ok (.aload_n 0, 1) := by decide +kernel
theorem dX6_addDoor_37 : decode cX6_addDoor 37 = .ok (.getfield 94, 3) := by decide +kernel
theorem dX6_addDoor_40 : decode cX6_addDoor 40 = .ok (.bipush 16, 2) := by decide +kernel
theorem dX6_addDoor_42 : decode cX6_addDoor 42 = .ok (.if_icmp .ne 8, 3) := by decide +kernel
theorem dX6_addDoor_45 : decode cX6_addDoor 45 = .ok (.bipush (-3), 2) := by decide +kernel
theorem dX6_addDoor_47 : decode cX6_addDoor 47 = .ok (.goto 13, 3) := by decide +kernel
theorem dX6_addDoor_50 : decode cX6_addDoor 50 = .ok (.aload_n 0, 1) := by decide +kernel
theorem dX6_addDoor_51 : decode cX6_addDoor 51 = .ok (.iload_n 1, 1) := by decide +kernel
theorem dX6_addDoor_52 : decode cX6_addDoor 52 = .ok (.iload_n 2, 1) := by decide +kernel
theorem dX6_addDoor_53 : decode cX6_addDoor 53 = .ok (.iload_n 3, 1) := by decide +kernel
theorem dX6_addDoor_54 : decode cX6_addDoor 54 = .ok (.bipush (-6), 2) := by decide +kernel
theorem dX6_addDoor_56 : decode cX6_addDoor 56 = .ok (.iconst 0, 1) := by decide +kernel
theorem dX6_addDoor_57 : decode cX6_addDoor 57 = .ok (.invokevirtual 107, 3) := by decide +kernel
theorem dX6_addDoor_60 : decode cX6_addDoor 60 = .ok (.ireturn, 1) := by decide +kernel
theorem dX6_locks_0 : decode cX6_locks 0 = .ok (.iconst 0, 1) := by decide +kernel
theorem dX6_locks_1 : decode cX6_locks 1 = .ok (.istore_n 1, 1) := by decide +kernel
theorem dX6_locks_2 : decode cX6_locks 2 = .ok (.iconst 0, 1) := by decide +kernel
theorem dX6_locks_3 : decode cX6_locks 3 = .ok (.istore_n 2, 1) := by decide +kernel
theorem dX6_locks_4 : decode cX6_locks 4 = .ok (.iload_n 2, 1) := by decide +kernel
theorem dX6_locks_5 : decode cX6_locks 5 = .ok (.aload_n 0, 1) := by decide +kernel
theorem dX6_locks_6 : decode cX6_locks 6 = .ok (.getfield 94, 3) := by decide +kernel
theorem dX6_locks_9 : decode cX6_locks 9 = .ok (.if_icmp .ge 26, 3) := by decide +kernel
theorem dX6_locks_12 : decode cX6_locks 12 = .ok (.iload_n 1, 1) := by decide +kernel
theorem dX6_locks_13 : decode cX6_locks 13 = .ok (.aload_n 0, 1) := by decide +kernel
theorem dX6_locks_14 : decode cX6_locks 14 = .ok (.getfield 23, 3) := by decide +kernel
theorem dX6_locks_17 : decode cX6_locks 17 = .ok (.iload_n 2, 1) := by decide +kernel
theorem dX6_locks_18 : decode cX6_locks 18 = .ok (.iaload, 1) := by decide +kernel
theorem dX6_locks_19 : decode cX6_locks 19 = .ok (.ifCond .lt 7, 3) := by decide +kernel
theorem dX6_locks_22 : decode cX6_locks 22 = .ok (.iconst 1, 1) := by decide +kernel
theorem dX6_locks_23 : decode cX6_locks 23 = .ok (.goto 4, 3) := by decide +kernel
theorem dX6_locks_26 : decode cX6_locks 26 = .ok (.iconst 0, 1) := by decide +kernel
theorem dX6_locks_27 : decode cX6_locks 27 = .ok (.iadd, 1) := by decide +kernel
theorem dX6_locks_28 : decode cX6_locks 28 = .ok (.istore_n 1, 1) := by decide +kernel
theorem dX6_locks_29 : decode cX6_locks 29 = .ok (.iinc 2 1, 3) := by decide +kernel
theorem dX6_locks_32 : decode cX6_locks 32 = .ok (.goto (-28), 3) := by decide +kernel
theorem dX6_locks_35 : decode cX6_locks 35 = .ok (.iload_n 1, 1) := by decide +kernel
theorem dX6_locks_36 : decode cX6_locks 36 = .ok (.ireturn, 1) := by decide +kernel
theorem dX6_addLock_0 : decode cX6_addLock 0 = .ok (.aload_n 0, 1) := by decide +kernel
theorem dX6_addLock_1 : decode cX6_addLock 1 = .ok (.iload_n 1, 1) := by decide +kernel
theorem dX6_addLock_2 : decode cX6_addLock 2 = .ok (.invokevirtual 103, 3) := by decide +kernel
theorem dX6_addLock_5 : decode cX6_addLock 5 = .ok (.ifCond .ne 11, 3) := by decide +kernel
theorem dX6_addLock_8 : decode cX6_addLock 8 = .ok (.aload_n 0, 1) := by decide +kernel
theorem dX6_addLock_9 : decode cX6_addLock 9 = .ok (.iload_n 2, 1) := by decide +kernel
theorem dX6_addLock_10 : decode cX6_addLock 10 = .ok (.invokevirtual 103, 3) := by decide +kernel
theorem dX6_addLock_13 : decode cX6_addLock 13 = .ok (.ifCond .eq 5, 3) := by decide +kernel
theorem dX6_addLock_16 : decode cX6_addLock 16 = .ok (.iconst (-1), 1) := by decide +kernel
theorem dX6_addLock_17 : decode cX6_addLock 17 = .ok (.ireturn, 1) := by decide +kernel
theorem dX6_addLock_18 : decode cX6_addLock 18 = .ok (.iload_n 1, 1) := by decide +kernel
theorem dX6_addLock_19 : decode cX6_addLock 19 = .ok (.iload_n 2, 1) := by decide +kernel
theorem dX6_addLock_20 : decode cX6_addLock 20 = .ok (.if_icmp .eq 34, 3) := by decide +kernel
theorem dX6_addLock_23 : decode cX6_addLock 23 = .ok (.iload_n 3, 1) := by decide +kernel
theorem dX6_addLock_24 : decode cX6_addLock 24 = .ok (.iconst 1, 1) := by decide +kernel
theorem dX6_addLock_25 : decode cX6_addLock 25 = .ok (.bipush 30, 2) := by decide +kernel
theorem dX6_addLock_27 : decode cX6_addLock 27 = .ok (.invokestatic 90, 3) := by decide +kernel
theorem dX6_addLock_30 : decode cX6_addLock 30 = .ok (.ifCond .eq 24, 3) := by decide +kernel
theorem dX6_addLock_33 : decode cX6_addLock 33 = .ok (.iload 4, 2) := by decide +kernel
theorem dX6_addLock_35 : decode cX6_addLock 35 = .ok (.iconst 0, 1) := by decide +kernel
theorem dX6_addLock_36 : decode cX6_addLock 36 = .ok (.iconst 5, 1) := by decide +kernel
theorem dX6_addLock_37 : decode cX6_addLock 37 = .ok (.invokestatic 90, 3) := by decide +kernel
theorem dX6_addLock_40 : decode cX6_addLock 40 = .ok (.ifCond .eq 14, 3) := by decide +kernel
theorem dX6_addLock_43 : decode cX6_addLock 43 = .ok (.iload 5, 2) := by decide +kernel
theorem dX6_addLock_45 : decode cX6_addLock 45 = .ok (.iconst 1, 1) := by decide +kernel
theorem dX6_addLock_46 : decode cX6_addLock 46 = .ok (.bipush 60, 2) := by decide +kernel
theorem dX6_addLock_48 : decode cX6_addLock 48 = .ok (.invokestatic 90, 3) := by decide +kernel
theorem dX6_addLock_51 : decode cX6_addLock 51 = .ok (.ifCond .ne 6, 3) := by decide +kernel
theorem dX6_addLock_54 : decode cX6_addLock 54 = .ok (.bipush (-2), 2) := by decide +kernel
theorem dX6_addLock_56 : decode cX6_addLock 56 = .ok (.ireturn, 1) := by decide +kernel
theorem dX6_addLock_57 : decode cX6_addLock 57 = .ok (.aload_n 0, 1) := by decide +kernel
theorem dX6_addLock_58 : decode cX6_addLock 58 = .ok (.getfield 94, 3) := by decide +kernel
theorem dX6_addLock_61 : decode cX6_addLock 61 = .ok (.bipush 16, 2) := by decide +kernel
theorem dX6_addLock_63 : decode cX6_addLock 63 = .ok (.if_icmp .eq 12, 3) := by decide +kernel
theorem dX6_addLock_66 : decode cX6_addLock 66 = .ok (.aload_n 0, 1) := by decide +kernel
theorem dX6_addLock_67 : decode cX6_addLock 67 = .ok (.invokevirtual 111, 3) := by decide +kernel
theorem dX6_addLock_70 : decode cX6_addLock 70 = .ok (.bipush 10, 2) := by decide +kernel
theorem dX6_addLock_72 : decode cX6_addLock 72 = .ok (.if_icmp .ne 8, 3) := by decide +kernel
theorem dX6_addLock_75 : decode cX6_addLock 75 = .ok (.bipush (-3), 2) := by decide +kernel
theorem dX6_addLock_77 : decode cX6_addLock 77 = .ok (.goto 14, 3) := by decide +kernel
theorem dX6_addLock_80 : decode cX6_addLock 80 = .ok (.aload_n 0, 1) := by decide +kernel
theorem dX6_addLock_81 : decode cX6_addLock 81 = .ok (.iload_n 1, 1) := by decide +kernel
theorem dX6_addLock_82 : decode cX6_addLock 82 = .ok (.iload_n 2, 1) := by decide +kernel
theorem dX6_addLock_83 : decode cX6_addLock 83 = .ok (.iload_n 3, 1) := by decide +kernel
theorem dX6_addLock_84 : decode cX6_addLock 84 = .ok (.iload 4, 2) := by decide +kernel
theorem dX6_addLock_86 : decode cX6_addLock 86 = .ok (.iload 5, 2) := by decide +kernel
theorem dX6_addLock_88 : decode cX6_addLock 88 = .ok (.invokevirtual 107, 3) := by decide +kernel
theorem dX6_addLock_91 : decode cX6_addLock 91 = .ok (.ireturn, 1) := by decide +kernel
theorem dX6_addKey_0 : decode cX6_addKey 0 = .ok (.aload_n 0, 1) := by decide +kernel
theorem dX6_addKey_1 : decode cX6_addKey 1 = .ok (.iload_n 1, 1) := by decide +kernel
theorem dX6_addKey_2 : decode cX6_addKey 2 = .ok (.invokevirtual 103, 3) := by decide +kernel
theorem dX6_addKey_5 : decode cX6_addKey 5 = .ok (.ifCond .eq 5, 3) := by decide +kernel
theorem dX6_addKey_8 : decode cX6_addKey 8 = .ok (.iconst (-1), 1) := by decide +kernel
theorem dX6_addKey_9 : decode cX6_addKey 9 = .ok (.ireturn, 1) := by decide +kernel
theorem dX6_addKey_10 : decode cX6_addKey 10 = .ok (.iload_n 2, 1) := by decide +kernel
theorem dX6_addKey_11 : decode cX6_addKey 11 = .ok (.iconst 0, 1) := by decide +kernel
theorem dX6_addKey_12 : decode cX6_addKey 12 = .ok (.iconst 5, 1) := by decide +kernel
theorem dX6_addKey_13 : decode cX6_addKey 13 = .ok (.invokestatic 90, 3) := by decide +kernel
theorem dX6_addKey_16 : decode cX6_addKey 16 = .ok (.ifCond .ne 6, 3) := by decide +kernel
theorem dX6_addKey_19 : decode cX6_addKey 19 = .ok (.bipush (-2), 2) := by decide +kernel
theorem dX6_addKey_21 : decode cX6_addKey 21 = .ok (.ireturn, 1) := by decide +kernel
theorem dX6_addKey_22 : decode cX6_addKey 22 = .ok (.aload_n 0, 1) := by decide +kernel
theorem dX6_addKey_23 : decode cX6_addKey 23 = .ok (.getfield 97, 3) := by decide +kernel
theorem dX6_addKey_26 : decode cX6_addKey 26 = .ok (.bipush 16, 2) := by decide +kernel
theorem dX6_addKey_28 : decode cX6_addKey 28 = .ok (.if_icmp .ne 6, 3) := by decide +kernel
theorem dX6_addKey_31 : decode cX6_addKey 31 = .ok (.bipush (-3), 2) := by decide +kernel
theorem dX6_addKey_33 : decode cX6_addKey 33 = .ok (.ireturn, 1) := by decide +kernel
theorem dX6_addKey_34 : decode cX6_addKey 34 = .ok (.aload_n 0, 1) := by decide +kernel
theorem dX6_addKey_35 : decode cX6_addKey 35 = .ok (.getfield 32, 3) := by decide +kernel
theorem dX6_addKey_38 : decode cX6_addKey 38 = .ok (.aload_n 0, 1) := by decide +kernel
theorem dX6_addKey_39 : decode cX6_addKey 39 = .ok (.getfield 97, 3) := by decide +kernel
theorem dX6_addKey_42 : decode cX6_addKey 42 = .ok (.iload_n 2, 1) := by decide +kernel
theorem dX6_addKey_43 : decode cX6_addKey 43 = .ok (.iastore, 1) := by decide +kernel
theorem dX6_addKey_44 : decode cX6_addKey 44 = .ok (.aload_n 0, 1) := by decide +kernel
theorem dX6_addKey_45 : decode cX6_addKey 45 = .ok (.getfield 35, 3) := by decide +kernel
theorem dX6_addKey_48 : decode cX6_addKey 48 = .ok (.aload_n 0, 1) := by decide +kernel
theorem dX6_addKey_49 : decode cX6_addKey 49 = .ok (.getfield 97, 3) := by decide +kernel
theorem dX6_addKey_52 : decode cX6_addKey 52 = .ok (.iconst 0, 1) := by decide +kernel
theorem dX6_addKey_53 : decode cX6_addKey 53 = .ok (.iastore, 1) := by decide +kernel
theorem dX6_addKey_54 : decode cX6_addKey 54 = .ok (.aload_n 0, 1) := by decide +kernel
theorem dX6_addKey_55 : decode cX6_addKey 55 = .ok (.getfield 38, 3) := by decide +kernel
theorem dX6_addKey_58 : decode cX6_addKey 58 = .ok (.aload_n 0, 1) := by decide +kernel
theorem dX6_addKey_59 : decode cX6_addKey 59 = .ok (.getfield 97, 3) := by decide +kernel
theorem dX6_addKey_62 : decode cX6_addKey 62 = .ok (.iload_n 1, 1) := by decide +kernel
theorem dX6_addKey_63 : decode cX6_addKey 63 = .ok (.iastore, 1) := by decide +kernel
theorem dX6_addKey_64 : decode cX6_addKey 64 = .ok (.aload_n 0, 1) := by decide +kernel
theorem dX6_addKey_65 : decode cX6_addKey 65 = .ok (.getfield 41, 3) := by decide +kernel
theorem dX6_addKey_68 : decode cX6_addKey 68 = .ok (.aload_n 0, 1) := by decide +kernel
theorem dX6_addKey_69 : decode cX6_addKey 69 = .ok (.getfield 97, 3) := by decide +kernel
theorem dX6_addKey_72 : decode cX6_addKey 72 = .ok (.iconst 0, 1) := by decide +kernel
theorem dX6_addKey_73 : decode cX6_addKey 73 = .ok (.iastore, 1) := by decide +kernel
theorem dX6_addKey_74 : decode cX6_addKey 74 = .ok (.aload_n 0, 1) := by decide +kernel
theorem dX6_addKey_75 : decode cX6_addKey 75 = .ok (.dup, 1) := by decide +kernel
theorem dX6_addKey_76 : decode cX6_addKey 76 = .ok (.getfield 97, 3) := by decide +kernel
theorem dX6_addKey_79 : decode cX6_addKey 79 = .ok (.iconst 1, 1) := by decide +kernel
theorem dX6_addKey_80 : decode cX6_addKey 80 = .ok (.iadd, 1) := by decide +kernel
theorem dX6_addKey_81 : decode cX6_addKey 81 = .ok (.putfield 97, 3) := by decide +kernel
theorem dX6_addKey_84 : decode cX6_addKey 84 = .ok (.aload_n 0, 1) := by decide +kernel
theorem dX6_addKey_85 : decode cX6_addKey 85 = .ok (.getfield 97, 3) := by decide +kernel
theorem dX6_addKey_88 : decode cX6_addKey 88 = .ok (.iconst 1, 1) := by decide +kernel
theorem dX6_addKey_89 : decode cX6_addKey 89 = .ok (.isub, 1) := by decide +kernel
theorem dX6_addKey_90 : decode cX6_addKey 90 = .ok (.ireturn, 1) := by decide +kernel
theorem dX6_players_0 : decode cX6_players 0 = .ok (.iconst 0, 1) := by decide +kernel
theorem dX6_players_1 : decode cX6_players 1 = .ok (.istore_n 1, 1) := by decide +kernel
theorem dX6_players_2 : decode cX6_players 2 = .ok (.iconst 0, 1) := by decide +kernel
theorem dX6_players_3 : decode cX6_players 3 = .ok (.istore_n 2, 1) := by decide +kernel
theorem dX6_players_4 : decode cX6_players 4 = .ok (.iload_n 2, 1) := by decide +kernel
theorem dX6_players_5 : decode cX6_players 5 = .ok (.aload_n 0, 1) := by decide +kernel
theorem dX6_players_6 : decode cX6_players 6 = .ok (.getfield 100, 3) := by decide +kernel
theorem dX6_players_9 : decode cX6_players 9 = .ok (.if_icmp .ge 18, 3) := by decide +kernel
theorem dX6_players_12 : decode cX6_players 12 = .ok (.iload_n 1, 1) := by decide +kernel
theorem dX6_players_13 : decode cX6_players 13 = .ok (.aload_n 0, 1) := by decide +kernel
theorem dX6_players_14 : decode cX6_players 14 = .ok (.getfield 44, 3) := by decide +kernel
theorem dX6_players_17 : decode cX6_players 17 = .ok (.iload_n 2, 1) := by decide +kernel
theorem dX6_players_18 : decode cX6_players 18 = .ok (.iaload, 1) := by decide +kernel
theorem dX6_players_19 : decode cX6_players 19 = .ok (.iadd, 1) := by decide +kernel
theorem dX6_players_20 : decode cX6_players 20 = .ok (.istore_n 1, 1) := by decide +kernel
theorem dX6_players_21 : decode cX6_players 21 = .ok (.iinc 2 1, 3) := by decide +kernel
theorem dX6_players_24 : decode cX6_players 24 = .ok (.goto (-20), 3) := by decide +kernel
theorem dX6_players_27 : decode cX6_players 27 = .ok (.iload_n 1, 1) := by decide +kernel
theorem dX6_players_28 : decode cX6_players 28 = .ok (.ireturn, 1) := by decide +kernel
theorem dX6_putGroup_0 : decode cX6_putGroup 0 = .ok (.aload_n 0, 1) := by decide +kernel
theorem dX6_putGroup_1 : decode cX6_putGroup 1 = .ok (.getfield 44, 3) := by decide +kernel
theorem dX6_putGroup_4 : decode cX6_putGroup 4 = .ok (.aload_n 0, 1) := by decide +kernel
theorem dX6_putGroup_5 : decode cX6_putGroup 5 = .ok (.getfield 100, 3) := by decide +kernel
theorem dX6_putGroup_8 : decode cX6_putGroup 8 = .ok (.iload_n 1, 1) := by decide +kernel
theorem dX6_putGroup_9 : decode cX6_putGroup 9 = .ok (.iastore, 1) := by decide +kernel
theorem dX6_putGroup_10 : decode cX6_putGroup 10 = .ok (.aload_n 0, 1) := by decide +kernel
theorem dX6_putGroup_11 : decode cX6_putGroup 11 = .ok (.getfield 47, 3) := by decide +kernel
theorem dX6_putGroup_14 : decode cX6_putGroup 14 = .ok (.aload_n 0, 1) := by decide +kernel
theorem dX6_putGroup_15 : decode cX6_putGroup 15 = .ok (.getfield 100, 3) := by decide +kernel
theorem dX6_putGroup_18 : decode cX6_putGroup 18 = .ok (.iload_n 2, 1) := by decide +kernel
theorem dX6_putGroup_19 : decode cX6_putGroup 19 = .ok (.iastore, 1) := by decide +kernel
theorem dX6_putGroup_20 : decode cX6_putGroup 20 = .ok (.aload_n 0, 1) := by decide +kernel
theorem dX6_putGroup_21 : decode cX6_putGroup 21 = .ok (.getfield 50, 3) := by decide +kernel
theorem dX6_putGroup_24 : decode cX6_putGroup 24 = .ok (.aload_n 0, 1) := by decide +kernel
theorem dX6_putGroup_25 : decode cX6_putGroup 25 = .ok (.getfield 100, 3) := by decide +kernel
theorem dX6_putGroup_28 : decode cX6_putGroup 28 = .ok (.iload_n 3, 1) := by decide +kernel
theorem dX6_putGroup_29 : decode cX6_putGroup 29 = .ok (.iastore, 1) := by decide +kernel
theorem dX6_putGroup_30 : decode cX6_putGroup 30 = .ok (.aload_n 0, 1) := by decide +kernel
theorem dX6_putGroup_31 : decode cX6_putGroup 31 = .ok (.getfield 53, 3) := by decide +kernel
theorem dX6_putGroup_34 : decode cX6_putGroup 34 = .ok (.aload_n 0, 1) := by decide +kernel
theorem dX6_putGroup_35 : decode cX6_putGroup 35 = .ok (.getfield 100, 3) := by decide +kernel
theorem dX6_putGroup_38 : decode cX6_putGroup 38 = .ok (.iconst 0, 1) := by decide +kernel
theorem dX6_putGroup_39 : decode cX6_putGroup 39 = .ok (.iastore, 1) := by decide +kernel
theorem dX6_putGroup_40 : decode cX6_putGroup 40 = .ok (.aload_n 0, 1) := by decide +kernel
theorem dX6_putGroup_41 : decode cX6_putGroup 41 = .ok (.getfield 56, 3) := by decide +kernel
theorem dX6_putGroup_44 : decode cX6_putGroup 44 = .ok (.aload_n 0, 1) := by decide +kernel
theorem dX6_putGroup_45 : decode cX6_putGroup 45 = .ok (.getfield 100, 3) := by decide +kernel
theorem dX6_putGroup_48 : decode cX6_putGroup 48 = .ok (.iconst 0, 1) := by decide +kernel
theorem dX6_putGroup_49 : decode cX6_putGroup 49 = .ok (.iastore, 1) := by decide +kernel
theorem dX6_putGroup_50 : decode cX6_putGroup 50 = .ok (.aload_n 0, 1) := by decide +kernel
theorem dX6_putGroup_51 : decode cX6_putGroup 51 = .ok (.dup, 1) := by decide +kernel
theorem dX6_putGroup_52 : decode cX6_putGroup 52 = .ok (.getfield 100, 3) := by decide +kernel
theorem dX6_putGroup_55 : decode cX6_putGroup 55 = .ok (.iconst 1, 1) := by decide +kernel
theorem dX6_putGroup_56 : decode cX6_putGroup 56 = .ok (.iadd, 1) := by decide +kernel
theorem dX6_putGroup_57 : decode cX6_putGroup 57 = .ok (.putfield 100, 3) := by decide +kernel
theorem dX6_putGroup_60 : decode cX6_putGroup 60 = .ok (.aload_n 0, 1) := by decide +kernel
theorem dX6_putGroup_61 : decode cX6_putGroup 61 = .ok (.getfield 100, 3) := by decide +kernel
theorem dX6_putGroup_64 : decode cX6_putGroup 64 = .ok (.iconst 1, 1) := by decide +kernel
theorem dX6_putGroup_65 : decode cX6_putGroup 65 = .ok (.isub, 1) := by decide +kernel
theorem dX6_putGroup_66 : decode cX6_putGroup 66 = .ok (.ireturn, 1) := by decide +kernel
theorem dX6_addGroup_0 : decode cX6_addGroup 0 = .ok (.aload_n 0, 1) := by decide +kernel
theorem dX6_addGroup_1 : decode cX6_addGroup 1 = .ok (.iload_n 2, 1) := by decide +kernel
theorem dX6_addGroup_2 : decode cX6_addGroup 2 = .ok (.invokevirtual 103, 3) := by decide +kernel
theorem dX6_addGroup_5 : decode cX6_addGroup 5 = .ok (.ifCond .eq 5, 3) := by decide +kernel
theorem dX6_addGroup_8 : decode cX6_addGroup 8 = .ok (.iconst (-1), 1) := by decide +kernel
theorem dX6_addGroup_9 : decode cX6_addGroup 9 = .ok (.ireturn, 1) := by decide +kernel
theorem dX6_addGroup_10 : decode cX6_addGroup 10 = .ok (.iload_n 1, 1) := by decide +kernel
theorem dX6_addGroup_11 : decode cX6_addGroup 11 = .ok (.iconst 1, 1) := by decide +kernel
theorem dX6_addGroup_12 : decode cX6_addGroup 12 = .ok (.bipush 24, 2) := by decide +kernel
theorem dX6_addGroup_14 : decode cX6_addGroup 14 = .ok (.invokestatic 90, 3) := by decide +kernel
theorem dX6_addGroup_17 : decode cX6_addGroup 17 = .ok (.ifCond .ne 6, 3) := by decide +kernel
theorem dX6_addGroup_20 : decode cX6_addGroup 20 = .ok (.bipush (-2), 2) := by decide +kernel
theorem dX6_addGroup_22 : decode cX6_addGroup 22 = .ok (.ireturn, 1) := by decide +kernel
theorem dX6_addGroup_23 : decode cX6_addGroup 23 = .ok (.aload_n 0, 1) := by decide +kernel
theorem dX6_addGroup_24 : decode cX6_addGroup 24 = .ok (.getfield 100, 3) := by decide +kernel
theorem dX6_addGroup_27 : decode cX6_addGroup 27 = .ok (.bipush 6, 2) := by decide +kernel
theorem dX6_addGroup_29 : decode cX6_addGroup 29 = .ok (.if_icmp .eq 14, 3) := by decide +kernel
theorem dX6_addGroup_32 : decode cX6_addGroup 32 = .ok (.aload_n 0, 1) := by decide +kernel
theorem dX6_addGroup_33 : decode cX6_addGroup 33 = .ok (.invokevirtual 115, 3) := by decide +kernel
theorem dX6_addGroup_36 : decode cX6_addGroup 36 = .ok (.iload_n 1, 1) := by decide +kernel
theorem dX6_addGroup_37 : decode cX6_addGroup 37 = .ok (.iadd, 1) := by decide +kernel
theorem dX6_addGroup_38 : decode cX6_addGroup 38 = .ok (.bipush 24, 2) := by decide +kernel
theorem dX6_addGroup_40 : decode cX6_addGroup 40 = .ok (.if_icmp .le 8, 3) := by decide +kernel
theorem dX6_addGroup_43 : decode cX6_addGroup 43 = .ok (.bipush (-3), 2) := by decide +kernel
theorem dX6_addGroup_45 : decode cX6_addGroup 45 = .ok (.goto 10, 3) := by decide +kernel
theorem dX6_addGroup_48 : decode cX6_addGroup 48 = .ok (.aload_n 0, 1) := by decide +kernel
theorem dX6_addGroup_49 : decode cX6_addGroup 49 = .ok (.iload_n 1, 1) := by decide +kernel
theorem dX6_addGroup_50 : decode cX6_addGroup 50 = .ok (.iload_n 2, 1) := by decide +kernel
theorem dX6_addGroup_51 : decode cX6_addGroup 51 = .ok (.iconst 0, 1) := by decide +kernel
theorem dX6_addGroup_52 : decode cX6_addGroup 52 = .ok (.invokevirtual 118, 3) := by decide +kernel
theorem dX6_addGroup_55 : decode cX6_addGroup 55 = .ok (.ireturn, 1) := by decide +kernel
theorem dX6_setHints_0 : decode cX6_setHints 0 = .ok (.iload_n 1, 1) := by decide +kernel
theorem dX6_setHints_1 : decode cX6_setHints 1 = .ok (.iconst 1, 1) := by decide +kernel
theorem dX6_setHints_2 : decode cX6_setHints 2 = .ok (.bipush 30, 2) := by decide +kernel
theorem dX6_setHints_4 : decode cX6_setHints 4 = .ok (.invokestatic 90, 3) := by decide +kernel
theorem dX6_setHints_7 : decode cX6_setHints 7 = .ok (.ifCond .eq 13, 3) := by decide +kernel
theorem dX6_setHints_10 : decode cX6_setHints 10 = .ok (.iload_n 2, 1) := by decide +kernel
theorem dX6_setHints_11 : decode cX6_setHints 11 = .ok (.iconst 0, 1) := by decide +kernel
theorem dX6_setHints_12 : decode cX6_setHints 12 = .ok (.bipush 30, 2) := by decide +kernel
theorem dX6_setHints_14 : decode cX6_setHints 14 = .ok (.invokestatic 90, 3) := by decide +kernel
theorem dX6_setHints_17 : decode cX6_setHints 17 = .ok (.ifCond .ne 6, 3) := by decide +kernel
theorem dX6_setHints_20 : decode cX6_setHints 20 = .ok (.bipush (-2), 2) := by decide +kernel
theorem dX6_setHints_22 : decode cX6_setHints 22 = .ok (.ireturn, 1) := by decide +kernel
theorem dX6_setHints_23 : decode cX6_setHints 23 = .ok (.aload_n 0, 1) := by decide +kernel
theorem dX6_setHints_24 : decode cX6_setHints 24 = .ok (.getfield 59, 3) := by decide +kernel
theorem dX6_setHints_27 : decode cX6_setHints 27 = .ok (.istore_n 3, 1) := by decide +kernel
theorem dX6_setHints_28 : decode cX6_setHints 28 = .ok (.aload_n 0, 1) := by decide +kernel
theorem dX6_setHints_29 : decode cX6_setHints 29 = .ok (.iload_n 1, 1) := by decide +kernel
theorem dX6_setHints_30 : decode cX6_setHints 30 = .ok (.putfield 59, 3) := by decide +kernel
theorem dX6_setHints_33 : decode cX6_setHints 33 = .ok (.aload_n 0, 1) := by decide +kernel
theorem dX6_setHints_34 : decode cX6_setHints 34 = .ok (.iload_n 2, 1) := by decide +kernel
theorem dX6_setHints_35 : decode cX6_setHints 35 = .ok (.putfield 62, 3) := by decide +kernel
theorem dX6_setHints_38 : decode cX6_setHints 38 = .ok (.iload_n 3, 1) := by decide +kernel
theorem dX6_setHints_39 : decode cX6_setHints 39 = .ok (.ireturn, 1) := by decide +kernel
theorem dX6_plays_0 : decode cX6_plays 0 = .ok (.aload_n 0, 1) := by decide +kernel
theorem dX6_plays_1 : decode cX6_plays 1 = .ok (.getfield 56, 3) := by decide +kernel
theorem dX6_plays_4 : decode cX6_plays 4 = .ok (.iload_n 1, 1) := by decide +kernel
theorem dX6_plays_5 : decode cX6_plays 5 = .ok (.iaload, 1) := by decide +kernel
theorem dX6_plays_6 : decode cX6_plays 6 = .ok (.ifCond .ne 7, 3) := by decide +kernel
theorem dX6_plays_9 : decode cX6_plays 9 = .ok (.iconst 1, 1) := by decide +kernel
theorem dX6_plays_10 : decode cX6_plays 10 = .ok (.goto 4, 3) := by decide +kernel
theorem dX6_plays_13 : decode cX6_plays 13 = .ok (.iconst 0, 1) := by decide +kernel
theorem dX6_plays_14 : decode cX6_plays 14 = .ok (.ireturn, 1) := by decide +kernel
theorem dX6_isAt_0 : decode cX6_isAt 0 = .ok (.aload_n 0, 1) := by decide +kernel
theorem dX6_isAt_1 : decode cX6_isAt 1 = .ok (.getfield 13, 3) := by decide +kernel
theorem dX6_isAt_4 : decode cX6_isAt 4 = .ok (.iload_n 1, 1) := by decide +kernel
theorem dX6_isAt_5 : decode cX6_isAt 5 = .ok (.iaload, 1) := by decide +kernel
theorem dX6_isAt_6 : decode cX6_isAt 6 = .ok (.iload_n 2, 1) := by decide +kernel
theorem dX6_isAt_7 : decode cX6_isAt 7 = .ok (.if_icmp .eq 13, 3) := by decide +kernel
theorem dX6_isAt_10 : decode cX6_isAt 10 = .ok (.aload_n 0, 1) := by decide +kernel
theorem dX6_isAt_11 : decode cX6_isAt 11 = .ok (.getfield 17, 3) := by decide +kernel
theorem dX6_isAt_14 : decode cX6_isAt 14 = .ok (.iload_n 1, 1) := by decide +kernel
theorem dX6_isAt_15 : decode cX6_isAt 15 = .ok (.iaload, 1) := by decide +kernel
theorem dX6_isAt_16 : decode cX6_isAt 16 = .ok (.iload_n 2, 1) := by decide +kernel
theorem dX6_isAt_17 : decode cX6_isAt 17 = .ok (.if_icmp .ne 7, 3) := by decide +kernel
theorem dX6_isAt_20 : decode cX6_isAt 20 = .ok (.iconst 1, 1) := by decide +kernel
theorem dX6_isAt_21 : decode cX6_isAt 21 = .ok (.goto 4, 3) := by decide +kernel
theorem dX6_isAt_24 : decode cX6_isAt 24 = .ok (.iconst 0, 1) := by decide +kernel
theorem dX6_isAt_25 : decode cX6_isAt 25 = .ok (.ireturn, 1) := by decide +kernel
theorem dX6_walk_0 : decode cX6_walk 0 = .ok (.aload_n 0, 1) := by decide +kernel
theorem dX6_walk_1 : decode cX6_walk 1 = .ok (.iload_n 1, 1) := by decide +kernel
theorem dX6_walk_2 : decode cX6_walk 2 = .ok (.invokevirtual 122, 3) := by decide +kernel
theorem dX6_walk_5 : decode cX6_walk 5 = .ok (.ifCond .ne 11, 3) := by decide +kernel
theorem dX6_walk_8 : decode cX6_walk 8 = .ok (.aload_n 0, 1) := by decide +kernel
theorem dX6_walk_9 : decode cX6_walk 9 = .ok (.iload_n 2, 1) := by decide +kernel
theorem dX6_walk_10 : decode cX6_walk 10 = .ok (.invokevirtual 125, 3) := by decide +kernel
theorem dX6_walk_13 : decode cX6_walk 13 = .ok (.ifCond .eq 5, 3) := by decide +kernel
theorem dX6_walk_16 : decode cX6_walk 16 = .ok (.iconst (-1), 1) := by decide +kernel
theorem dX6_walk_17 : decode cX6_walk 17 = .ok (.ireturn, 1) := by decide +kernel
theorem dX6_walk_18 : decode cX6_walk 18 = .ok (.aload_n 0, 1) := by decide +kernel
theorem dX6_walk_19 : decode cX6_walk 19 = .ok (.iload_n 1, 1) := by decide +kernel
theorem dX6_walk_20 : decode cX6_walk 20 = .ok (.invokevirtual 128, 3) := by decide +kernel
theorem dX6_walk_23 : decode cX6_walk 23 = .ok (.ifCond .eq 26, 3) := by decide +kernel
theorem dX6_walk_26 : decode cX6_walk 26 = .ok (.aload_n 0, 1) := by decide +kernel
theorem dX6_walk_27 : decode cX6_walk 27 = .ok (.iload_n 2, 1) := by decide +kernel
theorem dX6_walk_28 : decode cX6_walk 28 = .ok (.aload_n 0, 1) := by decide +kernel
theorem dX6_walk_29 : decode cX6_walk 29 = .ok (.getfield 47, 3) := by decide +kernel
theorem dX6_walk_32 : decode cX6_walk 32 = .ok (.iload_n 1, 1) := by decide +kernel
theorem dX6_walk_33 : decode cX6_walk 33 = .ok (.iaload, 1) := by decide +kernel
theorem dX6_walk_34 : decode cX6_walk 34 = .ok (.invokevirtual 131, 3) := by decide +kernel
theorem dX6_walk_37 : decode cX6_walk 37 = .ok (.ifCond .eq 12, 3) := by decide +kernel
theorem dX6_walk_40 : decode cX6_walk 40 = .ok (.aload_n 0, 1) := by decide +kernel
theorem dX6_walk_41 : decode cX6_walk 41 = .ok (.getfield 29, 3) := by decide +kernel
theorem dX6_walk_44 : decode cX6_walk 44 = .ok (.iload_n 2, 1) := by decide +kernel
theorem dX6_walk_45 : decode cX6_walk 45 = .ok (.iaload, 1) := by decide +kernel
theorem dX6_walk_46 : decode cX6_walk 46 = .ok (.ifCond .ge 6, 3) := by decide +kernel
theorem dX6_walk_49 : decode cX6_walk 49 = .ok (.bipush (-4), 2) := by decide +kernel
theorem dX6_walk_51 : decode cX6_walk 51 = .ok (.ireturn, 1) := by decide +kernel
theorem dX6_walk_52 : decode cX6_walk 52 = .ok (.aload_n 0, 1) := by decide +kernel
theorem dX6_walk_53 : decode cX6_walk 53 = .ok (.getfield 50, 3) := by decide +kernel
theorem dX6_walk_56 : decode cX6_walk 56 = .ok (.iload_n 1, 1) := by decide +kernel
theorem dX6_walk_57 : decode cX6_walk 57 = .ok (.iaload, 1) := by decide +kernel
theorem dX6_walk_58 : decode cX6_walk 58 = .ok (.aload_n 0, 1) := by decide +kernel
theorem dX6_walk_59 : decode cX6_walk 59 = .ok (.getfield 29, 3) := by decide +kernel
theorem dX6_walk_62 : decode cX6_walk 62 = .ok (.iload_n 2, 1) := by decide +kernel
theorem dX6_walk_63 : decode cX6_walk 63 = .ok (.iaload, 1) := by decide +kernel
theorem dX6_walk_64 : decode cX6_walk 64 = .ok (.if_icmp .ge 12, 3) := by decide +kernel
theorem dX6_walk_67 : decode cX6_walk 67 = .ok (.aload_n 0, 1) := by decide +kernel
theorem dX6_walk_68 : decode cX6_walk 68 = .ok (.getfield 29, 3) := by decide +kernel
theorem dX6_walk_71 : decode cX6_walk 71 = .ok (.iload_n 2, 1) := by decide +kernel
theorem dX6_walk_72 : decode cX6_walk 72 = .ok (.iaload, 1) := by decide +kernel
theorem dX6_walk_73 : decode cX6_walk 73 = .ok (.goto 9, 3) := by decide +kernel
theorem dX6_walk_76 : decode cX6_walk 76 = .ok (.aload_n 0, 1) := by decide +kernel
theorem dX6_walk_77 : decode cX6_walk 77 = .ok (.getfield 50, 3) := by decide +kernel
theorem dX6_walk_80 : decode cX6_walk 80 = .ok (.iload_n 1, 1) := by decide +kernel
theorem dX6_walk_81 : decode cX6_walk 81 = .ok (.iaload, 1) := by decide +kernel
theorem dX6_walk_82 : decode cX6_walk 82 = .ok (.aload_n 0, 1) := by decide +kernel
theorem dX6_walk_83 : decode cX6_walk 83 = .ok (.getfield 20, 3) := by decide +kernel
theorem dX6_walk_86 : decode cX6_walk 86 = .ok (.iload_n 2, 1) := by decide +kernel
theorem dX6_walk_87 : decode cX6_walk 87 = .ok (.iaload, 1) := by decide +kernel
theorem dX6_walk_88 : decode cX6_walk 88 = .ok (.iadd, 1) := by decide +kernel
theorem dX6_walk_89 : decode cX6_walk 89 = .ok (.istore_n 3, 1) := by decide +kernel
theorem dX6_walk_90 : decode cX6_walk 90 = .ok (.iload_n 3, 1) := by decide +kernel
theorem dX6_walk_91 : decode cX6_walk 91 = .ok (.ldc 135, 2) := by decide +kernel
theorem dX6_walk_93 : decode cX6_walk 93 = .ok (.if_icmp .le 6, 3) := by decide +kernel
theorem dX6_walk_96 : decode cX6_walk 96 = .ok (.bipush (-5), 2) := by decide +kernel
theorem dX6_walk_98 : decode cX6_walk 98 = .ok (.ireturn, 1) := by decide +kernel
theorem dX6_walk_99 : decode cX6_walk 99 = .ok (.aload_n 0, 1) := by decide +kernel
theorem dX6_walk_100 : decode cX6_walk 100 = .ok (.getfield 50, 3) := by decide +kernel
theorem dX6_walk_103 : decode cX6_walk 103 = .ok (.iload_n 1, 1) := by decide +kernel
theorem dX6_walk_104 : decode cX6_walk 104 = .ok (.iload_n 3, 1) := by decide +kernel
theorem dX6_walk_105 : decode cX6_walk 105 = .ok (.iastore, 1) := by decide +kernel
theorem dX6_walk_106 : decode cX6_walk 106 = .ok (.aload_n 0, 1) := by decide +kernel
theorem dX6_walk_107 : decode cX6_walk 107 = .ok (.getfield 47, 3) := by decide +kernel
theorem dX6_walk_110 : decode cX6_walk 110 = .ok (.iload_n 1, 1) := by decide +kernel
theorem dX6_walk_111 : decode cX6_walk 111 = .ok (.aload_n 0, 1) := by decide +kernel
theorem dX6_walk_112 : decode cX6_walk 112 = .ok (.getfield 13, 3) := by decide +kernel
theorem dX6_walk_115 : decode cX6_walk 115 = .ok (.iload_n 2, 1) := by decide +kernel
theorem dX6_walk_116 : decode cX6_walk 116 = .ok (.iaload, 1) := by decide +kernel
theorem dX6_walk_117 : decode cX6_walk 117 = .ok (.aload_n 0, 1) := by decide +kernel
theorem dX6_walk_118 : decode cX6_walk 118 = .ok (.getfield 17, 3) := by decide +kernel
theorem dX6_walk_121 : decode cX6_walk 121 = .ok (.iload_n 2, 1) := by decide +kernel
theorem dX6_walk_122 : decode cX6_walk 122 = .ok (.iaload, 1) := by decide +kernel
theorem dX6_walk_123 : decode cX6_walk 123 = .ok (.iadd, 1) := by decide +kernel
theorem dX6_walk_124 : decode cX6_walk 124 = .ok (.aload_n 0, 1) := by decide +kernel
theorem dX6_walk_125 : decode cX6_walk 125 = .ok (.getfield 47, 3) := by decide +kernel
theorem dX6_walk_128 : decode cX6_walk 128 = .ok (.iload_n 1, 1) := by decide +kernel
theorem dX6_walk_129 : decode cX6_walk 129 = .ok (.iaload, 1) := by decide +kernel
theorem dX6_walk_130 : decode cX6_walk 130 = .ok (.isub, 1) := by decide +kernel
theorem dX6_walk_131 : decode cX6_walk 131 = .ok (.iastore, 1) := by decide +kernel
theorem dX6_walk_132 : decode cX6_walk 132 = .ok (.iload_n 3, 1) := by decide +kernel
theorem dX6_walk_133 : decode cX6_walk 133 = .ok (.ireturn, 1) := by decide +kernel
theorem dX6_holds_0 : decode cX6_holds 0 = .ok (.aload_n 0, 1) := by decide +kernel
theorem dX6_holds_1 : decode cX6_holds 1 = .ok (.getfield 35, 3) := by decide +kernel
theorem dX6_holds_4 : decode cX6_holds 4 = .ok (.iload_n 2, 1) := by decide +kernel
theorem dX6_holds_5 : decode cX6_holds 5 = .ok (.iaload, 1) := by decide +kernel
theorem dX6_holds_6 : decode cX6_holds 6 = .ok (.iconst 1, 1) := by decide +kernel
theorem dX6_holds_7 : decode cX6_holds 7 = .ok (.if_icmp .ne 17, 3) := by decide +kernel
theorem dX6_holds_10 : decode cX6_holds 10 = .ok (.aload_n 0, 1) := by decide +kernel
theorem dX6_holds_11 : decode cX6_holds 11 = .ok (.getfield 38, 3) := by decide +kernel
theorem dX6_holds_14 : decode cX6_holds 14 = .ok (.iload_n 2, 1) := by decide +kernel
theorem dX6_holds_15 : decode cX6_holds 15 = .ok (.iaload, 1) := by decide +kernel
theorem dX6_holds_16 : decode cX6_holds 16 = .ok (.iload_n 1, 1) := by decide +kernel
theorem dX6_holds_17 : decode cX6_holds 17 = .ok (.if_icmp .ne 7, 3) := by decide +kernel
theorem dX6_holds_20 : decode cX6_holds 20 = .ok (.iconst 1, 1) := by decide +kernel
theorem dX6_holds_21 : decode cX6_holds 21 = .ok (.goto 4, 3) := by decide +kernel
theorem dX6_holds_24 : decode cX6_holds 24 = .ok (.iconst 0, 1) := by decide +kernel
theorem dX6_holds_25 : decode cX6_holds 25 = .ok (.ireturn, 1) := by decide +kernel
theorem dX6_keyFor_0 : decode cX6_keyFor 0 = .ok (.iconst 0, 1) := by decide +kernel
theorem dX6_keyFor_1 : decode cX6_keyFor 1 = .ok (.istore_n 3, 1) := by decide +kernel
theorem dX6_keyFor_2 : decode cX6_keyFor 2 = .ok (.iload_n 3, 1) := by decide +kernel
theorem dX6_keyFor_3 : decode cX6_keyFor 3 = .ok (.aload_n 0, 1) := by decide +kernel
theorem dX6_keyFor_4 : decode cX6_keyFor 4 = .ok (.getfield 97, 3) := by decide +kernel
theorem dX6_keyFor_7 : decode cX6_keyFor 7 = .ok (.if_icmp .ge 30, 3) := by decide +kernel
theorem dX6_keyFor_10 : decode cX6_keyFor 10 = .ok (.aload_n 0, 1) := by decide +kernel
theorem dX6_keyFor_11 : decode cX6_keyFor 11 = .ok (.iload_n 1, 1) := by decide +kernel
theorem dX6_keyFor_12 : decode cX6_keyFor 12 = .ok (.iload_n 3, 1) := by decide +kernel
theorem dX6_keyFor_13 : decode cX6_keyFor 13 = .ok (.invokevirtual 136, 3) := by decide +kernel
theorem dX6_keyFor_16 : decode cX6_keyFor 16 = .ok (.ifCond .eq 15, 3) := by decide +kernel
theorem dX6_keyFor_19 : decode cX6_keyFor 19 = .ok (.aload_n 0, 1) := by decide +kernel
theorem dX6_keyFor_20 : decode cX6_keyFor 20 = .ok (.getfield 32, 3) := by decide +kernel
theorem dX6_keyFor_23 : decode cX6_keyFor 23 = .ok (.iload_n 3, 1) := by decide +kernel
theorem dX6_keyFor_24 : decode cX6_keyFor 24 = .ok (.iaload, 1) := by decide +kernel
theorem dX6_keyFor_25 : decode cX6_keyFor 25 = .ok (.iload_n 2, 1) := by decide +kernel
theorem dX6_keyFor_26 : decode cX6_keyFor 26 = .ok (.if_icmp .ne 5, 3) := by decide +kernel
theorem dX6_keyFor_29 : decode cX6_keyFor 29 = .ok (.iload_n 3, 1) := by decide +kernel
theorem dX6_keyFor_30 : decode cX6_keyFor 30 = .ok (.ireturn, 1) := by decide +kernel
theorem dX6_keyFor_31 : decode cX6_keyFor 31 = .ok (.iinc 3 1, 3) := by decide +kernel
theorem dX6_keyFor_34 : decode cX6_keyFor 34 = .ok (.goto (-32), 3) := by decide +kernel
theorem dX6_keyFor_37 : decode cX6_keyFor 37 = .ok (.bipush (-6), 2) := by decide +kernel
theorem dX6_keyFor_39 : decode cX6_keyFor 39 = .ok (.ireturn, 1) := by decide +kernel
theorem dX6_unlock_0 : decode cX6_unlock 0 = .ok (.aload_n 0, 1) := by decide +kernel
theorem dX6_unlock_1 : decode cX6_unlock 1 = .ok (.iload_n 1, 1) := by decide +kernel
theorem dX6_unlock_2 : decode cX6_unlock 2 = .ok (.invokevirtual 122, 3) := by decide +kernel
theorem dX6_unlock_5 : decode cX6_unlock 5 = .ok (.ifCond .ne 11, 3) := by decide +kernel
theorem dX6_unlock_8 : decode cX6_unlock 8 = .ok (.aload_n 0, 1) := by decide +kernel
theorem dX6_unlock_9 : decode cX6_unlock 9 = .ok (.iload_n 2, 1) := by decide +kernel
theorem dX6_unlock_10 : decode cX6_unlock 10 = .ok (.invokevirtual 125, 3) := by decide +kernel
theorem dX6_unlock_13 : decode cX6_unlock 13 = .ok (.ifCond .eq 5, 3) := by decide +kernel
theorem dX6_unlock_16 : decode cX6_unlock 16 = .ok (.iconst (-1), 1) := by decide +kernel
theorem dX6_unlock_17 : decode cX6_unlock 17 = .ok (.ireturn, 1) := by decide +kernel
theorem dX6_unlock_18 : decode cX6_unlock 18 = .ok (.aload_n 0, 1) := by decide +kernel
theorem dX6_unlock_19 : decode cX6_unlock 19 = .ok (.iload_n 1, 1) := by decide +kernel
theorem dX6_unlock_20 : decode cX6_unlock 20 = .ok (.invokevirtual 128, 3) := by decide +kernel
theorem dX6_unlock_23 : decode cX6_unlock 23 = .ok (.ifCond .eq 26, 3) := by decide +kernel
theorem dX6_unlock_26 : decode cX6_unlock 26 = .ok (.aload_n 0, 1) := by decide +kernel
theorem dX6_unlock_27 : decode cX6_unlock 27 = .ok (.iload_n 2, 1) := by decide +kernel
theorem dX6_unlock_28 : decode cX6_unlock 28 = .ok (.aload_n 0, 1) := by decide +kernel
theorem dX6_unlock_29 : decode cX6_unlock 29 = .ok (.getfield 47, 3) := by decide +kernel
theorem dX6_unlock_32 : decode cX6_unlock 32 = .ok (.iload_n 1, 1) := by decide +kernel
theorem dX6_unlock_33 : decode cX6_unlock 33 = .ok (.iaload, 1) := by decide +kernel
theorem dX6_unlock_34 : decode cX6_unlock 34 = .ok (.invokevirtual 131, 3) := by decide +kernel
theorem dX6_unlock_37 : decode cX6_unlock 37 = .ok (.ifCond .eq 12, 3) := by decide +kernel
theorem dX6_unlock_40 : decode cX6_unlock 40 = .ok (.aload_n 0, 1) := by decide +kernel
theorem dX6_unlock_41 : decode cX6_unlock 41 = .ok (.getfield 29, 3) := by decide +kernel
theorem dX6_unlock_44 : decode cX6_unlock 44 = .ok (.iload_n 2, 1) := by decide +kernel
theorem dX6_unlock_45 : decode cX6_unlock 45 = .ok (.iaload, 1) := by decide +kernel
theorem dX6_unlock_46 : decode cX6_unlock 46 = .ok (.ifCond .lt 6, 3) := by decide +kernel
theorem dX6_unlock_49 : decode cX6_unlock 49 = .ok (.bipush (-4), 2) := by decide +kernel
theorem dX6_unlock_51 : decode cX6_unlock 51 = .ok (.ireturn, 1) := by decide +kernel
theorem dX6_unlock_52 : decode cX6_unlock 52 = .ok (.aload_n 0, 1) := by decide +kernel
theorem dX6_unlock_53 : decode cX6_unlock 53 = .ok (.iload_n 1, 1) := by decide +kernel
theorem dX6_unlock_54 : decode cX6_unlock 54 = .ok (.aload_n 0, 1) := by decide +kernel
theorem dX6_unlock_55 : decode cX6_unlock 55 = .ok (.getfield 23, 3) := by decide +kernel
theorem dX6_unlock_58 : decode cX6_unlock 58 = .ok (.iload_n 2, 1) := by decide +kernel
theorem dX6_unlock_59 : decode cX6_unlock 59 = .ok (.iaload, 1) := by decide +kernel
theorem dX6_unlock_60 : decode cX6_unlock 60 = .ok (.invokevirtual 139, 3) := by decide +kernel
theorem dX6_unlock_63 : decode cX6_unlock 63 = .ok (.istore_n 3, 1) := by decide +kernel
theorem dX6_unlock_64 : decode cX6_unlock 64 = .ok (.iload_n 3, 1) := by decide +kernel
theorem dX6_unlock_65 : decode cX6_unlock 65 = .ok (.ifCond .ge 6, 3) := by decide +kernel
theorem dX6_unlock_68 : decode cX6_unlock 68 = .ok (.bipush (-4), 2) := by decide +kernel
theorem dX6_unlock_70 : decode cX6_unlock 70 = .ok (.ireturn, 1) := by decide +kernel
theorem dX6_unlock_71 : decode cX6_unlock 71 = .ok (.aload_n 0, 1) := by decide +kernel
theorem dX6_unlock_72 : decode cX6_unlock 72 = .ok (.getfield 50, 3) := by decide +kernel
theorem dX6_unlock_75 : decode cX6_unlock 75 = .ok (.iload_n 1, 1) := by decide +kernel
theorem dX6_unlock_76 : decode cX6_unlock 76 = .ok (.iaload, 1) := by decide +kernel
theorem dX6_unlock_77 : decode cX6_unlock 77 = .ok (.aload_n 0, 1) := by decide +kernel
theorem dX6_unlock_78 : decode cX6_unlock 78 = .ok (.getfield 26, 3) := by decide +kernel
theorem dX6_unlock_81 : decode cX6_unlock 81 = .ok (.iload_n 2, 1) := by decide +kernel
theorem dX6_unlock_82 : decode cX6_unlock 82 = .ok (.iaload, 1) := by decide +kernel
theorem dX6_unlock_83 : decode cX6_unlock 83 = .ok (.iadd, 1) := by decide +kernel
theorem dX6_unlock_84 : decode cX6_unlock 84 = .ok (.ldc 135, 2) := by decide +kernel
theorem dX6_unlock_86 : decode cX6_unlock 86 = .ok (.if_icmp .le 6, 3) := by decide +kernel
theorem dX6_unlock_89 : decode cX6_unlock 89 = .ok (.bipush (-5), 2) := by decide +kernel
theorem dX6_unlock_91 : decode cX6_unlock 91 = .ok (.ireturn, 1) := by decide +kernel
theorem dX6_unlock_92 : decode cX6_unlock 92 = .ok (.aload_n 0, 1) := by decide +kernel
theorem dX6_unlock_93 : decode cX6_unlock 93 = .ok (.getfield 50, 3) := by decide +kernel
theorem dX6_unlock_96 : decode cX6_unlock 96 = .ok (.iload_n 1, 1) := by decide +kernel
theorem dX6_unlock_97 : decode cX6_unlock 97 = .ok (.dup2, 1) := by decide +kernel
theorem dX6_unlock_98 : decode cX6_unlock 98 = .ok (.iaload, 1) := by decide +kernel
theorem dX6_unlock_99 : decode cX6_unlock 99 = .ok (.aload_n 0, 1) := by decide +kernel
theorem dX6_unlock_100 : decode cX6_unlock 100 = .ok (.getfield 26, 3) := by decide +kernel
theorem dX6_unlock_103 : decode cX6_unlock 103 = .ok (.iload_n 2, 1) := by decide +kernel
theorem dX6_unlock_104 : decode cX6_unlock 104 = .ok (.iaload, 1) := by decide +kernel
theorem dX6_unlock_105 : decode cX6_unlock 105 = .ok (.iadd, 1) := by decide +kernel
theorem dX6_unlock_106 : decode cX6_unlock 106 = .ok (.iastore, 1) := by decide +kernel
theorem dX6_unlock_107 : decode cX6_unlock 107 = .ok (.aload_n 0, 1) := by decide +kernel
theorem dX6_unlock_108 : decode cX6_unlock 108 = .ok (.getfield 29, 3) := by decide +kernel
theorem dX6_unlock_111 : decode cX6_unlock 111 = .ok (.iload_n 2, 1) := by decide +kernel
theorem dX6_unlock_112 : decode cX6_unlock 112 = .ok (.aload_n 0, 1) := by decide +kernel
theorem dX6_unlock_113 : decode cX6_unlock 113 = .ok (.getfield 50, 3) := by decide +kernel
theorem dX6_unlock_116 : decode cX6_unlock 116 = .ok (.iload_n 1, 1) := by decide +kernel
theorem dX6_unlock_117 : decode cX6_unlock 117 = .ok (.iaload, 1) := by decide +kernel
theorem dX6_unlock_118 : decode cX6_unlock 118 = .ok (.iastore, 1) := by decide +kernel
theorem dX6_unlock_119 : decode cX6_unlock 119 = .ok (.aload_n 0, 1) := by decide +kernel
theorem dX6_unlock_120 : decode cX6_unlock 120 = .ok (.getfield 35, 3) := by decide +kernel
theorem dX6_unlock_123 : decode cX6_unlock 123 = .ok (.iload_n 3, 1) := by decide +kernel
theorem dX6_unlock_124 : decode cX6_unlock 124 = .ok (.iconst 2, 1) := by decide +kernel
theorem dX6_unlock_125 : decode cX6_unlock 125 = .ok (.iastore, 1) := by decide +kernel
theorem dX6_unlock_126 : decode cX6_unlock 126 = .ok (.aload_n 0, 1) := by decide +kernel
theorem dX6_unlock_127 : decode cX6_unlock 127 = .ok (.getfield 38, 3) := by decide +kernel
theorem dX6_unlock_130 : decode cX6_unlock 130 = .ok (.iload_n 3, 1) := by decide +kernel
theorem dX6_unlock_131 : decode cX6_unlock 131 = .ok (.iload_n 2, 1) := by decide +kernel
theorem dX6_unlock_132 : decode cX6_unlock 132 = .ok (.iastore, 1) := by decide +kernel
theorem dX6_unlock_133 : decode cX6_unlock 133 = .ok (.iload_n 3, 1) := by decide +kernel
theorem dX6_unlock_134 : decode cX6_unlock 134 = .ok (.ireturn, 1) := by decide +kernel
theorem dX6_held_0 : decode cX6_held 0 = .ok (.iconst 0, 1) := by decide +kernel
theorem dX6_held_1 : decode cX6_held 1 = .ok (.istore_n 2, 1) := by decide +kernel
theorem dX6_held_2 : decode cX6_held 2 = .ok (.iconst 0, 1) := by decide +kernel
theorem dX6_held_3 : decode cX6_held 3 = .ok (.istore_n 3, 1) := by decide +kernel
theorem dX6_held_4 : decode cX6_held 4 = .ok (.iload_n 3, 1) := by decide +kernel
theorem dX6_held_5 : decode cX6_held 5 = .ok (.aload_n 0, 1) := by decide +kernel
theorem dX6_held_6 : decode cX6_held 6 = .ok (.getfield 97, 3) := by decide +kernel
theorem dX6_held_9 : decode cX6_held 9 = .ok (.if_icmp .ge 26, 3) := by decide +kernel
theorem dX6_held_12 : decode cX6_held 12 = .ok (.iload_n 2, 1) := by decide +kernel
theorem dX6_held_13 : decode cX6_held 13 = .ok (.aload_n 0, 1) := by decide +kernel
theorem dX6_held_14 : decode cX6_held 14 = .ok (.iload_n 1, 1) := by decide +kernel
theorem dX6_held_15 : decode cX6_held 15 = .ok (.iload_n 3, 1) := by decide +kernel
theorem dX6_held_16 : decode cX6_held 16 = .ok (.invokevirtual 136, 3) := by decide +kernel
theorem dX6_held_19 : decode cX6_held 19 = .ok (.ifCond .eq 7, 3) := by decide +kernel
theorem dX6_held_22 : decode cX6_held 22 = .ok (.iconst 1, 1) := by decide +kernel
theorem dX6_held_23 : decode cX6_held 23 = .ok (.goto 4, 3) := by decide +kernel
theorem dX6_held_26 : decode cX6_held 26 = .ok (.iconst 0, 1) := by decide +kernel
theorem dX6_held_27 : decode cX6_held 27 = .ok (.iadd, 1) := by decide +kernel
theorem dX6_held_28 : decode cX6_held 28 = .ok (.istore_n 2, 1) := by decide +kernel
theorem dX6_held_29 : decode cX6_held 29 = .ok (.iinc 3 1, 3) := by decide +kernel
theorem dX6_held_32 : decode cX6_held 32 = .ok (.goto (-28), 3) := by decide +kernel
theorem dX6_held_35 : decode cX6_held 35 = .ok (.iload_n 2, 1) := by decide +kernel
theorem dX6_held_36 : decode cX6_held 36 = .ok (.ireturn, 1) := by decide +kernel
theorem dX6_take_0 : decode cX6_take 0 = .ok (.aload_n 0, 1) := by decide +kernel
theorem dX6_take_1 : decode cX6_take 1 = .ok (.iload_n 1, 1) := by decide +kernel
theorem dX6_take_2 : decode cX6_take 2 = .ok (.invokevirtual 122, 3) := by decide +kernel
theorem dX6_take_5 : decode cX6_take 5 = .ok (.ifCond .ne 11, 3) := by decide +kernel
theorem dX6_take_8 : decode cX6_take 8 = .ok (.aload_n 0, 1) := by decide +kernel
theorem dX6_take_9 : decode cX6_take 9 = .ok (.iload_n 2, 1) := by decide +kernel
theorem dX6_take_10 : decode cX6_take 10 = .ok (.invokevirtual 143, 3) := by decide +kernel
theorem dX6_take_13 : decode cX6_take 13 = .ok (.ifCond .eq 5, 3) := by decide +kernel
theorem dX6_take_16 : decode cX6_take 16 = .ok (.iconst (-1), 1) := by decide +kernel
theorem dX6_take_17 : decode cX6_take 17 = .ok (.ireturn, 1) := by decide +kernel
theorem dX6_take_18 : decode cX6_take 18 = .ok (.aload_n 0, 1) := by decide +kernel
theorem dX6_take_19 : decode cX6_take 19 = .ok (.iload_n 1, 1) := by decide +kernel
theorem dX6_take_20 : decode cX6_take 20 = .ok (.invokevirtual 128, 3) := by decide +kernel
theorem dX6_take_23 : decode cX6_take 23 = .ok (.ifCond .eq 27, 3) := by decide +kernel
theorem dX6_take_26 : decode cX6_take 26 = .ok (.aload_n 0, 1) := by decide +kernel
theorem dX6_take_27 : decode cX6_take 27 = .ok (.getfield 35, 3) := by decide +kernel
theorem dX6_take_30 : decode cX6_take 30 = .ok (.iload_n 2, 1) := by decide +kernel
theorem dX6_take_31 : decode cX6_take 31 = .ok (.iaload, 1) := by decide +kernel
theorem dX6_take_32 : decode cX6_take 32 = .ok (.ifCond .ne 18, 3) := by decide +kernel
theorem dX6_take_35 : decode cX6_take 35 = .ok (.aload_n 0, 1) := by decide +kernel
theorem dX6_take_36 : decode cX6_take 36 = .ok (.getfield 38, 3) := by decide +kernel
theorem dX6_take_39 : decode cX6_take 39 = .ok (.iload_n 2, 1) := by decide +kernel
theorem dX6_take_40 : decode cX6_take 40 = .ok (.iaload, 1) := by decide +kernel
theorem dX6_take_41 : decode cX6_take 41 = .ok (.aload_n 0, 1) := by decide +kernel
theorem dX6_take_42 : decode cX6_take 42 = .ok (.getfield 47, 3) := by decide +kernel
theorem dX6_take_45 : decode cX6_take 45 = .ok (.iload_n 1, 1) := by decide +kernel
theorem dX6_take_46 : decode cX6_take 46 = .ok (.iaload, 1) := by decide +kernel
theorem dX6_take_47 : decode cX6_take 47 = .ok (.if_icmp .eq 6, 3) := by decide +kernel
theorem dX6_take_50 : decode cX6_take 50 = .ok (.bipush (-4), 2) := by decide +kernel
theorem dX6_take_52 : decode cX6_take 52 = .ok (.ireturn, 1) := by decide +kernel
theorem dX6_take_53 : decode cX6_take 53 = .ok (.aload_n 0, 1) := by decide +kernel
theorem dX6_take_54 : decode cX6_take 54 = .ok (.getfield 50, 3) := by decide +kernel
theorem dX6_take_57 : decode cX6_take 57 = .ok (.iload_n 1, 1) := by decide +kernel
theorem dX6_take_58 : decode cX6_take 58 = .ok (.aload_n 0, 1) := by decide +kernel
theorem dX6_take_59 : decode cX6_take 59 = .ok (.getfield 50, 3) := by decide +kernel
theorem dX6_take_62 : decode cX6_take 62 = .ok (.iload_n 1, 1) := by decide +kernel
theorem dX6_take_63 : decode cX6_take 63 = .ok (.iaload, 1) := by decide +kernel
theorem dX6_take_64 : decode cX6_take 64 = .ok (.aload_n 0, 1) := by decide +kernel
theorem dX6_take_65 : decode cX6_take 65 = .ok (.getfield 41, 3) := by decide +kernel
theorem dX6_take_68 : decode cX6_take 68 = .ok (.iload_n 2, 1) := by decide +kernel
theorem dX6_take_69 : decode cX6_take 69 = .ok (.iaload, 1) := by decide +kernel
theorem dX6_take_70 : decode cX6_take 70 = .ok (.if_icmp .ge 12, 3) := by decide +kernel
theorem dX6_take_73 : decode cX6_take 73 = .ok (.aload_n 0, 1) := by decide +kernel
theorem dX6_take_74 : decode cX6_take 74 = .ok (.getfield 41, 3) := by decide +kernel
theorem dX6_take_77 : decode cX6_take 77 = .ok (.iload_n 2, 1) := by decide +kernel
theorem dX6_take_78 : decode cX6_take 78 = .ok (.iaload, 1) := by decide +kernel
theorem dX6_take_79 : decode cX6_take 79 = .ok (.goto 9, 3) := by decide +kernel
theorem dX6_take_82 : decode cX6_take 82 = .ok (.aload_n 0, 1) := by decide +kernel
theorem dX6_take_83 : decode cX6_take 83 = .ok (.getfield 50, 3) := by decide +kernel
theorem dX6_take_86 : decode cX6_take 86 = .ok (.iload_n 1, 1) := by decide +kernel
theorem dX6_take_87 : decode cX6_take 87 = .ok (.iaload, 1) := by decide +kernel
theorem dX6_take_88 : decode cX6_take 88 = .ok (.iastore, 1) := by decide +kernel
theorem dX6_take_89 : decode cX6_take 89 = .ok (.aload_n 0, 1) := by decide +kernel
theorem dX6_take_90 : decode cX6_take 90 = .ok (.getfield 35, 3) := by decide +kernel
theorem dX6_take_93 : decode cX6_take 93 = .ok (.iload_n 2, 1) := by decide +kernel
theorem dX6_take_94 : decode cX6_take 94 = .ok (.iconst 1, 1) := by decide +kernel
theorem dX6_take_95 : decode cX6_take 95 = .ok (.iastore, 1) := by decide +kernel
theorem dX6_take_96 : decode cX6_take 96 = .ok (.aload_n 0, 1) := by decide +kernel
theorem dX6_take_97 : decode cX6_take 97 = .ok (.getfield 38, 3) := by decide +kernel
theorem dX6_take_100 : decode cX6_take 100 = .ok (.iload_n 2, 1) := by decide +kernel
theorem dX6_take_101 : decode cX6_take 101 = .ok (.iload_n 1, 1) := by decide +kernel
theorem dX6_take_102 : decode cX6_take 102 = .ok (.iastore, 1) := by decide +kernel
theorem dX6_take_103 : decode cX6_take 103 = .ok (.aload_n 0, 1) := by decide +kernel
theorem dX6_take_104 : decode cX6_take 104 = .ok (.iload_n 1, 1) := by decide +kernel
theorem dX6_take_105 : decode cX6_take 105 = .ok (.invokevirtual 146, 3) := by decide +kernel
theorem dX6_take_108 : decode cX6_take 108 = .ok (.ireturn, 1) := by decide +kernel
theorem dX6_drop_0 : decode cX6_drop 0 = .ok (.aload_n 0, 1) := by decide +kernel
theorem dX6_drop_1 : decode cX6_drop 1 = .ok (.iload_n 1, 1) := by decide +kernel
theorem dX6_drop_2 : decode cX6_drop 2 = .ok (.invokevirtual 122, 3) := by decide +kernel
theorem dX6_drop_5 : decode cX6_drop 5 = .ok (.ifCond .ne 11, 3) := by decide +kernel
theorem dX6_drop_8 : decode cX6_drop 8 = .ok (.aload_n 0, 1) := by decide +kernel
theorem dX6_drop_9 : decode cX6_drop 9 = .ok (.iload_n 2, 1) := by decide +kernel
theorem dX6_drop_10 : decode cX6_drop 10 = .ok (.invokevirtual 143, 3) := by decide +kernel
theorem dX6_drop_13 : decode cX6_drop 13 = .ok (.ifCond .eq 5, 3) := by decide +kernel
theorem dX6_drop_16 : decode cX6_drop 16 = .ok (.iconst (-1), 1) := by decide +kernel
theorem dX6_drop_17 : decode cX6_drop 17 = .ok (.ireturn, 1) := by decide +kernel
theorem dX6_drop_18 : decode cX6_drop 18 = .ok (.aload_n 0, 1) := by decide +kernel
theorem dX6_drop_19 : decode cX6_drop 19 = .ok (.iload_n 1, 1) := by decide +kernel
theorem dX6_drop_20 : decode cX6_drop 20 = .ok (.invokevirtual 128, 3) := by decide +kernel
theorem dX6_drop_23 : decode cX6_drop 23 = .ok (.ifCond .eq 12, 3) := by decide +kernel
theorem dX6_drop_26 : decode cX6_drop 26 = .ok (.aload_n 0, 1) := by decide +kernel
theorem dX6_drop_27 : decode cX6_drop 27 = .ok (.iload_n 1, 1) := by decide +kernel
theorem dX6_drop_28 : decode cX6_drop 28 = .ok (.iload_n 2, 1) := by decide +kernel
theorem dX6_drop_29 : decode cX6_drop 29 = .ok (.invokevirtual 136, 3) := by decide +kernel
theorem dX6_drop_32 : decode cX6_drop 32 = .ok (.ifCond .ne 6, 3) := by decide +kernel
theorem dX6_drop_35 : decode cX6_drop 35 = .ok (.bipush (-4), 2) := by decide +kernel
theorem dX6_drop_37 : decode cX6_drop 37 = .ok (.ireturn, 1) := by decide +kernel
theorem dX6_drop_38 : decode cX6_drop 38 = .ok (.aload_n 0, 1) := by decide +kernel
theorem dX6_drop_39 : decode cX6_drop 39 = .ok (.getfield 35, 3) := by decide +kernel
theorem dX6_drop_42 : decode cX6_drop 42 = .ok (.iload_n 2, 1) := by decide +kernel
theorem dX6_drop_43 : decode cX6_drop 43 = .ok (.iconst 0, 1) := by decide +kernel
theorem dX6_drop_44 : decode cX6_drop 44 = .ok (.iastore, 1) := by decide +kernel
theorem dX6_drop_45 : decode cX6_drop 45 = .ok (.aload_n 0, 1) := by decide +kernel
theorem dX6_drop_46 : decode cX6_drop 46 = .ok (.getfield 38, 3) := by decide +kernel
theorem dX6_drop_49 : decode cX6_drop 49 = .ok (.iload_n 2, 1) := by decide +kernel
theorem dX6_drop_50 : decode cX6_drop 50 = .ok (.aload_n 0, 1) := by decide +kernel
theorem dX6_drop_51 : decode cX6_drop 51 = .ok (.getfield 47, 3) := by decide +kernel
theorem dX6_drop_54 : decode cX6_drop 54 = .ok (.iload_n 1, 1) := by decide +kernel
theorem dX6_drop_55 : decode cX6_drop 55 = .ok (.iaload, 1) := by decide +kernel
theorem dX6_drop_56 : decode cX6_drop 56 = .ok (.iastore, 1) := by decide +kernel
theorem dX6_drop_57 : decode cX6_drop 57 = .ok (.aload_n 0, 1) := by decide +kernel
theorem dX6_drop_58 : decode cX6_drop 58 = .ok (.getfield 41, 3) := by decide +kernel
theorem dX6_drop_61 : decode cX6_drop 61 = .ok (.iload_n 2, 1) := by decide +kernel
theorem dX6_drop_62 : decode cX6_drop 62 = .ok (.aload_n 0, 1) := by decide +kernel
theorem dX6_drop_63 : decode cX6_drop 63 = .ok (.getfield 50, 3) := by decide +kernel
theorem dX6_drop_66 : decode cX6_drop 66 = .ok (.iload_n 1, 1) := by decide +kernel
theorem dX6_drop_67 : decode cX6_drop 67 = .ok (.iaload, 1) := by decide +kernel
theorem dX6_drop_68 : decode cX6_drop 68 = .ok (.iastore, 1) := by decide +kernel
theorem dX6_drop_69 : decode cX6_drop 69 = .ok (.aload_n 0, 1) := by decide +kernel
theorem dX6_drop_70 : decode cX6_drop 70 = .ok (.iload_n 1, 1) := by decide +kernel
theorem dX6_drop_71 : decode cX6_drop 71 = .ok (.invokevirtual 146, 3) := by decide +kernel
theorem dX6_drop_74 : decode cX6_drop 74 = .ok (.ireturn, 1) := by decide +kernel
theorem dX6_idle_0 : decode cX6_idle 0 = .ok (.aload_n 0, 1) := by decide +kernel
theorem dX6_idle_1 : decode cX6_idle 1 = .ok (.iload_n 1, 1) := by decide +kernel
theorem dX6_idle_2 : decode cX6_idle 2 = .ok (.invokevirtual 122, 3) := by decide +kernel
theorem dX6_idle_5 : decode cX6_idle 5 = .ok (.ifCond .eq 5, 3) := by decide +kernel
theorem dX6_idle_8 : decode cX6_idle 8 = .ok (.iconst (-1), 1) := by decide +kernel
theorem dX6_idle_9 : decode cX6_idle 9 = .ok (.ireturn, 1) := by decide +kernel
theorem dX6_idle_10 : decode cX6_idle 10 = .ok (.iload_n 2, 1) := by decide +kernel
theorem dX6_idle_11 : decode cX6_idle 11 = .ok (.iconst 1, 1) := by decide +kernel
theorem dX6_idle_12 : decode cX6_idle 12 = .ok (.sipush 1000, 3) := by decide +kernel
theorem dX6_idle_15 : decode cX6_idle 15 = .ok (.invokestatic 90, 3) := by decide +kernel
theorem dX6_idle_18 : decode cX6_idle 18 = .ok (.ifCond .ne 6, 3) := by decide +kernel
theorem dX6_idle_21 : decode cX6_idle 21 = .ok (.bipush (-2), 2) := by decide +kernel
theorem dX6_idle_23 : decode cX6_idle 23 = .ok (.ireturn, 1) := by decide +kernel
theorem dX6_idle_24 : decode cX6_idle 24 = .ok (.aload_n 0, 1) := by decide +kernel
theorem dX6_idle_25 : decode cX6_idle 25 = .ok (.iload_n 1, 1) := by decide +kernel
theorem dX6_idle_26 : decode cX6_idle 26 = .ok (.invokevirtual 128, 3) := by decide +kernel
theorem dX6_idle_29 : decode cX6_idle 29 = .ok (.ifCond .ne 6, 3) := by decide +kernel
theorem dX6_idle_32 : decode cX6_idle 32 = .ok (.bipush (-4), 2) := by decide +kernel
theorem dX6_idle_34 : decode cX6_idle 34 = .ok (.ireturn, 1) := by decide +kernel
theorem dX6_idle_35 : decode cX6_idle 35 = .ok (.aload_n 0, 1) := by decide +kernel
theorem dX6_idle_36 : decode cX6_idle 36 = .ok (.getfield 50, 3) := by decide +kernel
theorem dX6_idle_39 : decode cX6_idle 39 = .ok (.iload_n 1, 1) := by decide +kernel
theorem dX6_idle_40 : decode cX6_idle 40 = .ok (.iaload, 1) := by decide +kernel
theorem dX6_idle_41 : decode cX6_idle 41 = .ok (.iload_n 2, 1) := by decide +kernel
theorem dX6_idle_42 : decode cX6_idle 42 = .ok (.iadd, 1) := by decide +kernel
theorem dX6_idle_43 : decode cX6_idle 43 = .ok (.ldc 135, 2) := by decide +kernel
theorem dX6_idle_45 : decode cX6_idle 45 = .ok (.if_icmp .le 6, 3) := by decide +kernel
theorem dX6_idle_48 : decode cX6_idle 48 = .ok (.bipush (-5), 2) := by decide +kernel
theorem dX6_idle_50 : decode cX6_idle 50 = .ok (.ireturn, 1) := by decide +kernel
theorem dX6_idle_51 : decode cX6_idle 51 = .ok (.aload_n 0, 1) := by decide +kernel
theorem dX6_idle_52 : decode cX6_idle 52 = .ok (.getfield 50, 3) := by decide +kernel
theorem dX6_idle_55 : decode cX6_idle 55 = .ok (.iload_n 1, 1) := by decide +kernel
theorem dX6_idle_56 : decode cX6_idle 56 = .ok (.dup2, 1) := by decide +kernel
theorem dX6_idle_57 : decode cX6_idle 57 = .ok (.iaload, 1) := by decide +kernel
theorem dX6_idle_58 : decode cX6_idle 58 = .ok (.iload_n 2, 1) := by decide +kernel
theorem dX6_idle_59 : decode cX6_idle 59 = .ok (.iadd, 1) := by decide +kernel
theorem dX6_idle_60 : decode cX6_idle 60 = .ok (.iastore, 1) := by decide +kernel
theorem dX6_idle_61 : decode cX6_idle 61 = .ok (.aload_n 0, 1) := by decide +kernel
theorem dX6_idle_62 : decode cX6_idle 62 = .ok (.getfield 50, 3) := by decide +kernel
theorem dX6_idle_65 : decode cX6_idle 65 = .ok (.iload_n 1, 1) := by decide +kernel
theorem dX6_idle_66 : decode cX6_idle 66 = .ok (.iaload, 1) := by decide +kernel
theorem dX6_idle_67 : decode cX6_idle 67 = .ok (.ireturn, 1) := by decide +kernel
theorem dX6_part_0 : decode cX6_part 0 = .ok (.aload_n 0, 1) := by decide +kernel
theorem dX6_part_1 : decode cX6_part 1 = .ok (.iload_n 1, 1) := by decide +kernel
theorem dX6_part_2 : decode cX6_part 2 = .ok (.invokevirtual 122, 3) := by decide +kernel
theorem dX6_part_5 : decode cX6_part 5 = .ok (.ifCond .eq 5, 3) := by decide +kernel
theorem dX6_part_8 : decode cX6_part 8 = .ok (.iconst (-1), 1) := by decide +kernel
theorem dX6_part_9 : decode cX6_part 9 = .ok (.ireturn, 1) := by decide +kernel
theorem dX6_part_10 : decode cX6_part 10 = .ok (.iload_n 2, 1) := by decide +kernel
theorem dX6_part_11 : decode cX6_part 11 = .ok (.iconst 1, 1) := by decide +kernel
theorem dX6_part_12 : decode cX6_part 12 = .ok (.bipush 23, 2) := by decide +kernel
theorem dX6_part_14 : decode cX6_part 14 = .ok (.invokestatic 90, 3) := by decide +kernel
theorem dX6_part_17 : decode cX6_part 17 = .ok (.ifCond .ne 6, 3) := by decide +kernel
theorem dX6_part_20 : decode cX6_part 20 = .ok (.bipush (-2), 2) := by decide +kernel
theorem dX6_part_22 : decode cX6_part 22 = .ok (.ireturn, 1) := by decide +kernel
theorem dX6_part_23 : decode cX6_part 23 = .ok (.aload_n 0, 1) := by decide +kernel
theorem dX6_part_24 : decode cX6_part 24 = .ok (.iload_n 1, 1) := by decide +kernel
theorem dX6_part_25 : decode cX6_part 25 = .ok (.invokevirtual 128, 3) := by decide +kernel
theorem dX6_part_28 : decode cX6_part 28 = .ok (.ifCond .eq 13, 3) := by decide +kernel
theorem dX6_part_31 : decode cX6_part 31 = .ok (.aload_n 0, 1) := by decide +kernel
theorem dX6_part_32 : decode cX6_part 32 = .ok (.getfield 44, 3) := by decide +kernel
theorem dX6_part_35 : decode cX6_part 35 = .ok (.iload_n 1, 1) := by decide +kernel
theorem dX6_part_36 : decode cX6_part 36 = .ok (.iaload, 1) := by decide +kernel
theorem dX6_part_37 : decode cX6_part 37 = .ok (.iload_n 2, 1) := by decide +kernel
theorem dX6_part_38 : decode cX6_part 38 = .ok (.if_icmp .gt 6, 3) := by decide +kernel
theorem dX6_part_41 : decode cX6_part 41 = .ok (.bipush (-4), 2) := by decide +kernel
theorem dX6_part_43 : decode cX6_part 43 = .ok (.ireturn, 1) := by decide +kernel
theorem dX6_part_44 : decode cX6_part 44 = .ok (.aload_n 0, 1) := by decide +kernel
theorem dX6_part_45 : decode cX6_part 45 = .ok (.getfield 100, 3) := by decide +kernel
theorem dX6_part_48 : decode cX6_part 48 = .ok (.bipush 6, 2) := by decide +kernel
theorem dX6_part_50 : decode cX6_part 50 = .ok (.if_icmp .ne 6, 3) := by decide +kernel
theorem dX6_part_53 : decode cX6_part 53 = .ok (.bipush (-3), 2) := by decide +kernel
theorem dX6_part_55 : decode cX6_part 55 = .ok (.ireturn, 1) := by decide +kernel
theorem dX6_part_56 : decode cX6_part 56 = .ok (.aload_n 0, 1) := by decide +kernel
theorem dX6_part_57 : decode cX6_part 57 = .ok (.getfield 44, 3) := by decide +kernel
theorem dX6_part_60 : decode cX6_part 60 = .ok (.iload_n 1, 1) := by decide +kernel
theorem dX6_part_61 : decode cX6_part 61 = .ok (.dup2, 1) := by decide +kernel
theorem dX6_part_62 : decode cX6_part 62 = .ok (.iaload, 1) := by decide +kernel
theorem dX6_part_63 : decode cX6_part 63 = .ok (.iload_n 2, 1) := by decide +kernel
theorem dX6_part_64 : decode cX6_part 64 = .ok (.isub, 1) := by decide +kernel
theorem dX6_part_65 : decode cX6_part 65 = .ok (.iastore, 1) := by decide +kernel
theorem dX6_part_66 : decode cX6_part 66 = .ok (.aload_n 0, 1) := by decide +kernel
theorem dX6_part_67 : decode cX6_part 67 = .ok (.iload_n 2, 1) := by decide +kernel
theorem dX6_part_68 : decode cX6_part 68 = .ok (.aload_n 0, 1) := by decide +kernel
theorem dX6_part_69 : decode cX6_part 69 = .ok (.getfield 47, 3) := by decide +kernel
theorem dX6_part_72 : decode cX6_part 72 = .ok (.iload_n 1, 1) := by decide +kernel
theorem dX6_part_73 : decode cX6_part 73 = .ok (.iaload, 1) := by decide +kernel
theorem dX6_part_74 : decode cX6_part 74 = .ok (.aload_n 0, 1) := by decide +kernel
theorem dX6_part_75 : decode cX6_part 75 = .ok (.getfield 50, 3) := by decide +kernel
theorem dX6_part_78 : decode cX6_part 78 = .ok (.iload_n 1, 1) := by decide +kernel
theorem dX6_part_79 : decode cX6_part 79 = .ok (.iaload, 1) := by decide +kernel
theorem dX6_part_80 : decode cX6_part 80 = .ok (.invokevirtual 118, 3) := by decide +kernel
theorem dX6_part_83 : decode cX6_part 83 = .ok (.ireturn, 1) := by decide +kernel
theorem dX6_join_0 : decode cX6_join 0 = .ok (.aload_n 0, 1) := by decide +kernel
theorem dX6_join_1 : decode cX6_join 1 = .ok (.iload_n 1, 1) := by decide +kernel
theorem dX6_join_2 : decode cX6_join 2 = .ok (.invokevirtual 122, 3) := by decide +kernel
theorem dX6_join_5 : decode cX6_join 5 = .ok (.ifCond .ne 11, 3) := by decide +kernel
theorem dX6_join_8 : decode cX6_join 8 = .ok (.aload_n 0, 1) := by decide +kernel
theorem dX6_join_9 : decode cX6_join 9 = .ok (.iload_n 2, 1) := by decide +kernel
theorem dX6_join_10 : decode cX6_join 10 = .ok (.invokevirtual 122, 3) := by decide +kernel
theorem dX6_join_13 : decode cX6_join 13 = .ok (.ifCond .eq 5, 3) := by decide +kernel
theorem dX6_join_16 : decode cX6_join 16 = .ok (.iconst (-1), 1) := by decide +kernel
theorem dX6_join_17 : decode cX6_join 17 = .ok (.ireturn, 1) := by decide +kernel
theorem dX6_join_18 : decode cX6_join 18 = .ok (.iload_n 1, 1) := by decide +kernel
theorem dX6_join_19 : decode cX6_join 19 = .ok (.iload_n 2, 1) := by decide +kernel
theorem dX6_join_20 : decode cX6_join 20 = .ok (.if_icmp .ne 6, 3) := by decide +kernel
theorem dX6_join_23 : decode cX6_join 23 = .ok (.bipush (-2), 2) := by decide +kernel
theorem dX6_join_25 : decode cX6_join 25 = .ok (.ireturn, 1) := by decide +kernel
theorem dX6_join_26 : decode cX6_join 26 = .ok (.aload_n 0, 1) := by decide +kernel
theorem dX6_join_27 : decode cX6_join 27 = .ok (.iload_n 1, 1) := by decide +kernel
theorem dX6_join_28 : decode cX6_join 28 = .ok (.invokevirtual 128, 3) := by decide +kernel
theorem dX6_join_31 : decode cX6_join 31 = .ok (.ifCond .eq 26, 3) := by decide +kernel
theorem dX6_join_34 : decode cX6_join 34 = .ok (.aload_n 0, 1) := by decide +kernel
theorem dX6_join_35 : decode cX6_join 35 = .ok (.iload_n 2, 1) := by decide +kernel
theorem dX6_join_36 : decode cX6_join 36 = .ok (.invokevirtual 128, 3) := by decide +kernel
theorem dX6_join_39 : decode cX6_join 39 = .ok (.ifCond .eq 18, 3) := by decide +kernel
theorem dX6_join_42 : decode cX6_join 42 = .ok (.aload_n 0, 1) := by decide +kernel
theorem dX6_join_43 : decode cX6_join 43 = .ok (.getfield 47, 3) := by decide +kernel
theorem dX6_join_46 : decode cX6_join 46 = .ok (.iload_n 1, 1) := by decide +kernel
theorem dX6_join_47 : decode cX6_join 47 = .ok (.iaload, 1) := by decide +kernel
theorem dX6_join_48 : decode cX6_join 48 = .ok (.aload_n 0, 1) := by decide +kernel
theorem dX6_join_49 : decode cX6_join 49 = .ok (.getfield 47, 3) := by decide +kernel
theorem dX6_join_52 : decode cX6_join 52 = .ok (.iload_n 2, 1) := by decide +kernel
theorem dX6_join_53 : decode cX6_join 53 = .ok (.iaload, 1) := by decide +kernel
theorem dX6_join_54 : decode cX6_join 54 = .ok (.if_icmp .eq 6, 3) := by decide +kernel
theorem dX6_join_57 : decode cX6_join 57 = .ok (.bipush (-4), 2) := by decide +kernel
theorem dX6_join_59 : decode cX6_join 59 = .ok (.ireturn, 1) := by decide +kernel
theorem dX6_join_60 : decode cX6_join 60 = .ok (.aload_n 0, 1) := by decide +kernel
theorem dX6_join_61 : decode cX6_join 61 = .ok (.getfield 44, 3) := by decide +kernel
theorem dX6_join_64 : decode cX6_join 64 = .ok (.iload_n 2, 1) := by decide +kernel
theorem dX6_join_65 : decode cX6_join 65 = .ok (.dup2, 1) := by decide +kernel
theorem dX6_join_66 : decode cX6_join 66 = .ok (.iaload, 1) := by decide +kernel
theorem dX6_join_67 : decode cX6_join 67 = .ok (.aload_n 0, 1) := by decide +kernel
theorem dX6_join_68 : decode cX6_join 68 = .ok (.getfield 44, 3) := by decide +kernel
theorem dX6_join_71 : decode cX6_join 71 = .ok (.iload_n 1, 1) := by decide +kernel
theorem dX6_join_72 : decode cX6_join 72 = .ok (.iaload, 1) := by decide +kernel
theorem dX6_join_73 : decode cX6_join 73 = .ok (.iadd, 1) := by decide +kernel
theorem dX6_join_74 : decode cX6_join 74 = .ok (.iastore, 1) := by decide +kernel
theorem dX6_join_75 : decode cX6_join 75 = .ok (.aload_n 0, 1) := by decide +kernel
theorem dX6_join_76 : decode cX6_join 76 = .ok (.getfield 44, 3) := by decide +kernel
theorem dX6_join_79 : decode cX6_join 79 = .ok (.iload_n 1, 1) := by decide +kernel
theorem dX6_join_80 : decode cX6_join 80 = .ok (.iconst 0, 1) := by decide +kernel
theorem dX6_join_81 : decode cX6_join 81 = .ok (.iastore, 1) := by decide +kernel
theorem dX6_join_82 : decode cX6_join 82 = .ok (.aload_n 0, 1) := by decide +kernel
theorem dX6_join_83 : decode cX6_join 83 = .ok (.getfield 56, 3) := by decide +kernel
theorem dX6_join_86 : decode cX6_join 86 = .ok (.iload_n 1, 1) := by decide +kernel
theorem dX6_join_87 : decode cX6_join 87 = .ok (.iconst 2, 1) := by decide +kernel
theorem dX6_join_88 : decode cX6_join 88 = .ok (.iastore, 1) := by decide +kernel
theorem dX6_join_89 : decode cX6_join 89 = .ok (.aload_n 0, 1) := by decide +kernel
theorem dX6_join_90 : decode cX6_join 90 = .ok (.getfield 50, 3) := by decide +kernel
theorem dX6_join_93 : decode cX6_join 93 = .ok (.iload_n 2, 1) := by decide +kernel
theorem dX6_join_94 : decode cX6_join 94 = .ok (.aload_n 0, 1) := by decide +kernel
theorem dX6_join_95 : decode cX6_join 95 = .ok (.getfield 50, 3) := by decide +kernel
theorem dX6_join_98 : decode cX6_join 98 = .ok (.iload_n 2, 1) := by decide +kernel
theorem dX6_join_99 : decode cX6_join 99 = .ok (.iaload, 1) := by decide +kernel
theorem dX6_join_100 : decode cX6_join 100 = .ok (.aload_n 0, 1) := by decide +kernel
theorem dX6_join_101 : decode cX6_join 101 = .ok (.getfield 50, 3) := by decide +kernel
theorem dX6_join_104 : decode cX6_join 104 = .ok (.iload_n 1, 1) := by decide +kernel
theorem dX6_join_105 : decode cX6_join 105 = .ok (.iaload, 1) := by decide +kernel
theorem dX6_join_106 : decode cX6_join 106 = .ok (.if_icmp .ge 12, 3) := by decide +kernel
theorem dX6_join_109 : decode cX6_join 109 = .ok (.aload_n 0, 1) := by decide +kernel
theorem dX6_join_110 : decode cX6_join 110 = .ok (.getfield 50, 3) := by decide +kernel
theorem dX6_join_113 : decode cX6_join 113 = .ok (.iload_n 1, 1) := by decide +kernel
theorem dX6_join_114 : decode cX6_join 114 = .ok (.iaload, 1) := by decide +kernel
theorem dX6_join_115 : decode cX6_join 115 = .ok (.goto 9, 3) := by decide +kernel
theorem dX6_join_118 : decode cX6_join 118 = .ok (.aload_n 0, 1) := by decide +kernel
theorem dX6_join_119 : decode cX6_join 119 = .ok (.getfield 50, 3) := by decide +kernel
theorem dX6_join_122 : decode cX6_join 122 = .ok (.iload_n 2, 1) := by decide +kernel
theorem dX6_join_123 : decode cX6_join 123 = .ok (.iaload, 1) := by decide +kernel
theorem dX6_join_124 : decode cX6_join 124 = .ok (.iastore, 1) := by decide +kernel
theorem dX6_join_125 : decode cX6_join 125 = .ok (.aload_n 0, 1) := by decide +kernel
theorem dX6_join_126 : decode cX6_join 126 = .ok (.getfield 53, 3) := by decide +kernel
theorem dX6_join_129 : decode cX6_join 129 = .ok (.iload_n 2, 1) := by decide +kernel
theorem dX6_join_130 : decode cX6_join 130 = .ok (.dup2, 1) := by decide +kernel
theorem dX6_join_131 : decode cX6_join 131 = .ok (.iaload, 1) := by decide +kernel
theorem dX6_join_132 : decode cX6_join 132 = .ok (.aload_n 0, 1) := by decide +kernel
theorem dX6_join_133 : decode cX6_join 133 = .ok (.getfield 53, 3) := by decide +kernel
theorem dX6_join_136 : decode cX6_join 136 = .ok (.iload_n 1, 1) := by decide +kernel
theorem dX6_join_137 : decode cX6_join 137 = .ok (.iaload, 1) := by decide +kernel
theorem dX6_join_138 : decode cX6_join 138 = .ok (.iadd, 1) := by decide +kernel
theorem dX6_join_139 : decode cX6_join 139 = .ok (.iastore, 1) := by decide +kernel
theorem dX6_join_140 : decode cX6_join 140 = .ok (.iconst 0, 1) := by decide +kernel
theorem dX6_join_141 : decode cX6_join 141 = .ok (.istore_n 3, 1) := by decide +kernel
theorem dX6_join_142 : decode cX6_join 142 = .ok (.iload_n 3, 1) := by decide +kernel
theorem dX6_join_143 : decode cX6_join 143 = .ok (.aload_n 0, 1) := by decide +kernel
theorem dX6_join_144 : decode cX6_join 144 = .ok (.getfield 97, 3) := by decide +kernel
theorem dX6_join_147 : decode cX6_join 147 = .ok (.if_icmp .ge 34, 3) := by decide +kernel
theorem dX6_join_150 : decode cX6_join 150 = .ok (.aload_n 0, 1) := by decide +kernel
theorem dX6_join_151 : decode cX6_join 151 = .ok (.getfield 38, 3) := by decide +kernel
theorem dX6_join_154 : decode cX6_join 154 = .ok (.iload_n 3, 1) := by decide +kernel
theorem dX6_join_155 : decode cX6_join 155 = .ok (.aload_n 0, 1) := by decide +kernel
theorem dX6_join_156 : decode cX6_join 156 = .ok (.iload_n 1, 1) := by decide +kernel
theorem dX6_join_157 : decode cX6_join 157 = .ok (.iload_n 3, 1) := by decide +kernel
theorem dX6_join_158 : decode cX6_join 158 = .ok (.invokevirtual 136, 3) := by decide +kernel
theorem dX6_join_161 : decode cX6_join 161 = .ok (.ifCond .eq 7, 3) := by decide +kernel
theorem dX6_join_164 : decode cX6_join 164 = .ok (.iload_n 2, 1) := by decide +kernel
theorem dX6_join_165 : decode cX6_join 165 = .ok (.goto 9, 3) := by decide +kernel
theorem dX6_join_168 : decode cX6_join 168 = .ok (.aload_n 0, 1) := by decide +kernel
theorem dX6_join_169 : decode cX6_join 169 = .ok (.getfield 38, 3) := by decide +kernel
theorem dX6_join_172 : decode cX6_join 172 = .ok (.iload_n 3, 1) := by decide +kernel
theorem dX6_join_173 : decode cX6_join 173 = .ok (.iaload, 1) := by decide +kernel
theorem dX6_join_174 : decode cX6_join 174 = .ok (.iastore, 1) := by decide +kernel
theorem dX6_join_175 : decode cX6_join 175 = .ok (.iinc 3 1, 3) := by decide +kernel
theorem dX6_join_178 : decode cX6_join 178 = .ok (.goto (-36), 3) := by decide +kernel
theorem dX6_join_181 : decode cX6_join 181 = .ok (.aload_n 0, 1) := by decide +kernel
theorem dX6_join_182 : decode cX6_join 182 = .ok (.getfield 44, 3) := by decide +kernel
theorem dX6_join_185 : decode cX6_join 185 = .ok (.iload_n 2, 1) := by decide +kernel
theorem dX6_join_186 : decode cX6_join 186 = .ok (.iaload, 1) := by decide +kernel
theorem dX6_join_187 : decode cX6_join 187 = .ok (.ireturn, 1) := by decide +kernel
theorem dX6_leave_0 : decode cX6_leave 0 = .ok (.aload_n 0, 1) := by decide +kernel
theorem dX6_leave_1 : decode cX6_leave 1 = .ok (.iload_n 1, 1) := by decide +kernel
theorem dX6_leave_2 : decode cX6_leave 2 = .ok (.invokevirtual 122, 3) := by decide +kernel
theorem dX6_leave_5 : decode cX6_leave 5 = .ok (.ifCond .eq 5, 3) := by decide +kernel
theorem dX6_leave_8 : decode cX6_leave 8 = .ok (.iconst (-1), 1) := by decide +kernel
theorem dX6_leave_9 : decode cX6_leave 9 = .ok (.ireturn, 1) := by decide +kernel
theorem dX6_leave_10 : decode cX6_leave 10 = .ok (.aload_n 0, 1) := by decide +kernel
theorem dX6_leave_11 : decode cX6_leave 11 = .ok (.iload_n 1, 1) := by decide +kernel
theorem dX6_leave_12 : decode cX6_leave 12 = .ok (.invokevirtual 128, 3) := by decide +kernel
theorem dX6_leave_15 : decode cX6_leave 15 = .ok (.ifCond .eq 16, 3) := by decide +kernel
theorem dX6_leave_18 : decode cX6_leave 18 = .ok (.aload_n 0, 1) := by decide +kernel
theorem dX6_leave_19 : decode cX6_leave 19 = .ok (.getfield 47, 3) := by decide +kernel
theorem dX6_leave_22 : decode cX6_leave 22 = .ok (.iload_n 1, 1) := by decide +kernel
theorem dX6_leave_23 : decode cX6_leave 23 = .ok (.iaload, 1) := by decide +kernel
theorem dX6_leave_24 : decode cX6_leave 24 = .ok (.aload_n 0, 1) := by decide +kernel
theorem dX6_leave_25 : decode cX6_leave 25 = .ok (.getfield 9, 3) := by decide +kernel
theorem dX6_leave_28 : decode cX6_leave 28 = .ok (.if_icmp .eq 6, 3) := by decide +kernel
theorem dX6_leave_31 : decode cX6_leave 31 = .ok (.bipush (-4), 2) := by decide +kernel
theorem dX6_leave_33 : decode cX6_leave 33 = .ok (.ireturn, 1) := by decide +kernel
theorem dX6_leave_34 : decode cX6_leave 34 = .ok (.aload_n 0, 1) := by decide +kernel
theorem dX6_leave_35 : decode cX6_leave 35 = .ok (.getfield 56, 3) := by decide +kernel
theorem dX6_leave_38 : decode cX6_leave 38 = .ok (.iload_n 1, 1) := by decide +kernel
theorem dX6_leave_39 : decode cX6_leave 39 = .ok (.iconst 1, 1) := by decide +kernel
theorem dX6_leave_40 : decode cX6_leave 40 = .ok (.iastore, 1) := by decide +kernel
theorem dX6_leave_41 : decode cX6_leave 41 = .ok (.aload_n 0, 1) := by decide +kernel
theorem dX6_leave_42 : decode cX6_leave 42 = .ok (.getfield 50, 3) := by decide +kernel
theorem dX6_leave_45 : decode cX6_leave 45 = .ok (.iload_n 1, 1) := by decide +kernel
theorem dX6_leave_46 : decode cX6_leave 46 = .ok (.iaload, 1) := by decide +kernel
theorem dX6_leave_47 : decode cX6_leave 47 = .ok (.ireturn, 1) := by decide +kernel
theorem dX6_has_0 : decode cX6_has 0 = .ok (.iload_n 0, 1) := by decide +kernel
theorem dX6_has_1 : decode cX6_has 1 = .ok (.iload_n 1, 1) := by decide +kernel
theorem dX6_has_2 : decode cX6_has 2 = .ok (.ishr, 1) := by decide +kernel
theorem dX6_has_3 : decode cX6_has 3 = .ok (.iconst 1, 1) := by decide +kernel
theorem dX6_has_4 : decode cX6_has 4 = .ok (.iand, 1) := by decide +kernel
theorem dX6_has_5 : decode cX6_has 5 = .ok (.iconst 1, 1) := by decide +kernel
theorem dX6_has_6 : decode cX6_has 6 = .ok (.if_icmp .ne 7, 3) := by decide +kernel
theorem dX6_has_9 : decode cX6_has 9 = .ok (.iconst 1, 1) := by decide +kernel
theorem dX6_has_10 : decode cX6_has 10 = .ok (.goto 4, 3) := by decide +kernel
theorem dX6_has_13 : decode cX6_has 13 = .ok (.iconst 0, 1) := by decide +kernel
theorem dX6_has_14 : decode cX6_has 14 = .ok (.ireturn, 1) := by decide +kernel
theorem dX6_reachable_0 : decode cX6_reachable 0 = .ok (.iconst 1, 1) := by decide +kernel
theorem dX6_reachable_1 : decode cX6_reachable 1 = .ok (.iload_n 1, 1) := by decide +kernel
theorem dX6_reachable_2 : decode cX6_reachable 2 = .ok (.ishl, 1) := by decide +kernel
theorem dX6_reachable_3 : decode cX6_reachable 3 = .ok (.istore_n 3, 1) := by decide +kernel
theorem dX6_reachable_4 : decode cX6_reachable 4 = .ok (.iconst 1, 1) := by decide +kernel
theorem dX6_reachable_5 : decode cX6_reachable 5 = .ok (.istore 4, 2) := by decide +kernel
theorem dX6_reachable_7 : decode cX6_reachable 7 = .ok (.iload 4, 2) := by decide +kernel
theorem dX6_reachable_9 : decode cX6_reachable 9 = .ok (.ifCond .eq 108, 3) := by decide +kernel
theorem dX6_reachable_12 : decode cX6_reachable 12 = .ok (.iconst 0, 1) := by decide +kernel
theorem dX6_reachable_13 : decode cX6_reachable 13 = .ok (.istore 4, 2) := by decide +kernel
theorem dX6_reachable_15 : decode cX6_reachable 15 = .ok (.iconst 0, 1) := by decide +kernel
theorem dX6_reachable_16 : decode cX6_reachable 16 = .ok (.istore 5, 2) := by decide +kernel
theorem dX6_reachable_18 : decode cX6_reachable 18 = .ok (.iload 5, 2) := by decide +kernel
theorem dX6_reachable_20 : decode cX6_reachable 20 = .ok (.aload_n 0, 1) := by decide +kernel
theorem dX6_reachable_21 : decode cX6_reachable 21 = .ok (.getfield 94, 3) := by decide +kernel
theorem dX6_reachable_24 : decode cX6_reachable 24 = .ok (.if_icmp .ge 90, 3) := by decide +kernel
theorem dX6_reachable_27 : decode cX6_reachable 27 = .ok (.aload_n 0, 1) := by decide +kernel
theorem dX6_reachable_28 : decode cX6_reachable 28 = .ok (.getfield 29, 3) := by decide +kernel
theorem dX6_reachable_31 : decode cX6_reachable 31 = .ok (.iload 5, 2) := by decide +kernel
theorem dX6_reachable_33 : decode cX6_reachable 33 = .ok (.iaload, 1) := by decide +kernel
theorem dX6_reachable_34 : decode cX6_reachable 34 = .ok (.ifCond .ge 12, 3) := by decide +kernel
theorem dX6_reachable_37 : decode cX6_reachable 37 = .ok (.iload_n 2, 1) := by decide +kernel
theorem dX6_reachable_38 : decode cX6_reachable 38 = .ok (.iload 5, 2) := by decide +kernel
theorem dX6_reachable_40 : decode cX6_reachable 40 = .ok (.invokestatic 150, 3) := by decide +kernel
theorem dX6_reachable_43 : decode cX6_reachable 43 = .ok (.ifCond .eq 7, 3) := by decide +kernel
theorem dX6_reachable_46 : decode cX6_reachable 46 = .ok (.iconst 1, 1) := by decide +kernel
theorem dX6_reachable_47 : decode cX6_reachable 47 = .ok (.goto 4, 3) := by decide +kernel
theorem dX6_reachable_50 : decode cX6_reachable 50 = .ok (.iconst 0, 1) := by decide +kernel
theorem dX6_reachable_51 : decode cX6_reachable 51 = .ok (.istore 6, 2) := by decide +kernel
theorem dX6_reachable_53 : decode cX6_reachable 53 = .ok (.iload 6, 2) := by decide +kernel
theorem dX6_reachable_55 : decode cX6_reachable 55 = .ok (.ifCond .eq 53, 3) := by decide +kernel
theorem dX6_reachable_58 : decode cX6_reachable 58 = .ok (.iload_n 3, 1) := by decide +kernel
theorem dX6_reachable_59 : decode cX6_reachable 59 = .ok (.aload_n 0, 1) := by decide +kernel
theorem dX6_reachable_60 : decode cX6_reachable 60 = .ok (.getfield 13, 3) := by decide +kernel
theorem dX6_reachable_63 : decode cX6_reachable 63 = .ok (.iload 5, 2) := by decide +kernel
theorem dX6_reachable_65 : decode cX6_reachable 65 = .ok (.iaload, 1) := by decide +kernel
theorem dX6_reachable_66 : decode cX6_reachable 66 = .ok (.invokestatic 150, 3) := by decide +kernel
theorem dX6_reachable_69 : decode cX6_reachable 69 = .ok (.iload_n 3, 1) := by decide +kernel
theorem dX6_reachable_70 : decode cX6_reachable 70 = .ok (.aload_n 0, 1) := by decide +kernel
theorem dX6_reachable_71 : decode cX6_reachable 71 = .ok (.getfield 17, 3) := by decide +kernel
theorem dX6_reachable_74 : decode cX6_reachable 74 = .ok (.iload 5, 2) := by decide +kernel
theorem dX6_reachable_76 : decode cX6_reachable 76 = .ok (.iaload, 1) := by decide +kernel
theorem dX6_reachable_77 : decode cX6_reachable 77 = .ok (.invokestatic 150, 3) := by decide +kernel
theorem dX6_reachable_80 : decode cX6_reachable 80 = .ok (.if_icmp .eq 28, 3) := by decide +kernel
theorem dX6_reachable_83 : decode cX6_reachable 83 = .ok (.iload_n 3, 1) := by decide +kernel
theorem dX6_reachable_84 : decode cX6_reachable 84 = .ok (.iconst 1, 1) := by decide +kernel
theorem dX6_reachable_85 : decode cX6_reachable 85 = .ok (.aload_n 0, 1) := by decide +kernel
theorem dX6_reachable_86 : decode cX6_reachable 86 = .ok (.getfield 13, 3) := by decide +kernel
theorem dX6_reachable_89 : decode cX6_reachable 89 = .ok (.iload 5, 2) := by decide +kernel
theorem dX6_reachable_91 : decode cX6_reachable 91 = .ok (.iaload, 1) := by decide +kernel
theorem dX6_reachable_92 : decode cX6_reachable 92 = .ok (.ishl, 1) := by decide +kernel
theorem dX6_reachable_93 : decode cX6_reachable 93 = .ok (.iconst 1, 1) := by decide +kernel
theorem dX6_reachable_94 : decode cX6_reachable 94 = .ok (.aload_n 0, 1) := by decide +kernel
theorem dX6_reachable_95 : decode cX6_reachable 95 = .ok (.getfield 17, 3) := by decide +kernel
theorem dX6_reachable_98 : decode cX6_reachable 98 = .ok (.iload 5, 2) := by decide +kernel
theorem dX6_reachable_100 : decode cX6_reachable 100 = .ok (.iaload, 1) := by decide +kernel
theorem dX6_reachable_101 : decode cX6_reachable 101 = .ok (.ishl, 1) := by decide +kernel
theorem dX6_reachable_102 : decode cX6_reachable 102 = .ok (.ior, 1) := by decide +kernel
theorem dX6_reachable_103 : decode cX6_reachable 103 = .ok (.ior, 1) := by decide +kernel
theorem dX6_reachable_104 : decode cX6_reachable 104 = .ok (.istore_n 3, 1) := by decide +kernel
theorem dX6_reachable_105 : decode cX6_reachable 105 = .ok (.iconst 1, 1) := by decide +kernel
theorem dX6_reachable_106 : decode cX6_reachable 106 = .ok (.istore 4, 2) := by decide +kernel
theorem dX6_reachable_108 : decode cX6_reachable 108 = .ok (.iinc 5 1, 3) := by decide +kernel
theorem dX6_reachable_111 : decode cX6_reachable 111 = .ok (.goto (-93), 3) := by decide +kernel
theorem dX6_reachable_114 : decode cX6_reachable 114 = .ok (.goto (-107), 3) := by decide +kernel
theorem dX6_reachable_117 : decode cX6_reachable 117 = .ok (.iload_n 3, 1) := by decide +kernel
theorem dX6_reachable_118 : decode cX6_reachable 118 = .ok (.ireturn, 1) := by decide +kernel
theorem dX6_layLocks_0 : decode cX6_layLocks 0 = .ok (.aload_n 0, 1) := by decide +kernel
theorem dX6_layLocks_1 : decode cX6_layLocks 1 = .ok (.iconst 0, 1) := by decide +kernel
theorem dX6_layLocks_2 : decode cX6_layLocks 2 = .ok (.putfield 153, 3) := by decide +kernel
theorem dX6_layLocks_5 : decode cX6_layLocks 5 = .ok (.iconst 0, 1) := by decide +kernel
theorem dX6_layLocks_6 : decode cX6_layLocks 6 = .ok (.istore_n 1, 1) := by decide +kernel
theorem dX6_layLocks_7 : decode cX6_layLocks 7 = .ok (.iload_n 1, 1) := by decide +kernel
theorem dX6_layLocks_8 : decode cX6_layLocks 8 = .ok (.aload_n 0, 1) := by decide +kernel
theorem dX6_layLocks_9 : decode cX6_layLocks 9 = .ok (.getfield 94, 3) := by decide +kernel
theorem dX6_layLocks_12 : decode cX6_layLocks 12 = .ok (.if_icmp .ge 38, 3) := by decide +kernel
theorem dX6_layLocks_15 : decode cX6_layLocks 15 = .ok (.aload_n 0, 1) := by decide +kernel
theorem dX6_layLocks_16 : decode cX6_layLocks 16 = .ok (.getfield 29, 3) := by decide +kernel
theorem dX6_layLocks_19 : decode cX6_layLocks 19 = .ok (.iload_n 1, 1) := by decide +kernel
theorem dX6_layLocks_20 : decode cX6_layLocks 20 = .ok (.iaload, 1) := by decide +kernel
theorem dX6_layLocks_21 : decode cX6_layLocks 21 = .ok (.ifCond .ge 23, 3) := by decide +kernel
theorem dX6_layLocks_24 : decode cX6_layLocks 24 = .ok (.aload_n 0, 1) := by decide +kernel
theorem dX6_layLocks_25 : decode cX6_layLocks 25 = .ok (.getfield 65, 3) := by decide +kernel
theorem dX6_layLocks_28 : decode cX6_layLocks 28 = .ok (.aload_n 0, 1) := by decide +kernel
theorem dX6_layLocks_29 : decode cX6_layLocks 29 = .ok (.getfield 153, 3) := by decide +kernel
theorem dX6_layLocks_32 : decode cX6_layLocks 32 = .ok (.iload_n 1, 1) := by decide +kernel
theorem dX6_layLocks_33 : decode cX6_layLocks 33 = .ok (.iastore, 1) := by decide +kernel
theorem dX6_layLocks_34 : decode cX6_layLocks 34 = .ok (.aload_n 0, 1) := by decide +kernel
theorem dX6_layLocks_35 : decode cX6_layLocks 35 = .ok (.dup, 1) := by decide +kernel
theorem dX6_layLocks_36 : decode cX6_layLocks 36 = .ok (.getfield 153, 3) := by decide +kernel
theorem dX6_layLocks_39 : decode cX6_layLocks 39 = .ok (.iconst 1, 1) := by decide +kernel
theorem dX6_layLocks_40 : decode cX6_layLocks 40 = .ok (.iadd, 1) := by decide +kernel
theorem dX6_layLocks_41 : decode cX6_layLocks 41 = .ok (.putfield 153, 3) := by decide +kernel
theorem dX6_layLocks_44 : decode cX6_layLocks 44 = .ok (.iinc 1 1, 3) := by decide +kernel
theorem dX6_layLocks_47 : decode cX6_layLocks 47 = .ok (.goto (-40), 3) := by decide +kernel
theorem dX6_layLocks_50 : decode cX6_layLocks 50 = .ok (.return_, 1) := by decide +kernel
theorem dX6_costOf_0 : decode cX6_costOf 0 = .ok (.iconst 0, 1) := by decide +kernel
theorem dX6_costOf_1 : decode cX6_costOf 1 = .ok (.istore_n 2, 1) := by decide +kernel
theorem dX6_costOf_2 : decode cX6_costOf 2 = .ok (.iconst 0, 1) := by decide +kernel
theorem dX6_costOf_3 : decode cX6_costOf 3 = .ok (.istore_n 3, 1) := by decide +kernel
theorem dX6_costOf_4 : decode cX6_costOf 4 = .ok (.iload_n 3, 1) := by decide +kernel
theorem dX6_costOf_5 : decode cX6_costOf 5 = .ok (.aload_n 0, 1) := by decide +kernel
theorem dX6_costOf_6 : decode cX6_costOf 6 = .ok (.getfield 153, 3) := by decide +kernel
theorem dX6_costOf_9 : decode cX6_costOf 9 = .ok (.if_icmp .ge 35, 3) := by decide +kernel
theorem dX6_costOf_12 : decode cX6_costOf 12 = .ok (.iload_n 2, 1) := by decide +kernel
theorem dX6_costOf_13 : decode cX6_costOf 13 = .ok (.iload_n 1, 1) := by decide +kernel
theorem dX6_costOf_14 : decode cX6_costOf 14 = .ok (.iload_n 3, 1) := by decide +kernel
theorem dX6_costOf_15 : decode cX6_costOf 15 = .ok (.invokestatic 150, 3) := by decide +kernel
theorem dX6_costOf_18 : decode cX6_costOf 18 = .ok (.ifCond .eq 17, 3) := by decide +kernel
theorem dX6_costOf_21 : decode cX6_costOf 21 = .ok (.aload_n 0, 1) := by decide +kernel
theorem dX6_costOf_22 : decode cX6_costOf 22 = .ok (.getfield 26, 3) := by decide +kernel
theorem dX6_costOf_25 : decode cX6_costOf 25 = .ok (.aload_n 0, 1) := by decide +kernel
theorem dX6_costOf_26 : decode cX6_costOf 26 = .ok (.getfield 65, 3) := by decide +kernel
theorem dX6_costOf_29 : decode cX6_costOf 29 = .ok (.iload_n 3, 1) := by decide +kernel
theorem dX6_costOf_30 : decode cX6_costOf 30 = .ok (.iaload, 1) := by decide +kernel
theorem dX6_costOf_31 : decode cX6_costOf 31 = .ok (.iaload, 1) := by decide +kernel
theorem dX6_costOf_32 : decode cX6_costOf 32 = .ok (.goto 4, 3) := by decide +kernel
theorem dX6_costOf_35 : decode cX6_costOf 35 = .ok (.iconst 0, 1) := by decide +kernel
theorem dX6_costOf_36 : decode cX6_costOf 36 = .ok (.iadd, 1) := by decide +kernel
theorem dX6_costOf_37 : decode cX6_costOf 37 = .ok (.istore_n 2, 1) := by decide +kernel
theorem dX6_costOf_38 : decode cX6_costOf 38 = .ok (.iinc 3 1, 3) := by decide +kernel
theorem dX6_costOf_41 : decode cX6_costOf 41 = .ok (.goto (-37), 3) := by decide +kernel
theorem dX6_costOf_44 : decode cX6_costOf 44 = .ok (.iload_n 2, 1) := by decide +kernel
theorem dX6_costOf_45 : decode cX6_costOf 45 = .ok (.ireturn, 1) := by decide +kernel
theorem dX6_sizeOfSet_0 : decode cX6_sizeOfSet 0 = .ok (.iconst 0, 1) := by decide +kernel
theorem dX6_sizeOfSet_1 : decode cX6_sizeOfSet 1 = .ok (.istore_n 2, 1) := by decide +kernel
theorem dX6_sizeOfSet_2 : decode cX6_sizeOfSet 2 = .ok (.iconst 0, 1) := by decide +kernel
theorem dX6_sizeOfSet_3 : decode cX6_sizeOfSet 3 = .ok (.istore_n 3, 1) := by decide +kernel
theorem dX6_sizeOfSet_4 : decode cX6_sizeOfSet 4 = .ok (.iload_n 3, 1) := by decide +kernel
theorem dX6_sizeOfSet_5 : decode cX6_sizeOfSet 5 = .ok (.aload_n 0, 1) := by decide +kernel
theorem dX6_sizeOfSet_6 : decode cX6_sizeOfSet 6 = .ok (.getfield 153, 3) := by decide +kernel
theorem dX6_sizeOfSet_9 : decode cX6_sizeOfSet 9 = .ok (.if_icmp .ge 25, 3) := by decide +kernel
theorem dX6_sizeOfSet_12 : decode cX6_sizeOfSet 12 = .ok (.iload_n 2, 1) := by decide +kernel
theorem dX6_sizeOfSet_13 : decode cX6_sizeOfSet 13 = .ok (.iload_n 1, 1) := by decide +kernel
theorem dX6_sizeOfSet_14 : decode cX6_sizeOfSet 14 = .ok (.iload_n 3, 1) := by decide +kernel
theorem dX6_sizeOfSet_15 : decode cX6_sizeOfSet 15 = .ok (.invokestatic 150, 3) := by decide +kernel
theorem dX6_sizeOfSet_18 : decode cX6_sizeOfSet 18 = .ok (.ifCond .eq 7, 3) := by decide +kernel
theorem dX6_sizeOfSet_21 : decode cX6_sizeOfSet 21 = .ok (.iconst 1, 1) := by decide +kernel
theorem dX6_sizeOfSet_22 : decode cX6_sizeOfSet 22 = .ok (.goto 4, 3) := by decide +kernel
theorem dX6_sizeOfSet_25 : decode cX6_sizeOfSet 25 = .ok (.iconst 0, 1) := by decide +kernel
theorem dX6_sizeOfSet_26 : decode cX6_sizeOfSet 26 = .ok (.iadd, 1) := by decide +kernel
theorem dX6_sizeOfSet_27 : decode cX6_sizeOfSet 27 = .ok (.istore_n 2, 1) := by decide +kernel
theorem dX6_sizeOfSet_28 : decode cX6_sizeOfSet 28 = .ok (.iinc 3 1, 3) := by decide +kernel
theorem dX6_sizeOfSet_31 : decode cX6_sizeOfSet 31 = .ok (.goto (-27), 3) := by decide +kernel
theorem dX6_sizeOfSet_34 : decode cX6_sizeOfSet 34 = .ok (.iload_n 2, 1) := by decide +kernel
theorem dX6_sizeOfSet_35 : decode cX6_sizeOfSet 35 = .ok (.ireturn, 1) := by decide +kernel
theorem dX6_canAdd_0 : decode cX6_canAdd 0 = .ok (.aload_n 0, 1) := by decide +kernel
theorem dX6_canAdd_1 : decode cX6_canAdd 1 = .ok (.getfield 65, 3) := by decide +kernel
theorem dX6_canAdd_4 : decode cX6_canAdd 4 = .ok (.iload_n 3, 1) := by decide +kernel
theorem dX6_canAdd_5 : decode cX6_canAdd 5 = .ok (.iaload, 1) := by decide +kernel
theorem dX6_canAdd_6 : decode cX6_canAdd 6 = .ok (.istore 4, 2) := by decide +kernel
theorem dX6_canAdd_8 : decode cX6_canAdd 8 = .ok (.aload_n 0, 1) := by decide +kernel
theorem dX6_canAdd_9 : decode cX6_canAdd 9 = .ok (.getfield 71, 3) := by decide +kernel
theorem dX6_canAdd_12 : decode cX6_canAdd 12 = .ok (.iload_n 2, 1) := by decide +kernel
theorem dX6_canAdd_13 : decode cX6_canAdd 13 = .ok (.iaload, 1) := by decide +kernel
theorem dX6_canAdd_14 : decode cX6_canAdd 14 = .ok (.aload_n 0, 1) := by decide +kernel
theorem dX6_canAdd_15 : decode cX6_canAdd 15 = .ok (.getfield 13, 3) := by decide +kernel
theorem dX6_canAdd_18 : decode cX6_canAdd 18 = .ok (.iload 4, 2) := by decide +kernel
theorem dX6_canAdd_20 : decode cX6_canAdd 20 = .ok (.iaload, 1) := by decide +kernel
theorem dX6_canAdd_21 : decode cX6_canAdd 21 = .ok (.invokestatic 150, 3) := by decide +kernel
theorem dX6_canAdd_24 : decode cX6_canAdd 24 = .ok (.ifCond .ne 22, 3) := by decide +kernel
theorem dX6_canAdd_27 : decode cX6_canAdd 27 = .ok (.aload_n 0, 1) := by decide +kernel
theorem dX6_canAdd_28 : decode cX6_canAdd 28 = .ok (.getfield 71, 3) := by decide +kernel
theorem dX6_canAdd_31 : decode cX6_canAdd 31 = .ok (.iload_n 2, 1) := by decide +kernel
theorem dX6_canAdd_32 : decode cX6_canAdd 32 = .ok (.iaload, 1) := by decide +kernel
theorem dX6_canAdd_33 : decode cX6_canAdd 33 = .ok (.aload_n 0, 1) := by decide +kernel
theorem dX6_canAdd_34 : decode cX6_canAdd 34 = .ok (.getfield 17, 3) := by decide +kernel
theorem dX6_canAdd_37 : decode cX6_canAdd 37 = .ok (.iload 4, 2) := by decide +kernel
theorem dX6_canAdd_39 : decode cX6_canAdd 39 = .ok (.iaload, 1) := by decide +kernel
theorem dX6_canAdd_40 : decode cX6_canAdd 40 = .ok (.invokestatic 150, 3) := by decide +kernel
theorem dX6_canAdd_43 : decode cX6_canAdd 43 = .ok (.ifCond .eq 7, 3) := by decide +kernel
theorem dX6_canAdd_46 : decode cX6_canAdd 46 = .ok (.iconst 1, 1) := by decide +kernel
theorem dX6_canAdd_47 : decode cX6_canAdd 47 = .ok (.goto 4, 3) := by decide +kernel
theorem dX6_canAdd_50 : decode cX6_canAdd 50 = .ok (.iconst 0, 1) := by decide +kernel
theorem dX6_canAdd_51 : decode cX6_canAdd 51 = .ok (.istore 5, 2) := by decide +kernel
theorem dX6_canAdd_53 : decode cX6_canAdd 53 = .ok (.iconst 0, 1) := by decide +kernel
theorem dX6_canAdd_54 : decode cX6_canAdd 54 = .ok (.istore 6, 2) := by decide +kernel
theorem dX6_canAdd_56 : decode cX6_canAdd 56 = .ok (.iconst 0, 1) := by decide +kernel
theorem dX6_canAdd_57 : decode cX6_canAdd 57 = .ok (.istore 7, 2) := by decide +kernel
theorem dX6_canAdd_59 : decode cX6_canAdd 59 = .ok (.iload 7, 2) := by decide +kernel
theorem dX6_canAdd_61 : decode cX6_canAdd 61 = .ok (.aload_n 0, 1) := by decide +kernel
theorem dX6_canAdd_62 : decode cX6_canAdd 62 = .ok (.getfield 97, 3) := by decide +kernel
theorem dX6_canAdd_65 : decode cX6_canAdd 65 = .ok (.if_icmp .ge 87, 3) := by decide +kernel
theorem dX6_canAdd_68 : decode cX6_canAdd 68 = .ok (.aload_n 0, 1) := by decide +kernel
theorem dX6_canAdd_69 : decode cX6_canAdd 69 = .ok (.getfield 35, 3) := by decide +kernel
theorem dX6_canAdd_72 : decode cX6_canAdd 72 = .ok (.iload 7, 2) := by decide +kernel
theorem dX6_canAdd_74 : decode cX6_canAdd 74 = .ok (.iaload, 1) := by decide +kernel
theorem dX6_canAdd_75 : decode cX6_canAdd 75 = .ok (.ifCond .ne 26, 3) := by decide +kernel
theorem dX6_canAdd_78 : decode cX6_canAdd 78 = .ok (.aload_n 0, 1) := by decide +kernel
theorem dX6_canAdd_79 : decode cX6_canAdd 79 = .ok (.getfield 71, 3) := by decide +kernel
theorem dX6_canAdd_82 : decode cX6_canAdd 82 = .ok (.iload_n 2, 1) := by decide +kernel
theorem dX6_canAdd_83 : decode cX6_canAdd 83 = .ok (.iaload, 1) := by decide +kernel
theorem dX6_canAdd_84 : decode cX6_canAdd 84 = .ok (.aload_n 0, 1) := by decide +kernel
theorem dX6_canAdd_85 : decode cX6_canAdd 85 = .ok (.getfield 38, 3) := by decide +kernel
theorem dX6_canAdd_88 : decode cX6_canAdd 88 = .ok (.iload 7, 2) := by decide +kernel
theorem dX6_canAdd_90 : decode cX6_canAdd 90 = .ok (.iaload, 1) := by decide +kernel
theorem dX6_canAdd_91 : decode cX6_canAdd 91 = .ok (.invokestatic 150, 3) := by decide +kernel
theorem dX6_canAdd_94 : decode cX6_canAdd 94 = .ok (.ifCond .eq 7, 3) := by decide +kernel
theorem dX6_canAdd_97 : decode cX6_canAdd 97 = .ok (.iconst 1, 1) := by decide +kernel
theorem dX6_canAdd_98 : decode cX6_canAdd 98 = .ok (.goto 4, 3) := by decide +kernel
theorem dX6_canAdd_101 : decode cX6_canAdd 101 = .ok (.iconst 0, 1) := by decide +kernel
theorem dX6_canAdd_102 : decode cX6_canAdd 102 = .ok (.istore 8, 2) := by decide +kernel
theorem dX6_canAdd_104 : decode cX6_canAdd 104 = .ok (.iload 6, 2) := by decide +kernel
theorem dX6_canAdd_106 : decode cX6_canAdd 106 = .ok (.aload_n 0, 1) := by decide +kernel
theorem dX6_canAdd_107 : decode cX6_canAdd 107 = .ok (.getfield 32, 3) := by decide +kernel
theorem dX6_canAdd_110 : decode cX6_canAdd 110 = .ok (.iload 7, 2) := by decide +kernel
theorem dX6_canAdd_112 : decode cX6_canAdd 112 = .ok (.iaload, 1) := by decide +kernel
theorem dX6_canAdd_113 : decode cX6_canAdd 113 = .ok (.aload_n 0, 1) := by decide +kernel
theorem dX6_canAdd_114 : decode cX6_canAdd 114 = .ok (.getfield 23, 3) := by decide +kernel
theorem dX6_canAdd_117 : decode cX6_canAdd 117 = .ok (.iload 4, 2) := by decide +kernel
theorem dX6_canAdd_119 : decode cX6_canAdd 119 = .ok (.iaload, 1) := by decide +kernel
theorem dX6_canAdd_120 : decode cX6_canAdd 120 = .ok (.if_icmp .ne 22, 3) := by decide +kernel
theorem dX6_canAdd_123 : decode cX6_canAdd 123 = .ok (.iload 8, 2) := by decide +kernel
theorem dX6_canAdd_125 : decode cX6_canAdd 125 = .ok (.ifCond .ne 13, 3) := by decide +kernel
theorem dX6_canAdd_128 : decode cX6_canAdd 128 = .ok (.aload_n 0, 1) := by decide +kernel
theorem dX6_canAdd_129 : decode cX6_canAdd 129 = .ok (.iload_n 1, 1) := by decide +kernel
theorem dX6_canAdd_130 : decode cX6_canAdd 130 = .ok (.iload 7, 2) := by decide +kernel
theorem dX6_canAdd_132 : decode cX6_canAdd 132 = .ok (.invokevirtual 136, 3) := by decide +kernel
theorem dX6_canAdd_135 : decode cX6_canAdd 135 = .ok (.ifCond .eq 7, 3) := by decide +kernel
theorem dX6_canAdd_138 : decode cX6_canAdd 138 = .ok (.iconst 1, 1) := by decide +kernel
theorem dX6_canAdd_139 : decode cX6_canAdd 139 = .ok (.goto 4, 3) := by decide +kernel
theorem dX6_canAdd_142 : decode cX6_canAdd 142 = .ok (.iconst 0, 1) := by decide +kernel
theorem dX6_canAdd_143 : decode cX6_canAdd 143 = .ok (.iadd, 1) := by decide +kernel
theorem dX6_canAdd_144 : decode cX6_canAdd 144 = .ok (.istore 6, 2) := by decide +kernel
theorem dX6_canAdd_146 : decode cX6_canAdd 146 = .ok (.iinc 7 1, 3) := by decide +kernel
theorem dX6_canAdd_149 : decode cX6_canAdd 149 = .ok (.goto (-90), 3) := by decide +kernel
theorem dX6_canAdd_152 : decode cX6_canAdd 152 = .ok (.iconst 0, 1) := by decide +kernel
theorem dX6_canAdd_153 : decode cX6_canAdd 153 = .ok (.istore 7, 2) := by decide +kernel
theorem dX6_canAdd_155 : decode cX6_canAdd 155 = .ok (.iload 7, 2) := by decide +kernel
theorem dX6_canAdd_157 : decode cX6_canAdd 157 = .ok (.aload_n 0, 1) := by decide +kernel
theorem dX6_canAdd_158 : decode cX6_canAdd 158 = .ok (.getfield 153, 3) := by decide +kernel
theorem dX6_canAdd_161 : decode cX6_canAdd 161 = .ok (.if_icmp .ge 50, 3) := by decide +kernel
theorem dX6_canAdd_164 : decode cX6_canAdd 164 = .ok (.iload 6, 2) := by decide +kernel
theorem dX6_canAdd_166 : decode cX6_canAdd 166 = .ok (.iload_n 2, 1) := by decide +kernel
theorem dX6_canAdd_167 : decode cX6_canAdd 167 = .ok (.iload 7, 2) := by decide +kernel
theorem dX6_canAdd_169 : decode cX6_canAdd 169 = .ok (.invokestatic 150, 3) := by decide +kernel
theorem dX6_canAdd_172 : decode cX6_canAdd 172 = .ok (.ifCond .eq 29, 3) := by decide +kernel
theorem dX6_canAdd_175 : decode cX6_canAdd 175 = .ok (.aload_n 0, 1) := by decide +kernel
theorem dX6_canAdd_176 : decode cX6_canAdd 176 = .ok (.getfield 23, 3) := by decide +kernel
theorem dX6_canAdd_179 : decode cX6_canAdd 179 = .ok (.aload_n 0, 1) := by decide +kernel
theorem dX6_canAdd_180 : decode cX6_canAdd 180 = .ok (.getfield 65, 3) := by decide +kernel
theorem dX6_canAdd_183 : decode cX6_canAdd 183 = .ok (.iload 7, 2) := by decide +kernel
theorem dX6_canAdd_185 : decode cX6_canAdd 185 = .ok (.iaload, 1) := by decide +kernel
theorem dX6_canAdd_186 : decode cX6_canAdd 186 = .ok (.iaload, 1) := by decide +kernel
theorem dX6_canAdd_187 : decode cX6_canAdd 187 = .ok (.aload_n 0, 1) := by decide +kernel
theorem dX6_canAdd_188 : decode cX6_canAdd 188 = .ok (.getfield 23, 3) := by decide +kernel
theorem dX6_canAdd_191 : decode cX6_canAdd 191 = .ok (.iload 4, 2) := by decide +kernel
theorem dX6_canAdd_193 : decode cX6_canAdd 193 = .ok (.iaload, 1) := by decide +kernel
theorem dX6_canAdd_194 : decode cX6_canAdd 194 = .ok (.if_icmp .ne 7, 3) := by decide +kernel
theorem dX6_canAdd_197 : decode cX6_canAdd 197 = .ok (.iconst 1, 1) := by decide +kernel
theorem dX6_canAdd_198 : decode cX6_canAdd 198 = .ok (.goto 4, 3) := by decide +kernel
theorem dX6_canAdd_201 : decode cX6_canAdd 201 = .ok (.iconst 0, 1) := by decide +kernel
theorem dX6_canAdd_202 : decode cX6_canAdd 202 = .ok (.isub, 1) := by decide +kernel
theorem dX6_canAdd_203 : decode cX6_canAdd 203 = .ok (.istore 6, 2) := by decide +kernel
theorem dX6_canAdd_205 : decode cX6_canAdd 205 = .ok (.iinc 7 1, 3) := by decide +kernel
theorem dX6_canAdd_208 : decode cX6_canAdd 208 = .ok (.goto (-53), 3) := by decide +kernel
theorem dX6_canAdd_211 : decode cX6_canAdd 211 = .ok (.iload_n 2, 1) := by decide +kernel
theorem dX6_canAdd_212 : decode cX6_canAdd 212 = .ok (.iload_n 3, 1) := by decide +kernel
theorem dX6_canAdd_213 : decode cX6_canAdd 213 = .ok (.invokestatic 150, 3) := by decide +kernel
theorem dX6_canAdd_216 : decode cX6_canAdd 216 = .ok (.ifCond .ne 17, 3) := by decide +kernel
theorem dX6_canAdd_219 : decode cX6_canAdd 219 = .ok (.iload 5, 2) := by decide +kernel
theorem dX6_canAdd_221 : decode cX6_canAdd 221 = .ok (.ifCond .eq 12, 3) := by decide +kernel
theorem dX6_canAdd_224 : decode cX6_canAdd 224 = .ok (.iload 6, 2) := by decide +kernel
theorem dX6_canAdd_226 : decode cX6_canAdd 226 = .ok (.ifCond .le 7, 3) := by decide +kernel
theorem dX6_canAdd_229 : decode cX6_canAdd 229 = .ok (.iconst 1, 1) := by decide +kernel
theorem dX6_canAdd_230 : decode cX6_canAdd 230 = .ok (.goto 4, 3) := by decide +kernel
theorem dX6_canAdd_233 : decode cX6_canAdd 233 = .ok (.iconst 0, 1) := by decide +kernel
theorem dX6_canAdd_234 : decode cX6_canAdd 234 = .ok (.ireturn, 1) := by decide +kernel
theorem dX6_escapes_0 : decode cX6_escapes 0 = .ok (.aload_n 0, 1) := by decide +kernel
theorem dX6_escapes_1 : decode cX6_escapes 1 = .ok (.getfield 9, 3) := by decide +kernel
theorem dX6_escapes_4 : decode cX6_escapes 4 = .ok (.ifCond .lt 23, 3) := by decide +kernel
theorem dX6_escapes_7 : decode cX6_escapes 7 = .ok (.aload_n 0, 1) := by decide +kernel
theorem dX6_escapes_8 : decode cX6_escapes 8 = .ok (.getfield 71, 3) := by decide +kernel
theorem dX6_escapes_11 : decode cX6_escapes 11 = .ok (.iload_n 1, 1) := by decide +kernel
theorem dX6_escapes_12 : decode cX6_escapes 12 = .ok (.iaload, 1) := by decide +kernel
theorem dX6_escapes_13 : decode cX6_escapes 13 = .ok (.aload_n 0, 1) := by decide +kernel
theorem dX6_escapes_14 : decode cX6_escapes 14 = .ok (.getfield 9, 3) := by decide +kernel
theorem dX6_escapes_17 : decode cX6_escapes 17 = .ok (.invokestatic 150, 3) := by decide +kernel
theorem dX6_escapes_20 : decode cX6_escapes 20 = .ok (.ifCond .eq 7, 3) := by decide +kernel
theorem dX6_escapes_23 : decode cX6_escapes 23 = .ok (.iconst 1, 1) := by decide +kernel
theorem dX6_escapes_24 : decode cX6_escapes 24 = .ok (.goto 4, 3) := by decide +kernel
theorem dX6_escapes_27 : decode cX6_escapes 27 = .ok (.iconst 0, 1) := by decide +kernel
theorem dX6_escapes_28 : decode cX6_escapes 28 = .ok (.ireturn, 1) := by decide +kernel
theorem dX6_findPlan_0 : decode cX6_findPlan 0 = .ok (.aload_n 0, 1) := by decide +kernel
theorem dX6_findPlan_1 : decode cX6_findPlan 1 = .ok (.invokevirtual 156, 3) := by decide +kernel
theorem dX6_findPlan_4 : decode cX6_findPlan 4 = .ok (.iconst 1, 1) := by decide +kernel
theorem dX6_findPlan_5 : decode cX6_findPlan 5 = .ok (.aload_n 0, 1) := by decide +kernel
theorem dX6_findPlan_6 : decode cX6_findPlan 6 = .ok (.getfield 153, 3) := by decide +kernel
theorem dX6_findPlan_9 : decode cX6_findPlan 9 = .ok (.ishl, 1) := by decide +kernel
theorem dX6_findPlan_10 : decode cX6_findPlan 10 = .ok (.istore_n 2, 1) := by decide +kernel
theorem dX6_findPlan_11 : decode cX6_findPlan 11 = .ok (.iconst 0, 1) := by decide +kernel
theorem dX6_findPlan_12 : decode cX6_findPlan 12 = .ok (.istore_n 3, 1) := by decide +kernel
theorem dX6_findPlan_13 : decode cX6_findPlan 13 = .ok (.iload_n 3, 1) := by decide +kernel
theorem dX6_findPlan_14 : decode cX6_findPlan 14 = .ok (.iload_n 2, 1) := by decide +kernel
theorem dX6_findPlan_15 : decode cX6_findPlan 15 = .ok (.if_icmp .ge 102, 3) := by decide +kernel
theorem dX6_findPlan_18 : decode cX6_findPlan 18 = .ok (.aload_n 0, 1) := by decide +kernel
theorem dX6_findPlan_19 : decode cX6_findPlan 19 = .ok (.getfield 68, 3) := by decide +kernel
theorem dX6_findPlan_22 : decode cX6_findPlan 22 = .ok (.iload_n 3, 1) := by decide +kernel
theorem dX6_findPlan_23 : decode cX6_findPlan 23 = .ok (.iconst 0, 1) := by decide +kernel
theorem dX6_findPlan_24 : decode cX6_findPlan 24 = .ok (.iastore, 1) := by decide +kernel
theorem dX6_findPlan_25 : decode cX6_findPlan 25 = .ok (.iconst 0, 1) := by decide +kernel
theorem dX6_findPlan_26 : decode cX6_findPlan 26 = .ok (.istore 4, 2) := by decide +kernel
theorem dX6_findPlan_28 : decode cX6_findPlan 28 = .ok (.iload 4, 2) := by decide +kernel
theorem dX6_findPlan_30 : decode cX6_findPlan 30 = .ok (.aload_n 0, 1) := by decide +kernel
theorem dX6_findPlan_31 : decode cX6_findPlan 31 = .ok (.getfield 153, 3) := by decide +kernel
theorem dX6_findPlan_34 : decode cX6_findPlan 34 = .ok (.if_icmp .ge 40, 3) := by decide +kernel
theorem dX6_findPlan_37 : decode cX6_findPlan 37 = .ok (.aload_n 0, 1) := by decide +kernel
theorem dX6_findPlan_38 : decode cX6_findPlan 38 = .ok (.getfield 68, 3) := by decide +kernel
theorem dX6_findPlan_41 : decode cX6_findPlan 41 = .ok (.iload_n 3, 1) := by decide +kernel
theorem dX6_findPlan_42 : decode cX6_findPlan 42 = .ok (.dup2, 1) := by decide +kernel
theorem dX6_findPlan_43 : decode cX6_findPlan 43 = .ok (.iaload, 1) := by decide +kernel
theorem dX6_findPlan_44 : decode cX6_findPlan 44 = .ok (.iload_n 3, 1) := by decide +kernel
theorem dX6_findPlan_45 : decode cX6_findPlan 45 = .ok (.iload 4, 2) := by decide +kernel
theorem dX6_findPlan_47 : decode cX6_findPlan 47 = .ok (.invokestatic 150, 3) := by decide +kernel
theorem dX6_findPlan_50 : decode cX6_findPlan 50 = .ok (.ifCond .eq 15, 3) := by decide +kernel
theorem dX6_findPlan_53 : decode cX6_findPlan 53 = .ok (.iconst 1, 1) := by decide +kernel
theorem dX6_findPlan_54 : decode cX6_findPlan 54 = .ok (.aload_n 0, 1) := by decide +kernel
theorem dX6_findPlan_55 : decode cX6_findPlan 55 = .ok (.getfield 65, 3) := by decide +kernel
theorem dX6_findPlan_58 : decode cX6_findPlan 58 = .ok (.iload 4, 2) := by decide +kernel
theorem dX6_findPlan_60 : decode cX6_findPlan 60 = .ok (.iaload, 1) := by decide +kernel
theorem dX6_findPlan_61 : decode cX6_findPlan 61 = .ok (.ishl, 1) := by decide +kernel
theorem dX6_findPlan_62 : decode cX6_findPlan 62 = .ok (.goto 4, 3) := by decide +kernel
theorem dX6_findPlan_65 : decode cX6_findPlan 65 = .ok (.iconst 0, 1) := by decide +kernel
theorem dX6_findPlan_66 : decode cX6_findPlan 66 = .ok (.ior, 1) := by decide +kernel
theorem dX6_findPlan_67 : decode cX6_findPlan 67 = .ok (.iastore, 1) := by decide +kernel
theorem dX6_findPlan_68 : decode cX6_findPlan 68 = .ok (.iinc 4 1, 3) := by decide +kernel
theorem dX6_findPlan_71 : decode cX6_findPlan 71 = .ok (.goto (-43), 3) := by decide +kernel
theorem dX6_findPlan_74 : decode cX6_findPlan 74 = .ok (.aload_n 0, 1) := by decide +kernel
theorem dX6_findPlan_75 : decode cX6_findPlan 75 = .ok (.getfield 71, 3) := by decide +kernel
theorem dX6_findPlan_78 : decode cX6_findPlan 78 = .ok (.iload_n 3, 1) := by decide +kernel
theorem dX6_findPlan_79 : decode cX6_findPlan 79 = .ok (.aload_n 0, 1) := by decide +kernel
theorem dX6_findPlan_80 : decode cX6_findPlan 80 = .ok (.aload_n 0, 1) := by decide +kernel
theorem dX6_findPlan_81 : decode cX6_findPlan 81 = .ok (.getfield 47, 3) := by decide +kernel
theorem dX6_findPlan_84 : decode cX6_findPlan 84 = .ok (.iload_n 1, 1) := by decide +kernel
theorem dX6_findPlan_85 : decode cX6_findPlan 85 = .ok (.iaload, 1) := by decide +kernel
theorem dX6_findPlan_86 : decode cX6_findPlan 86 = .ok (.aload_n 0, 1) := by decide +kernel
theorem dX6_findPlan_87 : decode cX6_findPlan 87 = .ok (.getfield 68, 3) := by decide +kernel
theorem dX6_findPlan_90 : decode cX6_findPlan 90 = .ok (.iload_n 3, 1) := by decide +kernel
theorem dX6_findPlan_91 : decode cX6_findPlan 91 = .ok (.iaload, 1) := by decide +kernel
theorem dX6_findPlan_92 : decode cX6_findPlan 92 = .ok (.invokevirtual 159, 3) := by decide +kernel
theorem dX6_findPlan_95 : decode cX6_findPlan 95 = .ok (.iastore, 1) := by decide +kernel
theorem dX6_findPlan_96 : decode cX6_findPlan 96 = .ok (.aload_n 0, 1) := by decide +kernel
theorem dX6_findPlan_97 : decode cX6_findPlan 97 = .ok (.getfield 74, 3) := by decide +kernel
theorem dX6_findPlan_100 : decode cX6_findPlan 100 = .ok (.iload_n 3, 1) := by decide +kernel
theorem dX6_findPlan_101 : decode cX6_findPlan 101 = .ok (.iload_n 3, 1) := by decide +kernel
theorem dX6_findPlan_102 : decode cX6_findPlan 102 = .ok (.ifCond .ne 7, 3) := by decide +kernel
theorem dX6_findPlan_105 : decode cX6_findPlan 105 = .ok (.iconst 1, 1) := by decide +kernel
theorem dX6_findPlan_106 : decode cX6_findPlan 106 = .ok (.goto 4, 3) := by decide +kernel
theorem dX6_findPlan_109 : decode cX6_findPlan 109 = .ok (.iconst 0, 1) := by decide +kernel
theorem dX6_findPlan_110 : decode cX6_findPlan 110 = .ok (.bastore, 1) := by decide +kernel
theorem dX6_findPlan_111 : decode cX6_findPlan 111 = .ok (.iinc 3 1, 3) := by decide +kernel
theorem dX6_findPlan_114 : decode cX6_findPlan 114 = .ok (.goto (-101), 3) := by decide +kernel
theorem dX6_findPlan_117 : decode cX6_findPlan 117 = .ok (.aload_n 0, 1) := by decide +kernel
theorem dX6_findPlan_118 : decode cX6_findPlan 118 = .ok (.bipush (-6), 2) := by decide +kernel
theorem dX6_findPlan_120 : decode cX6_findPlan 120 = .ok (.putfield 162, 3) := by decide +kernel
theorem dX6_findPlan_123 : decode cX6_findPlan 123 = .ok (.aload_n 0, 1) := by decide +kernel
theorem dX6_findPlan_124 : decode cX6_findPlan 124 = .ok (.iconst 0, 1) := by decide +kernel
theorem dX6_findPlan_125 : decode cX6_findPlan 125 = .ok (.putfield 165, 3) := by decide +kernel
theorem dX6_findPlan_128 : decode cX6_findPlan 128 = .ok (.iconst 0, 1) := by decide +kernel
theorem dX6_findPlan_129 : decode cX6_findPlan 129 = .ok (.istore_n 3, 1) := by decide +kernel
theorem dX6_findPlan_130 : decode cX6_findPlan 130 = .ok (.iload_n 3, 1) := by decide +kernel
theorem dX6_findPlan_131 : decode cX6_findPlan 131 = .ok (.iload_n 2, 1) := by decide +kernel
theorem dX6_findPlan_132 : decode cX6_findPlan 132 = .ok (.if_icmp .ge 138, 3) := by decide +kernel
theorem dX6_findPlan_135 : decode cX6_findPlan 135 = .ok (.aload_n 0, 1) := by decide +kernel
theorem dX6_findPlan_136 : decode cX6_findPlan 136 = .ok (.getfield 74, 3) := by decide +kernel
theorem dX6_findPlan_139 : decode cX6_findPlan 139 = .ok (.iload_n 3, 1) := by decide +kernel
theorem dX6_findPlan_140 : decode cX6_findPlan 140 = .ok (.baload, 1) := by decide +kernel
theorem dX6_findPlan_141 : decode cX6_findPlan 141 = .ok (.ifCond .eq 123, 3) := by decide +kernel
theorem dX6_findPlan_144 : decode cX6_findPlan 144 = .ok (.iconst 0, 1) := by decide +kernel
theorem dX6_findPlan_145 : decode cX6_findPlan 145 = .ok (.istore 4, 2) := by decide +kernel
theorem dX6_findPlan_147 : decode cX6_findPlan 147 = .ok (.iload 4, 2) := by decide +kernel
theorem dX6_findPlan_149 : decode cX6_findPlan 149 = .ok (.aload_n 0, 1) := by decide +kernel
theorem dX6_findPlan_150 : decode cX6_findPlan 150 = .ok (.getfield 153, 3) := by decide +kernel
theorem dX6_findPlan_153 : decode cX6_findPlan 153 = .ok (.if_icmp .ge 32, 3) := by decide +kernel
theorem dX6_findPlan_156 : decode cX6_findPlan 156 = .ok (.aload_n 0, 1) := by decide +kernel
theorem dX6_findPlan_157 : decode cX6_findPlan 157 = .ok (.iload_n 1, 1) := by decide +kernel
theorem dX6_findPlan_158 : decode cX6_findPlan 158 = .ok (.iload_n 3, 1) := by decide +kernel
theorem dX6_findPlan_159 : decode cX6_findPlan 159 = .ok (.iload 4, 2) := by decide +kernel
theorem dX6_findPlan_161 : decode cX6_findPlan 161 = .ok (.invokevirtual 168, 3) := by decide +kernel
theorem dX6_findPlan_164 : decode cX6_findPlan 164 = .ok (.ifCond .eq 15, 3) := by decide +kernel
theorem dX6_findPlan_167 : decode cX6_findPlan 167 = .ok (.aload_n 0, 1) := by decide +kernel
theorem dX6_findPlan_168 : decode cX6_findPlan 168 = .ok (.getfield 74, 3) := by decide +kernel
theorem dX6_findPlan_171 : decode cX6_findPlan 171 = .ok (.iload_n 3, 1) := by decide +kernel
theorem dX6_findPlan_172 : decode cX6_findPlan 172 = .ok (.iconst 1, 1) := by decide +kernel
theorem dX6_findPlan_173 : decode cX6_findPlan 173 = .ok (.iload 4, 2) := by decide +kernel
theorem dX6_findPlan_175 : decode cX6_findPlan 175 = .ok (.ishl, 1) := by decide +kernel
theorem dX6_findPlan_176 : decode cX6_findPlan 176 = .ok (.ior, 1) := by decide +kernel
theorem dX6_findPlan_177 : decode cX6_findPlan 177 = .ok (.iconst 1, 1) := by decide +kernel
theorem dX6_findPlan_178 : decode cX6_findPlan 178 = .ok (.bastore, 1) := by decide +kernel
theorem dX6_findPlan_179 : decode cX6_findPlan 179 = .ok (.iinc 4 1, 3) := by decide +kernel
theorem dX6_findPlan_182 : decode cX6_findPlan 182 = .ok (.goto (-35), 3) := by decide +kernel
theorem dX6_findPlan_185 : decode cX6_findPlan 185 = .ok (.aload_n 0, 1) := by decide +kernel
theorem dX6_findPlan_186 : decode cX6_findPlan 186 = .ok (.iload_n 3, 1) := by decide +kernel
theorem dX6_findPlan_187 : decode cX6_findPlan 187 = .ok (.invokevirtual 171, 3) := by decide +kernel
theorem dX6_findPlan_190 : decode cX6_findPlan 190 = .ok (.istore 4, 2) := by decide +kernel
theorem dX6_findPlan_192 : decode cX6_findPlan 192 = .ok (.aload_n 0, 1) := by decide +kernel
theorem dX6_findPlan_193 : decode cX6_findPlan 193 = .ok (.getfield 162, 3) := by decide +kernel
theorem dX6_findPlan_196 : decode cX6_findPlan 196 = .ok (.ifCond .lt 33, 3) := by decide +kernel
theorem dX6_findPlan_199 : decode cX6_findPlan 199 = .ok (.iload 4, 2) := by decide +kernel
theorem dX6_findPlan_201 : decode cX6_findPlan 201 = .ok (.aload_n 0, 1) := by decide +kernel
theorem dX6_findPlan_202 : decode cX6_findPlan 202 = .ok (.getfield 162, 3) := by decide +kernel
theorem dX6_findPlan_205 : decode cX6_findPlan 205 = .ok (.if_icmp .lt 24, 3) := by decide +kernel
theorem dX6_findPlan_208 : decode cX6_findPlan 208 = .ok (.iload 4, 2) := by decide +kernel
theorem dX6_findPlan_210 : decode cX6_findPlan 210 = .ok (.aload_n 0, 1) := by decide +kernel
theorem dX6_findPlan_211 : decode cX6_findPlan 211 = .ok (.getfield 162, 3) := by decide +kernel
theorem dX6_findPlan_214 : decode cX6_findPlan 214 = .ok (.if_icmp .ne 19, 3) := by decide +kernel
theorem dX6_findPlan_217 : decode cX6_findPlan 217 = .ok (.aload_n 0, 1) := by decide +kernel
theorem dX6_findPlan_218 : decode cX6_findPlan 218 = .ok (.iload_n 3, 1) := by decide +kernel
theorem dX6_findPlan_219 : decode cX6_findPlan 219 = .ok (.invokevirtual 174, 3) := by decide +kernel
theorem dX6_findPlan_222 : decode cX6_findPlan 222 = .ok (.aload_n 0, 1) := by decide +kernel
theorem dX6_findPlan_223 : decode cX6_findPlan 223 = .ok (.getfield 165, 3) := by decide +kernel
theorem dX6_findPlan_226 : decode cX6_findPlan 226 = .ok (.if_icmp .ge 7, 3) := by decide +kernel
theorem dX6_findPlan_229 : decode cX6_findPlan 229 = .ok (.iconst 1, 1) := by decide +kernel
theorem dX6_findPlan_230 : decode cX6_findPlan 230 = .ok (.goto 4, 3) := by decide +kernel
theorem dX6_findPlan_233 : decode cX6_findPlan 233 = .ok (.iconst 0, 1) := by decide +kernel
theorem dX6_findPlan_234 : decode cX6_findPlan 234 = .ok (.istore 5, 2) := by decide +kernel
theorem dX6_findPlan_236 : decode cX6_findPlan 236 = .ok (.aload_n 0, 1) := by decide +kernel
theorem dX6_findPlan_237 : decode cX6_findPlan 237 = .ok (.iload_n 3, 1) := by decide +kernel
theorem dX6_findPlan_238 : decode cX6_findPlan 238 = .ok (.invokevirtual 177, 3) := by decide +kernel
theorem dX6_findPlan_241 : decode cX6_findPlan 241 = .ok (.ifCond .eq 23, 3) := by decide +kernel
theorem dX6_findPlan_244 : decode cX6_findPlan 244 = .ok (.iload 5, 2) := by decide +kernel
theorem dX6_findPlan_246 : decode cX6_findPlan 246 = .ok (.ifCond .eq 18, 3) := by decide +kernel
theorem dX6_findPlan_249 : decode cX6_findPlan 249 = .ok (.aload_n 0, 1) := by decide +kernel
theorem dX6_findPlan_250 : decode cX6_findPlan 250 = .ok (.iload 4, 2) := by decide +kernel
theorem dX6_findPlan_252 : decode cX6_findPlan 252 = .ok (.putfield 162, 3) := by decide +kernel
theorem dX6_findPlan_255 : decode cX6_findPlan 255 = .ok (.aload_n 0, 1) := by decide +kernel
theorem dX6_findPlan_256 : decode cX6_findPlan 256 = .ok (.aload_n 0, 1) := by decide +kernel
theorem dX6_findPlan_257 : decode cX6_findPlan 257 = .ok (.iload_n 3, 1) := by decide +kernel
theorem dX6_findPlan_258 : decode cX6_findPlan 258 = .ok (.invokevirtual 174, 3) := by decide +kernel
theorem dX6_findPlan_261 : decode cX6_findPlan 261 = .ok (.putfield 165, 3) := by decide +kernel
theorem dX6_findPlan_264 : decode cX6_findPlan 264 = .ok (.iinc 3 1, 3) := by decide +kernel
theorem dX6_findPlan_267 : decode cX6_findPlan 267 = .ok (.goto (-137), 3) := by decide +kernel
theorem dX6_findPlan_270 : decode cX6_findPlan 270 = .ok (.aload_n 0, 1) := by decide +kernel
theorem dX6_findPlan_271 : decode cX6_findPlan 271 = .ok (.getfield 162, 3) := by decide +kernel
theorem dX6_findPlan_274 : decode cX6_findPlan 274 = .ok (.ifCond .lt 9, 3) := by decide +kernel
theorem dX6_findPlan_277 : decode cX6_findPlan 277 = .ok (.aload_n 0, 1) := by decide +kernel
theorem dX6_findPlan_278 : decode cX6_findPlan 278 = .ok (.iload_n 1, 1) := by decide +kernel
theorem dX6_findPlan_279 : decode cX6_findPlan 279 = .ok (.iload_n 2, 1) := by decide +kernel
theorem dX6_findPlan_280 : decode cX6_findPlan 280 = .ok (.invokevirtual 180, 3) := by decide +kernel
theorem dX6_findPlan_283 : decode cX6_findPlan 283 = .ok (.return_, 1) := by decide +kernel
theorem dX6_findDoors_0 : decode cX6_findDoors 0 = .ok (.iload_n 2, 1) := by decide +kernel
theorem dX6_findDoors_1 : decode cX6_findDoors 1 = .ok (.iconst 1, 1) := by decide +kernel
theorem dX6_findDoors_2 : decode cX6_findDoors 2 = .ok (.isub, 1) := by decide +kernel
theorem dX6_findDoors_3 : decode cX6_findDoors 3 = .ok (.istore_n 3, 1) := by decide +kernel
theorem dX6_findDoors_4 : decode cX6_findDoors 4 = .ok (.iload_n 3, 1) := by decide +kernel
theorem dX6_findDoors_5 : decode cX6_findDoors 5 = .ok (.ifCond .lt 133, 3) := by decide +kernel
theorem dX6_findDoors_8 : decode cX6_findDoors 8 = .ok (.aload_n 0, 1) := by decide +kernel
theorem dX6_findDoors_9 : decode cX6_findDoors 9 = .ok (.getfield 78, 3) := by decide +kernel
theorem dX6_findDoors_12 : decode cX6_findDoors 12 = .ok (.iload_n 3, 1) := by decide +kernel
theorem dX6_findDoors_13 : decode cX6_findDoors 13 = .ok (.aload_n 0, 1) := by decide +kernel
theorem dX6_findDoors_14 : decode cX6_findDoors 14 = .ok (.getfield 74, 3) := by decide +kernel
theorem dX6_findDoors_17 : decode cX6_findDoors 17 = .ok (.iload_n 3, 1) := by decide +kernel
theorem dX6_findDoors_18 : decode cX6_findDoors 18 = .ok (.baload, 1) := by decide +kernel
theorem dX6_findDoors_19 : decode cX6_findDoors 19 = .ok (.ifCond .eq 39, 3) := by decide +kernel
theorem dX6_findDoors_22 : decode cX6_findDoors 22 = .ok (.aload_n 0, 1) := by decide +kernel
theorem dX6_findDoors_23 : decode cX6_findDoors 23 = .ok (.iload_n 3, 1) := by decide +kernel
theorem dX6_findDoors_24 : decode cX6_findDoors 24 = .ok (.invokevirtual 177, 3) := by decide +kernel
theorem dX6_findDoors_27 : decode cX6_findDoors 27 = .ok (.ifCond .eq 31, 3) := by decide +kernel
theorem dX6_findDoors_30 : decode cX6_findDoors 30 = .ok (.aload_n 0, 1) := by decide +kernel
theorem dX6_findDoors_31 : decode cX6_findDoors 31 = .ok (.iload_n 3, 1) := by decide +kernel
theorem dX6_findDoors_32 : decode cX6_findDoors 32 = .ok (.invokevirtual 171, 3) := by decide +kernel
theorem dX6_findDoors_35 : decode cX6_findDoors 35 = .ok (.aload_n 0, 1) := by decide +kernel
theorem dX6_findDoors_36 : decode cX6_findDoors 36 = .ok (.getfield 162, 3) := by decide +kernel
theorem dX6_findDoors_39 : decode cX6_findDoors 39 = .ok (.if_icmp .ne 19, 3) := by decide +kernel
theorem dX6_findDoors_42 : decode cX6_findDoors 42 = .ok (.aload_n 0, 1) := by decide +kernel
theorem dX6_findDoors_43 : decode cX6_findDoors 43 = .ok (.iload_n 3, 1) := by decide +kernel
theorem dX6_findDoors_44 : decode cX6_findDoors 44 = .ok (.invokevirtual 174, 3) := by decide +kernel
theorem dX6_findDoors_47 : decode cX6_findDoors 47 = .ok (.aload_n 0, 1) := by decide +kernel
theorem dX6_findDoors_48 : decode cX6_findDoors 48 = .ok (.getfield 165, 3) := by decide +kernel
theorem dX6_findDoors_51 : decode cX6_findDoors 51 = .ok (.if_icmp .ne 7, 3) := by decide +kernel
theorem dX6_findDoors_54 : decode cX6_findDoors 54 = .ok (.iconst 1, 1) := by decide +kernel
theorem dX6_findDoors_55 : decode cX6_findDoors 55 = .ok (.goto 4, 3) := by decide +kernel
theorem dX6_findDoors_58 : decode cX6_findDoors 58 = .ok (.iconst 0, 1) := by decide +kernel
theorem dX6_findDoors_59 : decode cX6_findDoors 59 = .ok (.bastore, 1) := by decide +kernel
theorem dX6_findDoors_60 : decode cX6_findDoors 60 = .ok (.iconst 0, 1) := by decide +kernel
theorem dX6_findDoors_61 : decode cX6_findDoors 61 = .ok (.istore 4, 2) := by decide +kernel
theorem dX6_findDoors_63 : decode cX6_findDoors 63 = .ok (.iload 4, 2) := by decide +kernel
theorem dX6_findDoors_65 : decode cX6_findDoors 65 = .ok (.aload_n 0, 1) := by decide +kernel
theorem dX6_findDoors_66 : decode cX6_findDoors 66 = .ok (.getfield 153, 3) := by decide +kernel
theorem dX6_findDoors_69 : decode cX6_findDoors 69 = .ok (.if_icmp .ge 63, 3) := by decide +kernel
theorem dX6_findDoors_72 : decode cX6_findDoors 72 = .ok (.aload_n 0, 1) := by decide +kernel
theorem dX6_findDoors_73 : decode cX6_findDoors 73 = .ok (.getfield 74, 3) := by decide +kernel
theorem dX6_findDoors_76 : decode cX6_findDoors 76 = .ok (.iload_n 3, 1) := by decide +kernel
theorem dX6_findDoors_77 : decode cX6_findDoors 77 = .ok (.baload, 1) := by decide +kernel
theorem dX6_findDoors_78 : decode cX6_findDoors 78 = .ok (.ifCond .eq 54, 3) := by decide +kernel
theorem dX6_findDoors_81 : decode cX6_findDoors 81 = .ok (.aload_n 0, 1) := by decide +kernel
theorem dX6_findDoors_82 : decode cX6_findDoors 82 = .ok (.iload_n 1, 1) := by decide +kernel
theorem dX6_findDoors_83 : decode cX6_findDoors 83 = .ok (.iload_n 3, 1) := by decide +kernel
theorem dX6_findDoors_84 : decode cX6_findDoors 84 = .ok (.iload 4, 2) := by decide +kernel
theorem dX6_findDoors_86 : decode cX6_findDoors 86 = .ok (.invokevirtual 168, 3) := by decide +kernel
theorem dX6_findDoors_89 : decode cX6_findDoors 89 = .ok (.ifCond .eq 37, 3) := by decide +kernel
theorem dX6_findDoors_92 : decode cX6_findDoors 92 = .ok (.aload_n 0, 1) := by decide +kernel
theorem dX6_findDoors_93 : decode cX6_findDoors 93 = .ok (.getfield 78, 3) := by decide +kernel
theorem dX6_findDoors_96 : decode cX6_findDoors 96 = .ok (.iload_n 3, 1) := by decide +kernel
theorem dX6_findDoors_97 : decode cX6_findDoors 97 = .ok (.aload_n 0, 1) := by decide +kernel
theorem dX6_findDoors_98 : decode cX6_findDoors 98 = .ok (.getfield 78, 3) := by decide +kernel
theorem dX6_findDoors_101 : decode cX6_findDoors 101 = .ok (.iload_n 3, 1) := by decide +kernel
theorem dX6_findDoors_102 : decode cX6_findDoors 102 = .ok (.baload, 1) := by decide +kernel
theorem dX6_findDoors_103 : decode cX6_findDoors 103 = .ok (.ifCond .ne 17, 3) := by decide +kernel
theorem dX6_findDoors_106 : decode cX6_findDoors 106 = .ok (.aload_n 0, 1) := by decide +kernel
theorem dX6_findDoors_107 : decode cX6_findDoors 107 = .ok (.getfield 78, 3) := by decide +kernel
theorem dX6_findDoors_110 : decode cX6_findDoors 110 = .ok (.iload_n 3, 1) := by decide +kernel
theorem dX6_findDoors_111 : decode cX6_findDoors 111 = .ok (.iconst 1, 1) := by decide +kernel
theorem dX6_findDoors_112 : decode cX6_findDoors 112 = .ok (.iload 4, 2) := by decide +kernel
theorem dX6_findDoors_114 : decode cX6_findDoors 114 = .ok (.ishl, 1) := by decide +kernel
theorem dX6_findDoors_115 : decode cX6_findDoors 115 = .ok (.ior, 1) := by decide +kernel
theorem dX6_findDoors_116 : decode cX6_findDoors 116 = .ok (.baload, 1) := by decide +kernel
theorem dX6_findDoors_117 : decode cX6_findDoors 117 = .ok (.ifCond .eq 7, 3) := by decide +kernel
theorem dX6_findDoors_120 : decode cX6_findDoors 120 = .ok (.iconst 1, 1) := by decide +kernel
theorem dX6_findDoors_121 : decode cX6_findDoors 121 = .ok (.goto 4, 3) := by decide +kernel
theorem dX6_findDoors_124 : decode cX6_findDoors 124 = .ok (.iconst 0, 1) := by decide +kernel
theorem dX6_findDoors_125 : decode cX6_findDoors 125 = .ok (.bastore, 1) := by decide +kernel
theorem dX6_findDoors_126 : decode cX6_findDoors 126 = .ok (.iinc 4 1, 3) := by decide +kernel
theorem dX6_findDoors_129 : decode cX6_findDoors 129 = .ok (.goto (-66), 3) := by decide +kernel
theorem dX6_findDoors_132 : decode cX6_findDoors 132 = .ok (.iinc 3 (-1), 3) := by decide +kernel
theorem dX6_findDoors_135 : decode cX6_findDoors 135 = .ok (.goto (-131), 3) := by decide +kernel
theorem dX6_findDoors_138 : decode cX6_findDoors 138 = .ok (.iconst 0, 1) := by decide +kernel
theorem dX6_findDoors_139 : decode cX6_findDoors 139 = .ok (.istore_n 3, 1) := by decide +kernel
theorem dX6_findDoors_140 : decode cX6_findDoors 140 = .ok (.iconst 0, 1) := by decide +kernel
theorem dX6_findDoors_141 : decode cX6_findDoors 141 = .ok (.istore 4, 2) := by decide +kernel
theorem dX6_findDoors_143 : decode cX6_findDoors 143 = .ok (.iload 4, 2) := by decide +kernel
theorem dX6_findDoors_145 : decode cX6_findDoors 145 = .ok (.aload_n 0, 1) := by decide +kernel
theorem dX6_findDoors_146 : decode cX6_findDoors 146 = .ok (.getfield 165, 3) := by decide +kernel
theorem dX6_findDoors_149 : decode cX6_findDoors 149 = .ok (.if_icmp .ge 64, 3) := by decide +kernel
theorem dX6_findDoors_152 : decode cX6_findDoors 152 = .ok (.iconst 0, 1) := by decide +kernel
theorem dX6_findDoors_153 : decode cX6_findDoors 153 = .ok (.istore 5, 2) := by decide +kernel
theorem dX6_findDoors_155 : decode cX6_findDoors 155 = .ok (.aload_n 0, 1) := by decide +kernel
theorem dX6_findDoors_156 : decode cX6_findDoors 156 = .ok (.iload_n 1, 1) := by decide +kernel
theorem dX6_findDoors_157 : decode cX6_findDoors 157 = .ok (.iload_n 3, 1) := by decide +kernel
theorem dX6_findDoors_158 : decode cX6_findDoors 158 = .ok (.iload 5, 2) := by decide +kernel
theorem dX6_findDoors_160 : decode cX6_findDoors 160 = .ok (.invokevirtual 168, 3) := by decide +kernel
theorem dX6_findDoors_163 : decode cX6_findDoors 163 = .ok (.ifCond .eq 17, 3) := by decide +kernel
theorem dX6_findDoors_166 : decode cX6_findDoors 166 = .ok (.aload_n 0, 1) := by decide +kernel
theorem dX6_findDoors_167 : decode cX6_findDoors 167 = .ok (.getfield 78, 3) := by decide +kernel
theorem dX6_findDoors_170 : decode cX6_findDoors 170 = .ok (.iload_n 3, 1) := by decide +kernel
theorem dX6_findDoors_171 : decode cX6_findDoors 171 = .ok (.iconst 1, 1) := by decide +kernel
theorem dX6_findDoors_172 : decode cX6_findDoors 172 = .ok (.iload 5, 2) := by decide +kernel
theorem dX6_findDoors_174 : decode cX6_findDoors 174 = .ok (.ishl, 1) := by decide +kernel
theorem dX6_findDoors_175 : decode cX6_findDoors 175 = .ok (.ior, 1) := by decide +kernel
theorem dX6_findDoors_176 : decode cX6_findDoors 176 = .ok (.baload, 1) := by decide +kernel
theorem dX6_findDoors_177 : decode cX6_findDoors 177 = .ok (.ifCond .ne 9, 3) := by decide +kernel
theorem dX6_findDoors_180 : decode cX6_findDoors 180 = .ok (.iinc 5 1, 3) := by decide +kernel
theorem dX6_findDoors_183 : decode cX6_findDoors 183 = .ok (.goto (-28), 3) := by decide +kernel
theorem dX6_findDoors_186 : decode cX6_findDoors 186 = .ok (.aload_n 0, 1) := by decide +kernel
theorem dX6_findDoors_187 : decode cX6_findDoors 187 = .ok (.getfield 81, 3) := by decide +kernel
theorem dX6_findDoors_190 : decode cX6_findDoors 190 = .ok (.iload 4, 2) := by decide +kernel
theorem dX6_findDoors_192 : decode cX6_findDoors 192 = .ok (.aload_n 0, 1) := by decide +kernel
theorem dX6_findDoors_193 : decode cX6_findDoors 193 = .ok (.getfield 65, 3) := by decide +kernel
theorem dX6_findDoors_196 : decode cX6_findDoors 196 = .ok (.iload 5, 2) := by decide +kernel
theorem dX6_findDoors_198 : decode cX6_findDoors 198 = .ok (.iaload, 1) := by decide +kernel
theorem dX6_findDoors_199 : decode cX6_findDoors 199 = .ok (.iastore, 1) := by decide +kernel
theorem dX6_findDoors_200 : decode cX6_findDoors 200 = .ok (.iload_n 3, 1) := by decide +kernel
theorem dX6_findDoors_201 : decode cX6_findDoors 201 = .ok (.iconst 1, 1) := by decide +kernel
theorem dX6_findDoors_202 : decode cX6_findDoors 202 = .ok (.iload 5, 2) := by decide +kernel
theorem dX6_findDoors_204 : decode cX6_findDoors 204 = .ok (.ishl, 1) := by decide +kernel
theorem dX6_findDoors_205 : decode cX6_findDoors 205 = .ok (.ior, 1) := by decide +kernel
theorem dX6_findDoors_206 : decode cX6_findDoors 206 = .ok (.istore_n 3, 1) := by decide +kernel
theorem dX6_findDoors_207 : decode cX6_findDoors 207 = .ok (.iinc 4 1, 3) := by decide +kernel
theorem dX6_findDoors_210 : decode cX6_findDoors 210 = .ok (.goto (-67), 3) := by decide +kernel
theorem dX6_findDoors_213 : decode cX6_findDoors 213 = .ok (.return_, 1) := by decide +kernel
theorem dX6_hint_0 : decode cX6_hint 0 = .ok (.aload_n 0, 1) := by decide +kernel
theorem dX6_hint_1 : decode cX6_hint 1 = .ok (.iload_n 1, 1) := by decide +kernel
theorem dX6_hint_2 : decode cX6_hint 2 = .ok (.invokevirtual 122, 3) := by decide +kernel
theorem dX6_hint_5 : decode cX6_hint 5 = .ok (.ifCond .eq 5, 3) := by decide +kernel
theorem dX6_hint_8 : decode cX6_hint 8 = .ok (.iconst (-1), 1) := by decide +kernel
theorem dX6_hint_9 : decode cX6_hint 9 = .ok (.ireturn, 1) := by decide +kernel
theorem dX6_hint_10 : decode cX6_hint 10 = .ok (.aload_n 0, 1) := by decide +kernel
theorem dX6_hint_11 : decode cX6_hint 11 = .ok (.iload_n 1, 1) := by decide +kernel
theorem dX6_hint_12 : decode cX6_hint 12 = .ok (.invokevirtual 128, 3) := by decide +kernel
theorem dX6_hint_15 : decode cX6_hint 15 = .ok (.ifCond .ne 6, 3) := by decide +kernel
theorem dX6_hint_18 : decode cX6_hint 18 = .ok (.bipush (-4), 2) := by decide +kernel
theorem dX6_hint_20 : decode cX6_hint 20 = .ok (.ireturn, 1) := by decide +kernel
theorem dX6_hint_21 : decode cX6_hint 21 = .ok (.aload_n 0, 1) := by decide +kernel
theorem dX6_hint_22 : decode cX6_hint 22 = .ok (.getfield 50, 3) := by decide +kernel
theorem dX6_hint_25 : decode cX6_hint 25 = .ok (.iload_n 1, 1) := by decide +kernel
theorem dX6_hint_26 : decode cX6_hint 26 = .ok (.iaload, 1) := by decide +kernel
theorem dX6_hint_27 : decode cX6_hint 27 = .ok (.aload_n 0, 1) := by decide +kernel
theorem dX6_hint_28 : decode cX6_hint 28 = .ok (.getfield 59, 3) := by decide +kernel
theorem dX6_hint_31 : decode cX6_hint 31 = .ok (.iadd, 1) := by decide +kernel
theorem dX6_hint_32 : decode cX6_hint 32 = .ok (.aload_n 0, 1) := by decide +kernel
theorem dX6_hint_33 : decode cX6_hint 33 = .ok (.getfield 62, 3) := by decide +kernel
theorem dX6_hint_36 : decode cX6_hint 36 = .ok (.aload_n 0, 1) := by decide +kernel
theorem dX6_hint_37 : decode cX6_hint 37 = .ok (.getfield 53, 3) := by decide +kernel
theorem dX6_hint_40 : decode cX6_hint 40 = .ok (.iload_n 1, 1) := by decide +kernel
theorem dX6_hint_41 : decode cX6_hint 41 = .ok (.iaload, 1) := by decide +kernel
theorem dX6_hint_42 : decode cX6_hint 42 = .ok (.imul, 1) := by decide +kernel
theorem dX6_hint_43 : decode cX6_hint 43 = .ok (.iadd, 1) := by decide +kernel
theorem dX6_hint_44 : decode cX6_hint 44 = .ok (.istore_n 2, 1) := by decide +kernel
theorem dX6_hint_45 : decode cX6_hint 45 = .ok (.iload_n 2, 1) := by decide +kernel
theorem dX6_hint_46 : decode cX6_hint 46 = .ok (.ldc 135, 2) := by decide +kernel
theorem dX6_hint_48 : decode cX6_hint 48 = .ok (.if_icmp .le 6, 3) := by decide +kernel
theorem dX6_hint_51 : decode cX6_hint 51 = .ok (.bipush (-5), 2) := by decide +kernel
theorem dX6_hint_53 : decode cX6_hint 53 = .ok (.ireturn, 1) := by decide +kernel
theorem dX6_hint_54 : decode cX6_hint 54 = .ok (.aload_n 0, 1) := by decide +kernel
theorem dX6_hint_55 : decode cX6_hint 55 = .ok (.getfield 50, 3) := by decide +kernel
theorem dX6_hint_58 : decode cX6_hint 58 = .ok (.iload_n 1, 1) := by decide +kernel
theorem dX6_hint_59 : decode cX6_hint 59 = .ok (.iload_n 2, 1) := by decide +kernel
theorem dX6_hint_60 : decode cX6_hint 60 = .ok (.iastore, 1) := by decide +kernel
theorem dX6_hint_61 : decode cX6_hint 61 = .ok (.aload_n 0, 1) := by decide +kernel
theorem dX6_hint_62 : decode cX6_hint 62 = .ok (.getfield 53, 3) := by decide +kernel
theorem dX6_hint_65 : decode cX6_hint 65 = .ok (.iload_n 1, 1) := by decide +kernel
theorem dX6_hint_66 : decode cX6_hint 66 = .ok (.dup2, 1) := by decide +kernel
theorem dX6_hint_67 : decode cX6_hint 67 = .ok (.iaload, 1) := by decide +kernel
theorem dX6_hint_68 : decode cX6_hint 68 = .ok (.iconst 1, 1) := by decide +kernel
theorem dX6_hint_69 : decode cX6_hint 69 = .ok (.iadd, 1) := by decide +kernel
theorem dX6_hint_70 : decode cX6_hint 70 = .ok (.iastore, 1) := by decide +kernel
theorem dX6_hint_71 : decode cX6_hint 71 = .ok (.aload_n 0, 1) := by decide +kernel
theorem dX6_hint_72 : decode cX6_hint 72 = .ok (.iload_n 1, 1) := by decide +kernel
theorem dX6_hint_73 : decode cX6_hint 73 = .ok (.invokevirtual 184, 3) := by decide +kernel
theorem dX6_hint_76 : decode cX6_hint 76 = .ok (.aload_n 0, 1) := by decide +kernel
theorem dX6_hint_77 : decode cX6_hint 77 = .ok (.getfield 162, 3) := by decide +kernel
theorem dX6_hint_80 : decode cX6_hint 80 = .ok (.ifCond .ge 8, 3) := by decide +kernel
theorem dX6_hint_83 : decode cX6_hint 83 = .ok (.bipush 17, 2) := by decide +kernel
theorem dX6_hint_85 : decode cX6_hint 85 = .ok (.goto 21, 3) := by decide +kernel
theorem dX6_hint_88 : decode cX6_hint 88 = .ok (.aload_n 0, 1) := by decide +kernel
theorem dX6_hint_89 : decode cX6_hint 89 = .ok (.getfield 165, 3) := by decide +kernel
theorem dX6_hint_92 : decode cX6_hint 92 = .ok (.ifCond .ne 8, 3) := by decide +kernel
theorem dX6_hint_95 : decode cX6_hint 95 = .ok (.bipush 16, 2) := by decide +kernel
theorem dX6_hint_97 : decode cX6_hint 97 = .ok (.goto 9, 3) := by decide +kernel
theorem dX6_hint_100 : decode cX6_hint 100 = .ok (.aload_n 0, 1) := by decide +kernel
theorem dX6_hint_101 : decode cX6_hint 101 = .ok (.getfield 81, 3) := by decide +kernel
theorem dX6_hint_104 : decode cX6_hint 104 = .ok (.iconst 0, 1) := by decide +kernel
theorem dX6_hint_105 : decode cX6_hint 105 = .ok (.iaload, 1) := by decide +kernel
theorem dX6_hint_106 : decode cX6_hint 106 = .ok (.ireturn, 1) := by decide +kernel
theorem dX6_plan_0 : decode cX6_plan 0 = .ok (.aload_n 0, 1) := by decide +kernel
theorem dX6_plan_1 : decode cX6_plan 1 = .ok (.iload_n 1, 1) := by decide +kernel
theorem dX6_plan_2 : decode cX6_plan 2 = .ok (.invokevirtual 122, 3) := by decide +kernel
theorem dX6_plan_5 : decode cX6_plan 5 = .ok (.ifCond .eq 5, 3) := by decide +kernel
theorem dX6_plan_8 : decode cX6_plan 8 = .ok (.iconst (-1), 1) := by decide +kernel
theorem dX6_plan_9 : decode cX6_plan 9 = .ok (.ireturn, 1) := by decide +kernel
theorem dX6_plan_10 : decode cX6_plan 10 = .ok (.iload_n 2, 1) := by decide +kernel
theorem dX6_plan_11 : decode cX6_plan 11 = .ok (.iconst 0, 1) := by decide +kernel
theorem dX6_plan_12 : decode cX6_plan 12 = .ok (.iconst 1, 1) := by decide +kernel
theorem dX6_plan_13 : decode cX6_plan 13 = .ok (.invokestatic 90, 3) := by decide +kernel
theorem dX6_plan_16 : decode cX6_plan 16 = .ok (.ifCond .ne 6, 3) := by decide +kernel
theorem dX6_plan_19 : decode cX6_plan 19 = .ok (.bipush (-2), 2) := by decide +kernel
theorem dX6_plan_21 : decode cX6_plan 21 = .ok (.ireturn, 1) := by decide +kernel
theorem dX6_plan_22 : decode cX6_plan 22 = .ok (.aload_n 0, 1) := by decide +kernel
theorem dX6_plan_23 : decode cX6_plan 23 = .ok (.iload_n 1, 1) := by decide +kernel
theorem dX6_plan_24 : decode cX6_plan 24 = .ok (.invokevirtual 128, 3) := by decide +kernel
theorem dX6_plan_27 : decode cX6_plan 27 = .ok (.ifCond .ne 6, 3) := by decide +kernel
theorem dX6_plan_30 : decode cX6_plan 30 = .ok (.bipush (-4), 2) := by decide +kernel
theorem dX6_plan_32 : decode cX6_plan 32 = .ok (.ireturn, 1) := by decide +kernel
theorem dX6_plan_33 : decode cX6_plan 33 = .ok (.aload_n 0, 1) := by decide +kernel
theorem dX6_plan_34 : decode cX6_plan 34 = .ok (.iload_n 1, 1) := by decide +kernel
theorem dX6_plan_35 : decode cX6_plan 35 = .ok (.invokevirtual 184, 3) := by decide +kernel
theorem dX6_plan_38 : decode cX6_plan 38 = .ok (.aload_n 0, 1) := by decide +kernel
theorem dX6_plan_39 : decode cX6_plan 39 = .ok (.getfield 162, 3) := by decide +kernel
theorem dX6_plan_42 : decode cX6_plan 42 = .ok (.ifCond .ge 8, 3) := by decide +kernel
theorem dX6_plan_45 : decode cX6_plan 45 = .ok (.bipush (-6), 2) := by decide +kernel
theorem dX6_plan_47 : decode cX6_plan 47 = .ok (.goto 18, 3) := by decide +kernel
theorem dX6_plan_50 : decode cX6_plan 50 = .ok (.iload_n 2, 1) := by decide +kernel
theorem dX6_plan_51 : decode cX6_plan 51 = .ok (.ifCond .ne 10, 3) := by decide +kernel
theorem dX6_plan_54 : decode cX6_plan 54 = .ok (.aload_n 0, 1) := by decide +kernel
theorem dX6_plan_55 : decode cX6_plan 55 = .ok (.getfield 162, 3) := by decide +kernel
theorem dX6_plan_58 : decode cX6_plan 58 = .ok (.goto 7, 3) := by decide +kernel
theorem dX6_plan_61 : decode cX6_plan 61 = .ok (.aload_n 0, 1) := by decide +kernel
theorem dX6_plan_62 : decode cX6_plan 62 = .ok (.getfield 165, 3) := by decide +kernel
theorem dX6_plan_65 : decode cX6_plan 65 = .ok (.ireturn, 1) := by decide +kernel
theorem dX6_planned_0 : decode cX6_planned 0 = .ok (.aload_n 0, 1) := by decide +kernel
theorem dX6_planned_1 : decode cX6_planned 1 = .ok (.iload_n 1, 1) := by decide +kernel
theorem dX6_planned_2 : decode cX6_planned 2 = .ok (.invokevirtual 122, 3) := by decide +kernel
theorem dX6_planned_5 : decode cX6_planned 5 = .ok (.ifCond .eq 5, 3) := by decide +kernel
theorem dX6_planned_8 : decode cX6_planned 8 = .ok (.iconst (-1), 1) := by decide +kernel
theorem dX6_planned_9 : decode cX6_planned 9 = .ok (.ireturn, 1) := by decide +kernel
theorem dX6_planned_10 : decode cX6_planned 10 = .ok (.iload_n 2, 1) := by decide +kernel
theorem dX6_planned_11 : decode cX6_planned 11 = .ok (.ifCond .ge 6, 3) := by decide +kernel
theorem dX6_planned_14 : decode cX6_planned 14 = .ok (.bipush (-2), 2) := by decide +kernel
theorem dX6_planned_16 : decode cX6_planned 16 = .ok (.ireturn, 1) := by decide +kernel
theorem dX6_planned_17 : decode cX6_planned 17 = .ok (.aload_n 0, 1) := by decide +kernel
theorem dX6_planned_18 : decode cX6_planned 18 = .ok (.iload_n 1, 1) := by decide +kernel
theorem dX6_planned_19 : decode cX6_planned 19 = .ok (.invokevirtual 128, 3) := by decide +kernel
theorem dX6_planned_22 : decode cX6_planned 22 = .ok (.ifCond .ne 6, 3) := by decide +kernel
theorem dX6_planned_25 : decode cX6_planned 25 = .ok (.bipush (-4), 2) := by decide +kernel
theorem dX6_planned_27 : decode cX6_planned 27 = .ok (.ireturn, 1) := by decide +kernel
theorem dX6_planned_28 : decode cX6_planned 28 = .ok (.aload_n 0, 1) := by decide +kernel
theorem dX6_planned_29 : decode cX6_planned 29 = .ok (.iload_n 1, 1) := by decide +kernel
theorem dX6_planned_30 : decode cX6_planned 30 = .ok (.invokevirtual 184, 3) := by decide +kernel
theorem dX6_planned_33 : decode cX6_planned 33 = .ok (.aload_n 0, 1) := by decide +kernel
theorem dX6_planned_34 : decode cX6_planned 34 = .ok (.getfield 162, 3) := by decide +kernel
theorem dX6_planned_37 : decode cX6_planned 37 = .ok (.ifCond .lt 20, 3) := by decide +kernel
theorem dX6_planned_40 : decode cX6_planned 40 = .ok (.iload_n 2, 1) := by decide +kernel
theorem dX6_planned_41 : decode cX6_planned 41 = .ok (.aload_n 0, 1) := by decide +kernel
theorem dX6_planned_42 : decode cX6_planned 42 = .ok (.getfield 165, 3) := by decide +kernel
theorem dX6_planned_45 : decode cX6_planned 45 = .ok (.if_icmp .ge 12, 3) := by decide +kernel
theorem dX6_planned_48 : decode cX6_planned 48 = .ok (.aload_n 0, 1) := by decide +kernel
theorem dX6_planned_49 : decode cX6_planned 49 = .ok (.getfield 81, 3) := by decide +kernel
theorem dX6_planned_52 : decode cX6_planned 52 = .ok (.iload_n 2, 1) := by decide +kernel
theorem dX6_planned_53 : decode cX6_planned 53 = .ok (.iaload, 1) := by decide +kernel
theorem dX6_planned_54 : decode cX6_planned 54 = .ok (.goto 5, 3) := by decide +kernel
theorem dX6_planned_57 : decode cX6_planned 57 = .ok (.bipush (-6), 2) := by decide +kernel
theorem dX6_planned_59 : decode cX6_planned 59 = .ok (.ireturn, 1) := by decide +kernel
theorem dX6_way_0 : decode cX6_way 0 = .ok (.aload_n 0, 1) := by decide +kernel
theorem dX6_way_1 : decode cX6_way 1 = .ok (.iload_n 1, 1) := by decide +kernel
theorem dX6_way_2 : decode cX6_way 2 = .ok (.invokevirtual 122, 3) := by decide +kernel
theorem dX6_way_5 : decode cX6_way 5 = .ok (.ifCond .ne 11, 3) := by decide +kernel
theorem dX6_way_8 : decode cX6_way 8 = .ok (.aload_n 0, 1) := by decide +kernel
theorem dX6_way_9 : decode cX6_way 9 = .ok (.iload_n 2, 1) := by decide +kernel
theorem dX6_way_10 : decode cX6_way 10 = .ok (.invokevirtual 103, 3) := by decide +kernel
theorem dX6_way_13 : decode cX6_way 13 = .ok (.ifCond .eq 5, 3) := by decide +kernel
theorem dX6_way_16 : decode cX6_way 16 = .ok (.iconst (-1), 1) := by decide +kernel
theorem dX6_way_17 : decode cX6_way 17 = .ok (.ireturn, 1) := by decide +kernel
theorem dX6_way_18 : decode cX6_way 18 = .ok (.aload_n 0, 1) := by decide +kernel
theorem dX6_way_19 : decode cX6_way 19 = .ok (.iload_n 1, 1) := by decide +kernel
theorem dX6_way_20 : decode cX6_way 20 = .ok (.invokevirtual 128, 3) := by decide +kernel
theorem dX6_way_23 : decode cX6_way 23 = .ok (.ifCond .ne 6, 3) := by decide +kernel
theorem dX6_way_26 : decode cX6_way 26 = .ok (.bipush (-4), 2) := by decide +kernel
theorem dX6_way_28 : decode cX6_way 28 = .ok (.ireturn, 1) := by decide +kernel
theorem dX6_way_29 : decode cX6_way 29 = .ok (.iconst 0, 1) := by decide +kernel
theorem dX6_way_30 : decode cX6_way 30 = .ok (.istore_n 3, 1) := by decide +kernel
theorem dX6_way_31 : decode cX6_way 31 = .ok (.iload_n 3, 1) := by decide +kernel
theorem dX6_way_32 : decode cX6_way 32 = .ok (.aload_n 0, 1) := by decide +kernel
theorem dX6_way_33 : decode cX6_way 33 = .ok (.getfield 87, 3) := by decide +kernel
theorem dX6_way_36 : decode cX6_way 36 = .ok (.if_icmp .ge 36, 3) := by decide +kernel
theorem dX6_way_39 : decode cX6_way 39 = .ok (.aload_n 0, 1) := by decide +kernel
theorem dX6_way_40 : decode cX6_way 40 = .ok (.getfield 84, 3) := by decide +kernel
theorem dX6_way_43 : decode cX6_way 43 = .ok (.iload_n 3, 1) := by decide +kernel
theorem dX6_way_44 : decode cX6_way 44 = .ok (.iload_n 3, 1) := by decide +kernel
theorem dX6_way_45 : decode cX6_way 45 = .ok (.aload_n 0, 1) := by decide +kernel
theorem dX6_way_46 : decode cX6_way 46 = .ok (.getfield 47, 3) := by decide +kernel
theorem dX6_way_49 : decode cX6_way 49 = .ok (.iload_n 1, 1) := by decide +kernel
theorem dX6_way_50 : decode cX6_way 50 = .ok (.iaload, 1) := by decide +kernel
theorem dX6_way_51 : decode cX6_way 51 = .ok (.if_icmp .ne 12, 3) := by decide +kernel
theorem dX6_way_54 : decode cX6_way 54 = .ok (.aload_n 0, 1) := by decide +kernel
theorem dX6_way_55 : decode cX6_way 55 = .ok (.getfield 50, 3) := by decide +kernel
theorem dX6_way_58 : decode cX6_way 58 = .ok (.iload_n 1, 1) := by decide +kernel
theorem dX6_way_59 : decode cX6_way 59 = .ok (.iaload, 1) := by decide +kernel
theorem dX6_way_60 : decode cX6_way 60 = .ok (.goto 5, 3) := by decide +kernel
theorem dX6_way_63 : decode cX6_way 63 = .ok (.ldc 188, 2) := by decide +kernel
theorem dX6_way_65 : decode cX6_way 65 = .ok (.iastore, 1) := by decide +kernel
theorem dX6_way_66 : decode cX6_way 66 = .ok (.iinc 3 1, 3) := by decide +kernel
theorem dX6_way_69 : decode cX6_way 69 = .ok (.goto (-38), 3) := by decide +kernel
theorem dX6_way_72 : decode cX6_way 72 = .ok (.iconst 1, 1) := by decide +kernel
theorem dX6_way_73 : decode cX6_way 73 = .ok (.istore_n 3, 1) := by decide +kernel
theorem dX6_way_74 : decode cX6_way 74 = .ok (.iload_n 3, 1) := by decide +kernel
theorem dX6_way_75 : decode cX6_way 75 = .ok (.ifCond .eq 102, 3) := by decide +kernel
theorem dX6_way_78 : decode cX6_way 78 = .ok (.iconst 0, 1) := by decide +kernel
theorem dX6_way_79 : decode cX6_way 79 = .ok (.istore_n 3, 1) := by decide +kernel
theorem dX6_way_80 : decode cX6_way 80 = .ok (.iconst 0, 1) := by decide +kernel
theorem dX6_way_81 : decode cX6_way 81 = .ok (.istore 4, 2) := by decide +kernel
theorem dX6_way_83 : decode cX6_way 83 = .ok (.iload 4, 2) := by decide +kernel
theorem dX6_way_85 : decode cX6_way 85 = .ok (.aload_n 0, 1) := by decide +kernel
theorem dX6_way_86 : decode cX6_way 86 = .ok (.getfield 94, 3) := by decide +kernel
theorem dX6_way_89 : decode cX6_way 89 = .ok (.if_icmp .ge 85, 3) := by decide +kernel
theorem dX6_way_92 : decode cX6_way 92 = .ok (.aload_n 0, 1) := by decide +kernel
theorem dX6_way_93 : decode cX6_way 93 = .ok (.getfield 29, 3) := by decide +kernel
theorem dX6_way_96 : decode cX6_way 96 = .ok (.iload 4, 2) := by decide +kernel
theorem dX6_way_98 : decode cX6_way 98 = .ok (.iaload, 1) := by decide +kernel
theorem dX6_way_99 : decode cX6_way 99 = .ok (.ifCond .lt 69, 3) := by decide +kernel
theorem dX6_way_102 : decode cX6_way 102 = .ok (.aload_n 0, 1) := by decide +kernel
theorem dX6_way_103 : decode cX6_way 103 = .ok (.aload_n 0, 1) := by decide +kernel
theorem dX6_way_104 : decode cX6_way 104 = .ok (.getfield 13, 3) := by decide +kernel
theorem dX6_way_107 : decode cX6_way 107 = .ok (.iload 4, 2) := by decide +kernel
theorem dX6_way_109 : decode cX6_way 109 = .ok (.iaload, 1) := by decide +kernel
theorem dX6_way_110 : decode cX6_way 110 = .ok (.aload_n 0, 1) := by decide +kernel
theorem dX6_way_111 : decode cX6_way 111 = .ok (.getfield 17, 3) := by decide +kernel
theorem dX6_way_114 : decode cX6_way 114 = .ok (.iload 4, 2) := by decide +kernel
theorem dX6_way_116 : decode cX6_way 116 = .ok (.iaload, 1) := by decide +kernel
theorem dX6_way_117 : decode cX6_way 117 = .ok (.iload 4, 2) := by decide +kernel
theorem dX6_way_119 : decode cX6_way 119 = .ok (.invokevirtual 189, 3) := by decide +kernel
theorem dX6_way_122 : decode cX6_way 122 = .ok (.ifCond .ne 7, 3) := by decide +kernel
theorem dX6_way_125 : decode cX6_way 125 = .ok (.iload_n 3, 1) := by decide +kernel
theorem dX6_way_126 : decode cX6_way 126 = .ok (.ifCond .eq 7, 3) := by decide +kernel
theorem dX6_way_129 : decode cX6_way 129 = .ok (.iconst 1, 1) := by decide +kernel
theorem dX6_way_130 : decode cX6_way 130 = .ok (.goto 4, 3) := by decide +kernel
theorem dX6_way_133 : decode cX6_way 133 = .ok (.iconst 0, 1) := by decide +kernel
theorem dX6_way_134 : decode cX6_way 134 = .ok (.istore_n 3, 1) := by decide +kernel
theorem dX6_way_135 : decode cX6_way 135 = .ok (.aload_n 0, 1) := by decide +kernel
theorem dX6_way_136 : decode cX6_way 136 = .ok (.aload_n 0, 1) := by decide +kernel
theorem dX6_way_137 : decode cX6_way 137 = .ok (.getfield 17, 3) := by decide +kernel
theorem dX6_way_140 : decode cX6_way 140 = .ok (.iload 4, 2) := by decide +kernel
theorem dX6_way_142 : decode cX6_way 142 = .ok (.iaload, 1) := by decide +kernel
theorem dX6_way_143 : decode cX6_way 143 = .ok (.aload_n 0, 1) := by decide +kernel
theorem dX6_way_144 : decode cX6_way 144 = .ok (.getfield 13, 3) := by decide +kernel
theorem dX6_way_147 : decode cX6_way 147 = .ok (.iload 4, 2) := by decide +kernel
theorem dX6_way_149 : decode cX6_way 149 = .ok (.iaload, 1) := by decide +kernel
theorem dX6_way_150 : decode cX6_way 150 = .ok (.iload 4, 2) := by decide +kernel
theorem dX6_way_152 : decode cX6_way 152 = .ok (.invokevirtual 189, 3) := by decide +kernel
theorem dX6_way_155 : decode cX6_way 155 = .ok (.ifCond .ne 7, 3) := by decide +kernel
theorem dX6_way_158 : decode cX6_way 158 = .ok (.iload_n 3, 1) := by decide +kernel
theorem dX6_way_159 : decode cX6_way 159 = .ok (.ifCond .eq 7, 3) := by decide +kernel
theorem dX6_way_162 : decode cX6_way 162 = .ok (.iconst 1, 1) := by decide +kernel
theorem dX6_way_163 : decode cX6_way 163 = .ok (.goto 4, 3) := by decide +kernel
theorem dX6_way_166 : decode cX6_way 166 = .ok (.iconst 0, 1) := by decide +kernel
theorem dX6_way_167 : decode cX6_way 167 = .ok (.istore_n 3, 1) := by decide +kernel
theorem dX6_way_168 : decode cX6_way 168 = .ok (.iinc 4 1, 3) := by decide +kernel
theorem dX6_way_171 : decode cX6_way 171 = .ok (.goto (-88), 3) := by decide +kernel
theorem dX6_way_174 : decode cX6_way 174 = .ok (.goto (-100), 3) := by decide +kernel
theorem dX6_way_177 : decode cX6_way 177 = .ok (.aload_n 0, 1) := by decide +kernel
theorem dX6_way_178 : decode cX6_way 178 = .ok (.getfield 84, 3) := by decide +kernel
theorem dX6_way_181 : decode cX6_way 181 = .ok (.iload_n 2, 1) := by decide +kernel
theorem dX6_way_182 : decode cX6_way 182 = .ok (.iaload, 1) := by decide +kernel
theorem dX6_way_183 : decode cX6_way 183 = .ok (.ldc 188, 2) := by decide +kernel
theorem dX6_way_185 : decode cX6_way 185 = .ok (.if_icmp .ne 8, 3) := by decide +kernel
theorem dX6_way_188 : decode cX6_way 188 = .ok (.bipush (-6), 2) := by decide +kernel
theorem dX6_way_190 : decode cX6_way 190 = .ok (.goto 16, 3) := by decide +kernel
theorem dX6_way_193 : decode cX6_way 193 = .ok (.aload_n 0, 1) := by decide +kernel
theorem dX6_way_194 : decode cX6_way 194 = .ok (.getfield 84, 3) := by decide +kernel
theorem dX6_way_197 : decode cX6_way 197 = .ok (.iload_n 2, 1) := by decide +kernel
theorem dX6_way_198 : decode cX6_way 198 = .ok (.iaload, 1) := by decide +kernel
theorem dX6_way_199 : decode cX6_way 199 = .ok (.aload_n 0, 1) := by decide +kernel
theorem dX6_way_200 : decode cX6_way 200 = .ok (.getfield 50, 3) := by decide +kernel
theorem dX6_way_203 : decode cX6_way 203 = .ok (.iload_n 1, 1) := by decide +kernel
theorem dX6_way_204 : decode cX6_way 204 = .ok (.iaload, 1) := by decide +kernel
theorem dX6_way_205 : decode cX6_way 205 = .ok (.isub, 1) := by decide +kernel
theorem dX6_way_206 : decode cX6_way 206 = .ok (.ireturn, 1) := by decide +kernel
theorem dX6_passes_0 : decode cX6_passes 0 = .ok (.aload_n 0, 1) := by decide +kernel
theorem dX6_passes_1 : decode cX6_passes 1 = .ok (.getfield 84, 3) := by decide +kernel
theorem dX6_passes_4 : decode cX6_passes 4 = .ok (.iload_n 1, 1) := by decide +kernel
theorem dX6_passes_5 : decode cX6_passes 5 = .ok (.iaload, 1) := by decide +kernel
theorem dX6_passes_6 : decode cX6_passes 6 = .ok (.ldc 188, 2) := by decide +kernel
theorem dX6_passes_8 : decode cX6_passes 8 = .ok (.if_icmp .ne 5, 3) := by decide +kernel
theorem dX6_passes_11 : decode cX6_passes 11 = .ok (.iconst 0, 1) := by decide +kernel
theorem dX6_passes_12 : decode cX6_passes 12 = .ok (.ireturn, 1) := by decide +kernel
theorem dX6_passes_13 : decode cX6_passes 13 = .ok (.aload_n 0, 1) := by decide +kernel
theorem dX6_passes_14 : decode cX6_passes 14 = .ok (.getfield 84, 3) := by decide +kernel
theorem dX6_passes_17 : decode cX6_passes 17 = .ok (.iload_n 1, 1) := by decide +kernel
theorem dX6_passes_18 : decode cX6_passes 18 = .ok (.iaload, 1) := by decide +kernel
theorem dX6_passes_19 : decode cX6_passes 19 = .ok (.aload_n 0, 1) := by decide +kernel
theorem dX6_passes_20 : decode cX6_passes 20 = .ok (.getfield 29, 3) := by decide +kernel
theorem dX6_passes_23 : decode cX6_passes 23 = .ok (.iload_n 3, 1) := by decide +kernel
theorem dX6_passes_24 : decode cX6_passes 24 = .ok (.iaload, 1) := by decide +kernel
theorem dX6_passes_25 : decode cX6_passes 25 = .ok (.if_icmp .ge 12, 3) := by decide +kernel
theorem dX6_passes_28 : decode cX6_passes 28 = .ok (.aload_n 0, 1) := by decide +kernel
theorem dX6_passes_29 : decode cX6_passes 29 = .ok (.getfield 29, 3) := by decide +kernel
theorem dX6_passes_32 : decode cX6_passes 32 = .ok (.iload_n 3, 1) := by decide +kernel
theorem dX6_passes_33 : decode cX6_passes 33 = .ok (.iaload, 1) := by decide +kernel
theorem dX6_passes_34 : decode cX6_passes 34 = .ok (.goto 9, 3) := by decide +kernel
theorem dX6_passes_37 : decode cX6_passes 37 = .ok (.aload_n 0, 1) := by decide +kernel
theorem dX6_passes_38 : decode cX6_passes 38 = .ok (.getfield 84, 3) := by decide +kernel
theorem dX6_passes_41 : decode cX6_passes 41 = .ok (.iload_n 1, 1) := by decide +kernel
theorem dX6_passes_42 : decode cX6_passes 42 = .ok (.iaload, 1) := by decide +kernel
theorem dX6_passes_43 : decode cX6_passes 43 = .ok (.aload_n 0, 1) := by decide +kernel
theorem dX6_passes_44 : decode cX6_passes 44 = .ok (.getfield 20, 3) := by decide +kernel
theorem dX6_passes_47 : decode cX6_passes 47 = .ok (.iload_n 3, 1) := by decide +kernel
theorem dX6_passes_48 : decode cX6_passes 48 = .ok (.iaload, 1) := by decide +kernel
theorem dX6_passes_49 : decode cX6_passes 49 = .ok (.iadd, 1) := by decide +kernel
theorem dX6_passes_50 : decode cX6_passes 50 = .ok (.istore 4, 2) := by decide +kernel
theorem dX6_passes_52 : decode cX6_passes 52 = .ok (.iload 4, 2) := by decide +kernel
theorem dX6_passes_54 : decode cX6_passes 54 = .ok (.aload_n 0, 1) := by decide +kernel
theorem dX6_passes_55 : decode cX6_passes 55 = .ok (.getfield 84, 3) := by decide +kernel
theorem dX6_passes_58 : decode cX6_passes 58 = .ok (.iload_n 2, 1) := by decide +kernel
theorem dX6_passes_59 : decode cX6_passes 59 = .ok (.iaload, 1) := by decide +kernel
theorem dX6_passes_60 : decode cX6_passes 60 = .ok (.if_icmp .lt 5, 3) := by decide +kernel
theorem dX6_passes_63 : decode cX6_passes 63 = .ok (.iconst 0, 1) := by decide +kernel
theorem dX6_passes_64 : decode cX6_passes 64 = .ok (.ireturn, 1) := by decide +kernel
theorem dX6_passes_65 : decode cX6_passes 65 = .ok (.aload_n 0, 1) := by decide +kernel
theorem dX6_passes_66 : decode cX6_passes 66 = .ok (.getfield 84, 3) := by decide +kernel
theorem dX6_passes_69 : decode cX6_passes 69 = .ok (.iload_n 2, 1) := by decide +kernel
theorem dX6_passes_70 : decode cX6_passes 70 = .ok (.iload 4, 2) := by decide +kernel
theorem dX6_passes_72 : decode cX6_passes 72 = .ok (.iastore, 1) := by decide +kernel
theorem dX6_passes_73 : decode cX6_passes 73 = .ok (.iconst 1, 1) := by decide +kernel
theorem dX6_passes_74 : decode cX6_passes 74 = .ok (.ireturn, 1) := by decide +kernel
theorem dX6_reach_0 : decode cX6_reach 0 = .ok (.aload_n 0, 1) := by decide +kernel
theorem dX6_reach_1 : decode cX6_reach 1 = .ok (.iload_n 1, 1) := by decide +kernel
theorem dX6_reach_2 : decode cX6_reach 2 = .ok (.invokevirtual 122, 3) := by decide +kernel
theorem dX6_reach_5 : decode cX6_reach 5 = .ok (.ifCond .eq 5, 3) := by decide +kernel
theorem dX6_reach_8 : decode cX6_reach 8 = .ok (.iconst (-1), 1) := by decide +kernel
theorem dX6_reach_9 : decode cX6_reach 9 = .ok (.ireturn, 1) := by decide +kernel
theorem dX6_reach_10 : decode cX6_reach 10 = .ok (.aload_n 0, 1) := by decide +kernel
theorem dX6_reach_11 : decode cX6_reach 11 = .ok (.iload_n 1, 1) := by decide +kernel
theorem dX6_reach_12 : decode cX6_reach 12 = .ok (.invokevirtual 128, 3) := by decide +kernel
theorem dX6_reach_15 : decode cX6_reach 15 = .ok (.ifCond .eq 17, 3) := by decide +kernel
theorem dX6_reach_18 : decode cX6_reach 18 = .ok (.aload_n 0, 1) := by decide +kernel
theorem dX6_reach_19 : decode cX6_reach 19 = .ok (.aload_n 0, 1) := by decide +kernel
theorem dX6_reach_20 : decode cX6_reach 20 = .ok (.getfield 47, 3) := by decide +kernel
theorem dX6_reach_23 : decode cX6_reach 23 = .ok (.iload_n 1, 1) := by decide +kernel
theorem dX6_reach_24 : decode cX6_reach 24 = .ok (.iaload, 1) := by decide +kernel
theorem dX6_reach_25 : decode cX6_reach 25 = .ok (.iconst 0, 1) := by decide +kernel
theorem dX6_reach_26 : decode cX6_reach 26 = .ok (.invokevirtual 159, 3) := by decide +kernel
theorem dX6_reach_29 : decode cX6_reach 29 = .ok (.goto 5, 3) := by decide +kernel
theorem dX6_reach_32 : decode cX6_reach 32 = .ok (.bipush (-4), 2) := by decide +kernel
theorem dX6_reach_34 : decode cX6_reach 34 = .ok (.ireturn, 1) := by decide +kernel
theorem dX6_door_0 : decode cX6_door 0 = .ok (.aload_n 0, 1) := by decide +kernel
theorem dX6_door_1 : decode cX6_door 1 = .ok (.iload_n 1, 1) := by decide +kernel
theorem dX6_door_2 : decode cX6_door 2 = .ok (.invokevirtual 125, 3) := by decide +kernel
theorem dX6_door_5 : decode cX6_door 5 = .ok (.ifCond .eq 5, 3) := by decide +kernel
theorem dX6_door_8 : decode cX6_door 8 = .ok (.iconst (-1), 1) := by decide +kernel
theorem dX6_door_9 : decode cX6_door 9 = .ok (.ireturn, 1) := by decide +kernel
theorem dX6_door_10 : decode cX6_door 10 = .ok (.iload_n 2, 1) := by decide +kernel
theorem dX6_door_11 : decode cX6_door 11 = .ok (.tableswitch 79 0 5 #[37, 44, 51, 58, 65, 72], 37) := by decide +kernel
theorem dX6_door_48 : decode cX6_door 48 = .ok (.aload_n 0, 1) := by decide +kernel
theorem dX6_door_49 : decode cX6_door 49 = .ok (.getfield 13, 3) := by decide +kernel
theorem dX6_door_52 : decode cX6_door 52 = .ok (.iload_n 1, 1) := by decide +kernel
theorem dX6_door_53 : decode cX6_door 53 = .ok (.iaload, 1) := by decide +kernel
theorem dX6_door_54 : decode cX6_door 54 = .ok (.ireturn, 1) := by decide +kernel
theorem dX6_door_55 : decode cX6_door 55 = .ok (.aload_n 0, 1) := by decide +kernel
theorem dX6_door_56 : decode cX6_door 56 = .ok (.getfield 17, 3) := by decide +kernel
theorem dX6_door_59 : decode cX6_door 59 = .ok (.iload_n 1, 1) := by decide +kernel
theorem dX6_door_60 : decode cX6_door 60 = .ok (.iaload, 1) := by decide +kernel
theorem dX6_door_61 : decode cX6_door 61 = .ok (.ireturn, 1) := by decide +kernel
theorem dX6_door_62 : decode cX6_door 62 = .ok (.aload_n 0, 1) := by decide +kernel
theorem dX6_door_63 : decode cX6_door 63 = .ok (.getfield 20, 3) := by decide +kernel
theorem dX6_door_66 : decode cX6_door 66 = .ok (.iload_n 1, 1) := by decide +kernel
theorem dX6_door_67 : decode cX6_door 67 = .ok (.iaload, 1) := by decide +kernel
theorem dX6_door_68 : decode cX6_door 68 = .ok (.ireturn, 1) := by decide +kernel
theorem dX6_door_69 : decode cX6_door 69 = .ok (.aload_n 0, 1) := by decide +kernel
theorem dX6_door_70 : decode cX6_door 70 = .ok (.getfield 23, 3) := by decide +kernel
theorem dX6_door_73 : decode cX6_door 73 = .ok (.iload_n 1, 1) := by decide +kernel
theorem dX6_door_74 : decode cX6_door 74 = .ok (.iaload, 1) := by decide +kernel
theorem dX6_door_75 : decode cX6_door 75 = .ok (.ireturn, 1) := by decide +kernel
theorem dX6_door_76 : decode cX6_door 76 = .ok (.aload_n 0, 1) := by decide +kernel
theorem dX6_door_77 : decode cX6_door 77 = .ok (.getfield 26, 3) := by decide +kernel
theorem dX6_door_80 : decode cX6_door 80 = .ok (.iload_n 1, 1) := by decide +kernel
theorem dX6_door_81 : decode cX6_door 81 = .ok (.iaload, 1) := by decide +kernel
theorem dX6_door_82 : decode cX6_door 82 = .ok (.ireturn, 1) := by decide +kernel
theorem dX6_door_83 : decode cX6_door 83 = .ok (.aload_n 0, 1) := by decide +kernel
theorem dX6_door_84 : decode cX6_door 84 = .ok (.getfield 29, 3) := by decide +kernel
theorem dX6_door_87 : decode cX6_door 87 = .ok (.iload_n 1, 1) := by decide +kernel
theorem dX6_door_88 : decode cX6_door 88 = .ok (.iaload, 1) := by decide +kernel
theorem dX6_door_89 : decode cX6_door 89 = .ok (.ireturn, 1) := by decide +kernel
theorem dX6_door_90 : decode cX6_door 90 = .ok (.bipush (-2), 2) := by decide +kernel
theorem dX6_door_92 : decode cX6_door 92 = .ok (.ireturn, 1) := by decide +kernel
theorem dX6_key_0 : decode cX6_key 0 = .ok (.aload_n 0, 1) := by decide +kernel
theorem dX6_key_1 : decode cX6_key 1 = .ok (.iload_n 1, 1) := by decide +kernel
theorem dX6_key_2 : decode cX6_key 2 = .ok (.invokevirtual 143, 3) := by decide +kernel
theorem dX6_key_5 : decode cX6_key 5 = .ok (.ifCond .eq 5, 3) := by decide +kernel
theorem dX6_key_8 : decode cX6_key 8 = .ok (.iconst (-1), 1) := by decide +kernel
theorem dX6_key_9 : decode cX6_key 9 = .ok (.ireturn, 1) := by decide +kernel
theorem dX6_key_10 : decode cX6_key 10 = .ok (.iload_n 2, 1) := by decide +kernel
theorem dX6_key_11 : decode cX6_key 11 = .ok (.tableswitch 112 0 4 #[33, 40, 47, 68, 90], 33) := by decide +kernel
theorem dX6_key_44 : decode cX6_key 44 = .ok (.aload_n 0, 1) := by decide +kernel
theorem dX6_key_45 : decode cX6_key 45 = .ok (.getfield 32, 3) := by decide +kernel
theorem dX6_key_48 : decode cX6_key 48 = .ok (.iload_n 1, 1) := by decide +kernel
theorem dX6_key_49 : decode cX6_key 49 = .ok (.iaload, 1) := by decide +kernel
theorem dX6_key_50 : decode cX6_key 50 = .ok (.ireturn, 1) := by decide +kernel
theorem dX6_key_51 : decode cX6_key 51 = .ok (.aload_n 0, 1) := by decide +kernel
theorem dX6_key_52 : decode cX6_key 52 = .ok (.getfield 35, 3) := by decide +kernel
theorem dX6_key_55 : decode cX6_key 55 = .ok (.iload_n 1, 1) := by decide +kernel
theorem dX6_key_56 : decode cX6_key 56 = .ok (.iaload, 1) := by decide +kernel
theorem dX6_key_57 : decode cX6_key 57 = .ok (.ireturn, 1) := by decide +kernel
theorem dX6_key_58 : decode cX6_key 58 = .ok (.aload_n 0, 1) := by decide +kernel
theorem dX6_key_59 : decode cX6_key 59 = .ok (.getfield 35, 3) := by decide +kernel
theorem dX6_key_62 : decode cX6_key 62 = .ok (.iload_n 1, 1) := by decide +kernel
theorem dX6_key_63 : decode cX6_key 63 = .ok (.iaload, 1) := by decide +kernel
theorem dX6_key_64 : decode cX6_key 64 = .ok (.ifCond .ne 12, 3) := by decide +kernel
theorem dX6_key_67 : decode cX6_key 67 = .ok (.aload_n 0, 1) := by decide +kernel
theorem dX6_key_68 : decode cX6_key 68 = .ok (.getfield 38, 3) := by decide +kernel
theorem dX6_key_71 : decode cX6_key 71 = .ok (.iload_n 1, 1) := by decide +kernel
theorem dX6_key_72 : decode cX6_key 72 = .ok (.iaload, 1) := by decide +kernel
theorem dX6_key_73 : decode cX6_key 73 = .ok (.goto 5, 3) := by decide +kernel
theorem dX6_key_76 : decode cX6_key 76 = .ok (.bipush (-6), 2) := by decide +kernel
theorem dX6_key_78 : decode cX6_key 78 = .ok (.ireturn, 1) := by decide +kernel
theorem dX6_key_79 : decode cX6_key 79 = .ok (.aload_n 0, 1) := by decide +kernel
theorem dX6_key_80 : decode cX6_key 80 = .ok (.getfield 35, 3) := by decide +kernel
theorem dX6_key_83 : decode cX6_key 83 = .ok (.iload_n 1, 1) := by decide +kernel
theorem dX6_key_84 : decode cX6_key 84 = .ok (.iaload, 1) := by decide +kernel
theorem dX6_key_85 : decode cX6_key 85 = .ok (.iconst 1, 1) := by decide +kernel
theorem dX6_key_86 : decode cX6_key 86 = .ok (.if_icmp .ne 12, 3) := by decide +kernel
theorem dX6_key_89 : decode cX6_key 89 = .ok (.aload_n 0, 1) := by decide +kernel
theorem dX6_key_90 : decode cX6_key 90 = .ok (.getfield 38, 3) := by decide +kernel
theorem dX6_key_93 : decode cX6_key 93 = .ok (.iload_n 1, 1) := by decide +kernel
theorem dX6_key_94 : decode cX6_key 94 = .ok (.iaload, 1) := by decide +kernel
theorem dX6_key_95 : decode cX6_key 95 = .ok (.goto 5, 3) := by decide +kernel
theorem dX6_key_98 : decode cX6_key 98 = .ok (.bipush (-6), 2) := by decide +kernel
theorem dX6_key_100 : decode cX6_key 100 = .ok (.ireturn, 1) := by decide +kernel
theorem dX6_key_101 : decode cX6_key 101 = .ok (.aload_n 0, 1) := by decide +kernel
theorem dX6_key_102 : decode cX6_key 102 = .ok (.getfield 35, 3) := by decide +kernel
theorem dX6_key_105 : decode cX6_key 105 = .ok (.iload_n 1, 1) := by decide +kernel
theorem dX6_key_106 : decode cX6_key 106 = .ok (.iaload, 1) := by decide +kernel
theorem dX6_key_107 : decode cX6_key 107 = .ok (.iconst 2, 1) := by decide +kernel
theorem dX6_key_108 : decode cX6_key 108 = .ok (.if_icmp .ne 12, 3) := by decide +kernel
theorem dX6_key_111 : decode cX6_key 111 = .ok (.aload_n 0, 1) := by decide +kernel
theorem dX6_key_112 : decode cX6_key 112 = .ok (.getfield 38, 3) := by decide +kernel
theorem dX6_key_115 : decode cX6_key 115 = .ok (.iload_n 1, 1) := by decide +kernel
theorem dX6_key_116 : decode cX6_key 116 = .ok (.iaload, 1) := by decide +kernel
theorem dX6_key_117 : decode cX6_key 117 = .ok (.goto 5, 3) := by decide +kernel
theorem dX6_key_120 : decode cX6_key 120 = .ok (.bipush (-6), 2) := by decide +kernel
theorem dX6_key_122 : decode cX6_key 122 = .ok (.ireturn, 1) := by decide +kernel
theorem dX6_key_123 : decode cX6_key 123 = .ok (.bipush (-2), 2) := by decide +kernel
theorem dX6_key_125 : decode cX6_key 125 = .ok (.ireturn, 1) := by decide +kernel
theorem dX6_group_0 : decode cX6_group 0 = .ok (.aload_n 0, 1) := by decide +kernel
theorem dX6_group_1 : decode cX6_group 1 = .ok (.iload_n 1, 1) := by decide +kernel
theorem dX6_group_2 : decode cX6_group 2 = .ok (.invokevirtual 122, 3) := by decide +kernel
theorem dX6_group_5 : decode cX6_group 5 = .ok (.ifCond .eq 5, 3) := by decide +kernel
theorem dX6_group_8 : decode cX6_group 8 = .ok (.iconst (-1), 1) := by decide +kernel
theorem dX6_group_9 : decode cX6_group 9 = .ok (.ireturn, 1) := by decide +kernel
theorem dX6_group_10 : decode cX6_group 10 = .ok (.iload_n 2, 1) := by decide +kernel
theorem dX6_group_11 : decode cX6_group 11 = .ok (.tableswitch 78 0 5 #[37, 44, 51, 58, 64, 71], 37) := by decide +kernel
theorem dX6_group_48 : decode cX6_group 48 = .ok (.aload_n 0, 1) := by decide +kernel
theorem dX6_group_49 : decode cX6_group 49 = .ok (.getfield 44, 3) := by decide +kernel
theorem dX6_group_52 : decode cX6_group 52 = .ok (.iload_n 1, 1) := by decide +kernel
theorem dX6_group_53 : decode cX6_group 53 = .ok (.iaload, 1) := by decide +kernel
theorem dX6_group_54 : decode cX6_group 54 = .ok (.ireturn, 1) := by decide +kernel
theorem dX6_group_55 : decode cX6_group 55 = .ok (.aload_n 0, 1) := by decide +kernel
theorem dX6_group_56 : decode cX6_group 56 = .ok (.getfield 47, 3) := by decide +kernel
theorem dX6_group_59 : decode cX6_group 59 = .ok (.iload_n 1, 1) := by decide +kernel
theorem dX6_group_60 : decode cX6_group 60 = .ok (.iaload, 1) := by decide +kernel
theorem dX6_group_61 : decode cX6_group 61 = .ok (.ireturn, 1) := by decide +kernel
theorem dX6_group_62 : decode cX6_group 62 = .ok (.aload_n 0, 1) := by decide +kernel
theorem dX6_group_63 : decode cX6_group 63 = .ok (.getfield 50, 3) := by decide +kernel
theorem dX6_group_66 : decode cX6_group 66 = .ok (.iload_n 1, 1) := by decide +kernel
theorem dX6_group_67 : decode cX6_group 67 = .ok (.iaload, 1) := by decide +kernel
theorem dX6_group_68 : decode cX6_group 68 = .ok (.ireturn, 1) := by decide +kernel
theorem dX6_group_69 : decode cX6_group 69 = .ok (.aload_n 0, 1) := by decide +kernel
theorem dX6_group_70 : decode cX6_group 70 = .ok (.iload_n 1, 1) := by decide +kernel
theorem dX6_group_71 : decode cX6_group 71 = .ok (.invokevirtual 146, 3) := by decide +kernel
theorem dX6_group_74 : decode cX6_group 74 = .ok (.ireturn, 1) := by decide +kernel
theorem dX6_group_75 : decode cX6_group 75 = .ok (.aload_n 0, 1) := by decide +kernel
theorem dX6_group_76 : decode cX6_group 76 = .ok (.getfield 53, 3) := by decide +kernel
theorem dX6_group_79 : decode cX6_group 79 = .ok (.iload_n 1, 1) := by decide +kernel
theorem dX6_group_80 : decode cX6_group 80 = .ok (.iaload, 1) := by decide +kernel
theorem dX6_group_81 : decode cX6_group 81 = .ok (.ireturn, 1) := by decide +kernel
theorem dX6_group_82 : decode cX6_group 82 = .ok (.aload_n 0, 1) := by decide +kernel
theorem dX6_group_83 : decode cX6_group 83 = .ok (.getfield 56, 3) := by decide +kernel
theorem dX6_group_86 : decode cX6_group 86 = .ok (.iload_n 1, 1) := by decide +kernel
theorem dX6_group_87 : decode cX6_group 87 = .ok (.iaload, 1) := by decide +kernel
theorem dX6_group_88 : decode cX6_group 88 = .ok (.ireturn, 1) := by decide +kernel
theorem dX6_group_89 : decode cX6_group 89 = .ok (.bipush (-2), 2) := by decide +kernel
theorem dX6_group_91 : decode cX6_group 91 = .ok (.ireturn, 1) := by decide +kernel
theorem dX6_color_0 : decode cX6_color 0 = .ok (.iload_n 1, 1) := by decide +kernel
theorem dX6_color_1 : decode cX6_color 1 = .ok (.iconst 0, 1) := by decide +kernel
theorem dX6_color_2 : decode cX6_color 2 = .ok (.iconst 5, 1) := by decide +kernel
theorem dX6_color_3 : decode cX6_color 3 = .ok (.invokestatic 90, 3) := by decide +kernel
theorem dX6_color_6 : decode cX6_color 6 = .ok (.ifCond .eq 12, 3) := by decide +kernel
theorem dX6_color_9 : decode cX6_color 9 = .ok (.iload_n 2, 1) := by decide +kernel
theorem dX6_color_10 : decode cX6_color 10 = .ok (.iconst 0, 1) := by decide +kernel
theorem dX6_color_11 : decode cX6_color 11 = .ok (.iconst 1, 1) := by decide +kernel
theorem dX6_color_12 : decode cX6_color 12 = .ok (.invokestatic 90, 3) := by decide +kernel
theorem dX6_color_15 : decode cX6_color 15 = .ok (.ifCond .ne 6, 3) := by decide +kernel
theorem dX6_color_18 : decode cX6_color 18 = .ok (.bipush (-2), 2) := by decide +kernel
theorem dX6_color_20 : decode cX6_color 20 = .ok (.ireturn, 1) := by decide +kernel
theorem dX6_color_21 : decode cX6_color 21 = .ok (.iconst 0, 1) := by decide +kernel
theorem dX6_color_22 : decode cX6_color 22 = .ok (.istore_n 3, 1) := by decide +kernel
theorem dX6_color_23 : decode cX6_color 23 = .ok (.iconst 0, 1) := by decide +kernel
theorem dX6_color_24 : decode cX6_color 24 = .ok (.istore 4, 2) := by decide +kernel
theorem dX6_color_26 : decode cX6_color 26 = .ok (.iload 4, 2) := by decide +kernel
theorem dX6_color_28 : decode cX6_color 28 = .ok (.aload_n 0, 1) := by decide +kernel
theorem dX6_color_29 : decode cX6_color 29 = .ok (.getfield 94, 3) := by decide +kernel
theorem dX6_color_32 : decode cX6_color 32 = .ok (.if_icmp .ge 42, 3) := by decide +kernel
theorem dX6_color_35 : decode cX6_color 35 = .ok (.iload_n 2, 1) := by decide +kernel
theorem dX6_color_36 : decode cX6_color 36 = .ok (.ifCond .ne 38, 3) := by decide +kernel
theorem dX6_color_39 : decode cX6_color 39 = .ok (.iload_n 3, 1) := by decide +kernel
theorem dX6_color_40 : decode cX6_color 40 = .ok (.aload_n 0, 1) := by decide +kernel
theorem dX6_color_41 : decode cX6_color 41 = .ok (.getfield 23, 3) := by decide +kernel
theorem dX6_color_44 : decode cX6_color 44 = .ok (.iload 4, 2) := by decide +kernel
theorem dX6_color_46 : decode cX6_color 46 = .ok (.iaload, 1) := by decide +kernel
theorem dX6_color_47 : decode cX6_color 47 = .ok (.iload_n 1, 1) := by decide +kernel
theorem dX6_color_48 : decode cX6_color 48 = .ok (.if_icmp .ne 17, 3) := by decide +kernel
theorem dX6_color_51 : decode cX6_color 51 = .ok (.aload_n 0, 1) := by decide +kernel
theorem dX6_color_52 : decode cX6_color 52 = .ok (.getfield 29, 3) := by decide +kernel
theorem dX6_color_55 : decode cX6_color 55 = .ok (.iload 4, 2) := by decide +kernel
theorem dX6_color_57 : decode cX6_color 57 = .ok (.iaload, 1) := by decide +kernel
theorem dX6_color_58 : decode cX6_color 58 = .ok (.ifCond .ge 7, 3) := by decide +kernel
theorem dX6_color_61 : decode cX6_color 61 = .ok (.iconst 1, 1) := by decide +kernel
theorem dX6_color_62 : decode cX6_color 62 = .ok (.goto 4, 3) := by decide +kernel
theorem dX6_color_65 : decode cX6_color 65 = .ok (.iconst 0, 1) := by decide +kernel
theorem dX6_color_66 : decode cX6_color 66 = .ok (.iadd, 1) := by decide +kernel
theorem dX6_color_67 : decode cX6_color 67 = .ok (.istore_n 3, 1) := by decide +kernel
theorem dX6_color_68 : decode cX6_color 68 = .ok (.iinc 4 1, 3) := by decide +kernel
theorem dX6_color_71 : decode cX6_color 71 = .ok (.goto (-45), 3) := by decide +kernel
theorem dX6_color_74 : decode cX6_color 74 = .ok (.iconst 0, 1) := by decide +kernel
theorem dX6_color_75 : decode cX6_color 75 = .ok (.istore 4, 2) := by decide +kernel
theorem dX6_color_77 : decode cX6_color 77 = .ok (.iload 4, 2) := by decide +kernel
theorem dX6_color_79 : decode cX6_color 79 = .ok (.aload_n 0, 1) := by decide +kernel
theorem dX6_color_80 : decode cX6_color 80 = .ok (.getfield 97, 3) := by decide +kernel
theorem dX6_color_83 : decode cX6_color 83 = .ok (.if_icmp .ge 44, 3) := by decide +kernel
theorem dX6_color_86 : decode cX6_color 86 = .ok (.iload_n 2, 1) := by decide +kernel
theorem dX6_color_87 : decode cX6_color 87 = .ok (.iconst 1, 1) := by decide +kernel
theorem dX6_color_88 : decode cX6_color 88 = .ok (.if_icmp .ne 39, 3) := by decide +kernel
theorem dX6_color_91 : decode cX6_color 91 = .ok (.iload_n 3, 1) := by decide +kernel
theorem dX6_color_92 : decode cX6_color 92 = .ok (.aload_n 0, 1) := by decide +kernel
theorem dX6_color_93 : decode cX6_color 93 = .ok (.getfield 32, 3) := by decide +kernel
theorem dX6_color_96 : decode cX6_color 96 = .ok (.iload 4, 2) := by decide +kernel
theorem dX6_color_98 : decode cX6_color 98 = .ok (.iaload, 1) := by decide +kernel
theorem dX6_color_99 : decode cX6_color 99 = .ok (.iload_n 1, 1) := by decide +kernel
theorem dX6_color_100 : decode cX6_color 100 = .ok (.if_icmp .ne 18, 3) := by decide +kernel
theorem dX6_color_103 : decode cX6_color 103 = .ok (.aload_n 0, 1) := by decide +kernel
theorem dX6_color_104 : decode cX6_color 104 = .ok (.getfield 35, 3) := by decide +kernel
theorem dX6_color_107 : decode cX6_color 107 = .ok (.iload 4, 2) := by decide +kernel
theorem dX6_color_109 : decode cX6_color 109 = .ok (.iaload, 1) := by decide +kernel
theorem dX6_color_110 : decode cX6_color 110 = .ok (.iconst 2, 1) := by decide +kernel
theorem dX6_color_111 : decode cX6_color 111 = .ok (.if_icmp .eq 7, 3) := by decide +kernel
theorem dX6_color_114 : decode cX6_color 114 = .ok (.iconst 1, 1) := by decide +kernel
theorem dX6_color_115 : decode cX6_color 115 = .ok (.goto 4, 3) := by decide +kernel
theorem dX6_color_118 : decode cX6_color 118 = .ok (.iconst 0, 1) := by decide +kernel
theorem dX6_color_119 : decode cX6_color 119 = .ok (.iadd, 1) := by decide +kernel
theorem dX6_color_120 : decode cX6_color 120 = .ok (.istore_n 3, 1) := by decide +kernel
theorem dX6_color_121 : decode cX6_color 121 = .ok (.iinc 4 1, 3) := by decide +kernel
theorem dX6_color_124 : decode cX6_color 124 = .ok (.goto (-47), 3) := by decide +kernel
theorem dX6_color_127 : decode cX6_color 127 = .ok (.iload_n 3, 1) := by decide +kernel
theorem dX6_color_128 : decode cX6_color 128 = .ok (.ireturn, 1) := by decide +kernel
theorem dX6_sizes_0 : decode cX6_sizes 0 = .ok (.iconst 0, 1) := by decide +kernel
theorem dX6_sizes_1 : decode cX6_sizes 1 = .ok (.istore_n 2, 1) := by decide +kernel
theorem dX6_sizes_2 : decode cX6_sizes 2 = .ok (.iconst 0, 1) := by decide +kernel
theorem dX6_sizes_3 : decode cX6_sizes 3 = .ok (.istore_n 3, 1) := by decide +kernel
theorem dX6_sizes_4 : decode cX6_sizes 4 = .ok (.iload_n 3, 1) := by decide +kernel
theorem dX6_sizes_5 : decode cX6_sizes 5 = .ok (.aload_n 0, 1) := by decide +kernel
theorem dX6_sizes_6 : decode cX6_sizes 6 = .ok (.getfield 100, 3) := by decide +kernel
theorem dX6_sizes_9 : decode cX6_sizes 9 = .ok (.if_icmp .ge 32, 3) := by decide +kernel
theorem dX6_sizes_12 : decode cX6_sizes 12 = .ok (.iload_n 2, 1) := by decide +kernel
theorem dX6_sizes_13 : decode cX6_sizes 13 = .ok (.aload_n 0, 1) := by decide +kernel
theorem dX6_sizes_14 : decode cX6_sizes 14 = .ok (.getfield 56, 3) := by decide +kernel
theorem dX6_sizes_17 : decode cX6_sizes 17 = .ok (.iload_n 3, 1) := by decide +kernel
theorem dX6_sizes_18 : decode cX6_sizes 18 = .ok (.iaload, 1) := by decide +kernel
theorem dX6_sizes_19 : decode cX6_sizes 19 = .ok (.iload_n 1, 1) := by decide +kernel
theorem dX6_sizes_20 : decode cX6_sizes 20 = .ok (.if_icmp .ne 12, 3) := by decide +kernel
theorem dX6_sizes_23 : decode cX6_sizes 23 = .ok (.aload_n 0, 1) := by decide +kernel
theorem dX6_sizes_24 : decode cX6_sizes 24 = .ok (.getfield 44, 3) := by decide +kernel
theorem dX6_sizes_27 : decode cX6_sizes 27 = .ok (.iload_n 3, 1) := by decide +kernel
theorem dX6_sizes_28 : decode cX6_sizes 28 = .ok (.iaload, 1) := by decide +kernel
theorem dX6_sizes_29 : decode cX6_sizes 29 = .ok (.goto 4, 3) := by decide +kernel
theorem dX6_sizes_32 : decode cX6_sizes 32 = .ok (.iconst 0, 1) := by decide +kernel
theorem dX6_sizes_33 : decode cX6_sizes 33 = .ok (.iadd, 1) := by decide +kernel
theorem dX6_sizes_34 : decode cX6_sizes 34 = .ok (.istore_n 2, 1) := by decide +kernel
theorem dX6_sizes_35 : decode cX6_sizes 35 = .ok (.iinc 3 1, 3) := by decide +kernel
theorem dX6_sizes_38 : decode cX6_sizes 38 = .ok (.goto (-34), 3) := by decide +kernel
theorem dX6_sizes_41 : decode cX6_sizes 41 = .ok (.iload_n 2, 1) := by decide +kernel
theorem dX6_sizes_42 : decode cX6_sizes 42 = .ok (.ireturn, 1) := by decide +kernel
theorem dX6_unlocked_0 : decode cX6_unlocked 0 = .ok (.iconst 0, 1) := by decide +kernel
theorem dX6_unlocked_1 : decode cX6_unlocked 1 = .ok (.istore_n 1, 1) := by decide +kernel
theorem dX6_unlocked_2 : decode cX6_unlocked 2 = .ok (.iconst 0, 1) := by decide +kernel
theorem dX6_unlocked_3 : decode cX6_unlocked 3 = .ok (.istore_n 2, 1) := by decide +kernel
theorem dX6_unlocked_4 : decode cX6_unlocked 4 = .ok (.iload_n 2, 1) := by decide +kernel
theorem dX6_unlocked_5 : decode cX6_unlocked 5 = .ok (.aload_n 0, 1) := by decide +kernel
theorem dX6_unlocked_6 : decode cX6_unlocked 6 = .ok (.getfield 94, 3) := by decide +kernel
theorem dX6_unlocked_9 : decode cX6_unlocked 9 = .ok (.if_icmp .ge 35, 3) := by decide +kernel
theorem dX6_unlocked_12 : decode cX6_unlocked 12 = .ok (.iload_n 1, 1) := by decide +kernel
theorem dX6_unlocked_13 : decode cX6_unlocked 13 = .ok (.aload_n 0, 1) := by decide +kernel
theorem dX6_unlocked_14 : decode cX6_unlocked 14 = .ok (.getfield 23, 3) := by decide +kernel
theorem dX6_unlocked_17 : decode cX6_unlocked 17 = .ok (.iload_n 2, 1) := by decide +kernel
theorem dX6_unlocked_18 : decode cX6_unlocked 18 = .ok (.iaload, 1) := by decide +kernel
theorem dX6_unlocked_19 : decode cX6_unlocked 19 = .ok (.ifCond .lt 16, 3) := by decide +kernel
theorem dX6_unlocked_22 : decode cX6_unlocked 22 = .ok (.aload_n 0, 1) := by decide +kernel
theorem dX6_unlocked_23 : decode cX6_unlocked 23 = .ok (.getfield 29, 3) := by decide +kernel
theorem dX6_unlocked_26 : decode cX6_unlocked 26 = .ok (.iload_n 2, 1) := by decide +kernel
theorem dX6_unlocked_27 : decode cX6_unlocked 27 = .ok (.iaload, 1) := by decide +kernel
theorem dX6_unlocked_28 : decode cX6_unlocked 28 = .ok (.ifCond .lt 7, 3) := by decide +kernel
theorem dX6_unlocked_31 : decode cX6_unlocked 31 = .ok (.iconst 1, 1) := by decide +kernel
theorem dX6_unlocked_32 : decode cX6_unlocked 32 = .ok (.goto 4, 3) := by decide +kernel
theorem dX6_unlocked_35 : decode cX6_unlocked 35 = .ok (.iconst 0, 1) := by decide +kernel
theorem dX6_unlocked_36 : decode cX6_unlocked 36 = .ok (.iadd, 1) := by decide +kernel
theorem dX6_unlocked_37 : decode cX6_unlocked 37 = .ok (.istore_n 1, 1) := by decide +kernel
theorem dX6_unlocked_38 : decode cX6_unlocked 38 = .ok (.iinc 2 1, 3) := by decide +kernel
theorem dX6_unlocked_41 : decode cX6_unlocked 41 = .ok (.goto (-37), 3) := by decide +kernel
theorem dX6_unlocked_44 : decode cX6_unlocked 44 = .ok (.iload_n 1, 1) := by decide +kernel
theorem dX6_unlocked_45 : decode cX6_unlocked 45 = .ok (.ireturn, 1) := by decide +kernel
theorem dX6_latest_0 : decode cX6_latest 0 = .ok (.bipush (-6), 2) := by decide +kernel
theorem dX6_latest_2 : decode cX6_latest 2 = .ok (.istore_n 1, 1) := by decide +kernel
theorem dX6_latest_3 : decode cX6_latest 3 = .ok (.iconst 0, 1) := by decide +kernel
theorem dX6_latest_4 : decode cX6_latest 4 = .ok (.istore_n 2, 1) := by decide +kernel
theorem dX6_latest_5 : decode cX6_latest 5 = .ok (.iload_n 2, 1) := by decide +kernel
theorem dX6_latest_6 : decode cX6_latest 6 = .ok (.aload_n 0, 1) := by decide +kernel
theorem dX6_latest_7 : decode cX6_latest 7 = .ok (.getfield 100, 3) := by decide +kernel
theorem dX6_latest_10 : decode cX6_latest 10 = .ok (.if_icmp .ge 40, 3) := by decide +kernel
theorem dX6_latest_13 : decode cX6_latest 13 = .ok (.aload_n 0, 1) := by decide +kernel
theorem dX6_latest_14 : decode cX6_latest 14 = .ok (.getfield 56, 3) := by decide +kernel
theorem dX6_latest_17 : decode cX6_latest 17 = .ok (.iload_n 2, 1) := by decide +kernel
theorem dX6_latest_18 : decode cX6_latest 18 = .ok (.iaload, 1) := by decide +kernel
theorem dX6_latest_19 : decode cX6_latest 19 = .ok (.iconst 1, 1) := by decide +kernel
theorem dX6_latest_20 : decode cX6_latest 20 = .ok (.if_icmp .ne 22, 3) := by decide +kernel
theorem dX6_latest_23 : decode cX6_latest 23 = .ok (.aload_n 0, 1) := by decide +kernel
theorem dX6_latest_24 : decode cX6_latest 24 = .ok (.getfield 50, 3) := by decide +kernel
theorem dX6_latest_27 : decode cX6_latest 27 = .ok (.iload_n 2, 1) := by decide +kernel
theorem dX6_latest_28 : decode cX6_latest 28 = .ok (.iaload, 1) := by decide +kernel
theorem dX6_latest_29 : decode cX6_latest 29 = .ok (.iload_n 1, 1) := by decide +kernel
theorem dX6_latest_30 : decode cX6_latest 30 = .ok (.if_icmp .le 12, 3) := by decide +kernel
theorem dX6_latest_33 : decode cX6_latest 33 = .ok (.aload_n 0, 1) := by decide +kernel
theorem dX6_latest_34 : decode cX6_latest 34 = .ok (.getfield 50, 3) := by decide +kernel
theorem dX6_latest_37 : decode cX6_latest 37 = .ok (.iload_n 2, 1) := by decide +kernel
theorem dX6_latest_38 : decode cX6_latest 38 = .ok (.iaload, 1) := by decide +kernel
theorem dX6_latest_39 : decode cX6_latest 39 = .ok (.goto 4, 3) := by decide +kernel
theorem dX6_latest_42 : decode cX6_latest 42 = .ok (.iload_n 1, 1) := by decide +kernel
theorem dX6_latest_43 : decode cX6_latest 43 = .ok (.istore_n 1, 1) := by decide +kernel
theorem dX6_latest_44 : decode cX6_latest 44 = .ok (.iinc 2 1, 3) := by decide +kernel
theorem dX6_latest_47 : decode cX6_latest 47 = .ok (.goto (-42), 3) := by decide +kernel
theorem dX6_latest_50 : decode cX6_latest 50 = .ok (.iload_n 1, 1) := by decide +kernel
theorem dX6_latest_51 : decode cX6_latest 51 = .ok (.ireturn, 1) := by decide +kernel
theorem dX6_hints_0 : decode cX6_hints 0 = .ok (.iconst 0, 1) := by decide +kernel
theorem dX6_hints_1 : decode cX6_hints 1 = .ok (.istore_n 1, 1) := by decide +kernel
theorem dX6_hints_2 : decode cX6_hints 2 = .ok (.iconst 0, 1) := by decide +kernel
theorem dX6_hints_3 : decode cX6_hints 3 = .ok (.istore_n 2, 1) := by decide +kernel
theorem dX6_hints_4 : decode cX6_hints 4 = .ok (.iload_n 2, 1) := by decide +kernel
theorem dX6_hints_5 : decode cX6_hints 5 = .ok (.aload_n 0, 1) := by decide +kernel
theorem dX6_hints_6 : decode cX6_hints 6 = .ok (.getfield 100, 3) := by decide +kernel
theorem dX6_hints_9 : decode cX6_hints 9 = .ok (.if_icmp .ge 32, 3) := by decide +kernel
theorem dX6_hints_12 : decode cX6_hints 12 = .ok (.iload_n 1, 1) := by decide +kernel
theorem dX6_hints_13 : decode cX6_hints 13 = .ok (.aload_n 0, 1) := by decide +kernel
theorem dX6_hints_14 : decode cX6_hints 14 = .ok (.getfield 56, 3) := by decide +kernel
theorem dX6_hints_17 : decode cX6_hints 17 = .ok (.iload_n 2, 1) := by decide +kernel
theorem dX6_hints_18 : decode cX6_hints 18 = .ok (.iaload, 1) := by decide +kernel
theorem dX6_hints_19 : decode cX6_hints 19 = .ok (.iconst 2, 1) := by decide +kernel
theorem dX6_hints_20 : decode cX6_hints 20 = .ok (.if_icmp .ne 7, 3) := by decide +kernel
theorem dX6_hints_23 : decode cX6_hints 23 = .ok (.iconst 0, 1) := by decide +kernel
theorem dX6_hints_24 : decode cX6_hints 24 = .ok (.goto 9, 3) := by decide +kernel
theorem dX6_hints_27 : decode cX6_hints 27 = .ok (.aload_n 0, 1) := by decide +kernel
theorem dX6_hints_28 : decode cX6_hints 28 = .ok (.getfield 53, 3) := by decide +kernel
theorem dX6_hints_31 : decode cX6_hints 31 = .ok (.iload_n 2, 1) := by decide +kernel
theorem dX6_hints_32 : decode cX6_hints 32 = .ok (.iaload, 1) := by decide +kernel
theorem dX6_hints_33 : decode cX6_hints 33 = .ok (.iadd, 1) := by decide +kernel
theorem dX6_hints_34 : decode cX6_hints 34 = .ok (.istore_n 1, 1) := by decide +kernel
theorem dX6_hints_35 : decode cX6_hints 35 = .ok (.iinc 2 1, 3) := by decide +kernel
theorem dX6_hints_38 : decode cX6_hints 38 = .ok (.goto (-34), 3) := by decide +kernel
theorem dX6_hints_41 : decode cX6_hints 41 = .ok (.iload_n 1, 1) := by decide +kernel
theorem dX6_hints_42 : decode cX6_hints 42 = .ok (.ireturn, 1) := by decide +kernel
theorem dX6_deadEnds_0 : decode cX6_deadEnds 0 = .ok (.iconst 0, 1) := by decide +kernel
theorem dX6_deadEnds_1 : decode cX6_deadEnds 1 = .ok (.istore_n 1, 1) := by decide +kernel
theorem dX6_deadEnds_2 : decode cX6_deadEnds 2 = .ok (.iconst 0, 1) := by decide +kernel
theorem dX6_deadEnds_3 : decode cX6_deadEnds 3 = .ok (.istore_n 2, 1) := by decide +kernel
theorem dX6_deadEnds_4 : decode cX6_deadEnds 4 = .ok (.iload_n 2, 1) := by decide +kernel
theorem dX6_deadEnds_5 : decode cX6_deadEnds 5 = .ok (.aload_n 0, 1) := by decide +kernel
theorem dX6_deadEnds_6 : decode cX6_deadEnds 6 = .ok (.getfield 100, 3) := by decide +kernel
theorem dX6_deadEnds_9 : decode cX6_deadEnds 9 = .ok (.if_icmp .ge 37, 3) := by decide +kernel
theorem dX6_deadEnds_12 : decode cX6_deadEnds 12 = .ok (.aload_n 0, 1) := by decide +kernel
theorem dX6_deadEnds_13 : decode cX6_deadEnds 13 = .ok (.iload_n 2, 1) := by decide +kernel
theorem dX6_deadEnds_14 : decode cX6_deadEnds 14 = .ok (.invokevirtual 128, 3) := by decide +kernel
theorem dX6_deadEnds_17 : decode cX6_deadEnds 17 = .ok (.ifCond .eq 23, 3) := by decide +kernel
theorem dX6_deadEnds_20 : decode cX6_deadEnds 20 = .ok (.aload_n 0, 1) := by decide +kernel
theorem dX6_deadEnds_21 : decode cX6_deadEnds 21 = .ok (.iload_n 2, 1) := by decide +kernel
theorem dX6_deadEnds_22 : decode cX6_deadEnds 22 = .ok (.invokevirtual 184, 3) := by decide +kernel
theorem dX6_deadEnds_25 : decode cX6_deadEnds 25 = .ok (.iload_n 1, 1) := by decide +kernel
theorem dX6_deadEnds_26 : decode cX6_deadEnds 26 = .ok (.aload_n 0, 1) := by decide +kernel
theorem dX6_deadEnds_27 : decode cX6_deadEnds 27 = .ok (.getfield 162, 3) := by decide +kernel
theorem dX6_deadEnds_30 : decode cX6_deadEnds 30 = .ok (.ifCond .ge 7, 3) := by decide +kernel
theorem dX6_deadEnds_33 : decode cX6_deadEnds 33 = .ok (.iconst 1, 1) := by decide +kernel
theorem dX6_deadEnds_34 : decode cX6_deadEnds 34 = .ok (.goto 4, 3) := by decide +kernel
theorem dX6_deadEnds_37 : decode cX6_deadEnds 37 = .ok (.iconst 0, 1) := by decide +kernel
theorem dX6_deadEnds_38 : decode cX6_deadEnds 38 = .ok (.iadd, 1) := by decide +kernel
theorem dX6_deadEnds_39 : decode cX6_deadEnds 39 = .ok (.istore_n 1, 1) := by decide +kernel
theorem dX6_deadEnds_40 : decode cX6_deadEnds 40 = .ok (.iinc 2 1, 3) := by decide +kernel
theorem dX6_deadEnds_43 : decode cX6_deadEnds 43 = .ok (.goto (-39), 3) := by decide +kernel
theorem dX6_deadEnds_46 : decode cX6_deadEnds 46 = .ok (.iload_n 1, 1) := by decide +kernel
theorem dX6_deadEnds_47 : decode cX6_deadEnds 47 = .ok (.ireturn, 1) := by decide +kernel
theorem dX6_count_0 : decode cX6_count 0 = .ok (.iload_n 1, 1) := by decide +kernel
theorem dX6_count_1 : decode cX6_count 1 = .ok (.tableswitch 116 0 10 #[59, 64, 69, 74, 79, 84, 89, 95, 101, 106, 111], 59) := by decide +kernel
theorem dX6_count_60 : decode cX6_count 60 = .ok (.aload_n 0, 1) := by decide +kernel
theorem dX6_count_61 : decode cX6_count 61 = .ok (.getfield 87, 3) := by decide +kernel
theorem dX6_count_64 : decode cX6_count 64 = .ok (.ireturn, 1) := by decide +kernel
theorem dX6_count_65 : decode cX6_count 65 = .ok (.aload_n 0, 1) := by decide +kernel
theorem dX6_count_66 : decode cX6_count 66 = .ok (.getfield 94, 3) := by decide +kernel
theorem dX6_count_69 : decode cX6_count 69 = .ok (.ireturn, 1) := by decide +kernel
theorem dX6_count_70 : decode cX6_count 70 = .ok (.aload_n 0, 1) := by decide +kernel
theorem dX6_count_71 : decode cX6_count 71 = .ok (.getfield 97, 3) := by decide +kernel
theorem dX6_count_74 : decode cX6_count 74 = .ok (.ireturn, 1) := by decide +kernel
theorem dX6_count_75 : decode cX6_count 75 = .ok (.aload_n 0, 1) := by decide +kernel
theorem dX6_count_76 : decode cX6_count 76 = .ok (.getfield 100, 3) := by decide +kernel
theorem dX6_count_79 : decode cX6_count 79 = .ok (.ireturn, 1) := by decide +kernel
theorem dX6_count_80 : decode cX6_count 80 = .ok (.aload_n 0, 1) := by decide +kernel
theorem dX6_count_81 : decode cX6_count 81 = .ok (.getfield 9, 3) := by decide +kernel
theorem dX6_count_84 : decode cX6_count 84 = .ok (.ireturn, 1) := by decide +kernel
theorem dX6_count_85 : decode cX6_count 85 = .ok (.aload_n 0, 1) := by decide +kernel
theorem dX6_count_86 : decode cX6_count 86 = .ok (.invokevirtual 192, 3) := by decide +kernel
theorem dX6_count_89 : decode cX6_count 89 = .ok (.ireturn, 1) := by decide +kernel
theorem dX6_count_90 : decode cX6_count 90 = .ok (.aload_n 0, 1) := by decide +kernel
theorem dX6_count_91 : decode cX6_count 91 = .ok (.iconst 1, 1) := by decide +kernel
theorem dX6_count_92 : decode cX6_count 92 = .ok (.invokevirtual 195, 3) := by decide +kernel
theorem dX6_count_95 : decode cX6_count 95 = .ok (.ireturn, 1) := by decide +kernel
theorem dX6_count_96 : decode cX6_count 96 = .ok (.aload_n 0, 1) := by decide +kernel
theorem dX6_count_97 : decode cX6_count 97 = .ok (.iconst 0, 1) := by decide +kernel
theorem dX6_count_98 : decode cX6_count 98 = .ok (.invokevirtual 195, 3) := by decide +kernel
theorem dX6_count_101 : decode cX6_count 101 = .ok (.ireturn, 1) := by decide +kernel
theorem dX6_count_102 : decode cX6_count 102 = .ok (.aload_n 0, 1) := by decide +kernel
theorem dX6_count_103 : decode cX6_count 103 = .ok (.invokevirtual 198, 3) := by decide +kernel
theorem dX6_count_106 : decode cX6_count 106 = .ok (.ireturn, 1) := by decide +kernel
theorem dX6_count_107 : decode cX6_count 107 = .ok (.aload_n 0, 1) := by decide +kernel
theorem dX6_count_108 : decode cX6_count 108 = .ok (.invokevirtual 201, 3) := by decide +kernel
theorem dX6_count_111 : decode cX6_count 111 = .ok (.ireturn, 1) := by decide +kernel
theorem dX6_count_112 : decode cX6_count 112 = .ok (.aload_n 0, 1) := by decide +kernel
theorem dX6_count_113 : decode cX6_count 113 = .ok (.invokevirtual 204, 3) := by decide +kernel
theorem dX6_count_116 : decode cX6_count 116 = .ok (.ireturn, 1) := by decide +kernel
theorem dX6_count_117 : decode cX6_count 117 = .ok (.bipush (-2), 2) := by decide +kernel
theorem dX6_count_119 : decode cX6_count 119 = .ok (.ireturn, 1) := by decide +kernel
