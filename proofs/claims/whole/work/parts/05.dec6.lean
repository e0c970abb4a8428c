theorem dX6_init_0 : decode cX6_init 0 = .ok (.aload_n 0, 1) := by decide +kernel
theorem dX6_init_1 : decode cX6_init 1 = .ok (.invokespecial 1, 3) := by decide +kernel
theorem dX6_init_4 : decode cX6_init 4 = .ok (.aload_n 0, 1) := by decide +kernel
theorem dX6_init_5 : decode cX6_init 5 = .ok (.iconst 4, 1) := by decide +kernel
theorem dX6_init_6 : decode cX6_init 6 = .ok (.newarray .int, 2) := by decide +kernel
theorem dX6_init_8 : decode cX6_init 8 = .ok (.putfield 7, 3) := by decide +kernel
theorem dX6_init_11 : decode cX6_init 11 = .ok (.aload_n 0, 1) := by decide +kernel
theorem dX6_init_12 : decode cX6_init 12 = .ok (.bipush 8, 2) := by decide +kernel
theorem dX6_init_14 : decode cX6_init 14 = .ok (.newarray .int, 2) := by decide +kernel
theorem dX6_init_16 : decode cX6_init 16 = .ok (.putfield 13, 3) := by decide +kernel
theorem dX6_init_19 : decode cX6_init 19 = .ok (.aload_n 0, 1) := by decide +kernel
theorem dX6_init_20 : decode cX6_init 20 = .ok (.iconst 1, 1) := by decide +kernel
theorem dX6_init_21 : decode cX6_init 21 = .ok (.putfield 16, 3) := by decide +kernel
theorem dX6_init_24 : decode cX6_init 24 = .ok (.aload_n 0, 1) := by decide +kernel
theorem dX6_init_25 : decode cX6_init 25 = .ok (.bipush 10, 2) := by decide +kernel
theorem dX6_init_27 : decode cX6_init 27 = .ok (.newarray .int, 2) := by decide +kernel
theorem dX6_init_29 : decode cX6_init 29 = .ok (.putfield 20, 3) := by decide +kernel
theorem dX6_init_32 : decode cX6_init 32 = .ok (.aload_n 0, 1) := by decide +kernel
theorem dX6_init_33 : decode cX6_init 33 = .ok (.bipush 12, 2) := by decide +kernel
theorem dX6_init_35 : decode cX6_init 35 = .ok (.putfield 23, 3) := by decide +kernel
theorem dX6_init_38 : decode cX6_init 38 = .ok (.aload_n 0, 1) := by decide +kernel
theorem dX6_init_39 : decode cX6_init 39 = .ok (.bipush 12, 2) := by decide +kernel
theorem dX6_init_41 : decode cX6_init 41 = .ok (.newarray .int, 2) := by decide +kernel
theorem dX6_init_43 : decode cX6_init 43 = .ok (.putfield 26, 3) := by decide +kernel
theorem dX6_init_46 : decode cX6_init 46 = .ok (.aload_n 0, 1) := by decide +kernel
theorem dX6_init_47 : decode cX6_init 47 = .ok (.bipush 12, 2) := by decide +kernel
theorem dX6_init_49 : decode cX6_init 49 = .ok (.newarray .int, 2) := by decide +kernel
theorem dX6_init_51 : decode cX6_init 51 = .ok (.putfield 29, 3) := by decide +kernel
theorem dX6_init_54 : decode cX6_init 54 = .ok (.aload_n 0, 1) := by decide +kernel
theorem dX6_init_55 : decode cX6_init 55 = .ok (.sipush 792, 3) := by decide +kernel
theorem dX6_init_58 : decode cX6_init 58 = .ok (.newarray .int, 2) := by decide +kernel
theorem dX6_init_60 : decode cX6_init 60 = .ok (.putfield 32, 3) := by decide +kernel
theorem dX6_init_63 : decode cX6_init 63 = .ok (.aload_n 0, 1) := by decide +kernel
theorem dX6_init_64 : decode cX6_init 64 = .ok (.bipush 40, 2) := by decide +kernel
theorem dX6_init_66 : decode cX6_init 66 = .ok (.newarray .int, 2) := by decide +kernel
theorem dX6_init_68 : decode cX6_init 68 = .ok (.putfield 35, 3) := by decide +kernel
theorem dX6_init_71 : decode cX6_init 71 = .ok (.aload_n 0, 1) := by decide +kernel
theorem dX6_init_72 : decode cX6_init 72 = .ok (.bipush 40, 2) := by decide +kernel
theorem dX6_init_74 : decode cX6_init 74 = .ok (.newarray .int, 2) := by decide +kernel
theorem dX6_init_76 : decode cX6_init 76 = .ok (.putfield 38, 3) := by decide +kernel
theorem dX6_init_79 : decode cX6_init 79 = .ok (.aload_n 0, 1) := by decide +kernel
theorem dX6_init_80 : decode cX6_init 80 = .ok (.bipush 40, 2) := by decide +kernel
theorem dX6_init_82 : decode cX6_init 82 = .ok (.newarray .int, 2) := by decide +kernel
theorem dX6_init_84 : decode cX6_init 84 = .ok (.putfield 41, 3) := by decide +kernel
theorem dX6_init_87 : decode cX6_init 87 = .ok (.aload_n 0, 1) := by decide +kernel
theorem dX6_init_88 : decode cX6_init 88 = .ok (.bipush 40, 2) := by decide +kernel
theorem dX6_init_90 : decode cX6_init 90 = .ok (.newarray .int, 2) := by decide +kernel
theorem dX6_init_92 : decode cX6_init 92 = .ok (.putfield 44, 3) := by decide +kernel
theorem dX6_init_95 : decode cX6_init 95 = .ok (.aload_n 0, 1) := by decide +kernel
theorem dX6_init_96 : decode cX6_init 96 = .ok (.bipush 40, 2) := by decide +kernel
theorem dX6_init_98 : decode cX6_init 98 = .ok (.newarray .int, 2) := by decide +kernel
theorem dX6_init_100 : decode cX6_init 100 = .ok (.putfield 47, 3) := by decide +kernel
theorem dX6_init_103 : decode cX6_init 103 = .ok (.aload_n 0, 1) := by decide +kernel
theorem dX6_init_104 : decode cX6_init 104 = .ok (.bipush 40, 2) := by decide +kernel
theorem dX6_init_106 : decode cX6_init 106 = .ok (.newarray .int, 2) := by decide +kernel
theorem dX6_init_108 : decode cX6_init 108 = .ok (.putfield 50, 3) := by decide +kernel
theorem dX6_init_111 : decode cX6_init 111 = .ok (.aload_n 0, 1) := by decide +kernel
theorem dX6_init_112 : decode cX6_init 112 = .ok (.bipush 40, 2) := by decide +kernel
theorem dX6_init_114 : decode cX6_init 114 = .ok (.newarray .int, 2) := by decide +kernel
theorem dX6_init_116 : decode cX6_init 116 = .ok (.putfield 53, 3) := by decide +kernel
theorem dX6_init_119 : decode cX6_init 119 = .ok (.aload_n 0, 1) := by decide +kernel
theorem dX6_init_120 : decode cX6_init 120 = .ok (.sipush 320, 3) := by decide +kernel
theorem dX6_init_123 : decode cX6_init 123 = .ok (.newarray .int, 2) := by decide +kernel
theorem dX6_init_125 : decode cX6_init 125 = .ok (.putfield 56, 3) := by decide +kernel
theorem dX6_init_128 : decode cX6_init 128 = .ok (.aload_n 0, 1) := by decide +kernel
theorem dX6_init_129 : decode cX6_init 129 = .ok (.sipush 320, 3) := by decide +kernel
theorem dX6_init_132 : decode cX6_init 132 = .ok (.newarray .int, 2) := by decide +kernel
theorem dX6_init_134 : decode cX6_init 134 = .ok (.putfield 59, 3) := by decide +kernel
theorem dX6_init_137 : decode cX6_init 137 = .ok (.aload_n 0, 1) := by decide +kernel
theorem dX6_init_138 : decode cX6_init 138 = .ok (.bipush 6, 2) := by decide +kernel
theorem dX6_init_140 : decode cX6_init 140 = .ok (.newarray .int, 2) := by decide +kernel
theorem dX6_init_142 : decode cX6_init 142 = .ok (.putfield 62, 3) := by decide +kernel
theorem dX6_init_145 : decode cX6_init 145 = .ok (.aload_n 0, 1) := by decide +kernel
theorem dX6_init_146 : decode cX6_init 146 = .ok (.bipush 6, 2) := by decide +kernel
theorem dX6_init_148 : decode cX6_init 148 = .ok (.newarray .int, 2) := by decide +kernel
theorem dX6_init_150 : decode cX6_init 150 = .ok (.putfield 65, 3) := by decide +kernel
theorem dX6_init_153 : decode cX6_init 153 = .ok (.aload_n 0, 1) := by decide +kernel
theorem dX6_init_154 : decode cX6_init 154 = .ok (.bipush 6, 2) := by decide +kernel
theorem dX6_init_156 : decode cX6_init 156 = .ok (.newarray .int, 2) := by decide +kernel
theorem dX6_init_158 : decode cX6_init 158 = .ok (.putfield 68, 3) := by decide +kernel
theorem dX6_init_161 : decode cX6_init 161 = .ok (.aload_n 0, 1) := by decide +kernel
theorem dX6_init_162 : decode cX6_init 162 = .ok (.bipush 6, 2) := by decide +kernel
theorem dX6_init_164 : decode cX6_init 164 = .ok (.newarray .int, 2) := by decide +kernel
theorem dX6_init_166 : decode cX6_init 166 = .ok (.putfield 71, 3) := by decide +kernel
theorem dX6_init_169 : decode cX6_init 169 = .ok (.iconst 0, 1) := by decide +kernel
theorem dX6_init_170 : decode cX6_init 170 = .ok (.istore_n 1, 1) := by decide +kernel
theorem dX6_init_171 : decode cX6_init 171 = .ok (.iload_n 1, 1) := by decide +kernel
theorem dX6_init_172 : decode cX6_init 172 = .ok (.iconst 4, 1) := by decide +kernel
theorem dX6_init_173 : decode cX6_init 173 = .ok (.if_icmp .ge 18, 3) := by decide +kernel
theorem dX6_init_176 : decode cX6_init 176 = .ok (.aload_n 0, 1) := by decide +kernel
theorem dX6_init_177 : decode cX6_init 177 = .ok (.getfield 7, 3) := by decide +kernel
theorem dX6_init_180 : decode cX6_init 180 = .ok (.iload_n 1, 1) := by decide +kernel
theorem dX6_init_181 : decode cX6_init 181 = .ok (.sipush 255, 3) := by decide +kernel
theorem dX6_init_184 : decode cX6_init 184 = .ok (.iastore, 1) := by decide +kernel
theorem dX6_init_185 : decode cX6_init 185 = .ok (.iinc 1 1, 3) := by decide +kernel
theorem dX6_init_188 : decode cX6_init 188 = .ok (.goto (-17), 3) := by decide +kernel
theorem dX6_init_191 : decode cX6_init 191 = .ok (.iconst 0, 1) := by decide +kernel
theorem dX6_init_192 : decode cX6_init 192 = .ok (.istore_n 1, 1) := by decide +kernel
theorem dX6_init_193 : decode cX6_init 193 = .ok (.iload_n 1, 1) := by decide +kernel
theorem dX6_init_194 : decode cX6_init 194 = .ok (.sipush 792, 3) := by decide +kernel
theorem dX6_init_197 : decode cX6_init 197 = .ok (.if_icmp .ge 16, 3) := by decide +kernel
theorem dX6_init_200 : decode cX6_init 200 = .ok (.aload_n 0, 1) := by decide +kernel
theorem dX6_init_201 : decode cX6_init 201 = .ok (.getfield 32, 3) := by decide +kernel
theorem dX6_init_204 : decode cX6_init 204 = .ok (.iload_n 1, 1) := by decide +kernel
theorem dX6_init_205 : decode cX6_init 205 = .ok (.iconst (-1), 1) := by decide +kernel
theorem dX6_init_206 : decode cX6_init 206 = .ok (.iastore, 1) := by decide +kernel
theorem dX6_init_207 : decode cX6_init 207 = .ok (.iinc 1 1, 3) := by decide +kernel
theorem dX6_init_210 : decode cX6_init 210 = .ok (.goto (-17), 3) := by decide +kernel
theorem dX6_init_213 : decode cX6_init 213 = .ok (.aload_n 0, 1) := by decide +kernel
theorem dX6_init_214 : decode cX6_init 214 = .ok (.getfield 20, 3) := by decide +kernel
theorem dX6_init_217 : decode cX6_init 217 = .ok (.iconst 0, 1) := by decide +kernel
theorem dX6_init_218 : decode cX6_init 218 = .ok (.iconst (-1), 1) := by decide +kernel
theorem dX6_init_219 : decode cX6_init 219 = .ok (.iastore, 1) := by decide +kernel
theorem dX6_init_220 : decode cX6_init 220 = .ok (.return_, 1) := by decide +kernel
theorem dX6_thrown_0 : decode cX6_thrown 0 = .ok (.aload_n 0, 1) := by decide +kernel
theorem dX6_thrown_1 : decode cX6_thrown 1 = .ok (.getfield 74, 3) := by decide +kernel
theorem dX6_thrown_4 : decode cX6_thrown 4 = .ok (.ireturn, 1) := by decide +kernel
theorem dX6_fails_0 : decode cX6_fails 0 = .ok (.aload_n 0, 1) := by decide +kernel
theorem dX6_fails_1 : decode cX6_fails 1 = .ok (.iload_n 1, 1) := by decide +kernel
theorem dX6_fails_2 : decode cX6_fails 2 = .ok (.putfield 74, 3) := by decide +kernel
theorem dX6_fails_5 : decode cX6_fails 5 = .ok (.iconst 0, 1) := by decide +kernel
theorem dX6_fails_6 : decode cX6_fails 6 = .ok (.ireturn, 1) := by decide +kernel
theorem dX6_in_0 : decode cX6_in 0 = .ok (.iload_n 0, 1) := by decide +kernel
theorem dX6_in_1 : decode cX6_in 1 = .ok (.iload_n 1, 1) := by decide +kernel
theorem dX6_in_2 : decode cX6_in 2 = .ok (.if_icmp .lt 12, 3) := by decide +kernel
theorem dX6_in_5 : decode cX6_in 5 = .ok (.iload_n 0, 1) := by decide +kernel
theorem dX6_in_6 : decode cX6_in 6 = .ok (.iload_n 2, 1) := by decide +kernel
theorem dX6_in_7 : decode cX6_in 7 = .ok (.if_icmp .gt 7, 3) := by decide +kernel
theorem dX6_in_10 : decode cX6_in 10 = .ok (.iconst 1, 1) := by decide +kernel
theorem dX6_in_11 : decode cX6_in 11 = .ok (.goto 4, 3) := by decide +kernel
theorem dX6_in_14 : decode cX6_in 14 = .ok (.iconst 0, 1) := by decide +kernel
theorem dX6_in_15 : decode cX6_in 15 = .ok (.ireturn, 1) := by decide +kernel
theorem dX6_isPerson_0 : decode cX6_isPerson 0 = .ok (.iload_n 0, 1) := by decide +kernel
theorem dX6_isPerson_1 : decode cX6_isPerson 1 = .ok (.iconst 0, 1) := by decide +kernel
theorem dX6_isPerson_2 : decode cX6_isPerson 2 = .ok (.bipush 7, 2) := by decide +kernel
theorem dX6_isPerson_4 : decode cX6_isPerson 4 = .ok (.invokestatic 77, 3) := by decide +kernel
theorem dX6_isPerson_7 : decode cX6_isPerson 7 = .ok (.ireturn, 1) := by decide +kernel
theorem dX6_isKey_0 : decode cX6_isKey 0 = .ok (.iload_n 0, 1) := by decide +kernel
theorem dX6_isKey_1 : decode cX6_isKey 1 = .ok (.iconst 0, 1) := by decide +kernel
theorem dX6_isKey_2 : decode cX6_isKey 2 = .ok (.iconst 5, 1) := by decide +kernel
theorem dX6_isKey_3 : decode cX6_isKey 3 = .ok (.invokestatic 77, 3) := by decide +kernel
theorem dX6_isKey_6 : decode cX6_isKey 6 = .ok (.ireturn, 1) := by decide +kernel
theorem dX6_isGroup_0 : decode cX6_isGroup 0 = .ok (.iload_n 1, 1) := by decide +kernel
theorem dX6_isGroup_1 : decode cX6_isGroup 1 = .ok (.iconst 0, 1) := by decide +kernel
theorem dX6_isGroup_2 : decode cX6_isGroup 2 = .ok (.aload_n 0, 1) := by decide +kernel
theorem dX6_isGroup_3 : decode cX6_isGroup 3 = .ok (.getfield 16, 3) := by decide +kernel
theorem dX6_isGroup_6 : decode cX6_isGroup 6 = .ok (.iconst 1, 1) := by decide +kernel
theorem dX6_isGroup_7 : decode cX6_isGroup 7 = .ok (.isub, 1) := by decide +kernel
theorem dX6_isGroup_8 : decode cX6_isGroup 8 = .ok (.invokestatic 77, 3) := by decide +kernel
theorem dX6_isGroup_11 : decode cX6_isGroup 11 = .ok (.ireturn, 1) := by decide +kernel
theorem dX6_isMachine_0 : decode cX6_isMachine 0 = .ok (.iload_n 1, 1) := by decide +kernel
theorem dX6_isMachine_1 : decode cX6_isMachine 1 = .ok (.iconst 0, 1) := by decide +kernel
theorem dX6_isMachine_2 : decode cX6_isMachine 2 = .ok (.aload_n 0, 1) := by decide +kernel
theorem dX6_isMachine_3 : decode cX6_isMachine 3 = .ok (.getfield 81, 3) := by decide +kernel
theorem dX6_isMachine_6 : decode cX6_isMachine 6 = .ok (.iconst 1, 1) := by decide +kernel
theorem dX6_isMachine_7 : decode cX6_isMachine 7 = .ok (.isub, 1) := by decide +kernel
theorem dX6_isMachine_8 : decode cX6_isMachine 8 = .ok (.invokestatic 77, 3) := by decide +kernel
theorem dX6_isMachine_11 : decode cX6_isMachine 11 = .ok (.ireturn, 1) := by decide +kernel
theorem dX6_isChange_0 : decode cX6_isChange 0 = .ok (.iload_n 1, 1) := by decide +kernel
theorem dX6_isChange_1 : decode cX6_isChange 1 = .ok (.iconst 0, 1) := by decide +kernel
theorem dX6_isChange_2 : decode cX6_isChange 2 = .ok (.aload_n 0, 1) := by decide +kernel
theorem dX6_isChange_3 : decode cX6_isChange 3 = .ok (.getfield 84, 3) := by decide +kernel
theorem dX6_isChange_6 : decode cX6_isChange 6 = .ok (.iconst 1, 1) := by decide +kernel
theorem dX6_isChange_7 : decode cX6_isChange 7 = .ok (.isub, 1) := by decide +kernel
theorem dX6_isChange_8 : decode cX6_isChange 8 = .ok (.invokestatic 77, 3) := by decide +kernel
theorem dX6_isChange_11 : decode cX6_isChange 11 = .ok (.ireturn, 1) := by decide +kernel
theorem dX6_isPlace_0 : decode cX6_isPlace 0 = .ok (.aload_n 0, 1) := by decide +kernel
theorem dX6_isPlace_1 : decode cX6_isPlace 1 = .ok (.iload_n 1, 1) := by decide +kernel
theorem dX6_isPlace_2 : decode cX6_isPlace 2 = .ok (.invokevirtual 87, 3) := by decide +kernel
theorem dX6_isPlace_5 : decode cX6_isPlace 5 = .ok (.ifCond .ne 19, 3) := by decide +kernel
theorem dX6_isPlace_8 : decode cX6_isPlace 8 = .ok (.iload_n 1, 1) := by decide +kernel
theorem dX6_isPlace_9 : decode cX6_isPlace 9 = .ok (.bipush 100, 2) := by decide +kernel
theorem dX6_isPlace_11 : decode cX6_isPlace 11 = .ok (.bipush 99, 2) := by decide +kernel
theorem dX6_isPlace_13 : decode cX6_isPlace 13 = .ok (.aload_n 0, 1) := by decide +kernel
theorem dX6_isPlace_14 : decode cX6_isPlace 14 = .ok (.getfield 81, 3) := by decide +kernel
theorem dX6_isPlace_17 : decode cX6_isPlace 17 = .ok (.iadd, 1) := by decide +kernel
theorem dX6_isPlace_18 : decode cX6_isPlace 18 = .ok (.invokestatic 77, 3) := by decide +kernel
theorem dX6_isPlace_21 : decode cX6_isPlace 21 = .ok (.ifCond .eq 7, 3) := by decide +kernel
theorem dX6_isPlace_24 : decode cX6_isPlace 24 = .ok (.iconst 1, 1) := by decide +kernel
theorem dX6_isPlace_25 : decode cX6_isPlace 25 = .ok (.goto 4, 3) := by decide +kernel
theorem dX6_isPlace_28 : decode cX6_isPlace 28 = .ok (.iconst 0, 1) := by decide +kernel
theorem dX6_isPlace_29 : decode cX6_isPlace 29 = .ok (.ireturn, 1) := by decide +kernel
theorem dX6_layers_0 : decode cX6_layers 0 = .ok (.iconst 1, 1) := by decide +kernel
theorem dX6_layers_1 : decode cX6_layers 1 = .ok (.istore_n 2, 1) := by decide +kernel
theorem dX6_layers_2 : decode cX6_layers 2 = .ok (.aload_n 0, 1) := by decide +kernel
theorem dX6_layers_3 : decode cX6_layers 3 = .ok (.getfield 26, 3) := by decide +kernel
theorem dX6_layers_6 : decode cX6_layers 6 = .ok (.iload_n 1, 1) := by decide +kernel
theorem dX6_layers_7 : decode cX6_layers 7 = .ok (.iaload, 1) := by decide +kernel
theorem dX6_layers_8 : decode cX6_layers 8 = .ok (.istore_n 3, 1) := by decide +kernel
theorem dX6_layers_9 : decode cX6_layers 9 = .ok (.iload_n 3, 1) := by decide +kernel
theorem dX6_layers_10 : decode cX6_layers 10 = .ok (.iconst (-1), 1) := by decide +kernel
theorem dX6_layers_11 : decode cX6_layers 11 = .ok (.if_icmp .eq 16, 3) := by decide +kernel
theorem dX6_layers_14 : decode cX6_layers 14 = .ok (.iinc 2 1, 3) := by decide +kernel
theorem dX6_layers_17 : decode cX6_layers 17 = .ok (.aload_n 0, 1) := by decide +kernel
theorem dX6_layers_18 : decode cX6_layers 18 = .ok (.getfield 20, 3) := by decide +kernel
theorem dX6_layers_21 : decode cX6_layers 21 = .ok (.iload_n 3, 1) := by decide +kernel
theorem dX6_layers_22 : decode cX6_layers 22 = .ok (.iaload, 1) := by decide +kernel
theorem dX6_layers_23 : decode cX6_layers 23 = .ok (.istore_n 3, 1) := by decide +kernel
theorem dX6_layers_24 : decode cX6_layers 24 = .ok (.goto (-15), 3) := by decide +kernel
theorem dX6_layers_27 : decode cX6_layers 27 = .ok (.iload_n 2, 1) := by decide +kernel
theorem dX6_layers_28 : decode cX6_layers 28 = .ok (.ireturn, 1) := by decide +kernel
theorem dX6_slot_0 : decode cX6_slot 0 = .ok (.iload_n 2, 1) := by decide +kernel
theorem dX6_slot_1 : decode cX6_slot 1 = .ok (.ifCond .ne 6, 3) := by decide +kernel
theorem dX6_slot_4 : decode cX6_slot 4 = .ok (.bipush 10, 2) := by decide +kernel
theorem dX6_slot_6 : decode cX6_slot 6 = .ok (.ireturn, 1) := by decide +kernel
theorem dX6_slot_7 : decode cX6_slot 7 = .ok (.aload_n 0, 1) := by decide +kernel
theorem dX6_slot_8 : decode cX6_slot 8 = .ok (.getfield 26, 3) := by decide +kernel
theorem dX6_slot_11 : decode cX6_slot 11 = .ok (.iload_n 1, 1) := by decide +kernel
theorem dX6_slot_12 : decode cX6_slot 12 = .ok (.iaload, 1) := by decide +kernel
theorem dX6_slot_13 : decode cX6_slot 13 = .ok (.istore_n 3, 1) := by decide +kernel
theorem dX6_slot_14 : decode cX6_slot 14 = .ok (.iconst 1, 1) := by decide +kernel
theorem dX6_slot_15 : decode cX6_slot 15 = .ok (.istore 4, 2) := by decide +kernel
theorem dX6_slot_17 : decode cX6_slot 17 = .ok (.iload 4, 2) := by decide +kernel
theorem dX6_slot_19 : decode cX6_slot 19 = .ok (.iload_n 2, 1) := by decide +kernel
theorem dX6_slot_20 : decode cX6_slot 20 = .ok (.if_icmp .ge 16, 3) := by decide +kernel
theorem dX6_slot_23 : decode cX6_slot 23 = .ok (.aload_n 0, 1) := by decide +kernel
theorem dX6_slot_24 : decode cX6_slot 24 = .ok (.getfield 20, 3) := by decide +kernel
theorem dX6_slot_27 : decode cX6_slot 27 = .ok (.iload_n 3, 1) := by decide +kernel
theorem dX6_slot_28 : decode cX6_slot 28 = .ok (.iaload, 1) := by decide +kernel
theorem dX6_slot_29 : decode cX6_slot 29 = .ok (.istore_n 3, 1) := by decide +kernel
theorem dX6_slot_30 : decode cX6_slot 30 = .ok (.iinc 4 1, 3) := by decide +kernel
theorem dX6_slot_33 : decode cX6_slot 33 = .ok (.goto (-16), 3) := by decide +kernel
theorem dX6_slot_36 : decode cX6_slot 36 = .ok (.iload_n 3, 1) := by decide +kernel
theorem dX6_slot_37 : decode cX6_slot 37 = .ok (.ireturn, 1) := by decide +kernel
theorem dX6_cells_0 : decode cX6_cells 0 = .ok (.bipush 6, 2) := by decide +kernel
theorem dX6_cells_2 : decode cX6_cells 2 = .ok (.bipush 11, 2) := by decide +kernel
theorem dX6_cells_4 : decode cX6_cells 4 = .ok (.iload_n 1, 1) := by decide +kernel
theorem dX6_cells_5 : decode cX6_cells 5 = .ok (.imul, 1) := by decide +kernel
theorem dX6_cells_6 : decode cX6_cells 6 = .ok (.iload_n 2, 1) := by decide +kernel
theorem dX6_cells_7 : decode cX6_cells 7 = .ok (.iadd, 1) := by decide +kernel
theorem dX6_cells_8 : decode cX6_cells 8 = .ok (.imul, 1) := by decide +kernel
theorem dX6_cells_9 : decode cX6_cells 9 = .ok (.ireturn, 1) := by decide +kernel
theorem dX6_top_0 : decode cX6_top 0 = .ok (.iconst (-1), 1) := by decide +kernel
theorem dX6_top_1 : decode cX6_top 1 = .ok (.istore_n 3, 1) := by decide +kernel
theorem dX6_top_2 : decode cX6_top 2 = .ok (.iconst 0, 1) := by decide +kernel
theorem dX6_top_3 : decode cX6_top 3 = .ok (.istore 4, 2) := by decide +kernel
theorem dX6_top_5 : decode cX6_top 5 = .ok (.iload 4, 2) := by decide +kernel
theorem dX6_top_7 : decode cX6_top 7 = .ok (.aload_n 0, 1) := by decide +kernel
theorem dX6_top_8 : decode cX6_top 8 = .ok (.getfield 84, 3) := by decide +kernel
theorem dX6_top_11 : decode cX6_top 11 = .ok (.if_icmp .ge 82, 3) := by decide +kernel
theorem dX6_top_14 : decode cX6_top 14 = .ok (.aload_n 0, 1) := by decide +kernel
theorem dX6_top_15 : decode cX6_top 15 = .ok (.getfield 50, 3) := by decide +kernel
theorem dX6_top_18 : decode cX6_top 18 = .ok (.iload 4, 2) := by decide +kernel
theorem dX6_top_20 : decode cX6_top 20 = .ok (.iaload, 1) := by decide +kernel
theorem dX6_top_21 : decode cX6_top 21 = .ok (.iconst 1, 1) := by decide +kernel
theorem dX6_top_22 : decode cX6_top 22 = .ok (.if_icmp .ne 29, 3) := by decide +kernel
theorem dX6_top_25 : decode cX6_top 25 = .ok (.aload_n 0, 1) := by decide +kernel
theorem dX6_top_26 : decode cX6_top 26 = .ok (.getfield 38, 3) := by decide +kernel
theorem dX6_top_29 : decode cX6_top 29 = .ok (.iload 4, 2) := by decide +kernel
theorem dX6_top_31 : decode cX6_top 31 = .ok (.iaload, 1) := by decide +kernel
theorem dX6_top_32 : decode cX6_top 32 = .ok (.iload_n 1, 1) := by decide +kernel
theorem dX6_top_33 : decode cX6_top 33 = .ok (.if_icmp .ne 18, 3) := by decide +kernel
theorem dX6_top_36 : decode cX6_top 36 = .ok (.aload_n 0, 1) := by decide +kernel
theorem dX6_top_37 : decode cX6_top 37 = .ok (.getfield 41, 3) := by decide +kernel
theorem dX6_top_40 : decode cX6_top 40 = .ok (.iload 4, 2) := by decide +kernel
theorem dX6_top_42 : decode cX6_top 42 = .ok (.iaload, 1) := by decide +kernel
theorem dX6_top_43 : decode cX6_top 43 = .ok (.iload_n 2, 1) := by decide +kernel
theorem dX6_top_44 : decode cX6_top 44 = .ok (.if_icmp .ne 7, 3) := by decide +kernel
theorem dX6_top_47 : decode cX6_top 47 = .ok (.iconst 1, 1) := by decide +kernel
theorem dX6_top_48 : decode cX6_top 48 = .ok (.goto 4, 3) := by decide +kernel
theorem dX6_top_51 : decode cX6_top 51 = .ok (.iconst 0, 1) := by decide +kernel
theorem dX6_top_52 : decode cX6_top 52 = .ok (.istore 5, 2) := by decide +kernel
theorem dX6_top_54 : decode cX6_top 54 = .ok (.iload 5, 2) := by decide +kernel
theorem dX6_top_56 : decode cX6_top 56 = .ok (.ifCond .eq 29, 3) := by decide +kernel
theorem dX6_top_59 : decode cX6_top 59 = .ok (.iload_n 3, 1) := by decide +kernel
theorem dX6_top_60 : decode cX6_top 60 = .ok (.iconst (-1), 1) := by decide +kernel
theorem dX6_top_61 : decode cX6_top 61 = .ok (.if_icmp .eq 19, 3) := by decide +kernel
theorem dX6_top_64 : decode cX6_top 64 = .ok (.aload_n 0, 1) := by decide +kernel
theorem dX6_top_65 : decode cX6_top 65 = .ok (.getfield 53, 3) := by decide +kernel
theorem dX6_top_68 : decode cX6_top 68 = .ok (.iload 4, 2) := by decide +kernel
theorem dX6_top_70 : decode cX6_top 70 = .ok (.iaload, 1) := by decide +kernel
theorem dX6_top_71 : decode cX6_top 71 = .ok (.aload_n 0, 1) := by decide +kernel
theorem dX6_top_72 : decode cX6_top 72 = .ok (.getfield 53, 3) := by decide +kernel
theorem dX6_top_75 : decode cX6_top 75 = .ok (.iload_n 3, 1) := by decide +kernel
theorem dX6_top_76 : decode cX6_top 76 = .ok (.iaload, 1) := by decide +kernel
theorem dX6_top_77 : decode cX6_top 77 = .ok (.if_icmp .le 8, 3) := by decide +kernel
theorem dX6_top_80 : decode cX6_top 80 = .ok (.iload 4, 2) := by decide +kernel
theorem dX6_top_82 : decode cX6_top 82 = .ok (.goto 4, 3) := by decide +kernel
theorem dX6_top_85 : decode cX6_top 85 = .ok (.iload_n 3, 1) := by decide +kernel
theorem dX6_top_86 : decode cX6_top 86 = .ok (.istore_n 3, 1) := by decide +kernel
theorem dX6_top_87 : decode cX6_top 87 = .ok (.iinc 4 1, 3) := by decide +kernel
theorem dX6_top_90 : decode cX6_top 90 = .ok (.goto (-85), 3) := by decide +kernel
theorem dX6_top_93 : decode cX6_top 93 = .ok (.iload_n 3, 1) := by decide +kernel
theorem dX6_top_94 : decode cX6_top 94 = .ok (.ireturn, 1) := by decide +kernel
theorem dX6_topOf_0 : decode cX6_topOf 0 = .ok (.aload_n 0, 1) := by decide +kernel
theorem dX6_topOf_1 : decode cX6_topOf 1 = .ok (.iload_n 2, 1) := by decide +kernel
theorem dX6_topOf_2 : decode cX6_topOf 2 = .ok (.bipush 10, 2) := by decide +kernel
theorem dX6_topOf_4 : decode cX6_topOf 4 = .ok (.if_icmp .ne 10, 3) := by decide +kernel
theorem dX6_topOf_7 : decode cX6_topOf 7 = .ok (.bipush 100, 2) := by decide +kernel
theorem dX6_topOf_9 : decode cX6_topOf 9 = .ok (.iload_n 1, 1) := by decide +kernel
theorem dX6_topOf_10 : decode cX6_topOf 10 = .ok (.iadd, 1) := by decide +kernel
theorem dX6_topOf_11 : decode cX6_topOf 11 = .ok (.goto 4, 3) := by decide +kernel
theorem dX6_topOf_14 : decode cX6_topOf 14 = .ok (.iload_n 2, 1) := by decide +kernel
theorem dX6_topOf_15 : decode cX6_topOf 15 = .ok (.iload_n 3, 1) := by decide +kernel
theorem dX6_topOf_16 : decode cX6_topOf 16 = .ok (.invokevirtual 91, 3) := by decide +kernel
theorem dX6_topOf_19 : decode cX6_topOf 19 = .ok (.ireturn, 1) := by decide +kernel
theorem dX6_looks_0 : decode cX6_looks 0 = .ok (.aload_n 0, 1) := by decide +kernel
theorem dX6_looks_1 : decode cX6_looks 1 = .ok (.iload_n 1, 1) := by decide +kernel
theorem dX6_looks_2 : decode cX6_looks 2 = .ok (.invokevirtual 95, 3) := by decide +kernel
theorem dX6_looks_5 : decode cX6_looks 5 = .ok (.istore_n 3, 1) := by decide +kernel
theorem dX6_looks_6 : decode cX6_looks 6 = .ok (.iconst 0, 1) := by decide +kernel
theorem dX6_looks_7 : decode cX6_looks 7 = .ok (.istore 4, 2) := by decide +kernel
theorem dX6_looks_9 : decode cX6_looks 9 = .ok (.iload 4, 2) := by decide +kernel
theorem dX6_looks_11 : decode cX6_looks 11 = .ok (.bipush 6, 2) := by decide +kernel
theorem dX6_looks_13 : decode cX6_looks 13 = .ok (.if_icmp .ge 172, 3) := by decide +kernel
theorem dX6_looks_16 : decode cX6_looks 16 = .ok (.aload_n 0, 1) := by decide +kernel
theorem dX6_looks_17 : decode cX6_looks 17 = .ok (.getfield 65, 3) := by decide +kernel
theorem dX6_looks_20 : decode cX6_looks 20 = .ok (.iload 4, 2) := by decide +kernel
theorem dX6_looks_22 : decode cX6_looks 22 = .ok (.iconst (-1), 1) := by decide +kernel
theorem dX6_looks_23 : decode cX6_looks 23 = .ok (.iastore, 1) := by decide +kernel
theorem dX6_looks_24 : decode cX6_looks 24 = .ok (.aload_n 0, 1) := by decide +kernel
theorem dX6_looks_25 : decode cX6_looks 25 = .ok (.getfield 68, 3) := by decide +kernel
theorem dX6_looks_28 : decode cX6_looks 28 = .ok (.iload 4, 2) := by decide +kernel
theorem dX6_looks_30 : decode cX6_looks 30 = .ok (.iconst (-1), 1) := by decide +kernel
theorem dX6_looks_31 : decode cX6_looks 31 = .ok (.iastore, 1) := by decide +kernel
theorem dX6_looks_32 : decode cX6_looks 32 = .ok (.aload_n 0, 1) := by decide +kernel
theorem dX6_looks_33 : decode cX6_looks 33 = .ok (.getfield 71, 3) := by decide +kernel
theorem dX6_looks_36 : decode cX6_looks 36 = .ok (.iload 4, 2) := by decide +kernel
theorem dX6_looks_38 : decode cX6_looks 38 = .ok (.iconst (-1), 1) := by decide +kernel
theorem dX6_looks_39 : decode cX6_looks 39 = .ok (.iastore, 1) := by decide +kernel
theorem dX6_looks_40 : decode cX6_looks 40 = .ok (.iconst 1, 1) := by decide +kernel
theorem dX6_looks_41 : decode cX6_looks 41 = .ok (.istore 5, 2) := by decide +kernel
theorem dX6_looks_43 : decode cX6_looks 43 = .ok (.iconst 0, 1) := by decide +kernel
theorem dX6_looks_44 : decode cX6_looks 44 = .ok (.istore 6, 2) := by decide +kernel
theorem dX6_looks_46 : decode cX6_looks 46 = .ok (.iload 6, 2) := by decide +kernel
theorem dX6_looks_48 : decode cX6_looks 48 = .ok (.iload_n 3, 1) := by decide +kernel
theorem dX6_looks_49 : decode cX6_looks 49 = .ok (.if_icmp .ge 130, 3) := by decide +kernel
theorem dX6_looks_52 : decode cX6_looks 52 = .ok (.iload 5, 2) := by decide +kernel
theorem dX6_looks_54 : decode cX6_looks 54 = .ok (.ifCond .eq 125, 3) := by decide +kernel
theorem dX6_looks_57 : decode cX6_looks 57 = .ok (.aload_n 0, 1) := by decide +kernel
theorem dX6_looks_58 : decode cX6_looks 58 = .ok (.iload_n 1, 1) := by decide +kernel
theorem dX6_looks_59 : decode cX6_looks 59 = .ok (.iload 6, 2) := by decide +kernel
theorem dX6_looks_61 : decode cX6_looks 61 = .ok (.invokevirtual 99, 3) := by decide +kernel
theorem dX6_looks_64 : decode cX6_looks 64 = .ok (.istore 7, 2) := by decide +kernel
theorem dX6_looks_66 : decode cX6_looks 66 = .ok (.iload_n 2, 1) := by decide +kernel
theorem dX6_looks_67 : decode cX6_looks 67 = .ok (.ifCond .eq 21, 3) := by decide +kernel
theorem dX6_looks_70 : decode cX6_looks 70 = .ok (.aload_n 0, 1) := by decide +kernel
theorem dX6_looks_71 : decode cX6_looks 71 = .ok (.getfield 32, 3) := by decide +kernel
theorem dX6_looks_74 : decode cX6_looks 74 = .ok (.aload_n 0, 1) := by decide +kernel
theorem dX6_looks_75 : decode cX6_looks 75 = .ok (.iload_n 1, 1) := by decide +kernel
theorem dX6_looks_76 : decode cX6_looks 76 = .ok (.iload 7, 2) := by decide +kernel
theorem dX6_looks_78 : decode cX6_looks 78 = .ok (.invokevirtual 102, 3) := by decide +kernel
theorem dX6_looks_81 : decode cX6_looks 81 = .ok (.iload 4, 2) := by decide +kernel
theorem dX6_looks_83 : decode cX6_looks 83 = .ok (.iadd, 1) := by decide +kernel
theorem dX6_looks_84 : decode cX6_looks 84 = .ok (.iaload, 1) := by decide +kernel
theorem dX6_looks_85 : decode cX6_looks 85 = .ok (.goto 12, 3) := by decide +kernel
theorem dX6_looks_88 : decode cX6_looks 88 = .ok (.aload_n 0, 1) := by decide +kernel
theorem dX6_looks_89 : decode cX6_looks 89 = .ok (.iload_n 1, 1) := by decide +kernel
theorem dX6_looks_90 : decode cX6_looks 90 = .ok (.iload 7, 2) := by decide +kernel
theorem dX6_looks_92 : decode cX6_looks 92 = .ok (.iload 4, 2) := by decide +kernel
theorem dX6_looks_94 : decode cX6_looks 94 = .ok (.invokevirtual 105, 3) := by decide +kernel
theorem dX6_looks_97 : decode cX6_looks 97 = .ok (.istore 8, 2) := by decide +kernel
theorem dX6_looks_99 : decode cX6_looks 99 = .ok (.iload 8, 2) := by decide +kernel
theorem dX6_looks_101 : decode cX6_looks 101 = .ok (.iconst (-1), 1) := by decide +kernel
theorem dX6_looks_102 : decode cX6_looks 102 = .ok (.if_icmp .eq 15, 3) := by decide +kernel
theorem dX6_looks_105 : decode cX6_looks 105 = .ok (.aload_n 0, 1) := by decide +kernel
theorem dX6_looks_106 : decode cX6_looks 106 = .ok (.getfield 47, 3) := by decide +kernel
theorem dX6_looks_109 : decode cX6_looks 109 = .ok (.iload 8, 2) := by decide +kernel
theorem dX6_looks_111 : decode cX6_looks 111 = .ok (.iaload, 1) := by decide +kernel
theorem dX6_looks_112 : decode cX6_looks 112 = .ok (.bipush 101, 2) := by decide +kernel
theorem dX6_looks_114 : decode cX6_looks 114 = .ok (.if_icmp .ne 7, 3) := by decide +kernel
theorem dX6_looks_117 : decode cX6_looks 117 = .ok (.iconst 1, 1) := by decide +kernel
theorem dX6_looks_118 : decode cX6_looks 118 = .ok (.goto 4, 3) := by decide +kernel
theorem dX6_looks_121 : decode cX6_looks 121 = .ok (.iconst 0, 1) := by decide +kernel
theorem dX6_looks_122 : decode cX6_looks 122 = .ok (.istore 5, 2) := by decide +kernel
theorem dX6_looks_124 : decode cX6_looks 124 = .ok (.iload 5, 2) := by decide +kernel
theorem dX6_looks_126 : decode cX6_looks 126 = .ok (.ifCond .ne 47, 3) := by decide +kernel
theorem dX6_looks_129 : decode cX6_looks 129 = .ok (.aload_n 0, 1) := by decide +kernel
theorem dX6_looks_130 : decode cX6_looks 130 = .ok (.getfield 47, 3) := by decide +kernel
theorem dX6_looks_133 : decode cX6_looks 133 = .ok (.iload 8, 2) := by decide +kernel
theorem dX6_looks_135 : decode cX6_looks 135 = .ok (.iaload, 1) := by decide +kernel
theorem dX6_looks_136 : decode cX6_looks 136 = .ok (.bipush 100, 2) := by decide +kernel
theorem dX6_looks_138 : decode cX6_looks 138 = .ok (.if_icmp .eq 35, 3) := by decide +kernel
theorem dX6_looks_141 : decode cX6_looks 141 = .ok (.aload_n 0, 1) := by decide +kernel
theorem dX6_looks_142 : decode cX6_looks 142 = .ok (.getfield 65, 3) := by decide +kernel
theorem dX6_looks_145 : decode cX6_looks 145 = .ok (.iload 4, 2) := by decide +kernel
theorem dX6_looks_147 : decode cX6_looks 147 = .ok (.aload_n 0, 1) := by decide +kernel
theorem dX6_looks_148 : decode cX6_looks 148 = .ok (.getfield 47, 3) := by decide +kernel
theorem dX6_looks_151 : decode cX6_looks 151 = .ok (.iload 8, 2) := by decide +kernel
theorem dX6_looks_153 : decode cX6_looks 153 = .ok (.iaload, 1) := by decide +kernel
theorem dX6_looks_154 : decode cX6_looks 154 = .ok (.iastore, 1) := by decide +kernel
theorem dX6_looks_155 : decode cX6_looks 155 = .ok (.aload_n 0, 1) := by decide +kernel
theorem dX6_looks_156 : decode cX6_looks 156 = .ok (.getfield 68, 3) := by decide +kernel
theorem dX6_looks_159 : decode cX6_looks 159 = .ok (.iload 4, 2) := by decide +kernel
theorem dX6_looks_161 : decode cX6_looks 161 = .ok (.iload 6, 2) := by decide +kernel
theorem dX6_looks_163 : decode cX6_looks 163 = .ok (.iastore, 1) := by decide +kernel
theorem dX6_looks_164 : decode cX6_looks 164 = .ok (.aload_n 0, 1) := by decide +kernel
theorem dX6_looks_165 : decode cX6_looks 165 = .ok (.getfield 71, 3) := by decide +kernel
theorem dX6_looks_168 : decode cX6_looks 168 = .ok (.iload 4, 2) := by decide +kernel
theorem dX6_looks_170 : decode cX6_looks 170 = .ok (.iload 8, 2) := by decide +kernel
theorem dX6_looks_172 : decode cX6_looks 172 = .ok (.iastore, 1) := by decide +kernel
theorem dX6_looks_173 : decode cX6_looks 173 = .ok (.iinc 6 1, 3) := by decide +kernel
theorem dX6_looks_176 : decode cX6_looks 176 = .ok (.goto (-130), 3) := by decide +kernel
theorem dX6_looks_179 : decode cX6_looks 179 = .ok (.iinc 4 1, 3) := by decide +kernel
theorem dX6_looks_182 : decode cX6_looks 182 = .ok (.goto (-173), 3) := by decide +kernel
theorem dX6_looks_185 : decode cX6_looks 185 = .ok (.return_, 1) := by decide +kernel
theorem dX6_isHidden_0 : decode cX6_isHidden 0 = .ok (.iconst 0, 1) := by decide +kernel
theorem dX6_isHidden_1 : decode cX6_isHidden 1 = .ok (.istore_n 2, 1) := by decide +kernel
theorem dX6_isHidden_2 : decode cX6_isHidden 2 = .ok (.iconst 0, 1) := by decide +kernel
theorem dX6_isHidden_3 : decode cX6_isHidden 3 = .ok (.istore_n 3, 1) := by decide +kernel
theorem dX6_isHidden_4 : decode cX6_isHidden 4 = .ok (.iload_n 3, 1) := by decide +kernel
theorem dX6_isHidden_5 : decode cX6_isHidden 5 = .ok (.bipush 6, 2) := by decide +kernel
theorem dX6_isHidden_7 : decode cX6_isHidden 7 = .ok (.if_icmp .ge 120, 3) := by decide +kernel
theorem dX6_isHidden_10 : decode cX6_isHidden 10 = .ok (.aload_n 0, 1) := by decide +kernel
theorem dX6_isHidden_11 : decode cX6_isHidden 11 = .ok (.getfield 62, 3) := by decide +kernel
theorem dX6_isHidden_14 : decode cX6_isHidden 14 = .ok (.iload_n 1, 1) := by decide +kernel
theorem dX6_isHidden_15 : decode cX6_isHidden 15 = .ok (.iaload, 1) := by decide +kernel
theorem dX6_isHidden_16 : decode cX6_isHidden 16 = .ok (.iload_n 3, 1) := by decide +kernel
theorem dX6_isHidden_17 : decode cX6_isHidden 17 = .ok (.ishr, 1) := by decide +kernel
theorem dX6_isHidden_18 : decode cX6_isHidden 18 = .ok (.iconst 1, 1) := by decide +kernel
theorem dX6_isHidden_19 : decode cX6_isHidden 19 = .ok (.iand, 1) := by decide +kernel
theorem dX6_isHidden_20 : decode cX6_isHidden 20 = .ok (.iconst 1, 1) := by decide +kernel
theorem dX6_isHidden_21 : decode cX6_isHidden 21 = .ok (.if_icmp .ne 27, 3) := by decide +kernel
theorem dX6_isHidden_24 : decode cX6_isHidden 24 = .ok (.aload_n 0, 1) := by decide +kernel
theorem dX6_isHidden_25 : decode cX6_isHidden 25 = .ok (.getfield 65, 3) := by decide +kernel
theorem dX6_isHidden_28 : decode cX6_isHidden 28 = .ok (.iload_n 1, 1) := by decide +kernel
theorem dX6_isHidden_29 : decode cX6_isHidden 29 = .ok (.iaload, 1) := by decide +kernel
theorem dX6_isHidden_30 : decode cX6_isHidden 30 = .ok (.iconst (-1), 1) := by decide +kernel
theorem dX6_isHidden_31 : decode cX6_isHidden 31 = .ok (.if_icmp .eq 17, 3) := by decide +kernel
theorem dX6_isHidden_34 : decode cX6_isHidden 34 = .ok (.aload_n 0, 1) := by decide +kernel
theorem dX6_isHidden_35 : decode cX6_isHidden 35 = .ok (.getfield 65, 3) := by decide +kernel
theorem dX6_isHidden_38 : decode cX6_isHidden 38 = .ok (.iload_n 3, 1) := by decide +kernel
theorem dX6_isHidden_39 : decode cX6_isHidden 39 = .ok (.iaload, 1) := by decide +kernel
theorem dX6_isHidden_40 : decode cX6_isHidden 40 = .ok (.iconst (-1), 1) := by decide +kernel
theorem dX6_isHidden_41 : decode cX6_isHidden 41 = .ok (.if_icmp .eq 7, 3) := by decide +kernel
theorem dX6_isHidden_44 : decode cX6_isHidden 44 = .ok (.iconst 1, 1) := by decide +kernel
theorem dX6_isHidden_45 : decode cX6_isHidden 45 = .ok (.goto 4, 3) := by decide +kernel
theorem dX6_isHidden_48 : decode cX6_isHidden 48 = .ok (.iconst 0, 1) := by decide +kernel
theorem dX6_isHidden_49 : decode cX6_isHidden 49 = .ok (.istore 4, 2) := by decide +kernel
theorem dX6_isHidden_51 : decode cX6_isHidden 51 = .ok (.iload_n 2, 1) := by decide +kernel
theorem dX6_isHidden_52 : decode cX6_isHidden 52 = .ok (.ifCond .ne 63, 3) := by decide +kernel
theorem dX6_isHidden_55 : decode cX6_isHidden 55 = .ok (.iload 4, 2) := by decide +kernel
theorem dX6_isHidden_57 : decode cX6_isHidden 57 = .ok (.ifCond .eq 62, 3) := by decide +kernel
theorem dX6_isHidden_60 : decode cX6_isHidden 60 = .ok (.aload_n 0, 1) := by decide +kernel
theorem dX6_isHidden_61 : decode cX6_isHidden 61 = .ok (.getfield 68, 3) := by decide +kernel
theorem dX6_isHidden_64 : decode cX6_isHidden 64 = .ok (.iload_n 1, 1) := by decide +kernel
theorem dX6_isHidden_65 : decode cX6_isHidden 65 = .ok (.iaload, 1) := by decide +kernel
theorem dX6_isHidden_66 : decode cX6_isHidden 66 = .ok (.aload_n 0, 1) := by decide +kernel
theorem dX6_isHidden_67 : decode cX6_isHidden 67 = .ok (.getfield 68, 3) := by decide +kernel
theorem dX6_isHidden_70 : decode cX6_isHidden 70 = .ok (.iload_n 3, 1) := by decide +kernel
theorem dX6_isHidden_71 : decode cX6_isHidden 71 = .ok (.iaload, 1) := by decide +kernel
theorem dX6_isHidden_72 : decode cX6_isHidden 72 = .ok (.if_icmp .gt 43, 3) := by decide +kernel
theorem dX6_isHidden_75 : decode cX6_isHidden 75 = .ok (.aload_n 0, 1) := by decide +kernel
theorem dX6_isHidden_76 : decode cX6_isHidden 76 = .ok (.getfield 68, 3) := by decide +kernel
theorem dX6_isHidden_79 : decode cX6_isHidden 79 = .ok (.iload_n 1, 1) := by decide +kernel
theorem dX6_isHidden_80 : decode cX6_isHidden 80 = .ok (.iaload, 1) := by decide +kernel
theorem dX6_isHidden_81 : decode cX6_isHidden 81 = .ok (.aload_n 0, 1) := by decide +kernel
theorem dX6_isHidden_82 : decode cX6_isHidden 82 = .ok (.getfield 68, 3) := by decide +kernel
theorem dX6_isHidden_85 : decode cX6_isHidden 85 = .ok (.iload_n 3, 1) := by decide +kernel
theorem dX6_isHidden_86 : decode cX6_isHidden 86 = .ok (.iaload, 1) := by decide +kernel
theorem dX6_isHidden_87 : decode cX6_isHidden 87 = .ok (.if_icmp .ne 32, 3) := by decide +kernel
theorem dX6_isHidden_90 : decode cX6_isHidden 90 = .ok (.aload_n 0, 1) := by decide +kernel
theorem dX6_isHidden_91 : decode cX6_isHidden 91 = .ok (.getfield 53, 3) := by decide +kernel
theorem dX6_isHidden_94 : decode cX6_isHidden 94 = .ok (.aload_n 0, 1) := by decide +kernel
theorem dX6_isHidden_95 : decode cX6_isHidden 95 = .ok (.getfield 71, 3) := by decide +kernel
theorem dX6_isHidden_98 : decode cX6_isHidden 98 = .ok (.iload_n 1, 1) := by decide +kernel
theorem dX6_isHidden_99 : decode cX6_isHidden 99 = .ok (.iaload, 1) := by decide +kernel
theorem dX6_isHidden_100 : decode cX6_isHidden 100 = .ok (.iaload, 1) := by decide +kernel
theorem dX6_isHidden_101 : decode cX6_isHidden 101 = .ok (.aload_n 0, 1) := by decide +kernel
theorem dX6_isHidden_102 : decode cX6_isHidden 102 = .ok (.getfield 53, 3) := by decide +kernel
theorem dX6_isHidden_105 : decode cX6_isHidden 105 = .ok (.aload_n 0, 1) := by decide +kernel
theorem dX6_isHidden_106 : decode cX6_isHidden 106 = .ok (.getfield 71, 3) := by decide +kernel
theorem dX6_isHidden_109 : decode cX6_isHidden 109 = .ok (.iload_n 3, 1) := by decide +kernel
theorem dX6_isHidden_110 : decode cX6_isHidden 110 = .ok (.iaload, 1) := by decide +kernel
theorem dX6_isHidden_111 : decode cX6_isHidden 111 = .ok (.iaload, 1) := by decide +kernel
theorem dX6_isHidden_112 : decode cX6_isHidden 112 = .ok (.if_icmp .ge 7, 3) := by decide +kernel
theorem dX6_isHidden_115 : decode cX6_isHidden 115 = .ok (.iconst 1, 1) := by decide +kernel
theorem dX6_isHidden_116 : decode cX6_isHidden 116 = .ok (.goto 4, 3) := by decide +kernel
theorem dX6_isHidden_119 : decode cX6_isHidden 119 = .ok (.iconst 0, 1) := by decide +kernel
theorem dX6_isHidden_120 : decode cX6_isHidden 120 = .ok (.istore_n 2, 1) := by decide +kernel
theorem dX6_isHidden_121 : decode cX6_isHidden 121 = .ok (.iinc 3 1, 3) := by decide +kernel
theorem dX6_isHidden_124 : decode cX6_isHidden 124 = .ok (.goto (-120), 3) := by decide +kernel
theorem dX6_isHidden_127 : decode cX6_isHidden 127 = .ok (.iload_n 2, 1) := by decide +kernel
theorem dX6_isHidden_128 : decode cX6_isHidden 128 = .ok (.ireturn, 1) := by decide +kernel
theorem dX6_isHalted_0 : decode cX6_isHalted 0 = .ok (.iconst 0, 1) := by decide +kernel
theorem dX6_isHalted_1 : decode cX6_isHalted 1 = .ok (.istore_n 2, 1) := by decide +kernel
theorem dX6_isHalted_2 : decode cX6_isHalted 2 = .ok (.aload_n 0, 1) := by decide +kernel
theorem dX6_isHalted_3 : decode cX6_isHalted 3 = .ok (.iload_n 1, 1) := by decide +kernel
theorem dX6_isHalted_4 : decode cX6_isHalted 4 = .ok (.iconst 0, 1) := by decide +kernel
theorem dX6_isHalted_5 : decode cX6_isHalted 5 = .ok (.invokevirtual 102, 3) := by decide +kernel
theorem dX6_isHalted_8 : decode cX6_isHalted 8 = .ok (.istore_n 3, 1) := by decide +kernel
theorem dX6_isHalted_9 : decode cX6_isHalted 9 = .ok (.iload_n 3, 1) := by decide +kernel
theorem dX6_isHalted_10 : decode cX6_isHalted 10 = .ok (.aload_n 0, 1) := by decide +kernel
theorem dX6_isHalted_11 : decode cX6_isHalted 11 = .ok (.iload_n 1, 1) := by decide +kernel
theorem dX6_isHalted_12 : decode cX6_isHalted 12 = .ok (.iconst 1, 1) := by decide +kernel
theorem dX6_isHalted_13 : decode cX6_isHalted 13 = .ok (.iadd, 1) := by decide +kernel
theorem dX6_isHalted_14 : decode cX6_isHalted 14 = .ok (.iconst 0, 1) := by decide +kernel
theorem dX6_isHalted_15 : decode cX6_isHalted 15 = .ok (.invokevirtual 102, 3) := by decide +kernel
theorem dX6_isHalted_18 : decode cX6_isHalted 18 = .ok (.if_icmp .ge 44, 3) := by decide +kernel
theorem dX6_isHalted_21 : decode cX6_isHalted 21 = .ok (.iload_n 2, 1) := by decide +kernel
theorem dX6_isHalted_22 : decode cX6_isHalted 22 = .ok (.ifCond .ne 28, 3) := by decide +kernel
theorem dX6_isHalted_25 : decode cX6_isHalted 25 = .ok (.aload_n 0, 1) := by decide +kernel
theorem dX6_isHalted_26 : decode cX6_isHalted 26 = .ok (.getfield 32, 3) := by decide +kernel
theorem dX6_isHalted_29 : decode cX6_isHalted 29 = .ok (.iload_n 3, 1) := by decide +kernel
theorem dX6_isHalted_30 : decode cX6_isHalted 30 = .ok (.iaload, 1) := by decide +kernel
theorem dX6_isHalted_31 : decode cX6_isHalted 31 = .ok (.iconst (-1), 1) := by decide +kernel
theorem dX6_isHalted_32 : decode cX6_isHalted 32 = .ok (.if_icmp .eq 22, 3) := by decide +kernel
theorem dX6_isHalted_35 : decode cX6_isHalted 35 = .ok (.aload_n 0, 1) := by decide +kernel
theorem dX6_isHalted_36 : decode cX6_isHalted 36 = .ok (.getfield 50, 3) := by decide +kernel
theorem dX6_isHalted_39 : decode cX6_isHalted 39 = .ok (.aload_n 0, 1) := by decide +kernel
theorem dX6_isHalted_40 : decode cX6_isHalted 40 = .ok (.getfield 32, 3) := by decide +kernel
theorem dX6_isHalted_43 : decode cX6_isHalted 43 = .ok (.iload_n 3, 1) := by decide +kernel
theorem dX6_isHalted_44 : decode cX6_isHalted 44 = .ok (.iaload, 1) := by decide +kernel
theorem dX6_isHalted_45 : decode cX6_isHalted 45 = .ok (.iaload, 1) := by decide +kernel
theorem dX6_isHalted_46 : decode cX6_isHalted 46 = .ok (.iconst 1, 1) := by decide +kernel
theorem dX6_isHalted_47 : decode cX6_isHalted 47 = .ok (.if_icmp .eq 7, 3) := by decide +kernel
theorem dX6_isHalted_50 : decode cX6_isHalted 50 = .ok (.iconst 1, 1) := by decide +kernel
theorem dX6_isHalted_51 : decode cX6_isHalted 51 = .ok (.goto 4, 3) := by decide +kernel
theorem dX6_isHalted_54 : decode cX6_isHalted 54 = .ok (.iconst 0, 1) := by decide +kernel
theorem dX6_isHalted_55 : decode cX6_isHalted 55 = .ok (.istore_n 2, 1) := by decide +kernel
theorem dX6_isHalted_56 : decode cX6_isHalted 56 = .ok (.iinc 3 1, 3) := by decide +kernel
theorem dX6_isHalted_59 : decode cX6_isHalted 59 = .ok (.goto (-50), 3) := by decide +kernel
theorem dX6_isHalted_62 : decode cX6_isHalted 62 = .ok (.iload_n 2, 1) := by decide +kernel
theorem dX6_isHalted_63 : decode cX6_isHalted 63 = .ok (.ireturn, 1) := by decide +kernel
theorem dX6_works_0 : decode cX6_works 0 = .ok (.aload_n 0, 1) := by decide +kernel
theorem dX6_works_1 : decode cX6_works 1 = .ok (.getfield 109, 3) := by decide +kernel
theorem dX6_works_4 : decode cX6_works 4 = .ok (.aload_n 0, 1) := by decide +kernel
theorem dX6_works_5 : decode cX6_works 5 = .ok (.getfield 29, 3) := by decide +kernel
theorem dX6_works_8 : decode cX6_works 8 = .ok (.iload_n 1, 1) := by decide +kernel
theorem dX6_works_9 : decode cX6_works 9 = .ok (.iaload, 1) := by decide +kernel
theorem dX6_works_10 : decode cX6_works 10 = .ok (.if_icmp .ge 7, 3) := by decide +kernel
theorem dX6_works_13 : decode cX6_works 13 = .ok (.iconst 1, 1) := by decide +kernel
theorem dX6_works_14 : decode cX6_works 14 = .ok (.goto 4, 3) := by decide +kernel
theorem dX6_works_17 : decode cX6_works 17 = .ok (.iconst 0, 1) := by decide +kernel
theorem dX6_works_18 : decode cX6_works 18 = .ok (.ireturn, 1) := by decide +kernel
theorem dX6_setDuty_0 : decode cX6_setDuty 0 = .ok (.aload_n 0, 1) := by decide +kernel
theorem dX6_setDuty_1 : decode cX6_setDuty 1 = .ok (.iconst 0, 1) := by decide +kernel
theorem dX6_setDuty_2 : decode cX6_setDuty 2 = .ok (.putfield 74, 3) := by decide +kernel
theorem dX6_setDuty_5 : decode cX6_setDuty 5 = .ok (.iload_n 1, 1) := by decide +kernel
theorem dX6_setDuty_6 : decode cX6_setDuty 6 = .ok (.iconst 0, 1) := by decide +kernel
theorem dX6_setDuty_7 : decode cX6_setDuty 7 = .ok (.iconst 3, 1) := by decide +kernel
theorem dX6_setDuty_8 : decode cX6_setDuty 8 = .ok (.invokestatic 77, 3) := by decide +kernel
theorem dX6_setDuty_11 : decode cX6_setDuty 11 = .ok (.ifCond .eq 14, 3) := by decide +kernel
theorem dX6_setDuty_14 : decode cX6_setDuty 14 = .ok (.iload_n 2, 1) := by decide +kernel
theorem dX6_setDuty_15 : decode cX6_setDuty 15 = .ok (.iconst 0, 1) := by decide +kernel
theorem dX6_setDuty_16 : decode cX6_setDuty 16 = .ok (.sipush 255, 3) := by decide +kernel
theorem dX6_setDuty_19 : decode cX6_setDuty 19 = .ok (.invokestatic 77, 3) := by decide +kernel
theorem dX6_setDuty_22 : decode cX6_setDuty 22 = .ok (.ifCond .ne 9, 3) := by decide +kernel
theorem dX6_setDuty_25 : decode cX6_setDuty 25 = .ok (.aload_n 0, 1) := by decide +kernel
theorem dX6_setDuty_26 : decode cX6_setDuty 26 = .ok (.iconst 1, 1) := by decide +kernel
theorem dX6_setDuty_27 : decode cX6_setDuty 27 = .ok (.invokevirtual 112, 3) := by decide +kernel
theorem dX6_setDuty_30 : decode cX6_setDuty 30 = .ok (.ireturn, 1) := by decide +kernel
theorem dX6_setDuty_31 : decode cX6_setDuty 31 = .ok (.aload_n 0, 1) := by decide +kernel
theorem dX6_setDuty_32 : decode cX6_setDuty 32 = .ok (.getfield 7, 3) := by decide +kernel
theorem dX6_setDuty_35 : decode cX6_setDuty 35 = .ok (.iload_n 1, 1) := by decide +kernel
theorem dX6_setDuty_36 : decode cX6_setDuty 36 = .ok (.iaload, 1) := by decide +kernel
theorem dX6_setDuty_37 : decode cX6_setDuty 37 = .ok (.istore_n 3, 1) := by decide +kernel
theorem dX6_setDuty_38 : decode cX6_setDuty 38 = .ok (.aload_n 0, 1) := by decide +kernel
theorem dX6_setDuty_39 : decode cX6_setDuty 39 = .ok (.getfield 7, 3) := by decide +kernel
theorem dX6_setDuty_42 : decode cX6_setDuty 42 = .ok (.iload_n 1, 1) := by decide +kernel
theorem dX6_setDuty_43 : decode cX6_setDuty 43 = .ok (.iload_n 2, 1) := by decide +kernel
theorem dX6_setDuty_44 : decode cX6_setDuty 44 = .ok (.iastore, 1) := by decide +kernel
theorem dX6_setDuty_45 : decode cX6_setDuty 45 = .ok (.iload_n 3, 1) := by decide +kernel
theorem dX6_setDuty_46 : decode cX6_setDuty 46 = .ok (.ireturn, 1) := by decide +kernel
theorem dX6_good_0 : decode cX6_good 0 = .ok (.iconst 0, 1) := by decide +kernel
theorem dX6_good_1 : decode cX6_good 1 = .ok (.istore_n 2, 1) := by decide +kernel
theorem dX6_good_2 : decode cX6_good 2 = .ok (.iconst 0, 1) := by decide +kernel
theorem dX6_good_3 : decode cX6_good 3 = .ok (.istore_n 3, 1) := by decide +kernel
theorem dX6_good_4 : decode cX6_good 4 = .ok (.iload_n 3, 1) := by decide +kernel
theorem dX6_good_5 : decode cX6_good 5 = .ok (.bipush 8, 2) := by decide +kernel
theorem dX6_good_7 : decode cX6_good 7 = .ok (.if_icmp .ge 32, 3) := by decide +kernel
theorem dX6_good_10 : decode cX6_good 10 = .ok (.iload_n 2, 1) := by decide +kernel
theorem dX6_good_11 : decode cX6_good 11 = .ok (.aload_n 0, 1) := by decide +kernel
theorem dX6_good_12 : decode cX6_good 12 = .ok (.getfield 56, 3) := by decide +kernel
theorem dX6_good_15 : decode cX6_good 15 = .ok (.bipush 8, 2) := by decide +kernel
theorem dX6_good_17 : decode cX6_good 17 = .ok (.iload_n 1, 1) := by decide +kernel
theorem dX6_good_18 : decode cX6_good 18 = .ok (.imul, 1) := by decide +kernel
theorem dX6_good_19 : decode cX6_good 19 = .ok (.iload_n 3, 1) := by decide +kernel
theorem dX6_good_20 : decode cX6_good 20 = .ok (.iadd, 1) := by decide +kernel
theorem dX6_good_21 : decode cX6_good 21 = .ok (.iaload, 1) := by decide +kernel
theorem dX6_good_22 : decode cX6_good 22 = .ok (.iconst 1, 1) := by decide +kernel
theorem dX6_good_23 : decode cX6_good 23 = .ok (.if_icmp .ne 7, 3) := by decide +kernel
theorem dX6_good_26 : decode cX6_good 26 = .ok (.iconst 1, 1) := by decide +kernel
theorem dX6_good_27 : decode cX6_good 27 = .ok (.goto 4, 3) := by decide +kernel
theorem dX6_good_30 : decode cX6_good 30 = .ok (.iconst 0, 1) := by decide +kernel
theorem dX6_good_31 : decode cX6_good 31 = .ok (.iadd, 1) := by decide +kernel
theorem dX6_good_32 : decode cX6_good 32 = .ok (.istore_n 2, 1) := by decide +kernel
theorem dX6_good_33 : decode cX6_good 33 = .ok (.iinc 3 1, 3) := by decide +kernel
theorem dX6_good_36 : decode cX6_good 36 = .ok (.goto (-32), 3) := by decide +kernel
theorem dX6_good_39 : decode cX6_good 39 = .ok (.iload_n 2, 1) := by decide +kernel
theorem dX6_good_40 : decode cX6_good 40 = .ok (.ireturn, 1) := by decide +kernel
theorem dX6_voids_0 : decode cX6_voids 0 = .ok (.iconst 0, 1) := by decide +kernel
theorem dX6_voids_1 : decode cX6_voids 1 = .ok (.istore_n 2, 1) := by decide +kernel
theorem dX6_voids_2 : decode cX6_voids 2 = .ok (.iconst 0, 1) := by decide +kernel
theorem dX6_voids_3 : decode cX6_voids 3 = .ok (.istore_n 3, 1) := by decide +kernel
theorem dX6_voids_4 : decode cX6_voids 4 = .ok (.iload_n 3, 1) := by decide +kernel
theorem dX6_voids_5 : decode cX6_voids 5 = .ok (.aload_n 0, 1) := by decide +kernel
theorem dX6_voids_6 : decode cX6_voids 6 = .ok (.getfield 84, 3) := by decide +kernel
theorem dX6_voids_9 : decode cX6_voids 9 = .ok (.if_icmp .ge 147, 3) := by decide +kernel
theorem dX6_voids_12 : decode cX6_voids 12 = .ok (.aload_n 0, 1) := by decide +kernel
theorem dX6_voids_13 : decode cX6_voids 13 = .ok (.getfield 50, 3) := by decide +kernel
theorem dX6_voids_16 : decode cX6_voids 16 = .ok (.iload_n 3, 1) := by decide +kernel
theorem dX6_voids_17 : decode cX6_voids 17 = .ok (.iaload, 1) := by decide +kernel
theorem dX6_voids_18 : decode cX6_voids 18 = .ok (.iconst 1, 1) := by decide +kernel
theorem dX6_voids_19 : decode cX6_voids 19 = .ok (.if_icmp .ne 7, 3) := by decide +kernel
theorem dX6_voids_22 : decode cX6_voids 22 = .ok (.iconst 1, 1) := by decide +kernel
theorem dX6_voids_23 : decode cX6_voids 23 = .ok (.goto 4, 3) := by decide +kernel
theorem dX6_voids_26 : decode cX6_voids 26 = .ok (.iconst 0, 1) := by decide +kernel
theorem dX6_voids_27 : decode cX6_voids 27 = .ok (.istore 4, 2) := by decide +kernel
theorem dX6_voids_29 : decode cX6_voids 29 = .ok (.bipush 8, 2) := by decide +kernel
theorem dX6_voids_31 : decode cX6_voids 31 = .ok (.iload_n 3, 1) := by decide +kernel
theorem dX6_voids_32 : decode cX6_voids 32 = .ok (.imul, 1) := by decide +kernel
theorem dX6_voids_33 : decode cX6_voids 33 = .ok (.iload_n 1, 1) := by decide +kernel
theorem dX6_voids_34 : decode cX6_voids 34 = .ok (.iadd, 1) := by decide +kernel
theorem dX6_voids_35 : decode cX6_voids 35 = .ok (.istore 5, 2) := by decide +kernel
theorem dX6_voids_37 : decode cX6_voids 37 = .ok (.aload_n 0, 1) := by decide +kernel
theorem dX6_voids_38 : decode cX6_voids 38 = .ok (.getfield 56, 3) := by decide +kernel
theorem dX6_voids_41 : decode cX6_voids 41 = .ok (.iload 5, 2) := by decide +kernel
theorem dX6_voids_43 : decode cX6_voids 43 = .ok (.iaload, 1) := by decide +kernel
theorem dX6_voids_44 : decode cX6_voids 44 = .ok (.iconst 1, 1) := by decide +kernel
theorem dX6_voids_45 : decode cX6_voids 45 = .ok (.if_icmp .ne 28, 3) := by decide +kernel
theorem dX6_voids_48 : decode cX6_voids 48 = .ok (.aload_n 0, 1) := by decide +kernel
theorem dX6_voids_49 : decode cX6_voids 49 = .ok (.getfield 109, 3) := by decide +kernel
theorem dX6_voids_52 : decode cX6_voids 52 = .ok (.aload_n 0, 1) := by decide +kernel
theorem dX6_voids_53 : decode cX6_voids 53 = .ok (.getfield 59, 3) := by decide +kernel
theorem dX6_voids_56 : decode cX6_voids 56 = .ok (.iload 5, 2) := by decide +kernel
theorem dX6_voids_58 : decode cX6_voids 58 = .ok (.iaload, 1) := by decide +kernel
theorem dX6_voids_59 : decode cX6_voids 59 = .ok (.isub, 1) := by decide +kernel
theorem dX6_voids_60 : decode cX6_voids 60 = .ok (.bipush 30, 2) := by decide +kernel
theorem dX6_voids_62 : decode cX6_voids 62 = .ok (.if_icmp .ge 11, 3) := by decide +kernel
theorem dX6_voids_65 : decode cX6_voids 65 = .ok (.aload_n 0, 1) := by decide +kernel
theorem dX6_voids_66 : decode cX6_voids 66 = .ok (.getfield 56, 3) := by decide +kernel
theorem dX6_voids_69 : decode cX6_voids 69 = .ok (.iload 5, 2) := by decide +kernel
theorem dX6_voids_71 : decode cX6_voids 71 = .ok (.iconst 2, 1) := by decide +kernel
theorem dX6_voids_72 : decode cX6_voids 72 = .ok (.iastore, 1) := by decide +kernel
theorem dX6_voids_73 : decode cX6_voids 73 = .ok (.iload 4, 2) := by decide +kernel
theorem dX6_voids_75 : decode cX6_voids 75 = .ok (.ifCond .eq 19, 3) := by decide +kernel
theorem dX6_voids_78 : decode cX6_voids 78 = .ok (.aload_n 0, 1) := by decide +kernel
theorem dX6_voids_79 : decode cX6_voids 79 = .ok (.iload_n 3, 1) := by decide +kernel
theorem dX6_voids_80 : decode cX6_voids 80 = .ok (.invokevirtual 115, 3) := by decide +kernel
theorem dX6_voids_83 : decode cX6_voids 83 = .ok (.iconst 2, 1) := by decide +kernel
theorem dX6_voids_84 : decode cX6_voids 84 = .ok (.if_icmp .ge 10, 3) := by decide +kernel
theorem dX6_voids_87 : decode cX6_voids 87 = .ok (.aload_n 0, 1) := by decide +kernel
theorem dX6_voids_88 : decode cX6_voids 88 = .ok (.getfield 50, 3) := by decide +kernel
theorem dX6_voids_91 : decode cX6_voids 91 = .ok (.iload_n 3, 1) := by decide +kernel
theorem dX6_voids_92 : decode cX6_voids 92 = .ok (.iconst 2, 1) := by decide +kernel
theorem dX6_voids_93 : decode cX6_voids 93 = .ok (.iastore, 1) := by decide +kernel
theorem dX6_voids_94 : decode cX6_voids 94 = .ok (.aload_n 0, 1) := by decide +kernel
theorem dX6_voids_95 : decode cX6_voids 95 = .ok (.getfield 35, 3) := by decide +kernel
theorem dX6_voids_98 : decode cX6_voids 98 = .ok (.iload_n 3, 1) := by decide +kernel
theorem dX6_voids_99 : decode cX6_voids 99 = .ok (.iaload, 1) := by decide +kernel
theorem dX6_voids_100 : decode cX6_voids 100 = .ok (.iload_n 1, 1) := by decide +kernel
theorem dX6_voids_101 : decode cX6_voids 101 = .ok (.if_icmp .ne 26, 3) := by decide +kernel
theorem dX6_voids_104 : decode cX6_voids 104 = .ok (.aload_n 0, 1) := by decide +kernel
theorem dX6_voids_105 : decode cX6_voids 105 = .ok (.getfield 109, 3) := by decide +kernel
theorem dX6_voids_108 : decode cX6_voids 108 = .ok (.aload_n 0, 1) := by decide +kernel
theorem dX6_voids_109 : decode cX6_voids 109 = .ok (.getfield 44, 3) := by decide +kernel
theorem dX6_voids_112 : decode cX6_voids 112 = .ok (.iload_n 3, 1) := by decide +kernel
theorem dX6_voids_113 : decode cX6_voids 113 = .ok (.iaload, 1) := by decide +kernel
theorem dX6_voids_114 : decode cX6_voids 114 = .ok (.isub, 1) := by decide +kernel
theorem dX6_voids_115 : decode cX6_voids 115 = .ok (.bipush 30, 2) := by decide +kernel
theorem dX6_voids_117 : decode cX6_voids 117 = .ok (.if_icmp .ge 10, 3) := by decide +kernel
theorem dX6_voids_120 : decode cX6_voids 120 = .ok (.aload_n 0, 1) := by decide +kernel
theorem dX6_voids_121 : decode cX6_voids 121 = .ok (.getfield 50, 3) := by decide +kernel
theorem dX6_voids_124 : decode cX6_voids 124 = .ok (.iload_n 3, 1) := by decide +kernel
theorem dX6_voids_125 : decode cX6_voids 125 = .ok (.iconst 3, 1) := by decide +kernel
theorem dX6_voids_126 : decode cX6_voids 126 = .ok (.iastore, 1) := by decide +kernel
theorem dX6_voids_127 : decode cX6_voids 127 = .ok (.iload_n 2, 1) := by decide +kernel
theorem dX6_voids_128 : decode cX6_voids 128 = .ok (.iload 4, 2) := by decide +kernel
theorem dX6_voids_130 : decode cX6_voids 130 = .ok (.ifCond .eq 17, 3) := by decide +kernel
theorem dX6_voids_133 : decode cX6_voids 133 = .ok (.aload_n 0, 1) := by decide +kernel
theorem dX6_voids_134 : decode cX6_voids 134 = .ok (.getfield 50, 3) := by decide +kernel
theorem dX6_voids_137 : decode cX6_voids 137 = .ok (.iload_n 3, 1) := by decide +kernel
theorem dX6_voids_138 : decode cX6_voids 138 = .ok (.iaload, 1) := by decide +kernel
theorem dX6_voids_139 : decode cX6_voids 139 = .ok (.iconst 1, 1) := by decide +kernel
theorem dX6_voids_140 : decode cX6_voids 140 = .ok (.if_icmp .eq 7, 3) := by decide +kernel
theorem dX6_voids_143 : decode cX6_voids 143 = .ok (.iconst 1, 1) := by decide +kernel
theorem dX6_voids_144 : decode cX6_voids 144 = .ok (.goto 4, 3) := by decide +kernel
theorem dX6_voids_147 : decode cX6_voids 147 = .ok (.iconst 0, 1) := by decide +kernel
theorem dX6_voids_148 : decode cX6_voids 148 = .ok (.iadd, 1) := by decide +kernel
theorem dX6_voids_149 : decode cX6_voids 149 = .ok (.istore_n 2, 1) := by decide +kernel
theorem dX6_voids_150 : decode cX6_voids 150 = .ok (.iinc 3 1, 3) := by decide +kernel
theorem dX6_voids_153 : decode cX6_voids 153 = .ok (.goto (-149), 3) := by decide +kernel
theorem dX6_voids_156 : decode cX6_voids 156 = .ok (.iconst 0, 1) := by decide +kernel
theorem dX6_voids_157 : decode cX6_voids 157 = .ok (.istore_n 3, 1) := by decide +kernel
theorem dX6_voids_158 : decode cX6_voids 158 = .ok (.iload_n 3, 1) := by decide +kernel
theorem dX6_voids_159 : decode cX6_voids 159 = .ok (.aload_n 0, 1) := by decide +kernel
theorem dX6_voids_160 : decode cX6_voids 160 = .ok (.getfield 81, 3) := by decide +kernel
theorem dX6_voids_163 : decode cX6_voids 163 = .ok (.if_icmp .ge 36, 3) := by decide +kernel
theorem dX6_voids_166 : decode cX6_voids 166 = .ok (.aload_n 0, 1) := by decide +kernel
theorem dX6_voids_167 : decode cX6_voids 167 = .ok (.getfield 29, 3) := by decide +kernel
theorem dX6_voids_170 : decode cX6_voids 170 = .ok (.iload_n 3, 1) := by decide +kernel
theorem dX6_voids_171 : decode cX6_voids 171 = .ok (.aload_n 0, 1) := by decide +kernel
theorem dX6_voids_172 : decode cX6_voids 172 = .ok (.iload_n 3, 1) := by decide +kernel
theorem dX6_voids_173 : decode cX6_voids 173 = .ok (.invokevirtual 118, 3) := by decide +kernel
theorem dX6_voids_176 : decode cX6_voids 176 = .ok (.ifCond .eq 10, 3) := by decide +kernel
theorem dX6_voids_179 : decode cX6_voids 179 = .ok (.aload_n 0, 1) := by decide +kernel
theorem dX6_voids_180 : decode cX6_voids 180 = .ok (.getfield 109, 3) := by decide +kernel
theorem dX6_voids_183 : decode cX6_voids 183 = .ok (.goto 9, 3) := by decide +kernel
theorem dX6_voids_186 : decode cX6_voids 186 = .ok (.aload_n 0, 1) := by decide +kernel
theorem dX6_voids_187 : decode cX6_voids 187 = .ok (.getfield 29, 3) := by decide +kernel
theorem dX6_voids_190 : decode cX6_voids 190 = .ok (.iload_n 3, 1) := by decide +kernel
theorem dX6_voids_191 : decode cX6_voids 191 = .ok (.iaload, 1) := by decide +kernel
theorem dX6_voids_192 : decode cX6_voids 192 = .ok (.iastore, 1) := by decide +kernel
theorem dX6_voids_193 : decode cX6_voids 193 = .ok (.iinc 3 1, 3) := by decide +kernel
theorem dX6_voids_196 : decode cX6_voids 196 = .ok (.goto (-38), 3) := by decide +kernel
theorem dX6_voids_199 : decode cX6_voids 199 = .ok (.iload_n 2, 1) := by decide +kernel
theorem dX6_voids_200 : decode cX6_voids 200 = .ok (.ireturn, 1) := by decide +kernel
theorem dX6_leave_0 : decode cX6_leave 0 = .ok (.aload_n 0, 1) := by decide +kernel
theorem dX6_leave_1 : decode cX6_leave 1 = .ok (.iconst 0, 1) := by decide +kernel
theorem dX6_leave_2 : decode cX6_leave 2 = .ok (.putfield 74, 3) := by decide +kernel
theorem dX6_leave_5 : decode cX6_leave 5 = .ok (.iload_n 1, 1) := by decide +kernel
theorem dX6_leave_6 : decode cX6_leave 6 = .ok (.invokestatic 121, 3) := by decide +kernel
theorem dX6_leave_9 : decode cX6_leave 9 = .ok (.ifCond .ne 9, 3) := by decide +kernel
theorem dX6_leave_12 : decode cX6_leave 12 = .ok (.aload_n 0, 1) := by decide +kernel
theorem dX6_leave_13 : decode cX6_leave 13 = .ok (.iconst 1, 1) := by decide +kernel
theorem dX6_leave_14 : decode cX6_leave 14 = .ok (.invokevirtual 112, 3) := by decide +kernel
theorem dX6_leave_17 : decode cX6_leave 17 = .ok (.ireturn, 1) := by decide +kernel
theorem dX6_leave_18 : decode cX6_leave 18 = .ok (.aload_n 0, 1) := by decide +kernel
theorem dX6_leave_19 : decode cX6_leave 19 = .ok (.getfield 13, 3) := by decide +kernel
theorem dX6_leave_22 : decode cX6_leave 22 = .ok (.iload_n 1, 1) := by decide +kernel
theorem dX6_leave_23 : decode cX6_leave 23 = .ok (.iaload, 1) := by decide +kernel
theorem dX6_leave_24 : decode cX6_leave 24 = .ok (.ifCond .le 9, 3) := by decide +kernel
theorem dX6_leave_27 : decode cX6_leave 27 = .ok (.aload_n 0, 1) := by decide +kernel
theorem dX6_leave_28 : decode cX6_leave 28 = .ok (.iconst 2, 1) := by decide +kernel
theorem dX6_leave_29 : decode cX6_leave 29 = .ok (.invokevirtual 112, 3) := by decide +kernel
theorem dX6_leave_32 : decode cX6_leave 32 = .ok (.ireturn, 1) := by decide +kernel
theorem dX6_leave_33 : decode cX6_leave 33 = .ok (.aload_n 0, 1) := by decide +kernel
theorem dX6_leave_34 : decode cX6_leave 34 = .ok (.getfield 13, 3) := by decide +kernel
theorem dX6_leave_37 : decode cX6_leave 37 = .ok (.iload_n 1, 1) := by decide +kernel
theorem dX6_leave_38 : decode cX6_leave 38 = .ok (.iload_n 2, 1) := by decide +kernel
theorem dX6_leave_39 : decode cX6_leave 39 = .ok (.ifCond .eq 7, 3) := by decide +kernel
theorem dX6_leave_42 : decode cX6_leave 42 = .ok (.iconst 2, 1) := by decide +kernel
theorem dX6_leave_43 : decode cX6_leave 43 = .ok (.goto 4, 3) := by decide +kernel
theorem dX6_leave_46 : decode cX6_leave 46 = .ok (.iconst 1, 1) := by decide +kernel
theorem dX6_leave_47 : decode cX6_leave 47 = .ok (.iastore, 1) := by decide +kernel
theorem dX6_leave_48 : decode cX6_leave 48 = .ok (.iload_n 2, 1) := by decide +kernel
theorem dX6_leave_49 : decode cX6_leave 49 = .ok (.ifCond .eq 11, 3) := by decide +kernel
theorem dX6_leave_52 : decode cX6_leave 52 = .ok (.aload_n 0, 1) := by decide +kernel
theorem dX6_leave_53 : decode cX6_leave 53 = .ok (.iload_n 1, 1) := by decide +kernel
theorem dX6_leave_54 : decode cX6_leave 54 = .ok (.invokevirtual 124, 3) := by decide +kernel
theorem dX6_leave_57 : decode cX6_leave 57 = .ok (.goto 4, 3) := by decide +kernel
theorem dX6_leave_60 : decode cX6_leave 60 = .ok (.iconst 0, 1) := by decide +kernel
theorem dX6_leave_61 : decode cX6_leave 61 = .ok (.ireturn, 1) := by decide +kernel
theorem dX6_comeBack_0 : decode cX6_comeBack 0 = .ok (.aload_n 0, 1) := by decide +kernel
theorem dX6_comeBack_1 : decode cX6_comeBack 1 = .ok (.iload_n 1, 1) := by decide +kernel
theorem dX6_comeBack_2 : decode cX6_comeBack 2 = .ok (.invokestatic 121, 3) := by decide +kernel
theorem dX6_comeBack_5 : decode cX6_comeBack 5 = .ok (.ifCond .ne 7, 3) := by decide +kernel
theorem dX6_comeBack_8 : decode cX6_comeBack 8 = .ok (.iconst 1, 1) := by decide +kernel
theorem dX6_comeBack_9 : decode cX6_comeBack 9 = .ok (.goto 18, 3) := by decide +kernel
theorem dX6_comeBack_12 : decode cX6_comeBack 12 = .ok (.aload_n 0, 1) := by decide +kernel
theorem dX6_comeBack_13 : decode cX6_comeBack 13 = .ok (.getfield 13, 3) := by decide +kernel
theorem dX6_comeBack_16 : decode cX6_comeBack 16 = .ok (.iload_n 1, 1) := by decide +kernel
theorem dX6_comeBack_17 : decode cX6_comeBack 17 = .ok (.iaload, 1) := by decide +kernel
theorem dX6_comeBack_18 : decode cX6_comeBack 18 = .ok (.iconst 1, 1) := by decide +kernel
theorem dX6_comeBack_19 : decode cX6_comeBack 19 = .ok (.if_icmp .eq 7, 3) := by decide +kernel
theorem dX6_comeBack_22 : decode cX6_comeBack 22 = .ok (.iconst 2, 1) := by decide +kernel
theorem dX6_comeBack_23 : decode cX6_comeBack 23 = .ok (.goto 4, 3) := by decide +kernel
theorem dX6_comeBack_26 : decode cX6_comeBack 26 = .ok (.iconst 0, 1) := by decide +kernel
theorem dX6_comeBack_27 : decode cX6_comeBack 27 = .ok (.putfield 74, 3) := by decide +kernel
theorem dX6_comeBack_30 : decode cX6_comeBack 30 = .ok (.aload_n 0, 1) := by decide +kernel
theorem dX6_comeBack_31 : decode cX6_comeBack 31 = .ok (.getfield 74, 3) := by decide +kernel
theorem dX6_comeBack_34 : decode cX6_comeBack 34 = .ok (.ifCond .ne 10, 3) := by decide +kernel
theorem dX6_comeBack_37 : decode cX6_comeBack 37 = .ok (.aload_n 0, 1) := by decide +kernel
theorem dX6_comeBack_38 : decode cX6_comeBack 38 = .ok (.getfield 13, 3) := by decide +kernel
theorem dX6_comeBack_41 : decode cX6_comeBack 41 = .ok (.iload_n 1, 1) := by decide +kernel
theorem dX6_comeBack_42 : decode cX6_comeBack 42 = .ok (.iconst 0, 1) := by decide +kernel
theorem dX6_comeBack_43 : decode cX6_comeBack 43 = .ok (.iastore, 1) := by decide +kernel
theorem dX6_comeBack_44 : decode cX6_comeBack 44 = .ok (.return_, 1) := by decide +kernel
theorem dX6_goesBack_0 : decode cX6_goesBack 0 = .ok (.iconst 1, 1) := by decide +kernel
theorem dX6_goesBack_1 : decode cX6_goesBack 1 = .ok (.istore_n 2, 1) := by decide +kernel
theorem dX6_goesBack_2 : decode cX6_goesBack 2 = .ok (.iconst 0, 1) := by decide +kernel
theorem dX6_goesBack_3 : decode cX6_goesBack 3 = .ok (.istore_n 3, 1) := by decide +kernel
theorem dX6_goesBack_4 : decode cX6_goesBack 4 = .ok (.iload_n 2, 1) := by decide +kernel
theorem dX6_goesBack_5 : decode cX6_goesBack 5 = .ok (.ifCond .eq 90, 3) := by decide +kernel
theorem dX6_goesBack_8 : decode cX6_goesBack 8 = .ok (.aload_n 0, 1) := by decide +kernel
theorem dX6_goesBack_9 : decode cX6_goesBack 9 = .ok (.iload_n 1, 1) := by decide +kernel
theorem dX6_goesBack_10 : decode cX6_goesBack 10 = .ok (.iload_n 3, 1) := by decide +kernel
theorem dX6_goesBack_11 : decode cX6_goesBack 11 = .ok (.invokevirtual 99, 3) := by decide +kernel
theorem dX6_goesBack_14 : decode cX6_goesBack 14 = .ok (.istore 4, 2) := by decide +kernel
theorem dX6_goesBack_16 : decode cX6_goesBack 16 = .ok (.iconst 0, 1) := by decide +kernel
theorem dX6_goesBack_17 : decode cX6_goesBack 17 = .ok (.istore 5, 2) := by decide +kernel
theorem dX6_goesBack_19 : decode cX6_goesBack 19 = .ok (.iload 5, 2) := by decide +kernel
theorem dX6_goesBack_21 : decode cX6_goesBack 21 = .ok (.bipush 6, 2) := by decide +kernel
theorem dX6_goesBack_23 : decode cX6_goesBack 23 = .ok (.if_icmp .ge 66, 3) := by decide +kernel
theorem dX6_goesBack_26 : decode cX6_goesBack 26 = .ok (.aload_n 0, 1) := by decide +kernel
theorem dX6_goesBack_27 : decode cX6_goesBack 27 = .ok (.iload_n 1, 1) := by decide +kernel
theorem dX6_goesBack_28 : decode cX6_goesBack 28 = .ok (.iload 4, 2) := by decide +kernel
theorem dX6_goesBack_30 : decode cX6_goesBack 30 = .ok (.invokevirtual 102, 3) := by decide +kernel
theorem dX6_goesBack_33 : decode cX6_goesBack 33 = .ok (.iload 5, 2) := by decide +kernel
theorem dX6_goesBack_35 : decode cX6_goesBack 35 = .ok (.iadd, 1) := by decide +kernel
theorem dX6_goesBack_36 : decode cX6_goesBack 36 = .ok (.istore 6, 2) := by decide +kernel
theorem dX6_goesBack_38 : decode cX6_goesBack 38 = .ok (.aload_n 0, 1) := by decide +kernel
theorem dX6_goesBack_39 : decode cX6_goesBack 39 = .ok (.getfield 32, 3) := by decide +kernel
theorem dX6_goesBack_42 : decode cX6_goesBack 42 = .ok (.iload 6, 2) := by decide +kernel
theorem dX6_goesBack_44 : decode cX6_goesBack 44 = .ok (.iaload, 1) := by decide +kernel
theorem dX6_goesBack_45 : decode cX6_goesBack 45 = .ok (.iconst (-1), 1) := by decide +kernel
theorem dX6_goesBack_46 : decode cX6_goesBack 46 = .ok (.if_icmp .eq 37, 3) := by decide +kernel
theorem dX6_goesBack_49 : decode cX6_goesBack 49 = .ok (.aload_n 0, 1) := by decide +kernel
theorem dX6_goesBack_50 : decode cX6_goesBack 50 = .ok (.getfield 50, 3) := by decide +kernel
theorem dX6_goesBack_53 : decode cX6_goesBack 53 = .ok (.aload_n 0, 1) := by decide +kernel
theorem dX6_goesBack_54 : decode cX6_goesBack 54 = .ok (.getfield 32, 3) := by decide +kernel
theorem dX6_goesBack_57 : decode cX6_goesBack 57 = .ok (.iload 6, 2) := by decide +kernel
theorem dX6_goesBack_59 : decode cX6_goesBack 59 = .ok (.iaload, 1) := by decide +kernel
theorem dX6_goesBack_60 : decode cX6_goesBack 60 = .ok (.iaload, 1) := by decide +kernel
theorem dX6_goesBack_61 : decode cX6_goesBack 61 = .ok (.iconst 1, 1) := by decide +kernel
theorem dX6_goesBack_62 : decode cX6_goesBack 62 = .ok (.if_icmp .eq 21, 3) := by decide +kernel
theorem dX6_goesBack_65 : decode cX6_goesBack 65 = .ok (.aload_n 0, 1) := by decide +kernel
theorem dX6_goesBack_66 : decode cX6_goesBack 66 = .ok (.getfield 32, 3) := by decide +kernel
theorem dX6_goesBack_69 : decode cX6_goesBack 69 = .ok (.iload 6, 2) := by decide +kernel
theorem dX6_goesBack_71 : decode cX6_goesBack 71 = .ok (.aload_n 0, 1) := by decide +kernel
theorem dX6_goesBack_72 : decode cX6_goesBack 72 = .ok (.iload_n 1, 1) := by decide +kernel
theorem dX6_goesBack_73 : decode cX6_goesBack 73 = .ok (.iload 4, 2) := by decide +kernel
theorem dX6_goesBack_75 : decode cX6_goesBack 75 = .ok (.iload 5, 2) := by decide +kernel
theorem dX6_goesBack_77 : decode cX6_goesBack 77 = .ok (.invokevirtual 105, 3) := by decide +kernel
theorem dX6_goesBack_80 : decode cX6_goesBack 80 = .ok (.iastore, 1) := by decide +kernel
theorem dX6_goesBack_81 : decode cX6_goesBack 81 = .ok (.iconst 0, 1) := by decide +kernel
theorem dX6_goesBack_82 : decode cX6_goesBack 82 = .ok (.istore_n 2, 1) := by decide +kernel
theorem dX6_goesBack_83 : decode cX6_goesBack 83 = .ok (.iinc 5 1, 3) := by decide +kernel
theorem dX6_goesBack_86 : decode cX6_goesBack 86 = .ok (.goto (-67), 3) := by decide +kernel
theorem dX6_goesBack_89 : decode cX6_goesBack 89 = .ok (.iinc 3 1, 3) := by decide +kernel
theorem dX6_goesBack_92 : decode cX6_goesBack 92 = .ok (.goto (-88), 3) := by decide +kernel
theorem dX6_goesBack_95 : decode cX6_goesBack 95 = .ok (.return_, 1) := by decide +kernel
theorem dX6_lags_0 : decode cX6_lags 0 = .ok (.aload_n 0, 1) := by decide +kernel
theorem dX6_lags_1 : decode cX6_lags 1 = .ok (.iload_n 1, 1) := by decide +kernel
theorem dX6_lags_2 : decode cX6_lags 2 = .ok (.iload_n 2, 1) := by decide +kernel
theorem dX6_lags_3 : decode cX6_lags 3 = .ok (.invokevirtual 99, 3) := by decide +kernel
theorem dX6_lags_6 : decode cX6_lags 6 = .ok (.istore_n 3, 1) := by decide +kernel
theorem dX6_lags_7 : decode cX6_lags 7 = .ok (.iconst 0, 1) := by decide +kernel
theorem dX6_lags_8 : decode cX6_lags 8 = .ok (.istore 4, 2) := by decide +kernel
theorem dX6_lags_10 : decode cX6_lags 10 = .ok (.iconst 0, 1) := by decide +kernel
theorem dX6_lags_11 : decode cX6_lags 11 = .ok (.istore 5, 2) := by decide +kernel
theorem dX6_lags_13 : decode cX6_lags 13 = .ok (.iload 5, 2) := by decide +kernel
theorem dX6_lags_15 : decode cX6_lags 15 = .ok (.bipush 6, 2) := by decide +kernel
theorem dX6_lags_17 : decode cX6_lags 17 = .ok (.if_icmp .ge 46, 3) := by decide +kernel
theorem dX6_lags_20 : decode cX6_lags 20 = .ok (.iload 4, 2) := by decide +kernel
theorem dX6_lags_22 : decode cX6_lags 22 = .ok (.ifCond .ne 28, 3) := by decide +kernel
theorem dX6_lags_25 : decode cX6_lags 25 = .ok (.aload_n 0, 1) := by decide +kernel
theorem dX6_lags_26 : decode cX6_lags 26 = .ok (.getfield 32, 3) := by decide +kernel
theorem dX6_lags_29 : decode cX6_lags 29 = .ok (.aload_n 0, 1) := by decide +kernel
theorem dX6_lags_30 : decode cX6_lags 30 = .ok (.iload_n 1, 1) := by decide +kernel
theorem dX6_lags_31 : decode cX6_lags 31 = .ok (.iload_n 3, 1) := by decide +kernel
theorem dX6_lags_32 : decode cX6_lags 32 = .ok (.invokevirtual 102, 3) := by decide +kernel
theorem dX6_lags_35 : decode cX6_lags 35 = .ok (.iload 5, 2) := by decide +kernel
theorem dX6_lags_37 : decode cX6_lags 37 = .ok (.iadd, 1) := by decide +kernel
theorem dX6_lags_38 : decode cX6_lags 38 = .ok (.iaload, 1) := by decide +kernel
theorem dX6_lags_39 : decode cX6_lags 39 = .ok (.aload_n 0, 1) := by decide +kernel
theorem dX6_lags_40 : decode cX6_lags 40 = .ok (.iload_n 1, 1) := by decide +kernel
theorem dX6_lags_41 : decode cX6_lags 41 = .ok (.iload_n 3, 1) := by decide +kernel
theorem dX6_lags_42 : decode cX6_lags 42 = .ok (.iload 5, 2) := by decide +kernel
theorem dX6_lags_44 : decode cX6_lags 44 = .ok (.invokevirtual 105, 3) := by decide +kernel
theorem dX6_lags_47 : decode cX6_lags 47 = .ok (.if_icmp .eq 7, 3) := by decide +kernel
theorem dX6_lags_50 : decode cX6_lags 50 = .ok (.iconst 1, 1) := by decide +kernel
theorem dX6_lags_51 : decode cX6_lags 51 = .ok (.goto 4, 3) := by decide +kernel
theorem dX6_lags_54 : decode cX6_lags 54 = .ok (.iconst 0, 1) := by decide +kernel
theorem dX6_lags_55 : decode cX6_lags 55 = .ok (.istore 4, 2) := by decide +kernel
theorem dX6_lags_57 : decode cX6_lags 57 = .ok (.iinc 5 1, 3) := by decide +kernel
theorem dX6_lags_60 : decode cX6_lags 60 = .ok (.goto (-47), 3) := by decide +kernel
theorem dX6_lags_63 : decode cX6_lags 63 = .ok (.iload 4, 2) := by decide +kernel
theorem dX6_lags_65 : decode cX6_lags 65 = .ok (.ireturn, 1) := by decide +kernel
theorem dX6_takes_0 : decode cX6_takes 0 = .ok (.aload_n 0, 1) := by decide +kernel
theorem dX6_takes_1 : decode cX6_takes 1 = .ok (.iload_n 1, 1) := by decide +kernel
theorem dX6_takes_2 : decode cX6_takes 2 = .ok (.invokevirtual 95, 3) := by decide +kernel
theorem dX6_takes_5 : decode cX6_takes 5 = .ok (.iconst 1, 1) := by decide +kernel
theorem dX6_takes_6 : decode cX6_takes 6 = .ok (.isub, 1) := by decide +kernel
theorem dX6_takes_7 : decode cX6_takes 7 = .ok (.istore_n 2, 1) := by decide +kernel
theorem dX6_takes_8 : decode cX6_takes 8 = .ok (.iload_n 2, 1) := by decide +kernel
theorem dX6_takes_9 : decode cX6_takes 9 = .ok (.ifCond .lt 18, 3) := by decide +kernel
theorem dX6_takes_12 : decode cX6_takes 12 = .ok (.aload_n 0, 1) := by decide +kernel
theorem dX6_takes_13 : decode cX6_takes 13 = .ok (.iload_n 1, 1) := by decide +kernel
theorem dX6_takes_14 : decode cX6_takes 14 = .ok (.iload_n 2, 1) := by decide +kernel
theorem dX6_takes_15 : decode cX6_takes 15 = .ok (.invokevirtual 127, 3) := by decide +kernel
theorem dX6_takes_18 : decode cX6_takes 18 = .ok (.ifCond .ne 9, 3) := by decide +kernel
theorem dX6_takes_21 : decode cX6_takes 21 = .ok (.iinc 2 (-1), 3) := by decide +kernel
theorem dX6_takes_24 : decode cX6_takes 24 = .ok (.goto (-16), 3) := by decide +kernel
theorem dX6_takes_27 : decode cX6_takes 27 = .ok (.iconst 0, 1) := by decide +kernel
theorem dX6_takes_28 : decode cX6_takes 28 = .ok (.istore_n 3, 1) := by decide +kernel
theorem dX6_takes_29 : decode cX6_takes 29 = .ok (.iload_n 3, 1) := by decide +kernel
theorem dX6_takes_30 : decode cX6_takes 30 = .ok (.bipush 6, 2) := by decide +kernel
theorem dX6_takes_32 : decode cX6_takes 32 = .ok (.if_icmp .ge 43, 3) := by decide +kernel
theorem dX6_takes_35 : decode cX6_takes 35 = .ok (.iload_n 2, 1) := by decide +kernel
theorem dX6_takes_36 : decode cX6_takes 36 = .ok (.ifCond .lt 39, 3) := by decide +kernel
theorem dX6_takes_39 : decode cX6_takes 39 = .ok (.aload_n 0, 1) := by decide +kernel
theorem dX6_takes_40 : decode cX6_takes 40 = .ok (.iload_n 1, 1) := by decide +kernel
theorem dX6_takes_41 : decode cX6_takes 41 = .ok (.iload_n 2, 1) := by decide +kernel
theorem dX6_takes_42 : decode cX6_takes 42 = .ok (.invokevirtual 99, 3) := by decide +kernel
theorem dX6_takes_45 : decode cX6_takes 45 = .ok (.istore 4, 2) := by decide +kernel
theorem dX6_takes_47 : decode cX6_takes 47 = .ok (.aload_n 0, 1) := by decide +kernel
theorem dX6_takes_48 : decode cX6_takes 48 = .ok (.getfield 32, 3) := by decide +kernel
theorem dX6_takes_51 : decode cX6_takes 51 = .ok (.aload_n 0, 1) := by decide +kernel
theorem dX6_takes_52 : decode cX6_takes 52 = .ok (.iload_n 1, 1) := by decide +kernel
theorem dX6_takes_53 : decode cX6_takes 53 = .ok (.iload 4, 2) := by decide +kernel
theorem dX6_takes_55 : decode cX6_takes 55 = .ok (.invokevirtual 102, 3) := by decide +kernel
theorem dX6_takes_58 : decode cX6_takes 58 = .ok (.iload_n 3, 1) := by decide +kernel
theorem dX6_takes_59 : decode cX6_takes 59 = .ok (.iadd, 1) := by decide +kernel
theorem dX6_takes_60 : decode cX6_takes 60 = .ok (.aload_n 0, 1) := by decide +kernel
theorem dX6_takes_61 : decode cX6_takes 61 = .ok (.iload_n 1, 1) := by decide +kernel
theorem dX6_takes_62 : decode cX6_takes 62 = .ok (.iload 4, 2) := by decide +kernel
theorem dX6_takes_64 : decode cX6_takes 64 = .ok (.iload_n 3, 1) := by decide +kernel
theorem dX6_takes_65 : decode cX6_takes 65 = .ok (.invokevirtual 105, 3) := by decide +kernel
theorem dX6_takes_68 : decode cX6_takes 68 = .ok (.iastore, 1) := by decide +kernel
theorem dX6_takes_69 : decode cX6_takes 69 = .ok (.iinc 3 1, 3) := by decide +kernel
theorem dX6_takes_72 : decode cX6_takes 72 = .ok (.goto (-43), 3) := by decide +kernel
theorem dX6_takes_75 : decode cX6_takes 75 = .ok (.iload_n 2, 1) := by decide +kernel
theorem dX6_takes_76 : decode cX6_takes 76 = .ok (.ifCond .lt 7, 3) := by decide +kernel
theorem dX6_takes_79 : decode cX6_takes 79 = .ok (.iconst 1, 1) := by decide +kernel
theorem dX6_takes_80 : decode cX6_takes 80 = .ok (.goto 4, 3) := by decide +kernel
theorem dX6_takes_83 : decode cX6_takes 83 = .ok (.iconst 0, 1) := by decide +kernel
theorem dX6_takes_84 : decode cX6_takes 84 = .ok (.ireturn, 1) := by decide +kernel
theorem dX6_passes_0 : decode cX6_passes 0 = .ok (.aload_n 0, 1) := by decide +kernel
theorem dX6_passes_1 : decode cX6_passes 1 = .ok (.dup, 1) := by decide +kernel
theorem dX6_passes_2 : decode cX6_passes 2 = .ok (.getfield 109, 3) := by decide +kernel
theorem dX6_passes_5 : decode cX6_passes 5 = .ok (.iconst 1, 1) := by decide +kernel
theorem dX6_passes_6 : decode cX6_passes 6 = .ok (.iadd, 1) := by decide +kernel
theorem dX6_passes_7 : decode cX6_passes 7 = .ok (.putfield 109, 3) := by decide +kernel
theorem dX6_passes_10 : decode cX6_passes 10 = .ok (.aload_n 0, 1) := by decide +kernel
theorem dX6_passes_11 : decode cX6_passes 11 = .ok (.getfield 23, 3) := by decide +kernel
theorem dX6_passes_14 : decode cX6_passes 14 = .ok (.istore_n 1, 1) := by decide +kernel
theorem dX6_passes_15 : decode cX6_passes 15 = .ok (.iconst 0, 1) := by decide +kernel
theorem dX6_passes_16 : decode cX6_passes 16 = .ok (.istore_n 2, 1) := by decide +kernel
theorem dX6_passes_17 : decode cX6_passes 17 = .ok (.iconst 0, 1) := by decide +kernel
theorem dX6_passes_18 : decode cX6_passes 18 = .ok (.istore_n 3, 1) := by decide +kernel
theorem dX6_passes_19 : decode cX6_passes 19 = .ok (.iload_n 3, 1) := by decide +kernel
theorem dX6_passes_20 : decode cX6_passes 20 = .ok (.aload_n 0, 1) := by decide +kernel
theorem dX6_passes_21 : decode cX6_passes 21 = .ok (.getfield 81, 3) := by decide +kernel
theorem dX6_passes_24 : decode cX6_passes 24 = .ok (.if_icmp .ge 54, 3) := by decide +kernel
theorem dX6_passes_27 : decode cX6_passes 27 = .ok (.aload_n 0, 1) := by decide +kernel
theorem dX6_passes_28 : decode cX6_passes 28 = .ok (.iload_n 3, 1) := by decide +kernel
theorem dX6_passes_29 : decode cX6_passes 29 = .ok (.invokevirtual 118, 3) := by decide +kernel
theorem dX6_passes_32 : decode cX6_passes 32 = .ok (.ifCond .eq 14, 3) := by decide +kernel
theorem dX6_passes_35 : decode cX6_passes 35 = .ok (.aload_n 0, 1) := by decide +kernel
theorem dX6_passes_36 : decode cX6_passes 36 = .ok (.iload_n 3, 1) := by decide +kernel
theorem dX6_passes_37 : decode cX6_passes 37 = .ok (.invokevirtual 131, 3) := by decide +kernel
theorem dX6_passes_40 : decode cX6_passes 40 = .ok (.iinc 2 1, 3) := by decide +kernel
theorem dX6_passes_43 : decode cX6_passes 43 = .ok (.goto 29, 3) := by decide +kernel
theorem dX6_passes_46 : decode cX6_passes 46 = .ok (.aload_n 0, 1) := by decide +kernel
theorem dX6_passes_47 : decode cX6_passes 47 = .ok (.iload_n 3, 1) := by decide +kernel
theorem dX6_passes_48 : decode cX6_passes 48 = .ok (.invokevirtual 135, 3) := by decide +kernel
theorem dX6_passes_51 : decode cX6_passes 51 = .ok (.ifCond .ne 21, 3) := by decide +kernel
theorem dX6_passes_54 : decode cX6_passes 54 = .ok (.iload_n 1, 1) := by decide +kernel
theorem dX6_passes_55 : decode cX6_passes 55 = .ok (.ifCond .le 17, 3) := by decide +kernel
theorem dX6_passes_58 : decode cX6_passes 58 = .ok (.aload_n 0, 1) := by decide +kernel
theorem dX6_passes_59 : decode cX6_passes 59 = .ok (.iload_n 3, 1) := by decide +kernel
theorem dX6_passes_60 : decode cX6_passes 60 = .ok (.invokevirtual 138, 3) := by decide +kernel
theorem dX6_passes_63 : decode cX6_passes 63 = .ok (.ifCond .eq 9, 3) := by decide +kernel
theorem dX6_passes_66 : decode cX6_passes 66 = .ok (.iinc 1 (-1), 3) := by decide +kernel
theorem dX6_passes_69 : decode cX6_passes 69 = .ok (.iinc 2 1, 3) := by decide +kernel
theorem dX6_passes_72 : decode cX6_passes 72 = .ok (.iinc 3 1, 3) := by decide +kernel
theorem dX6_passes_75 : decode cX6_passes 75 = .ok (.goto (-56), 3) := by decide +kernel
theorem dX6_passes_78 : decode cX6_passes 78 = .ok (.iload_n 2, 1) := by decide +kernel
theorem dX6_passes_79 : decode cX6_passes 79 = .ok (.ireturn, 1) := by decide +kernel
theorem dX6_pass_0 : decode cX6_pass 0 = .ok (.aload_n 0, 1) := by decide +kernel
theorem dX6_pass_1 : decode cX6_pass 1 = .ok (.iconst 0, 1) := by decide +kernel
theorem dX6_pass_2 : decode cX6_pass 2 = .ok (.putfield 74, 3) := by decide +kernel
theorem dX6_pass_5 : decode cX6_pass 5 = .ok (.iload_n 1, 1) := by decide +kernel
theorem dX6_pass_6 : decode cX6_pass 6 = .ok (.iconst 1, 1) := by decide +kernel
theorem dX6_pass_7 : decode cX6_pass 7 = .ok (.bipush 60, 2) := by decide +kernel
theorem dX6_pass_9 : decode cX6_pass 9 = .ok (.invokestatic 77, 3) := by decide +kernel
theorem dX6_pass_12 : decode cX6_pass 12 = .ok (.ifCond .ne 9, 3) := by decide +kernel
theorem dX6_pass_15 : decode cX6_pass 15 = .ok (.aload_n 0, 1) := by decide +kernel
theorem dX6_pass_16 : decode cX6_pass 16 = .ok (.iconst 1, 1) := by decide +kernel
theorem dX6_pass_17 : decode cX6_pass 17 = .ok (.invokevirtual 112, 3) := by decide +kernel
theorem dX6_pass_20 : decode cX6_pass 20 = .ok (.ireturn, 1) := by decide +kernel
theorem dX6_pass_21 : decode cX6_pass 21 = .ok (.iconst 0, 1) := by decide +kernel
theorem dX6_pass_22 : decode cX6_pass 22 = .ok (.istore_n 2, 1) := by decide +kernel
theorem dX6_pass_23 : decode cX6_pass 23 = .ok (.iconst 0, 1) := by decide +kernel
theorem dX6_pass_24 : decode cX6_pass 24 = .ok (.istore_n 3, 1) := by decide +kernel
theorem dX6_pass_25 : decode cX6_pass 25 = .ok (.iload_n 3, 1) := by decide +kernel
theorem dX6_pass_26 : decode cX6_pass 26 = .ok (.iload_n 1, 1) := by decide +kernel
theorem dX6_pass_27 : decode cX6_pass 27 = .ok (.if_icmp .ge 16, 3) := by decide +kernel
theorem dX6_pass_30 : decode cX6_pass 30 = .ok (.iload_n 2, 1) := by decide +kernel
theorem dX6_pass_31 : decode cX6_pass 31 = .ok (.aload_n 0, 1) := by decide +kernel
theorem dX6_pass_32 : decode cX6_pass 32 = .ok (.invokevirtual 141, 3) := by decide +kernel
theorem dX6_pass_35 : decode cX6_pass 35 = .ok (.iadd, 1) := by decide +kernel
theorem dX6_pass_36 : decode cX6_pass 36 = .ok (.istore_n 2, 1) := by decide +kernel
theorem dX6_pass_37 : decode cX6_pass 37 = .ok (.iinc 3 1, 3) := by decide +kernel
theorem dX6_pass_40 : decode cX6_pass 40 = .ok (.goto (-15), 3) := by decide +kernel
theorem dX6_pass_43 : decode cX6_pass 43 = .ok (.iload_n 2, 1) := by decide +kernel
theorem dX6_pass_44 : decode cX6_pass 44 = .ok (.ireturn, 1) := by decide +kernel
theorem dX6_day_0 : decode cX6_day 0 = .ok (.aload_n 0, 1) := by decide +kernel
theorem dX6_day_1 : decode cX6_day 1 = .ok (.iconst 0, 1) := by decide +kernel
theorem dX6_day_2 : decode cX6_day 2 = .ok (.putfield 74, 3) := by decide +kernel
theorem dX6_day_5 : decode cX6_day 5 = .ok (.aload_n 0, 1) := by decide +kernel
theorem dX6_day_6 : decode cX6_day 6 = .ok (.getfield 109, 3) := by decide +kernel
theorem dX6_day_9 : decode cX6_day 9 = .ok (.ireturn, 1) := by decide +kernel
theorem dX6_addGroup_0 : decode cX6_addGroup 0 = .ok (.aload_n 0, 1) := by decide +kernel
theorem dX6_addGroup_1 : decode cX6_addGroup 1 = .ok (.iconst 0, 1) := by decide +kernel
theorem dX6_addGroup_2 : decode cX6_addGroup 2 = .ok (.putfield 74, 3) := by decide +kernel
theorem dX6_addGroup_5 : decode cX6_addGroup 5 = .ok (.aload_n 0, 1) := by decide +kernel
theorem dX6_addGroup_6 : decode cX6_addGroup 6 = .ok (.iload_n 1, 1) := by decide +kernel
theorem dX6_addGroup_7 : decode cX6_addGroup 7 = .ok (.invokevirtual 87, 3) := by decide +kernel
theorem dX6_addGroup_10 : decode cX6_addGroup 10 = .ok (.ifCond .ne 9, 3) := by decide +kernel
theorem dX6_addGroup_13 : decode cX6_addGroup 13 = .ok (.aload_n 0, 1) := by decide +kernel
theorem dX6_addGroup_14 : decode cX6_addGroup 14 = .ok (.iconst 1, 1) := by decide +kernel
theorem dX6_addGroup_15 : decode cX6_addGroup 15 = .ok (.invokevirtual 112, 3) := by decide +kernel
theorem dX6_addGroup_18 : decode cX6_addGroup 18 = .ok (.ireturn, 1) := by decide +kernel
theorem dX6_addGroup_19 : decode cX6_addGroup 19 = .ok (.aload_n 0, 1) := by decide +kernel
theorem dX6_addGroup_20 : decode cX6_addGroup 20 = .ok (.getfield 16, 3) := by decide +kernel
theorem dX6_addGroup_23 : decode cX6_addGroup 23 = .ok (.bipush 10, 2) := by decide +kernel
theorem dX6_addGroup_25 : decode cX6_addGroup 25 = .ok (.if_icmp .ne 9, 3) := by decide +kernel
theorem dX6_addGroup_28 : decode cX6_addGroup 28 = .ok (.aload_n 0, 1) := by decide +kernel
theorem dX6_addGroup_29 : decode cX6_addGroup 29 = .ok (.iconst 2, 1) := by decide +kernel
theorem dX6_addGroup_30 : decode cX6_addGroup 30 = .ok (.invokevirtual 112, 3) := by decide +kernel
theorem dX6_addGroup_33 : decode cX6_addGroup 33 = .ok (.ireturn, 1) := by decide +kernel
theorem dX6_addGroup_34 : decode cX6_addGroup 34 = .ok (.aload_n 0, 1) := by decide +kernel
theorem dX6_addGroup_35 : decode cX6_addGroup 35 = .ok (.getfield 20, 3) := by decide +kernel
theorem dX6_addGroup_38 : decode cX6_addGroup 38 = .ok (.aload_n 0, 1) := by decide +kernel
theorem dX6_addGroup_39 : decode cX6_addGroup 39 = .ok (.getfield 16, 3) := by decide +kernel
theorem dX6_addGroup_42 : decode cX6_addGroup 42 = .ok (.iload_n 1, 1) := by decide +kernel
theorem dX6_addGroup_43 : decode cX6_addGroup 43 = .ok (.iastore, 1) := by decide +kernel
theorem dX6_addGroup_44 : decode cX6_addGroup 44 = .ok (.aload_n 0, 1) := by decide +kernel
theorem dX6_addGroup_45 : decode cX6_addGroup 45 = .ok (.dup, 1) := by decide +kernel
theorem dX6_addGroup_46 : decode cX6_addGroup 46 = .ok (.getfield 16, 3) := by decide +kernel
theorem dX6_addGroup_49 : decode cX6_addGroup 49 = .ok (.iconst 1, 1) := by decide +kernel
theorem dX6_addGroup_50 : decode cX6_addGroup 50 = .ok (.iadd, 1) := by decide +kernel
theorem dX6_addGroup_51 : decode cX6_addGroup 51 = .ok (.putfield 16, 3) := by decide +kernel
theorem dX6_addGroup_54 : decode cX6_addGroup 54 = .ok (.aload_n 0, 1) := by decide +kernel
theorem dX6_addGroup_55 : decode cX6_addGroup 55 = .ok (.getfield 16, 3) := by decide +kernel
theorem dX6_addGroup_58 : decode cX6_addGroup 58 = .ok (.iconst 1, 1) := by decide +kernel
theorem dX6_addGroup_59 : decode cX6_addGroup 59 = .ok (.isub, 1) := by decide +kernel
theorem dX6_addGroup_60 : decode cX6_addGroup 60 = .ok (.ireturn, 1) := by decide +kernel
theorem dX6_addMachine_0 : decode cX6_addMachine 0 = .ok (.aload_n 0, 1) := by decide +kernel
theorem dX6_addMachine_1 : decode cX6_addMachine 1 = .ok (.iconst 0, 1) := by decide +kernel
theorem dX6_addMachine_2 : decode cX6_addMachine 2 = .ok (.putfield 74, 3) := by decide +kernel
theorem dX6_addMachine_5 : decode cX6_addMachine 5 = .ok (.aload_n 0, 1) := by decide +kernel
theorem dX6_addMachine_6 : decode cX6_addMachine 6 = .ok (.iload_n 1, 1) := by decide +kernel
theorem dX6_addMachine_7 : decode cX6_addMachine 7 = .ok (.invokevirtual 87, 3) := by decide +kernel
theorem dX6_addMachine_10 : decode cX6_addMachine 10 = .ok (.ifCond .ne 9, 3) := by decide +kernel
theorem dX6_addMachine_13 : decode cX6_addMachine 13 = .ok (.aload_n 0, 1) := by decide +kernel
theorem dX6_addMachine_14 : decode cX6_addMachine 14 = .ok (.iconst 1, 1) := by decide +kernel
theorem dX6_addMachine_15 : decode cX6_addMachine 15 = .ok (.invokevirtual 112, 3) := by decide +kernel
theorem dX6_addMachine_18 : decode cX6_addMachine 18 = .ok (.ireturn, 1) := by decide +kernel
theorem dX6_addMachine_19 : decode cX6_addMachine 19 = .ok (.aload_n 0, 1) := by decide +kernel
theorem dX6_addMachine_20 : decode cX6_addMachine 20 = .ok (.getfield 81, 3) := by decide +kernel
theorem dX6_addMachine_23 : decode cX6_addMachine 23 = .ok (.bipush 12, 2) := by decide +kernel
theorem dX6_addMachine_25 : decode cX6_addMachine 25 = .ok (.if_icmp .ne 9, 3) := by decide +kernel
theorem dX6_addMachine_28 : decode cX6_addMachine 28 = .ok (.aload_n 0, 1) := by decide +kernel
theorem dX6_addMachine_29 : decode cX6_addMachine 29 = .ok (.iconst 2, 1) := by decide +kernel
theorem dX6_addMachine_30 : decode cX6_addMachine 30 = .ok (.invokevirtual 112, 3) := by decide +kernel
theorem dX6_addMachine_33 : decode cX6_addMachine 33 = .ok (.ireturn, 1) := by decide +kernel
theorem dX6_addMachine_34 : decode cX6_addMachine 34 = .ok (.aload_n 0, 1) := by decide +kernel
theorem dX6_addMachine_35 : decode cX6_addMachine 35 = .ok (.getfield 26, 3) := by decide +kernel
theorem dX6_addMachine_38 : decode cX6_addMachine 38 = .ok (.aload_n 0, 1) := by decide +kernel
theorem dX6_addMachine_39 : decode cX6_addMachine 39 = .ok (.getfield 81, 3) := by decide +kernel
theorem dX6_addMachine_42 : decode cX6_addMachine 42 = .ok (.iload_n 1, 1) := by decide +kernel
theorem dX6_addMachine_43 : decode cX6_addMachine 43 = .ok (.iastore, 1) := by decide +kernel
theorem dX6_addMachine_44 : decode cX6_addMachine 44 = .ok (.aload_n 0, 1) := by decide +kernel
theorem dX6_addMachine_45 : decode cX6_addMachine 45 = .ok (.dup, 1) := by decide +kernel
theorem dX6_addMachine_46 : decode cX6_addMachine 46 = .ok (.getfield 81, 3) := by decide +kernel
theorem dX6_addMachine_49 : decode cX6_addMachine 49 = .ok (.iconst 1, 1) := by decide +kernel
theorem dX6_addMachine_50 : decode cX6_addMachine 50 = .ok (.iadd, 1) := by decide +kernel
theorem dX6_addMachine_51 : decode cX6_addMachine 51 = .ok (.putfield 81, 3) := by decide +kernel
theorem dX6_addMachine_54 : decode cX6_addMachine 54 = .ok (.aload_n 0, 1) := by decide +kernel
theorem dX6_addMachine_55 : decode cX6_addMachine 55 = .ok (.getfield 81, 3) := by decide +kernel
theorem dX6_addMachine_58 : decode cX6_addMachine 58 = .ok (.iconst 1, 1) := by decide +kernel
theorem dX6_addMachine_59 : decode cX6_addMachine 59 = .ok (.isub, 1) := by decide +kernel
theorem dX6_addMachine_60 : decode cX6_addMachine 60 = .ok (.ireturn, 1) := by decide +kernel
theorem dX6_isOver_0 : decode cX6_isOver 0 = .ok (.iload_n 2, 1) := by decide +kernel
theorem dX6_isOver_1 : decode cX6_isOver 1 = .ok (.istore_n 3, 1) := by decide +kernel
theorem dX6_isOver_2 : decode cX6_isOver 2 = .ok (.iload_n 3, 1) := by decide +kernel
theorem dX6_isOver_3 : decode cX6_isOver 3 = .ok (.iconst (-1), 1) := by decide +kernel
theorem dX6_isOver_4 : decode cX6_isOver 4 = .ok (.if_icmp .eq 18, 3) := by decide +kernel
theorem dX6_isOver_7 : decode cX6_isOver 7 = .ok (.iload_n 3, 1) := by decide +kernel
theorem dX6_isOver_8 : decode cX6_isOver 8 = .ok (.iload_n 1, 1) := by decide +kernel
theorem dX6_isOver_9 : decode cX6_isOver 9 = .ok (.if_icmp .eq 13, 3) := by decide +kernel
theorem dX6_isOver_12 : decode cX6_isOver 12 = .ok (.aload_n 0, 1) := by decide +kernel
theorem dX6_isOver_13 : decode cX6_isOver 13 = .ok (.getfield 20, 3) := by decide +kernel
theorem dX6_isOver_16 : decode cX6_isOver 16 = .ok (.iload_n 3, 1) := by decide +kernel
theorem dX6_isOver_17 : decode cX6_isOver 17 = .ok (.iaload, 1) := by decide +kernel
theorem dX6_isOver_18 : decode cX6_isOver 18 = .ok (.istore_n 3, 1) := by decide +kernel
theorem dX6_isOver_19 : decode cX6_isOver 19 = .ok (.goto (-17), 3) := by decide +kernel
theorem dX6_isOver_22 : decode cX6_isOver 22 = .ok (.iload_n 3, 1) := by decide +kernel
theorem dX6_isOver_23 : decode cX6_isOver 23 = .ok (.iload_n 1, 1) := by decide +kernel
theorem dX6_isOver_24 : decode cX6_isOver 24 = .ok (.if_icmp .ne 7, 3) := by decide +kernel
theorem dX6_isOver_27 : decode cX6_isOver 27 = .ok (.iconst 1, 1) := by decide +kernel
theorem dX6_isOver_28 : decode cX6_isOver 28 = .ok (.goto 4, 3) := by decide +kernel
theorem dX6_isOver_31 : decode cX6_isOver 31 = .ok (.iconst 0, 1) := by decide +kernel
theorem dX6_isOver_32 : decode cX6_isOver 32 = .ok (.ireturn, 1) := by decide +kernel
theorem dX6_moveMachine_0 : decode cX6_moveMachine 0 = .ok (.aload_n 0, 1) := by decide +kernel
theorem dX6_moveMachine_1 : decode cX6_moveMachine 1 = .ok (.iconst 0, 1) := by decide +kernel
theorem dX6_moveMachine_2 : decode cX6_moveMachine 2 = .ok (.putfield 74, 3) := by decide +kernel
theorem dX6_moveMachine_5 : decode cX6_moveMachine 5 = .ok (.aload_n 0, 1) := by decide +kernel
theorem dX6_moveMachine_6 : decode cX6_moveMachine 6 = .ok (.iload_n 1, 1) := by decide +kernel
theorem dX6_moveMachine_7 : decode cX6_moveMachine 7 = .ok (.invokevirtual 145, 3) := by decide +kernel
theorem dX6_moveMachine_10 : decode cX6_moveMachine 10 = .ok (.ifCond .eq 11, 3) := by decide +kernel
theorem dX6_moveMachine_13 : decode cX6_moveMachine 13 = .ok (.aload_n 0, 1) := by decide +kernel
theorem dX6_moveMachine_14 : decode cX6_moveMachine 14 = .ok (.iload_n 2, 1) := by decide +kernel
theorem dX6_moveMachine_15 : decode cX6_moveMachine 15 = .ok (.invokevirtual 87, 3) := by decide +kernel
theorem dX6_moveMachine_18 : decode cX6_moveMachine 18 = .ok (.ifCond .ne 9, 3) := by decide +kernel
theorem dX6_moveMachine_21 : decode cX6_moveMachine 21 = .ok (.aload_n 0, 1) := by decide +kernel
theorem dX6_moveMachine_22 : decode cX6_moveMachine 22 = .ok (.iconst 1, 1) := by decide +kernel
theorem dX6_moveMachine_23 : decode cX6_moveMachine 23 = .ok (.invokevirtual 112, 3) := by decide +kernel
theorem dX6_moveMachine_26 : decode cX6_moveMachine 26 = .ok (.ireturn, 1) := by decide +kernel
theorem dX6_moveMachine_27 : decode cX6_moveMachine 27 = .ok (.aload_n 0, 1) := by decide +kernel
theorem dX6_moveMachine_28 : decode cX6_moveMachine 28 = .ok (.iload_n 1, 1) := by decide +kernel
theorem dX6_moveMachine_29 : decode cX6_moveMachine 29 = .ok (.invokevirtual 135, 3) := by decide +kernel
theorem dX6_moveMachine_32 : decode cX6_moveMachine 32 = .ok (.ifCond .eq 9, 3) := by decide +kernel
theorem dX6_moveMachine_35 : decode cX6_moveMachine 35 = .ok (.aload_n 0, 1) := by decide +kernel
theorem dX6_moveMachine_36 : decode cX6_moveMachine 36 = .ok (.iconst 2, 1) := by decide +kernel
theorem dX6_moveMachine_37 : decode cX6_moveMachine 37 = .ok (.invokevirtual 112, 3) := by decide +kernel
theorem dX6_moveMachine_40 : decode cX6_moveMachine 40 = .ok (.ireturn, 1) := by decide +kernel
theorem dX6_moveMachine_41 : decode cX6_moveMachine 41 = .ok (.aload_n 0, 1) := by decide +kernel
theorem dX6_moveMachine_42 : decode cX6_moveMachine 42 = .ok (.getfield 26, 3) := by decide +kernel
theorem dX6_moveMachine_45 : decode cX6_moveMachine 45 = .ok (.iload_n 1, 1) := by decide +kernel
theorem dX6_moveMachine_46 : decode cX6_moveMachine 46 = .ok (.iaload, 1) := by decide +kernel
theorem dX6_moveMachine_47 : decode cX6_moveMachine 47 = .ok (.istore_n 3, 1) := by decide +kernel
theorem dX6_moveMachine_48 : decode cX6_moveMachine 48 = .ok (.aload_n 0, 1) := by decide +kernel
theorem dX6_moveMachine_49 : decode cX6_moveMachine 49 = .ok (.getfield 26, 3) := by decide +kernel
theorem dX6_moveMachine_52 : decode cX6_moveMachine 52 = .ok (.iload_n 1, 1) := by decide +kernel
theorem dX6_moveMachine_53 : decode cX6_moveMachine 53 = .ok (.iload_n 2, 1) := by decide +kernel
theorem dX6_moveMachine_54 : decode cX6_moveMachine 54 = .ok (.iastore, 1) := by decide +kernel
theorem dX6_moveMachine_55 : decode cX6_moveMachine 55 = .ok (.iconst 0, 1) := by decide +kernel
theorem dX6_moveMachine_56 : decode cX6_moveMachine 56 = .ok (.istore 4, 2) := by decide +kernel
theorem dX6_moveMachine_58 : decode cX6_moveMachine 58 = .ok (.iload 4, 2) := by decide +kernel
theorem dX6_moveMachine_60 : decode cX6_moveMachine 60 = .ok (.aload_n 0, 1) := by decide +kernel
theorem dX6_moveMachine_61 : decode cX6_moveMachine 61 = .ok (.getfield 16, 3) := by decide +kernel
theorem dX6_moveMachine_64 : decode cX6_moveMachine 64 = .ok (.if_icmp .ge 51, 3) := by decide +kernel
theorem dX6_moveMachine_67 : decode cX6_moveMachine 67 = .ok (.iconst 0, 1) := by decide +kernel
theorem dX6_moveMachine_68 : decode cX6_moveMachine 68 = .ok (.istore 5, 2) := by decide +kernel
theorem dX6_moveMachine_70 : decode cX6_moveMachine 70 = .ok (.iload 5, 2) := by decide +kernel
theorem dX6_moveMachine_72 : decode cX6_moveMachine 72 = .ok (.bipush 6, 2) := by decide +kernel
theorem dX6_moveMachine_74 : decode cX6_moveMachine 74 = .ok (.if_icmp .ge 35, 3) := by decide +kernel
theorem dX6_moveMachine_77 : decode cX6_moveMachine 77 = .ok (.aload_n 0, 1) := by decide +kernel
theorem dX6_moveMachine_78 : decode cX6_moveMachine 78 = .ok (.iload 4, 2) := by decide +kernel
theorem dX6_moveMachine_80 : decode cX6_moveMachine 80 = .ok (.iload_n 2, 1) := by decide +kernel
theorem dX6_moveMachine_81 : decode cX6_moveMachine 81 = .ok (.invokevirtual 148, 3) := by decide +kernel
theorem dX6_moveMachine_84 : decode cX6_moveMachine 84 = .ok (.ifCond .ne 25, 3) := by decide +kernel
theorem dX6_moveMachine_87 : decode cX6_moveMachine 87 = .ok (.aload_n 0, 1) := by decide +kernel
theorem dX6_moveMachine_88 : decode cX6_moveMachine 88 = .ok (.getfield 32, 3) := by decide +kernel
theorem dX6_moveMachine_91 : decode cX6_moveMachine 91 = .ok (.aload_n 0, 1) := by decide +kernel
theorem dX6_moveMachine_92 : decode cX6_moveMachine 92 = .ok (.iload_n 1, 1) := by decide +kernel
theorem dX6_moveMachine_93 : decode cX6_moveMachine 93 = .ok (.iload 4, 2) := by decide +kernel
theorem dX6_moveMachine_95 : decode cX6_moveMachine 95 = .ok (.invokevirtual 102, 3) := by decide +kernel
theorem dX6_moveMachine_98 : decode cX6_moveMachine 98 = .ok (.iload 5, 2) := by decide +kernel
theorem dX6_moveMachine_100 : decode cX6_moveMachine 100 = .ok (.iadd, 1) := by decide +kernel
theorem dX6_moveMachine_101 : decode cX6_moveMachine 101 = .ok (.iconst (-1), 1) := by decide +kernel
theorem dX6_moveMachine_102 : decode cX6_moveMachine 102 = .ok (.iastore, 1) := by decide +kernel
theorem dX6_moveMachine_103 : decode cX6_moveMachine 103 = .ok (.iinc 5 1, 3) := by decide +kernel
theorem dX6_moveMachine_106 : decode cX6_moveMachine 106 = .ok (.goto (-36), 3) := by decide +kernel
theorem dX6_moveMachine_109 : decode cX6_moveMachine 109 = .ok (.iinc 4 1, 3) := by decide +kernel
theorem dX6_moveMachine_112 : decode cX6_moveMachine 112 = .ok (.goto (-54), 3) := by decide +kernel
theorem dX6_moveMachine_115 : decode cX6_moveMachine 115 = .ok (.iload_n 3, 1) := by decide +kernel
theorem dX6_moveMachine_116 : decode cX6_moveMachine 116 = .ok (.ireturn, 1) := by decide +kernel
theorem dX6_work_0 : decode cX6_work 0 = .ok (.aload_n 0, 1) := by decide +kernel
theorem dX6_work_1 : decode cX6_work 1 = .ok (.iconst 0, 1) := by decide +kernel
theorem dX6_work_2 : decode cX6_work 2 = .ok (.putfield 74, 3) := by decide +kernel
theorem dX6_work_5 : decode cX6_work 5 = .ok (.aload_n 0, 1) := by decide +kernel
theorem dX6_work_6 : decode cX6_work 6 = .ok (.iload_n 1, 1) := by decide +kernel
theorem dX6_work_7 : decode cX6_work 7 = .ok (.invokevirtual 145, 3) := by decide +kernel
theorem dX6_work_10 : decode cX6_work 10 = .ok (.ifCond .ne 9, 3) := by decide +kernel
theorem dX6_work_13 : decode cX6_work 13 = .ok (.aload_n 0, 1) := by decide +kernel
theorem dX6_work_14 : decode cX6_work 14 = .ok (.iconst 1, 1) := by decide +kernel
theorem dX6_work_15 : decode cX6_work 15 = .ok (.invokevirtual 112, 3) := by decide +kernel
theorem dX6_work_18 : decode cX6_work 18 = .ok (.ireturn, 1) := by decide +kernel
theorem dX6_work_19 : decode cX6_work 19 = .ok (.iload_n 2, 1) := by decide +kernel
theorem dX6_work_20 : decode cX6_work 20 = .ok (.iconst 1, 1) := by decide +kernel
theorem dX6_work_21 : decode cX6_work 21 = .ok (.bipush 30, 2) := by decide +kernel
theorem dX6_work_23 : decode cX6_work 23 = .ok (.invokestatic 77, 3) := by decide +kernel
theorem dX6_work_26 : decode cX6_work 26 = .ok (.ifCond .ne 9, 3) := by decide +kernel
theorem dX6_work_29 : decode cX6_work 29 = .ok (.aload_n 0, 1) := by decide +kernel
theorem dX6_work_30 : decode cX6_work 30 = .ok (.iconst 2, 1) := by decide +kernel
theorem dX6_work_31 : decode cX6_work 31 = .ok (.invokevirtual 112, 3) := by decide +kernel
theorem dX6_work_34 : decode cX6_work 34 = .ok (.ireturn, 1) := by decide +kernel
theorem dX6_work_35 : decode cX6_work 35 = .ok (.aload_n 0, 1) := by decide +kernel
theorem dX6_work_36 : decode cX6_work 36 = .ok (.iload_n 1, 1) := by decide +kernel
theorem dX6_work_37 : decode cX6_work 37 = .ok (.invokevirtual 135, 3) := by decide +kernel
theorem dX6_work_40 : decode cX6_work 40 = .ok (.ifCond .ne 11, 3) := by decide +kernel
theorem dX6_work_43 : decode cX6_work 43 = .ok (.aload_n 0, 1) := by decide +kernel
theorem dX6_work_44 : decode cX6_work 44 = .ok (.iload_n 1, 1) := by decide +kernel
theorem dX6_work_45 : decode cX6_work 45 = .ok (.invokevirtual 118, 3) := by decide +kernel
theorem dX6_work_48 : decode cX6_work 48 = .ok (.ifCond .eq 9, 3) := by decide +kernel
theorem dX6_work_51 : decode cX6_work 51 = .ok (.aload_n 0, 1) := by decide +kernel
theorem dX6_work_52 : decode cX6_work 52 = .ok (.iconst 3, 1) := by decide +kernel
theorem dX6_work_53 : decode cX6_work 53 = .ok (.invokevirtual 112, 3) := by decide +kernel
theorem dX6_work_56 : decode cX6_work 56 = .ok (.ireturn, 1) := by decide +kernel
theorem dX6_work_57 : decode cX6_work 57 = .ok (.aload_n 0, 1) := by decide +kernel
theorem dX6_work_58 : decode cX6_work 58 = .ok (.getfield 29, 3) := by decide +kernel
theorem dX6_work_61 : decode cX6_work 61 = .ok (.iload_n 1, 1) := by decide +kernel
theorem dX6_work_62 : decode cX6_work 62 = .ok (.aload_n 0, 1) := by decide +kernel
theorem dX6_work_63 : decode cX6_work 63 = .ok (.getfield 109, 3) := by decide +kernel
theorem dX6_work_66 : decode cX6_work 66 = .ok (.iload_n 2, 1) := by decide +kernel
theorem dX6_work_67 : decode cX6_work 67 = .ok (.iadd, 1) := by decide +kernel
theorem dX6_work_68 : decode cX6_work 68 = .ok (.iastore, 1) := by decide +kernel
theorem dX6_work_69 : decode cX6_work 69 = .ok (.aload_n 0, 1) := by decide +kernel
theorem dX6_work_70 : decode cX6_work 70 = .ok (.getfield 29, 3) := by decide +kernel
theorem dX6_work_73 : decode cX6_work 73 = .ok (.iload_n 1, 1) := by decide +kernel
theorem dX6_work_74 : decode cX6_work 74 = .ok (.iaload, 1) := by decide +kernel
theorem dX6_work_75 : decode cX6_work 75 = .ok (.ireturn, 1) := by decide +kernel
theorem dX6_setPace_0 : decode cX6_setPace 0 = .ok (.aload_n 0, 1) := by decide +kernel
theorem dX6_setPace_1 : decode cX6_setPace 1 = .ok (.iconst 0, 1) := by decide +kernel
theorem dX6_setPace_2 : decode cX6_setPace 2 = .ok (.putfield 74, 3) := by decide +kernel
theorem dX6_setPace_5 : decode cX6_setPace 5 = .ok (.iload_n 1, 1) := by decide +kernel
theorem dX6_setPace_6 : decode cX6_setPace 6 = .ok (.iconst 0, 1) := by decide +kernel
theorem dX6_setPace_7 : decode cX6_setPace 7 = .ok (.bipush 12, 2) := by decide +kernel
theorem dX6_setPace_9 : decode cX6_setPace 9 = .ok (.invokestatic 77, 3) := by decide +kernel
theorem dX6_setPace_12 : decode cX6_setPace 12 = .ok (.ifCond .ne 9, 3) := by decide +kernel
theorem dX6_setPace_15 : decode cX6_setPace 15 = .ok (.aload_n 0, 1) := by decide +kernel
theorem dX6_setPace_16 : decode cX6_setPace 16 = .ok (.iconst 1, 1) := by decide +kernel
theorem dX6_setPace_17 : decode cX6_setPace 17 = .ok (.invokevirtual 112, 3) := by decide +kernel
theorem dX6_setPace_20 : decode cX6_setPace 20 = .ok (.ireturn, 1) := by decide +kernel
theorem dX6_setPace_21 : decode cX6_setPace 21 = .ok (.aload_n 0, 1) := by decide +kernel
theorem dX6_setPace_22 : decode cX6_setPace 22 = .ok (.getfield 23, 3) := by decide +kernel
theorem dX6_setPace_25 : decode cX6_setPace 25 = .ok (.istore_n 2, 1) := by decide +kernel
theorem dX6_setPace_26 : decode cX6_setPace 26 = .ok (.aload_n 0, 1) := by decide +kernel
theorem dX6_setPace_27 : decode cX6_setPace 27 = .ok (.iload_n 1, 1) := by decide +kernel
theorem dX6_setPace_28 : decode cX6_setPace 28 = .ok (.putfield 23, 3) := by decide +kernel
theorem dX6_setPace_31 : decode cX6_setPace 31 = .ok (.iload_n 2, 1) := by decide +kernel
theorem dX6_setPace_32 : decode cX6_setPace 32 = .ok (.ireturn, 1) := by decide +kernel
theorem dX6_isBusy_0 : decode cX6_isBusy 0 = .ok (.aload_n 0, 1) := by decide +kernel
theorem dX6_isBusy_1 : decode cX6_isBusy 1 = .ok (.aload_n 0, 1) := by decide +kernel
theorem dX6_isBusy_2 : decode cX6_isBusy 2 = .ok (.iload_n 1, 1) := by decide +kernel
theorem dX6_isBusy_3 : decode cX6_isBusy 3 = .ok (.invokevirtual 145, 3) := by decide +kernel
theorem dX6_isBusy_6 : decode cX6_isBusy 6 = .ok (.ifCond .eq 7, 3) := by decide +kernel
theorem dX6_isBusy_9 : decode cX6_isBusy 9 = .ok (.iconst 0, 1) := by decide +kernel
theorem dX6_isBusy_10 : decode cX6_isBusy 10 = .ok (.goto 4, 3) := by decide +kernel
theorem dX6_isBusy_13 : decode cX6_isBusy 13 = .ok (.iconst 1, 1) := by decide +kernel
theorem dX6_isBusy_14 : decode cX6_isBusy 14 = .ok (.putfield 74, 3) := by decide +kernel
theorem dX6_isBusy_17 : decode cX6_isBusy 17 = .ok (.aload_n 0, 1) := by decide +kernel
theorem dX6_isBusy_18 : decode cX6_isBusy 18 = .ok (.getfield 74, 3) := by decide +kernel
theorem dX6_isBusy_21 : decode cX6_isBusy 21 = .ok (.ifCond .ne 15, 3) := by decide +kernel
theorem dX6_isBusy_24 : decode cX6_isBusy 24 = .ok (.aload_n 0, 1) := by decide +kernel
theorem dX6_isBusy_25 : decode cX6_isBusy 25 = .ok (.iload_n 1, 1) := by decide +kernel
theorem dX6_isBusy_26 : decode cX6_isBusy 26 = .ok (.invokevirtual 135, 3) := by decide +kernel
theorem dX6_isBusy_29 : decode cX6_isBusy 29 = .ok (.ifCond .eq 7, 3) := by decide +kernel
theorem dX6_isBusy_32 : decode cX6_isBusy 32 = .ok (.iconst 1, 1) := by decide +kernel
theorem dX6_isBusy_33 : decode cX6_isBusy 33 = .ok (.goto 4, 3) := by decide +kernel
theorem dX6_isBusy_36 : decode cX6_isBusy 36 = .ok (.iconst 0, 1) := by decide +kernel
theorem dX6_isBusy_37 : decode cX6_isBusy 37 = .ok (.ireturn, 1) := by decide +kernel
theorem dX6_isStopped_0 : decode cX6_isStopped 0 = .ok (.aload_n 0, 1) := by decide +kernel
theorem dX6_isStopped_1 : decode cX6_isStopped 1 = .ok (.aload_n 0, 1) := by decide +kernel
theorem dX6_isStopped_2 : decode cX6_isStopped 2 = .ok (.iload_n 1, 1) := by decide +kernel
theorem dX6_isStopped_3 : decode cX6_isStopped 3 = .ok (.invokevirtual 145, 3) := by decide +kernel
theorem dX6_isStopped_6 : decode cX6_isStopped 6 = .ok (.ifCond .eq 7, 3) := by decide +kernel
theorem dX6_isStopped_9 : decode cX6_isStopped 9 = .ok (.iconst 0, 1) := by decide +kernel
theorem dX6_isStopped_10 : decode cX6_isStopped 10 = .ok (.goto 4, 3) := by decide +kernel
theorem dX6_isStopped_13 : decode cX6_isStopped 13 = .ok (.iconst 1, 1) := by decide +kernel
theorem dX6_isStopped_14 : decode cX6_isStopped 14 = .ok (.putfield 74, 3) := by decide +kernel
theorem dX6_isStopped_17 : decode cX6_isStopped 17 = .ok (.aload_n 0, 1) := by decide +kernel
theorem dX6_isStopped_18 : decode cX6_isStopped 18 = .ok (.getfield 74, 3) := by decide +kernel
theorem dX6_isStopped_21 : decode cX6_isStopped 21 = .ok (.ifCond .ne 15, 3) := by decide +kernel
theorem dX6_isStopped_24 : decode cX6_isStopped 24 = .ok (.aload_n 0, 1) := by decide +kernel
theorem dX6_isStopped_25 : decode cX6_isStopped 25 = .ok (.iload_n 1, 1) := by decide +kernel
theorem dX6_isStopped_26 : decode cX6_isStopped 26 = .ok (.invokevirtual 118, 3) := by decide +kernel
theorem dX6_isStopped_29 : decode cX6_isStopped 29 = .ok (.ifCond .eq 7, 3) := by decide +kernel
theorem dX6_isStopped_32 : decode cX6_isStopped 32 = .ok (.iconst 1, 1) := by decide +kernel
theorem dX6_isStopped_33 : decode cX6_isStopped 33 = .ok (.goto 4, 3) := by decide +kernel
theorem dX6_isStopped_36 : decode cX6_isStopped 36 = .ok (.iconst 0, 1) := by decide +kernel
theorem dX6_isStopped_37 : decode cX6_isStopped 37 = .ok (.ireturn, 1) := by decide +kernel
theorem dX6_propose_0 : decode cX6_propose 0 = .ok (.aload_n 0, 1) := by decide +kernel
theorem dX6_propose_1 : decode cX6_propose 1 = .ok (.iconst 0, 1) := by decide +kernel
theorem dX6_propose_2 : decode cX6_propose 2 = .ok (.putfield 74, 3) := by decide +kernel
theorem dX6_propose_5 : decode cX6_propose 5 = .ok (.iload_n 1, 1) := by decide +kernel
theorem dX6_propose_6 : decode cX6_propose 6 = .ok (.invokestatic 121, 3) := by decide +kernel
theorem dX6_propose_9 : decode cX6_propose 9 = .ok (.ifCond .eq 18, 3) := by decide +kernel
theorem dX6_propose_12 : decode cX6_propose 12 = .ok (.aload_n 0, 1) := by decide +kernel
theorem dX6_propose_13 : decode cX6_propose 13 = .ok (.iload_n 2, 1) := by decide +kernel
theorem dX6_propose_14 : decode cX6_propose 14 = .ok (.invokevirtual 151, 3) := by decide +kernel
theorem dX6_propose_17 : decode cX6_propose 17 = .ok (.ifCond .eq 10, 3) := by decide +kernel
theorem dX6_propose_20 : decode cX6_propose 20 = .ok (.iload_n 3, 1) := by decide +kernel
theorem dX6_propose_21 : decode cX6_propose 21 = .ok (.invokestatic 154, 3) := by decide +kernel
theorem dX6_propose_24 : decode cX6_propose 24 = .ok (.ifCond .ne 9, 3) := by decide +kernel
theorem dX6_propose_27 : decode cX6_propose 27 = .ok (.aload_n 0, 1) := by decide +kernel
theorem dX6_propose_28 : decode cX6_propose 28 = .ok (.iconst 1, 1) := by decide +kernel
theorem dX6_propose_29 : decode cX6_propose 29 = .ok (.invokevirtual 112, 3) := by decide +kernel
theorem dX6_propose_32 : decode cX6_propose 32 = .ok (.ireturn, 1) := by decide +kernel
theorem dX6_propose_33 : decode cX6_propose 33 = .ok (.iload 4, 2) := by decide +kernel
theorem dX6_propose_35 : decode cX6_propose 35 = .ok (.iconst 0, 1) := by decide +kernel
theorem dX6_propose_36 : decode cX6_propose 36 = .ok (.bipush 101, 2) := by decide +kernel
theorem dX6_propose_38 : decode cX6_propose 38 = .ok (.invokestatic 77, 3) := by decide +kernel
theorem dX6_propose_41 : decode cX6_propose 41 = .ok (.ifCond .ne 9, 3) := by decide +kernel
theorem dX6_propose_44 : decode cX6_propose 44 = .ok (.aload_n 0, 1) := by decide +kernel
theorem dX6_propose_45 : decode cX6_propose 45 = .ok (.iconst 2, 1) := by decide +kernel
theorem dX6_propose_46 : decode cX6_propose 46 = .ok (.invokevirtual 112, 3) := by decide +kernel
theorem dX6_propose_49 : decode cX6_propose 49 = .ok (.ireturn, 1) := by decide +kernel
theorem dX6_propose_50 : decode cX6_propose 50 = .ok (.aload_n 0, 1) := by decide +kernel
theorem dX6_propose_51 : decode cX6_propose 51 = .ok (.getfield 13, 3) := by decide +kernel
theorem dX6_propose_54 : decode cX6_propose 54 = .ok (.iload_n 1, 1) := by decide +kernel
theorem dX6_propose_55 : decode cX6_propose 55 = .ok (.iaload, 1) := by decide +kernel
theorem dX6_propose_56 : decode cX6_propose 56 = .ok (.ifCond .gt 12, 3) := by decide +kernel
theorem dX6_propose_59 : decode cX6_propose 59 = .ok (.aload_n 0, 1) := by decide +kernel
theorem dX6_propose_60 : decode cX6_propose 60 = .ok (.getfield 84, 3) := by decide +kernel
theorem dX6_propose_63 : decode cX6_propose 63 = .ok (.bipush 40, 2) := by decide +kernel
theorem dX6_propose_65 : decode cX6_propose 65 = .ok (.if_icmp .ne 9, 3) := by decide +kernel
theorem dX6_propose_68 : decode cX6_propose 68 = .ok (.aload_n 0, 1) := by decide +kernel
theorem dX6_propose_69 : decode cX6_propose 69 = .ok (.iconst 3, 1) := by decide +kernel
theorem dX6_propose_70 : decode cX6_propose 70 = .ok (.invokevirtual 112, 3) := by decide +kernel
theorem dX6_propose_73 : decode cX6_propose 73 = .ok (.ireturn, 1) := by decide +kernel
theorem dX6_propose_74 : decode cX6_propose 74 = .ok (.aload_n 0, 1) := by decide +kernel
theorem dX6_propose_75 : decode cX6_propose 75 = .ok (.getfield 35, 3) := by decide +kernel
theorem dX6_propose_78 : decode cX6_propose 78 = .ok (.aload_n 0, 1) := by decide +kernel
theorem dX6_propose_79 : decode cX6_propose 79 = .ok (.getfield 84, 3) := by decide +kernel
theorem dX6_propose_82 : decode cX6_propose 82 = .ok (.iload_n 1, 1) := by decide +kernel
theorem dX6_propose_83 : decode cX6_propose 83 = .ok (.iastore, 1) := by decide +kernel
theorem dX6_propose_84 : decode cX6_propose 84 = .ok (.aload_n 0, 1) := by decide +kernel
theorem dX6_propose_85 : decode cX6_propose 85 = .ok (.getfield 38, 3) := by decide +kernel
theorem dX6_propose_88 : decode cX6_propose 88 = .ok (.aload_n 0, 1) := by decide +kernel
theorem dX6_propose_89 : decode cX6_propose 89 = .ok (.getfield 84, 3) := by decide +kernel
theorem dX6_propose_92 : decode cX6_propose 92 = .ok (.iload_n 2, 1) := by decide +kernel
theorem dX6_propose_93 : decode cX6_propose 93 = .ok (.iastore, 1) := by decide +kernel
theorem dX6_propose_94 : decode cX6_propose 94 = .ok (.aload_n 0, 1) := by decide +kernel
theorem dX6_propose_95 : decode cX6_propose 95 = .ok (.getfield 41, 3) := by decide +kernel
theorem dX6_propose_98 : decode cX6_propose 98 = .ok (.aload_n 0, 1) := by decide +kernel
theorem dX6_propose_99 : decode cX6_propose 99 = .ok (.getfield 84, 3) := by decide +kernel
theorem dX6_propose_102 : decode cX6_propose 102 = .ok (.iload_n 3, 1) := by decide +kernel
theorem dX6_propose_103 : decode cX6_propose 103 = .ok (.iastore, 1) := by decide +kernel
theorem dX6_propose_104 : decode cX6_propose 104 = .ok (.aload_n 0, 1) := by decide +kernel
theorem dX6_propose_105 : decode cX6_propose 105 = .ok (.getfield 44, 3) := by decide +kernel
theorem dX6_propose_108 : decode cX6_propose 108 = .ok (.aload_n 0, 1) := by decide +kernel
theorem dX6_propose_109 : decode cX6_propose 109 = .ok (.getfield 84, 3) := by decide +kernel
theorem dX6_propose_112 : decode cX6_propose 112 = .ok (.aload_n 0, 1) := by decide +kernel
theorem dX6_propose_113 : decode cX6_propose 113 = .ok (.getfield 109, 3) := by decide +kernel
theorem dX6_propose_116 : decode cX6_propose 116 = .ok (.iastore, 1) := by decide +kernel
theorem dX6_propose_117 : decode cX6_propose 117 = .ok (.aload_n 0, 1) := by decide +kernel
theorem dX6_propose_118 : decode cX6_propose 118 = .ok (.getfield 47, 3) := by decide +kernel
theorem dX6_propose_121 : decode cX6_propose 121 = .ok (.aload_n 0, 1) := by decide +kernel
theorem dX6_propose_122 : decode cX6_propose 122 = .ok (.getfield 84, 3) := by decide +kernel
theorem dX6_propose_125 : decode cX6_propose 125 = .ok (.iload 4, 2) := by decide +kernel
theorem dX6_propose_127 : decode cX6_propose 127 = .ok (.iastore, 1) := by decide +kernel
theorem dX6_propose_128 : decode cX6_propose 128 = .ok (.aload_n 0, 1) := by decide +kernel
theorem dX6_propose_129 : decode cX6_propose 129 = .ok (.getfield 53, 3) := by decide +kernel
theorem dX6_propose_132 : decode cX6_propose 132 = .ok (.aload_n 0, 1) := by decide +kernel
theorem dX6_propose_133 : decode cX6_propose 133 = .ok (.getfield 84, 3) := by decide +kernel
theorem dX6_propose_136 : decode cX6_propose 136 = .ok (.iconst (-1), 1) := by decide +kernel
theorem dX6_propose_137 : decode cX6_propose 137 = .ok (.iastore, 1) := by decide +kernel
theorem dX6_propose_138 : decode cX6_propose 138 = .ok (.aload_n 0, 1) := by decide +kernel
theorem dX6_propose_139 : decode cX6_propose 139 = .ok (.dup, 1) := by decide +kernel
theorem dX6_propose_140 : decode cX6_propose 140 = .ok (.getfield 84, 3) := by decide +kernel
theorem dX6_propose_143 : decode cX6_propose 143 = .ok (.iconst 1, 1) := by decide +kernel
theorem dX6_propose_144 : decode cX6_propose 144 = .ok (.iadd, 1) := by decide +kernel
theorem dX6_propose_145 : decode cX6_propose 145 = .ok (.putfield 84, 3) := by decide +kernel
theorem dX6_propose_148 : decode cX6_propose 148 = .ok (.aload_n 0, 1) := by decide +kernel
theorem dX6_propose_149 : decode cX6_propose 149 = .ok (.getfield 84, 3) := by decide +kernel
theorem dX6_propose_152 : decode cX6_propose 152 = .ok (.iconst 1, 1) := by decide +kernel
theorem dX6_propose_153 : decode cX6_propose 153 = .ok (.isub, 1) := by decide +kernel
theorem dX6_propose_154 : decode cX6_propose 154 = .ok (.ireturn, 1) := by decide +kernel
theorem dX6_approve_0 : decode cX6_approve 0 = .ok (.aload_n 0, 1) := by decide +kernel
theorem dX6_approve_1 : decode cX6_approve 1 = .ok (.iconst 0, 1) := by decide +kernel
theorem dX6_approve_2 : decode cX6_approve 2 = .ok (.putfield 74, 3) := by decide +kernel
theorem dX6_approve_5 : decode cX6_approve 5 = .ok (.iload_n 1, 1) := by decide +kernel
theorem dX6_approve_6 : decode cX6_approve 6 = .ok (.invokestatic 121, 3) := by decide +kernel
theorem dX6_approve_9 : decode cX6_approve 9 = .ok (.ifCond .eq 11, 3) := by decide +kernel
theorem dX6_approve_12 : decode cX6_approve 12 = .ok (.aload_n 0, 1) := by decide +kernel
theorem dX6_approve_13 : decode cX6_approve 13 = .ok (.iload_n 2, 1) := by decide +kernel
theorem dX6_approve_14 : decode cX6_approve 14 = .ok (.invokevirtual 157, 3) := by decide +kernel
theorem dX6_approve_17 : decode cX6_approve 17 = .ok (.ifCond .ne 9, 3) := by decide +kernel
theorem dX6_approve_20 : decode cX6_approve 20 = .ok (.aload_n 0, 1) := by decide +kernel
theorem dX6_approve_21 : decode cX6_approve 21 = .ok (.iconst 1, 1) := by decide +kernel
theorem dX6_approve_22 : decode cX6_approve 22 = .ok (.invokevirtual 112, 3) := by decide +kernel
theorem dX6_approve_25 : decode cX6_approve 25 = .ok (.ireturn, 1) := by decide +kernel
theorem dX6_approve_26 : decode cX6_approve 26 = .ok (.bipush 8, 2) := by decide +kernel
theorem dX6_approve_28 : decode cX6_approve 28 = .ok (.iload_n 2, 1) := by decide +kernel
theorem dX6_approve_29 : decode cX6_approve 29 = .ok (.imul, 1) := by decide +kernel
theorem dX6_approve_30 : decode cX6_approve 30 = .ok (.iload_n 1, 1) := by decide +kernel
theorem dX6_approve_31 : decode cX6_approve 31 = .ok (.iadd, 1) := by decide +kernel
theorem dX6_approve_32 : decode cX6_approve 32 = .ok (.istore_n 3, 1) := by decide +kernel
theorem dX6_approve_33 : decode cX6_approve 33 = .ok (.aload_n 0, 1) := by decide +kernel
theorem dX6_approve_34 : decode cX6_approve 34 = .ok (.getfield 13, 3) := by decide +kernel
theorem dX6_approve_37 : decode cX6_approve 37 = .ok (.iload_n 1, 1) := by decide +kernel
theorem dX6_approve_38 : decode cX6_approve 38 = .ok (.iaload, 1) := by decide +kernel
theorem dX6_approve_39 : decode cX6_approve 39 = .ok (.ifCond .ne 29, 3) := by decide +kernel
theorem dX6_approve_42 : decode cX6_approve 42 = .ok (.aload_n 0, 1) := by decide +kernel
theorem dX6_approve_43 : decode cX6_approve 43 = .ok (.getfield 7, 3) := by decide +kernel
theorem dX6_approve_46 : decode cX6_approve 46 = .ok (.aload_n 0, 1) := by decide +kernel
theorem dX6_approve_47 : decode cX6_approve 47 = .ok (.getfield 109, 3) := by decide +kernel
theorem dX6_approve_50 : decode cX6_approve 50 = .ok (.bipush 7, 2) := by decide +kernel
theorem dX6_approve_52 : decode cX6_approve 52 = .ok (.idiv, 1) := by decide +kernel
theorem dX6_approve_53 : decode cX6_approve 53 = .ok (.iconst 4, 1) := by decide +kernel
theorem dX6_approve_54 : decode cX6_approve 54 = .ok (.irem, 1) := by decide +kernel
theorem dX6_approve_55 : decode cX6_approve 55 = .ok (.iaload, 1) := by decide +kernel
theorem dX6_approve_56 : decode cX6_approve 56 = .ok (.iload_n 1, 1) := by decide +kernel
theorem dX6_approve_57 : decode cX6_approve 57 = .ok (.ishr, 1) := by decide +kernel
theorem dX6_approve_58 : decode cX6_approve 58 = .ok (.iconst 1, 1) := by decide +kernel
theorem dX6_approve_59 : decode cX6_approve 59 = .ok (.iand, 1) := by decide +kernel
theorem dX6_approve_60 : decode cX6_approve 60 = .ok (.iconst 1, 1) := by decide +kernel
theorem dX6_approve_61 : decode cX6_approve 61 = .ok (.if_icmp .ne 7, 3) := by decide +kernel
theorem dX6_approve_64 : decode cX6_approve 64 = .ok (.iconst 1, 1) := by decide +kernel
theorem dX6_approve_65 : decode cX6_approve 65 = .ok (.goto 4, 3) := by decide +kernel
theorem dX6_approve_68 : decode cX6_approve 68 = .ok (.iconst 0, 1) := by decide +kernel
theorem dX6_approve_69 : decode cX6_approve 69 = .ok (.istore 4, 2) := by decide +kernel
theorem dX6_approve_71 : decode cX6_approve 71 = .ok (.iload 4, 2) := by decide +kernel
theorem dX6_approve_73 : decode cX6_approve 73 = .ok (.ifCond .eq 33, 3) := by decide +kernel
theorem dX6_approve_76 : decode cX6_approve 76 = .ok (.aload_n 0, 1) := by decide +kernel
theorem dX6_approve_77 : decode cX6_approve 77 = .ok (.getfield 35, 3) := by decide +kernel
theorem dX6_approve_80 : decode cX6_approve 80 = .ok (.iload_n 2, 1) := by decide +kernel
theorem dX6_approve_81 : decode cX6_approve 81 = .ok (.iaload, 1) := by decide +kernel
theorem dX6_approve_82 : decode cX6_approve 82 = .ok (.iload_n 1, 1) := by decide +kernel
theorem dX6_approve_83 : decode cX6_approve 83 = .ok (.if_icmp .eq 23, 3) := by decide +kernel
theorem dX6_approve_86 : decode cX6_approve 86 = .ok (.aload_n 0, 1) := by decide +kernel
theorem dX6_approve_87 : decode cX6_approve 87 = .ok (.getfield 56, 3) := by decide +kernel
theorem dX6_approve_90 : decode cX6_approve 90 = .ok (.iload_n 3, 1) := by decide +kernel
theorem dX6_approve_91 : decode cX6_approve 91 = .ok (.iaload, 1) := by decide +kernel
theorem dX6_approve_92 : decode cX6_approve 92 = .ok (.iconst 1, 1) := by decide +kernel
theorem dX6_approve_93 : decode cX6_approve 93 = .ok (.if_icmp .eq 13, 3) := by decide +kernel
theorem dX6_approve_96 : decode cX6_approve 96 = .ok (.aload_n 0, 1) := by decide +kernel
theorem dX6_approve_97 : decode cX6_approve 97 = .ok (.getfield 50, 3) := by decide +kernel
theorem dX6_approve_100 : decode cX6_approve 100 = .ok (.iload_n 2, 1) := by decide +kernel
theorem dX6_approve_101 : decode cX6_approve 101 = .ok (.iaload, 1) := by decide +kernel
theorem dX6_approve_102 : decode cX6_approve 102 = .ok (.iconst 3, 1) := by decide +kernel
theorem dX6_approve_103 : decode cX6_approve 103 = .ok (.if_icmp .ne 9, 3) := by decide +kernel
theorem dX6_approve_106 : decode cX6_approve 106 = .ok (.aload_n 0, 1) := by decide +kernel
theorem dX6_approve_107 : decode cX6_approve 107 = .ok (.iconst 2, 1) := by decide +kernel
theorem dX6_approve_108 : decode cX6_approve 108 = .ok (.invokevirtual 112, 3) := by decide +kernel
theorem dX6_approve_111 : decode cX6_approve 111 = .ok (.ireturn, 1) := by decide +kernel
theorem dX6_approve_112 : decode cX6_approve 112 = .ok (.aload_n 0, 1) := by decide +kernel
theorem dX6_approve_113 : decode cX6_approve 113 = .ok (.getfield 56, 3) := by decide +kernel
theorem dX6_approve_116 : decode cX6_approve 116 = .ok (.iload_n 3, 1) := by decide +kernel
theorem dX6_approve_117 : decode cX6_approve 117 = .ok (.iconst 1, 1) := by decide +kernel
theorem dX6_approve_118 : decode cX6_approve 118 = .ok (.iastore, 1) := by decide +kernel
theorem dX6_approve_119 : decode cX6_approve 119 = .ok (.aload_n 0, 1) := by decide +kernel
theorem dX6_approve_120 : decode cX6_approve 120 = .ok (.getfield 59, 3) := by decide +kernel
theorem dX6_approve_123 : decode cX6_approve 123 = .ok (.iload_n 3, 1) := by decide +kernel
theorem dX6_approve_124 : decode cX6_approve 124 = .ok (.aload_n 0, 1) := by decide +kernel
theorem dX6_approve_125 : decode cX6_approve 125 = .ok (.getfield 109, 3) := by decide +kernel
theorem dX6_approve_128 : decode cX6_approve 128 = .ok (.iastore, 1) := by decide +kernel
theorem dX6_approve_129 : decode cX6_approve 129 = .ok (.aload_n 0, 1) := by decide +kernel
theorem dX6_approve_130 : decode cX6_approve 130 = .ok (.getfield 50, 3) := by decide +kernel
theorem dX6_approve_133 : decode cX6_approve 133 = .ok (.iload_n 2, 1) := by decide +kernel
theorem dX6_approve_134 : decode cX6_approve 134 = .ok (.iaload, 1) := by decide +kernel
theorem dX6_approve_135 : decode cX6_approve 135 = .ok (.iconst 1, 1) := by decide +kernel
theorem dX6_approve_136 : decode cX6_approve 136 = .ok (.if_icmp .eq 74, 3) := by decide +kernel
theorem dX6_approve_139 : decode cX6_approve 139 = .ok (.aload_n 0, 1) := by decide +kernel
theorem dX6_approve_140 : decode cX6_approve 140 = .ok (.iload_n 2, 1) := by decide +kernel
theorem dX6_approve_141 : decode cX6_approve 141 = .ok (.invokevirtual 115, 3) := by decide +kernel
theorem dX6_approve_144 : decode cX6_approve 144 = .ok (.iconst 1, 1) := by decide +kernel
theorem dX6_approve_145 : decode cX6_approve 145 = .ok (.if_icmp .le 65, 3) := by decide +kernel
theorem dX6_approve_148 : decode cX6_approve 148 = .ok (.aload_n 0, 1) := by decide +kernel
theorem dX6_approve_149 : decode cX6_approve 149 = .ok (.getfield 50, 3) := by decide +kernel
theorem dX6_approve_152 : decode cX6_approve 152 = .ok (.iload_n 2, 1) := by decide +kernel
theorem dX6_approve_153 : decode cX6_approve 153 = .ok (.iconst 1, 1) := by decide +kernel
theorem dX6_approve_154 : decode cX6_approve 154 = .ok (.iastore, 1) := by decide +kernel
theorem dX6_approve_155 : decode cX6_approve 155 = .ok (.aload_n 0, 1) := by decide +kernel
theorem dX6_approve_156 : decode cX6_approve 156 = .ok (.dup, 1) := by decide +kernel
theorem dX6_approve_157 : decode cX6_approve 157 = .ok (.getfield 160, 3) := by decide +kernel
theorem dX6_approve_160 : decode cX6_approve 160 = .ok (.aload_n 0, 1) := by decide +kernel
theorem dX6_approve_161 : decode cX6_approve 161 = .ok (.getfield 53, 3) := by decide +kernel
theorem dX6_approve_164 : decode cX6_approve 164 = .ok (.iload_n 2, 1) := by decide +kernel
theorem dX6_approve_165 : decode cX6_approve 165 = .ok (.iaload, 1) := by decide +kernel
theorem dX6_approve_166 : decode cX6_approve 166 = .ok (.iconst (-1), 1) := by decide +kernel
theorem dX6_approve_167 : decode cX6_approve 167 = .ok (.if_icmp .ne 7, 3) := by decide +kernel
theorem dX6_approve_170 : decode cX6_approve 170 = .ok (.iconst 1, 1) := by decide +kernel
theorem dX6_approve_171 : decode cX6_approve 171 = .ok (.goto 4, 3) := by decide +kernel
theorem dX6_approve_174 : decode cX6_approve 174 = .ok (.iconst 0, 1) := by decide +kernel
theorem dX6_approve_175 : decode cX6_approve 175 = .ok (.iadd, 1) := by decide +kernel
theorem dX6_approve_176 : decode cX6_approve 176 = .ok (.putfield 160, 3) := by decide +kernel
theorem dX6_approve_179 : decode cX6_approve 179 = .ok (.aload_n 0, 1) := by decide +kernel
theorem dX6_approve_180 : decode cX6_approve 180 = .ok (.getfield 53, 3) := by decide +kernel
theorem dX6_approve_183 : decode cX6_approve 183 = .ok (.iload_n 2, 1) := by decide +kernel
theorem dX6_approve_184 : decode cX6_approve 184 = .ok (.aload_n 0, 1) := by decide +kernel
theorem dX6_approve_185 : decode cX6_approve 185 = .ok (.getfield 53, 3) := by decide +kernel
theorem dX6_approve_188 : decode cX6_approve 188 = .ok (.iload_n 2, 1) := by decide +kernel
theorem dX6_approve_189 : decode cX6_approve 189 = .ok (.iaload, 1) := by decide +kernel
theorem dX6_approve_190 : decode cX6_approve 190 = .ok (.iconst (-1), 1) := by decide +kernel
theorem dX6_approve_191 : decode cX6_approve 191 = .ok (.if_icmp .ne 12, 3) := by decide +kernel
theorem dX6_approve_194 : decode cX6_approve 194 = .ok (.aload_n 0, 1) := by decide +kernel
theorem dX6_approve_195 : decode cX6_approve 195 = .ok (.getfield 160, 3) := by decide +kernel
theorem dX6_approve_198 : decode cX6_approve 198 = .ok (.iconst 1, 1) := by decide +kernel
theorem dX6_approve_199 : decode cX6_approve 199 = .ok (.isub, 1) := by decide +kernel
theorem dX6_approve_200 : decode cX6_approve 200 = .ok (.goto 9, 3) := by decide +kernel
theorem dX6_approve_203 : decode cX6_approve 203 = .ok (.aload_n 0, 1) := by decide +kernel
theorem dX6_approve_204 : decode cX6_approve 204 = .ok (.getfield 53, 3) := by decide +kernel
theorem dX6_approve_207 : decode cX6_approve 207 = .ok (.iload_n 2, 1) := by decide +kernel
theorem dX6_approve_208 : decode cX6_approve 208 = .ok (.iaload, 1) := by decide +kernel
theorem dX6_approve_209 : decode cX6_approve 209 = .ok (.iastore, 1) := by decide +kernel
theorem dX6_approve_210 : decode cX6_approve 210 = .ok (.aload_n 0, 1) := by decide +kernel
theorem dX6_approve_211 : decode cX6_approve 211 = .ok (.getfield 50, 3) := by decide +kernel
theorem dX6_approve_214 : decode cX6_approve 214 = .ok (.iload_n 2, 1) := by decide +kernel
theorem dX6_approve_215 : decode cX6_approve 215 = .ok (.iaload, 1) := by decide +kernel
theorem dX6_approve_216 : decode cX6_approve 216 = .ok (.ireturn, 1) := by decide +kernel
theorem dX6_withdraw_0 : decode cX6_withdraw 0 = .ok (.aload_n 0, 1) := by decide +kernel
theorem dX6_withdraw_1 : decode cX6_withdraw 1 = .ok (.aload_n 0, 1) := by decide +kernel
theorem dX6_withdraw_2 : decode cX6_withdraw 2 = .ok (.iload_n 1, 1) := by decide +kernel
theorem dX6_withdraw_3 : decode cX6_withdraw 3 = .ok (.invokevirtual 157, 3) := by decide +kernel
theorem dX6_withdraw_6 : decode cX6_withdraw 6 = .ok (.ifCond .ne 7, 3) := by decide +kernel
theorem dX6_withdraw_9 : decode cX6_withdraw 9 = .ok (.iconst 1, 1) := by decide +kernel
theorem dX6_withdraw_10 : decode cX6_withdraw 10 = .ok (.goto 17, 3) := by decide +kernel
theorem dX6_withdraw_13 : decode cX6_withdraw 13 = .ok (.aload_n 0, 1) := by decide +kernel
theorem dX6_withdraw_14 : decode cX6_withdraw 14 = .ok (.getfield 50, 3) := by decide +kernel
theorem dX6_withdraw_17 : decode cX6_withdraw 17 = .ok (.iload_n 1, 1) := by decide +kernel
theorem dX6_withdraw_18 : decode cX6_withdraw 18 = .ok (.iaload, 1) := by decide +kernel
theorem dX6_withdraw_19 : decode cX6_withdraw 19 = .ok (.ifCond .eq 7, 3) := by decide +kernel
theorem dX6_withdraw_22 : decode cX6_withdraw 22 = .ok (.iconst 2, 1) := by decide +kernel
theorem dX6_withdraw_23 : decode cX6_withdraw 23 = .ok (.goto 4, 3) := by decide +kernel
theorem dX6_withdraw_26 : decode cX6_withdraw 26 = .ok (.iconst 0, 1) := by decide +kernel
theorem dX6_withdraw_27 : decode cX6_withdraw 27 = .ok (.putfield 74, 3) := by decide +kernel
theorem dX6_withdraw_30 : decode cX6_withdraw 30 = .ok (.aload_n 0, 1) := by decide +kernel
theorem dX6_withdraw_31 : decode cX6_withdraw 31 = .ok (.getfield 74, 3) := by decide +kernel
theorem dX6_withdraw_34 : decode cX6_withdraw 34 = .ok (.ifCond .ne 10, 3) := by decide +kernel
theorem dX6_withdraw_37 : decode cX6_withdraw 37 = .ok (.aload_n 0, 1) := by decide +kernel
theorem dX6_withdraw_38 : decode cX6_withdraw 38 = .ok (.getfield 50, 3) := by decide +kernel
theorem dX6_withdraw_41 : decode cX6_withdraw 41 = .ok (.iload_n 1, 1) := by decide +kernel
theorem dX6_withdraw_42 : decode cX6_withdraw 42 = .ok (.iconst 3, 1) := by decide +kernel
theorem dX6_withdraw_43 : decode cX6_withdraw 43 = .ok (.iastore, 1) := by decide +kernel
theorem dX6_withdraw_44 : decode cX6_withdraw 44 = .ok (.return_, 1) := by decide +kernel
theorem dX6_exclude_0 : decode cX6_exclude 0 = .ok (.aload_n 0, 1) := by decide +kernel
theorem dX6_exclude_1 : decode cX6_exclude 1 = .ok (.iload_n 1, 1) := by decide +kernel
theorem dX6_exclude_2 : decode cX6_exclude 2 = .ok (.invokestatic 154, 3) := by decide +kernel
theorem dX6_exclude_5 : decode cX6_exclude 5 = .ok (.ifCond .eq 10, 3) := by decide +kernel
theorem dX6_exclude_8 : decode cX6_exclude 8 = .ok (.iload_n 2, 1) := by decide +kernel
theorem dX6_exclude_9 : decode cX6_exclude 9 = .ok (.invokestatic 154, 3) := by decide +kernel
theorem dX6_exclude_12 : decode cX6_exclude 12 = .ok (.ifCond .ne 7, 3) := by decide +kernel
theorem dX6_exclude_15 : decode cX6_exclude 15 = .ok (.iconst 1, 1) := by decide +kernel
theorem dX6_exclude_16 : decode cX6_exclude 16 = .ok (.goto 13, 3) := by decide +kernel
theorem dX6_exclude_19 : decode cX6_exclude 19 = .ok (.iload_n 1, 1) := by decide +kernel
theorem dX6_exclude_20 : decode cX6_exclude 20 = .ok (.iload_n 2, 1) := by decide +kernel
theorem dX6_exclude_21 : decode cX6_exclude 21 = .ok (.if_icmp .ne 7, 3) := by decide +kernel
theorem dX6_exclude_24 : decode cX6_exclude 24 = .ok (.iconst 2, 1) := by decide +kernel
theorem dX6_exclude_25 : decode cX6_exclude 25 = .ok (.goto 4, 3) := by decide +kernel
theorem dX6_exclude_28 : decode cX6_exclude 28 = .ok (.iconst 0, 1) := by decide +kernel
theorem dX6_exclude_29 : decode cX6_exclude 29 = .ok (.putfield 74, 3) := by decide +kernel
theorem dX6_exclude_32 : decode cX6_exclude 32 = .ok (.aload_n 0, 1) := by decide +kernel
theorem dX6_exclude_33 : decode cX6_exclude 33 = .ok (.getfield 74, 3) := by decide +kernel
theorem dX6_exclude_36 : decode cX6_exclude 36 = .ok (.ifCond .le 5, 3) := by decide +kernel
theorem dX6_exclude_39 : decode cX6_exclude 39 = .ok (.iconst 0, 1) := by decide +kernel
theorem dX6_exclude_40 : decode cX6_exclude 40 = .ok (.ireturn, 1) := by decide +kernel
theorem dX6_exclude_41 : decode cX6_exclude 41 = .ok (.aload_n 0, 1) := by decide +kernel
theorem dX6_exclude_42 : decode cX6_exclude 42 = .ok (.getfield 62, 3) := by decide +kernel
theorem dX6_exclude_45 : decode cX6_exclude 45 = .ok (.iload_n 1, 1) := by decide +kernel
theorem dX6_exclude_46 : decode cX6_exclude 46 = .ok (.iaload, 1) := by decide +kernel
theorem dX6_exclude_47 : decode cX6_exclude 47 = .ok (.iload_n 2, 1) := by decide +kernel
theorem dX6_exclude_48 : decode cX6_exclude 48 = .ok (.ishr, 1) := by decide +kernel
theorem dX6_exclude_49 : decode cX6_exclude 49 = .ok (.iconst 1, 1) := by decide +kernel
theorem dX6_exclude_50 : decode cX6_exclude 50 = .ok (.iand, 1) := by decide +kernel
theorem dX6_exclude_51 : decode cX6_exclude 51 = .ok (.iconst 1, 1) := by decide +kernel
theorem dX6_exclude_52 : decode cX6_exclude 52 = .ok (.if_icmp .ne 7, 3) := by decide +kernel
theorem dX6_exclude_55 : decode cX6_exclude 55 = .ok (.iconst 1, 1) := by decide +kernel
theorem dX6_exclude_56 : decode cX6_exclude 56 = .ok (.goto 4, 3) := by decide +kernel
theorem dX6_exclude_59 : decode cX6_exclude 59 = .ok (.iconst 0, 1) := by decide +kernel
theorem dX6_exclude_60 : decode cX6_exclude 60 = .ok (.istore 4, 2) := by decide +kernel
theorem dX6_exclude_62 : decode cX6_exclude 62 = .ok (.iload 4, 2) := by decide +kernel
theorem dX6_exclude_64 : decode cX6_exclude 64 = .ok (.iload_n 3, 1) := by decide +kernel
theorem dX6_exclude_65 : decode cX6_exclude 65 = .ok (.if_icmp .eq 27, 3) := by decide +kernel
theorem dX6_exclude_68 : decode cX6_exclude 68 = .ok (.aload_n 0, 1) := by decide +kernel
theorem dX6_exclude_69 : decode cX6_exclude 69 = .ok (.getfield 62, 3) := by decide +kernel
theorem dX6_exclude_72 : decode cX6_exclude 72 = .ok (.iload_n 1, 1) := by decide +kernel
theorem dX6_exclude_73 : decode cX6_exclude 73 = .ok (.dup2, 1) := by decide +kernel
theorem dX6_exclude_74 : decode cX6_exclude 74 = .ok (.iaload, 1) := by decide +kernel
theorem dX6_exclude_75 : decode cX6_exclude 75 = .ok (.iconst 1, 1) := by decide +kernel
theorem dX6_exclude_76 : decode cX6_exclude 76 = .ok (.iload_n 2, 1) := by decide +kernel
theorem dX6_exclude_77 : decode cX6_exclude 77 = .ok (.ishl, 1) := by decide +kernel
theorem dX6_exclude_78 : decode cX6_exclude 78 = .ok (.ixor, 1) := by decide +kernel
theorem dX6_exclude_79 : decode cX6_exclude 79 = .ok (.iastore, 1) := by decide +kernel
theorem dX6_exclude_80 : decode cX6_exclude 80 = .ok (.aload_n 0, 1) := by decide +kernel
theorem dX6_exclude_81 : decode cX6_exclude 81 = .ok (.getfield 62, 3) := by decide +kernel
theorem dX6_exclude_84 : decode cX6_exclude 84 = .ok (.iload_n 2, 1) := by decide +kernel
theorem dX6_exclude_85 : decode cX6_exclude 85 = .ok (.dup2, 1) := by decide +kernel
theorem dX6_exclude_86 : decode cX6_exclude 86 = .ok (.iaload, 1) := by decide +kernel
theorem dX6_exclude_87 : decode cX6_exclude 87 = .ok (.iconst 1, 1) := by decide +kernel
theorem dX6_exclude_88 : decode cX6_exclude 88 = .ok (.iload_n 1, 1) := by decide +kernel
theorem dX6_exclude_89 : decode cX6_exclude 89 = .ok (.ishl, 1) := by decide +kernel
theorem dX6_exclude_90 : decode cX6_exclude 90 = .ok (.ixor, 1) := by decide +kernel
theorem dX6_exclude_91 : decode cX6_exclude 91 = .ok (.iastore, 1) := by decide +kernel
theorem dX6_exclude_92 : decode cX6_exclude 92 = .ok (.iload 4, 2) := by decide +kernel
theorem dX6_exclude_94 : decode cX6_exclude 94 = .ok (.ireturn, 1) := by decide +kernel
theorem dX6_changes_0 : decode cX6_changes 0 = .ok (.aload_n 0, 1) := by decide +kernel
theorem dX6_changes_1 : decode cX6_changes 1 = .ok (.iconst 0, 1) := by decide +kernel
theorem dX6_changes_2 : decode cX6_changes 2 = .ok (.putfield 74, 3) := by decide +kernel
theorem dX6_changes_5 : decode cX6_changes 5 = .ok (.aload_n 0, 1) := by decide +kernel
theorem dX6_changes_6 : decode cX6_changes 6 = .ok (.getfield 84, 3) := by decide +kernel
theorem dX6_changes_9 : decode cX6_changes 9 = .ok (.ireturn, 1) := by decide +kernel
theorem dX6_state_0 : decode cX6_state 0 = .ok (.aload_n 0, 1) := by decide +kernel
theorem dX6_state_1 : decode cX6_state 1 = .ok (.iconst 0, 1) := by decide +kernel
theorem dX6_state_2 : decode cX6_state 2 = .ok (.putfield 74, 3) := by decide +kernel
theorem dX6_state_5 : decode cX6_state 5 = .ok (.aload_n 0, 1) := by decide +kernel
theorem dX6_state_6 : decode cX6_state 6 = .ok (.iload_n 1, 1) := by decide +kernel
theorem dX6_state_7 : decode cX6_state 7 = .ok (.invokevirtual 157, 3) := by decide +kernel
theorem dX6_state_10 : decode cX6_state 10 = .ok (.ifCond .eq 12, 3) := by decide +kernel
theorem dX6_state_13 : decode cX6_state 13 = .ok (.aload_n 0, 1) := by decide +kernel
theorem dX6_state_14 : decode cX6_state 14 = .ok (.getfield 50, 3) := by decide +kernel
theorem dX6_state_17 : decode cX6_state 17 = .ok (.iload_n 1, 1) := by decide +kernel
theorem dX6_state_18 : decode cX6_state 18 = .ok (.iaload, 1) := by decide +kernel
theorem dX6_state_19 : decode cX6_state 19 = .ok (.goto 8, 3) := by decide +kernel
theorem dX6_state_22 : decode cX6_state 22 = .ok (.aload_n 0, 1) := by decide +kernel
theorem dX6_state_23 : decode cX6_state 23 = .ok (.iconst 1, 1) := by decide +kernel
theorem dX6_state_24 : decode cX6_state 24 = .ok (.invokevirtual 112, 3) := by decide +kernel
theorem dX6_state_27 : decode cX6_state 27 = .ok (.ireturn, 1) := by decide +kernel
theorem dX6_rank_0 : decode cX6_rank 0 = .ok (.aload_n 0, 1) := by decide +kernel
theorem dX6_rank_1 : decode cX6_rank 1 = .ok (.iconst 0, 1) := by decide +kernel
theorem dX6_rank_2 : decode cX6_rank 2 = .ok (.putfield 74, 3) := by decide +kernel
theorem dX6_rank_5 : decode cX6_rank 5 = .ok (.aload_n 0, 1) := by decide +kernel
theorem dX6_rank_6 : decode cX6_rank 6 = .ok (.iload_n 1, 1) := by decide +kernel
theorem dX6_rank_7 : decode cX6_rank 7 = .ok (.invokevirtual 157, 3) := by decide +kernel
theorem dX6_rank_10 : decode cX6_rank 10 = .ok (.ifCond .eq 12, 3) := by decide +kernel
theorem dX6_rank_13 : decode cX6_rank 13 = .ok (.aload_n 0, 1) := by decide +kernel
theorem dX6_rank_14 : decode cX6_rank 14 = .ok (.getfield 53, 3) := by decide +kernel
theorem dX6_rank_17 : decode cX6_rank 17 = .ok (.iload_n 1, 1) := by decide +kernel
theorem dX6_rank_18 : decode cX6_rank 18 = .ok (.iaload, 1) := by decide +kernel
theorem dX6_rank_19 : decode cX6_rank 19 = .ok (.goto 8, 3) := by decide +kernel
theorem dX6_rank_22 : decode cX6_rank 22 = .ok (.aload_n 0, 1) := by decide +kernel
theorem dX6_rank_23 : decode cX6_rank 23 = .ok (.iconst 1, 1) := by decide +kernel
theorem dX6_rank_24 : decode cX6_rank 24 = .ok (.invokevirtual 112, 3) := by decide +kernel
theorem dX6_rank_27 : decode cX6_rank 27 = .ok (.ireturn, 1) := by decide +kernel
theorem dX6_approvals_0 : decode cX6_approvals 0 = .ok (.aload_n 0, 1) := by decide +kernel
theorem dX6_approvals_1 : decode cX6_approvals 1 = .ok (.iconst 0, 1) := by decide +kernel
theorem dX6_approvals_2 : decode cX6_approvals 2 = .ok (.putfield 74, 3) := by decide +kernel
theorem dX6_approvals_5 : decode cX6_approvals 5 = .ok (.aload_n 0, 1) := by decide +kernel
theorem dX6_approvals_6 : decode cX6_approvals 6 = .ok (.iload_n 1, 1) := by decide +kernel
theorem dX6_approvals_7 : decode cX6_approvals 7 = .ok (.invokevirtual 157, 3) := by decide +kernel
theorem dX6_approvals_10 : decode cX6_approvals 10 = .ok (.ifCond .eq 11, 3) := by decide +kernel
theorem dX6_approvals_13 : decode cX6_approvals 13 = .ok (.aload_n 0, 1) := by decide +kernel
theorem dX6_approvals_14 : decode cX6_approvals 14 = .ok (.iload_n 1, 1) := by decide +kernel
theorem dX6_approvals_15 : decode cX6_approvals 15 = .ok (.invokevirtual 115, 3) := by decide +kernel
theorem dX6_approvals_18 : decode cX6_approvals 18 = .ok (.goto 8, 3) := by decide +kernel
theorem dX6_approvals_21 : decode cX6_approvals 21 = .ok (.aload_n 0, 1) := by decide +kernel
theorem dX6_approvals_22 : decode cX6_approvals 22 = .ok (.iconst 1, 1) := by decide +kernel
theorem dX6_approvals_23 : decode cX6_approvals 23 = .ok (.invokevirtual 112, 3) := by decide +kernel
theorem dX6_approvals_26 : decode cX6_approvals 26 = .ok (.ireturn, 1) := by decide +kernel
theorem dX6_told_0 : decode cX6_told 0 = .ok (.aload_n 0, 1) := by decide +kernel
theorem dX6_told_1 : decode cX6_told 1 = .ok (.iconst 0, 1) := by decide +kernel
theorem dX6_told_2 : decode cX6_told 2 = .ok (.putfield 74, 3) := by decide +kernel
theorem dX6_told_5 : decode cX6_told 5 = .ok (.aload_n 0, 1) := by decide +kernel
theorem dX6_told_6 : decode cX6_told 6 = .ok (.iload_n 1, 1) := by decide +kernel
theorem dX6_told_7 : decode cX6_told 7 = .ok (.invokevirtual 151, 3) := by decide +kernel
theorem dX6_told_10 : decode cX6_told 10 = .ok (.ifCond .eq 10, 3) := by decide +kernel
theorem dX6_told_13 : decode cX6_told 13 = .ok (.iload_n 2, 1) := by decide +kernel
theorem dX6_told_14 : decode cX6_told 14 = .ok (.invokestatic 154, 3) := by decide +kernel
theorem dX6_told_17 : decode cX6_told 17 = .ok (.ifCond .ne 9, 3) := by decide +kernel
theorem dX6_told_20 : decode cX6_told 20 = .ok (.aload_n 0, 1) := by decide +kernel
theorem dX6_told_21 : decode cX6_told 21 = .ok (.iconst 1, 1) := by decide +kernel
theorem dX6_told_22 : decode cX6_told 22 = .ok (.invokevirtual 112, 3) := by decide +kernel
theorem dX6_told_25 : decode cX6_told 25 = .ok (.ireturn, 1) := by decide +kernel
theorem dX6_told_26 : decode cX6_told 26 = .ok (.aload_n 0, 1) := by decide +kernel
theorem dX6_told_27 : decode cX6_told 27 = .ok (.iload_n 1, 1) := by decide +kernel
theorem dX6_told_28 : decode cX6_told 28 = .ok (.iload_n 2, 1) := by decide +kernel
theorem dX6_told_29 : decode cX6_told 29 = .ok (.invokevirtual 91, 3) := by decide +kernel
theorem dX6_told_32 : decode cX6_told 32 = .ok (.istore_n 3, 1) := by decide +kernel
theorem dX6_told_33 : decode cX6_told 33 = .ok (.iload_n 3, 1) := by decide +kernel
theorem dX6_told_34 : decode cX6_told 34 = .ok (.iconst (-1), 1) := by decide +kernel
theorem dX6_told_35 : decode cX6_told 35 = .ok (.if_icmp .eq 14, 3) := by decide +kernel
theorem dX6_told_38 : decode cX6_told 38 = .ok (.aload_n 0, 1) := by decide +kernel
theorem dX6_told_39 : decode cX6_told 39 = .ok (.getfield 47, 3) := by decide +kernel
theorem dX6_told_42 : decode cX6_told 42 = .ok (.iload_n 3, 1) := by decide +kernel
theorem dX6_told_43 : decode cX6_told 43 = .ok (.iaload, 1) := by decide +kernel
theorem dX6_told_44 : decode cX6_told 44 = .ok (.bipush 101, 2) := by decide +kernel
theorem dX6_told_46 : decode cX6_told 46 = .ok (.if_icmp .ne 7, 3) := by decide +kernel
theorem dX6_told_49 : decode cX6_told 49 = .ok (.iconst (-1), 1) := by decide +kernel
theorem dX6_told_50 : decode cX6_told 50 = .ok (.goto 9, 3) := by decide +kernel
theorem dX6_told_53 : decode cX6_told 53 = .ok (.aload_n 0, 1) := by decide +kernel
theorem dX6_told_54 : decode cX6_told 54 = .ok (.getfield 47, 3) := by decide +kernel
theorem dX6_told_57 : decode cX6_told 57 = .ok (.iload_n 3, 1) := by decide +kernel
theorem dX6_told_58 : decode cX6_told 58 = .ok (.iaload, 1) := by decide +kernel
theorem dX6_told_59 : decode cX6_told 59 = .ok (.ireturn, 1) := by decide +kernel
theorem dX6_taken_0 : decode cX6_taken 0 = .ok (.aload_n 0, 1) := by decide +kernel
theorem dX6_taken_1 : decode cX6_taken 1 = .ok (.iconst 0, 1) := by decide +kernel
theorem dX6_taken_2 : decode cX6_taken 2 = .ok (.putfield 74, 3) := by decide +kernel
theorem dX6_taken_5 : decode cX6_taken 5 = .ok (.aload_n 0, 1) := by decide +kernel
theorem dX6_taken_6 : decode cX6_taken 6 = .ok (.iload_n 1, 1) := by decide +kernel
theorem dX6_taken_7 : decode cX6_taken 7 = .ok (.invokevirtual 145, 3) := by decide +kernel
theorem dX6_taken_10 : decode cX6_taken 10 = .ok (.ifCond .eq 25, 3) := by decide +kernel
theorem dX6_taken_13 : decode cX6_taken 13 = .ok (.iload_n 2, 1) := by decide +kernel
theorem dX6_taken_14 : decode cX6_taken 14 = .ok (.iconst 0, 1) := by decide +kernel
theorem dX6_taken_15 : decode cX6_taken 15 = .ok (.aload_n 0, 1) := by decide +kernel
theorem dX6_taken_16 : decode cX6_taken 16 = .ok (.iload_n 1, 1) := by decide +kernel
theorem dX6_taken_17 : decode cX6_taken 17 = .ok (.invokevirtual 95, 3) := by decide +kernel
theorem dX6_taken_20 : decode cX6_taken 20 = .ok (.iconst 1, 1) := by decide +kernel
theorem dX6_taken_21 : decode cX6_taken 21 = .ok (.isub, 1) := by decide +kernel
theorem dX6_taken_22 : decode cX6_taken 22 = .ok (.invokestatic 77, 3) := by decide +kernel
theorem dX6_taken_25 : decode cX6_taken 25 = .ok (.ifCond .eq 10, 3) := by decide +kernel
theorem dX6_taken_28 : decode cX6_taken 28 = .ok (.iload_n 3, 1) := by decide +kernel
theorem dX6_taken_29 : decode cX6_taken 29 = .ok (.invokestatic 154, 3) := by decide +kernel
theorem dX6_taken_32 : decode cX6_taken 32 = .ok (.ifCond .ne 9, 3) := by decide +kernel
theorem dX6_taken_35 : decode cX6_taken 35 = .ok (.aload_n 0, 1) := by decide +kernel
theorem dX6_taken_36 : decode cX6_taken 36 = .ok (.iconst 1, 1) := by decide +kernel
theorem dX6_taken_37 : decode cX6_taken 37 = .ok (.invokevirtual 112, 3) := by decide +kernel
theorem dX6_taken_40 : decode cX6_taken 40 = .ok (.ireturn, 1) := by decide +kernel
theorem dX6_taken_41 : decode cX6_taken 41 = .ok (.aload_n 0, 1) := by decide +kernel
theorem dX6_taken_42 : decode cX6_taken 42 = .ok (.getfield 32, 3) := by decide +kernel
theorem dX6_taken_45 : decode cX6_taken 45 = .ok (.aload_n 0, 1) := by decide +kernel
theorem dX6_taken_46 : decode cX6_taken 46 = .ok (.iload_n 1, 1) := by decide +kernel
theorem dX6_taken_47 : decode cX6_taken 47 = .ok (.aload_n 0, 1) := by decide +kernel
theorem dX6_taken_48 : decode cX6_taken 48 = .ok (.iload_n 1, 1) := by decide +kernel
theorem dX6_taken_49 : decode cX6_taken 49 = .ok (.iload_n 2, 1) := by decide +kernel
theorem dX6_taken_50 : decode cX6_taken 50 = .ok (.invokevirtual 99, 3) := by decide +kernel
theorem dX6_taken_53 : decode cX6_taken 53 = .ok (.invokevirtual 102, 3) := by decide +kernel
theorem dX6_taken_56 : decode cX6_taken 56 = .ok (.iload_n 3, 1) := by decide +kernel
theorem dX6_taken_57 : decode cX6_taken 57 = .ok (.iadd, 1) := by decide +kernel
theorem dX6_taken_58 : decode cX6_taken 58 = .ok (.iaload, 1) := by decide +kernel
theorem dX6_taken_59 : decode cX6_taken 59 = .ok (.ireturn, 1) := by decide +kernel
theorem dX6_isAsked_0 : decode cX6_isAsked 0 = .ok (.aload_n 0, 1) := by decide +kernel
theorem dX6_isAsked_1 : decode cX6_isAsked 1 = .ok (.aload_n 0, 1) := by decide +kernel
theorem dX6_isAsked_2 : decode cX6_isAsked 2 = .ok (.iload_n 1, 1) := by decide +kernel
theorem dX6_isAsked_3 : decode cX6_isAsked 3 = .ok (.invokevirtual 145, 3) := by decide +kernel
theorem dX6_isAsked_6 : decode cX6_isAsked 6 = .ok (.ifCond .eq 14, 3) := by decide +kernel
theorem dX6_isAsked_9 : decode cX6_isAsked 9 = .ok (.iload_n 2, 1) := by decide +kernel
theorem dX6_isAsked_10 : decode cX6_isAsked 10 = .ok (.invokestatic 154, 3) := by decide +kernel
theorem dX6_isAsked_13 : decode cX6_isAsked 13 = .ok (.ifCond .eq 7, 3) := by decide +kernel
theorem dX6_isAsked_16 : decode cX6_isAsked 16 = .ok (.iconst 0, 1) := by decide +kernel
theorem dX6_isAsked_17 : decode cX6_isAsked 17 = .ok (.goto 4, 3) := by decide +kernel
theorem dX6_isAsked_20 : decode cX6_isAsked 20 = .ok (.iconst 1, 1) := by decide +kernel
theorem dX6_isAsked_21 : decode cX6_isAsked 21 = .ok (.putfield 74, 3) := by decide +kernel
theorem dX6_isAsked_24 : decode cX6_isAsked 24 = .ok (.aload_n 0, 1) := by decide +kernel
theorem dX6_isAsked_25 : decode cX6_isAsked 25 = .ok (.getfield 74, 3) := by decide +kernel
theorem dX6_isAsked_28 : decode cX6_isAsked 28 = .ok (.ifCond .ne 9, 3) := by decide +kernel
theorem dX6_isAsked_31 : decode cX6_isAsked 31 = .ok (.aload_n 0, 1) := by decide +kernel
theorem dX6_isAsked_32 : decode cX6_isAsked 32 = .ok (.iload_n 1, 1) := by decide +kernel
theorem dX6_isAsked_33 : decode cX6_isAsked 33 = .ok (.iload_n 3, 1) := by decide +kernel
theorem dX6_isAsked_34 : decode cX6_isAsked 34 = .ok (.invokevirtual 163, 3) := by decide +kernel
theorem dX6_isAsked_37 : decode cX6_isAsked 37 = .ok (.aload_n 0, 1) := by decide +kernel
theorem dX6_isAsked_38 : decode cX6_isAsked 38 = .ok (.getfield 74, 3) := by decide +kernel
theorem dX6_isAsked_41 : decode cX6_isAsked 41 = .ok (.ifCond .ne 7, 3) := by decide +kernel
theorem dX6_isAsked_44 : decode cX6_isAsked 44 = .ok (.iconst 1, 1) := by decide +kernel
theorem dX6_isAsked_45 : decode cX6_isAsked 45 = .ok (.goto 4, 3) := by decide +kernel
theorem dX6_isAsked_48 : decode cX6_isAsked 48 = .ok (.iconst 0, 1) := by decide +kernel
theorem dX6_isAsked_49 : decode cX6_isAsked 49 = .ok (.ireturn, 1) := by decide +kernel
theorem dX6_runs_0 : decode cX6_runs 0 = .ok (.aload_n 0, 1) := by decide +kernel
theorem dX6_runs_1 : decode cX6_runs 1 = .ok (.iload_n 1, 1) := by decide +kernel
theorem dX6_runs_2 : decode cX6_runs 2 = .ok (.iload_n 2, 1) := by decide +kernel
theorem dX6_runs_3 : decode cX6_runs 3 = .ok (.iconst 1, 1) := by decide +kernel
theorem dX6_runs_4 : decode cX6_runs 4 = .ok (.invokevirtual 167, 3) := by decide +kernel
theorem dX6_runs_7 : decode cX6_runs 7 = .ok (.ifCond .ne 5, 3) := by decide +kernel
theorem dX6_runs_10 : decode cX6_runs 10 = .ok (.iconst 0, 1) := by decide +kernel
theorem dX6_runs_11 : decode cX6_runs 11 = .ok (.ireturn, 1) := by decide +kernel
theorem dX6_runs_12 : decode cX6_runs 12 = .ok (.aload_n 0, 1) := by decide +kernel
theorem dX6_runs_13 : decode cX6_runs 13 = .ok (.iload_n 1, 1) := by decide +kernel
theorem dX6_runs_14 : decode cX6_runs 14 = .ok (.invokevirtual 118, 3) := by decide +kernel
theorem dX6_runs_17 : decode cX6_runs 17 = .ok (.ifCond .ne 11, 3) := by decide +kernel
theorem dX6_runs_20 : decode cX6_runs 20 = .ok (.aload_n 0, 1) := by decide +kernel
theorem dX6_runs_21 : decode cX6_runs 21 = .ok (.iload_n 2, 1) := by decide +kernel
theorem dX6_runs_22 : decode cX6_runs 22 = .ok (.invokevirtual 171, 3) := by decide +kernel
theorem dX6_runs_25 : decode cX6_runs 25 = .ok (.ifCond .eq 7, 3) := by decide +kernel
theorem dX6_runs_28 : decode cX6_runs 28 = .ok (.iconst (-1), 1) := by decide +kernel
theorem dX6_runs_29 : decode cX6_runs 29 = .ok (.goto 9, 3) := by decide +kernel
theorem dX6_runs_32 : decode cX6_runs 32 = .ok (.aload_n 0, 1) := by decide +kernel
theorem dX6_runs_33 : decode cX6_runs 33 = .ok (.getfield 65, 3) := by decide +kernel
theorem dX6_runs_36 : decode cX6_runs 36 = .ok (.iload_n 2, 1) := by decide +kernel
theorem dX6_runs_37 : decode cX6_runs 37 = .ok (.iaload, 1) := by decide +kernel
theorem dX6_runs_38 : decode cX6_runs 38 = .ok (.ireturn, 1) := by decide +kernel
theorem dX6_layerOf_0 : decode cX6_layerOf 0 = .ok (.aload_n 0, 1) := by decide +kernel
theorem dX6_layerOf_1 : decode cX6_layerOf 1 = .ok (.iload_n 1, 1) := by decide +kernel
theorem dX6_layerOf_2 : decode cX6_layerOf 2 = .ok (.iload_n 2, 1) := by decide +kernel
theorem dX6_layerOf_3 : decode cX6_layerOf 3 = .ok (.iconst 1, 1) := by decide +kernel
theorem dX6_layerOf_4 : decode cX6_layerOf 4 = .ok (.invokevirtual 167, 3) := by decide +kernel
theorem dX6_layerOf_7 : decode cX6_layerOf 7 = .ok (.ifCond .ne 5, 3) := by decide +kernel
theorem dX6_layerOf_10 : decode cX6_layerOf 10 = .ok (.iconst 0, 1) := by decide +kernel
theorem dX6_layerOf_11 : decode cX6_layerOf 11 = .ok (.ireturn, 1) := by decide +kernel
theorem dX6_layerOf_12 : decode cX6_layerOf 12 = .ok (.aload_n 0, 1) := by decide +kernel
theorem dX6_layerOf_13 : decode cX6_layerOf 13 = .ok (.iload_n 1, 1) := by decide +kernel
theorem dX6_layerOf_14 : decode cX6_layerOf 14 = .ok (.invokevirtual 118, 3) := by decide +kernel
theorem dX6_layerOf_17 : decode cX6_layerOf 17 = .ok (.ifCond .ne 11, 3) := by decide +kernel
theorem dX6_layerOf_20 : decode cX6_layerOf 20 = .ok (.aload_n 0, 1) := by decide +kernel
theorem dX6_layerOf_21 : decode cX6_layerOf 21 = .ok (.iload_n 2, 1) := by decide +kernel
theorem dX6_layerOf_22 : decode cX6_layerOf 22 = .ok (.invokevirtual 171, 3) := by decide +kernel
theorem dX6_layerOf_25 : decode cX6_layerOf 25 = .ok (.ifCond .eq 7, 3) := by decide +kernel
theorem dX6_layerOf_28 : decode cX6_layerOf 28 = .ok (.iconst (-1), 1) := by decide +kernel
theorem dX6_layerOf_29 : decode cX6_layerOf 29 = .ok (.goto 9, 3) := by decide +kernel
theorem dX6_layerOf_32 : decode cX6_layerOf 32 = .ok (.aload_n 0, 1) := by decide +kernel
theorem dX6_layerOf_33 : decode cX6_layerOf 33 = .ok (.getfield 68, 3) := by decide +kernel
theorem dX6_layerOf_36 : decode cX6_layerOf 36 = .ok (.iload_n 2, 1) := by decide +kernel
theorem dX6_layerOf_37 : decode cX6_layerOf 37 = .ok (.iaload, 1) := by decide +kernel
theorem dX6_layerOf_38 : decode cX6_layerOf 38 = .ok (.ireturn, 1) := by decide +kernel
theorem dX6_isDue_0 : decode cX6_isDue 0 = .ok (.aload_n 0, 1) := by decide +kernel
theorem dX6_isDue_1 : decode cX6_isDue 1 = .ok (.iload_n 1, 1) := by decide +kernel
theorem dX6_isDue_2 : decode cX6_isDue 2 = .ok (.iload_n 2, 1) := by decide +kernel
theorem dX6_isDue_3 : decode cX6_isDue 3 = .ok (.iconst 0, 1) := by decide +kernel
theorem dX6_isDue_4 : decode cX6_isDue 4 = .ok (.invokevirtual 167, 3) := by decide +kernel
theorem dX6_isDue_7 : decode cX6_isDue 7 = .ok (.ifCond .ne 5, 3) := by decide +kernel
theorem dX6_isDue_10 : decode cX6_isDue 10 = .ok (.iconst 0, 1) := by decide +kernel
theorem dX6_isDue_11 : decode cX6_isDue 11 = .ok (.ireturn, 1) := by decide +kernel
theorem dX6_isDue_12 : decode cX6_isDue 12 = .ok (.aload_n 0, 1) := by decide +kernel
theorem dX6_isDue_13 : decode cX6_isDue 13 = .ok (.iload_n 2, 1) := by decide +kernel
theorem dX6_isDue_14 : decode cX6_isDue 14 = .ok (.invokevirtual 171, 3) := by decide +kernel
theorem dX6_isDue_17 : decode cX6_isDue 17 = .ok (.ifCond .eq 7, 3) := by decide +kernel
theorem dX6_isDue_20 : decode cX6_isDue 20 = .ok (.iconst (-1), 1) := by decide +kernel
theorem dX6_isDue_21 : decode cX6_isDue 21 = .ok (.goto 9, 3) := by decide +kernel
theorem dX6_isDue_24 : decode cX6_isDue 24 = .ok (.aload_n 0, 1) := by decide +kernel
theorem dX6_isDue_25 : decode cX6_isDue 25 = .ok (.getfield 65, 3) := by decide +kernel
theorem dX6_isDue_28 : decode cX6_isDue 28 = .ok (.iload_n 2, 1) := by decide +kernel
theorem dX6_isDue_29 : decode cX6_isDue 29 = .ok (.iaload, 1) := by decide +kernel
theorem dX6_isDue_30 : decode cX6_isDue 30 = .ok (.ireturn, 1) := by decide +kernel
theorem dX6_due_0 : decode cX6_due 0 = .ok (.aload_n 0, 1) := by decide +kernel
theorem dX6_due_1 : decode cX6_due 1 = .ok (.iload_n 1, 1) := by decide +kernel
theorem dX6_due_2 : decode cX6_due 2 = .ok (.iload_n 2, 1) := by decide +kernel
theorem dX6_due_3 : decode cX6_due 3 = .ok (.invokevirtual 174, 3) := by decide +kernel
theorem dX6_due_6 : decode cX6_due 6 = .ok (.ireturn, 1) := by decide +kernel
theorem dX6_dueAnew_0 : decode cX6_dueAnew 0 = .ok (.aload_n 0, 1) := by decide +kernel
theorem dX6_dueAnew_1 : decode cX6_dueAnew 1 = .ok (.iload_n 1, 1) := by decide +kernel
theorem dX6_dueAnew_2 : decode cX6_dueAnew 2 = .ok (.iload_n 2, 1) := by decide +kernel
theorem dX6_dueAnew_3 : decode cX6_dueAnew 3 = .ok (.invokevirtual 174, 3) := by decide +kernel
theorem dX6_dueAnew_6 : decode cX6_dueAnew 6 = .ok (.ireturn, 1) := by decide +kernel
theorem dX6_behind_0 : decode cX6_behind 0 = .ok (.aload_n 0, 1) := by decide +kernel
theorem dX6_behind_1 : decode cX6_behind 1 = .ok (.iconst 0, 1) := by decide +kernel
theorem dX6_behind_2 : decode cX6_behind 2 = .ok (.putfield 74, 3) := by decide +kernel
theorem dX6_behind_5 : decode cX6_behind 5 = .ok (.aload_n 0, 1) := by decide +kernel
theorem dX6_behind_6 : decode cX6_behind 6 = .ok (.iload_n 1, 1) := by decide +kernel
theorem dX6_behind_7 : decode cX6_behind 7 = .ok (.invokevirtual 145, 3) := by decide +kernel
theorem dX6_behind_10 : decode cX6_behind 10 = .ok (.ifCond .ne 9, 3) := by decide +kernel
theorem dX6_behind_13 : decode cX6_behind 13 = .ok (.aload_n 0, 1) := by decide +kernel
theorem dX6_behind_14 : decode cX6_behind 14 = .ok (.iconst 1, 1) := by decide +kernel
theorem dX6_behind_15 : decode cX6_behind 15 = .ok (.invokevirtual 112, 3) := by decide +kernel
theorem dX6_behind_18 : decode cX6_behind 18 = .ok (.ireturn, 1) := by decide +kernel
theorem dX6_behind_19 : decode cX6_behind 19 = .ok (.iconst 0, 1) := by decide +kernel
theorem dX6_behind_20 : decode cX6_behind 20 = .ok (.istore_n 2, 1) := by decide +kernel
theorem dX6_behind_21 : decode cX6_behind 21 = .ok (.iconst 0, 1) := by decide +kernel
theorem dX6_behind_22 : decode cX6_behind 22 = .ok (.istore_n 3, 1) := by decide +kernel
theorem dX6_behind_23 : decode cX6_behind 23 = .ok (.iload_n 3, 1) := by decide +kernel
theorem dX6_behind_24 : decode cX6_behind 24 = .ok (.aload_n 0, 1) := by decide +kernel
theorem dX6_behind_25 : decode cX6_behind 25 = .ok (.iload_n 1, 1) := by decide +kernel
theorem dX6_behind_26 : decode cX6_behind 26 = .ok (.invokevirtual 95, 3) := by decide +kernel
theorem dX6_behind_29 : decode cX6_behind 29 = .ok (.if_icmp .ge 26, 3) := by decide +kernel
theorem dX6_behind_32 : decode cX6_behind 32 = .ok (.iload_n 2, 1) := by decide +kernel
theorem dX6_behind_33 : decode cX6_behind 33 = .ok (.aload_n 0, 1) := by decide +kernel
theorem dX6_behind_34 : decode cX6_behind 34 = .ok (.iload_n 1, 1) := by decide +kernel
theorem dX6_behind_35 : decode cX6_behind 35 = .ok (.iload_n 3, 1) := by decide +kernel
theorem dX6_behind_36 : decode cX6_behind 36 = .ok (.invokevirtual 127, 3) := by decide +kernel
theorem dX6_behind_39 : decode cX6_behind 39 = .ok (.ifCond .eq 7, 3) := by decide +kernel
theorem dX6_behind_42 : decode cX6_behind 42 = .ok (.iconst 1, 1) := by decide +kernel
theorem dX6_behind_43 : decode cX6_behind 43 = .ok (.goto 4, 3) := by decide +kernel
theorem dX6_behind_46 : decode cX6_behind 46 = .ok (.iconst 0, 1) := by decide +kernel
theorem dX6_behind_47 : decode cX6_behind 47 = .ok (.iadd, 1) := by decide +kernel
theorem dX6_behind_48 : decode cX6_behind 48 = .ok (.istore_n 2, 1) := by decide +kernel
theorem dX6_behind_49 : decode cX6_behind 49 = .ok (.iinc 3 1, 3) := by decide +kernel
theorem dX6_behind_52 : decode cX6_behind 52 = .ok (.goto (-29), 3) := by decide +kernel
theorem dX6_behind_55 : decode cX6_behind 55 = .ok (.iload_n 2, 1) := by decide +kernel
theorem dX6_behind_56 : decode cX6_behind 56 = .ok (.ireturn, 1) := by decide +kernel
theorem dX6_hidden_0 : decode cX6_hidden 0 = .ok (.aload_n 0, 1) := by decide +kernel
theorem dX6_hidden_1 : decode cX6_hidden 1 = .ok (.iload_n 1, 1) := by decide +kernel
theorem dX6_hidden_2 : decode cX6_hidden 2 = .ok (.iconst 0, 1) := by decide +kernel
theorem dX6_hidden_3 : decode cX6_hidden 3 = .ok (.iconst 0, 1) := by decide +kernel
theorem dX6_hidden_4 : decode cX6_hidden 4 = .ok (.invokevirtual 167, 3) := by decide +kernel
theorem dX6_hidden_7 : decode cX6_hidden 7 = .ok (.ifCond .ne 5, 3) := by decide +kernel
theorem dX6_hidden_10 : decode cX6_hidden 10 = .ok (.iconst 0, 1) := by decide +kernel
theorem dX6_hidden_11 : decode cX6_hidden 11 = .ok (.ireturn, 1) := by decide +kernel
theorem dX6_hidden_12 : decode cX6_hidden 12 = .ok (.iconst 0, 1) := by decide +kernel
theorem dX6_hidden_13 : decode cX6_hidden 13 = .ok (.istore_n 2, 1) := by decide +kernel
theorem dX6_hidden_14 : decode cX6_hidden 14 = .ok (.iconst 0, 1) := by decide +kernel
theorem dX6_hidden_15 : decode cX6_hidden 15 = .ok (.istore_n 3, 1) := by decide +kernel
theorem dX6_hidden_16 : decode cX6_hidden 16 = .ok (.iload_n 3, 1) := by decide +kernel
theorem dX6_hidden_17 : decode cX6_hidden 17 = .ok (.bipush 6, 2) := by decide +kernel
theorem dX6_hidden_19 : decode cX6_hidden 19 = .ok (.if_icmp .ge 27, 3) := by decide +kernel
theorem dX6_hidden_22 : decode cX6_hidden 22 = .ok (.iload_n 2, 1) := by decide +kernel
theorem dX6_hidden_23 : decode cX6_hidden 23 = .ok (.aload_n 0, 1) := by decide +kernel
theorem dX6_hidden_24 : decode cX6_hidden 24 = .ok (.iload_n 3, 1) := by decide +kernel
theorem dX6_hidden_25 : decode cX6_hidden 25 = .ok (.invokevirtual 171, 3) := by decide +kernel
theorem dX6_hidden_28 : decode cX6_hidden 28 = .ok (.ifCond .eq 9, 3) := by decide +kernel
theorem dX6_hidden_31 : decode cX6_hidden 31 = .ok (.iconst 1, 1) := by decide +kernel
theorem dX6_hidden_32 : decode cX6_hidden 32 = .ok (.iload_n 3, 1) := by decide +kernel
theorem dX6_hidden_33 : decode cX6_hidden 33 = .ok (.ishl, 1) := by decide +kernel
theorem dX6_hidden_34 : decode cX6_hidden 34 = .ok (.goto 4, 3) := by decide +kernel
theorem dX6_hidden_37 : decode cX6_hidden 37 = .ok (.iconst 0, 1) := by decide +kernel
theorem dX6_hidden_38 : decode cX6_hidden 38 = .ok (.ior, 1) := by decide +kernel
theorem dX6_hidden_39 : decode cX6_hidden 39 = .ok (.istore_n 2, 1) := by decide +kernel
theorem dX6_hidden_40 : decode cX6_hidden 40 = .ok (.iinc 3 1, 3) := by decide +kernel
theorem dX6_hidden_43 : decode cX6_hidden 43 = .ok (.goto (-27), 3) := by decide +kernel
theorem dX6_hidden_46 : decode cX6_hidden 46 = .ok (.iload_n 2, 1) := by decide +kernel
theorem dX6_hidden_47 : decode cX6_hidden 47 = .ok (.ireturn, 1) := by decide +kernel
theorem dX6_spread_0 : decode cX6_spread 0 = .ok (.aload_n 0, 1) := by decide +kernel
theorem dX6_spread_1 : decode cX6_spread 1 = .ok (.iconst 0, 1) := by decide +kernel
theorem dX6_spread_2 : decode cX6_spread 2 = .ok (.putfield 74, 3) := by decide +kernel
theorem dX6_spread_5 : decode cX6_spread 5 = .ok (.aload_n 0, 1) := by decide +kernel
theorem dX6_spread_6 : decode cX6_spread 6 = .ok (.iload_n 1, 1) := by decide +kernel
theorem dX6_spread_7 : decode cX6_spread 7 = .ok (.invokevirtual 157, 3) := by decide +kernel
theorem dX6_spread_10 : decode cX6_spread 10 = .ok (.ifCond .ne 9, 3) := by decide +kernel
theorem dX6_spread_13 : decode cX6_spread 13 = .ok (.aload_n 0, 1) := by decide +kernel
theorem dX6_spread_14 : decode cX6_spread 14 = .ok (.iconst 1, 1) := by decide +kernel
theorem dX6_spread_15 : decode cX6_spread 15 = .ok (.invokevirtual 112, 3) := by decide +kernel
theorem dX6_spread_18 : decode cX6_spread 18 = .ok (.ireturn, 1) := by decide +kernel
theorem dX6_spread_19 : decode cX6_spread 19 = .ok (.iconst 0, 1) := by decide +kernel
theorem dX6_spread_20 : decode cX6_spread 20 = .ok (.istore_n 2, 1) := by decide +kernel
theorem dX6_spread_21 : decode cX6_spread 21 = .ok (.iconst 0, 1) := by decide +kernel
theorem dX6_spread_22 : decode cX6_spread 22 = .ok (.istore_n 3, 1) := by decide +kernel
theorem dX6_spread_23 : decode cX6_spread 23 = .ok (.iload_n 3, 1) := by decide +kernel
theorem dX6_spread_24 : decode cX6_spread 24 = .ok (.aload_n 0, 1) := by decide +kernel
theorem dX6_spread_25 : decode cX6_spread 25 = .ok (.getfield 81, 3) := by decide +kernel
theorem dX6_spread_28 : decode cX6_spread 28 = .ok (.if_icmp .ge 75, 3) := by decide +kernel
theorem dX6_spread_31 : decode cX6_spread 31 = .ok (.iconst 0, 1) := by decide +kernel
theorem dX6_spread_32 : decode cX6_spread 32 = .ok (.istore 4, 2) := by decide +kernel
theorem dX6_spread_34 : decode cX6_spread 34 = .ok (.aload_n 0, 1) := by decide +kernel
theorem dX6_spread_35 : decode cX6_spread 35 = .ok (.iload_n 3, 1) := by decide +kernel
theorem dX6_spread_36 : decode cX6_spread 36 = .ok (.iconst 0, 1) := by decide +kernel
theorem dX6_spread_37 : decode cX6_spread 37 = .ok (.invokevirtual 102, 3) := by decide +kernel
theorem dX6_spread_40 : decode cX6_spread 40 = .ok (.istore 5, 2) := by decide +kernel
theorem dX6_spread_42 : decode cX6_spread 42 = .ok (.iload 5, 2) := by decide +kernel
theorem dX6_spread_44 : decode cX6_spread 44 = .ok (.aload_n 0, 1) := by decide +kernel
theorem dX6_spread_45 : decode cX6_spread 45 = .ok (.iload_n 3, 1) := by decide +kernel
theorem dX6_spread_46 : decode cX6_spread 46 = .ok (.iconst 1, 1) := by decide +kernel
theorem dX6_spread_47 : decode cX6_spread 47 = .ok (.iadd, 1) := by decide +kernel
theorem dX6_spread_48 : decode cX6_spread 48 = .ok (.iconst 0, 1) := by decide +kernel
theorem dX6_spread_49 : decode cX6_spread 49 = .ok (.invokevirtual 102, 3) := by decide +kernel
theorem dX6_spread_52 : decode cX6_spread 52 = .ok (.if_icmp .ge 32, 3) := by decide +kernel
theorem dX6_spread_55 : decode cX6_spread 55 = .ok (.iload 4, 2) := by decide +kernel
theorem dX6_spread_57 : decode cX6_spread 57 = .ok (.ifCond .ne 14, 3) := by decide +kernel
theorem dX6_spread_60 : decode cX6_spread 60 = .ok (.aload_n 0, 1) := by decide +kernel
theorem dX6_spread_61 : decode cX6_spread 61 = .ok (.getfield 32, 3) := by decide +kernel
theorem dX6_spread_64 : decode cX6_spread 64 = .ok (.iload 5, 2) := by decide +kernel
theorem dX6_spread_66 : decode cX6_spread 66 = .ok (.iaload, 1) := by decide +kernel
theorem dX6_spread_67 : decode cX6_spread 67 = .ok (.iload_n 1, 1) := by decide +kernel
theorem dX6_spread_68 : decode cX6_spread 68 = .ok (.if_icmp .ne 7, 3) := by decide +kernel
theorem dX6_spread_71 : decode cX6_spread 71 = .ok (.iconst 1, 1) := by decide +kernel
theorem dX6_spread_72 : decode cX6_spread 72 = .ok (.goto 4, 3) := by decide +kernel
theorem dX6_spread_75 : decode cX6_spread 75 = .ok (.iconst 0, 1) := by decide +kernel
theorem dX6_spread_76 : decode cX6_spread 76 = .ok (.istore 4, 2) := by decide +kernel
theorem dX6_spread_78 : decode cX6_spread 78 = .ok (.iinc 5 1, 3) := by decide +kernel
theorem dX6_spread_81 : decode cX6_spread 81 = .ok (.goto (-39), 3) := by decide +kernel
theorem dX6_spread_84 : decode cX6_spread 84 = .ok (.iload_n 2, 1) := by decide +kernel
theorem dX6_spread_85 : decode cX6_spread 85 = .ok (.iload 4, 2) := by decide +kernel
theorem dX6_spread_87 : decode cX6_spread 87 = .ok (.ifCond .eq 7, 3) := by decide +kernel
theorem dX6_spread_90 : decode cX6_spread 90 = .ok (.iconst 1, 1) := by decide +kernel
theorem dX6_spread_91 : decode cX6_spread 91 = .ok (.goto 4, 3) := by decide +kernel
theorem dX6_spread_94 : decode cX6_spread 94 = .ok (.iconst 0, 1) := by decide +kernel
theorem dX6_spread_95 : decode cX6_spread 95 = .ok (.iadd, 1) := by decide +kernel
theorem dX6_spread_96 : decode cX6_spread 96 = .ok (.istore_n 2, 1) := by decide +kernel
theorem dX6_spread_97 : decode cX6_spread 97 = .ok (.iinc 3 1, 3) := by decide +kernel
theorem dX6_spread_100 : decode cX6_spread 100 = .ok (.goto (-77), 3) := by decide +kernel
theorem dX6_spread_103 : decode cX6_spread 103 = .ok (.iload_n 2, 1) := by decide +kernel
theorem dX6_spread_104 : decode cX6_spread 104 = .ok (.ireturn, 1) := by decide +kernel
