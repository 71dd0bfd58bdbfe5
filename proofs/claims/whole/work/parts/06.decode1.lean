theorem dX0_init_0 : decode cX0_init 0 = .ok (.aload_n 0, 1) := by decide +kernel
theorem dX0_init_1 : decode cX0_init 1 = .ok (.invokespecial 3, 3) := by decide +kernel
theorem dX0_init_4 : decode cX0_init 4 = .ok (.aload_n 0, 1) := by decide +kernel
theorem dX0_init_5 : decode cX0_init 5 = .ok (.bipush 120, 2) := by decide +kernel
theorem dX0_init_7 : decode cX0_init 7 = .ok (.newarray .char, 2) := by decide +kernel
theorem dX0_init_9 : decode cX0_init 9 = .ok (.putfield 9, 3) := by decide +kernel
theorem dX0_init_12 : decode cX0_init 12 = .ok (.return_, 1) := by decide +kernel
theorem dX0_add_0 : decode cX0_add 0 = .ok (.aload_n 0, 1) := by decide +kernel
theorem dX0_add_1 : decode cX0_add 1 = .ok (.getfield 15, 3) := by decide +kernel
theorem dX0_add_4 : decode cX0_add 4 = .ok (.ifCond .lt 15, 3) := by decide +kernel
theorem dX0_add_7 : decode cX0_add 7 = .ok (.aload_n 0, 1) := by decide +kernel
theorem dX0_add_8 : decode cX0_add 8 = .ok (.getfield 15, 3) := by decide +kernel
theorem dX0_add_11 : decode cX0_add 11 = .ok (.aload_n 0, 1) := by decide +kernel
theorem dX0_add_12 : decode cX0_add 12 = .ok (.getfield 9, 3) := by decide +kernel
theorem dX0_add_15 : decode cX0_add 15 = .ok (.arraylength, 1) := by decide +kernel
theorem dX0_add_16 : decode cX0_add 16 = .ok (.if_icmp .lt 5, 3) := by decide +kernel
theorem dX0_add_19 : decode cX0_add 19 = .ok (.iconst 0, 1) := by decide +kernel
theorem dX0_add_20 : decode cX0_add 20 = .ok (.ireturn, 1) := by decide +kernel
theorem dX0_add_21 : decode cX0_add 21 = .ok (.aload_n 0, 1) := by decide +kernel
theorem dX0_add_22 : decode cX0_add 22 = .ok (.getfield 9, 3) := by decide +kernel
theorem dX0_add_25 : decode cX0_add 25 = .ok (.aload_n 0, 1) := by decide +kernel
theorem dX0_add_26 : decode cX0_add 26 = .ok (.getfield 15, 3) := by decide +kernel
theorem dX0_add_29 : decode cX0_add 29 = .ok (.iload_n 1, 1) := by decide +kernel
theorem dX0_add_30 : decode cX0_add 30 = .ok (.castore, 1) := by decide +kernel
theorem dX0_add_31 : decode cX0_add 31 = .ok (.aload_n 0, 1) := by decide +kernel
theorem dX0_add_32 : decode cX0_add 32 = .ok (.dup, 1) := by decide +kernel
theorem dX0_add_33 : decode cX0_add 33 = .ok (.getfield 15, 3) := by decide +kernel
theorem dX0_add_36 : decode cX0_add 36 = .ok (.iconst 1, 1) := by decide +kernel
theorem dX0_add_37 : decode cX0_add 37 = .ok (.iadd, 1) := by decide +kernel
theorem dX0_add_38 : decode cX0_add 38 = .ok (.putfield 15, 3) := by decide +kernel
theorem dX0_add_41 : decode cX0_add 41 = .ok (.iconst 1, 1) := by decide +kernel
theorem dX0_add_42 : decode cX0_add 42 = .ok (.ireturn, 1) := by decide +kernel
theorem dX0_size_0 : decode cX0_size 0 = .ok (.aload_n 0, 1) := by decide +kernel
theorem dX0_size_1 : decode cX0_size 1 = .ok (.getfield 15, 3) := by decide +kernel
theorem dX0_size_4 : decode cX0_size 4 = .ok (.ireturn, 1) := by decide +kernel
theorem dX0_empty_0 : decode cX0_empty 0 = .ok (.aload_n 0, 1) := by decide +kernel
theorem dX0_empty_1 : decode cX0_empty 1 = .ok (.getfield 15, 3) := by decide +kernel
theorem dX0_empty_4 : decode cX0_empty 4 = .ok (.istore_n 1, 1) := by decide +kernel
theorem dX0_empty_5 : decode cX0_empty 5 = .ok (.aload_n 0, 1) := by decide +kernel
theorem dX0_empty_6 : decode cX0_empty 6 = .ok (.iconst 0, 1) := by decide +kernel
theorem dX0_empty_7 : decode cX0_empty 7 = .ok (.putfield 15, 3) := by decide +kernel
theorem dX0_empty_10 : decode cX0_empty 10 = .ok (.iload_n 1, 1) := by decide +kernel
theorem dX0_empty_11 : decode cX0_empty 11 = .ok (.ireturn, 1) := by decide +kernel
theorem dX0_firstFault_0 : decode cX0_firstFault 0 = .ok (.aload_n 0, 1) := by decide +kernel
theorem dX0_firstFault_1 : decode cX0_firstFault 1 = .ok (.invokevirtual 19, 3) := by decide +kernel
theorem dX0_firstFault_4 : decode cX0_firstFault 4 = .ok (.iconst 0, 1) := by decide +kernel
theorem dX0_firstFault_5 : decode cX0_firstFault 5 = .ok (.istore_n 1, 1) := by decide +kernel
theorem dX0_firstFault_6 : decode cX0_firstFault 6 = .ok (.iload_n 1, 1) := by decide +kernel
theorem dX0_firstFault_7 : decode cX0_firstFault 7 = .ok (.bipush 120, 2) := by decide +kernel
theorem dX0_firstFault_9 : decode cX0_firstFault 9 = .ok (.if_icmp .ge 32, 3) := by decide +kernel
theorem dX0_firstFault_12 : decode cX0_firstFault 12 = .ok (.aload_n 0, 1) := by decide +kernel
theorem dX0_firstFault_13 : decode cX0_firstFault 13 = .ok (.getfield 22, 3) := by decide +kernel
theorem dX0_firstFault_16 : decode cX0_firstFault 16 = .ok (.aload_n 0, 1) := by decide +kernel
theorem dX0_firstFault_17 : decode cX0_firstFault 17 = .ok (.getfield 15, 3) := by decide +kernel
theorem dX0_firstFault_20 : decode cX0_firstFault 20 = .ok (.if_icmp .ge 21, 3) := by decide +kernel
theorem dX0_firstFault_23 : decode cX0_firstFault 23 = .ok (.aload_n 0, 1) := by decide +kernel
theorem dX0_firstFault_24 : decode cX0_firstFault 24 = .ok (.getfield 25, 3) := by decide +kernel
theorem dX0_firstFault_27 : decode cX0_firstFault 27 = .ok (.iconst (-1), 1) := by decide +kernel
theorem dX0_firstFault_28 : decode cX0_firstFault 28 = .ok (.if_icmp .ne 13, 3) := by decide +kernel
theorem dX0_firstFault_31 : decode cX0_firstFault 31 = .ok (.aload_n 0, 1) := by decide +kernel
theorem dX0_firstFault_32 : decode cX0_firstFault 32 = .ok (.invokevirtual 28, 3) := by decide +kernel
theorem dX0_firstFault_35 : decode cX0_firstFault 35 = .ok (.iinc 1 1, 3) := by decide +kernel
theorem dX0_firstFault_38 : decode cX0_firstFault 38 = .ok (.goto (-32), 3) := by decide +kernel
theorem dX0_firstFault_41 : decode cX0_firstFault 41 = .ok (.aload_n 0, 1) := by decide +kernel
theorem dX0_firstFault_42 : decode cX0_firstFault 42 = .ok (.getfield 25, 3) := by decide +kernel
theorem dX0_firstFault_45 : decode cX0_firstFault 45 = .ok (.ireturn, 1) := by decide +kernel
theorem dX0_doCommands_0 : decode cX0_doCommands 0 = .ok (.iconst 0, 1) := by decide +kernel
theorem dX0_doCommands_1 : decode cX0_doCommands 1 = .ok (.istore_n 2, 1) := by decide +kernel
theorem dX0_doCommands_2 : decode cX0_doCommands 2 = .ok (.aload_n 0, 1) := by decide +kernel
theorem dX0_doCommands_3 : decode cX0_doCommands 3 = .ok (.invokevirtual 19, 3) := by decide +kernel
theorem dX0_doCommands_6 : decode cX0_doCommands 6 = .ok (.iconst 0, 1) := by decide +kernel
theorem dX0_doCommands_7 : decode cX0_doCommands 7 = .ok (.istore_n 3, 1) := by decide +kernel
theorem dX0_doCommands_8 : decode cX0_doCommands 8 = .ok (.iload_n 3, 1) := by decide +kernel
theorem dX0_doCommands_9 : decode cX0_doCommands 9 = .ok (.bipush 120, 2) := by decide +kernel
theorem dX0_doCommands_11 : decode cX0_doCommands 11 = .ok (.if_icmp .ge 58, 3) := by decide +kernel
theorem dX0_doCommands_14 : decode cX0_doCommands 14 = .ok (.aload_n 0, 1) := by decide +kernel
theorem dX0_doCommands_15 : decode cX0_doCommands 15 = .ok (.getfield 22, 3) := by decide +kernel
theorem dX0_doCommands_18 : decode cX0_doCommands 18 = .ok (.aload_n 0, 1) := by decide +kernel
theorem dX0_doCommands_19 : decode cX0_doCommands 19 = .ok (.getfield 15, 3) := by decide +kernel
theorem dX0_doCommands_22 : decode cX0_doCommands 22 = .ok (.if_icmp .ge 47, 3) := by decide +kernel
theorem dX0_doCommands_25 : decode cX0_doCommands 25 = .ok (.aload_n 0, 1) := by decide +kernel
theorem dX0_doCommands_26 : decode cX0_doCommands 26 = .ok (.getfield 25, 3) := by decide +kernel
theorem dX0_doCommands_29 : decode cX0_doCommands 29 = .ok (.iconst (-1), 1) := by decide +kernel
theorem dX0_doCommands_30 : decode cX0_doCommands 30 = .ok (.if_icmp .ne 39, 3) := by decide +kernel
theorem dX0_doCommands_33 : decode cX0_doCommands 33 = .ok (.aload_n 0, 1) := by decide +kernel
theorem dX0_doCommands_34 : decode cX0_doCommands 34 = .ok (.invokevirtual 28, 3) := by decide +kernel
theorem dX0_doCommands_37 : decode cX0_doCommands 37 = .ok (.aload_n 1, 1) := by decide +kernel
theorem dX0_doCommands_38 : decode cX0_doCommands 38 = .ok (.aload_n 0, 1) := by decide +kernel
theorem dX0_doCommands_39 : decode cX0_doCommands 39 = .ok (.getfield 31, 3) := by decide +kernel
theorem dX0_doCommands_42 : decode cX0_doCommands 42 = .ok (.aload_n 0, 1) := by decide +kernel
theorem dX0_doCommands_43 : decode cX0_doCommands 43 = .ok (.getfield 34, 3) := by decide +kernel
theorem dX0_doCommands_46 : decode cX0_doCommands 46 = .ok (.aload_n 0, 1) := by decide +kernel
theorem dX0_doCommands_47 : decode cX0_doCommands 47 = .ok (.getfield 37, 3) := by decide +kernel
theorem dX0_doCommands_50 : decode cX0_doCommands 50 = .ok (.aload_n 0, 1) := by decide +kernel
theorem dX0_doCommands_51 : decode cX0_doCommands 51 = .ok (.getfield 40, 3) := by decide +kernel
theorem dX0_doCommands_54 : decode cX0_doCommands 54 = .ok (.invokevirtual 44, 3) := by decide +kernel
theorem dX0_doCommands_57 : decode cX0_doCommands 57 = .ok (.ifCond .ne 6, 3) := by decide +kernel
theorem dX0_doCommands_60 : decode cX0_doCommands 60 = .ok (.iinc 2 1, 3) := by decide +kernel
theorem dX0_doCommands_63 : decode cX0_doCommands 63 = .ok (.iinc 3 1, 3) := by decide +kernel
theorem dX0_doCommands_66 : decode cX0_doCommands 66 = .ok (.goto (-58), 3) := by decide +kernel
theorem dX0_doCommands_69 : decode cX0_doCommands 69 = .ok (.iload_n 2, 1) := by decide +kernel
theorem dX0_doCommands_70 : decode cX0_doCommands 70 = .ok (.ireturn, 1) := by decide +kernel
theorem dX0_open_0 : decode cX0_open 0 = .ok (.aload_n 0, 1) := by decide +kernel
theorem dX0_open_1 : decode cX0_open 1 = .ok (.iconst 1, 1) := by decide +kernel
theorem dX0_open_2 : decode cX0_open 2 = .ok (.putfield 22, 3) := by decide +kernel
theorem dX0_open_5 : decode cX0_open 5 = .ok (.aload_n 0, 1) := by decide +kernel
theorem dX0_open_6 : decode cX0_open 6 = .ok (.aload_n 0, 1) := by decide +kernel
theorem dX0_open_7 : decode cX0_open 7 = .ok (.iconst 0, 1) := by decide +kernel
theorem dX0_open_8 : decode cX0_open 8 = .ok (.invokevirtual 50, 3) := by decide +kernel
theorem dX0_open_11 : decode cX0_open 11 = .ok (.bipush 75, 2) := by decide +kernel
theorem dX0_open_13 : decode cX0_open 13 = .ok (.if_icmp .ne 7, 3) := by decide +kernel
theorem dX0_open_16 : decode cX0_open 16 = .ok (.iconst (-1), 1) := by decide +kernel
theorem dX0_open_17 : decode cX0_open 17 = .ok (.goto 4, 3) := by decide +kernel
theorem dX0_open_20 : decode cX0_open 20 = .ok (.iconst 0, 1) := by decide +kernel
theorem dX0_open_21 : decode cX0_open 21 = .ok (.putfield 25, 3) := by decide +kernel
theorem dX0_open_24 : decode cX0_open 24 = .ok (.return_, 1) := by decide +kernel
theorem dX0_sign_0 : decode cX0_sign 0 = .ok (.iload_n 1, 1) := by decide +kernel
theorem dX0_sign_1 : decode cX0_sign 1 = .ok (.ifCond .lt 29, 3) := by decide +kernel
theorem dX0_sign_4 : decode cX0_sign 4 = .ok (.iload_n 1, 1) := by decide +kernel
theorem dX0_sign_5 : decode cX0_sign 5 = .ok (.aload_n 0, 1) := by decide +kernel
theorem dX0_sign_6 : decode cX0_sign 6 = .ok (.getfield 15, 3) := by decide +kernel
theorem dX0_sign_9 : decode cX0_sign 9 = .ok (.if_icmp .ge 21, 3) := by decide +kernel
theorem dX0_sign_12 : decode cX0_sign 12 = .ok (.iload_n 1, 1) := by decide +kernel
theorem dX0_sign_13 : decode cX0_sign 13 = .ok (.aload_n 0, 1) := by decide +kernel
theorem dX0_sign_14 : decode cX0_sign 14 = .ok (.getfield 9, 3) := by decide +kernel
theorem dX0_sign_17 : decode cX0_sign 17 = .ok (.arraylength, 1) := by decide +kernel
theorem dX0_sign_18 : decode cX0_sign 18 = .ok (.if_icmp .ge 12, 3) := by decide +kernel
theorem dX0_sign_21 : decode cX0_sign 21 = .ok (.aload_n 0, 1) := by decide +kernel
theorem dX0_sign_22 : decode cX0_sign 22 = .ok (.getfield 9, 3) := by decide +kernel
theorem dX0_sign_25 : decode cX0_sign 25 = .ok (.iload_n 1, 1) := by decide +kernel
theorem dX0_sign_26 : decode cX0_sign 26 = .ok (.caload, 1) := by decide +kernel
theorem dX0_sign_27 : decode cX0_sign 27 = .ok (.goto 4, 3) := by decide +kernel
theorem dX0_sign_30 : decode cX0_sign 30 = .ok (.iconst 0, 1) := by decide +kernel
theorem dX0_sign_31 : decode cX0_sign 31 = .ok (.ireturn, 1) := by decide +kernel
theorem dX0_readCommand_0 : decode cX0_readCommand 0 = .ok (.aload_n 0, 1) := by decide +kernel
theorem dX0_readCommand_1 : decode cX0_readCommand 1 = .ok (.aload_n 0, 1) := by decide +kernel
theorem dX0_readCommand_2 : decode cX0_readCommand 2 = .ok (.getfield 22, 3) := by decide +kernel
theorem dX0_readCommand_5 : decode cX0_readCommand 5 = .ok (.invokevirtual 50, 3) := by decide +kernel
theorem dX0_readCommand_8 : decode cX0_readCommand 8 = .ok (.istore_n 1, 1) := by decide +kernel
theorem dX0_readCommand_9 : decode cX0_readCommand 9 = .ok (.aload_n 0, 1) := by decide +kernel
theorem dX0_readCommand_10 : decode cX0_readCommand 10 = .ok (.dup, 1) := by decide +kernel
theorem dX0_readCommand_11 : decode cX0_readCommand 11 = .ok (.getfield 22, 3) := by decide +kernel
theorem dX0_readCommand_14 : decode cX0_readCommand 14 = .ok (.iconst 1, 1) := by decide +kernel
theorem dX0_readCommand_15 : decode cX0_readCommand 15 = .ok (.iadd, 1) := by decide +kernel
theorem dX0_readCommand_16 : decode cX0_readCommand 16 = .ok (.putfield 22, 3) := by decide +kernel
theorem dX0_readCommand_19 : decode cX0_readCommand 19 = .ok (.iload_n 1, 1) := by decide +kernel
theorem dX0_readCommand_20 : decode cX0_readCommand 20 = .ok (.tableswitch 210 99 120 #[141, 210, 210, 210, 191, 210, 210, 210, 210, 210, 121, 210, 210, 210, 210, 104, 174, 161, 210, 210, 210, 121], 104) := by decide +kernel
theorem dX0_readCommand_124 : decode cX0_readCommand 124 = .ok (.aload_n 0, 1) := by decide +kernel
theorem dX0_readCommand_125 : decode cX0_readCommand 125 = .ok (.iconst 1, 1) := by decide +kernel
theorem dX0_readCommand_126 : decode cX0_readCommand 126 = .ok (.aload_n 0, 1) := by decide +kernel
theorem dX0_readCommand_127 : decode cX0_readCommand 127 = .ok (.iconst 2, 1) := by decide +kernel
theorem dX0_readCommand_128 : decode cX0_readCommand 128 = .ok (.iconst 2, 1) := by decide +kernel
theorem dX0_readCommand_129 : decode cX0_readCommand 129 = .ok (.bipush 40, 2) := by decide +kernel
theorem dX0_readCommand_131 : decode cX0_readCommand 131 = .ok (.invokevirtual 54, 3) := by decide +kernel
theorem dX0_readCommand_134 : decode cX0_readCommand 134 = .ok (.iconst 0, 1) := by decide +kernel
theorem dX0_readCommand_135 : decode cX0_readCommand 135 = .ok (.invokevirtual 58, 3) := by decide +kernel
theorem dX0_readCommand_138 : decode cX0_readCommand 138 = .ok (.goto 102, 3) := by decide +kernel
theorem dX0_readCommand_141 : decode cX0_readCommand 141 = .ok (.aload_n 0, 1) := by decide +kernel
theorem dX0_readCommand_142 : decode cX0_readCommand 142 = .ok (.iconst 2, 1) := by decide +kernel
theorem dX0_readCommand_143 : decode cX0_readCommand 143 = .ok (.aload_n 0, 1) := by decide +kernel
theorem dX0_readCommand_144 : decode cX0_readCommand 144 = .ok (.invokevirtual 62, 3) := by decide +kernel
theorem dX0_readCommand_147 : decode cX0_readCommand 147 = .ok (.aload_n 0, 1) := by decide +kernel
theorem dX0_readCommand_148 : decode cX0_readCommand 148 = .ok (.iconst 2, 1) := by decide +kernel
theorem dX0_readCommand_149 : decode cX0_readCommand 149 = .ok (.iconst 0, 1) := by decide +kernel
theorem dX0_readCommand_150 : decode cX0_readCommand 150 = .ok (.bipush 40, 2) := by decide +kernel
theorem dX0_readCommand_152 : decode cX0_readCommand 152 = .ok (.invokevirtual 54, 3) := by decide +kernel
theorem dX0_readCommand_155 : decode cX0_readCommand 155 = .ok (.invokevirtual 58, 3) := by decide +kernel
theorem dX0_readCommand_158 : decode cX0_readCommand 158 = .ok (.goto 82, 3) := by decide +kernel
theorem dX0_readCommand_161 : decode cX0_readCommand 161 = .ok (.aload_n 0, 1) := by decide +kernel
theorem dX0_readCommand_162 : decode cX0_readCommand 162 = .ok (.iconst 3, 1) := by decide +kernel
theorem dX0_readCommand_163 : decode cX0_readCommand 163 = .ok (.aload_n 0, 1) := by decide +kernel
theorem dX0_readCommand_164 : decode cX0_readCommand 164 = .ok (.invokevirtual 62, 3) := by decide +kernel
theorem dX0_readCommand_167 : decode cX0_readCommand 167 = .ok (.aload_n 0, 1) := by decide +kernel
theorem dX0_readCommand_168 : decode cX0_readCommand 168 = .ok (.iconst 2, 1) := by decide +kernel
theorem dX0_readCommand_169 : decode cX0_readCommand 169 = .ok (.iconst 2, 1) := by decide +kernel
theorem dX0_readCommand_170 : decode cX0_readCommand 170 = .ok (.bipush 40, 2) := by decide +kernel
theorem dX0_readCommand_172 : decode cX0_readCommand 172 = .ok (.invokevirtual 54, 3) := by decide +kernel
theorem dX0_readCommand_175 : decode cX0_readCommand 175 = .ok (.invokevirtual 58, 3) := by decide +kernel
theorem dX0_readCommand_178 : decode cX0_readCommand 178 = .ok (.goto 62, 3) := by decide +kernel
theorem dX0_readCommand_181 : decode cX0_readCommand 181 = .ok (.aload_n 0, 1) := by decide +kernel
theorem dX0_readCommand_182 : decode cX0_readCommand 182 = .ok (.iconst 4, 1) := by decide +kernel
theorem dX0_readCommand_183 : decode cX0_readCommand 183 = .ok (.aload_n 0, 1) := by decide +kernel
theorem dX0_readCommand_184 : decode cX0_readCommand 184 = .ok (.invokevirtual 62, 3) := by decide +kernel
theorem dX0_readCommand_187 : decode cX0_readCommand 187 = .ok (.iconst 0, 1) := by decide +kernel
theorem dX0_readCommand_188 : decode cX0_readCommand 188 = .ok (.invokevirtual 58, 3) := by decide +kernel
theorem dX0_readCommand_191 : decode cX0_readCommand 191 = .ok (.goto 49, 3) := by decide +kernel
theorem dX0_readCommand_194 : decode cX0_readCommand 194 = .ok (.aload_n 0, 1) := by decide +kernel
theorem dX0_readCommand_195 : decode cX0_readCommand 195 = .ok (.iconst 5, 1) := by decide +kernel
theorem dX0_readCommand_196 : decode cX0_readCommand 196 = .ok (.iconst 0, 1) := by decide +kernel
theorem dX0_readCommand_197 : decode cX0_readCommand 197 = .ok (.aload_n 0, 1) := by decide +kernel
theorem dX0_readCommand_198 : decode cX0_readCommand 198 = .ok (.iconst 1, 1) := by decide +kernel
theorem dX0_readCommand_199 : decode cX0_readCommand 199 = .ok (.iconst 1, 1) := by decide +kernel
theorem dX0_readCommand_200 : decode cX0_readCommand 200 = .ok (.bipush 6, 2) := by decide +kernel
theorem dX0_readCommand_202 : decode cX0_readCommand 202 = .ok (.invokevirtual 54, 3) := by decide +kernel
theorem dX0_readCommand_205 : decode cX0_readCommand 205 = .ok (.invokevirtual 58, 3) := by decide +kernel
theorem dX0_readCommand_208 : decode cX0_readCommand 208 = .ok (.goto 32, 3) := by decide +kernel
theorem dX0_readCommand_211 : decode cX0_readCommand 211 = .ok (.aload_n 0, 1) := by decide +kernel
theorem dX0_readCommand_212 : decode cX0_readCommand 212 = .ok (.iconst 5, 1) := by decide +kernel
theorem dX0_readCommand_213 : decode cX0_readCommand 213 = .ok (.iconst 1, 1) := by decide +kernel
theorem dX0_readCommand_214 : decode cX0_readCommand 214 = .ok (.aload_n 0, 1) := by decide +kernel
theorem dX0_readCommand_215 : decode cX0_readCommand 215 = .ok (.iconst 3, 1) := by decide +kernel
theorem dX0_readCommand_216 : decode cX0_readCommand 216 = .ok (.bipush 10, 2) := by decide +kernel
theorem dX0_readCommand_218 : decode cX0_readCommand 218 = .ok (.sipush 150, 3) := by decide +kernel
theorem dX0_readCommand_221 : decode cX0_readCommand 221 = .ok (.invokevirtual 54, 3) := by decide +kernel
theorem dX0_readCommand_224 : decode cX0_readCommand 224 = .ok (.invokevirtual 58, 3) := by decide +kernel
theorem dX0_readCommand_227 : decode cX0_readCommand 227 = .ok (.goto 13, 3) := by decide +kernel
theorem dX0_readCommand_230 : decode cX0_readCommand 230 = .ok (.aload_n 0, 1) := by decide +kernel
theorem dX0_readCommand_231 : decode cX0_readCommand 231 = .ok (.aload_n 0, 1) := by decide +kernel
theorem dX0_readCommand_232 : decode cX0_readCommand 232 = .ok (.getfield 22, 3) := by decide +kernel
theorem dX0_readCommand_235 : decode cX0_readCommand 235 = .ok (.iconst 1, 1) := by decide +kernel
theorem dX0_readCommand_236 : decode cX0_readCommand 236 = .ok (.isub, 1) := by decide +kernel
theorem dX0_readCommand_237 : decode cX0_readCommand 237 = .ok (.putfield 25, 3) := by decide +kernel
theorem dX0_readCommand_240 : decode cX0_readCommand 240 = .ok (.aload_n 0, 1) := by decide +kernel
theorem dX0_readCommand_241 : decode cX0_readCommand 241 = .ok (.iload_n 1, 1) := by decide +kernel
theorem dX0_readCommand_242 : decode cX0_readCommand 242 = .ok (.bipush 109, 2) := by decide +kernel
theorem dX0_readCommand_244 : decode cX0_readCommand 244 = .ok (.if_icmp .ne 7, 3) := by decide +kernel
theorem dX0_readCommand_247 : decode cX0_readCommand 247 = .ok (.iconst 1, 1) := by decide +kernel
theorem dX0_readCommand_248 : decode cX0_readCommand 248 = .ok (.goto 4, 3) := by decide +kernel
theorem dX0_readCommand_251 : decode cX0_readCommand 251 = .ok (.iconst 0, 1) := by decide +kernel
theorem dX0_readCommand_252 : decode cX0_readCommand 252 = .ok (.putfield 40, 3) := by decide +kernel
theorem dX0_readCommand_255 : decode cX0_readCommand 255 = .ok (.return_, 1) := by decide +kernel
theorem dX0_hold_0 : decode cX0_hold 0 = .ok (.aload_n 0, 1) := by decide +kernel
theorem dX0_hold_1 : decode cX0_hold 1 = .ok (.iload_n 1, 1) := by decide +kernel
theorem dX0_hold_2 : decode cX0_hold 2 = .ok (.putfield 31, 3) := by decide +kernel
theorem dX0_hold_5 : decode cX0_hold 5 = .ok (.aload_n 0, 1) := by decide +kernel
theorem dX0_hold_6 : decode cX0_hold 6 = .ok (.iload_n 2, 1) := by decide +kernel
theorem dX0_hold_7 : decode cX0_hold 7 = .ok (.putfield 34, 3) := by decide +kernel
theorem dX0_hold_10 : decode cX0_hold 10 = .ok (.aload_n 0, 1) := by decide +kernel
theorem dX0_hold_11 : decode cX0_hold 11 = .ok (.iload_n 3, 1) := by decide +kernel
theorem dX0_hold_12 : decode cX0_hold 12 = .ok (.putfield 37, 3) := by decide +kernel
theorem dX0_hold_15 : decode cX0_hold 15 = .ok (.return_, 1) := by decide +kernel
theorem dX0_rulerNumber_0 : decode cX0_rulerNumber 0 = .ok (.aload_n 0, 1) := by decide +kernel
theorem dX0_rulerNumber_1 : decode cX0_rulerNumber 1 = .ok (.iconst 1, 1) := by decide +kernel
theorem dX0_rulerNumber_2 : decode cX0_rulerNumber 2 = .ok (.iconst 0, 1) := by decide +kernel
theorem dX0_rulerNumber_3 : decode cX0_rulerNumber 3 = .ok (.iconst 3, 1) := by decide +kernel
theorem dX0_rulerNumber_4 : decode cX0_rulerNumber 4 = .ok (.invokevirtual 54, 3) := by decide +kernel
theorem dX0_rulerNumber_7 : decode cX0_rulerNumber 7 = .ok (.ireturn, 1) := by decide +kernel
theorem dX0_number_0 : decode cX0_number 0 = .ok (.iconst 0, 1) := by decide +kernel
theorem dX0_number_1 : decode cX0_number 1 = .ok (.istore 4, 2) := by decide +kernel
theorem dX0_number_3 : decode cX0_number 3 = .ok (.iload_n 1, 1) := by decide +kernel
theorem dX0_number_4 : decode cX0_number 4 = .ok (.iconst 3, 1) := by decide +kernel
theorem dX0_number_5 : decode cX0_number 5 = .ok (.if_icmp .ne 8, 3) := by decide +kernel
theorem dX0_number_8 : decode cX0_number 8 = .ok (.bipush 100, 2) := by decide +kernel
theorem dX0_number_10 : decode cX0_number 10 = .ok (.goto 14, 3) := by decide +kernel
theorem dX0_number_13 : decode cX0_number 13 = .ok (.iload_n 1, 1) := by decide +kernel
theorem dX0_number_14 : decode cX0_number 14 = .ok (.iconst 2, 1) := by decide +kernel
theorem dX0_number_15 : decode cX0_number 15 = .ok (.if_icmp .ne 8, 3) := by decide +kernel
theorem dX0_number_18 : decode cX0_number 18 = .ok (.bipush 10, 2) := by decide +kernel
theorem dX0_number_20 : decode cX0_number 20 = .ok (.goto 4, 3) := by decide +kernel
theorem dX0_number_23 : decode cX0_number 23 = .ok (.iconst 1, 1) := by decide +kernel
theorem dX0_number_24 : decode cX0_number 24 = .ok (.istore 5, 2) := by decide +kernel
theorem dX0_number_26 : decode cX0_number 26 = .ok (.iconst 0, 1) := by decide +kernel
theorem dX0_number_27 : decode cX0_number 27 = .ok (.istore 6, 2) := by decide +kernel
theorem dX0_number_29 : decode cX0_number 29 = .ok (.iload 6, 2) := by decide +kernel
theorem dX0_number_31 : decode cX0_number 31 = .ok (.iload_n 1, 1) := by decide +kernel
theorem dX0_number_32 : decode cX0_number 32 = .ok (.if_icmp .ge 107, 3) := by decide +kernel
theorem dX0_number_35 : decode cX0_number 35 = .ok (.iload 6, 2) := by decide +kernel
theorem dX0_number_37 : decode cX0_number 37 = .ok (.iconst 3, 1) := by decide +kernel
theorem dX0_number_38 : decode cX0_number 38 = .ok (.if_icmp .ge 101, 3) := by decide +kernel
theorem dX0_number_41 : decode cX0_number 41 = .ok (.aload_n 0, 1) := by decide +kernel
theorem dX0_number_42 : decode cX0_number 42 = .ok (.getfield 25, 3) := by decide +kernel
theorem dX0_number_45 : decode cX0_number 45 = .ok (.iconst (-1), 1) := by decide +kernel
theorem dX0_number_46 : decode cX0_number 46 = .ok (.if_icmp .ne 93, 3) := by decide +kernel
theorem dX0_number_49 : decode cX0_number 49 = .ok (.aload_n 0, 1) := by decide +kernel
theorem dX0_number_50 : decode cX0_number 50 = .ok (.aload_n 0, 1) := by decide +kernel
theorem dX0_number_51 : decode cX0_number 51 = .ok (.getfield 22, 3) := by decide +kernel
theorem dX0_number_54 : decode cX0_number 54 = .ok (.invokevirtual 50, 3) := by decide +kernel
theorem dX0_number_57 : decode cX0_number 57 = .ok (.bipush 48, 2) := by decide +kernel
theorem dX0_number_59 : decode cX0_number 59 = .ok (.isub, 1) := by decide +kernel
theorem dX0_number_60 : decode cX0_number 60 = .ok (.istore 7, 2) := by decide +kernel
theorem dX0_number_62 : decode cX0_number 62 = .ok (.iload 4, 2) := by decide +kernel
theorem dX0_number_64 : decode cX0_number 64 = .ok (.iload 7, 2) := by decide +kernel
theorem dX0_number_66 : decode cX0_number 66 = .ok (.iload 5, 2) := by decide +kernel
theorem dX0_number_68 : decode cX0_number 68 = .ok (.imul, 1) := by decide +kernel
theorem dX0_number_69 : decode cX0_number 69 = .ok (.iadd, 1) := by decide +kernel
theorem dX0_number_70 : decode cX0_number 70 = .ok (.istore 8, 2) := by decide +kernel
theorem dX0_number_72 : decode cX0_number 72 = .ok (.iload 7, 2) := by decide +kernel
theorem dX0_number_74 : decode cX0_number 74 = .ok (.ifCond .lt 27, 3) := by decide +kernel
theorem dX0_number_77 : decode cX0_number 77 = .ok (.iload 7, 2) := by decide +kernel
theorem dX0_number_79 : decode cX0_number 79 = .ok (.bipush 9, 2) := by decide +kernel
theorem dX0_number_81 : decode cX0_number 81 = .ok (.if_icmp .gt 20, 3) := by decide +kernel
theorem dX0_number_84 : decode cX0_number 84 = .ok (.iload 8, 2) := by decide +kernel
theorem dX0_number_86 : decode cX0_number 86 = .ok (.iload_n 3, 1) := by decide +kernel
theorem dX0_number_87 : decode cX0_number 87 = .ok (.if_icmp .gt 14, 3) := by decide +kernel
theorem dX0_number_90 : decode cX0_number 90 = .ok (.iload 8, 2) := by decide +kernel
theorem dX0_number_92 : decode cX0_number 92 = .ok (.iload 5, 2) := by decide +kernel
theorem dX0_number_94 : decode cX0_number 94 = .ok (.iadd, 1) := by decide +kernel
theorem dX0_number_95 : decode cX0_number 95 = .ok (.iconst 1, 1) := by decide +kernel
theorem dX0_number_96 : decode cX0_number 96 = .ok (.isub, 1) := by decide +kernel
theorem dX0_number_97 : decode cX0_number 97 = .ok (.iload_n 2, 1) := by decide +kernel
theorem dX0_number_98 : decode cX0_number 98 = .ok (.if_icmp .ge 14, 3) := by decide +kernel
theorem dX0_number_101 : decode cX0_number 101 = .ok (.aload_n 0, 1) := by decide +kernel
theorem dX0_number_102 : decode cX0_number 102 = .ok (.aload_n 0, 1) := by decide +kernel
theorem dX0_number_103 : decode cX0_number 103 = .ok (.getfield 22, 3) := by decide +kernel
theorem dX0_number_106 : decode cX0_number 106 = .ok (.putfield 25, 3) := by decide +kernel
theorem dX0_number_109 : decode cX0_number 109 = .ok (.goto 17, 3) := by decide +kernel
theorem dX0_number_112 : decode cX0_number 112 = .ok (.iload 8, 2) := by decide +kernel
theorem dX0_number_114 : decode cX0_number 114 = .ok (.istore 4, 2) := by decide +kernel
theorem dX0_number_116 : decode cX0_number 116 = .ok (.aload_n 0, 1) := by decide +kernel
theorem dX0_number_117 : decode cX0_number 117 = .ok (.dup, 1) := by decide +kernel
theorem dX0_number_118 : decode cX0_number 118 = .ok (.getfield 22, 3) := by decide +kernel
theorem dX0_number_121 : decode cX0_number 121 = .ok (.iconst 1, 1) := by decide +kernel
theorem dX0_number_122 : decode cX0_number 122 = .ok (.iadd, 1) := by decide +kernel
theorem dX0_number_123 : decode cX0_number 123 = .ok (.putfield 22, 3) := by decide +kernel
theorem dX0_number_126 : decode cX0_number 126 = .ok (.iload 5, 2) := by decide +kernel
theorem dX0_number_128 : decode cX0_number 128 = .ok (.bipush 10, 2) := by decide +kernel
theorem dX0_number_130 : decode cX0_number 130 = .ok (.idiv, 1) := by decide +kernel
theorem dX0_number_131 : decode cX0_number 131 = .ok (.istore 5, 2) := by decide +kernel
theorem dX0_number_133 : decode cX0_number 133 = .ok (.iinc 6 1, 3) := by decide +kernel
theorem dX0_number_136 : decode cX0_number 136 = .ok (.goto (-107), 3) := by decide +kernel
theorem dX0_number_139 : decode cX0_number 139 = .ok (.iload 4, 2) := by decide +kernel
theorem dX0_number_141 : decode cX0_number 141 = .ok (.ireturn, 1) := by decide +kernel
theorem dX1_init_0 : decode cX1_init 0 = .ok (.aload_n 0, 1) := by decide +kernel
theorem dX1_init_1 : decode cX1_init 1 = .ok (.invokespecial 1, 3) := by decide +kernel
theorem dX1_init_4 : decode cX1_init 4 = .ok (.return_, 1) := by decide +kernel
theorem dX1_begin_0 : decode cX1_begin 0 = .ok (.aload_n 0, 1) := by decide +kernel
theorem dX1_begin_1 : decode cX1_begin 1 = .ok (.iconst 0, 1) := by decide +kernel
theorem dX1_begin_2 : decode cX1_begin 2 = .ok (.putfield 7, 3) := by decide +kernel
theorem dX1_begin_5 : decode cX1_begin 5 = .ok (.return_, 1) := by decide +kernel
theorem dX1_note_0 : decode cX1_note 0 = .ok (.aload_n 0, 1) := by decide +kernel
theorem dX1_note_1 : decode cX1_note 1 = .ok (.iload_n 1, 1) := by decide +kernel
theorem dX1_note_2 : decode cX1_note 2 = .ok (.putfield 13, 3) := by decide +kernel
theorem dX1_note_5 : decode cX1_note 5 = .ok (.aload_n 0, 1) := by decide +kernel
theorem dX1_note_6 : decode cX1_note 6 = .ok (.iload_n 2, 1) := by decide +kernel
theorem dX1_note_7 : decode cX1_note 7 = .ok (.putfield 16, 3) := by decide +kernel
theorem dX1_note_10 : decode cX1_note 10 = .ok (.aload_n 0, 1) := by decide +kernel
theorem dX1_note_11 : decode cX1_note 11 = .ok (.iload_n 3, 1) := by decide +kernel
theorem dX1_note_12 : decode cX1_note 12 = .ok (.putfield 19, 3) := by decide +kernel
theorem dX1_note_15 : decode cX1_note 15 = .ok (.aload_n 0, 1) := by decide +kernel
theorem dX1_note_16 : decode cX1_note 16 = .ok (.iload 4, 2) := by decide +kernel
theorem dX1_note_18 : decode cX1_note 18 = .ok (.putfield 7, 3) := by decide +kernel
theorem dX1_note_21 : decode cX1_note 21 = .ok (.return_, 1) := by decide +kernel
theorem dX1_end_0 : decode cX1_end 0 = .ok (.aload_n 0, 1) := by decide +kernel
theorem dX1_end_1 : decode cX1_end 1 = .ok (.getfield 7, 3) := by decide +kernel
theorem dX1_end_4 : decode cX1_end 4 = .ok (.ireturn, 1) := by decide +kernel
theorem dX1_number_0 : decode cX1_number 0 = .ok (.iload_n 1, 1) := by decide +kernel
theorem dX1_number_1 : decode cX1_number 1 = .ok (.tableswitch 50 0 2 #[27, 32, 37], 27) := by decide +kernel
theorem dX1_number_28 : decode cX1_number 28 = .ok (.aload_n 0, 1) := by decide +kernel
theorem dX1_number_29 : decode cX1_number 29 = .ok (.getfield 13, 3) := by decide +kernel
theorem dX1_number_32 : decode cX1_number 32 = .ok (.ireturn, 1) := by decide +kernel
theorem dX1_number_33 : decode cX1_number 33 = .ok (.aload_n 0, 1) := by decide +kernel
theorem dX1_number_34 : decode cX1_number 34 = .ok (.getfield 16, 3) := by decide +kernel
theorem dX1_number_37 : decode cX1_number 37 = .ok (.ireturn, 1) := by decide +kernel
theorem dX1_number_38 : decode cX1_number 38 = .ok (.aload_n 0, 1) := by decide +kernel
theorem dX1_number_39 : decode cX1_number 39 = .ok (.getfield 19, 3) := by decide +kernel
theorem dX1_number_42 : decode cX1_number 42 = .ok (.ifCond .eq 7, 3) := by decide +kernel
theorem dX1_number_45 : decode cX1_number 45 = .ok (.iconst 1, 1) := by decide +kernel
theorem dX1_number_46 : decode cX1_number 46 = .ok (.goto 4, 3) := by decide +kernel
theorem dX1_number_49 : decode cX1_number 49 = .ok (.iconst 0, 1) := by decide +kernel
theorem dX1_number_50 : decode cX1_number 50 = .ok (.ireturn, 1) := by decide +kernel
theorem dX1_number_51 : decode cX1_number 51 = .ok (.aload_n 0, 1) := by decide +kernel
theorem dX1_number_52 : decode cX1_number 52 = .ok (.getfield 7, 3) := by decide +kernel
theorem dX1_number_55 : decode cX1_number 55 = .ok (.ireturn, 1) := by decide +kernel
theorem dX2_init_0 : decode cX2_init 0 = .ok (.aload_n 0, 1) := by decide +kernel
theorem dX2_init_1 : decode cX2_init 1 = .ok (.invokespecial 3, 3) := by decide +kernel
theorem dX2_init_4 : decode cX2_init 4 = .ok (.aload_n 0, 1) := by decide +kernel
theorem dX2_init_5 : decode cX2_init 5 = .ok (.bipush 14, 2) := by decide +kernel
theorem dX2_init_7 : decode cX2_init 7 = .ok (.anewarray 9, 3) := by decide +kernel
theorem dX2_init_10 : decode cX2_init 10 = .ok (.putfield 11, 3) := by decide +kernel
theorem dX2_init_13 : decode cX2_init 13 = .ok (.iconst 0, 1) := by decide +kernel
theorem dX2_init_14 : decode cX2_init 14 = .ok (.istore_n 1, 1) := by decide +kernel
theorem dX2_init_15 : decode cX2_init 15 = .ok (.iload_n 1, 1) := by decide +kernel
theorem dX2_init_16 : decode cX2_init 16 = .ok (.aload_n 0, 1) := by decide +kernel
theorem dX2_init_17 : decode cX2_init 17 = .ok (.getfield 11, 3) := by decide +kernel
theorem dX2_init_20 : decode cX2_init 20 = .ok (.arraylength, 1) := by decide +kernel
theorem dX2_init_21 : decode cX2_init 21 = .ok (.if_icmp .ge 22, 3) := by decide +kernel
theorem dX2_init_24 : decode cX2_init 24 = .ok (.aload_n 0, 1) := by decide +kernel
theorem dX2_init_25 : decode cX2_init 25 = .ok (.getfield 11, 3) := by decide +kernel
theorem dX2_init_28 : decode cX2_init 28 = .ok (.iload_n 1, 1) := by decide +kernel
theorem dX2_init_29 : decode cX2_init 29 = .ok (.new 9, 3) := by decide +kernel
theorem dX2_init_32 : decode cX2_init 32 = .ok (.dup, 1) := by decide +kernel
theorem dX2_init_33 : decode cX2_init 33 = .ok (.invokespecial 17, 3) := by decide +kernel
theorem dX2_init_36 : decode cX2_init 36 = .ok (.aastore, 1) := by decide +kernel
theorem dX2_init_37 : decode cX2_init 37 = .ok (.iinc 1 1, 3) := by decide +kernel
theorem dX2_init_40 : decode cX2_init 40 = .ok (.goto (-25), 3) := by decide +kernel
theorem dX2_init_43 : decode cX2_init 43 = .ok (.return_, 1) := by decide +kernel
theorem dX2_keep_0 : decode cX2_keep 0 = .ok (.aload_n 0, 1) := by decide +kernel
theorem dX2_keep_1 : decode cX2_keep 1 = .ok (.getfield 18, 3) := by decide +kernel
theorem dX2_keep_4 : decode cX2_keep 4 = .ok (.ifCond .lt 40, 3) := by decide +kernel
theorem dX2_keep_7 : decode cX2_keep 7 = .ok (.aload_n 0, 1) := by decide +kernel
theorem dX2_keep_8 : decode cX2_keep 8 = .ok (.getfield 18, 3) := by decide +kernel
theorem dX2_keep_11 : decode cX2_keep 11 = .ok (.aload_n 0, 1) := by decide +kernel
theorem dX2_keep_12 : decode cX2_keep 12 = .ok (.getfield 11, 3) := by decide +kernel
theorem dX2_keep_15 : decode cX2_keep 15 = .ok (.arraylength, 1) := by decide +kernel
theorem dX2_keep_16 : decode cX2_keep 16 = .ok (.if_icmp .ge 28, 3) := by decide +kernel
theorem dX2_keep_19 : decode cX2_keep 19 = .ok (.aload_n 0, 1) := by decide +kernel
theorem dX2_keep_20 : decode cX2_keep 20 = .ok (.getfield 11, 3) := by decide +kernel
theorem dX2_keep_23 : decode cX2_keep 23 = .ok (.aload_n 0, 1) := by decide +kernel
theorem dX2_keep_24 : decode cX2_keep 24 = .ok (.getfield 18, 3) := by decide +kernel
theorem dX2_keep_27 : decode cX2_keep 27 = .ok (.aaload, 1) := by decide +kernel
theorem dX2_keep_28 : decode cX2_keep 28 = .ok (.ifnull 16, 3) := by decide +kernel
theorem dX2_keep_31 : decode cX2_keep 31 = .ok (.aload_n 0, 1) := by decide +kernel
theorem dX2_keep_32 : decode cX2_keep 32 = .ok (.getfield 11, 3) := by decide +kernel
theorem dX2_keep_35 : decode cX2_keep 35 = .ok (.aload_n 0, 1) := by decide +kernel
theorem dX2_keep_36 : decode cX2_keep 36 = .ok (.getfield 18, 3) := by decide +kernel
theorem dX2_keep_39 : decode cX2_keep 39 = .ok (.aaload, 1) := by decide +kernel
theorem dX2_keep_40 : decode cX2_keep 40 = .ok (.aload_n 1, 1) := by decide +kernel
theorem dX2_keep_41 : decode cX2_keep 41 = .ok (.invokevirtual 22, 3) := by decide +kernel
theorem dX2_keep_44 : decode cX2_keep 44 = .ok (.aload_n 0, 1) := by decide +kernel
theorem dX2_keep_45 : decode cX2_keep 45 = .ok (.aload_n 0, 1) := by decide +kernel
theorem dX2_keep_46 : decode cX2_keep 46 = .ok (.getfield 18, 3) := by decide +kernel
theorem dX2_keep_49 : decode cX2_keep 49 = .ok (.iconst 1, 1) := by decide +kernel
theorem dX2_keep_50 : decode cX2_keep 50 = .ok (.iadd, 1) := by decide +kernel
theorem dX2_keep_51 : decode cX2_keep 51 = .ok (.bipush 14, 2) := by decide +kernel
theorem dX2_keep_53 : decode cX2_keep 53 = .ok (.if_icmp .ge 12, 3) := by decide +kernel
theorem dX2_keep_56 : decode cX2_keep 56 = .ok (.aload_n 0, 1) := by decide +kernel
theorem dX2_keep_57 : decode cX2_keep 57 = .ok (.getfield 18, 3) := by decide +kernel
theorem dX2_keep_60 : decode cX2_keep 60 = .ok (.iconst 1, 1) := by decide +kernel
theorem dX2_keep_61 : decode cX2_keep 61 = .ok (.iadd, 1) := by decide +kernel
theorem dX2_keep_62 : decode cX2_keep 62 = .ok (.goto 4, 3) := by decide +kernel
theorem dX2_keep_65 : decode cX2_keep 65 = .ok (.iconst 0, 1) := by decide +kernel
theorem dX2_keep_66 : decode cX2_keep 66 = .ok (.putfield 18, 3) := by decide +kernel
theorem dX2_keep_69 : decode cX2_keep 69 = .ok (.aload_n 0, 1) := by decide +kernel
theorem dX2_keep_70 : decode cX2_keep 70 = .ok (.aload_n 0, 1) := by decide +kernel
theorem dX2_keep_71 : decode cX2_keep 71 = .ok (.getfield 26, 3) := by decide +kernel
theorem dX2_keep_74 : decode cX2_keep 74 = .ok (.iconst 1, 1) := by decide +kernel
theorem dX2_keep_75 : decode cX2_keep 75 = .ok (.iadd, 1) := by decide +kernel
theorem dX2_keep_76 : decode cX2_keep 76 = .ok (.bipush 14, 2) := by decide +kernel
theorem dX2_keep_78 : decode cX2_keep 78 = .ok (.invokestatic 29, 3) := by decide +kernel
theorem dX2_keep_81 : decode cX2_keep 81 = .ok (.putfield 26, 3) := by decide +kernel
theorem dX2_keep_84 : decode cX2_keep 84 = .ok (.return_, 1) := by decide +kernel
theorem dX2_giveBack_0 : decode cX2_giveBack 0 = .ok (.aload_n 0, 1) := by decide +kernel
theorem dX2_giveBack_1 : decode cX2_giveBack 1 = .ok (.getfield 26, 3) := by decide +kernel
theorem dX2_giveBack_4 : decode cX2_giveBack 4 = .ok (.ifCond .eq 7, 3) := by decide +kernel
theorem dX2_giveBack_7 : decode cX2_giveBack 7 = .ok (.aload_n 1, 1) := by decide +kernel
theorem dX2_giveBack_8 : decode cX2_giveBack 8 = .ok (.ifnonnull 5, 3) := by decide +kernel
theorem dX2_giveBack_11 : decode cX2_giveBack 11 = .ok (.iconst 0, 1) := by decide +kernel
theorem dX2_giveBack_12 : decode cX2_giveBack 12 = .ok (.ireturn, 1) := by decide +kernel
theorem dX2_giveBack_13 : decode cX2_giveBack 13 = .ok (.aload_n 0, 1) := by decide +kernel
theorem dX2_giveBack_14 : decode cX2_giveBack 14 = .ok (.dup, 1) := by decide +kernel
theorem dX2_giveBack_15 : decode cX2_giveBack 15 = .ok (.getfield 26, 3) := by decide +kernel
theorem dX2_giveBack_18 : decode cX2_giveBack 18 = .ok (.iconst 1, 1) := by decide +kernel
theorem dX2_giveBack_19 : decode cX2_giveBack 19 = .ok (.isub, 1) := by decide +kernel
theorem dX2_giveBack_20 : decode cX2_giveBack 20 = .ok (.putfield 26, 3) := by decide +kernel
theorem dX2_giveBack_23 : decode cX2_giveBack 23 = .ok (.aload_n 0, 1) := by decide +kernel
theorem dX2_giveBack_24 : decode cX2_giveBack 24 = .ok (.aload_n 0, 1) := by decide +kernel
theorem dX2_giveBack_25 : decode cX2_giveBack 25 = .ok (.getfield 18, 3) := by decide +kernel
theorem dX2_giveBack_28 : decode cX2_giveBack 28 = .ok (.ifCond .le 12, 3) := by decide +kernel
theorem dX2_giveBack_31 : decode cX2_giveBack 31 = .ok (.aload_n 0, 1) := by decide +kernel
theorem dX2_giveBack_32 : decode cX2_giveBack 32 = .ok (.getfield 18, 3) := by decide +kernel
theorem dX2_giveBack_35 : decode cX2_giveBack 35 = .ok (.iconst 1, 1) := by decide +kernel
theorem dX2_giveBack_36 : decode cX2_giveBack 36 = .ok (.isub, 1) := by decide +kernel
theorem dX2_giveBack_37 : decode cX2_giveBack 37 = .ok (.goto 5, 3) := by decide +kernel
theorem dX2_giveBack_40 : decode cX2_giveBack 40 = .ok (.bipush 13, 2) := by decide +kernel
theorem dX2_giveBack_42 : decode cX2_giveBack 42 = .ok (.putfield 18, 3) := by decide +kernel
theorem dX2_giveBack_45 : decode cX2_giveBack 45 = .ok (.aload_n 0, 1) := by decide +kernel
theorem dX2_giveBack_46 : decode cX2_giveBack 46 = .ok (.getfield 18, 3) := by decide +kernel
theorem dX2_giveBack_49 : decode cX2_giveBack 49 = .ok (.ifCond .lt 28, 3) := by decide +kernel
theorem dX2_giveBack_52 : decode cX2_giveBack 52 = .ok (.aload_n 0, 1) := by decide +kernel
theorem dX2_giveBack_53 : decode cX2_giveBack 53 = .ok (.getfield 18, 3) := by decide +kernel
theorem dX2_giveBack_56 : decode cX2_giveBack 56 = .ok (.aload_n 0, 1) := by decide +kernel
theorem dX2_giveBack_57 : decode cX2_giveBack 57 = .ok (.getfield 11, 3) := by decide +kernel
theorem dX2_giveBack_60 : decode cX2_giveBack 60 = .ok (.arraylength, 1) := by decide +kernel
theorem dX2_giveBack_61 : decode cX2_giveBack 61 = .ok (.if_icmp .ge 16, 3) := by decide +kernel
theorem dX2_giveBack_64 : decode cX2_giveBack 64 = .ok (.aload_n 1, 1) := by decide +kernel
theorem dX2_giveBack_65 : decode cX2_giveBack 65 = .ok (.aload_n 0, 1) := by decide +kernel
theorem dX2_giveBack_66 : decode cX2_giveBack 66 = .ok (.getfield 11, 3) := by decide +kernel
theorem dX2_giveBack_69 : decode cX2_giveBack 69 = .ok (.aload_n 0, 1) := by decide +kernel
theorem dX2_giveBack_70 : decode cX2_giveBack 70 = .ok (.getfield 18, 3) := by decide +kernel
theorem dX2_giveBack_73 : decode cX2_giveBack 73 = .ok (.aaload, 1) := by decide +kernel
theorem dX2_giveBack_74 : decode cX2_giveBack 74 = .ok (.invokevirtual 22, 3) := by decide +kernel
theorem dX2_giveBack_77 : decode cX2_giveBack 77 = .ok (.iconst 1, 1) := by decide +kernel
theorem dX2_giveBack_78 : decode cX2_giveBack 78 = .ok (.ireturn, 1) := by decide +kernel
theorem dX2_forget_0 : decode cX2_forget 0 = .ok (.aload_n 0, 1) := by decide +kernel
theorem dX2_forget_1 : decode cX2_forget 1 = .ok (.iconst 0, 1) := by decide +kernel
theorem dX2_forget_2 : decode cX2_forget 2 = .ok (.putfield 26, 3) := by decide +kernel
theorem dX2_forget_5 : decode cX2_forget 5 = .ok (.return_, 1) := by decide +kernel
theorem dX2_size_0 : decode cX2_size 0 = .ok (.aload_n 0, 1) := by decide +kernel
theorem dX2_size_1 : decode cX2_size 1 = .ok (.getfield 26, 3) := by decide +kernel
theorem dX2_size_4 : decode cX2_size 4 = .ok (.ireturn, 1) := by decide +kernel
theorem dX3_init_0 : decode cX3_init 0 = .ok (.aload_n 0, 1) := by decide +kernel
theorem dX3_init_1 : decode cX3_init 1 = .ok (.invokespecial 3, 3) := by decide +kernel
theorem dX3_init_4 : decode cX3_init 4 = .ok (.aload_n 0, 1) := by decide +kernel
theorem dX3_init_5 : decode cX3_init 5 = .ok (.sipush 201, 3) := by decide +kernel
theorem dX3_init_8 : decode cX3_init 8 = .ok (.newarray .int, 2) := by decide +kernel
theorem dX3_init_10 : decode cX3_init 10 = .ok (.putfield 9, 3) := by decide +kernel
theorem dX3_init_13 : decode cX3_init 13 = .ok (.aload_n 0, 1) := by decide +kernel
theorem dX3_init_14 : decode cX3_init 14 = .ok (.sipush 201, 3) := by decide +kernel
theorem dX3_init_17 : decode cX3_init 17 = .ok (.newarray .int, 2) := by decide +kernel
theorem dX3_init_19 : decode cX3_init 19 = .ok (.putfield 15, 3) := by decide +kernel
theorem dX3_init_22 : decode cX3_init 22 = .ok (.aload_n 0, 1) := by decide +kernel
theorem dX3_init_23 : decode cX3_init 23 = .ok (.iconst 4, 1) := by decide +kernel
theorem dX3_init_24 : decode cX3_init 24 = .ok (.newarray .long, 2) := by decide +kernel
theorem dX3_init_26 : decode cX3_init 26 = .ok (.putfield 18, 3) := by decide +kernel
theorem dX3_init_29 : decode cX3_init 29 = .ok (.aload_n 0, 1) := by decide +kernel
theorem dX3_init_30 : decode cX3_init 30 = .ok (.iconst 4, 1) := by decide +kernel
theorem dX3_init_31 : decode cX3_init 31 = .ok (.newarray .long, 2) := by decide +kernel
theorem dX3_init_33 : decode cX3_init 33 = .ok (.putfield 22, 3) := by decide +kernel
theorem dX3_init_36 : decode cX3_init 36 = .ok (.return_, 1) := by decide +kernel
theorem dX3_walk_0 : decode cX3_walk 0 = .ok (.aload_n 0, 1) := by decide +kernel
theorem dX3_walk_1 : decode cX3_walk 1 = .ok (.getfield 9, 3) := by decide +kernel
theorem dX3_walk_4 : decode cX3_walk 4 = .ok (.iconst (-1), 1) := by decide +kernel
theorem dX3_walk_5 : decode cX3_walk 5 = .ok (.invokestatic 25, 3) := by decide +kernel
theorem dX3_walk_8 : decode cX3_walk 8 = .ok (.aload_n 0, 1) := by decide +kernel
theorem dX3_walk_9 : decode cX3_walk 9 = .ok (.iconst 0, 1) := by decide +kernel
theorem dX3_walk_10 : decode cX3_walk 10 = .ok (.putfield 31, 3) := by decide +kernel
theorem dX3_walk_13 : decode cX3_walk 13 = .ok (.aload_n 0, 1) := by decide +kernel
theorem dX3_walk_14 : decode cX3_walk 14 = .ok (.iload_n 1, 1) := by decide +kernel
theorem dX3_walk_15 : decode cX3_walk 15 = .ok (.iconst 0, 1) := by decide +kernel
theorem dX3_walk_16 : decode cX3_walk 16 = .ok (.invokevirtual 35, 3) := by decide +kernel
theorem dX3_walk_19 : decode cX3_walk 19 = .ok (.iconst 0, 1) := by decide +kernel
theorem dX3_walk_20 : decode cX3_walk 20 = .ok (.istore 4, 2) := by decide +kernel
theorem dX3_walk_22 : decode cX3_walk 22 = .ok (.iload 4, 2) := by decide +kernel
theorem dX3_walk_24 : decode cX3_walk 24 = .ok (.aload_n 0, 1) := by decide +kernel
theorem dX3_walk_25 : decode cX3_walk 25 = .ok (.getfield 31, 3) := by decide +kernel
theorem dX3_walk_28 : decode cX3_walk 28 = .ok (.if_icmp .ge 85, 3) := by decide +kernel
theorem dX3_walk_31 : decode cX3_walk 31 = .ok (.iload 4, 2) := by decide +kernel
theorem dX3_walk_33 : decode cX3_walk 33 = .ok (.aload_n 0, 1) := by decide +kernel
theorem dX3_walk_34 : decode cX3_walk 34 = .ok (.getfield 15, 3) := by decide +kernel
theorem dX3_walk_37 : decode cX3_walk 37 = .ok (.arraylength, 1) := by decide +kernel
theorem dX3_walk_38 : decode cX3_walk 38 = .ok (.if_icmp .ge 75, 3) := by decide +kernel
theorem dX3_walk_41 : decode cX3_walk 41 = .ok (.aload_n 0, 1) := by decide +kernel
theorem dX3_walk_42 : decode cX3_walk 42 = .ok (.getfield 15, 3) := by decide +kernel
theorem dX3_walk_45 : decode cX3_walk 45 = .ok (.iload 4, 2) := by decide +kernel
theorem dX3_walk_47 : decode cX3_walk 47 = .ok (.iaload, 1) := by decide +kernel
theorem dX3_walk_48 : decode cX3_walk 48 = .ok (.istore 5, 2) := by decide +kernel
theorem dX3_walk_50 : decode cX3_walk 50 = .ok (.aload_n 0, 1) := by decide +kernel
theorem dX3_walk_51 : decode cX3_walk 51 = .ok (.iload 5, 2) := by decide +kernel
theorem dX3_walk_53 : decode cX3_walk 53 = .ok (.invokevirtual 39, 3) := by decide +kernel
theorem dX3_walk_56 : decode cX3_walk 56 = .ok (.iconst 1, 1) := by decide +kernel
theorem dX3_walk_57 : decode cX3_walk 57 = .ok (.iadd, 1) := by decide +kernel
theorem dX3_walk_58 : decode cX3_walk 58 = .ok (.istore 6, 2) := by decide +kernel
theorem dX3_walk_60 : decode cX3_walk 60 = .ok (.iconst 1, 1) := by decide +kernel
theorem dX3_walk_61 : decode cX3_walk 61 = .ok (.istore 7, 2) := by decide +kernel
theorem dX3_walk_63 : decode cX3_walk 63 = .ok (.iload 7, 2) := by decide +kernel
theorem dX3_walk_65 : decode cX3_walk 65 = .ok (.bipush 40, 2) := by decide +kernel
theorem dX3_walk_67 : decode cX3_walk 67 = .ok (.if_icmp .gt 40, 3) := by decide +kernel
theorem dX3_walk_70 : decode cX3_walk 70 = .ok (.lload_n 2, 1) := by decide +kernel
theorem dX3_walk_71 : decode cX3_walk 71 = .ok (.iload 7, 2) := by decide +kernel
theorem dX3_walk_73 : decode cX3_walk 73 = .ok (.invokestatic 43, 3) := by decide +kernel
theorem dX3_walk_76 : decode cX3_walk 76 = .ok (.ifCond .eq 25, 3) := by decide +kernel
theorem dX3_walk_79 : decode cX3_walk 79 = .ok (.aload_n 0, 1) := by decide +kernel
theorem dX3_walk_80 : decode cX3_walk 80 = .ok (.iload 5, 2) := by decide +kernel
theorem dX3_walk_82 : decode cX3_walk 82 = .ok (.iload 7, 2) := by decide +kernel
theorem dX3_walk_84 : decode cX3_walk 84 = .ok (.iadd, 1) := by decide +kernel
theorem dX3_walk_85 : decode cX3_walk 85 = .ok (.iload 6, 2) := by decide +kernel
theorem dX3_walk_87 : decode cX3_walk 87 = .ok (.invokevirtual 35, 3) := by decide +kernel
theorem dX3_walk_90 : decode cX3_walk 90 = .ok (.aload_n 0, 1) := by decide +kernel
theorem dX3_walk_91 : decode cX3_walk 91 = .ok (.iload 5, 2) := by decide +kernel
theorem dX3_walk_93 : decode cX3_walk 93 = .ok (.iload 7, 2) := by decide +kernel
theorem dX3_walk_95 : decode cX3_walk 95 = .ok (.isub, 1) := by decide +kernel
theorem dX3_walk_96 : decode cX3_walk 96 = .ok (.iload 6, 2) := by decide +kernel
theorem dX3_walk_98 : decode cX3_walk 98 = .ok (.invokevirtual 35, 3) := by decide +kernel
theorem dX3_walk_101 : decode cX3_walk 101 = .ok (.iinc 7 1, 3) := by decide +kernel
theorem dX3_walk_104 : decode cX3_walk 104 = .ok (.goto (-41), 3) := by decide +kernel
theorem dX3_walk_107 : decode cX3_walk 107 = .ok (.iinc 4 1, 3) := by decide +kernel
theorem dX3_walk_110 : decode cX3_walk 110 = .ok (.goto (-88), 3) := by decide +kernel
theorem dX3_walk_113 : decode cX3_walk 113 = .ok (.return_, 1) := by decide +kernel
theorem dX3_visit_0 : decode cX3_visit 0 = .ok (.iload_n 1, 1) := by decide +kernel
theorem dX3_visit_1 : decode cX3_visit 1 = .ok (.ifCond .lt 41, 3) := by decide +kernel
theorem dX3_visit_4 : decode cX3_visit 4 = .ok (.iload_n 1, 1) := by decide +kernel
theorem dX3_visit_5 : decode cX3_visit 5 = .ok (.aload_n 0, 1) := by decide +kernel
theorem dX3_visit_6 : decode cX3_visit 6 = .ok (.getfield 9, 3) := by decide +kernel
theorem dX3_visit_9 : decode cX3_visit 9 = .ok (.arraylength, 1) := by decide +kernel
theorem dX3_visit_10 : decode cX3_visit 10 = .ok (.if_icmp .ge 32, 3) := by decide +kernel
theorem dX3_visit_13 : decode cX3_visit 13 = .ok (.aload_n 0, 1) := by decide +kernel
theorem dX3_visit_14 : decode cX3_visit 14 = .ok (.getfield 31, 3) := by decide +kernel
theorem dX3_visit_17 : decode cX3_visit 17 = .ok (.ifCond .lt 25, 3) := by decide +kernel
theorem dX3_visit_20 : decode cX3_visit 20 = .ok (.aload_n 0, 1) := by decide +kernel
theorem dX3_visit_21 : decode cX3_visit 21 = .ok (.getfield 31, 3) := by decide +kernel
theorem dX3_visit_24 : decode cX3_visit 24 = .ok (.aload_n 0, 1) := by decide +kernel
theorem dX3_visit_25 : decode cX3_visit 25 = .ok (.getfield 15, 3) := by decide +kernel
theorem dX3_visit_28 : decode cX3_visit 28 = .ok (.arraylength, 1) := by decide +kernel
theorem dX3_visit_29 : decode cX3_visit 29 = .ok (.if_icmp .ge 13, 3) := by decide +kernel
theorem dX3_visit_32 : decode cX3_visit 32 = .ok (.aload_n 0, 1) := by decide +kernel
theorem dX3_visit_33 : decode cX3_visit 33 = .ok (.getfield 9, 3) := by decide +kernel
theorem dX3_visit_36 : decode cX3_visit 36 = .ok (.iload_n 1, 1) := by decide +kernel
theorem dX3_visit_37 : decode cX3_visit 37 = .ok (.iaload, 1) := by decide +kernel
theorem dX3_visit_38 : decode cX3_visit 38 = .ok (.iconst (-1), 1) := by decide +kernel
theorem dX3_visit_39 : decode cX3_visit 39 = .ok (.if_icmp .eq 4, 3) := by decide +kernel
theorem dX3_visit_42 : decode cX3_visit 42 = .ok (.return_, 1) := by decide +kernel
theorem dX3_visit_43 : decode cX3_visit 43 = .ok (.aload_n 0, 1) := by decide +kernel
theorem dX3_visit_44 : decode cX3_visit 44 = .ok (.getfield 9, 3) := by decide +kernel
theorem dX3_visit_47 : decode cX3_visit 47 = .ok (.iload_n 1, 1) := by decide +kernel
theorem dX3_visit_48 : decode cX3_visit 48 = .ok (.iload_n 2, 1) := by decide +kernel
theorem dX3_visit_49 : decode cX3_visit 49 = .ok (.iastore, 1) := by decide +kernel
theorem dX3_visit_50 : decode cX3_visit 50 = .ok (.aload_n 0, 1) := by decide +kernel
theorem dX3_visit_51 : decode cX3_visit 51 = .ok (.getfield 15, 3) := by decide +kernel
theorem dX3_visit_54 : decode cX3_visit 54 = .ok (.aload_n 0, 1) := by decide +kernel
theorem dX3_visit_55 : decode cX3_visit 55 = .ok (.getfield 31, 3) := by decide +kernel
theorem dX3_visit_58 : decode cX3_visit 58 = .ok (.iload_n 1, 1) := by decide +kernel
theorem dX3_visit_59 : decode cX3_visit 59 = .ok (.iastore, 1) := by decide +kernel
theorem dX3_visit_60 : decode cX3_visit 60 = .ok (.aload_n 0, 1) := by decide +kernel
theorem dX3_visit_61 : decode cX3_visit 61 = .ok (.dup, 1) := by decide +kernel
theorem dX3_visit_62 : decode cX3_visit 62 = .ok (.getfield 31, 3) := by decide +kernel
theorem dX3_visit_65 : decode cX3_visit 65 = .ok (.iconst 1, 1) := by decide +kernel
theorem dX3_visit_66 : decode cX3_visit 66 = .ok (.iadd, 1) := by decide +kernel
theorem dX3_visit_67 : decode cX3_visit 67 = .ok (.putfield 31, 3) := by decide +kernel
theorem dX3_visit_70 : decode cX3_visit 70 = .ok (.return_, 1) := by decide +kernel
theorem dX3_stepsTo_0 : decode cX3_stepsTo 0 = .ok (.iload_n 1, 1) := by decide +kernel
theorem dX3_stepsTo_1 : decode cX3_stepsTo 1 = .ok (.ifCond .lt 21, 3) := by decide +kernel
theorem dX3_stepsTo_4 : decode cX3_stepsTo 4 = .ok (.iload_n 1, 1) := by decide +kernel
theorem dX3_stepsTo_5 : decode cX3_stepsTo 5 = .ok (.aload_n 0, 1) := by decide +kernel
theorem dX3_stepsTo_6 : decode cX3_stepsTo 6 = .ok (.getfield 9, 3) := by decide +kernel
theorem dX3_stepsTo_9 : decode cX3_stepsTo 9 = .ok (.arraylength, 1) := by decide +kernel
theorem dX3_stepsTo_10 : decode cX3_stepsTo 10 = .ok (.if_icmp .ge 12, 3) := by decide +kernel
theorem dX3_stepsTo_13 : decode cX3_stepsTo 13 = .ok (.aload_n 0, 1) := by decide +kernel
theorem dX3_stepsTo_14 : decode cX3_stepsTo 14 = .ok (.getfield 9, 3) := by decide +kernel
theorem dX3_stepsTo_17 : decode cX3_stepsTo 17 = .ok (.iload_n 1, 1) := by decide +kernel
theorem dX3_stepsTo_18 : decode cX3_stepsTo 18 = .ok (.iaload, 1) := by decide +kernel
theorem dX3_stepsTo_19 : decode cX3_stepsTo 19 = .ok (.goto 4, 3) := by decide +kernel
theorem dX3_stepsTo_22 : decode cX3_stepsTo 22 = .ok (.iconst (-1), 1) := by decide +kernel
theorem dX3_stepsTo_23 : decode cX3_stepsTo 23 = .ok (.ireturn, 1) := by decide +kernel
theorem dX3_fewestByLengths_0 : decode cX3_fewestByLengths 0 = .ok (.aload_n 0, 1) := by decide +kernel
theorem dX3_fewestByLengths_1 : decode cX3_fewestByLengths 1 = .ok (.iconst 0, 1) := by decide +kernel
theorem dX3_fewestByLengths_2 : decode cX3_fewestByLengths 2 = .ok (.lload_n 2, 1) := by decide +kernel
theorem dX3_fewestByLengths_3 : decode cX3_fewestByLengths 3 = .ok (.invokevirtual 47, 3) := by decide +kernel
theorem dX3_fewestByLengths_6 : decode cX3_fewestByLengths 6 = .ok (.aload_n 0, 1) := by decide +kernel
theorem dX3_fewestByLengths_7 : decode cX3_fewestByLengths 7 = .ok (.iload_n 1, 1) := by decide +kernel
theorem dX3_fewestByLengths_8 : decode cX3_fewestByLengths 8 = .ok (.invokevirtual 39, 3) := by decide +kernel
theorem dX3_fewestByLengths_11 : decode cX3_fewestByLengths 11 = .ok (.ireturn, 1) := by decide +kernel
theorem dX3_fewestBySets_0 : decode cX3_fewestBySets 0 = .ok (.aload_n 0, 1) := by decide +kernel
theorem dX3_fewestBySets_1 : decode cX3_fewestBySets 1 = .ok (.invokevirtual 51, 3) := by decide +kernel
theorem dX3_fewestBySets_4 : decode cX3_fewestBySets 4 = .ok (.iconst 0, 1) := by decide +kernel
theorem dX3_fewestBySets_5 : decode cX3_fewestBySets 5 = .ok (.istore 4, 2) := by decide +kernel
theorem dX3_fewestBySets_7 : decode cX3_fewestBySets 7 = .ok (.iload 4, 2) := by decide +kernel
theorem dX3_fewestBySets_9 : decode cX3_fewestBySets 9 = .ok (.sipush 200, 3) := by decide +kernel
theorem dX3_fewestBySets_12 : decode cX3_fewestBySets 12 = .ok (.if_icmp .gt 30, 3) := by decide +kernel
theorem dX3_fewestBySets_15 : decode cX3_fewestBySets 15 = .ok (.aload_n 0, 1) := by decide +kernel
theorem dX3_fewestBySets_16 : decode cX3_fewestBySets 16 = .ok (.iload_n 1, 1) := by decide +kernel
theorem dX3_fewestBySets_17 : decode cX3_fewestBySets 17 = .ok (.invokevirtual 54, 3) := by decide +kernel
theorem dX3_fewestBySets_20 : decode cX3_fewestBySets 20 = .ok (.ifCond .eq 6, 3) := by decide +kernel
theorem dX3_fewestBySets_23 : decode cX3_fewestBySets 23 = .ok (.iload 4, 2) := by decide +kernel
theorem dX3_fewestBySets_25 : decode cX3_fewestBySets 25 = .ok (.ireturn, 1) := by decide +kernel
theorem dX3_fewestBySets_26 : decode cX3_fewestBySets 26 = .ok (.aload_n 0, 1) := by decide +kernel
theorem dX3_fewestBySets_27 : decode cX3_fewestBySets 27 = .ok (.lload_n 2, 1) := by decide +kernel
theorem dX3_fewestBySets_28 : decode cX3_fewestBySets 28 = .ok (.invokevirtual 58, 3) := by decide +kernel
theorem dX3_fewestBySets_31 : decode cX3_fewestBySets 31 = .ok (.ifCond .ne 5, 3) := by decide +kernel
theorem dX3_fewestBySets_34 : decode cX3_fewestBySets 34 = .ok (.iconst (-1), 1) := by decide +kernel
theorem dX3_fewestBySets_35 : decode cX3_fewestBySets 35 = .ok (.ireturn, 1) := by decide +kernel
theorem dX3_fewestBySets_36 : decode cX3_fewestBySets 36 = .ok (.iinc 4 1, 3) := by decide +kernel
theorem dX3_fewestBySets_39 : decode cX3_fewestBySets 39 = .ok (.goto (-32), 3) := by decide +kernel
theorem dX3_fewestBySets_42 : decode cX3_fewestBySets 42 = .ok (.iconst (-1), 1) := by decide +kernel
theorem dX3_fewestBySets_43 : decode cX3_fewestBySets 43 = .ok (.ireturn, 1) := by decide +kernel
theorem dX3_layAtMost_0 : decode cX3_layAtMost 0 = .ok (.aload_n 0, 1) := by decide +kernel
theorem dX3_layAtMost_1 : decode cX3_layAtMost 1 = .ok (.invokevirtual 51, 3) := by decide +kernel
theorem dX3_layAtMost_4 : decode cX3_layAtMost 4 = .ok (.iconst 0, 1) := by decide +kernel
theorem dX3_layAtMost_5 : decode cX3_layAtMost 5 = .ok (.istore 4, 2) := by decide +kernel
theorem dX3_layAtMost_7 : decode cX3_layAtMost 7 = .ok (.iload 4, 2) := by decide +kernel
theorem dX3_layAtMost_9 : decode cX3_layAtMost 9 = .ok (.iload_n 1, 1) := by decide +kernel
theorem dX3_layAtMost_10 : decode cX3_layAtMost 10 = .ok (.if_icmp .ge 25, 3) := by decide +kernel
theorem dX3_layAtMost_13 : decode cX3_layAtMost 13 = .ok (.iload 4, 2) := by decide +kernel
theorem dX3_layAtMost_15 : decode cX3_layAtMost 15 = .ok (.bipush 6, 2) := by decide +kernel
theorem dX3_layAtMost_17 : decode cX3_layAtMost 17 = .ok (.if_icmp .ge 18, 3) := by decide +kernel
theorem dX3_layAtMost_20 : decode cX3_layAtMost 20 = .ok (.aload_n 0, 1) := by decide +kernel
theorem dX3_layAtMost_21 : decode cX3_layAtMost 21 = .ok (.lload_n 2, 1) := by decide +kernel
theorem dX3_layAtMost_22 : decode cX3_layAtMost 22 = .ok (.invokevirtual 58, 3) := by decide +kernel
theorem dX3_layAtMost_25 : decode cX3_layAtMost 25 = .ok (.ifCond .ne 4, 3) := by decide +kernel
theorem dX3_layAtMost_28 : decode cX3_layAtMost 28 = .ok (.return_, 1) := by decide +kernel
theorem dX3_layAtMost_29 : decode cX3_layAtMost 29 = .ok (.iinc 4 1, 3) := by decide +kernel
theorem dX3_layAtMost_32 : decode cX3_layAtMost 32 = .ok (.goto (-25), 3) := by decide +kernel
theorem dX3_layAtMost_35 : decode cX3_layAtMost 35 = .ok (.return_, 1) := by decide +kernel
theorem dX3_layNothing_0 : decode cX3_layNothing 0 = .ok (.aload_n 0, 1) := by decide +kernel
theorem dX3_layNothing_1 : decode cX3_layNothing 1 = .ok (.getfield 18, 3) := by decide +kernel
theorem dX3_layNothing_4 : decode cX3_layNothing 4 = .ok (.lconst 0, 1) := by decide +kernel
theorem dX3_layNothing_5 : decode cX3_layNothing 5 = .ok (.invokestatic 62, 3) := by decide +kernel
theorem dX3_layNothing_8 : decode cX3_layNothing 8 = .ok (.aload_n 0, 1) := by decide +kernel
theorem dX3_layNothing_9 : decode cX3_layNothing 9 = .ok (.getfield 18, 3) := by decide +kernel
theorem dX3_layNothing_12 : decode cX3_layNothing 12 = .ok (.arraylength, 1) := by decide +kernel
theorem dX3_layNothing_13 : decode cX3_layNothing 13 = .ok (.ifCond .le 10, 3) := by decide +kernel
theorem dX3_layNothing_16 : decode cX3_layNothing 16 = .ok (.aload_n 0, 1) := by decide +kernel
theorem dX3_layNothing_17 : decode cX3_layNothing 17 = .ok (.getfield 18, 3) := by decide +kernel
theorem dX3_layNothing_20 : decode cX3_layNothing 20 = .ok (.iconst 0, 1) := by decide +kernel
theorem dX3_layNothing_21 : decode cX3_layNothing 21 = .ok (.lconst 1, 1) := by decide +kernel
theorem dX3_layNothing_22 : decode cX3_layNothing 22 = .ok (.lastore, 1) := by decide +kernel
theorem dX3_layNothing_23 : decode cX3_layNothing 23 = .ok (.return_, 1) := by decide +kernel
theorem dX3_layOneMore_0 : decode cX3_layOneMore 0 = .ok (.iconst 0, 1) := by decide +kernel
theorem dX3_layOneMore_1 : decode cX3_layOneMore 1 = .ok (.istore_n 3, 1) := by decide +kernel
theorem dX3_layOneMore_2 : decode cX3_layOneMore 2 = .ok (.iload_n 3, 1) := by decide +kernel
theorem dX3_layOneMore_3 : decode cX3_layOneMore 3 = .ok (.iconst 4, 1) := by decide +kernel
theorem dX3_layOneMore_4 : decode cX3_layOneMore 4 = .ok (.if_icmp .ge 19, 3) := by decide +kernel
theorem dX3_layOneMore_7 : decode cX3_layOneMore 7 = .ok (.aload_n 0, 1) := by decide +kernel
theorem dX3_layOneMore_8 : decode cX3_layOneMore 8 = .ok (.iload_n 3, 1) := by decide +kernel
theorem dX3_layOneMore_9 : decode cX3_layOneMore 9 = .ok (.aload_n 0, 1) := by decide +kernel
theorem dX3_layOneMore_10 : decode cX3_layOneMore 10 = .ok (.iload_n 3, 1) := by decide +kernel
theorem dX3_layOneMore_11 : decode cX3_layOneMore 11 = .ok (.invokevirtual 65, 3) := by decide +kernel
theorem dX3_layOneMore_14 : decode cX3_layOneMore 14 = .ok (.invokevirtual 69, 3) := by decide +kernel
theorem dX3_layOneMore_17 : decode cX3_layOneMore 17 = .ok (.iinc 3 1, 3) := by decide +kernel
theorem dX3_layOneMore_20 : decode cX3_layOneMore 20 = .ok (.goto (-18), 3) := by decide +kernel
theorem dX3_layOneMore_23 : decode cX3_layOneMore 23 = .ok (.iconst 1, 1) := by decide +kernel
theorem dX3_layOneMore_24 : decode cX3_layOneMore 24 = .ok (.istore_n 3, 1) := by decide +kernel
theorem dX3_layOneMore_25 : decode cX3_layOneMore 25 = .ok (.iload_n 3, 1) := by decide +kernel
theorem dX3_layOneMore_26 : decode cX3_layOneMore 26 = .ok (.bipush 40, 2) := by decide +kernel
theorem dX3_layOneMore_28 : decode cX3_layOneMore 28 = .ok (.if_icmp .gt 22, 3) := by decide +kernel
theorem dX3_layOneMore_31 : decode cX3_layOneMore 31 = .ok (.lload_n 1, 1) := by decide +kernel
theorem dX3_layOneMore_32 : decode cX3_layOneMore 32 = .ok (.iload_n 3, 1) := by decide +kernel
theorem dX3_layOneMore_33 : decode cX3_layOneMore 33 = .ok (.invokestatic 43, 3) := by decide +kernel
theorem dX3_layOneMore_36 : decode cX3_layOneMore 36 = .ok (.ifCond .eq 8, 3) := by decide +kernel
theorem dX3_layOneMore_39 : decode cX3_layOneMore 39 = .ok (.aload_n 0, 1) := by decide +kernel
theorem dX3_layOneMore_40 : decode cX3_layOneMore 40 = .ok (.iload_n 3, 1) := by decide +kernel
theorem dX3_layOneMore_41 : decode cX3_layOneMore 41 = .ok (.invokevirtual 72, 3) := by decide +kernel
theorem dX3_layOneMore_44 : decode cX3_layOneMore 44 = .ok (.iinc 3 1, 3) := by decide +kernel
theorem dX3_layOneMore_47 : decode cX3_layOneMore 47 = .ok (.goto (-22), 3) := by decide +kernel
theorem dX3_layOneMore_50 : decode cX3_layOneMore 50 = .ok (.aload_n 0, 1) := by decide +kernel
theorem dX3_layOneMore_51 : decode cX3_layOneMore 51 = .ok (.invokevirtual 76, 3) := by decide +kernel
theorem dX3_layOneMore_54 : decode cX3_layOneMore 54 = .ok (.ireturn, 1) := by decide +kernel
theorem dX3_addMoved_0 : decode cX3_addMoved 0 = .ok (.iconst 0, 1) := by decide +kernel
theorem dX3_addMoved_1 : decode cX3_addMoved 1 = .ok (.istore_n 2, 1) := by decide +kernel
theorem dX3_addMoved_2 : decode cX3_addMoved 2 = .ok (.iload_n 2, 1) := by decide +kernel
theorem dX3_addMoved_3 : decode cX3_addMoved 3 = .ok (.aload_n 0, 1) := by decide +kernel
theorem dX3_addMoved_4 : decode cX3_addMoved 4 = .ok (.getfield 22, 3) := by decide +kernel
theorem dX3_addMoved_7 : decode cX3_addMoved 7 = .ok (.arraylength, 1) := by decide +kernel
theorem dX3_addMoved_8 : decode cX3_addMoved 8 = .ok (.if_icmp .ge 65, 3) := by decide +kernel
theorem dX3_addMoved_11 : decode cX3_addMoved 11 = .ok (.aload_n 0, 1) := by decide +kernel
theorem dX3_addMoved_12 : decode cX3_addMoved 12 = .ok (.iload_n 2, 1) := by decide +kernel
theorem dX3_addMoved_13 : decode cX3_addMoved 13 = .ok (.invokevirtual 65, 3) := by decide +kernel
theorem dX3_addMoved_16 : decode cX3_addMoved 16 = .ok (.iload_n 1, 1) := by decide +kernel
theorem dX3_addMoved_17 : decode cX3_addMoved 17 = .ok (.lshl, 1) := by decide +kernel
theorem dX3_addMoved_18 : decode cX3_addMoved 18 = .ok (.aload_n 0, 1) := by decide +kernel
theorem dX3_addMoved_19 : decode cX3_addMoved 19 = .ok (.iload_n 2, 1) := by decide +kernel
theorem dX3_addMoved_20 : decode cX3_addMoved 20 = .ok (.iconst 1, 1) := by decide +kernel
theorem dX3_addMoved_21 : decode cX3_addMoved 21 = .ok (.isub, 1) := by decide +kernel
theorem dX3_addMoved_22 : decode cX3_addMoved 22 = .ok (.invokevirtual 65, 3) := by decide +kernel
theorem dX3_addMoved_25 : decode cX3_addMoved 25 = .ok (.bipush 64, 2) := by decide +kernel
theorem dX3_addMoved_27 : decode cX3_addMoved 27 = .ok (.iload_n 1, 1) := by decide +kernel
theorem dX3_addMoved_28 : decode cX3_addMoved 28 = .ok (.isub, 1) := by decide +kernel
theorem dX3_addMoved_29 : decode cX3_addMoved 29 = .ok (.lushr, 1) := by decide +kernel
theorem dX3_addMoved_30 : decode cX3_addMoved 30 = .ok (.lor, 1) := by decide +kernel
theorem dX3_addMoved_31 : decode cX3_addMoved 31 = .ok (.lstore_n 3, 1) := by decide +kernel
theorem dX3_addMoved_32 : decode cX3_addMoved 32 = .ok (.aload_n 0, 1) := by decide +kernel
theorem dX3_addMoved_33 : decode cX3_addMoved 33 = .ok (.iload_n 2, 1) := by decide +kernel
theorem dX3_addMoved_34 : decode cX3_addMoved 34 = .ok (.invokevirtual 65, 3) := by decide +kernel
theorem dX3_addMoved_37 : decode cX3_addMoved 37 = .ok (.iload_n 1, 1) := by decide +kernel
theorem dX3_addMoved_38 : decode cX3_addMoved 38 = .ok (.lushr, 1) := by decide +kernel
theorem dX3_addMoved_39 : decode cX3_addMoved 39 = .ok (.aload_n 0, 1) := by decide +kernel
theorem dX3_addMoved_40 : decode cX3_addMoved 40 = .ok (.iload_n 2, 1) := by decide +kernel
theorem dX3_addMoved_41 : decode cX3_addMoved 41 = .ok (.iconst 1, 1) := by decide +kernel
theorem dX3_addMoved_42 : decode cX3_addMoved 42 = .ok (.iadd, 1) := by decide +kernel
theorem dX3_addMoved_43 : decode cX3_addMoved 43 = .ok (.invokevirtual 65, 3) := by decide +kernel
theorem dX3_addMoved_46 : decode cX3_addMoved 46 = .ok (.bipush 64, 2) := by decide +kernel
theorem dX3_addMoved_48 : decode cX3_addMoved 48 = .ok (.iload_n 1, 1) := by decide +kernel
theorem dX3_addMoved_49 : decode cX3_addMoved 49 = .ok (.isub, 1) := by decide +kernel
theorem dX3_addMoved_50 : decode cX3_addMoved 50 = .ok (.lshl, 1) := by decide +kernel
theorem dX3_addMoved_51 : decode cX3_addMoved 51 = .ok (.lor, 1) := by decide +kernel
theorem dX3_addMoved_52 : decode cX3_addMoved 52 = .ok (.lstore 5, 2) := by decide +kernel
theorem dX3_addMoved_54 : decode cX3_addMoved 54 = .ok (.aload_n 0, 1) := by decide +kernel
theorem dX3_addMoved_55 : decode cX3_addMoved 55 = .ok (.getfield 22, 3) := by decide +kernel
theorem dX3_addMoved_58 : decode cX3_addMoved 58 = .ok (.iload_n 2, 1) := by decide +kernel
theorem dX3_addMoved_59 : decode cX3_addMoved 59 = .ok (.dup2, 1) := by decide +kernel
theorem dX3_addMoved_60 : decode cX3_addMoved 60 = .ok (.laload, 1) := by decide +kernel
theorem dX3_addMoved_61 : decode cX3_addMoved 61 = .ok (.lload_n 3, 1) := by decide +kernel
theorem dX3_addMoved_62 : decode cX3_addMoved 62 = .ok (.lload 5, 2) := by decide +kernel
theorem dX3_addMoved_64 : decode cX3_addMoved 64 = .ok (.lor, 1) := by decide +kernel
theorem dX3_addMoved_65 : decode cX3_addMoved 65 = .ok (.lor, 1) := by decide +kernel
theorem dX3_addMoved_66 : decode cX3_addMoved 66 = .ok (.lastore, 1) := by decide +kernel
theorem dX3_addMoved_67 : decode cX3_addMoved 67 = .ok (.iinc 2 1, 3) := by decide +kernel
theorem dX3_addMoved_70 : decode cX3_addMoved 70 = .ok (.goto (-68), 3) := by decide +kernel
theorem dX3_addMoved_73 : decode cX3_addMoved 73 = .ok (.return_, 1) := by decide +kernel
theorem dX3_takeGrown_0 : decode cX3_takeGrown 0 = .ok (.iconst 0, 1) := by decide +kernel
theorem dX3_takeGrown_1 : decode cX3_takeGrown 1 = .ok (.istore_n 1, 1) := by decide +kernel
theorem dX3_takeGrown_2 : decode cX3_takeGrown 2 = .ok (.iconst 0, 1) := by decide +kernel
theorem dX3_takeGrown_3 : decode cX3_takeGrown 3 = .ok (.istore_n 2, 1) := by decide +kernel
theorem dX3_takeGrown_4 : decode cX3_takeGrown 4 = .ok (.iload_n 2, 1) := by decide +kernel
theorem dX3_takeGrown_5 : decode cX3_takeGrown 5 = .ok (.aload_n 0, 1) := by decide +kernel
theorem dX3_takeGrown_6 : decode cX3_takeGrown 6 = .ok (.getfield 18, 3) := by decide +kernel
theorem dX3_takeGrown_9 : decode cX3_takeGrown 9 = .ok (.arraylength, 1) := by decide +kernel
theorem dX3_takeGrown_10 : decode cX3_takeGrown 10 = .ok (.if_icmp .ge 71, 3) := by decide +kernel
theorem dX3_takeGrown_13 : decode cX3_takeGrown 13 = .ok (.iload_n 2, 1) := by decide +kernel
theorem dX3_takeGrown_14 : decode cX3_takeGrown 14 = .ok (.aload_n 0, 1) := by decide +kernel
theorem dX3_takeGrown_15 : decode cX3_takeGrown 15 = .ok (.getfield 22, 3) := by decide +kernel
theorem dX3_takeGrown_18 : decode cX3_takeGrown 18 = .ok (.arraylength, 1) := by decide +kernel
theorem dX3_takeGrown_19 : decode cX3_takeGrown 19 = .ok (.if_icmp .ge 62, 3) := by decide +kernel
theorem dX3_takeGrown_22 : decode cX3_takeGrown 22 = .ok (.iload_n 2, 1) := by decide +kernel
theorem dX3_takeGrown_23 : decode cX3_takeGrown 23 = .ok (.iconst 3, 1) := by decide +kernel
theorem dX3_takeGrown_24 : decode cX3_takeGrown 24 = .ok (.if_icmp .ne 16, 3) := by decide +kernel
theorem dX3_takeGrown_27 : decode cX3_takeGrown 27 = .ok (.aload_n 0, 1) := by decide +kernel
theorem dX3_takeGrown_28 : decode cX3_takeGrown 28 = .ok (.getfield 22, 3) := by decide +kernel
theorem dX3_takeGrown_31 : decode cX3_takeGrown 31 = .ok (.iload_n 2, 1) := by decide +kernel
theorem dX3_takeGrown_32 : decode cX3_takeGrown 32 = .ok (.laload, 1) := by decide +kernel
theorem dX3_takeGrown_33 : decode cX3_takeGrown 33 = .ok (.ldc2_w 80, 3) := by decide +kernel
theorem dX3_takeGrown_36 : decode cX3_takeGrown 36 = .ok (.land, 1) := by decide +kernel
theorem dX3_takeGrown_37 : decode cX3_takeGrown 37 = .ok (.goto 9, 3) := by decide +kernel
theorem dX3_takeGrown_40 : decode cX3_takeGrown 40 = .ok (.aload_n 0, 1) := by decide +kernel
theorem dX3_takeGrown_41 : decode cX3_takeGrown 41 = .ok (.getfield 22, 3) := by decide +kernel
theorem dX3_takeGrown_44 : decode cX3_takeGrown 44 = .ok (.iload_n 2, 1) := by decide +kernel
theorem dX3_takeGrown_45 : decode cX3_takeGrown 45 = .ok (.laload, 1) := by decide +kernel
theorem dX3_takeGrown_46 : decode cX3_takeGrown 46 = .ok (.lstore_n 3, 1) := by decide +kernel
theorem dX3_takeGrown_47 : decode cX3_takeGrown 47 = .ok (.iload_n 1, 1) := by decide +kernel
theorem dX3_takeGrown_48 : decode cX3_takeGrown 48 = .ok (.ifCond .ne 14, 3) := by decide +kernel
theorem dX3_takeGrown_51 : decode cX3_takeGrown 51 = .ok (.lload_n 3, 1) := by decide +kernel
theorem dX3_takeGrown_52 : decode cX3_takeGrown 52 = .ok (.aload_n 0, 1) := by decide +kernel
theorem dX3_takeGrown_53 : decode cX3_takeGrown 53 = .ok (.getfield 18, 3) := by decide +kernel
theorem dX3_takeGrown_56 : decode cX3_takeGrown 56 = .ok (.iload_n 2, 1) := by decide +kernel
theorem dX3_takeGrown_57 : decode cX3_takeGrown 57 = .ok (.laload, 1) := by decide +kernel
theorem dX3_takeGrown_58 : decode cX3_takeGrown 58 = .ok (.lcmp, 1) := by decide +kernel
theorem dX3_takeGrown_59 : decode cX3_takeGrown 59 = .ok (.ifCond .eq 7, 3) := by decide +kernel
theorem dX3_takeGrown_62 : decode cX3_takeGrown 62 = .ok (.iconst 1, 1) := by decide +kernel
theorem dX3_takeGrown_63 : decode cX3_takeGrown 63 = .ok (.goto 4, 3) := by decide +kernel
theorem dX3_takeGrown_66 : decode cX3_takeGrown 66 = .ok (.iconst 0, 1) := by decide +kernel
theorem dX3_takeGrown_67 : decode cX3_takeGrown 67 = .ok (.istore_n 1, 1) := by decide +kernel
theorem dX3_takeGrown_68 : decode cX3_takeGrown 68 = .ok (.aload_n 0, 1) := by decide +kernel
theorem dX3_takeGrown_69 : decode cX3_takeGrown 69 = .ok (.getfield 18, 3) := by decide +kernel
theorem dX3_takeGrown_72 : decode cX3_takeGrown 72 = .ok (.iload_n 2, 1) := by decide +kernel
theorem dX3_takeGrown_73 : decode cX3_takeGrown 73 = .ok (.lload_n 3, 1) := by decide +kernel
theorem dX3_takeGrown_74 : decode cX3_takeGrown 74 = .ok (.lastore, 1) := by decide +kernel
theorem dX3_takeGrown_75 : decode cX3_takeGrown 75 = .ok (.iinc 2 1, 3) := by decide +kernel
theorem dX3_takeGrown_78 : decode cX3_takeGrown 78 = .ok (.goto (-74), 3) := by decide +kernel
theorem dX3_takeGrown_81 : decode cX3_takeGrown 81 = .ok (.iload_n 1, 1) := by decide +kernel
theorem dX3_takeGrown_82 : decode cX3_takeGrown 82 = .ok (.ireturn, 1) := by decide +kernel
theorem dX3_word_0 : decode cX3_word 0 = .ok (.iload_n 1, 1) := by decide +kernel
theorem dX3_word_1 : decode cX3_word 1 = .ok (.ifCond .lt 21, 3) := by decide +kernel
theorem dX3_word_4 : decode cX3_word 4 = .ok (.iload_n 1, 1) := by decide +kernel
theorem dX3_word_5 : decode cX3_word 5 = .ok (.aload_n 0, 1) := by decide +kernel
theorem dX3_word_6 : decode cX3_word 6 = .ok (.getfield 18, 3) := by decide +kernel
theorem dX3_word_9 : decode cX3_word 9 = .ok (.arraylength, 1) := by decide +kernel
theorem dX3_word_10 : decode cX3_word 10 = .ok (.if_icmp .ge 12, 3) := by decide +kernel
theorem dX3_word_13 : decode cX3_word 13 = .ok (.aload_n 0, 1) := by decide +kernel
theorem dX3_word_14 : decode cX3_word 14 = .ok (.getfield 18, 3) := by decide +kernel
theorem dX3_word_17 : decode cX3_word 17 = .ok (.iload_n 1, 1) := by decide +kernel
theorem dX3_word_18 : decode cX3_word 18 = .ok (.laload, 1) := by decide +kernel
theorem dX3_word_19 : decode cX3_word 19 = .ok (.goto 4, 3) := by decide +kernel
theorem dX3_word_22 : decode cX3_word 22 = .ok (.lconst 0, 1) := by decide +kernel
theorem dX3_word_23 : decode cX3_word 23 = .ok (.lreturn, 1) := by decide +kernel
theorem dX3_setGrown_0 : decode cX3_setGrown 0 = .ok (.iload_n 1, 1) := by decide +kernel
theorem dX3_setGrown_1 : decode cX3_setGrown 1 = .ok (.ifCond .lt 19, 3) := by decide +kernel
theorem dX3_setGrown_4 : decode cX3_setGrown 4 = .ok (.iload_n 1, 1) := by decide +kernel
theorem dX3_setGrown_5 : decode cX3_setGrown 5 = .ok (.aload_n 0, 1) := by decide +kernel
theorem dX3_setGrown_6 : decode cX3_setGrown 6 = .ok (.getfield 22, 3) := by decide +kernel
theorem dX3_setGrown_9 : decode cX3_setGrown 9 = .ok (.arraylength, 1) := by decide +kernel
theorem dX3_setGrown_10 : decode cX3_setGrown 10 = .ok (.if_icmp .ge 10, 3) := by decide +kernel
theorem dX3_setGrown_13 : decode cX3_setGrown 13 = .ok (.aload_n 0, 1) := by decide +kernel
theorem dX3_setGrown_14 : decode cX3_setGrown 14 = .ok (.getfield 22, 3) := by decide +kernel
theorem dX3_setGrown_17 : decode cX3_setGrown 17 = .ok (.iload_n 1, 1) := by decide +kernel
theorem dX3_setGrown_18 : decode cX3_setGrown 18 = .ok (.lload_n 2, 1) := by decide +kernel
theorem dX3_setGrown_19 : decode cX3_setGrown 19 = .ok (.lastore, 1) := by decide +kernel
theorem dX3_setGrown_20 : decode cX3_setGrown 20 = .ok (.return_, 1) := by decide +kernel
theorem dX3_isLaid_0 : decode cX3_isLaid 0 = .ok (.iload_n 1, 1) := by decide +kernel
theorem dX3_isLaid_1 : decode cX3_isLaid 1 = .ok (.ifCond .lt 32, 3) := by decide +kernel
theorem dX3_isLaid_4 : decode cX3_isLaid 4 = .ok (.iload_n 1, 1) := by decide +kernel
theorem dX3_isLaid_5 : decode cX3_isLaid 5 = .ok (.sipush 200, 3) := by decide +kernel
theorem dX3_isLaid_8 : decode cX3_isLaid 8 = .ok (.if_icmp .gt 25, 3) := by decide +kernel
theorem dX3_isLaid_11 : decode cX3_isLaid 11 = .ok (.aload_n 0, 1) := by decide +kernel
theorem dX3_isLaid_12 : decode cX3_isLaid 12 = .ok (.iload_n 1, 1) := by decide +kernel
theorem dX3_isLaid_13 : decode cX3_isLaid 13 = .ok (.bipush 64, 2) := by decide +kernel
theorem dX3_isLaid_15 : decode cX3_isLaid 15 = .ok (.idiv, 1) := by decide +kernel
theorem dX3_isLaid_16 : decode cX3_isLaid 16 = .ok (.invokevirtual 65, 3) := by decide +kernel
theorem dX3_isLaid_19 : decode cX3_isLaid 19 = .ok (.iload_n 1, 1) := by decide +kernel
theorem dX3_isLaid_20 : decode cX3_isLaid 20 = .ok (.bipush 64, 2) := by decide +kernel
theorem dX3_isLaid_22 : decode cX3_isLaid 22 = .ok (.irem, 1) := by decide +kernel
theorem dX3_isLaid_23 : decode cX3_isLaid 23 = .ok (.invokestatic 43, 3) := by decide +kernel
theorem dX3_isLaid_26 : decode cX3_isLaid 26 = .ok (.ifCond .eq 7, 3) := by decide +kernel
theorem dX3_isLaid_29 : decode cX3_isLaid 29 = .ok (.iconst 1, 1) := by decide +kernel
theorem dX3_isLaid_30 : decode cX3_isLaid 30 = .ok (.goto 4, 3) := by decide +kernel
theorem dX3_isLaid_33 : decode cX3_isLaid 33 = .ok (.iconst 0, 1) := by decide +kernel
theorem dX3_isLaid_34 : decode cX3_isLaid 34 = .ok (.ireturn, 1) := by decide +kernel
theorem dX3_countLaid_0 : decode cX3_countLaid 0 = .ok (.iconst 0, 1) := by decide +kernel
theorem dX3_countLaid_1 : decode cX3_countLaid 1 = .ok (.istore_n 2, 1) := by decide +kernel
theorem dX3_countLaid_2 : decode cX3_countLaid 2 = .ok (.iconst 1, 1) := by decide +kernel
theorem dX3_countLaid_3 : decode cX3_countLaid 3 = .ok (.istore_n 3, 1) := by decide +kernel
theorem dX3_countLaid_4 : decode cX3_countLaid 4 = .ok (.iload_n 3, 1) := by decide +kernel
theorem dX3_countLaid_5 : decode cX3_countLaid 5 = .ok (.iload_n 1, 1) := by decide +kernel
theorem dX3_countLaid_6 : decode cX3_countLaid 6 = .ok (.if_icmp .gt 27, 3) := by decide +kernel
theorem dX3_countLaid_9 : decode cX3_countLaid 9 = .ok (.iload_n 3, 1) := by decide +kernel
theorem dX3_countLaid_10 : decode cX3_countLaid 10 = .ok (.sipush 150, 3) := by decide +kernel
theorem dX3_countLaid_13 : decode cX3_countLaid 13 = .ok (.if_icmp .gt 20, 3) := by decide +kernel
theorem dX3_countLaid_16 : decode cX3_countLaid 16 = .ok (.aload_n 0, 1) := by decide +kernel
theorem dX3_countLaid_17 : decode cX3_countLaid 17 = .ok (.iload_n 3, 1) := by decide +kernel
theorem dX3_countLaid_18 : decode cX3_countLaid 18 = .ok (.invokevirtual 54, 3) := by decide +kernel
theorem dX3_countLaid_21 : decode cX3_countLaid 21 = .ok (.ifCond .eq 6, 3) := by decide +kernel
theorem dX3_countLaid_24 : decode cX3_countLaid 24 = .ok (.iinc 2 1, 3) := by decide +kernel
theorem dX3_countLaid_27 : decode cX3_countLaid 27 = .ok (.iinc 3 1, 3) := by decide +kernel
theorem dX3_countLaid_30 : decode cX3_countLaid 30 = .ok (.goto (-26), 3) := by decide +kernel
theorem dX3_countLaid_33 : decode cX3_countLaid 33 = .ok (.iload_n 2, 1) := by decide +kernel
theorem dX3_countLaid_34 : decode cX3_countLaid 34 = .ok (.ireturn, 1) := by decide +kernel
theorem dX3_startsGap_0 : decode cX3_startsGap 0 = .ok (.aload_n 0, 1) := by decide +kernel
theorem dX3_startsGap_1 : decode cX3_startsGap 1 = .ok (.iload_n 1, 1) := by decide +kernel
theorem dX3_startsGap_2 : decode cX3_startsGap 2 = .ok (.invokevirtual 54, 3) := by decide +kernel
theorem dX3_startsGap_5 : decode cX3_startsGap 5 = .ok (.ifCond .ne 17, 3) := by decide +kernel
theorem dX3_startsGap_8 : decode cX3_startsGap 8 = .ok (.aload_n 0, 1) := by decide +kernel
theorem dX3_startsGap_9 : decode cX3_startsGap 9 = .ok (.iload_n 1, 1) := by decide +kernel
theorem dX3_startsGap_10 : decode cX3_startsGap 10 = .ok (.iconst 1, 1) := by decide +kernel
theorem dX3_startsGap_11 : decode cX3_startsGap 11 = .ok (.isub, 1) := by decide +kernel
theorem dX3_startsGap_12 : decode cX3_startsGap 12 = .ok (.invokevirtual 54, 3) := by decide +kernel
theorem dX3_startsGap_15 : decode cX3_startsGap 15 = .ok (.ifCond .eq 7, 3) := by decide +kernel
theorem dX3_startsGap_18 : decode cX3_startsGap 18 = .ok (.iconst 1, 1) := by decide +kernel
theorem dX3_startsGap_19 : decode cX3_startsGap 19 = .ok (.goto 4, 3) := by decide +kernel
theorem dX3_startsGap_22 : decode cX3_startsGap 22 = .ok (.iconst 0, 1) := by decide +kernel
theorem dX3_startsGap_23 : decode cX3_startsGap 23 = .ok (.ireturn, 1) := by decide +kernel
theorem dX3_countGaps_0 : decode cX3_countGaps 0 = .ok (.iconst 0, 1) := by decide +kernel
theorem dX3_countGaps_1 : decode cX3_countGaps 1 = .ok (.istore_n 2, 1) := by decide +kernel
theorem dX3_countGaps_2 : decode cX3_countGaps 2 = .ok (.iconst 1, 1) := by decide +kernel
theorem dX3_countGaps_3 : decode cX3_countGaps 3 = .ok (.istore_n 3, 1) := by decide +kernel
theorem dX3_countGaps_4 : decode cX3_countGaps 4 = .ok (.iload_n 3, 1) := by decide +kernel
theorem dX3_countGaps_5 : decode cX3_countGaps 5 = .ok (.iload_n 1, 1) := by decide +kernel
theorem dX3_countGaps_6 : decode cX3_countGaps 6 = .ok (.if_icmp .gt 27, 3) := by decide +kernel
theorem dX3_countGaps_9 : decode cX3_countGaps 9 = .ok (.iload_n 3, 1) := by decide +kernel
theorem dX3_countGaps_10 : decode cX3_countGaps 10 = .ok (.sipush 150, 3) := by decide +kernel
theorem dX3_countGaps_13 : decode cX3_countGaps 13 = .ok (.if_icmp .gt 20, 3) := by decide +kernel
theorem dX3_countGaps_16 : decode cX3_countGaps 16 = .ok (.aload_n 0, 1) := by decide +kernel
theorem dX3_countGaps_17 : decode cX3_countGaps 17 = .ok (.iload_n 3, 1) := by decide +kernel
theorem dX3_countGaps_18 : decode cX3_countGaps 18 = .ok (.invokevirtual 82, 3) := by decide +kernel
theorem dX3_countGaps_21 : decode cX3_countGaps 21 = .ok (.ifCond .eq 6, 3) := by decide +kernel
theorem dX3_countGaps_24 : decode cX3_countGaps 24 = .ok (.iinc 2 1, 3) := by decide +kernel
theorem dX3_countGaps_27 : decode cX3_countGaps 27 = .ok (.iinc 3 1, 3) := by decide +kernel
theorem dX3_countGaps_30 : decode cX3_countGaps 30 = .ok (.goto (-26), 3) := by decide +kernel
theorem dX3_countGaps_33 : decode cX3_countGaps 33 = .ok (.iload_n 2, 1) := by decide +kernel
theorem dX3_countGaps_34 : decode cX3_countGaps 34 = .ok (.ireturn, 1) := by decide +kernel
theorem dX3_gapStart_0 : decode cX3_gapStart 0 = .ok (.iload_n 1, 1) := by decide +kernel
theorem dX3_gapStart_1 : decode cX3_gapStart 1 = .ok (.istore_n 3, 1) := by decide +kernel
theorem dX3_gapStart_2 : decode cX3_gapStart 2 = .ok (.iconst 1, 1) := by decide +kernel
theorem dX3_gapStart_3 : decode cX3_gapStart 3 = .ok (.istore 4, 2) := by decide +kernel
theorem dX3_gapStart_5 : decode cX3_gapStart 5 = .ok (.iload 4, 2) := by decide +kernel
theorem dX3_gapStart_7 : decode cX3_gapStart 7 = .ok (.iload_n 2, 1) := by decide +kernel
theorem dX3_gapStart_8 : decode cX3_gapStart 8 = .ok (.if_icmp .gt 36, 3) := by decide +kernel
theorem dX3_gapStart_11 : decode cX3_gapStart 11 = .ok (.iload 4, 2) := by decide +kernel
theorem dX3_gapStart_13 : decode cX3_gapStart 13 = .ok (.sipush 150, 3) := by decide +kernel
theorem dX3_gapStart_16 : decode cX3_gapStart 16 = .ok (.if_icmp .gt 28, 3) := by decide +kernel
theorem dX3_gapStart_19 : decode cX3_gapStart 19 = .ok (.aload_n 0, 1) := by decide +kernel
theorem dX3_gapStart_20 : decode cX3_gapStart 20 = .ok (.iload 4, 2) := by decide +kernel
theorem dX3_gapStart_22 : decode cX3_gapStart 22 = .ok (.invokevirtual 82, 3) := by decide +kernel
theorem dX3_gapStart_25 : decode cX3_gapStart 25 = .ok (.ifCond .eq 13, 3) := by decide +kernel
theorem dX3_gapStart_28 : decode cX3_gapStart 28 = .ok (.iload_n 3, 1) := by decide +kernel
theorem dX3_gapStart_29 : decode cX3_gapStart 29 = .ok (.ifCond .ne 6, 3) := by decide +kernel
theorem dX3_gapStart_32 : decode cX3_gapStart 32 = .ok (.iload 4, 2) := by decide +kernel
theorem dX3_gapStart_34 : decode cX3_gapStart 34 = .ok (.ireturn, 1) := by decide +kernel
theorem dX3_gapStart_35 : decode cX3_gapStart 35 = .ok (.iinc 3 (-1), 3) := by decide +kernel
theorem dX3_gapStart_38 : decode cX3_gapStart 38 = .ok (.iinc 4 1, 3) := by decide +kernel
theorem dX3_gapStart_41 : decode cX3_gapStart 41 = .ok (.goto (-36), 3) := by decide +kernel
theorem dX3_gapStart_44 : decode cX3_gapStart 44 = .ok (.iconst (-1), 1) := by decide +kernel
theorem dX3_gapStart_45 : decode cX3_gapStart 45 = .ok (.ireturn, 1) := by decide +kernel
theorem dX3_gapLength_0 : decode cX3_gapLength 0 = .ok (.iconst 0, 1) := by decide +kernel
theorem dX3_gapLength_1 : decode cX3_gapLength 1 = .ok (.istore_n 3, 1) := by decide +kernel
theorem dX3_gapLength_2 : decode cX3_gapLength 2 = .ok (.iload_n 1, 1) := by decide +kernel
theorem dX3_gapLength_3 : decode cX3_gapLength 3 = .ok (.istore 4, 2) := by decide +kernel
theorem dX3_gapLength_5 : decode cX3_gapLength 5 = .ok (.iload 4, 2) := by decide +kernel
theorem dX3_gapLength_7 : decode cX3_gapLength 7 = .ok (.iload_n 2, 1) := by decide +kernel
theorem dX3_gapLength_8 : decode cX3_gapLength 8 = .ok (.if_icmp .gt 31, 3) := by decide +kernel
theorem dX3_gapLength_11 : decode cX3_gapLength 11 = .ok (.iload 4, 2) := by decide +kernel
theorem dX3_gapLength_13 : decode cX3_gapLength 13 = .ok (.sipush 150, 3) := by decide +kernel
theorem dX3_gapLength_16 : decode cX3_gapLength 16 = .ok (.if_icmp .gt 23, 3) := by decide +kernel
theorem dX3_gapLength_19 : decode cX3_gapLength 19 = .ok (.aload_n 0, 1) := by decide +kernel
theorem dX3_gapLength_20 : decode cX3_gapLength 20 = .ok (.iload 4, 2) := by decide +kernel
theorem dX3_gapLength_22 : decode cX3_gapLength 22 = .ok (.invokevirtual 54, 3) := by decide +kernel
theorem dX3_gapLength_25 : decode cX3_gapLength 25 = .ok (.ifCond .eq 5, 3) := by decide +kernel
theorem dX3_gapLength_28 : decode cX3_gapLength 28 = .ok (.iload_n 3, 1) := by decide +kernel
theorem dX3_gapLength_29 : decode cX3_gapLength 29 = .ok (.ireturn, 1) := by decide +kernel
theorem dX3_gapLength_30 : decode cX3_gapLength 30 = .ok (.iinc 3 1, 3) := by decide +kernel
theorem dX3_gapLength_33 : decode cX3_gapLength 33 = .ok (.iinc 4 1, 3) := by decide +kernel
theorem dX3_gapLength_36 : decode cX3_gapLength 36 = .ok (.goto (-31), 3) := by decide +kernel
theorem dX3_gapLength_39 : decode cX3_gapLength 39 = .ok (.iload_n 3, 1) := by decide +kernel
theorem dX3_gapLength_40 : decode cX3_gapLength 40 = .ok (.ireturn, 1) := by decide +kernel
theorem dX4_init_0 : decode cX4_init 0 = .ok (.aload_n 0, 1) := by decide +kernel
theorem dX4_init_1 : decode cX4_init 1 = .ok (.invokespecial 3, 3) := by decide +kernel
theorem dX4_init_4 : decode cX4_init 4 = .ok (.aload_n 0, 1) := by decide +kernel
theorem dX4_init_5 : decode cX4_init 5 = .ok (.iconst 4, 1) := by decide +kernel
theorem dX4_init_6 : decode cX4_init 6 = .ok (.newarray .int, 2) := by decide +kernel
theorem dX4_init_8 : decode cX4_init 8 = .ok (.putfield 9, 3) := by decide +kernel
theorem dX4_init_11 : decode cX4_init 11 = .ok (.aload_n 0, 1) := by decide +kernel
theorem dX4_init_12 : decode cX4_init 12 = .ok (.iconst 4, 1) := by decide +kernel
theorem dX4_init_13 : decode cX4_init 13 = .ok (.newarray .long, 2) := by decide +kernel
theorem dX4_init_15 : decode cX4_init 15 = .ok (.putfield 15, 3) := by decide +kernel
theorem dX4_init_18 : decode cX4_init 18 = .ok (.aload_n 0, 1) := by decide +kernel
theorem dX4_init_19 : decode cX4_init 19 = .ok (.invokevirtual 19, 3) := by decide +kernel
theorem dX4_init_22 : decode cX4_init 22 = .ok (.return_, 1) := by decide +kernel
theorem dX4_begin_0 : decode cX4_begin 0 = .ok (.aload_n 0, 1) := by decide +kernel
theorem dX4_begin_1 : decode cX4_begin 1 = .ok (.iconst 0, 1) := by decide +kernel
theorem dX4_begin_2 : decode cX4_begin 2 = .ok (.putfield 22, 3) := by decide +kernel
theorem dX4_begin_5 : decode cX4_begin 5 = .ok (.aload_n 0, 1) := by decide +kernel
theorem dX4_begin_6 : decode cX4_begin 6 = .ok (.iconst 2, 1) := by decide +kernel
theorem dX4_begin_7 : decode cX4_begin 7 = .ok (.putfield 26, 3) := by decide +kernel
theorem dX4_begin_10 : decode cX4_begin 10 = .ok (.aload_n 0, 1) := by decide +kernel
theorem dX4_begin_11 : decode cX4_begin 11 = .ok (.bipush 40, 2) := by decide +kernel
theorem dX4_begin_13 : decode cX4_begin 13 = .ok (.putfield 29, 3) := by decide +kernel
theorem dX4_begin_16 : decode cX4_begin 16 = .ok (.return_, 1) := by decide +kernel
theorem dX4_become_0 : decode cX4_become 0 = .ok (.aload_n 1, 1) := by decide +kernel
theorem dX4_become_1 : decode cX4_become 1 = .ok (.ifnonnull 4, 3) := by decide +kernel
theorem dX4_become_4 : decode cX4_become 4 = .ok (.return_, 1) := by decide +kernel
theorem dX4_become_5 : decode cX4_become 5 = .ok (.iconst 0, 1) := by decide +kernel
theorem dX4_become_6 : decode cX4_become 6 = .ok (.istore_n 2, 1) := by decide +kernel
theorem dX4_become_7 : decode cX4_become 7 = .ok (.iload_n 2, 1) := by decide +kernel
theorem dX4_become_8 : decode cX4_become 8 = .ok (.iconst 4, 1) := by decide +kernel
theorem dX4_become_9 : decode cX4_become 9 = .ok (.if_icmp .ge 24, 3) := by decide +kernel
theorem dX4_become_12 : decode cX4_become 12 = .ok (.aload_n 0, 1) := by decide +kernel
theorem dX4_become_13 : decode cX4_become 13 = .ok (.iload_n 2, 1) := by decide +kernel
theorem dX4_become_14 : decode cX4_become 14 = .ok (.aload_n 1, 1) := by decide +kernel
theorem dX4_become_15 : decode cX4_become 15 = .ok (.iload_n 2, 1) := by decide +kernel
theorem dX4_become_16 : decode cX4_become 16 = .ok (.invokevirtual 32, 3) := by decide +kernel
theorem dX4_become_19 : decode cX4_become 19 = .ok (.aload_n 1, 1) := by decide +kernel
theorem dX4_become_20 : decode cX4_become 20 = .ok (.iload_n 2, 1) := by decide +kernel
theorem dX4_become_21 : decode cX4_become 21 = .ok (.invokevirtual 36, 3) := by decide +kernel
theorem dX4_become_24 : decode cX4_become 24 = .ok (.invokevirtual 40, 3) := by decide +kernel
theorem dX4_become_27 : decode cX4_become 27 = .ok (.iinc 2 1, 3) := by decide +kernel
theorem dX4_become_30 : decode cX4_become 30 = .ok (.goto (-23), 3) := by decide +kernel
theorem dX4_become_33 : decode cX4_become 33 = .ok (.aload_n 0, 1) := by decide +kernel
theorem dX4_become_34 : decode cX4_become 34 = .ok (.aload_n 1, 1) := by decide +kernel
theorem dX4_become_35 : decode cX4_become 35 = .ok (.getfield 22, 3) := by decide +kernel
theorem dX4_become_38 : decode cX4_become 38 = .ok (.putfield 22, 3) := by decide +kernel
theorem dX4_become_41 : decode cX4_become 41 = .ok (.aload_n 0, 1) := by decide +kernel
theorem dX4_become_42 : decode cX4_become 42 = .ok (.aload_n 1, 1) := by decide +kernel
theorem dX4_become_43 : decode cX4_become 43 = .ok (.getfield 26, 3) := by decide +kernel
theorem dX4_become_46 : decode cX4_become 46 = .ok (.putfield 26, 3) := by decide +kernel
theorem dX4_become_49 : decode cX4_become 49 = .ok (.aload_n 0, 1) := by decide +kernel
theorem dX4_become_50 : decode cX4_become 50 = .ok (.aload_n 1, 1) := by decide +kernel
theorem dX4_become_51 : decode cX4_become 51 = .ok (.getfield 29, 3) := by decide +kernel
theorem dX4_become_54 : decode cX4_become 54 = .ok (.putfield 29, 3) := by decide +kernel
theorem dX4_become_57 : decode cX4_become 57 = .ok (.return_, 1) := by decide +kernel
theorem dX4_put_0 : decode cX4_put 0 = .ok (.iload_n 1, 1) := by decide +kernel
theorem dX4_put_1 : decode cX4_put 1 = .ok (.ifCond .lt 35, 3) := by decide +kernel
theorem dX4_put_4 : decode cX4_put 4 = .ok (.iload_n 1, 1) := by decide +kernel
theorem dX4_put_5 : decode cX4_put 5 = .ok (.aload_n 0, 1) := by decide +kernel
theorem dX4_put_6 : decode cX4_put 6 = .ok (.getfield 9, 3) := by decide +kernel
theorem dX4_put_9 : decode cX4_put 9 = .ok (.arraylength, 1) := by decide +kernel
theorem dX4_put_10 : decode cX4_put 10 = .ok (.if_icmp .ge 26, 3) := by decide +kernel
theorem dX4_put_13 : decode cX4_put 13 = .ok (.iload_n 1, 1) := by decide +kernel
theorem dX4_put_14 : decode cX4_put 14 = .ok (.aload_n 0, 1) := by decide +kernel
theorem dX4_put_15 : decode cX4_put 15 = .ok (.getfield 15, 3) := by decide +kernel
theorem dX4_put_18 : decode cX4_put 18 = .ok (.arraylength, 1) := by decide +kernel
theorem dX4_put_19 : decode cX4_put 19 = .ok (.if_icmp .ge 17, 3) := by decide +kernel
theorem dX4_put_22 : decode cX4_put 22 = .ok (.aload_n 0, 1) := by decide +kernel
theorem dX4_put_23 : decode cX4_put 23 = .ok (.getfield 9, 3) := by decide +kernel
theorem dX4_put_26 : decode cX4_put 26 = .ok (.iload_n 1, 1) := by decide +kernel
theorem dX4_put_27 : decode cX4_put 27 = .ok (.iload_n 2, 1) := by decide +kernel
theorem dX4_put_28 : decode cX4_put 28 = .ok (.iastore, 1) := by decide +kernel
theorem dX4_put_29 : decode cX4_put 29 = .ok (.aload_n 0, 1) := by decide +kernel
theorem dX4_put_30 : decode cX4_put 30 = .ok (.getfield 15, 3) := by decide +kernel
theorem dX4_put_33 : decode cX4_put 33 = .ok (.iload_n 1, 1) := by decide +kernel
theorem dX4_put_34 : decode cX4_put 34 = .ok (.lload_n 3, 1) := by decide +kernel
theorem dX4_put_35 : decode cX4_put 35 = .ok (.lastore, 1) := by decide +kernel
theorem dX4_put_36 : decode cX4_put 36 = .ok (.return_, 1) := by decide +kernel
theorem dX4_rulers_0 : decode cX4_rulers 0 = .ok (.aload_n 0, 1) := by decide +kernel
theorem dX4_rulers_1 : decode cX4_rulers 1 = .ok (.getfield 22, 3) := by decide +kernel
theorem dX4_rulers_4 : decode cX4_rulers 4 = .ok (.ireturn, 1) := by decide +kernel
theorem dX4_allowed_0 : decode cX4_allowed 0 = .ok (.aload_n 0, 1) := by decide +kernel
theorem dX4_allowed_1 : decode cX4_allowed 1 = .ok (.getfield 26, 3) := by decide +kernel
theorem dX4_allowed_4 : decode cX4_allowed 4 = .ok (.ireturn, 1) := by decide +kernel
theorem dX4_range_0 : decode cX4_range 0 = .ok (.aload_n 0, 1) := by decide +kernel
theorem dX4_range_1 : decode cX4_range 1 = .ok (.getfield 29, 3) := by decide +kernel
theorem dX4_range_4 : decode cX4_range 4 = .ok (.ireturn, 1) := by decide +kernel
theorem dX4_hasRuler_0 : decode cX4_hasRuler 0 = .ok (.iload_n 1, 1) := by decide +kernel
theorem dX4_hasRuler_1 : decode cX4_hasRuler 1 = .ok (.ifCond .lt 15, 3) := by decide +kernel
theorem dX4_hasRuler_4 : decode cX4_hasRuler 4 = .ok (.iload_n 1, 1) := by decide +kernel
theorem dX4_hasRuler_5 : decode cX4_hasRuler 5 = .ok (.aload_n 0, 1) := by decide +kernel
theorem dX4_hasRuler_6 : decode cX4_hasRuler 6 = .ok (.getfield 22, 3) := by decide +kernel
theorem dX4_hasRuler_9 : decode cX4_hasRuler 9 = .ok (.if_icmp .ge 7, 3) := by decide +kernel
theorem dX4_hasRuler_12 : decode cX4_hasRuler 12 = .ok (.iconst 1, 1) := by decide +kernel
theorem dX4_hasRuler_13 : decode cX4_hasRuler 13 = .ok (.goto 4, 3) := by decide +kernel
theorem dX4_hasRuler_16 : decode cX4_hasRuler 16 = .ok (.iconst 0, 1) := by decide +kernel
theorem dX4_hasRuler_17 : decode cX4_hasRuler 17 = .ok (.ireturn, 1) := by decide +kernel
theorem dX4_size_0 : decode cX4_size 0 = .ok (.iload_n 1, 1) := by decide +kernel
theorem dX4_size_1 : decode cX4_size 1 = .ok (.ifCond .lt 29, 3) := by decide +kernel
theorem dX4_size_4 : decode cX4_size 4 = .ok (.iload_n 1, 1) := by decide +kernel
theorem dX4_size_5 : decode cX4_size 5 = .ok (.aload_n 0, 1) := by decide +kernel
theorem dX4_size_6 : decode cX4_size 6 = .ok (.getfield 22, 3) := by decide +kernel
theorem dX4_size_9 : decode cX4_size 9 = .ok (.if_icmp .ge 21, 3) := by decide +kernel
theorem dX4_size_12 : decode cX4_size 12 = .ok (.iload_n 1, 1) := by decide +kernel
theorem dX4_size_13 : decode cX4_size 13 = .ok (.aload_n 0, 1) := by decide +kernel
theorem dX4_size_14 : decode cX4_size 14 = .ok (.getfield 9, 3) := by decide +kernel
theorem dX4_size_17 : decode cX4_size 17 = .ok (.arraylength, 1) := by decide +kernel
theorem dX4_size_18 : decode cX4_size 18 = .ok (.if_icmp .ge 12, 3) := by decide +kernel
theorem dX4_size_21 : decode cX4_size 21 = .ok (.aload_n 0, 1) := by decide +kernel
theorem dX4_size_22 : decode cX4_size 22 = .ok (.getfield 9, 3) := by decide +kernel
theorem dX4_size_25 : decode cX4_size 25 = .ok (.iload_n 1, 1) := by decide +kernel
theorem dX4_size_26 : decode cX4_size 26 = .ok (.iaload, 1) := by decide +kernel
theorem dX4_size_27 : decode cX4_size 27 = .ok (.goto 4, 3) := by decide +kernel
theorem dX4_size_30 : decode cX4_size 30 = .ok (.iconst 0, 1) := by decide +kernel
theorem dX4_size_31 : decode cX4_size 31 = .ok (.ireturn, 1) := by decide +kernel
theorem dX4_row_0 : decode cX4_row 0 = .ok (.iload_n 1, 1) := by decide +kernel
theorem dX4_row_1 : decode cX4_row 1 = .ok (.ifCond .lt 29, 3) := by decide +kernel
theorem dX4_row_4 : decode cX4_row 4 = .ok (.iload_n 1, 1) := by decide +kernel
theorem dX4_row_5 : decode cX4_row 5 = .ok (.aload_n 0, 1) := by decide +kernel
theorem dX4_row_6 : decode cX4_row 6 = .ok (.getfield 22, 3) := by decide +kernel
theorem dX4_row_9 : decode cX4_row 9 = .ok (.if_icmp .ge 21, 3) := by decide +kernel
theorem dX4_row_12 : decode cX4_row 12 = .ok (.iload_n 1, 1) := by decide +kernel
theorem dX4_row_13 : decode cX4_row 13 = .ok (.aload_n 0, 1) := by decide +kernel
theorem dX4_row_14 : decode cX4_row 14 = .ok (.getfield 15, 3) := by decide +kernel
theorem dX4_row_17 : decode cX4_row 17 = .ok (.arraylength, 1) := by decide +kernel
theorem dX4_row_18 : decode cX4_row 18 = .ok (.if_icmp .ge 12, 3) := by decide +kernel
theorem dX4_row_21 : decode cX4_row 21 = .ok (.aload_n 0, 1) := by decide +kernel
theorem dX4_row_22 : decode cX4_row 22 = .ok (.getfield 15, 3) := by decide +kernel
theorem dX4_row_25 : decode cX4_row 25 = .ok (.iload_n 1, 1) := by decide +kernel
theorem dX4_row_26 : decode cX4_row 26 = .ok (.laload, 1) := by decide +kernel
theorem dX4_row_27 : decode cX4_row 27 = .ok (.goto 4, 3) := by decide +kernel
theorem dX4_row_30 : decode cX4_row 30 = .ok (.lconst 0, 1) := by decide +kernel
theorem dX4_row_31 : decode cX4_row 31 = .ok (.lreturn, 1) := by decide +kernel
theorem dX4_hasPlace_0 : decode cX4_hasPlace 0 = .ok (.aload_n 0, 1) := by decide +kernel
theorem dX4_hasPlace_1 : decode cX4_hasPlace 1 = .ok (.iload_n 1, 1) := by decide +kernel
theorem dX4_hasPlace_2 : decode cX4_hasPlace 2 = .ok (.invokevirtual 44, 3) := by decide +kernel
theorem dX4_hasPlace_5 : decode cX4_hasPlace 5 = .ok (.ifCond .eq 20, 3) := by decide +kernel
theorem dX4_hasPlace_8 : decode cX4_hasPlace 8 = .ok (.iload_n 2, 1) := by decide +kernel
theorem dX4_hasPlace_9 : decode cX4_hasPlace 9 = .ok (.ifCond .lt 16, 3) := by decide +kernel
theorem dX4_hasPlace_12 : decode cX4_hasPlace 12 = .ok (.iload_n 2, 1) := by decide +kernel
theorem dX4_hasPlace_13 : decode cX4_hasPlace 13 = .ok (.aload_n 0, 1) := by decide +kernel
theorem dX4_hasPlace_14 : decode cX4_hasPlace 14 = .ok (.iload_n 1, 1) := by decide +kernel
theorem dX4_hasPlace_15 : decode cX4_hasPlace 15 = .ok (.invokevirtual 32, 3) := by decide +kernel
theorem dX4_hasPlace_18 : decode cX4_hasPlace 18 = .ok (.if_icmp .gt 7, 3) := by decide +kernel
theorem dX4_hasPlace_21 : decode cX4_hasPlace 21 = .ok (.iconst 1, 1) := by decide +kernel
theorem dX4_hasPlace_22 : decode cX4_hasPlace 22 = .ok (.goto 4, 3) := by decide +kernel
theorem dX4_hasPlace_25 : decode cX4_hasPlace 25 = .ok (.iconst 0, 1) := by decide +kernel
theorem dX4_hasPlace_26 : decode cX4_hasPlace 26 = .ok (.ireturn, 1) := by decide +kernel
theorem dX4_hasMark_0 : decode cX4_hasMark 0 = .ok (.aload_n 0, 1) := by decide +kernel
theorem dX4_hasMark_1 : decode cX4_hasMark 1 = .ok (.iload_n 1, 1) := by decide +kernel
theorem dX4_hasMark_2 : decode cX4_hasMark 2 = .ok (.invokevirtual 36, 3) := by decide +kernel
theorem dX4_hasMark_5 : decode cX4_hasMark 5 = .ok (.iload_n 2, 1) := by decide +kernel
theorem dX4_hasMark_6 : decode cX4_hasMark 6 = .ok (.invokestatic 48, 3) := by decide +kernel
theorem dX4_hasMark_9 : decode cX4_hasMark 9 = .ok (.ireturn, 1) := by decide +kernel
theorem dX4_isEnd_0 : decode cX4_isEnd 0 = .ok (.iload_n 2, 1) := by decide +kernel
theorem dX4_isEnd_1 : decode cX4_isEnd 1 = .ok (.ifCond .eq 12, 3) := by decide +kernel
theorem dX4_isEnd_4 : decode cX4_isEnd 4 = .ok (.iload_n 2, 1) := by decide +kernel
theorem dX4_isEnd_5 : decode cX4_isEnd 5 = .ok (.aload_n 0, 1) := by decide +kernel
theorem dX4_isEnd_6 : decode cX4_isEnd 6 = .ok (.iload_n 1, 1) := by decide +kernel
theorem dX4_isEnd_7 : decode cX4_isEnd 7 = .ok (.invokevirtual 32, 3) := by decide +kernel
theorem dX4_isEnd_10 : decode cX4_isEnd 10 = .ok (.if_icmp .ne 7, 3) := by decide +kernel
theorem dX4_isEnd_13 : decode cX4_isEnd 13 = .ok (.iconst 1, 1) := by decide +kernel
theorem dX4_isEnd_14 : decode cX4_isEnd 14 = .ok (.goto 4, 3) := by decide +kernel
theorem dX4_isEnd_17 : decode cX4_isEnd 17 = .ok (.iconst 0, 1) := by decide +kernel
theorem dX4_isEnd_18 : decode cX4_isEnd 18 = .ok (.ireturn, 1) := by decide +kernel
theorem dX4_marksOf_0 : decode cX4_marksOf 0 = .ok (.aload_n 0, 1) := by decide +kernel
theorem dX4_marksOf_1 : decode cX4_marksOf 1 = .ok (.iload_n 1, 1) := by decide +kernel
theorem dX4_marksOf_2 : decode cX4_marksOf 2 = .ok (.invokevirtual 36, 3) := by decide +kernel
theorem dX4_marksOf_5 : decode cX4_marksOf 5 = .ok (.invokestatic 52, 3) := by decide +kernel
theorem dX4_marksOf_8 : decode cX4_marksOf 8 = .ok (.ireturn, 1) := by decide +kernel
theorem dX4_innerMarks_0 : decode cX4_innerMarks 0 = .ok (.aload_n 0, 1) := by decide +kernel
theorem dX4_innerMarks_1 : decode cX4_innerMarks 1 = .ok (.iload_n 1, 1) := by decide +kernel
theorem dX4_innerMarks_2 : decode cX4_innerMarks 2 = .ok (.invokevirtual 36, 3) := by decide +kernel
theorem dX4_innerMarks_5 : decode cX4_innerMarks 5 = .ok (.ldc2_w 58, 3) := by decide +kernel
theorem dX4_innerMarks_8 : decode cX4_innerMarks 8 = .ok (.land, 1) := by decide +kernel
theorem dX4_innerMarks_9 : decode cX4_innerMarks 9 = .ok (.lconst 1, 1) := by decide +kernel
theorem dX4_innerMarks_10 : decode cX4_innerMarks 10 = .ok (.aload_n 0, 1) := by decide +kernel
theorem dX4_innerMarks_11 : decode cX4_innerMarks 11 = .ok (.iload_n 1, 1) := by decide +kernel
theorem dX4_innerMarks_12 : decode cX4_innerMarks 12 = .ok (.invokevirtual 32, 3) := by decide +kernel
theorem dX4_innerMarks_15 : decode cX4_innerMarks 15 = .ok (.lshl, 1) := by decide +kernel
theorem dX4_innerMarks_16 : decode cX4_innerMarks 16 = .ok (.ldc2_w 60, 3) := by decide +kernel
theorem dX4_innerMarks_19 : decode cX4_innerMarks 19 = .ok (.lxor, 1) := by decide +kernel
theorem dX4_innerMarks_20 : decode cX4_innerMarks 20 = .ok (.land, 1) := by decide +kernel
theorem dX4_innerMarks_21 : decode cX4_innerMarks 21 = .ok (.lreturn, 1) := by decide +kernel
theorem dX4_spansOf_0 : decode cX4_spansOf 0 = .ok (.aload_n 0, 1) := by decide +kernel
theorem dX4_spansOf_1 : decode cX4_spansOf 1 = .ok (.iload_n 1, 1) := by decide +kernel
theorem dX4_spansOf_2 : decode cX4_spansOf 2 = .ok (.invokevirtual 62, 3) := by decide +kernel
theorem dX4_spansOf_5 : decode cX4_spansOf 5 = .ok (.aload_n 0, 1) := by decide +kernel
theorem dX4_spansOf_6 : decode cX4_spansOf 6 = .ok (.iload_n 1, 1) := by decide +kernel
theorem dX4_spansOf_7 : decode cX4_spansOf 7 = .ok (.invokevirtual 62, 3) := by decide +kernel
theorem dX4_spansOf_10 : decode cX4_spansOf 10 = .ok (.iconst 1, 1) := by decide +kernel
theorem dX4_spansOf_11 : decode cX4_spansOf 11 = .ok (.isub, 1) := by decide +kernel
theorem dX4_spansOf_12 : decode cX4_spansOf 12 = .ok (.imul, 1) := by decide +kernel
theorem dX4_spansOf_13 : decode cX4_spansOf 13 = .ok (.iconst 2, 1) := by decide +kernel
theorem dX4_spansOf_14 : decode cX4_spansOf 14 = .ok (.idiv, 1) := by decide +kernel
theorem dX4_spansOf_15 : decode cX4_spansOf 15 = .ok (.ireturn, 1) := by decide +kernel
theorem dX4_allMarks_0 : decode cX4_allMarks 0 = .ok (.iconst 0, 1) := by decide +kernel
theorem dX4_allMarks_1 : decode cX4_allMarks 1 = .ok (.istore_n 1, 1) := by decide +kernel
theorem dX4_allMarks_2 : decode cX4_allMarks 2 = .ok (.iconst 0, 1) := by decide +kernel
theorem dX4_allMarks_3 : decode cX4_allMarks 3 = .ok (.istore_n 2, 1) := by decide +kernel
theorem dX4_allMarks_4 : decode cX4_allMarks 4 = .ok (.iload_n 2, 1) := by decide +kernel
theorem dX4_allMarks_5 : decode cX4_allMarks 5 = .ok (.iconst 4, 1) := by decide +kernel
theorem dX4_allMarks_6 : decode cX4_allMarks 6 = .ok (.if_icmp .ge 17, 3) := by decide +kernel
theorem dX4_allMarks_9 : decode cX4_allMarks 9 = .ok (.iload_n 1, 1) := by decide +kernel
theorem dX4_allMarks_10 : decode cX4_allMarks 10 = .ok (.aload_n 0, 1) := by decide +kernel
theorem dX4_allMarks_11 : decode cX4_allMarks 11 = .ok (.iload_n 2, 1) := by decide +kernel
theorem dX4_allMarks_12 : decode cX4_allMarks 12 = .ok (.invokevirtual 62, 3) := by decide +kernel
theorem dX4_allMarks_15 : decode cX4_allMarks 15 = .ok (.iadd, 1) := by decide +kernel
theorem dX4_allMarks_16 : decode cX4_allMarks 16 = .ok (.istore_n 1, 1) := by decide +kernel
theorem dX4_allMarks_17 : decode cX4_allMarks 17 = .ok (.iinc 2 1, 3) := by decide +kernel
theorem dX4_allMarks_20 : decode cX4_allMarks 20 = .ok (.goto (-16), 3) := by decide +kernel
theorem dX4_allMarks_23 : decode cX4_allMarks 23 = .ok (.iload_n 1, 1) := by decide +kernel
theorem dX4_allMarks_24 : decode cX4_allMarks 24 = .ok (.ireturn, 1) := by decide +kernel
theorem dX4_allSpans_0 : decode cX4_allSpans 0 = .ok (.iconst 0, 1) := by decide +kernel
theorem dX4_allSpans_1 : decode cX4_allSpans 1 = .ok (.istore_n 1, 1) := by decide +kernel
theorem dX4_allSpans_2 : decode cX4_allSpans 2 = .ok (.iconst 0, 1) := by decide +kernel
theorem dX4_allSpans_3 : decode cX4_allSpans 3 = .ok (.istore_n 2, 1) := by decide +kernel
theorem dX4_allSpans_4 : decode cX4_allSpans 4 = .ok (.iload_n 2, 1) := by decide +kernel
theorem dX4_allSpans_5 : decode cX4_allSpans 5 = .ok (.iconst 4, 1) := by decide +kernel
theorem dX4_allSpans_6 : decode cX4_allSpans 6 = .ok (.if_icmp .ge 17, 3) := by decide +kernel
theorem dX4_allSpans_9 : decode cX4_allSpans 9 = .ok (.iload_n 1, 1) := by decide +kernel
theorem dX4_allSpans_10 : decode cX4_allSpans 10 = .ok (.aload_n 0, 1) := by decide +kernel
theorem dX4_allSpans_11 : decode cX4_allSpans 11 = .ok (.iload_n 2, 1) := by decide +kernel
theorem dX4_allSpans_12 : decode cX4_allSpans 12 = .ok (.invokevirtual 65, 3) := by decide +kernel
theorem dX4_allSpans_15 : decode cX4_allSpans 15 = .ok (.iadd, 1) := by decide +kernel
theorem dX4_allSpans_16 : decode cX4_allSpans 16 = .ok (.istore_n 1, 1) := by decide +kernel
theorem dX4_allSpans_17 : decode cX4_allSpans 17 = .ok (.iinc 2 1, 3) := by decide +kernel
theorem dX4_allSpans_20 : decode cX4_allSpans 20 = .ok (.goto (-16), 3) := by decide +kernel
theorem dX4_allSpans_23 : decode cX4_allSpans 23 = .ok (.iload_n 1, 1) := by decide +kernel
theorem dX4_allSpans_24 : decode cX4_allSpans 24 = .ok (.ireturn, 1) := by decide +kernel
theorem dX4_spansOfLength_0 : decode cX4_spansOfLength 0 = .ok (.iconst 0, 1) := by decide +kernel
theorem dX4_spansOfLength_1 : decode cX4_spansOfLength 1 = .ok (.istore_n 2, 1) := by decide +kernel
theorem dX4_spansOfLength_2 : decode cX4_spansOfLength 2 = .ok (.iconst 0, 1) := by decide +kernel
theorem dX4_spansOfLength_3 : decode cX4_spansOfLength 3 = .ok (.istore_n 3, 1) := by decide +kernel
theorem dX4_spansOfLength_4 : decode cX4_spansOfLength 4 = .ok (.iload_n 3, 1) := by decide +kernel
theorem dX4_spansOfLength_5 : decode cX4_spansOfLength 5 = .ok (.iconst 4, 1) := by decide +kernel
theorem dX4_spansOfLength_6 : decode cX4_spansOfLength 6 = .ok (.if_icmp .ge 21, 3) := by decide +kernel
theorem dX4_spansOfLength_9 : decode cX4_spansOfLength 9 = .ok (.iload_n 2, 1) := by decide +kernel
theorem dX4_spansOfLength_10 : decode cX4_spansOfLength 10 = .ok (.aload_n 0, 1) := by decide +kernel
theorem dX4_spansOfLength_11 : decode cX4_spansOfLength 11 = .ok (.iload_n 3, 1) := by decide +kernel
theorem dX4_spansOfLength_12 : decode cX4_spansOfLength 12 = .ok (.invokevirtual 36, 3) := by decide +kernel
theorem dX4_spansOfLength_15 : decode cX4_spansOfLength 15 = .ok (.iload_n 1, 1) := by decide +kernel
theorem dX4_spansOfLength_16 : decode cX4_spansOfLength 16 = .ok (.invokestatic 68, 3) := by decide +kernel
theorem dX4_spansOfLength_19 : decode cX4_spansOfLength 19 = .ok (.iadd, 1) := by decide +kernel
theorem dX4_spansOfLength_20 : decode cX4_spansOfLength 20 = .ok (.istore_n 2, 1) := by decide +kernel
theorem dX4_spansOfLength_21 : decode cX4_spansOfLength 21 = .ok (.iinc 3 1, 3) := by decide +kernel
theorem dX4_spansOfLength_24 : decode cX4_spansOfLength 24 = .ok (.goto (-20), 3) := by decide +kernel
theorem dX4_spansOfLength_27 : decode cX4_spansOfLength 27 = .ok (.iload_n 2, 1) := by decide +kernel
theorem dX4_spansOfLength_28 : decode cX4_spansOfLength 28 = .ok (.ireturn, 1) := by decide +kernel
theorem dX4_spread_0 : decode cX4_spread 0 = .ok (.aload_n 0, 1) := by decide +kernel
theorem dX4_spread_1 : decode cX4_spread 1 = .ok (.iconst (-1), 1) := by decide +kernel
theorem dX4_spread_2 : decode cX4_spread 2 = .ok (.invokevirtual 72, 3) := by decide +kernel
theorem dX4_spread_5 : decode cX4_spread 5 = .ok (.lreturn, 1) := by decide +kernel
theorem dX4_spreadWithout_0 : decode cX4_spreadWithout 0 = .ok (.lconst 0, 1) := by decide +kernel
theorem dX4_spreadWithout_1 : decode cX4_spreadWithout 1 = .ok (.lstore_n 2, 1) := by decide +kernel
theorem dX4_spreadWithout_2 : decode cX4_spreadWithout 2 = .ok (.iconst 0, 1) := by decide +kernel
theorem dX4_spreadWithout_3 : decode cX4_spreadWithout 3 = .ok (.istore 4, 2) := by decide +kernel
theorem dX4_spreadWithout_5 : decode cX4_spreadWithout 5 = .ok (.iload 4, 2) := by decide +kernel
theorem dX4_spreadWithout_7 : decode cX4_spreadWithout 7 = .ok (.iconst 4, 1) := by decide +kernel
theorem dX4_spreadWithout_8 : decode cX4_spreadWithout 8 = .ok (.if_icmp .ge 27, 3) := by decide +kernel
theorem dX4_spreadWithout_11 : decode cX4_spreadWithout 11 = .ok (.iload 4, 2) := by decide +kernel
theorem dX4_spreadWithout_13 : decode cX4_spreadWithout 13 = .ok (.iload_n 1, 1) := by decide +kernel
theorem dX4_spreadWithout_14 : decode cX4_spreadWithout 14 = .ok (.if_icmp .eq 15, 3) := by decide +kernel
theorem dX4_spreadWithout_17 : decode cX4_spreadWithout 17 = .ok (.lload_n 2, 1) := by decide +kernel
theorem dX4_spreadWithout_18 : decode cX4_spreadWithout 18 = .ok (.aload_n 0, 1) := by decide +kernel
theorem dX4_spreadWithout_19 : decode cX4_spreadWithout 19 = .ok (.iload 4, 2) := by decide +kernel
theorem dX4_spreadWithout_21 : decode cX4_spreadWithout 21 = .ok (.invokevirtual 36, 3) := by decide +kernel
theorem dX4_spreadWithout_24 : decode cX4_spreadWithout 24 = .ok (.invokestatic 75, 3) := by decide +kernel
theorem dX4_spreadWithout_27 : decode cX4_spreadWithout 27 = .ok (.lor, 1) := by decide +kernel
theorem dX4_spreadWithout_28 : decode cX4_spreadWithout 28 = .ok (.lstore_n 2, 1) := by decide +kernel
theorem dX4_spreadWithout_29 : decode cX4_spreadWithout 29 = .ok (.iinc 4 1, 3) := by decide +kernel
theorem dX4_spreadWithout_32 : decode cX4_spreadWithout 32 = .ok (.goto (-27), 3) := by decide +kernel
theorem dX4_spreadWithout_35 : decode cX4_spreadWithout 35 = .ok (.lload_n 2, 1) := by decide +kernel
theorem dX4_spreadWithout_36 : decode cX4_spreadWithout 36 = .ok (.lreturn, 1) := by decide +kernel
theorem dX4_lowerMark_0 : decode cX4_lowerMark 0 = .ok (.iconst 0, 1) := by decide +kernel
theorem dX4_lowerMark_1 : decode cX4_lowerMark 1 = .ok (.istore_n 3, 1) := by decide +kernel
theorem dX4_lowerMark_2 : decode cX4_lowerMark 2 = .ok (.aload_n 0, 1) := by decide +kernel
theorem dX4_lowerMark_3 : decode cX4_lowerMark 3 = .ok (.iload_n 1, 1) := by decide +kernel
theorem dX4_lowerMark_4 : decode cX4_lowerMark 4 = .ok (.invokevirtual 62, 3) := by decide +kernel
theorem dX4_lowerMark_7 : decode cX4_lowerMark 7 = .ok (.istore 4, 2) := by decide +kernel
theorem dX4_lowerMark_9 : decode cX4_lowerMark 9 = .ok (.iconst 0, 1) := by decide +kernel
theorem dX4_lowerMark_10 : decode cX4_lowerMark 10 = .ok (.istore 5, 2) := by decide +kernel
theorem dX4_lowerMark_12 : decode cX4_lowerMark 12 = .ok (.iload 5, 2) := by decide +kernel
theorem dX4_lowerMark_14 : decode cX4_lowerMark 14 = .ok (.bipush 40, 2) := by decide +kernel
theorem dX4_lowerMark_16 : decode cX4_lowerMark 16 = .ok (.if_icmp .gt 35, 3) := by decide +kernel
theorem dX4_lowerMark_19 : decode cX4_lowerMark 19 = .ok (.aload_n 0, 1) := by decide +kernel
theorem dX4_lowerMark_20 : decode cX4_lowerMark 20 = .ok (.iload_n 1, 1) := by decide +kernel
theorem dX4_lowerMark_21 : decode cX4_lowerMark 21 = .ok (.iload 5, 2) := by decide +kernel
theorem dX4_lowerMark_23 : decode cX4_lowerMark 23 = .ok (.invokevirtual 79, 3) := by decide +kernel
theorem dX4_lowerMark_26 : decode cX4_lowerMark 26 = .ok (.ifCond .eq 19, 3) := by decide +kernel
theorem dX4_lowerMark_29 : decode cX4_lowerMark 29 = .ok (.iinc 4 (-1), 3) := by decide +kernel
theorem dX4_lowerMark_32 : decode cX4_lowerMark 32 = .ok (.iload_n 3, 1) := by decide +kernel
theorem dX4_lowerMark_33 : decode cX4_lowerMark 33 = .ok (.iload 4, 2) := by decide +kernel
theorem dX4_lowerMark_35 : decode cX4_lowerMark 35 = .ok (.iadd, 1) := by decide +kernel
theorem dX4_lowerMark_36 : decode cX4_lowerMark 36 = .ok (.istore_n 3, 1) := by decide +kernel
theorem dX4_lowerMark_37 : decode cX4_lowerMark 37 = .ok (.iload_n 2, 1) := by decide +kernel
theorem dX4_lowerMark_38 : decode cX4_lowerMark 38 = .ok (.iload_n 3, 1) := by decide +kernel
theorem dX4_lowerMark_39 : decode cX4_lowerMark 39 = .ok (.if_icmp .ge 6, 3) := by decide +kernel
theorem dX4_lowerMark_42 : decode cX4_lowerMark 42 = .ok (.iload 5, 2) := by decide +kernel
theorem dX4_lowerMark_44 : decode cX4_lowerMark 44 = .ok (.ireturn, 1) := by decide +kernel
theorem dX4_lowerMark_45 : decode cX4_lowerMark 45 = .ok (.iinc 5 1, 3) := by decide +kernel
theorem dX4_lowerMark_48 : decode cX4_lowerMark 48 = .ok (.goto (-36), 3) := by decide +kernel
theorem dX4_lowerMark_51 : decode cX4_lowerMark 51 = .ok (.iconst (-1), 1) := by decide +kernel
theorem dX4_lowerMark_52 : decode cX4_lowerMark 52 = .ok (.ireturn, 1) := by decide +kernel
theorem dX4_greaterMark_0 : decode cX4_greaterMark 0 = .ok (.iload_n 2, 1) := by decide +kernel
theorem dX4_greaterMark_1 : decode cX4_greaterMark 1 = .ok (.istore_n 3, 1) := by decide +kernel
theorem dX4_greaterMark_2 : decode cX4_greaterMark 2 = .ok (.iconst 0, 1) := by decide +kernel
theorem dX4_greaterMark_3 : decode cX4_greaterMark 3 = .ok (.istore 4, 2) := by decide +kernel
theorem dX4_greaterMark_5 : decode cX4_greaterMark 5 = .ok (.iload 4, 2) := by decide +kernel
theorem dX4_greaterMark_7 : decode cX4_greaterMark 7 = .ok (.bipush 40, 2) := by decide +kernel
theorem dX4_greaterMark_9 : decode cX4_greaterMark 9 = .ok (.if_icmp .gt 58, 3) := by decide +kernel
theorem dX4_greaterMark_12 : decode cX4_greaterMark 12 = .ok (.iload 4, 2) := by decide +kernel
theorem dX4_greaterMark_14 : decode cX4_greaterMark 14 = .ok (.iconst 1, 1) := by decide +kernel
theorem dX4_greaterMark_15 : decode cX4_greaterMark 15 = .ok (.iadd, 1) := by decide +kernel
theorem dX4_greaterMark_16 : decode cX4_greaterMark 16 = .ok (.istore 5, 2) := by decide +kernel
theorem dX4_greaterMark_18 : decode cX4_greaterMark 18 = .ok (.iload 5, 2) := by decide +kernel
theorem dX4_greaterMark_20 : decode cX4_greaterMark 20 = .ok (.bipush 40, 2) := by decide +kernel
theorem dX4_greaterMark_22 : decode cX4_greaterMark 22 = .ok (.if_icmp .gt 39, 3) := by decide +kernel
theorem dX4_greaterMark_25 : decode cX4_greaterMark 25 = .ok (.aload_n 0, 1) := by decide +kernel
theorem dX4_greaterMark_26 : decode cX4_greaterMark 26 = .ok (.iload_n 1, 1) := by decide +kernel
theorem dX4_greaterMark_27 : decode cX4_greaterMark 27 = .ok (.iload 4, 2) := by decide +kernel
theorem dX4_greaterMark_29 : decode cX4_greaterMark 29 = .ok (.invokevirtual 79, 3) := by decide +kernel
theorem dX4_greaterMark_32 : decode cX4_greaterMark 32 = .ok (.ifCond .eq 29, 3) := by decide +kernel
theorem dX4_greaterMark_35 : decode cX4_greaterMark 35 = .ok (.aload_n 0, 1) := by decide +kernel
theorem dX4_greaterMark_36 : decode cX4_greaterMark 36 = .ok (.iload_n 1, 1) := by decide +kernel
theorem dX4_greaterMark_37 : decode cX4_greaterMark 37 = .ok (.iload 5, 2) := by decide +kernel
theorem dX4_greaterMark_39 : decode cX4_greaterMark 39 = .ok (.invokevirtual 79, 3) := by decide +kernel
theorem dX4_greaterMark_42 : decode cX4_greaterMark 42 = .ok (.ifCond .eq 13, 3) := by decide +kernel
theorem dX4_greaterMark_45 : decode cX4_greaterMark 45 = .ok (.iload_n 3, 1) := by decide +kernel
theorem dX4_greaterMark_46 : decode cX4_greaterMark 46 = .ok (.ifCond .ne 6, 3) := by decide +kernel
theorem dX4_greaterMark_49 : decode cX4_greaterMark 49 = .ok (.iload 5, 2) := by decide +kernel
theorem dX4_greaterMark_51 : decode cX4_greaterMark 51 = .ok (.ireturn, 1) := by decide +kernel
theorem dX4_greaterMark_52 : decode cX4_greaterMark 52 = .ok (.iinc 3 (-1), 3) := by decide +kernel
theorem dX4_greaterMark_55 : decode cX4_greaterMark 55 = .ok (.iinc 5 1, 3) := by decide +kernel
theorem dX4_greaterMark_58 : decode cX4_greaterMark 58 = .ok (.goto (-40), 3) := by decide +kernel
theorem dX4_greaterMark_61 : decode cX4_greaterMark 61 = .ok (.iinc 4 1, 3) := by decide +kernel
theorem dX4_greaterMark_64 : decode cX4_greaterMark 64 = .ok (.goto (-59), 3) := by decide +kernel
theorem dX4_greaterMark_67 : decode cX4_greaterMark 67 = .ok (.iconst (-1), 1) := by decide +kernel
theorem dX4_greaterMark_68 : decode cX4_greaterMark 68 = .ok (.ireturn, 1) := by decide +kernel
theorem dX4_refusal_0 : decode cX4_refusal 0 = .ok (.iload_n 1, 1) := by decide +kernel
theorem dX4_refusal_1 : decode cX4_refusal 1 = .ok (.tableswitch 133 1 4 #[31, 58, 89, 119], 31) := by decide +kernel
theorem dX4_refusal_32 : decode cX4_refusal 32 = .ok (.iload_n 2, 1) := by decide +kernel
theorem dX4_refusal_33 : decode cX4_refusal 33 = .ok (.iconst 2, 1) := by decide +kernel
theorem dX4_refusal_34 : decode cX4_refusal 34 = .ok (.if_icmp .lt 9, 3) := by decide +kernel
theorem dX4_refusal_37 : decode cX4_refusal 37 = .ok (.iload_n 2, 1) := by decide +kernel
theorem dX4_refusal_38 : decode cX4_refusal 38 = .ok (.bipush 40, 2) := by decide +kernel
theorem dX4_refusal_40 : decode cX4_refusal 40 = .ok (.if_icmp .le 5, 3) := by decide +kernel
theorem dX4_refusal_43 : decode cX4_refusal 43 = .ok (.iconst 2, 1) := by decide +kernel
theorem dX4_refusal_44 : decode cX4_refusal 44 = .ok (.ireturn, 1) := by decide +kernel
theorem dX4_refusal_45 : decode cX4_refusal 45 = .ok (.aload_n 0, 1) := by decide +kernel
theorem dX4_refusal_46 : decode cX4_refusal 46 = .ok (.getfield 22, 3) := by decide +kernel
theorem dX4_refusal_49 : decode cX4_refusal 49 = .ok (.iconst 4, 1) := by decide +kernel
theorem dX4_refusal_50 : decode cX4_refusal 50 = .ok (.if_icmp .lt 7, 3) := by decide +kernel
theorem dX4_refusal_53 : decode cX4_refusal 53 = .ok (.iconst 3, 1) := by decide +kernel
theorem dX4_refusal_54 : decode cX4_refusal 54 = .ok (.goto 4, 3) := by decide +kernel
theorem dX4_refusal_57 : decode cX4_refusal 57 = .ok (.iconst 0, 1) := by decide +kernel
theorem dX4_refusal_58 : decode cX4_refusal 58 = .ok (.ireturn, 1) := by decide +kernel
theorem dX4_refusal_59 : decode cX4_refusal 59 = .ok (.aload_n 0, 1) := by decide +kernel
theorem dX4_refusal_60 : decode cX4_refusal 60 = .ok (.iload_n 2, 1) := by decide +kernel
theorem dX4_refusal_61 : decode cX4_refusal 61 = .ok (.iload_n 3, 1) := by decide +kernel
theorem dX4_refusal_62 : decode cX4_refusal 62 = .ok (.invokevirtual 83, 3) := by decide +kernel
theorem dX4_refusal_65 : decode cX4_refusal 65 = .ok (.ifCond .ne 5, 3) := by decide +kernel
theorem dX4_refusal_68 : decode cX4_refusal 68 = .ok (.iconst 1, 1) := by decide +kernel
theorem dX4_refusal_69 : decode cX4_refusal 69 = .ok (.ireturn, 1) := by decide +kernel
theorem dX4_refusal_70 : decode cX4_refusal 70 = .ok (.iload 4, 2) := by decide +kernel
theorem dX4_refusal_72 : decode cX4_refusal 72 = .ok (.ifCond .ne 16, 3) := by decide +kernel
theorem dX4_refusal_75 : decode cX4_refusal 75 = .ok (.aload_n 0, 1) := by decide +kernel
theorem dX4_refusal_76 : decode cX4_refusal 76 = .ok (.iload_n 2, 1) := by decide +kernel
theorem dX4_refusal_77 : decode cX4_refusal 77 = .ok (.iload_n 3, 1) := by decide +kernel
theorem dX4_refusal_78 : decode cX4_refusal 78 = .ok (.invokevirtual 86, 3) := by decide +kernel
theorem dX4_refusal_81 : decode cX4_refusal 81 = .ok (.ifCond .eq 7, 3) := by decide +kernel
theorem dX4_refusal_84 : decode cX4_refusal 84 = .ok (.iconst 3, 1) := by decide +kernel
theorem dX4_refusal_85 : decode cX4_refusal 85 = .ok (.goto 4, 3) := by decide +kernel
theorem dX4_refusal_88 : decode cX4_refusal 88 = .ok (.iconst 0, 1) := by decide +kernel
theorem dX4_refusal_89 : decode cX4_refusal 89 = .ok (.ireturn, 1) := by decide +kernel
theorem dX4_refusal_90 : decode cX4_refusal 90 = .ok (.aload_n 0, 1) := by decide +kernel
theorem dX4_refusal_91 : decode cX4_refusal 91 = .ok (.iload_n 2, 1) := by decide +kernel
theorem dX4_refusal_92 : decode cX4_refusal 92 = .ok (.invokevirtual 44, 3) := by decide +kernel
theorem dX4_refusal_95 : decode cX4_refusal 95 = .ok (.ifCond .ne 5, 3) := by decide +kernel
theorem dX4_refusal_98 : decode cX4_refusal 98 = .ok (.iconst 1, 1) := by decide +kernel
theorem dX4_refusal_99 : decode cX4_refusal 99 = .ok (.ireturn, 1) := by decide +kernel
theorem dX4_refusal_100 : decode cX4_refusal 100 = .ok (.iload_n 3, 1) := by decide +kernel
theorem dX4_refusal_101 : decode cX4_refusal 101 = .ok (.iconst 2, 1) := by decide +kernel
theorem dX4_refusal_102 : decode cX4_refusal 102 = .ok (.if_icmp .lt 12, 3) := by decide +kernel
theorem dX4_refusal_105 : decode cX4_refusal 105 = .ok (.iload_n 3, 1) := by decide +kernel
theorem dX4_refusal_106 : decode cX4_refusal 106 = .ok (.aload_n 0, 1) := by decide +kernel
theorem dX4_refusal_107 : decode cX4_refusal 107 = .ok (.iload_n 2, 1) := by decide +kernel
theorem dX4_refusal_108 : decode cX4_refusal 108 = .ok (.invokevirtual 32, 3) := by decide +kernel
theorem dX4_refusal_111 : decode cX4_refusal 111 = .ok (.if_icmp .le 7, 3) := by decide +kernel
theorem dX4_refusal_114 : decode cX4_refusal 114 = .ok (.iconst 2, 1) := by decide +kernel
theorem dX4_refusal_115 : decode cX4_refusal 115 = .ok (.goto 4, 3) := by decide +kernel
theorem dX4_refusal_118 : decode cX4_refusal 118 = .ok (.iconst 0, 1) := by decide +kernel
theorem dX4_refusal_119 : decode cX4_refusal 119 = .ok (.ireturn, 1) := by decide +kernel
theorem dX4_refusal_120 : decode cX4_refusal 120 = .ok (.aload_n 0, 1) := by decide +kernel
theorem dX4_refusal_121 : decode cX4_refusal 121 = .ok (.iload_n 2, 1) := by decide +kernel
theorem dX4_refusal_122 : decode cX4_refusal 122 = .ok (.invokevirtual 44, 3) := by decide +kernel
theorem dX4_refusal_125 : decode cX4_refusal 125 = .ok (.ifCond .eq 7, 3) := by decide +kernel
theorem dX4_refusal_128 : decode cX4_refusal 128 = .ok (.iconst 0, 1) := by decide +kernel
theorem dX4_refusal_129 : decode cX4_refusal 129 = .ok (.goto 4, 3) := by decide +kernel
theorem dX4_refusal_132 : decode cX4_refusal 132 = .ok (.iconst 1, 1) := by decide +kernel
theorem dX4_refusal_133 : decode cX4_refusal 133 = .ok (.ireturn, 1) := by decide +kernel
theorem dX4_refusal_134 : decode cX4_refusal 134 = .ok (.iload_n 2, 1) := by decide +kernel
theorem dX4_refusal_135 : decode cX4_refusal 135 = .ok (.iload_n 3, 1) := by decide +kernel
theorem dX4_refusal_136 : decode cX4_refusal 136 = .ok (.invokestatic 89, 3) := by decide +kernel
theorem dX4_refusal_139 : decode cX4_refusal 139 = .ok (.ifCond .eq 7, 3) := by decide +kernel
theorem dX4_refusal_142 : decode cX4_refusal 142 = .ok (.iconst 0, 1) := by decide +kernel
theorem dX4_refusal_143 : decode cX4_refusal 143 = .ok (.goto 4, 3) := by decide +kernel
theorem dX4_refusal_146 : decode cX4_refusal 146 = .ok (.iconst 2, 1) := by decide +kernel
theorem dX4_refusal_147 : decode cX4_refusal 147 = .ok (.ireturn, 1) := by decide +kernel
theorem dX4_isSetting_0 : decode cX4_isSetting 0 = .ok (.iload_n 0, 1) := by decide +kernel
theorem dX4_isSetting_1 : decode cX4_isSetting 1 = .ok (.ifCond .ne 20, 3) := by decide +kernel
theorem dX4_isSetting_4 : decode cX4_isSetting 4 = .ok (.iload_n 1, 1) := by decide +kernel
theorem dX4_isSetting_5 : decode cX4_isSetting 5 = .ok (.iconst 1, 1) := by decide +kernel
theorem dX4_isSetting_6 : decode cX4_isSetting 6 = .ok (.if_icmp .lt 13, 3) := by decide +kernel
theorem dX4_isSetting_9 : decode cX4_isSetting 9 = .ok (.iload_n 1, 1) := by decide +kernel
theorem dX4_isSetting_10 : decode cX4_isSetting 10 = .ok (.bipush 6, 2) := by decide +kernel
theorem dX4_isSetting_12 : decode cX4_isSetting 12 = .ok (.if_icmp .gt 7, 3) := by decide +kernel
theorem dX4_isSetting_15 : decode cX4_isSetting 15 = .ok (.iconst 1, 1) := by decide +kernel
theorem dX4_isSetting_16 : decode cX4_isSetting 16 = .ok (.goto 4, 3) := by decide +kernel
theorem dX4_isSetting_19 : decode cX4_isSetting 19 = .ok (.iconst 0, 1) := by decide +kernel
theorem dX4_isSetting_20 : decode cX4_isSetting 20 = .ok (.ireturn, 1) := by decide +kernel
theorem dX4_isSetting_21 : decode cX4_isSetting 21 = .ok (.iload_n 0, 1) := by decide +kernel
theorem dX4_isSetting_22 : decode cX4_isSetting 22 = .ok (.iconst 1, 1) := by decide +kernel
theorem dX4_isSetting_23 : decode cX4_isSetting 23 = .ok (.if_icmp .ne 20, 3) := by decide +kernel
theorem dX4_isSetting_26 : decode cX4_isSetting 26 = .ok (.iload_n 1, 1) := by decide +kernel
theorem dX4_isSetting_27 : decode cX4_isSetting 27 = .ok (.bipush 10, 2) := by decide +kernel
theorem dX4_isSetting_29 : decode cX4_isSetting 29 = .ok (.if_icmp .lt 14, 3) := by decide +kernel
theorem dX4_isSetting_32 : decode cX4_isSetting 32 = .ok (.iload_n 1, 1) := by decide +kernel
theorem dX4_isSetting_33 : decode cX4_isSetting 33 = .ok (.sipush 150, 3) := by decide +kernel
theorem dX4_isSetting_36 : decode cX4_isSetting 36 = .ok (.if_icmp .gt 7, 3) := by decide +kernel
theorem dX4_isSetting_39 : decode cX4_isSetting 39 = .ok (.iconst 1, 1) := by decide +kernel
theorem dX4_isSetting_40 : decode cX4_isSetting 40 = .ok (.goto 4, 3) := by decide +kernel
theorem dX4_isSetting_43 : decode cX4_isSetting 43 = .ok (.iconst 0, 1) := by decide +kernel
theorem dX4_isSetting_44 : decode cX4_isSetting 44 = .ok (.ireturn, 1) := by decide +kernel
theorem dX4_attempt_0 : decode cX4_attempt 0 = .ok (.aload_n 0, 1) := by decide +kernel
theorem dX4_attempt_1 : decode cX4_attempt 1 = .ok (.iload_n 1, 1) := by decide +kernel
theorem dX4_attempt_2 : decode cX4_attempt 2 = .ok (.iload_n 2, 1) := by decide +kernel
theorem dX4_attempt_3 : decode cX4_attempt 3 = .ok (.iload_n 3, 1) := by decide +kernel
theorem dX4_attempt_4 : decode cX4_attempt 4 = .ok (.iload 4, 2) := by decide +kernel
theorem dX4_attempt_6 : decode cX4_attempt 6 = .ok (.invokevirtual 92, 3) := by decide +kernel
theorem dX4_attempt_9 : decode cX4_attempt 9 = .ok (.ifCond .eq 5, 3) := by decide +kernel
theorem dX4_attempt_12 : decode cX4_attempt 12 = .ok (.iconst 0, 1) := by decide +kernel
theorem dX4_attempt_13 : decode cX4_attempt 13 = .ok (.ireturn, 1) := by decide +kernel
theorem dX4_attempt_14 : decode cX4_attempt 14 = .ok (.aload_n 0, 1) := by decide +kernel
theorem dX4_attempt_15 : decode cX4_attempt 15 = .ok (.iload_n 1, 1) := by decide +kernel
theorem dX4_attempt_16 : decode cX4_attempt 16 = .ok (.iload_n 2, 1) := by decide +kernel
theorem dX4_attempt_17 : decode cX4_attempt 17 = .ok (.iload_n 3, 1) := by decide +kernel
theorem dX4_attempt_18 : decode cX4_attempt 18 = .ok (.iload 4, 2) := by decide +kernel
theorem dX4_attempt_20 : decode cX4_attempt 20 = .ok (.invokevirtual 96, 3) := by decide +kernel
theorem dX4_attempt_23 : decode cX4_attempt 23 = .ok (.pop, 1) := by decide +kernel
theorem dX4_attempt_24 : decode cX4_attempt 24 = .ok (.iconst 1, 1) := by decide +kernel
theorem dX4_attempt_25 : decode cX4_attempt 25 = .ok (.ireturn, 1) := by decide +kernel
theorem dX4_perform_0 : decode cX4_perform 0 = .ok (.iload_n 1, 1) := by decide +kernel
theorem dX4_perform_1 : decode cX4_perform 1 = .ok (.tableswitch 59 1 4 #[31, 37, 46, 53], 31) := by decide +kernel
theorem dX4_perform_32 : decode cX4_perform 32 = .ok (.aload_n 0, 1) := by decide +kernel
theorem dX4_perform_33 : decode cX4_perform 33 = .ok (.iload_n 2, 1) := by decide +kernel
theorem dX4_perform_34 : decode cX4_perform 34 = .ok (.invokevirtual 99, 3) := by decide +kernel
theorem dX4_perform_37 : decode cX4_perform 37 = .ok (.ireturn, 1) := by decide +kernel
theorem dX4_perform_38 : decode cX4_perform 38 = .ok (.aload_n 0, 1) := by decide +kernel
theorem dX4_perform_39 : decode cX4_perform 39 = .ok (.iload_n 2, 1) := by decide +kernel
theorem dX4_perform_40 : decode cX4_perform 40 = .ok (.iload_n 3, 1) := by decide +kernel
theorem dX4_perform_41 : decode cX4_perform 41 = .ok (.iload 4, 2) := by decide +kernel
theorem dX4_perform_43 : decode cX4_perform 43 = .ok (.invokevirtual 102, 3) := by decide +kernel
theorem dX4_perform_46 : decode cX4_perform 46 = .ok (.ireturn, 1) := by decide +kernel
theorem dX4_perform_47 : decode cX4_perform 47 = .ok (.aload_n 0, 1) := by decide +kernel
theorem dX4_perform_48 : decode cX4_perform 48 = .ok (.iload_n 2, 1) := by decide +kernel
theorem dX4_perform_49 : decode cX4_perform 49 = .ok (.iload_n 3, 1) := by decide +kernel
theorem dX4_perform_50 : decode cX4_perform 50 = .ok (.invokevirtual 106, 3) := by decide +kernel
theorem dX4_perform_53 : decode cX4_perform 53 = .ok (.ireturn, 1) := by decide +kernel
theorem dX4_perform_54 : decode cX4_perform 54 = .ok (.aload_n 0, 1) := by decide +kernel
theorem dX4_perform_55 : decode cX4_perform 55 = .ok (.iload_n 2, 1) := by decide +kernel
theorem dX4_perform_56 : decode cX4_perform 56 = .ok (.invokevirtual 110, 3) := by decide +kernel
theorem dX4_perform_59 : decode cX4_perform 59 = .ok (.ireturn, 1) := by decide +kernel
theorem dX4_perform_60 : decode cX4_perform 60 = .ok (.aload_n 0, 1) := by decide +kernel
theorem dX4_perform_61 : decode cX4_perform 61 = .ok (.iload_n 2, 1) := by decide +kernel
theorem dX4_perform_62 : decode cX4_perform 62 = .ok (.iload_n 3, 1) := by decide +kernel
theorem dX4_perform_63 : decode cX4_perform 63 = .ok (.invokevirtual 113, 3) := by decide +kernel
theorem dX4_perform_66 : decode cX4_perform 66 = .ok (.ireturn, 1) := by decide +kernel
theorem dX4_addRuler_0 : decode cX4_addRuler 0 = .ok (.aload_n 0, 1) := by decide +kernel
theorem dX4_addRuler_1 : decode cX4_addRuler 1 = .ok (.aload_n 0, 1) := by decide +kernel
theorem dX4_addRuler_2 : decode cX4_addRuler 2 = .ok (.getfield 22, 3) := by decide +kernel
theorem dX4_addRuler_5 : decode cX4_addRuler 5 = .ok (.iload_n 1, 1) := by decide +kernel
theorem dX4_addRuler_6 : decode cX4_addRuler 6 = .ok (.lconst 1, 1) := by decide +kernel
theorem dX4_addRuler_7 : decode cX4_addRuler 7 = .ok (.lconst 1, 1) := by decide +kernel
theorem dX4_addRuler_8 : decode cX4_addRuler 8 = .ok (.iload_n 1, 1) := by decide +kernel
theorem dX4_addRuler_9 : decode cX4_addRuler 9 = .ok (.lshl, 1) := by decide +kernel
theorem dX4_addRuler_10 : decode cX4_addRuler 10 = .ok (.lor, 1) := by decide +kernel
theorem dX4_addRuler_11 : decode cX4_addRuler 11 = .ok (.invokevirtual 40, 3) := by decide +kernel
theorem dX4_addRuler_14 : decode cX4_addRuler 14 = .ok (.aload_n 0, 1) := by decide +kernel
theorem dX4_addRuler_15 : decode cX4_addRuler 15 = .ok (.dup, 1) := by decide +kernel
theorem dX4_addRuler_16 : decode cX4_addRuler 16 = .ok (.getfield 22, 3) := by decide +kernel
theorem dX4_addRuler_19 : decode cX4_addRuler 19 = .ok (.iconst 1, 1) := by decide +kernel
theorem dX4_addRuler_20 : decode cX4_addRuler 20 = .ok (.iadd, 1) := by decide +kernel
theorem dX4_addRuler_21 : decode cX4_addRuler 21 = .ok (.putfield 22, 3) := by decide +kernel
theorem dX4_addRuler_24 : decode cX4_addRuler 24 = .ok (.aload_n 0, 1) := by decide +kernel
theorem dX4_addRuler_25 : decode cX4_addRuler 25 = .ok (.getfield 22, 3) := by decide +kernel
theorem dX4_addRuler_28 : decode cX4_addRuler 28 = .ok (.iconst 1, 1) := by decide +kernel
theorem dX4_addRuler_29 : decode cX4_addRuler 29 = .ok (.isub, 1) := by decide +kernel
theorem dX4_addRuler_30 : decode cX4_addRuler 30 = .ok (.ireturn, 1) := by decide +kernel
theorem dX4_putMark_0 : decode cX4_putMark 0 = .ok (.lconst 1, 1) := by decide +kernel
theorem dX4_putMark_1 : decode cX4_putMark 1 = .ok (.iload_n 2, 1) := by decide +kernel
theorem dX4_putMark_2 : decode cX4_putMark 2 = .ok (.lshl, 1) := by decide +kernel
theorem dX4_putMark_3 : decode cX4_putMark 3 = .ok (.lstore 4, 2) := by decide +kernel
theorem dX4_putMark_5 : decode cX4_putMark 5 = .ok (.aload_n 0, 1) := by decide +kernel
theorem dX4_putMark_6 : decode cX4_putMark 6 = .ok (.iload_n 1, 1) := by decide +kernel
theorem dX4_putMark_7 : decode cX4_putMark 7 = .ok (.aload_n 0, 1) := by decide +kernel
theorem dX4_putMark_8 : decode cX4_putMark 8 = .ok (.iload_n 1, 1) := by decide +kernel
theorem dX4_putMark_9 : decode cX4_putMark 9 = .ok (.invokevirtual 32, 3) := by decide +kernel
theorem dX4_putMark_12 : decode cX4_putMark 12 = .ok (.iload_n 3, 1) := by decide +kernel
theorem dX4_putMark_13 : decode cX4_putMark 13 = .ok (.ifCond .eq 14, 3) := by decide +kernel
theorem dX4_putMark_16 : decode cX4_putMark 16 = .ok (.aload_n 0, 1) := by decide +kernel
theorem dX4_putMark_17 : decode cX4_putMark 17 = .ok (.iload_n 1, 1) := by decide +kernel
theorem dX4_putMark_18 : decode cX4_putMark 18 = .ok (.invokevirtual 36, 3) := by decide +kernel
theorem dX4_putMark_21 : decode cX4_putMark 21 = .ok (.lload 4, 2) := by decide +kernel
theorem dX4_putMark_23 : decode cX4_putMark 23 = .ok (.lor, 1) := by decide +kernel
theorem dX4_putMark_24 : decode cX4_putMark 24 = .ok (.goto 15, 3) := by decide +kernel
theorem dX4_putMark_27 : decode cX4_putMark 27 = .ok (.aload_n 0, 1) := by decide +kernel
theorem dX4_putMark_28 : decode cX4_putMark 28 = .ok (.iload_n 1, 1) := by decide +kernel
theorem dX4_putMark_29 : decode cX4_putMark 29 = .ok (.invokevirtual 36, 3) := by decide +kernel
theorem dX4_putMark_32 : decode cX4_putMark 32 = .ok (.lload 4, 2) := by decide +kernel
theorem dX4_putMark_34 : decode cX4_putMark 34 = .ok (.ldc2_w 60, 3) := by decide +kernel
theorem dX4_putMark_37 : decode cX4_putMark 37 = .ok (.lxor, 1) := by decide +kernel
theorem dX4_putMark_38 : decode cX4_putMark 38 = .ok (.land, 1) := by decide +kernel
theorem dX4_putMark_39 : decode cX4_putMark 39 = .ok (.invokevirtual 40, 3) := by decide +kernel
theorem dX4_putMark_42 : decode cX4_putMark 42 = .ok (.aload_n 0, 1) := by decide +kernel
theorem dX4_putMark_43 : decode cX4_putMark 43 = .ok (.iload_n 1, 1) := by decide +kernel
theorem dX4_putMark_44 : decode cX4_putMark 44 = .ok (.invokevirtual 62, 3) := by decide +kernel
theorem dX4_putMark_47 : decode cX4_putMark 47 = .ok (.ireturn, 1) := by decide +kernel
theorem dX4_shorten_0 : decode cX4_shorten 0 = .ok (.lconst 1, 1) := by decide +kernel
theorem dX4_shorten_1 : decode cX4_shorten 1 = .ok (.iload_n 2, 1) := by decide +kernel
theorem dX4_shorten_2 : decode cX4_shorten 2 = .ok (.lshl, 1) := by decide +kernel
theorem dX4_shorten_3 : decode cX4_shorten 3 = .ok (.lstore_n 3, 1) := by decide +kernel
theorem dX4_shorten_4 : decode cX4_shorten 4 = .ok (.aload_n 0, 1) := by decide +kernel
theorem dX4_shorten_5 : decode cX4_shorten 5 = .ok (.iload_n 1, 1) := by decide +kernel
theorem dX4_shorten_6 : decode cX4_shorten 6 = .ok (.iload_n 2, 1) := by decide +kernel
theorem dX4_shorten_7 : decode cX4_shorten 7 = .ok (.aload_n 0, 1) := by decide +kernel
theorem dX4_shorten_8 : decode cX4_shorten 8 = .ok (.iload_n 1, 1) := by decide +kernel
theorem dX4_shorten_9 : decode cX4_shorten 9 = .ok (.invokevirtual 36, 3) := by decide +kernel
theorem dX4_shorten_12 : decode cX4_shorten 12 = .ok (.lload_n 3, 1) := by decide +kernel
theorem dX4_shorten_13 : decode cX4_shorten 13 = .ok (.lconst 1, 1) := by decide +kernel
theorem dX4_shorten_14 : decode cX4_shorten 14 = .ok (.lsub, 1) := by decide +kernel
theorem dX4_shorten_15 : decode cX4_shorten 15 = .ok (.land, 1) := by decide +kernel
theorem dX4_shorten_16 : decode cX4_shorten 16 = .ok (.lload_n 3, 1) := by decide +kernel
theorem dX4_shorten_17 : decode cX4_shorten 17 = .ok (.lor, 1) := by decide +kernel
theorem dX4_shorten_18 : decode cX4_shorten 18 = .ok (.invokevirtual 40, 3) := by decide +kernel
theorem dX4_shorten_21 : decode cX4_shorten 21 = .ok (.aload_n 0, 1) := by decide +kernel
theorem dX4_shorten_22 : decode cX4_shorten 22 = .ok (.iload_n 1, 1) := by decide +kernel
theorem dX4_shorten_23 : decode cX4_shorten 23 = .ok (.invokevirtual 62, 3) := by decide +kernel
theorem dX4_shorten_26 : decode cX4_shorten 26 = .ok (.ireturn, 1) := by decide +kernel
theorem dX4_reverse_0 : decode cX4_reverse 0 = .ok (.aload_n 0, 1) := by decide +kernel
theorem dX4_reverse_1 : decode cX4_reverse 1 = .ok (.iload_n 1, 1) := by decide +kernel
theorem dX4_reverse_2 : decode cX4_reverse 2 = .ok (.aload_n 0, 1) := by decide +kernel
theorem dX4_reverse_3 : decode cX4_reverse 3 = .ok (.iload_n 1, 1) := by decide +kernel
theorem dX4_reverse_4 : decode cX4_reverse 4 = .ok (.invokevirtual 32, 3) := by decide +kernel
theorem dX4_reverse_7 : decode cX4_reverse 7 = .ok (.aload_n 0, 1) := by decide +kernel
theorem dX4_reverse_8 : decode cX4_reverse 8 = .ok (.iload_n 1, 1) := by decide +kernel
theorem dX4_reverse_9 : decode cX4_reverse 9 = .ok (.invokevirtual 36, 3) := by decide +kernel
theorem dX4_reverse_12 : decode cX4_reverse 12 = .ok (.aload_n 0, 1) := by decide +kernel
theorem dX4_reverse_13 : decode cX4_reverse 13 = .ok (.iload_n 1, 1) := by decide +kernel
theorem dX4_reverse_14 : decode cX4_reverse 14 = .ok (.invokevirtual 32, 3) := by decide +kernel
theorem dX4_reverse_17 : decode cX4_reverse 17 = .ok (.invokestatic 116, 3) := by decide +kernel
theorem dX4_reverse_20 : decode cX4_reverse 20 = .ok (.invokevirtual 40, 3) := by decide +kernel
theorem dX4_reverse_23 : decode cX4_reverse 23 = .ok (.aload_n 0, 1) := by decide +kernel
theorem dX4_reverse_24 : decode cX4_reverse 24 = .ok (.iload_n 1, 1) := by decide +kernel
theorem dX4_reverse_25 : decode cX4_reverse 25 = .ok (.invokevirtual 120, 3) := by decide +kernel
theorem dX4_reverse_28 : decode cX4_reverse 28 = .ok (.lconst 0, 1) := by decide +kernel
theorem dX4_reverse_29 : decode cX4_reverse 29 = .ok (.lcmp, 1) := by decide +kernel
theorem dX4_reverse_30 : decode cX4_reverse 30 = .ok (.ifCond .ne 11, 3) := by decide +kernel
theorem dX4_reverse_33 : decode cX4_reverse 33 = .ok (.aload_n 0, 1) := by decide +kernel
theorem dX4_reverse_34 : decode cX4_reverse 34 = .ok (.iload_n 1, 1) := by decide +kernel
theorem dX4_reverse_35 : decode cX4_reverse 35 = .ok (.invokevirtual 32, 3) := by decide +kernel
theorem dX4_reverse_38 : decode cX4_reverse 38 = .ok (.goto 11, 3) := by decide +kernel
theorem dX4_reverse_41 : decode cX4_reverse 41 = .ok (.aload_n 0, 1) := by decide +kernel
theorem dX4_reverse_42 : decode cX4_reverse 42 = .ok (.iload_n 1, 1) := by decide +kernel
theorem dX4_reverse_43 : decode cX4_reverse 43 = .ok (.invokevirtual 120, 3) := by decide +kernel
theorem dX4_reverse_46 : decode cX4_reverse 46 = .ok (.invokestatic 123, 3) := by decide +kernel
theorem dX4_reverse_49 : decode cX4_reverse 49 = .ok (.ireturn, 1) := by decide +kernel
theorem dX4_adjust_0 : decode cX4_adjust 0 = .ok (.iload_n 1, 1) := by decide +kernel
theorem dX4_adjust_1 : decode cX4_adjust 1 = .ok (.ifCond .ne 10, 3) := by decide +kernel
theorem dX4_adjust_4 : decode cX4_adjust 4 = .ok (.aload_n 0, 1) := by decide +kernel
theorem dX4_adjust_5 : decode cX4_adjust 5 = .ok (.getfield 26, 3) := by decide +kernel
theorem dX4_adjust_8 : decode cX4_adjust 8 = .ok (.goto 7, 3) := by decide +kernel
theorem dX4_adjust_11 : decode cX4_adjust 11 = .ok (.aload_n 0, 1) := by decide +kernel
theorem dX4_adjust_12 : decode cX4_adjust 12 = .ok (.getfield 29, 3) := by decide +kernel
theorem dX4_adjust_15 : decode cX4_adjust 15 = .ok (.istore_n 3, 1) := by decide +kernel
theorem dX4_adjust_16 : decode cX4_adjust 16 = .ok (.iload_n 1, 1) := by decide +kernel
theorem dX4_adjust_17 : decode cX4_adjust 17 = .ok (.ifCond .ne 11, 3) := by decide +kernel
theorem dX4_adjust_20 : decode cX4_adjust 20 = .ok (.aload_n 0, 1) := by decide +kernel
theorem dX4_adjust_21 : decode cX4_adjust 21 = .ok (.iload_n 2, 1) := by decide +kernel
theorem dX4_adjust_22 : decode cX4_adjust 22 = .ok (.putfield 26, 3) := by decide +kernel
theorem dX4_adjust_25 : decode cX4_adjust 25 = .ok (.goto 8, 3) := by decide +kernel
theorem dX4_adjust_28 : decode cX4_adjust 28 = .ok (.aload_n 0, 1) := by decide +kernel
theorem dX4_adjust_29 : decode cX4_adjust 29 = .ok (.iload_n 2, 1) := by decide +kernel
theorem dX4_adjust_30 : decode cX4_adjust 30 = .ok (.putfield 29, 3) := by decide +kernel
theorem dX4_adjust_33 : decode cX4_adjust 33 = .ok (.iload_n 3, 1) := by decide +kernel
theorem dX4_adjust_34 : decode cX4_adjust 34 = .ok (.ireturn, 1) := by decide +kernel
theorem dX5_init_0 : decode cX5_init 0 = .ok (.aload_n 0, 1) := by decide +kernel
theorem dX5_init_1 : decode cX5_init 1 = .ok (.invokespecial 1, 3) := by decide +kernel
theorem dX5_init_4 : decode cX5_init 4 = .ok (.aload_n 0, 1) := by decide +kernel
theorem dX5_init_5 : decode cX5_init 5 = .ok (.new 7, 3) := by decide +kernel
theorem dX5_init_8 : decode cX5_init 8 = .ok (.dup, 1) := by decide +kernel
theorem dX5_init_9 : decode cX5_init 9 = .ok (.invokespecial 9, 3) := by decide +kernel
theorem dX5_init_12 : decode cX5_init 12 = .ok (.putfield 10, 3) := by decide +kernel
theorem dX5_init_15 : decode cX5_init 15 = .ok (.aload_n 0, 1) := by decide +kernel
theorem dX5_init_16 : decode cX5_init 16 = .ok (.new 7, 3) := by decide +kernel
theorem dX5_init_19 : decode cX5_init 19 = .ok (.dup, 1) := by decide +kernel
theorem dX5_init_20 : decode cX5_init 20 = .ok (.invokespecial 9, 3) := by decide +kernel
theorem dX5_init_23 : decode cX5_init 23 = .ok (.putfield 16, 3) := by decide +kernel
theorem dX5_init_26 : decode cX5_init 26 = .ok (.aload_n 0, 1) := by decide +kernel
theorem dX5_init_27 : decode cX5_init 27 = .ok (.new 7, 3) := by decide +kernel
theorem dX5_init_30 : decode cX5_init 30 = .ok (.dup, 1) := by decide +kernel
theorem dX5_init_31 : decode cX5_init 31 = .ok (.invokespecial 9, 3) := by decide +kernel
theorem dX5_init_34 : decode cX5_init 34 = .ok (.putfield 19, 3) := by decide +kernel
theorem dX5_init_37 : decode cX5_init 37 = .ok (.aload_n 0, 1) := by decide +kernel
theorem dX5_init_38 : decode cX5_init 38 = .ok (.new 7, 3) := by decide +kernel
theorem dX5_init_41 : decode cX5_init 41 = .ok (.dup, 1) := by decide +kernel
theorem dX5_init_42 : decode cX5_init 42 = .ok (.invokespecial 9, 3) := by decide +kernel
theorem dX5_init_45 : decode cX5_init 45 = .ok (.putfield 22, 3) := by decide +kernel
theorem dX5_init_48 : decode cX5_init 48 = .ok (.aload_n 0, 1) := by decide +kernel
theorem dX5_init_49 : decode cX5_init 49 = .ok (.new 25, 3) := by decide +kernel
theorem dX5_init_52 : decode cX5_init 52 = .ok (.dup, 1) := by decide +kernel
theorem dX5_init_53 : decode cX5_init 53 = .ok (.invokespecial 27, 3) := by decide +kernel
theorem dX5_init_56 : decode cX5_init 56 = .ok (.putfield 28, 3) := by decide +kernel
theorem dX5_init_59 : decode cX5_init 59 = .ok (.aload_n 0, 1) := by decide +kernel
theorem dX5_init_60 : decode cX5_init 60 = .ok (.new 32, 3) := by decide +kernel
theorem dX5_init_63 : decode cX5_init 63 = .ok (.dup, 1) := by decide +kernel
theorem dX5_init_64 : decode cX5_init 64 = .ok (.invokespecial 34, 3) := by decide +kernel
theorem dX5_init_67 : decode cX5_init 67 = .ok (.putfield 35, 3) := by decide +kernel
theorem dX5_init_70 : decode cX5_init 70 = .ok (.aload_n 0, 1) := by decide +kernel
theorem dX5_init_71 : decode cX5_init 71 = .ok (.new 39, 3) := by decide +kernel
theorem dX5_init_74 : decode cX5_init 74 = .ok (.dup, 1) := by decide +kernel
theorem dX5_init_75 : decode cX5_init 75 = .ok (.invokespecial 41, 3) := by decide +kernel
theorem dX5_init_78 : decode cX5_init 78 = .ok (.putfield 42, 3) := by decide +kernel
theorem dX5_init_81 : decode cX5_init 81 = .ok (.aload_n 0, 1) := by decide +kernel
theorem dX5_init_82 : decode cX5_init 82 = .ok (.new 46, 3) := by decide +kernel
theorem dX5_init_85 : decode cX5_init 85 = .ok (.dup, 1) := by decide +kernel
theorem dX5_init_86 : decode cX5_init 86 = .ok (.invokespecial 48, 3) := by decide +kernel
theorem dX5_init_89 : decode cX5_init 89 = .ok (.putfield 49, 3) := by decide +kernel
theorem dX5_init_92 : decode cX5_init 92 = .ok (.return_, 1) := by decide +kernel
theorem dX5_append_0 : decode cX5_append 0 = .ok (.iload_n 1, 1) := by decide +kernel
theorem dX5_append_1 : decode cX5_append 1 = .ok (.ifCond .lt 10, 3) := by decide +kernel
theorem dX5_append_4 : decode cX5_append 4 = .ok (.iload_n 1, 1) := by decide +kernel
theorem dX5_append_5 : decode cX5_append 5 = .ok (.sipush 255, 3) := by decide +kernel
theorem dX5_append_8 : decode cX5_append 8 = .ok (.if_icmp .le 13, 3) := by decide +kernel
theorem dX5_append_11 : decode cX5_append 11 = .ok (.new 53, 3) := by decide +kernel
theorem dX5_append_14 : decode cX5_append 14 = .ok (.dup, 1) := by decide +kernel
theorem dX5_append_15 : decode cX5_append 15 = .ok (.ldc 55, 2) := by decide +kernel
theorem dX5_append_17 : decode cX5_append 17 = .ok (.invokespecial 57, 3) := by decide +kernel
theorem dX5_append_20 : decode cX5_append 20 = .ok (.athrow, 1) := by decide +kernel
theorem dX5_append_21 : decode cX5_append 21 = .ok (.aload_n 0, 1) := by decide +kernel
theorem dX5_append_22 : decode cX5_append 22 = .ok (.getfield 35, 3) := by decide +kernel
theorem dX5_append_25 : decode cX5_append 25 = .ok (.iload_n 1, 1) := by decide +kernel
theorem dX5_append_26 : decode cX5_append 26 = .ok (.i2c, 1) := by decide +kernel
theorem dX5_append_27 : decode cX5_append 27 = .ok (.invokevirtual 60, 3) := by decide +kernel
theorem dX5_append_30 : decode cX5_append 30 = .ok (.ifCond .ne 13, 3) := by decide +kernel
theorem dX5_append_33 : decode cX5_append 33 = .ok (.new 64, 3) := by decide +kernel
theorem dX5_append_36 : decode cX5_append 36 = .ok (.dup, 1) := by decide +kernel
theorem dX5_append_37 : decode cX5_append 37 = .ok (.ldc 66, 2) := by decide +kernel
theorem dX5_append_39 : decode cX5_append 39 = .ok (.invokespecial 68, 3) := by decide +kernel
theorem dX5_append_42 : decode cX5_append 42 = .ok (.athrow, 1) := by decide +kernel
theorem dX5_append_43 : decode cX5_append 43 = .ok (.aload_n 0, 1) := by decide +kernel
theorem dX5_append_44 : decode cX5_append 44 = .ok (.getfield 35, 3) := by decide +kernel
theorem dX5_append_47 : decode cX5_append 47 = .ok (.invokevirtual 69, 3) := by decide +kernel
theorem dX5_append_50 : decode cX5_append 50 = .ok (.ireturn, 1) := by decide +kernel
theorem dX5_clearText_0 : decode cX5_clearText 0 = .ok (.aload_n 0, 1) := by decide +kernel
theorem dX5_clearText_1 : decode cX5_clearText 1 = .ok (.getfield 35, 3) := by decide +kernel
theorem dX5_clearText_4 : decode cX5_clearText 4 = .ok (.invokevirtual 73, 3) := by decide +kernel
theorem dX5_clearText_7 : decode cX5_clearText 7 = .ok (.ireturn, 1) := by decide +kernel
theorem dX5_errorPosition_0 : decode cX5_errorPosition 0 = .ok (.aload_n 0, 1) := by decide +kernel
theorem dX5_errorPosition_1 : decode cX5_errorPosition 1 = .ok (.getfield 35, 3) := by decide +kernel
theorem dX5_errorPosition_4 : decode cX5_errorPosition 4 = .ok (.invokevirtual 76, 3) := by decide +kernel
theorem dX5_errorPosition_7 : decode cX5_errorPosition 7 = .ok (.ireturn, 1) := by decide +kernel
theorem dX5_load_0 : decode cX5_load 0 = .ok (.aload_n 0, 1) := by decide +kernel
theorem dX5_load_1 : decode cX5_load 1 = .ok (.getfield 35, 3) := by decide +kernel
theorem dX5_load_4 : decode cX5_load 4 = .ok (.invokevirtual 76, 3) := by decide +kernel
theorem dX5_load_7 : decode cX5_load 7 = .ok (.iconst (-1), 1) := by decide +kernel
theorem dX5_load_8 : decode cX5_load 8 = .ok (.if_icmp .eq 13, 3) := by decide +kernel
theorem dX5_load_11 : decode cX5_load 11 = .ok (.new 64, 3) := by decide +kernel
theorem dX5_load_14 : decode cX5_load 14 = .ok (.dup, 1) := by decide +kernel
theorem dX5_load_15 : decode cX5_load 15 = .ok (.ldc 79, 2) := by decide +kernel
theorem dX5_load_17 : decode cX5_load 17 = .ok (.invokespecial 68, 3) := by decide +kernel
theorem dX5_load_20 : decode cX5_load 20 = .ok (.athrow, 1) := by decide +kernel
theorem dX5_load_21 : decode cX5_load 21 = .ok (.aload_n 0, 1) := by decide +kernel
theorem dX5_load_22 : decode cX5_load 22 = .ok (.getfield 10, 3) := by decide +kernel
theorem dX5_load_25 : decode cX5_load 25 = .ok (.invokevirtual 81, 3) := by decide +kernel
theorem dX5_load_28 : decode cX5_load 28 = .ok (.aload_n 0, 1) := by decide +kernel
theorem dX5_load_29 : decode cX5_load 29 = .ok (.getfield 28, 3) := by decide +kernel
theorem dX5_load_32 : decode cX5_load 32 = .ok (.invokevirtual 84, 3) := by decide +kernel
theorem dX5_load_35 : decode cX5_load 35 = .ok (.aload_n 0, 1) := by decide +kernel
theorem dX5_load_36 : decode cX5_load 36 = .ok (.iconst 0, 1) := by decide +kernel
theorem dX5_load_37 : decode cX5_load 37 = .ok (.putfield 87, 3) := by decide +kernel
theorem dX5_load_40 : decode cX5_load 40 = .ok (.aload_n 0, 1) := by decide +kernel
theorem dX5_load_41 : decode cX5_load 41 = .ok (.iconst 0, 1) := by decide +kernel
theorem dX5_load_42 : decode cX5_load 42 = .ok (.putfield 91, 3) := by decide +kernel
theorem dX5_load_45 : decode cX5_load 45 = .ok (.aload_n 0, 1) := by decide +kernel
theorem dX5_load_46 : decode cX5_load 46 = .ok (.getfield 35, 3) := by decide +kernel
theorem dX5_load_49 : decode cX5_load 49 = .ok (.aload_n 0, 1) := by decide +kernel
theorem dX5_load_50 : decode cX5_load 50 = .ok (.getfield 10, 3) := by decide +kernel
theorem dX5_load_53 : decode cX5_load 53 = .ok (.invokevirtual 94, 3) := by decide +kernel
theorem dX5_load_56 : decode cX5_load 56 = .ok (.ireturn, 1) := by decide +kernel
theorem dX5_about_0 : decode cX5_about 0 = .ok (.iload_n 1, 1) := by decide +kernel
theorem dX5_about_1 : decode cX5_about 1 = .ok (.tableswitch 131 0 8 #[51, 59, 67, 75, 86, 97, 106, 115, 123], 51) := by decide +kernel
theorem dX5_about_52 : decode cX5_about 52 = .ok (.aload_n 0, 1) := by decide +kernel
theorem dX5_about_53 : decode cX5_about 53 = .ok (.getfield 10, 3) := by decide +kernel
theorem dX5_about_56 : decode cX5_about 56 = .ok (.invokevirtual 98, 3) := by decide +kernel
theorem dX5_about_59 : decode cX5_about 59 = .ok (.ireturn, 1) := by decide +kernel
theorem dX5_about_60 : decode cX5_about 60 = .ok (.aload_n 0, 1) := by decide +kernel
theorem dX5_about_61 : decode cX5_about 61 = .ok (.getfield 10, 3) := by decide +kernel
theorem dX5_about_64 : decode cX5_about 64 = .ok (.invokevirtual 101, 3) := by decide +kernel
theorem dX5_about_67 : decode cX5_about 67 = .ok (.ireturn, 1) := by decide +kernel
theorem dX5_about_68 : decode cX5_about 68 = .ok (.aload_n 0, 1) := by decide +kernel
theorem dX5_about_69 : decode cX5_about 69 = .ok (.getfield 10, 3) := by decide +kernel
theorem dX5_about_72 : decode cX5_about 72 = .ok (.invokevirtual 104, 3) := by decide +kernel
theorem dX5_about_75 : decode cX5_about 75 = .ok (.ireturn, 1) := by decide +kernel
theorem dX5_about_76 : decode cX5_about 76 = .ok (.aload_n 0, 1) := by decide +kernel
theorem dX5_about_77 : decode cX5_about 77 = .ok (.getfield 10, 3) := by decide +kernel
theorem dX5_about_80 : decode cX5_about 80 = .ok (.invokevirtual 107, 3) := by decide +kernel
theorem dX5_about_83 : decode cX5_about 83 = .ok (.invokestatic 111, 3) := by decide +kernel
theorem dX5_about_86 : decode cX5_about 86 = .ok (.ireturn, 1) := by decide +kernel
theorem dX5_about_87 : decode cX5_about 87 = .ok (.aload_n 0, 1) := by decide +kernel
theorem dX5_about_88 : decode cX5_about 88 = .ok (.getfield 10, 3) := by decide +kernel
theorem dX5_about_91 : decode cX5_about 91 = .ok (.invokevirtual 107, 3) := by decide +kernel
theorem dX5_about_94 : decode cX5_about 94 = .ok (.invokestatic 117, 3) := by decide +kernel
theorem dX5_about_97 : decode cX5_about 97 = .ok (.ireturn, 1) := by decide +kernel
theorem dX5_about_98 : decode cX5_about 98 = .ok (.aload_n 0, 1) := by decide +kernel
theorem dX5_about_99 : decode cX5_about 99 = .ok (.aload_n 0, 1) := by decide +kernel
theorem dX5_about_100 : decode cX5_about 100 = .ok (.getfield 10, 3) := by decide +kernel
theorem dX5_about_103 : decode cX5_about 103 = .ok (.invokevirtual 120, 3) := by decide +kernel
theorem dX5_about_106 : decode cX5_about 106 = .ok (.ireturn, 1) := by decide +kernel
theorem dX5_about_107 : decode cX5_about 107 = .ok (.aload_n 0, 1) := by decide +kernel
theorem dX5_about_108 : decode cX5_about 108 = .ok (.aload_n 0, 1) := by decide +kernel
theorem dX5_about_109 : decode cX5_about 109 = .ok (.getfield 10, 3) := by decide +kernel
theorem dX5_about_112 : decode cX5_about 112 = .ok (.invokevirtual 123, 3) := by decide +kernel
theorem dX5_about_115 : decode cX5_about 115 = .ok (.ireturn, 1) := by decide +kernel
theorem dX5_about_116 : decode cX5_about 116 = .ok (.aload_n 0, 1) := by decide +kernel
theorem dX5_about_117 : decode cX5_about 117 = .ok (.getfield 10, 3) := by decide +kernel
theorem dX5_about_120 : decode cX5_about 120 = .ok (.invokevirtual 126, 3) := by decide +kernel
theorem dX5_about_123 : decode cX5_about 123 = .ok (.ireturn, 1) := by decide +kernel
theorem dX5_about_124 : decode cX5_about 124 = .ok (.aload_n 0, 1) := by decide +kernel
theorem dX5_about_125 : decode cX5_about 125 = .ok (.getfield 10, 3) := by decide +kernel
theorem dX5_about_128 : decode cX5_about 128 = .ok (.invokevirtual 129, 3) := by decide +kernel
theorem dX5_about_131 : decode cX5_about 131 = .ok (.ireturn, 1) := by decide +kernel
theorem dX5_about_132 : decode cX5_about 132 = .ok (.new 53, 3) := by decide +kernel
theorem dX5_about_135 : decode cX5_about 135 = .ok (.dup, 1) := by decide +kernel
theorem dX5_about_136 : decode cX5_about 136 = .ok (.ldc 132, 2) := by decide +kernel
theorem dX5_about_138 : decode cX5_about 138 = .ok (.invokespecial 57, 3) := by decide +kernel
theorem dX5_about_141 : decode cX5_about 141 = .ok (.athrow, 1) := by decide +kernel
theorem dX5_rulerOf_0 : decode cX5_rulerOf 0 = .ok (.aload_n 0, 1) := by decide +kernel
theorem dX5_rulerOf_1 : decode cX5_rulerOf 1 = .ok (.iload_n 1, 1) := by decide +kernel
theorem dX5_rulerOf_2 : decode cX5_rulerOf 2 = .ok (.invokevirtual 134, 3) := by decide +kernel
theorem dX5_rulerOf_5 : decode cX5_rulerOf 5 = .ok (.iload_n 2, 1) := by decide +kernel
theorem dX5_rulerOf_6 : decode cX5_rulerOf 6 = .ok (.tableswitch 107 0 5 #[38, 47, 56, 65, 80, 92], 38) := by decide +kernel
theorem dX5_rulerOf_44 : decode cX5_rulerOf 44 = .ok (.aload_n 0, 1) := by decide +kernel
theorem dX5_rulerOf_45 : decode cX5_rulerOf 45 = .ok (.getfield 10, 3) := by decide +kernel
theorem dX5_rulerOf_48 : decode cX5_rulerOf 48 = .ok (.iload_n 1, 1) := by decide +kernel
theorem dX5_rulerOf_49 : decode cX5_rulerOf 49 = .ok (.invokevirtual 138, 3) := by decide +kernel
theorem dX5_rulerOf_52 : decode cX5_rulerOf 52 = .ok (.ireturn, 1) := by decide +kernel
theorem dX5_rulerOf_53 : decode cX5_rulerOf 53 = .ok (.aload_n 0, 1) := by decide +kernel
theorem dX5_rulerOf_54 : decode cX5_rulerOf 54 = .ok (.getfield 10, 3) := by decide +kernel
theorem dX5_rulerOf_57 : decode cX5_rulerOf 57 = .ok (.iload_n 1, 1) := by decide +kernel
theorem dX5_rulerOf_58 : decode cX5_rulerOf 58 = .ok (.invokevirtual 141, 3) := by decide +kernel
theorem dX5_rulerOf_61 : decode cX5_rulerOf 61 = .ok (.ireturn, 1) := by decide +kernel
theorem dX5_rulerOf_62 : decode cX5_rulerOf 62 = .ok (.aload_n 0, 1) := by decide +kernel
theorem dX5_rulerOf_63 : decode cX5_rulerOf 63 = .ok (.getfield 10, 3) := by decide +kernel
theorem dX5_rulerOf_66 : decode cX5_rulerOf 66 = .ok (.iload_n 1, 1) := by decide +kernel
theorem dX5_rulerOf_67 : decode cX5_rulerOf 67 = .ok (.invokevirtual 144, 3) := by decide +kernel
theorem dX5_rulerOf_70 : decode cX5_rulerOf 70 = .ok (.ireturn, 1) := by decide +kernel
theorem dX5_rulerOf_71 : decode cX5_rulerOf 71 = .ok (.aload_n 0, 1) := by decide +kernel
theorem dX5_rulerOf_72 : decode cX5_rulerOf 72 = .ok (.getfield 10, 3) := by decide +kernel
theorem dX5_rulerOf_75 : decode cX5_rulerOf 75 = .ok (.iload_n 1, 1) := by decide +kernel
theorem dX5_rulerOf_76 : decode cX5_rulerOf 76 = .ok (.invokevirtual 147, 3) := by decide +kernel
theorem dX5_rulerOf_79 : decode cX5_rulerOf 79 = .ok (.invokestatic 151, 3) := by decide +kernel
theorem dX5_rulerOf_82 : decode cX5_rulerOf 82 = .ok (.invokestatic 111, 3) := by decide +kernel
theorem dX5_rulerOf_85 : decode cX5_rulerOf 85 = .ok (.ireturn, 1) := by decide +kernel
theorem dX5_rulerOf_86 : decode cX5_rulerOf 86 = .ok (.aload_n 0, 1) := by decide +kernel
theorem dX5_rulerOf_87 : decode cX5_rulerOf 87 = .ok (.getfield 10, 3) := by decide +kernel
theorem dX5_rulerOf_90 : decode cX5_rulerOf 90 = .ok (.iload_n 1, 1) := by decide +kernel
theorem dX5_rulerOf_91 : decode cX5_rulerOf 91 = .ok (.invokevirtual 147, 3) := by decide +kernel
theorem dX5_rulerOf_94 : decode cX5_rulerOf 94 = .ok (.invokestatic 155, 3) := by decide +kernel
theorem dX5_rulerOf_97 : decode cX5_rulerOf 97 = .ok (.ireturn, 1) := by decide +kernel
theorem dX5_rulerOf_98 : decode cX5_rulerOf 98 = .ok (.aload_n 0, 1) := by decide +kernel
theorem dX5_rulerOf_99 : decode cX5_rulerOf 99 = .ok (.getfield 10, 3) := by decide +kernel
theorem dX5_rulerOf_102 : decode cX5_rulerOf 102 = .ok (.iload_n 1, 1) := by decide +kernel
theorem dX5_rulerOf_103 : decode cX5_rulerOf 103 = .ok (.invokevirtual 147, 3) := by decide +kernel
theorem dX5_rulerOf_106 : decode cX5_rulerOf 106 = .ok (.invokestatic 151, 3) := by decide +kernel
theorem dX5_rulerOf_109 : decode cX5_rulerOf 109 = .ok (.invokestatic 158, 3) := by decide +kernel
theorem dX5_rulerOf_112 : decode cX5_rulerOf 112 = .ok (.ireturn, 1) := by decide +kernel
theorem dX5_rulerOf_113 : decode cX5_rulerOf 113 = .ok (.new 53, 3) := by decide +kernel
theorem dX5_rulerOf_116 : decode cX5_rulerOf 116 = .ok (.dup, 1) := by decide +kernel
theorem dX5_rulerOf_117 : decode cX5_rulerOf 117 = .ok (.ldc 132, 2) := by decide +kernel
theorem dX5_rulerOf_119 : decode cX5_rulerOf 119 = .ok (.invokespecial 57, 3) := by decide +kernel
theorem dX5_rulerOf_122 : decode cX5_rulerOf 122 = .ok (.athrow, 1) := by decide +kernel
theorem dX5_isMarked_0 : decode cX5_isMarked 0 = .ok (.aload_n 0, 1) := by decide +kernel
theorem dX5_isMarked_1 : decode cX5_isMarked 1 = .ok (.getfield 10, 3) := by decide +kernel
theorem dX5_isMarked_4 : decode cX5_isMarked 4 = .ok (.iload_n 1, 1) := by decide +kernel
theorem dX5_isMarked_5 : decode cX5_isMarked 5 = .ok (.iload_n 2, 1) := by decide +kernel
theorem dX5_isMarked_6 : decode cX5_isMarked 6 = .ok (.invokevirtual 161, 3) := by decide +kernel
theorem dX5_isMarked_9 : decode cX5_isMarked 9 = .ok (.ifCond .ne 13, 3) := by decide +kernel
theorem dX5_isMarked_12 : decode cX5_isMarked 12 = .ok (.new 165, 3) := by decide +kernel
theorem dX5_isMarked_15 : decode cX5_isMarked 15 = .ok (.dup, 1) := by decide +kernel
theorem dX5_isMarked_16 : decode cX5_isMarked 16 = .ok (.ldc 167, 2) := by decide +kernel
theorem dX5_isMarked_18 : decode cX5_isMarked 18 = .ok (.invokespecial 169, 3) := by decide +kernel
theorem dX5_isMarked_21 : decode cX5_isMarked 21 = .ok (.athrow, 1) := by decide +kernel
theorem dX5_isMarked_22 : decode cX5_isMarked 22 = .ok (.aload_n 0, 1) := by decide +kernel
theorem dX5_isMarked_23 : decode cX5_isMarked 23 = .ok (.getfield 10, 3) := by decide +kernel
theorem dX5_isMarked_26 : decode cX5_isMarked 26 = .ok (.iload_n 1, 1) := by decide +kernel
theorem dX5_isMarked_27 : decode cX5_isMarked 27 = .ok (.iload_n 2, 1) := by decide +kernel
theorem dX5_isMarked_28 : decode cX5_isMarked 28 = .ok (.invokevirtual 170, 3) := by decide +kernel
theorem dX5_isMarked_31 : decode cX5_isMarked 31 = .ok (.ifCond .eq 7, 3) := by decide +kernel
theorem dX5_isMarked_34 : decode cX5_isMarked 34 = .ok (.iconst 1, 1) := by decide +kernel
theorem dX5_isMarked_35 : decode cX5_isMarked 35 = .ok (.goto 4, 3) := by decide +kernel
theorem dX5_isMarked_38 : decode cX5_isMarked 38 = .ok (.iconst 0, 1) := by decide +kernel
theorem dX5_isMarked_39 : decode cX5_isMarked 39 = .ok (.ireturn, 1) := by decide +kernel
theorem dX5_span_0 : decode cX5_span 0 = .ok (.aload_n 0, 1) := by decide +kernel
theorem dX5_span_1 : decode cX5_span 1 = .ok (.getfield 10, 3) := by decide +kernel
theorem dX5_span_4 : decode cX5_span 4 = .ok (.iload_n 1, 1) := by decide +kernel
theorem dX5_span_5 : decode cX5_span 5 = .ok (.invokevirtual 173, 3) := by decide +kernel
theorem dX5_span_8 : decode cX5_span 8 = .ok (.ifCond .eq 19, 3) := by decide +kernel
theorem dX5_span_11 : decode cX5_span 11 = .ok (.iload_n 2, 1) := by decide +kernel
theorem dX5_span_12 : decode cX5_span 12 = .ok (.ifCond .lt 15, 3) := by decide +kernel
theorem dX5_span_15 : decode cX5_span 15 = .ok (.iload_n 2, 1) := by decide +kernel
theorem dX5_span_16 : decode cX5_span 16 = .ok (.aload_n 0, 1) := by decide +kernel
theorem dX5_span_17 : decode cX5_span 17 = .ok (.getfield 10, 3) := by decide +kernel
theorem dX5_span_20 : decode cX5_span 20 = .ok (.iload_n 1, 1) := by decide +kernel
theorem dX5_span_21 : decode cX5_span 21 = .ok (.invokevirtual 144, 3) := by decide +kernel
theorem dX5_span_24 : decode cX5_span 24 = .ok (.if_icmp .lt 13, 3) := by decide +kernel
theorem dX5_span_27 : decode cX5_span 27 = .ok (.new 165, 3) := by decide +kernel
theorem dX5_span_30 : decode cX5_span 30 = .ok (.dup, 1) := by decide +kernel
theorem dX5_span_31 : decode cX5_span 31 = .ok (.ldc 177, 2) := by decide +kernel
theorem dX5_span_33 : decode cX5_span 33 = .ok (.invokespecial 169, 3) := by decide +kernel
theorem dX5_span_36 : decode cX5_span 36 = .ok (.athrow, 1) := by decide +kernel
theorem dX5_span_37 : decode cX5_span 37 = .ok (.aload_n 0, 1) := by decide +kernel
theorem dX5_span_38 : decode cX5_span 38 = .ok (.getfield 10, 3) := by decide +kernel
theorem dX5_span_41 : decode cX5_span 41 = .ok (.iload_n 1, 1) := by decide +kernel
theorem dX5_span_42 : decode cX5_span 42 = .ok (.iload_n 2, 1) := by decide +kernel
theorem dX5_span_43 : decode cX5_span 43 = .ok (.invokevirtual 179, 3) := by decide +kernel
theorem dX5_span_46 : decode cX5_span 46 = .ok (.istore 4, 2) := by decide +kernel
theorem dX5_span_48 : decode cX5_span 48 = .ok (.aload_n 0, 1) := by decide +kernel
theorem dX5_span_49 : decode cX5_span 49 = .ok (.getfield 10, 3) := by decide +kernel
theorem dX5_span_52 : decode cX5_span 52 = .ok (.iload_n 1, 1) := by decide +kernel
theorem dX5_span_53 : decode cX5_span 53 = .ok (.iload_n 2, 1) := by decide +kernel
theorem dX5_span_54 : decode cX5_span 54 = .ok (.invokevirtual 183, 3) := by decide +kernel
theorem dX5_span_57 : decode cX5_span 57 = .ok (.istore 5, 2) := by decide +kernel
theorem dX5_span_59 : decode cX5_span 59 = .ok (.iload_n 3, 1) := by decide +kernel
theorem dX5_span_60 : decode cX5_span 60 = .ok (.tableswitch 57 0 3 #[32, 35, 38, 44], 32) := by decide +kernel
theorem dX5_span_92 : decode cX5_span 92 = .ok (.iload 4, 2) := by decide +kernel
theorem dX5_span_94 : decode cX5_span 94 = .ok (.ireturn, 1) := by decide +kernel
theorem dX5_span_95 : decode cX5_span 95 = .ok (.iload 5, 2) := by decide +kernel
theorem dX5_span_97 : decode cX5_span 97 = .ok (.ireturn, 1) := by decide +kernel
theorem dX5_span_98 : decode cX5_span 98 = .ok (.iload 5, 2) := by decide +kernel
theorem dX5_span_100 : decode cX5_span 100 = .ok (.iload 4, 2) := by decide +kernel
theorem dX5_span_102 : decode cX5_span 102 = .ok (.isub, 1) := by decide +kernel
theorem dX5_span_103 : decode cX5_span 103 = .ok (.ireturn, 1) := by decide +kernel
theorem dX5_span_104 : decode cX5_span 104 = .ok (.aload_n 0, 1) := by decide +kernel
theorem dX5_span_105 : decode cX5_span 105 = .ok (.getfield 10, 3) := by decide +kernel
theorem dX5_span_108 : decode cX5_span 108 = .ok (.iload 5, 2) := by decide +kernel
theorem dX5_span_110 : decode cX5_span 110 = .ok (.iload 4, 2) := by decide +kernel
theorem dX5_span_112 : decode cX5_span 112 = .ok (.isub, 1) := by decide +kernel
theorem dX5_span_113 : decode cX5_span 113 = .ok (.invokevirtual 186, 3) := by decide +kernel
theorem dX5_span_116 : decode cX5_span 116 = .ok (.ireturn, 1) := by decide +kernel
theorem dX5_span_117 : decode cX5_span 117 = .ok (.new 53, 3) := by decide +kernel
theorem dX5_span_120 : decode cX5_span 120 = .ok (.dup, 1) := by decide +kernel
theorem dX5_span_121 : decode cX5_span 121 = .ok (.ldc 132, 2) := by decide +kernel
theorem dX5_span_123 : decode cX5_span 123 = .ok (.invokespecial 57, 3) := by decide +kernel
theorem dX5_span_126 : decode cX5_span 126 = .ok (.athrow, 1) := by decide +kernel
theorem dX5_gap_0 : decode cX5_gap 0 = .ok (.iload_n 1, 1) := by decide +kernel
theorem dX5_gap_1 : decode cX5_gap 1 = .ok (.ifCond .lt 15, 3) := by decide +kernel
theorem dX5_gap_4 : decode cX5_gap 4 = .ok (.iload_n 1, 1) := by decide +kernel
theorem dX5_gap_5 : decode cX5_gap 5 = .ok (.aload_n 0, 1) := by decide +kernel
theorem dX5_gap_6 : decode cX5_gap 6 = .ok (.aload_n 0, 1) := by decide +kernel
theorem dX5_gap_7 : decode cX5_gap 7 = .ok (.getfield 10, 3) := by decide +kernel
theorem dX5_gap_10 : decode cX5_gap 10 = .ok (.invokevirtual 123, 3) := by decide +kernel
theorem dX5_gap_13 : decode cX5_gap 13 = .ok (.if_icmp .lt 13, 3) := by decide +kernel
theorem dX5_gap_16 : decode cX5_gap 16 = .ok (.new 165, 3) := by decide +kernel
theorem dX5_gap_19 : decode cX5_gap 19 = .ok (.dup, 1) := by decide +kernel
theorem dX5_gap_20 : decode cX5_gap 20 = .ok (.ldc 189, 2) := by decide +kernel
theorem dX5_gap_22 : decode cX5_gap 22 = .ok (.invokespecial 169, 3) := by decide +kernel
theorem dX5_gap_25 : decode cX5_gap 25 = .ok (.athrow, 1) := by decide +kernel
theorem dX5_gap_26 : decode cX5_gap 26 = .ok (.iload_n 2, 1) := by decide +kernel
theorem dX5_gap_27 : decode cX5_gap 27 = .ok (.ifCond .eq 18, 3) := by decide +kernel
theorem dX5_gap_30 : decode cX5_gap 30 = .ok (.iload_n 2, 1) := by decide +kernel
theorem dX5_gap_31 : decode cX5_gap 31 = .ok (.iconst 1, 1) := by decide +kernel
theorem dX5_gap_32 : decode cX5_gap 32 = .ok (.if_icmp .eq 13, 3) := by decide +kernel
theorem dX5_gap_35 : decode cX5_gap 35 = .ok (.new 53, 3) := by decide +kernel
theorem dX5_gap_38 : decode cX5_gap 38 = .ok (.dup, 1) := by decide +kernel
theorem dX5_gap_39 : decode cX5_gap 39 = .ok (.ldc 132, 2) := by decide +kernel
theorem dX5_gap_41 : decode cX5_gap 41 = .ok (.invokespecial 57, 3) := by decide +kernel
theorem dX5_gap_44 : decode cX5_gap 44 = .ok (.athrow, 1) := by decide +kernel
theorem dX5_gap_45 : decode cX5_gap 45 = .ok (.aload_n 0, 1) := by decide +kernel
theorem dX5_gap_46 : decode cX5_gap 46 = .ok (.getfield 42, 3) := by decide +kernel
theorem dX5_gap_49 : decode cX5_gap 49 = .ok (.iload_n 1, 1) := by decide +kernel
theorem dX5_gap_50 : decode cX5_gap 50 = .ok (.aload_n 0, 1) := by decide +kernel
theorem dX5_gap_51 : decode cX5_gap 51 = .ok (.getfield 10, 3) := by decide +kernel
theorem dX5_gap_54 : decode cX5_gap 54 = .ok (.invokevirtual 129, 3) := by decide +kernel
theorem dX5_gap_57 : decode cX5_gap 57 = .ok (.invokevirtual 191, 3) := by decide +kernel
theorem dX5_gap_60 : decode cX5_gap 60 = .ok (.istore_n 3, 1) := by decide +kernel
theorem dX5_gap_61 : decode cX5_gap 61 = .ok (.iload_n 2, 1) := by decide +kernel
theorem dX5_gap_62 : decode cX5_gap 62 = .ok (.ifCond .ne 7, 3) := by decide +kernel
theorem dX5_gap_65 : decode cX5_gap 65 = .ok (.iload_n 3, 1) := by decide +kernel
theorem dX5_gap_66 : decode cX5_gap 66 = .ok (.goto 18, 3) := by decide +kernel
theorem dX5_gap_69 : decode cX5_gap 69 = .ok (.aload_n 0, 1) := by decide +kernel
theorem dX5_gap_70 : decode cX5_gap 70 = .ok (.getfield 42, 3) := by decide +kernel
theorem dX5_gap_73 : decode cX5_gap 73 = .ok (.iload_n 3, 1) := by decide +kernel
theorem dX5_gap_74 : decode cX5_gap 74 = .ok (.aload_n 0, 1) := by decide +kernel
theorem dX5_gap_75 : decode cX5_gap 75 = .ok (.getfield 10, 3) := by decide +kernel
theorem dX5_gap_78 : decode cX5_gap 78 = .ok (.invokevirtual 129, 3) := by decide +kernel
theorem dX5_gap_81 : decode cX5_gap 81 = .ok (.invokevirtual 194, 3) := by decide +kernel
theorem dX5_gap_84 : decode cX5_gap 84 = .ok (.ireturn, 1) := by decide +kernel
theorem dX5_ruler_0 : decode cX5_ruler 0 = .ok (.aload_n 0, 1) := by decide +kernel
theorem dX5_ruler_1 : decode cX5_ruler 1 = .ok (.iconst 1, 1) := by decide +kernel
theorem dX5_ruler_2 : decode cX5_ruler 2 = .ok (.iload_n 1, 1) := by decide +kernel
theorem dX5_ruler_3 : decode cX5_ruler 3 = .ok (.iconst 0, 1) := by decide +kernel
theorem dX5_ruler_4 : decode cX5_ruler 4 = .ok (.iconst 0, 1) := by decide +kernel
theorem dX5_ruler_5 : decode cX5_ruler 5 = .ok (.invokevirtual 197, 3) := by decide +kernel
theorem dX5_ruler_8 : decode cX5_ruler 8 = .ok (.ireturn, 1) := by decide +kernel
theorem dX5_mark_0 : decode cX5_mark 0 = .ok (.aload_n 0, 1) := by decide +kernel
theorem dX5_mark_1 : decode cX5_mark 1 = .ok (.iconst 2, 1) := by decide +kernel
theorem dX5_mark_2 : decode cX5_mark 2 = .ok (.iload_n 1, 1) := by decide +kernel
theorem dX5_mark_3 : decode cX5_mark 3 = .ok (.iload_n 2, 1) := by decide +kernel
theorem dX5_mark_4 : decode cX5_mark 4 = .ok (.iload_n 3, 1) := by decide +kernel
theorem dX5_mark_5 : decode cX5_mark 5 = .ok (.invokevirtual 197, 3) := by decide +kernel
theorem dX5_mark_8 : decode cX5_mark 8 = .ok (.ireturn, 1) := by decide +kernel
theorem dX5_cut_0 : decode cX5_cut 0 = .ok (.aload_n 0, 1) := by decide +kernel
theorem dX5_cut_1 : decode cX5_cut 1 = .ok (.iconst 3, 1) := by decide +kernel
theorem dX5_cut_2 : decode cX5_cut 2 = .ok (.iload_n 1, 1) := by decide +kernel
theorem dX5_cut_3 : decode cX5_cut 3 = .ok (.iload_n 2, 1) := by decide +kernel
theorem dX5_cut_4 : decode cX5_cut 4 = .ok (.iconst 0, 1) := by decide +kernel
theorem dX5_cut_5 : decode cX5_cut 5 = .ok (.invokevirtual 197, 3) := by decide +kernel
theorem dX5_cut_8 : decode cX5_cut 8 = .ok (.ireturn, 1) := by decide +kernel
theorem dX5_turn_0 : decode cX5_turn 0 = .ok (.aload_n 0, 1) := by decide +kernel
theorem dX5_turn_1 : decode cX5_turn 1 = .ok (.iconst 4, 1) := by decide +kernel
theorem dX5_turn_2 : decode cX5_turn 2 = .ok (.iload_n 1, 1) := by decide +kernel
theorem dX5_turn_3 : decode cX5_turn 3 = .ok (.iconst 0, 1) := by decide +kernel
theorem dX5_turn_4 : decode cX5_turn 4 = .ok (.iconst 0, 1) := by decide +kernel
theorem dX5_turn_5 : decode cX5_turn 5 = .ok (.invokevirtual 197, 3) := by decide +kernel
theorem dX5_turn_8 : decode cX5_turn 8 = .ok (.ireturn, 1) := by decide +kernel
theorem dX5_set_0 : decode cX5_set 0 = .ok (.aload_n 0, 1) := by decide +kernel
theorem dX5_set_1 : decode cX5_set 1 = .ok (.iconst 5, 1) := by decide +kernel
theorem dX5_set_2 : decode cX5_set 2 = .ok (.iload_n 1, 1) := by decide +kernel
theorem dX5_set_3 : decode cX5_set 3 = .ok (.iload_n 2, 1) := by decide +kernel
theorem dX5_set_4 : decode cX5_set 4 = .ok (.iconst 0, 1) := by decide +kernel
theorem dX5_set_5 : decode cX5_set 5 = .ok (.invokevirtual 197, 3) := by decide +kernel
theorem dX5_set_8 : decode cX5_set 8 = .ok (.ireturn, 1) := by decide +kernel
theorem dX5_undo_0 : decode cX5_undo 0 = .ok (.aload_n 0, 1) := by decide +kernel
theorem dX5_undo_1 : decode cX5_undo 1 = .ok (.getfield 28, 3) := by decide +kernel
theorem dX5_undo_4 : decode cX5_undo 4 = .ok (.aload_n 0, 1) := by decide +kernel
theorem dX5_undo_5 : decode cX5_undo 5 = .ok (.getfield 10, 3) := by decide +kernel
theorem dX5_undo_8 : decode cX5_undo 8 = .ok (.invokevirtual 201, 3) := by decide +kernel
theorem dX5_undo_11 : decode cX5_undo 11 = .ok (.ifCond .ne 13, 3) := by decide +kernel
theorem dX5_undo_14 : decode cX5_undo 14 = .ok (.new 64, 3) := by decide +kernel
theorem dX5_undo_17 : decode cX5_undo 17 = .ok (.dup, 1) := by decide +kernel
theorem dX5_undo_18 : decode cX5_undo 18 = .ok (.ldc 205, 2) := by decide +kernel
theorem dX5_undo_20 : decode cX5_undo 20 = .ok (.invokespecial 68, 3) := by decide +kernel
theorem dX5_undo_23 : decode cX5_undo 23 = .ok (.athrow, 1) := by decide +kernel
theorem dX5_undo_24 : decode cX5_undo 24 = .ok (.aload_n 0, 1) := by decide +kernel
theorem dX5_undo_25 : decode cX5_undo 25 = .ok (.getfield 28, 3) := by decide +kernel
theorem dX5_undo_28 : decode cX5_undo 28 = .ok (.invokevirtual 207, 3) := by decide +kernel
theorem dX5_undo_31 : decode cX5_undo 31 = .ok (.ireturn, 1) := by decide +kernel
theorem dX5_act_0 : decode cX5_act 0 = .ok (.aload_n 0, 1) := by decide +kernel
theorem dX5_act_1 : decode cX5_act 1 = .ok (.getfield 10, 3) := by decide +kernel
theorem dX5_act_4 : decode cX5_act 4 = .ok (.iload_n 1, 1) := by decide +kernel
theorem dX5_act_5 : decode cX5_act 5 = .ok (.iload_n 2, 1) := by decide +kernel
theorem dX5_act_6 : decode cX5_act 6 = .ok (.iload_n 3, 1) := by decide +kernel
theorem dX5_act_7 : decode cX5_act 7 = .ok (.iload 4, 2) := by decide +kernel
theorem dX5_act_9 : decode cX5_act 9 = .ok (.invokevirtual 208, 3) := by decide +kernel
theorem dX5_act_12 : decode cX5_act 12 = .ok (.invokestatic 211, 3) := by decide +kernel
theorem dX5_act_15 : decode cX5_act 15 = .ok (.aload_n 0, 1) := by decide +kernel
theorem dX5_act_16 : decode cX5_act 16 = .ok (.getfield 28, 3) := by decide +kernel
theorem dX5_act_19 : decode cX5_act 19 = .ok (.aload_n 0, 1) := by decide +kernel
