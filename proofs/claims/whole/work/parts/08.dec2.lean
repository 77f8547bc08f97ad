theorem d_M_init_0 : decode c_M_init 0 = .ok (.aload_n 0, 1) := by decide +kernel
theorem d_M_init_1 : decode c_M_init 1 = .ok (.invokespecial 1, 3) := by decide +kernel
theorem d_M_init_4 : decode c_M_init 4 = .ok (.aload_n 0, 1) := by decide +kernel
theorem d_M_init_5 : decode c_M_init 5 = .ok (.iconst 4, 1) := by decide +kernel
theorem d_M_init_6 : decode c_M_init 6 = .ok (.newarray .int, 2) := by decide +kernel
theorem d_M_init_8 : decode c_M_init 8 = .ok (.putfield 7, 3) := by decide +kernel
theorem d_M_init_11 : decode c_M_init 11 = .ok (.aload_n 0, 1) := by decide +kernel
theorem d_M_init_12 : decode c_M_init 12 = .ok (.iconst 4, 1) := by decide +kernel
theorem d_M_init_13 : decode c_M_init 13 = .ok (.newarray .int, 2) := by decide +kernel
theorem d_M_init_15 : decode c_M_init 15 = .ok (.putfield 13, 3) := by decide +kernel
theorem d_M_init_18 : decode c_M_init 18 = .ok (.aload_n 0, 1) := by decide +kernel
theorem d_M_init_19 : decode c_M_init 19 = .ok (.bipush 48, 2) := by decide +kernel
theorem d_M_init_21 : decode c_M_init 21 = .ok (.newarray .boolean, 2) := by decide +kernel
theorem d_M_init_23 : decode c_M_init 23 = .ok (.putfield 16, 3) := by decide +kernel
theorem d_M_init_26 : decode c_M_init 26 = .ok (.aload_n 0, 1) := by decide +kernel
theorem d_M_init_27 : decode c_M_init 27 = .ok (.iconst (-1), 1) := by decide +kernel
theorem d_M_init_28 : decode c_M_init 28 = .ok (.putfield 20, 3) := by decide +kernel
theorem d_M_init_31 : decode c_M_init 31 = .ok (.aload_n 0, 1) := by decide +kernel
theorem d_M_init_32 : decode c_M_init 32 = .ok (.bipush 12, 2) := by decide +kernel
theorem d_M_init_34 : decode c_M_init 34 = .ok (.newarray .int, 2) := by decide +kernel
theorem d_M_init_36 : decode c_M_init 36 = .ok (.putfield 24, 3) := by decide +kernel
theorem d_M_init_39 : decode c_M_init 39 = .ok (.aload_n 0, 1) := by decide +kernel
theorem d_M_init_40 : decode c_M_init 40 = .ok (.bipush 12, 2) := by decide +kernel
theorem d_M_init_42 : decode c_M_init 42 = .ok (.newarray .int, 2) := by decide +kernel
theorem d_M_init_44 : decode c_M_init 44 = .ok (.putfield 27, 3) := by decide +kernel
theorem d_M_init_47 : decode c_M_init 47 = .ok (.aload_n 0, 1) := by decide +kernel
theorem d_M_init_48 : decode c_M_init 48 = .ok (.bipush 16, 2) := by decide +kernel
theorem d_M_init_50 : decode c_M_init 50 = .ok (.newarray .int, 2) := by decide +kernel
theorem d_M_init_52 : decode c_M_init 52 = .ok (.putfield 30, 3) := by decide +kernel
theorem d_M_init_55 : decode c_M_init 55 = .ok (.aload_n 0, 1) := by decide +kernel
theorem d_M_init_56 : decode c_M_init 56 = .ok (.bipush 16, 2) := by decide +kernel
theorem d_M_init_58 : decode c_M_init 58 = .ok (.newarray .int, 2) := by decide +kernel
theorem d_M_init_60 : decode c_M_init 60 = .ok (.putfield 33, 3) := by decide +kernel
theorem d_M_init_63 : decode c_M_init 63 = .ok (.aload_n 0, 1) := by decide +kernel
theorem d_M_init_64 : decode c_M_init 64 = .ok (.bipush 12, 2) := by decide +kernel
theorem d_M_init_66 : decode c_M_init 66 = .ok (.newarray .long, 2) := by decide +kernel
theorem d_M_init_68 : decode c_M_init 68 = .ok (.putfield 36, 3) := by decide +kernel
theorem d_M_init_71 : decode c_M_init 71 = .ok (.aload_n 0, 1) := by decide +kernel
theorem d_M_init_72 : decode c_M_init 72 = .ok (.bipush 64, 2) := by decide +kernel
theorem d_M_init_74 : decode c_M_init 74 = .ok (.newarray .int, 2) := by decide +kernel
theorem d_M_init_76 : decode c_M_init 76 = .ok (.putfield 40, 3) := by decide +kernel
theorem d_M_init_79 : decode c_M_init 79 = .ok (.aload_n 0, 1) := by decide +kernel
theorem d_M_init_80 : decode c_M_init 80 = .ok (.bipush 64, 2) := by decide +kernel
theorem d_M_init_82 : decode c_M_init 82 = .ok (.newarray .long, 2) := by decide +kernel
theorem d_M_init_84 : decode c_M_init 84 = .ok (.putfield 43, 3) := by decide +kernel
theorem d_M_init_87 : decode c_M_init 87 = .ok (.aload_n 0, 1) := by decide +kernel
theorem d_M_init_88 : decode c_M_init 88 = .ok (.bipush 64, 2) := by decide +kernel
theorem d_M_init_90 : decode c_M_init 90 = .ok (.newarray .boolean, 2) := by decide +kernel
theorem d_M_init_92 : decode c_M_init 92 = .ok (.putfield 46, 3) := by decide +kernel
theorem d_M_init_95 : decode c_M_init 95 = .ok (.aload_n 0, 1) := by decide +kernel
theorem d_M_init_96 : decode c_M_init 96 = .ok (.sipush 768, 3) := by decide +kernel
theorem d_M_init_99 : decode c_M_init 99 = .ok (.newarray .long, 2) := by decide +kernel
theorem d_M_init_101 : decode c_M_init 101 = .ok (.putfield 49, 3) := by decide +kernel
theorem d_M_init_104 : decode c_M_init 104 = .ok (.aload_n 0, 1) := by decide +kernel
theorem d_M_init_105 : decode c_M_init 105 = .ok (.sipush 768, 3) := by decide +kernel
theorem d_M_init_108 : decode c_M_init 108 = .ok (.newarray .long, 2) := by decide +kernel
theorem d_M_init_110 : decode c_M_init 110 = .ok (.putfield 52, 3) := by decide +kernel
theorem d_M_init_113 : decode c_M_init 113 = .ok (.aload_n 0, 1) := by decide +kernel
theorem d_M_init_114 : decode c_M_init 114 = .ok (.sipush 768, 3) := by decide +kernel
theorem d_M_init_117 : decode c_M_init 117 = .ok (.newarray .long, 2) := by decide +kernel
theorem d_M_init_119 : decode c_M_init 119 = .ok (.putfield 55, 3) := by decide +kernel
theorem d_M_init_122 : decode c_M_init 122 = .ok (.aload_n 0, 1) := by decide +kernel
theorem d_M_init_123 : decode c_M_init 123 = .ok (.bipush 48, 2) := by decide +kernel
theorem d_M_init_125 : decode c_M_init 125 = .ok (.newarray .long, 2) := by decide +kernel
theorem d_M_init_127 : decode c_M_init 127 = .ok (.putfield 58, 3) := by decide +kernel
theorem d_M_init_130 : decode c_M_init 130 = .ok (.aload_n 0, 1) := by decide +kernel
theorem d_M_init_131 : decode c_M_init 131 = .ok (.iconst 4, 1) := by decide +kernel
theorem d_M_init_132 : decode c_M_init 132 = .ok (.newarray .boolean, 2) := by decide +kernel
theorem d_M_init_134 : decode c_M_init 134 = .ok (.putfield 61, 3) := by decide +kernel
theorem d_M_init_137 : decode c_M_init 137 = .ok (.aload_n 0, 1) := by decide +kernel
theorem d_M_init_138 : decode c_M_init 138 = .ok (.iconst 4, 1) := by decide +kernel
theorem d_M_init_139 : decode c_M_init 139 = .ok (.newarray .int, 2) := by decide +kernel
theorem d_M_init_141 : decode c_M_init 141 = .ok (.putfield 64, 3) := by decide +kernel
theorem d_M_init_144 : decode c_M_init 144 = .ok (.aload_n 0, 1) := by decide +kernel
theorem d_M_init_145 : decode c_M_init 145 = .ok (.bipush 48, 2) := by decide +kernel
theorem d_M_init_147 : decode c_M_init 147 = .ok (.newarray .int, 2) := by decide +kernel
theorem d_M_init_149 : decode c_M_init 149 = .ok (.putfield 67, 3) := by decide +kernel
theorem d_M_init_152 : decode c_M_init 152 = .ok (.aload_n 0, 1) := by decide +kernel
theorem d_M_init_153 : decode c_M_init 153 = .ok (.iconst 4, 1) := by decide +kernel
theorem d_M_init_154 : decode c_M_init 154 = .ok (.newarray .int, 2) := by decide +kernel
theorem d_M_init_156 : decode c_M_init 156 = .ok (.putfield 70, 3) := by decide +kernel
theorem d_M_init_159 : decode c_M_init 159 = .ok (.aload_n 0, 1) := by decide +kernel
theorem d_M_init_160 : decode c_M_init 160 = .ok (.bipush 44, 2) := by decide +kernel
theorem d_M_init_162 : decode c_M_init 162 = .ok (.newarray .int, 2) := by decide +kernel
theorem d_M_init_164 : decode c_M_init 164 = .ok (.putfield 73, 3) := by decide +kernel
theorem d_M_init_167 : decode c_M_init 167 = .ok (.aload_n 0, 1) := by decide +kernel
theorem d_M_init_168 : decode c_M_init 168 = .ok (.bipush 44, 2) := by decide +kernel
theorem d_M_init_170 : decode c_M_init 170 = .ok (.newarray .int, 2) := by decide +kernel
theorem d_M_init_172 : decode c_M_init 172 = .ok (.putfield 76, 3) := by decide +kernel
theorem d_M_init_175 : decode c_M_init 175 = .ok (.aload_n 0, 1) := by decide +kernel
theorem d_M_init_176 : decode c_M_init 176 = .ok (.bipush 44, 2) := by decide +kernel
theorem d_M_init_178 : decode c_M_init 178 = .ok (.newarray .long, 2) := by decide +kernel
theorem d_M_init_180 : decode c_M_init 180 = .ok (.putfield 79, 3) := by decide +kernel
theorem d_M_init_183 : decode c_M_init 183 = .ok (.aload_n 0, 1) := by decide +kernel
theorem d_M_init_184 : decode c_M_init 184 = .ok (.bipush 44, 2) := by decide +kernel
theorem d_M_init_186 : decode c_M_init 186 = .ok (.newarray .boolean, 2) := by decide +kernel
theorem d_M_init_188 : decode c_M_init 188 = .ok (.putfield 82, 3) := by decide +kernel
theorem d_M_init_191 : decode c_M_init 191 = .ok (.aload_n 0, 1) := by decide +kernel
theorem d_M_init_192 : decode c_M_init 192 = .ok (.sipush 4096, 3) := by decide +kernel
theorem d_M_init_195 : decode c_M_init 195 = .ok (.newarray .long, 2) := by decide +kernel
theorem d_M_init_197 : decode c_M_init 197 = .ok (.putfield 85, 3) := by decide +kernel
theorem d_M_init_200 : decode c_M_init 200 = .ok (.aload_n 0, 1) := by decide +kernel
theorem d_M_init_201 : decode c_M_init 201 = .ok (.sipush 4096, 3) := by decide +kernel
theorem d_M_init_204 : decode c_M_init 204 = .ok (.newarray .int, 2) := by decide +kernel
theorem d_M_init_206 : decode c_M_init 206 = .ok (.putfield 88, 3) := by decide +kernel
theorem d_M_init_209 : decode c_M_init 209 = .ok (.return_, 1) := by decide +kernel
theorem d_M_thrown_0 : decode c_M_thrown 0 = .ok (.aload_n 0, 1) := by decide +kernel
theorem d_M_thrown_1 : decode c_M_thrown 1 = .ok (.getfield 91, 3) := by decide +kernel
theorem d_M_thrown_4 : decode c_M_thrown 4 = .ok (.ireturn, 1) := by decide +kernel
theorem d_M_isClub_0 : decode c_M_isClub 0 = .ok (.iload_n 1, 1) := by decide +kernel
theorem d_M_isClub_1 : decode c_M_isClub 1 = .ok (.ifCond .lt 15, 3) := by decide +kernel
theorem d_M_isClub_4 : decode c_M_isClub 4 = .ok (.iload_n 1, 1) := by decide +kernel
theorem d_M_isClub_5 : decode c_M_isClub 5 = .ok (.aload_n 0, 1) := by decide +kernel
theorem d_M_isClub_6 : decode c_M_isClub 6 = .ok (.getfield 94, 3) := by decide +kernel
theorem d_M_isClub_9 : decode c_M_isClub 9 = .ok (.if_icmp .ge 7, 3) := by decide +kernel
theorem d_M_isClub_12 : decode c_M_isClub 12 = .ok (.iconst 1, 1) := by decide +kernel
theorem d_M_isClub_13 : decode c_M_isClub 13 = .ok (.goto 4, 3) := by decide +kernel
theorem d_M_isClub_16 : decode c_M_isClub 16 = .ok (.iconst 0, 1) := by decide +kernel
theorem d_M_isClub_17 : decode c_M_isClub 17 = .ok (.ireturn, 1) := by decide +kernel
theorem d_M_isMember_0 : decode c_M_isMember 0 = .ok (.aload_n 0, 1) := by decide +kernel
theorem d_M_isMember_1 : decode c_M_isMember 1 = .ok (.iload_n 1, 1) := by decide +kernel
theorem d_M_isMember_2 : decode c_M_isMember 2 = .ok (.invokevirtual 97, 3) := by decide +kernel
theorem d_M_isMember_5 : decode c_M_isMember 5 = .ok (.ifCond .eq 21, 3) := by decide +kernel
theorem d_M_isMember_8 : decode c_M_isMember 8 = .ok (.iload_n 2, 1) := by decide +kernel
theorem d_M_isMember_9 : decode c_M_isMember 9 = .ok (.ifCond .lt 17, 3) := by decide +kernel
theorem d_M_isMember_12 : decode c_M_isMember 12 = .ok (.iload_n 2, 1) := by decide +kernel
theorem d_M_isMember_13 : decode c_M_isMember 13 = .ok (.aload_n 0, 1) := by decide +kernel
theorem d_M_isMember_14 : decode c_M_isMember 14 = .ok (.getfield 7, 3) := by decide +kernel
theorem d_M_isMember_17 : decode c_M_isMember 17 = .ok (.iload_n 1, 1) := by decide +kernel
theorem d_M_isMember_18 : decode c_M_isMember 18 = .ok (.iaload, 1) := by decide +kernel
theorem d_M_isMember_19 : decode c_M_isMember 19 = .ok (.if_icmp .ge 7, 3) := by decide +kernel
theorem d_M_isMember_22 : decode c_M_isMember 22 = .ok (.iconst 1, 1) := by decide +kernel
theorem d_M_isMember_23 : decode c_M_isMember 23 = .ok (.goto 4, 3) := by decide +kernel
theorem d_M_isMember_26 : decode c_M_isMember 26 = .ok (.iconst 0, 1) := by decide +kernel
theorem d_M_isMember_27 : decode c_M_isMember 27 = .ok (.ireturn, 1) := by decide +kernel
theorem d_M_part_0 : decode c_M_part 0 = .ok (.lconst 0, 1) := by decide +kernel
theorem d_M_part_1 : decode c_M_part 1 = .ok (.lstore 6, 2) := by decide +kernel
theorem d_M_part_3 : decode c_M_part 3 = .ok (.lconst 0, 1) := by decide +kernel
theorem d_M_part_4 : decode c_M_part 4 = .ok (.lstore 8, 2) := by decide +kernel
theorem d_M_part_6 : decode c_M_part 6 = .ok (.bipush 62, 2) := by decide +kernel
theorem d_M_part_8 : decode c_M_part 8 = .ok (.istore 10, 2) := by decide +kernel
theorem d_M_part_10 : decode c_M_part 10 = .ok (.iload 10, 2) := by decide +kernel
theorem d_M_part_12 : decode c_M_part 12 = .ok (.ifCond .lt 55, 3) := by decide +kernel
theorem d_M_part_15 : decode c_M_part 15 = .ok (.ldc2_w 101, 3) := by decide +kernel
theorem d_M_part_18 : decode c_M_part 18 = .ok (.lload 8, 2) := by decide +kernel
theorem d_M_part_20 : decode c_M_part 20 = .ok (.lmul, 1) := by decide +kernel
theorem d_M_part_21 : decode c_M_part 21 = .ok (.lload_n 0, 1) := by decide +kernel
theorem d_M_part_22 : decode c_M_part 22 = .ok (.iload 10, 2) := by decide +kernel
theorem d_M_part_24 : decode c_M_part 24 = .ok (.lshr, 1) := by decide +kernel
theorem d_M_part_25 : decode c_M_part 25 = .ok (.lconst 1, 1) := by decide +kernel
theorem d_M_part_26 : decode c_M_part 26 = .ok (.land, 1) := by decide +kernel
theorem d_M_part_27 : decode c_M_part 27 = .ok (.lconst 1, 1) := by decide +kernel
theorem d_M_part_28 : decode c_M_part 28 = .ok (.lcmp, 1) := by decide +kernel
theorem d_M_part_29 : decode c_M_part 29 = .ok (.ifCond .ne 7, 3) := by decide +kernel
theorem d_M_part_32 : decode c_M_part 32 = .ok (.lload_n 2, 1) := by decide +kernel
theorem d_M_part_33 : decode c_M_part 33 = .ok (.goto 4, 3) := by decide +kernel
theorem d_M_part_36 : decode c_M_part 36 = .ok (.lconst 0, 1) := by decide +kernel
theorem d_M_part_37 : decode c_M_part 37 = .ok (.ladd, 1) := by decide +kernel
theorem d_M_part_38 : decode c_M_part 38 = .ok (.lstore 8, 2) := by decide +kernel
theorem d_M_part_40 : decode c_M_part 40 = .ok (.ldc2_w 101, 3) := by decide +kernel
theorem d_M_part_43 : decode c_M_part 43 = .ok (.lload 6, 2) := by decide +kernel
theorem d_M_part_45 : decode c_M_part 45 = .ok (.lmul, 1) := by decide +kernel
theorem d_M_part_46 : decode c_M_part 46 = .ok (.lload 8, 2) := by decide +kernel
theorem d_M_part_48 : decode c_M_part 48 = .ok (.lload 4, 2) := by decide +kernel
theorem d_M_part_50 : decode c_M_part 50 = .ok (.ldiv, 1) := by decide +kernel
theorem d_M_part_51 : decode c_M_part 51 = .ok (.ladd, 1) := by decide +kernel
theorem d_M_part_52 : decode c_M_part 52 = .ok (.lstore 6, 2) := by decide +kernel
theorem d_M_part_54 : decode c_M_part 54 = .ok (.lload 8, 2) := by decide +kernel
theorem d_M_part_56 : decode c_M_part 56 = .ok (.lload 4, 2) := by decide +kernel
theorem d_M_part_58 : decode c_M_part 58 = .ok (.lrem, 1) := by decide +kernel
theorem d_M_part_59 : decode c_M_part 59 = .ok (.lstore 8, 2) := by decide +kernel
theorem d_M_part_61 : decode c_M_part 61 = .ok (.iinc 10 (-1), 3) := by decide +kernel
theorem d_M_part_64 : decode c_M_part 64 = .ok (.goto (-54), 3) := by decide +kernel
theorem d_M_part_67 : decode c_M_part 67 = .ok (.lload 6, 2) := by decide +kernel
theorem d_M_part_69 : decode c_M_part 69 = .ok (.lreturn, 1) := by decide +kernel
theorem d_M_club_0 : decode c_M_club 0 = .ok (.aload_n 0, 1) := by decide +kernel
theorem d_M_club_1 : decode c_M_club 1 = .ok (.iconst 0, 1) := by decide +kernel
theorem d_M_club_2 : decode c_M_club 2 = .ok (.putfield 91, 3) := by decide +kernel
theorem d_M_club_5 : decode c_M_club 5 = .ok (.aload_n 0, 1) := by decide +kernel
theorem d_M_club_6 : decode c_M_club 6 = .ok (.getfield 94, 3) := by decide +kernel
theorem d_M_club_9 : decode c_M_club 9 = .ok (.iconst 4, 1) := by decide +kernel
theorem d_M_club_10 : decode c_M_club 10 = .ok (.if_icmp .ne 5, 3) := by decide +kernel
theorem d_M_club_13 : decode c_M_club 13 = .ok (.iconst (-1), 1) := by decide +kernel
theorem d_M_club_14 : decode c_M_club 14 = .ok (.ireturn, 1) := by decide +kernel
theorem d_M_club_15 : decode c_M_club 15 = .ok (.aload_n 0, 1) := by decide +kernel
theorem d_M_club_16 : decode c_M_club 16 = .ok (.dup, 1) := by decide +kernel
theorem d_M_club_17 : decode c_M_club 17 = .ok (.getfield 94, 3) := by decide +kernel
theorem d_M_club_20 : decode c_M_club 20 = .ok (.iconst 1, 1) := by decide +kernel
theorem d_M_club_21 : decode c_M_club 21 = .ok (.iadd, 1) := by decide +kernel
theorem d_M_club_22 : decode c_M_club 22 = .ok (.putfield 94, 3) := by decide +kernel
theorem d_M_club_25 : decode c_M_club 25 = .ok (.aload_n 0, 1) := by decide +kernel
theorem d_M_club_26 : decode c_M_club 26 = .ok (.getfield 94, 3) := by decide +kernel
theorem d_M_club_29 : decode c_M_club 29 = .ok (.iconst 1, 1) := by decide +kernel
theorem d_M_club_30 : decode c_M_club 30 = .ok (.isub, 1) := by decide +kernel
theorem d_M_club_31 : decode c_M_club 31 = .ok (.ireturn, 1) := by decide +kernel
theorem d_M_member_0 : decode c_M_member 0 = .ok (.aload_n 0, 1) := by decide +kernel
theorem d_M_member_1 : decode c_M_member 1 = .ok (.iconst 0, 1) := by decide +kernel
theorem d_M_member_2 : decode c_M_member 2 = .ok (.putfield 91, 3) := by decide +kernel
theorem d_M_member_5 : decode c_M_member 5 = .ok (.aload_n 0, 1) := by decide +kernel
theorem d_M_member_6 : decode c_M_member 6 = .ok (.iload_n 1, 1) := by decide +kernel
theorem d_M_member_7 : decode c_M_member 7 = .ok (.invokevirtual 97, 3) := by decide +kernel
theorem d_M_member_10 : decode c_M_member 10 = .ok (.ifCond .eq 14, 3) := by decide +kernel
theorem d_M_member_13 : decode c_M_member 13 = .ok (.aload_n 0, 1) := by decide +kernel
theorem d_M_member_14 : decode c_M_member 14 = .ok (.getfield 7, 3) := by decide +kernel
theorem d_M_member_17 : decode c_M_member 17 = .ok (.iload_n 1, 1) := by decide +kernel
theorem d_M_member_18 : decode c_M_member 18 = .ok (.iaload, 1) := by decide +kernel
theorem d_M_member_19 : decode c_M_member 19 = .ok (.bipush 12, 2) := by decide +kernel
theorem d_M_member_21 : decode c_M_member 21 = .ok (.if_icmp .ne 5, 3) := by decide +kernel
theorem d_M_member_24 : decode c_M_member 24 = .ok (.iconst (-1), 1) := by decide +kernel
theorem d_M_member_25 : decode c_M_member 25 = .ok (.ireturn, 1) := by decide +kernel
theorem d_M_member_26 : decode c_M_member 26 = .ok (.aload_n 0, 1) := by decide +kernel
theorem d_M_member_27 : decode c_M_member 27 = .ok (.getfield 7, 3) := by decide +kernel
theorem d_M_member_30 : decode c_M_member 30 = .ok (.iload_n 1, 1) := by decide +kernel
theorem d_M_member_31 : decode c_M_member 31 = .ok (.dup2, 1) := by decide +kernel
theorem d_M_member_32 : decode c_M_member 32 = .ok (.iaload, 1) := by decide +kernel
theorem d_M_member_33 : decode c_M_member 33 = .ok (.iconst 1, 1) := by decide +kernel
theorem d_M_member_34 : decode c_M_member 34 = .ok (.iadd, 1) := by decide +kernel
theorem d_M_member_35 : decode c_M_member 35 = .ok (.iastore, 1) := by decide +kernel
theorem d_M_member_36 : decode c_M_member 36 = .ok (.aload_n 0, 1) := by decide +kernel
theorem d_M_member_37 : decode c_M_member 37 = .ok (.getfield 7, 3) := by decide +kernel
theorem d_M_member_40 : decode c_M_member 40 = .ok (.iload_n 1, 1) := by decide +kernel
theorem d_M_member_41 : decode c_M_member 41 = .ok (.iaload, 1) := by decide +kernel
theorem d_M_member_42 : decode c_M_member 42 = .ok (.iconst 1, 1) := by decide +kernel
theorem d_M_member_43 : decode c_M_member 43 = .ok (.isub, 1) := by decide +kernel
theorem d_M_member_44 : decode c_M_member 44 = .ok (.ireturn, 1) := by decide +kernel
theorem d_M_leave_0 : decode c_M_leave 0 = .ok (.aload_n 0, 1) := by decide +kernel
theorem d_M_leave_1 : decode c_M_leave 1 = .ok (.iload_n 1, 1) := by decide +kernel
theorem d_M_leave_2 : decode c_M_leave 2 = .ok (.iload_n 2, 1) := by decide +kernel
theorem d_M_leave_3 : decode c_M_leave 3 = .ok (.invokevirtual 103, 3) := by decide +kernel
theorem d_M_leave_6 : decode c_M_leave 6 = .ok (.ifCond .eq 37, 3) := by decide +kernel
theorem d_M_leave_9 : decode c_M_leave 9 = .ok (.aload_n 0, 1) := by decide +kernel
theorem d_M_leave_10 : decode c_M_leave 10 = .ok (.getfield 16, 3) := by decide +kernel
theorem d_M_leave_13 : decode c_M_leave 13 = .ok (.bipush 12, 2) := by decide +kernel
theorem d_M_leave_15 : decode c_M_leave 15 = .ok (.iload_n 1, 1) := by decide +kernel
theorem d_M_leave_16 : decode c_M_leave 16 = .ok (.imul, 1) := by decide +kernel
theorem d_M_leave_17 : decode c_M_leave 17 = .ok (.iload_n 2, 1) := by decide +kernel
theorem d_M_leave_18 : decode c_M_leave 18 = .ok (.iadd, 1) := by decide +kernel
theorem d_M_leave_19 : decode c_M_leave 19 = .ok (.baload, 1) := by decide +kernel
theorem d_M_leave_20 : decode c_M_leave 20 = .ok (.ifCond .ne 23, 3) := by decide +kernel
theorem d_M_leave_23 : decode c_M_leave 23 = .ok (.aload_n 0, 1) := by decide +kernel
theorem d_M_leave_24 : decode c_M_leave 24 = .ok (.iload_n 1, 1) := by decide +kernel
theorem d_M_leave_25 : decode c_M_leave 25 = .ok (.iload_n 2, 1) := by decide +kernel
theorem d_M_leave_26 : decode c_M_leave 26 = .ok (.invokevirtual 107, 3) := by decide +kernel
theorem d_M_leave_29 : decode c_M_leave 29 = .ok (.lconst 0, 1) := by decide +kernel
theorem d_M_leave_30 : decode c_M_leave 30 = .ok (.lcmp, 1) := by decide +kernel
theorem d_M_leave_31 : decode c_M_leave 31 = .ok (.ifCond .ne 12, 3) := by decide +kernel
theorem d_M_leave_34 : decode c_M_leave 34 = .ok (.aload_n 0, 1) := by decide +kernel
theorem d_M_leave_35 : decode c_M_leave 35 = .ok (.getfield 61, 3) := by decide +kernel
theorem d_M_leave_38 : decode c_M_leave 38 = .ok (.iload_n 1, 1) := by decide +kernel
theorem d_M_leave_39 : decode c_M_leave 39 = .ok (.baload, 1) := by decide +kernel
theorem d_M_leave_40 : decode c_M_leave 40 = .ok (.ifCond .eq 10, 3) := by decide +kernel
theorem d_M_leave_43 : decode c_M_leave 43 = .ok (.aload_n 0, 1) := by decide +kernel
theorem d_M_leave_44 : decode c_M_leave 44 = .ok (.iconst 0, 1) := by decide +kernel
theorem d_M_leave_45 : decode c_M_leave 45 = .ok (.putfield 91, 3) := by decide +kernel
theorem d_M_leave_48 : decode c_M_leave 48 = .ok (.iconst 0, 1) := by decide +kernel
theorem d_M_leave_49 : decode c_M_leave 49 = .ok (.ireturn, 1) := by decide +kernel
theorem d_M_leave_50 : decode c_M_leave 50 = .ok (.aload_n 0, 1) := by decide +kernel
theorem d_M_leave_51 : decode c_M_leave 51 = .ok (.getfield 16, 3) := by decide +kernel
theorem d_M_leave_54 : decode c_M_leave 54 = .ok (.bipush 12, 2) := by decide +kernel
theorem d_M_leave_56 : decode c_M_leave 56 = .ok (.iload_n 1, 1) := by decide +kernel
theorem d_M_leave_57 : decode c_M_leave 57 = .ok (.imul, 1) := by decide +kernel
theorem d_M_leave_58 : decode c_M_leave 58 = .ok (.iload_n 2, 1) := by decide +kernel
theorem d_M_leave_59 : decode c_M_leave 59 = .ok (.iadd, 1) := by decide +kernel
theorem d_M_leave_60 : decode c_M_leave 60 = .ok (.iconst 1, 1) := by decide +kernel
theorem d_M_leave_61 : decode c_M_leave 61 = .ok (.bastore, 1) := by decide +kernel
theorem d_M_leave_62 : decode c_M_leave 62 = .ok (.iconst 1, 1) := by decide +kernel
theorem d_M_leave_63 : decode c_M_leave 63 = .ok (.ireturn, 1) := by decide +kernel
theorem d_M_within_0 : decode c_M_within 0 = .ok (.iload_n 0, 1) := by decide +kernel
theorem d_M_within_1 : decode c_M_within 1 = .ok (.iload_n 1, 1) := by decide +kernel
theorem d_M_within_2 : decode c_M_within 2 = .ok (.if_icmp .lt 12, 3) := by decide +kernel
theorem d_M_within_5 : decode c_M_within 5 = .ok (.iload_n 0, 1) := by decide +kernel
theorem d_M_within_6 : decode c_M_within 6 = .ok (.iload_n 2, 1) := by decide +kernel
theorem d_M_within_7 : decode c_M_within 7 = .ok (.if_icmp .gt 7, 3) := by decide +kernel
theorem d_M_within_10 : decode c_M_within 10 = .ok (.iconst 1, 1) := by decide +kernel
theorem d_M_within_11 : decode c_M_within 11 = .ok (.goto 4, 3) := by decide +kernel
theorem d_M_within_14 : decode c_M_within 14 = .ok (.iconst 0, 1) := by decide +kernel
theorem d_M_within_15 : decode c_M_within 15 = .ok (.ireturn, 1) := by decide +kernel
theorem d_M_bill_0 : decode c_M_bill 0 = .ok (.aload_n 0, 1) := by decide +kernel
theorem d_M_bill_1 : decode c_M_bill 1 = .ok (.iconst 0, 1) := by decide +kernel
theorem d_M_bill_2 : decode c_M_bill 2 = .ok (.putfield 91, 3) := by decide +kernel
theorem d_M_bill_5 : decode c_M_bill 5 = .ok (.aload_n 0, 1) := by decide +kernel
theorem d_M_bill_6 : decode c_M_bill 6 = .ok (.iload_n 1, 1) := by decide +kernel
theorem d_M_bill_7 : decode c_M_bill 7 = .ok (.invokevirtual 97, 3) := by decide +kernel
theorem d_M_bill_10 : decode c_M_bill 10 = .ok (.ifCond .eq 33, 3) := by decide +kernel
theorem d_M_bill_13 : decode c_M_bill 13 = .ok (.iload_n 2, 1) := by decide +kernel
theorem d_M_bill_14 : decode c_M_bill 14 = .ok (.iconst 1, 1) := by decide +kernel
theorem d_M_bill_15 : decode c_M_bill 15 = .ok (.iconst 5, 1) := by decide +kernel
theorem d_M_bill_16 : decode c_M_bill 16 = .ok (.invokestatic 111, 3) := by decide +kernel
theorem d_M_bill_19 : decode c_M_bill 19 = .ok (.ifCond .eq 24, 3) := by decide +kernel
theorem d_M_bill_22 : decode c_M_bill 22 = .ok (.iload_n 3, 1) := by decide +kernel
theorem d_M_bill_23 : decode c_M_bill 23 = .ok (.iconst 1, 1) := by decide +kernel
theorem d_M_bill_24 : decode c_M_bill 24 = .ok (.ldc 115, 2) := by decide +kernel
theorem d_M_bill_26 : decode c_M_bill 26 = .ok (.invokestatic 111, 3) := by decide +kernel
theorem d_M_bill_29 : decode c_M_bill 29 = .ok (.ifCond .eq 14, 3) := by decide +kernel
theorem d_M_bill_32 : decode c_M_bill 32 = .ok (.iload 4, 2) := by decide +kernel
theorem d_M_bill_34 : decode c_M_bill 34 = .ok (.iconst 1, 1) := by decide +kernel
theorem d_M_bill_35 : decode c_M_bill 35 = .ok (.ldc 116, 2) := by decide +kernel
theorem d_M_bill_37 : decode c_M_bill 37 = .ok (.invokestatic 111, 3) := by decide +kernel
theorem d_M_bill_40 : decode c_M_bill 40 = .ok (.ifCond .ne 5, 3) := by decide +kernel
theorem d_M_bill_43 : decode c_M_bill 43 = .ok (.iconst 0, 1) := by decide +kernel
theorem d_M_bill_44 : decode c_M_bill 44 = .ok (.ireturn, 1) := by decide +kernel
theorem d_M_bill_45 : decode c_M_bill 45 = .ok (.aload_n 0, 1) := by decide +kernel
theorem d_M_bill_46 : decode c_M_bill 46 = .ok (.iload_n 1, 1) := by decide +kernel
theorem d_M_bill_47 : decode c_M_bill 47 = .ok (.putfield 20, 3) := by decide +kernel
theorem d_M_bill_50 : decode c_M_bill 50 = .ok (.aload_n 0, 1) := by decide +kernel
theorem d_M_bill_51 : decode c_M_bill 51 = .ok (.iload_n 2, 1) := by decide +kernel
theorem d_M_bill_52 : decode c_M_bill 52 = .ok (.putfield 117, 3) := by decide +kernel
theorem d_M_bill_55 : decode c_M_bill 55 = .ok (.aload_n 0, 1) := by decide +kernel
theorem d_M_bill_56 : decode c_M_bill 56 = .ok (.iload_n 3, 1) := by decide +kernel
theorem d_M_bill_57 : decode c_M_bill 57 = .ok (.putfield 120, 3) := by decide +kernel
theorem d_M_bill_60 : decode c_M_bill 60 = .ok (.aload_n 0, 1) := by decide +kernel
theorem d_M_bill_61 : decode c_M_bill 61 = .ok (.iload 4, 2) := by decide +kernel
theorem d_M_bill_63 : decode c_M_bill 63 = .ok (.putfield 123, 3) := by decide +kernel
theorem d_M_bill_66 : decode c_M_bill 66 = .ok (.aload_n 0, 1) := by decide +kernel
theorem d_M_bill_67 : decode c_M_bill 67 = .ok (.iconst 0, 1) := by decide +kernel
theorem d_M_bill_68 : decode c_M_bill 68 = .ok (.putfield 126, 3) := by decide +kernel
theorem d_M_bill_71 : decode c_M_bill 71 = .ok (.iconst 0, 1) := by decide +kernel
theorem d_M_bill_72 : decode c_M_bill 72 = .ok (.istore 5, 2) := by decide +kernel
theorem d_M_bill_74 : decode c_M_bill 74 = .ok (.iload 5, 2) := by decide +kernel
theorem d_M_bill_76 : decode c_M_bill 76 = .ok (.bipush 12, 2) := by decide +kernel
theorem d_M_bill_78 : decode c_M_bill 78 = .ok (.if_icmp .ge 25, 3) := by decide +kernel
theorem d_M_bill_81 : decode c_M_bill 81 = .ok (.aload_n 0, 1) := by decide +kernel
theorem d_M_bill_82 : decode c_M_bill 82 = .ok (.getfield 24, 3) := by decide +kernel
theorem d_M_bill_85 : decode c_M_bill 85 = .ok (.iload 5, 2) := by decide +kernel
theorem d_M_bill_87 : decode c_M_bill 87 = .ok (.iconst 0, 1) := by decide +kernel
theorem d_M_bill_88 : decode c_M_bill 88 = .ok (.iastore, 1) := by decide +kernel
theorem d_M_bill_89 : decode c_M_bill 89 = .ok (.aload_n 0, 1) := by decide +kernel
theorem d_M_bill_90 : decode c_M_bill 90 = .ok (.getfield 27, 3) := by decide +kernel
theorem d_M_bill_93 : decode c_M_bill 93 = .ok (.iload 5, 2) := by decide +kernel
theorem d_M_bill_95 : decode c_M_bill 95 = .ok (.iconst 0, 1) := by decide +kernel
theorem d_M_bill_96 : decode c_M_bill 96 = .ok (.iastore, 1) := by decide +kernel
theorem d_M_bill_97 : decode c_M_bill 97 = .ok (.iinc 5 1, 3) := by decide +kernel
theorem d_M_bill_100 : decode c_M_bill 100 = .ok (.goto (-26), 3) := by decide +kernel
theorem d_M_bill_103 : decode c_M_bill 103 = .ok (.iconst 1, 1) := by decide +kernel
theorem d_M_bill_104 : decode c_M_bill 104 = .ok (.ireturn, 1) := by decide +kernel
theorem d_M_stays_0 : decode c_M_stays 0 = .ok (.aload_n 0, 1) := by decide +kernel
theorem d_M_stays_1 : decode c_M_stays 1 = .ok (.getfield 20, 3) := by decide +kernel
theorem d_M_stays_4 : decode c_M_stays 4 = .ok (.iconst (-1), 1) := by decide +kernel
theorem d_M_stays_5 : decode c_M_stays 5 = .ok (.if_icmp .eq 36, 3) := by decide +kernel
theorem d_M_stays_8 : decode c_M_stays 8 = .ok (.aload_n 0, 1) := by decide +kernel
theorem d_M_stays_9 : decode c_M_stays 9 = .ok (.aload_n 0, 1) := by decide +kernel
theorem d_M_stays_10 : decode c_M_stays 10 = .ok (.getfield 20, 3) := by decide +kernel
theorem d_M_stays_13 : decode c_M_stays 13 = .ok (.iload_n 1, 1) := by decide +kernel
theorem d_M_stays_14 : decode c_M_stays 14 = .ok (.invokevirtual 103, 3) := by decide +kernel
theorem d_M_stays_17 : decode c_M_stays 17 = .ok (.ifCond .eq 24, 3) := by decide +kernel
theorem d_M_stays_20 : decode c_M_stays 20 = .ok (.aload_n 0, 1) := by decide +kernel
theorem d_M_stays_21 : decode c_M_stays 21 = .ok (.getfield 16, 3) := by decide +kernel
theorem d_M_stays_24 : decode c_M_stays 24 = .ok (.bipush 12, 2) := by decide +kernel
theorem d_M_stays_26 : decode c_M_stays 26 = .ok (.aload_n 0, 1) := by decide +kernel
theorem d_M_stays_27 : decode c_M_stays 27 = .ok (.getfield 20, 3) := by decide +kernel
theorem d_M_stays_30 : decode c_M_stays 30 = .ok (.imul, 1) := by decide +kernel
theorem d_M_stays_31 : decode c_M_stays 31 = .ok (.iload_n 1, 1) := by decide +kernel
theorem d_M_stays_32 : decode c_M_stays 32 = .ok (.iadd, 1) := by decide +kernel
theorem d_M_stays_33 : decode c_M_stays 33 = .ok (.baload, 1) := by decide +kernel
theorem d_M_stays_34 : decode c_M_stays 34 = .ok (.ifCond .ne 7, 3) := by decide +kernel
theorem d_M_stays_37 : decode c_M_stays 37 = .ok (.iconst 1, 1) := by decide +kernel
theorem d_M_stays_38 : decode c_M_stays 38 = .ok (.goto 4, 3) := by decide +kernel
theorem d_M_stays_41 : decode c_M_stays 41 = .ok (.iconst 0, 1) := by decide +kernel
theorem d_M_stays_42 : decode c_M_stays 42 = .ok (.ireturn, 1) := by decide +kernel
theorem d_M_payer_0 : decode c_M_payer 0 = .ok (.aload_n 0, 1) := by decide +kernel
theorem d_M_payer_1 : decode c_M_payer 1 = .ok (.iconst 0, 1) := by decide +kernel
theorem d_M_payer_2 : decode c_M_payer 2 = .ok (.putfield 91, 3) := by decide +kernel
theorem d_M_payer_5 : decode c_M_payer 5 = .ok (.aload_n 0, 1) := by decide +kernel
theorem d_M_payer_6 : decode c_M_payer 6 = .ok (.iload_n 1, 1) := by decide +kernel
theorem d_M_payer_7 : decode c_M_payer 7 = .ok (.invokevirtual 129, 3) := by decide +kernel
theorem d_M_payer_10 : decode c_M_payer 10 = .ok (.ifCond .eq 13, 3) := by decide +kernel
theorem d_M_payer_13 : decode c_M_payer 13 = .ok (.iload_n 2, 1) := by decide +kernel
theorem d_M_payer_14 : decode c_M_payer 14 = .ok (.iconst 0, 1) := by decide +kernel
theorem d_M_payer_15 : decode c_M_payer 15 = .ok (.ldc 115, 2) := by decide +kernel
theorem d_M_payer_17 : decode c_M_payer 17 = .ok (.invokestatic 111, 3) := by decide +kernel
theorem d_M_payer_20 : decode c_M_payer 20 = .ok (.ifCond .ne 5, 3) := by decide +kernel
theorem d_M_payer_23 : decode c_M_payer 23 = .ok (.iconst 0, 1) := by decide +kernel
theorem d_M_payer_24 : decode c_M_payer 24 = .ok (.ireturn, 1) := by decide +kernel
theorem d_M_payer_25 : decode c_M_payer 25 = .ok (.aload_n 0, 1) := by decide +kernel
theorem d_M_payer_26 : decode c_M_payer 26 = .ok (.getfield 24, 3) := by decide +kernel
theorem d_M_payer_29 : decode c_M_payer 29 = .ok (.iload_n 1, 1) := by decide +kernel
theorem d_M_payer_30 : decode c_M_payer 30 = .ok (.iload_n 2, 1) := by decide +kernel
theorem d_M_payer_31 : decode c_M_payer 31 = .ok (.iastore, 1) := by decide +kernel
theorem d_M_payer_32 : decode c_M_payer 32 = .ok (.iconst 1, 1) := by decide +kernel
theorem d_M_payer_33 : decode c_M_payer 33 = .ok (.ireturn, 1) := by decide +kernel
theorem d_M_weight_0 : decode c_M_weight 0 = .ok (.aload_n 0, 1) := by decide +kernel
theorem d_M_weight_1 : decode c_M_weight 1 = .ok (.iconst 0, 1) := by decide +kernel
theorem d_M_weight_2 : decode c_M_weight 2 = .ok (.putfield 91, 3) := by decide +kernel
theorem d_M_weight_5 : decode c_M_weight 5 = .ok (.aload_n 0, 1) := by decide +kernel
theorem d_M_weight_6 : decode c_M_weight 6 = .ok (.getfield 117, 3) := by decide +kernel
theorem d_M_weight_9 : decode c_M_weight 9 = .ok (.iconst 1, 1) := by decide +kernel
theorem d_M_weight_10 : decode c_M_weight 10 = .ok (.if_icmp .ne 7, 3) := by decide +kernel
theorem d_M_weight_13 : decode c_M_weight 13 = .ok (.iconst 1, 1) := by decide +kernel
theorem d_M_weight_14 : decode c_M_weight 14 = .ok (.goto 33, 3) := by decide +kernel
theorem d_M_weight_17 : decode c_M_weight 17 = .ok (.aload_n 0, 1) := by decide +kernel
theorem d_M_weight_18 : decode c_M_weight 18 = .ok (.getfield 117, 3) := by decide +kernel
theorem d_M_weight_21 : decode c_M_weight 21 = .ok (.iconst 2, 1) := by decide +kernel
theorem d_M_weight_22 : decode c_M_weight 22 = .ok (.if_icmp .ne 9, 3) := by decide +kernel
theorem d_M_weight_25 : decode c_M_weight 25 = .ok (.sipush 1000, 3) := by decide +kernel
theorem d_M_weight_28 : decode c_M_weight 28 = .ok (.goto 19, 3) := by decide +kernel
theorem d_M_weight_31 : decode c_M_weight 31 = .ok (.aload_n 0, 1) := by decide +kernel
theorem d_M_weight_32 : decode c_M_weight 32 = .ok (.getfield 117, 3) := by decide +kernel
theorem d_M_weight_35 : decode c_M_weight 35 = .ok (.iconst 3, 1) := by decide +kernel
theorem d_M_weight_36 : decode c_M_weight 36 = .ok (.if_icmp .ne 8, 3) := by decide +kernel
theorem d_M_weight_39 : decode c_M_weight 39 = .ok (.ldc 115, 2) := by decide +kernel
theorem d_M_weight_41 : decode c_M_weight 41 = .ok (.goto 6, 3) := by decide +kernel
theorem d_M_weight_44 : decode c_M_weight 44 = .ok (.sipush 10000, 3) := by decide +kernel
theorem d_M_weight_47 : decode c_M_weight 47 = .ok (.istore_n 3, 1) := by decide +kernel
theorem d_M_weight_48 : decode c_M_weight 48 = .ok (.aload_n 0, 1) := by decide +kernel
theorem d_M_weight_49 : decode c_M_weight 49 = .ok (.iload_n 1, 1) := by decide +kernel
theorem d_M_weight_50 : decode c_M_weight 50 = .ok (.invokevirtual 129, 3) := by decide +kernel
theorem d_M_weight_53 : decode c_M_weight 53 = .ok (.ifCond .eq 20, 3) := by decide +kernel
theorem d_M_weight_56 : decode c_M_weight 56 = .ok (.aload_n 0, 1) := by decide +kernel
theorem d_M_weight_57 : decode c_M_weight 57 = .ok (.getfield 117, 3) := by decide +kernel
theorem d_M_weight_60 : decode c_M_weight 60 = .ok (.iconst 5, 1) := by decide +kernel
theorem d_M_weight_61 : decode c_M_weight 61 = .ok (.if_icmp .eq 12, 3) := by decide +kernel
theorem d_M_weight_64 : decode c_M_weight 64 = .ok (.iload_n 2, 1) := by decide +kernel
theorem d_M_weight_65 : decode c_M_weight 65 = .ok (.iconst 0, 1) := by decide +kernel
theorem d_M_weight_66 : decode c_M_weight 66 = .ok (.iload_n 3, 1) := by decide +kernel
theorem d_M_weight_67 : decode c_M_weight 67 = .ok (.invokestatic 111, 3) := by decide +kernel
theorem d_M_weight_70 : decode c_M_weight 70 = .ok (.ifCond .ne 5, 3) := by decide +kernel
theorem d_M_weight_73 : decode c_M_weight 73 = .ok (.iconst 0, 1) := by decide +kernel
theorem d_M_weight_74 : decode c_M_weight 74 = .ok (.ireturn, 1) := by decide +kernel
theorem d_M_weight_75 : decode c_M_weight 75 = .ok (.aload_n 0, 1) := by decide +kernel
theorem d_M_weight_76 : decode c_M_weight 76 = .ok (.getfield 27, 3) := by decide +kernel
theorem d_M_weight_79 : decode c_M_weight 79 = .ok (.iload_n 1, 1) := by decide +kernel
theorem d_M_weight_80 : decode c_M_weight 80 = .ok (.iload_n 2, 1) := by decide +kernel
theorem d_M_weight_81 : decode c_M_weight 81 = .ok (.iastore, 1) := by decide +kernel
theorem d_M_weight_82 : decode c_M_weight 82 = .ok (.iconst 1, 1) := by decide +kernel
theorem d_M_weight_83 : decode c_M_weight 83 = .ok (.ireturn, 1) := by decide +kernel
theorem d_M_line_0 : decode c_M_line 0 = .ok (.aload_n 0, 1) := by decide +kernel
theorem d_M_line_1 : decode c_M_line 1 = .ok (.iconst 0, 1) := by decide +kernel
theorem d_M_line_2 : decode c_M_line 2 = .ok (.putfield 91, 3) := by decide +kernel
theorem d_M_line_5 : decode c_M_line 5 = .ok (.aload_n 0, 1) := by decide +kernel
theorem d_M_line_6 : decode c_M_line 6 = .ok (.getfield 20, 3) := by decide +kernel
theorem d_M_line_9 : decode c_M_line 9 = .ok (.iconst (-1), 1) := by decide +kernel
theorem d_M_line_10 : decode c_M_line 10 = .ok (.if_icmp .eq 34, 3) := by decide +kernel
theorem d_M_line_13 : decode c_M_line 13 = .ok (.aload_n 0, 1) := by decide +kernel
theorem d_M_line_14 : decode c_M_line 14 = .ok (.getfield 117, 3) := by decide +kernel
theorem d_M_line_17 : decode c_M_line 17 = .ok (.iconst 5, 1) := by decide +kernel
theorem d_M_line_18 : decode c_M_line 18 = .ok (.if_icmp .ne 26, 3) := by decide +kernel
theorem d_M_line_21 : decode c_M_line 21 = .ok (.iload_n 1, 1) := by decide +kernel
theorem d_M_line_22 : decode c_M_line 22 = .ok (.iconst 1, 1) := by decide +kernel
theorem d_M_line_23 : decode c_M_line 23 = .ok (.ldc 115, 2) := by decide +kernel
theorem d_M_line_25 : decode c_M_line 25 = .ok (.invokestatic 111, 3) := by decide +kernel
theorem d_M_line_28 : decode c_M_line 28 = .ok (.ifCond .eq 16, 3) := by decide +kernel
theorem d_M_line_31 : decode c_M_line 31 = .ok (.iload_n 2, 1) := by decide +kernel
theorem d_M_line_32 : decode c_M_line 32 = .ok (.ifCond .eq 12, 3) := by decide +kernel
theorem d_M_line_35 : decode c_M_line 35 = .ok (.aload_n 0, 1) := by decide +kernel
theorem d_M_line_36 : decode c_M_line 36 = .ok (.getfield 126, 3) := by decide +kernel
theorem d_M_line_39 : decode c_M_line 39 = .ok (.bipush 16, 2) := by decide +kernel
theorem d_M_line_41 : decode c_M_line 41 = .ok (.if_icmp .ne 5, 3) := by decide +kernel
theorem d_M_line_44 : decode c_M_line 44 = .ok (.iconst 0, 1) := by decide +kernel
theorem d_M_line_45 : decode c_M_line 45 = .ok (.ireturn, 1) := by decide +kernel
theorem d_M_line_46 : decode c_M_line 46 = .ok (.iconst 0, 1) := by decide +kernel
theorem d_M_line_47 : decode c_M_line 47 = .ok (.istore_n 3, 1) := by decide +kernel
theorem d_M_line_48 : decode c_M_line 48 = .ok (.iload_n 3, 1) := by decide +kernel
theorem d_M_line_49 : decode c_M_line 49 = .ok (.bipush 32, 2) := by decide +kernel
theorem d_M_line_51 : decode c_M_line 51 = .ok (.if_icmp .ge 28, 3) := by decide +kernel
theorem d_M_line_54 : decode c_M_line 54 = .ok (.iload_n 2, 1) := by decide +kernel
theorem d_M_line_55 : decode c_M_line 55 = .ok (.iload_n 3, 1) := by decide +kernel
theorem d_M_line_56 : decode c_M_line 56 = .ok (.ishr, 1) := by decide +kernel
theorem d_M_line_57 : decode c_M_line 57 = .ok (.iconst 1, 1) := by decide +kernel
theorem d_M_line_58 : decode c_M_line 58 = .ok (.iand, 1) := by decide +kernel
theorem d_M_line_59 : decode c_M_line 59 = .ok (.iconst 1, 1) := by decide +kernel
theorem d_M_line_60 : decode c_M_line 60 = .ok (.if_icmp .ne 13, 3) := by decide +kernel
theorem d_M_line_63 : decode c_M_line 63 = .ok (.aload_n 0, 1) := by decide +kernel
theorem d_M_line_64 : decode c_M_line 64 = .ok (.iload_n 3, 1) := by decide +kernel
theorem d_M_line_65 : decode c_M_line 65 = .ok (.invokevirtual 129, 3) := by decide +kernel
theorem d_M_line_68 : decode c_M_line 68 = .ok (.ifCond .ne 5, 3) := by decide +kernel
theorem d_M_line_71 : decode c_M_line 71 = .ok (.iconst 0, 1) := by decide +kernel
theorem d_M_line_72 : decode c_M_line 72 = .ok (.ireturn, 1) := by decide +kernel
theorem d_M_line_73 : decode c_M_line 73 = .ok (.iinc 3 1, 3) := by decide +kernel
theorem d_M_line_76 : decode c_M_line 76 = .ok (.goto (-28), 3) := by decide +kernel
theorem d_M_line_79 : decode c_M_line 79 = .ok (.aload_n 0, 1) := by decide +kernel
theorem d_M_line_80 : decode c_M_line 80 = .ok (.getfield 30, 3) := by decide +kernel
theorem d_M_line_83 : decode c_M_line 83 = .ok (.aload_n 0, 1) := by decide +kernel
theorem d_M_line_84 : decode c_M_line 84 = .ok (.getfield 126, 3) := by decide +kernel
theorem d_M_line_87 : decode c_M_line 87 = .ok (.iload_n 1, 1) := by decide +kernel
theorem d_M_line_88 : decode c_M_line 88 = .ok (.iastore, 1) := by decide +kernel
theorem d_M_line_89 : decode c_M_line 89 = .ok (.aload_n 0, 1) := by decide +kernel
theorem d_M_line_90 : decode c_M_line 90 = .ok (.getfield 33, 3) := by decide +kernel
theorem d_M_line_93 : decode c_M_line 93 = .ok (.aload_n 0, 1) := by decide +kernel
theorem d_M_line_94 : decode c_M_line 94 = .ok (.getfield 126, 3) := by decide +kernel
theorem d_M_line_97 : decode c_M_line 97 = .ok (.iload_n 2, 1) := by decide +kernel
theorem d_M_line_98 : decode c_M_line 98 = .ok (.iastore, 1) := by decide +kernel
theorem d_M_line_99 : decode c_M_line 99 = .ok (.aload_n 0, 1) := by decide +kernel
theorem d_M_line_100 : decode c_M_line 100 = .ok (.dup, 1) := by decide +kernel
theorem d_M_line_101 : decode c_M_line 101 = .ok (.getfield 126, 3) := by decide +kernel
theorem d_M_line_104 : decode c_M_line 104 = .ok (.iconst 1, 1) := by decide +kernel
theorem d_M_line_105 : decode c_M_line 105 = .ok (.iadd, 1) := by decide +kernel
theorem d_M_line_106 : decode c_M_line 106 = .ok (.putfield 126, 3) := by decide +kernel
theorem d_M_line_109 : decode c_M_line 109 = .ok (.iconst 1, 1) := by decide +kernel
theorem d_M_line_110 : decode c_M_line 110 = .ok (.ireturn, 1) := by decide +kernel
theorem d_M_size_0 : decode c_M_size 0 = .ok (.iconst 0, 1) := by decide +kernel
theorem d_M_size_1 : decode c_M_size 1 = .ok (.istore_n 1, 1) := by decide +kernel
theorem d_M_size_2 : decode c_M_size 2 = .ok (.iconst 0, 1) := by decide +kernel
theorem d_M_size_3 : decode c_M_size 3 = .ok (.istore_n 2, 1) := by decide +kernel
theorem d_M_size_4 : decode c_M_size 4 = .ok (.iload_n 2, 1) := by decide +kernel
theorem d_M_size_5 : decode c_M_size 5 = .ok (.bipush 12, 2) := by decide +kernel
theorem d_M_size_7 : decode c_M_size 7 = .ok (.if_icmp .ge 17, 3) := by decide +kernel
theorem d_M_size_10 : decode c_M_size 10 = .ok (.iload_n 1, 1) := by decide +kernel
theorem d_M_size_11 : decode c_M_size 11 = .ok (.iload_n 0, 1) := by decide +kernel
theorem d_M_size_12 : decode c_M_size 12 = .ok (.iload_n 2, 1) := by decide +kernel
theorem d_M_size_13 : decode c_M_size 13 = .ok (.ishr, 1) := by decide +kernel
theorem d_M_size_14 : decode c_M_size 14 = .ok (.iconst 1, 1) := by decide +kernel
theorem d_M_size_15 : decode c_M_size 15 = .ok (.iand, 1) := by decide +kernel
theorem d_M_size_16 : decode c_M_size 16 = .ok (.iadd, 1) := by decide +kernel
theorem d_M_size_17 : decode c_M_size 17 = .ok (.istore_n 1, 1) := by decide +kernel
theorem d_M_size_18 : decode c_M_size 18 = .ok (.iinc 2 1, 3) := by decide +kernel
theorem d_M_size_21 : decode c_M_size 21 = .ok (.goto (-17), 3) := by decide +kernel
theorem d_M_size_24 : decode c_M_size 24 = .ok (.iload_n 1, 1) := by decide +kernel
theorem d_M_size_25 : decode c_M_size 25 = .ok (.ireturn, 1) := by decide +kernel
theorem d_M_weighs_0 : decode c_M_weighs 0 = .ok (.lconst 0, 1) := by decide +kernel
theorem d_M_weighs_1 : decode c_M_weighs 1 = .ok (.lstore_n 1, 1) := by decide +kernel
theorem d_M_weighs_2 : decode c_M_weighs 2 = .ok (.iconst 0, 1) := by decide +kernel
theorem d_M_weighs_3 : decode c_M_weighs 3 = .ok (.istore_n 3, 1) := by decide +kernel
theorem d_M_weighs_4 : decode c_M_weighs 4 = .ok (.iload_n 3, 1) := by decide +kernel
theorem d_M_weighs_5 : decode c_M_weighs 5 = .ok (.bipush 12, 2) := by decide +kernel
theorem d_M_weighs_7 : decode c_M_weighs 7 = .ok (.if_icmp .ge 121, 3) := by decide +kernel
theorem d_M_weighs_10 : decode c_M_weighs 10 = .ok (.aload_n 0, 1) := by decide +kernel
theorem d_M_weighs_11 : decode c_M_weighs 11 = .ok (.getfield 36, 3) := by decide +kernel
theorem d_M_weighs_14 : decode c_M_weighs 14 = .ok (.iload_n 3, 1) := by decide +kernel
theorem d_M_weighs_15 : decode c_M_weighs 15 = .ok (.aload_n 0, 1) := by decide +kernel
theorem d_M_weighs_16 : decode c_M_weighs 16 = .ok (.getfield 117, 3) := by decide +kernel
theorem d_M_weighs_19 : decode c_M_weighs 19 = .ok (.iconst 5, 1) := by decide +kernel
theorem d_M_weighs_20 : decode c_M_weighs 20 = .ok (.if_icmp .ne 7, 3) := by decide +kernel
theorem d_M_weighs_23 : decode c_M_weighs 23 = .ok (.lconst 0, 1) := by decide +kernel
theorem d_M_weighs_24 : decode c_M_weighs 24 = .ok (.goto 10, 3) := by decide +kernel
theorem d_M_weighs_27 : decode c_M_weighs 27 = .ok (.aload_n 0, 1) := by decide +kernel
theorem d_M_weighs_28 : decode c_M_weighs 28 = .ok (.getfield 27, 3) := by decide +kernel
theorem d_M_weighs_31 : decode c_M_weighs 31 = .ok (.iload_n 3, 1) := by decide +kernel
theorem d_M_weighs_32 : decode c_M_weighs 32 = .ok (.iaload, 1) := by decide +kernel
theorem d_M_weighs_33 : decode c_M_weighs 33 = .ok (.i2l, 1) := by decide +kernel
theorem d_M_weighs_34 : decode c_M_weighs 34 = .ok (.lastore, 1) := by decide +kernel
theorem d_M_weighs_35 : decode c_M_weighs 35 = .ok (.iconst 0, 1) := by decide +kernel
theorem d_M_weighs_36 : decode c_M_weighs 36 = .ok (.istore 4, 2) := by decide +kernel
theorem d_M_weighs_38 : decode c_M_weighs 38 = .ok (.iload 4, 2) := by decide +kernel
theorem d_M_weighs_40 : decode c_M_weighs 40 = .ok (.aload_n 0, 1) := by decide +kernel
theorem d_M_weighs_41 : decode c_M_weighs 41 = .ok (.getfield 126, 3) := by decide +kernel
theorem d_M_weighs_44 : decode c_M_weighs 44 = .ok (.if_icmp .ge 69, 3) := by decide +kernel
theorem d_M_weighs_47 : decode c_M_weighs 47 = .ok (.aload_n 0, 1) := by decide +kernel
theorem d_M_weighs_48 : decode c_M_weighs 48 = .ok (.getfield 117, 3) := by decide +kernel
theorem d_M_weighs_51 : decode c_M_weighs 51 = .ok (.iconst 5, 1) := by decide +kernel
theorem d_M_weighs_52 : decode c_M_weighs 52 = .ok (.if_icmp .ne 61, 3) := by decide +kernel
theorem d_M_weighs_55 : decode c_M_weighs 55 = .ok (.aload_n 0, 1) := by decide +kernel
theorem d_M_weighs_56 : decode c_M_weighs 56 = .ok (.getfield 36, 3) := by decide +kernel
theorem d_M_weighs_59 : decode c_M_weighs 59 = .ok (.iload_n 3, 1) := by decide +kernel
theorem d_M_weighs_60 : decode c_M_weighs 60 = .ok (.dup2, 1) := by decide +kernel
theorem d_M_weighs_61 : decode c_M_weighs 61 = .ok (.laload, 1) := by decide +kernel
theorem d_M_weighs_62 : decode c_M_weighs 62 = .ok (.aload_n 0, 1) := by decide +kernel
theorem d_M_weighs_63 : decode c_M_weighs 63 = .ok (.getfield 33, 3) := by decide +kernel
theorem d_M_weighs_66 : decode c_M_weighs 66 = .ok (.iload 4, 2) := by decide +kernel
theorem d_M_weighs_68 : decode c_M_weighs 68 = .ok (.iaload, 1) := by decide +kernel
theorem d_M_weighs_69 : decode c_M_weighs 69 = .ok (.iload_n 3, 1) := by decide +kernel
theorem d_M_weighs_70 : decode c_M_weighs 70 = .ok (.ishr, 1) := by decide +kernel
theorem d_M_weighs_71 : decode c_M_weighs 71 = .ok (.iconst 1, 1) := by decide +kernel
theorem d_M_weighs_72 : decode c_M_weighs 72 = .ok (.iand, 1) := by decide +kernel
theorem d_M_weighs_73 : decode c_M_weighs 73 = .ok (.iconst 1, 1) := by decide +kernel
theorem d_M_weighs_74 : decode c_M_weighs 74 = .ok (.if_icmp .ne 30, 3) := by decide +kernel
theorem d_M_weighs_77 : decode c_M_weighs 77 = .ok (.sipush 27720, 3) := by decide +kernel
theorem d_M_weighs_80 : decode c_M_weighs 80 = .ok (.aload_n 0, 1) := by decide +kernel
theorem d_M_weighs_81 : decode c_M_weighs 81 = .ok (.getfield 33, 3) := by decide +kernel
theorem d_M_weighs_84 : decode c_M_weighs 84 = .ok (.iload 4, 2) := by decide +kernel
theorem d_M_weighs_86 : decode c_M_weighs 86 = .ok (.iaload, 1) := by decide +kernel
theorem d_M_weighs_87 : decode c_M_weighs 87 = .ok (.invokestatic 132, 3) := by decide +kernel
theorem d_M_weighs_90 : decode c_M_weighs 90 = .ok (.idiv, 1) := by decide +kernel
theorem d_M_weighs_91 : decode c_M_weighs 91 = .ok (.i2l, 1) := by decide +kernel
theorem d_M_weighs_92 : decode c_M_weighs 92 = .ok (.aload_n 0, 1) := by decide +kernel
theorem d_M_weighs_93 : decode c_M_weighs 93 = .ok (.getfield 30, 3) := by decide +kernel
theorem d_M_weighs_96 : decode c_M_weighs 96 = .ok (.iload 4, 2) := by decide +kernel
theorem d_M_weighs_98 : decode c_M_weighs 98 = .ok (.iaload, 1) := by decide +kernel
theorem d_M_weighs_99 : decode c_M_weighs 99 = .ok (.i2l, 1) := by decide +kernel
theorem d_M_weighs_100 : decode c_M_weighs 100 = .ok (.lmul, 1) := by decide +kernel
theorem d_M_weighs_101 : decode c_M_weighs 101 = .ok (.goto 4, 3) := by decide +kernel
theorem d_M_weighs_104 : decode c_M_weighs 104 = .ok (.lconst 0, 1) := by decide +kernel
theorem d_M_weighs_105 : decode c_M_weighs 105 = .ok (.ladd, 1) := by decide +kernel
theorem d_M_weighs_106 : decode c_M_weighs 106 = .ok (.lastore, 1) := by decide +kernel
theorem d_M_weighs_107 : decode c_M_weighs 107 = .ok (.iinc 4 1, 3) := by decide +kernel
theorem d_M_weighs_110 : decode c_M_weighs 110 = .ok (.goto (-72), 3) := by decide +kernel
theorem d_M_weighs_113 : decode c_M_weighs 113 = .ok (.lload_n 1, 1) := by decide +kernel
theorem d_M_weighs_114 : decode c_M_weighs 114 = .ok (.aload_n 0, 1) := by decide +kernel
theorem d_M_weighs_115 : decode c_M_weighs 115 = .ok (.getfield 36, 3) := by decide +kernel
theorem d_M_weighs_118 : decode c_M_weighs 118 = .ok (.iload_n 3, 1) := by decide +kernel
theorem d_M_weighs_119 : decode c_M_weighs 119 = .ok (.laload, 1) := by decide +kernel
theorem d_M_weighs_120 : decode c_M_weighs 120 = .ok (.ladd, 1) := by decide +kernel
theorem d_M_weighs_121 : decode c_M_weighs 121 = .ok (.lstore_n 1, 1) := by decide +kernel
theorem d_M_weighs_122 : decode c_M_weighs 122 = .ok (.iinc 3 1, 3) := by decide +kernel
theorem d_M_weighs_125 : decode c_M_weighs 125 = .ok (.goto (-121), 3) := by decide +kernel
theorem d_M_weighs_128 : decode c_M_weighs 128 = .ok (.lload_n 1, 1) := by decide +kernel
theorem d_M_weighs_129 : decode c_M_weighs 129 = .ok (.lreturn, 1) := by decide +kernel
theorem d_M_fits_0 : decode c_M_fits 0 = .ok (.lconst 0, 1) := by decide +kernel
theorem d_M_fits_1 : decode c_M_fits 1 = .ok (.lstore_n 3, 1) := by decide +kernel
theorem d_M_fits_2 : decode c_M_fits 2 = .ok (.iconst 0, 1) := by decide +kernel
theorem d_M_fits_3 : decode c_M_fits 3 = .ok (.istore 5, 2) := by decide +kernel
theorem d_M_fits_5 : decode c_M_fits 5 = .ok (.iload 5, 2) := by decide +kernel
theorem d_M_fits_7 : decode c_M_fits 7 = .ok (.aload_n 0, 1) := by decide +kernel
theorem d_M_fits_8 : decode c_M_fits 8 = .ok (.getfield 126, 3) := by decide +kernel
theorem d_M_fits_11 : decode c_M_fits 11 = .ok (.if_icmp .ge 20, 3) := by decide +kernel
theorem d_M_fits_14 : decode c_M_fits 14 = .ok (.lload_n 3, 1) := by decide +kernel
theorem d_M_fits_15 : decode c_M_fits 15 = .ok (.aload_n 0, 1) := by decide +kernel
theorem d_M_fits_16 : decode c_M_fits 16 = .ok (.getfield 30, 3) := by decide +kernel
theorem d_M_fits_19 : decode c_M_fits 19 = .ok (.iload 5, 2) := by decide +kernel
theorem d_M_fits_21 : decode c_M_fits 21 = .ok (.iaload, 1) := by decide +kernel
theorem d_M_fits_22 : decode c_M_fits 22 = .ok (.i2l, 1) := by decide +kernel
theorem d_M_fits_23 : decode c_M_fits 23 = .ok (.ladd, 1) := by decide +kernel
theorem d_M_fits_24 : decode c_M_fits 24 = .ok (.lstore_n 3, 1) := by decide +kernel
theorem d_M_fits_25 : decode c_M_fits 25 = .ok (.iinc 5 1, 3) := by decide +kernel
theorem d_M_fits_28 : decode c_M_fits 28 = .ok (.goto (-23), 3) := by decide +kernel
theorem d_M_fits_31 : decode c_M_fits 31 = .ok (.aload_n 0, 1) := by decide +kernel
theorem d_M_fits_32 : decode c_M_fits 32 = .ok (.getfield 117, 3) := by decide +kernel
theorem d_M_fits_35 : decode c_M_fits 35 = .ok (.iconst 3, 1) := by decide +kernel
theorem d_M_fits_36 : decode c_M_fits 36 = .ok (.if_icmp .lt 53, 3) := by decide +kernel
theorem d_M_fits_39 : decode c_M_fits 39 = .ok (.aload_n 0, 1) := by decide +kernel
theorem d_M_fits_40 : decode c_M_fits 40 = .ok (.getfield 117, 3) := by decide +kernel
theorem d_M_fits_43 : decode c_M_fits 43 = .ok (.iconst 3, 1) := by decide +kernel
theorem d_M_fits_44 : decode c_M_fits 44 = .ok (.if_icmp .ne 16, 3) := by decide +kernel
theorem d_M_fits_47 : decode c_M_fits 47 = .ok (.lload_n 1, 1) := by decide +kernel
theorem d_M_fits_48 : decode c_M_fits 48 = .ok (.aload_n 0, 1) := by decide +kernel
theorem d_M_fits_49 : decode c_M_fits 49 = .ok (.getfield 120, 3) := by decide +kernel
theorem d_M_fits_52 : decode c_M_fits 52 = .ok (.i2l, 1) := by decide +kernel
theorem d_M_fits_53 : decode c_M_fits 53 = .ok (.lcmp, 1) := by decide +kernel
theorem d_M_fits_54 : decode c_M_fits 54 = .ok (.ifCond .ne 39, 3) := by decide +kernel
theorem d_M_fits_57 : decode c_M_fits 57 = .ok (.goto 32, 3) := by decide +kernel
theorem d_M_fits_60 : decode c_M_fits 60 = .ok (.aload_n 0, 1) := by decide +kernel
theorem d_M_fits_61 : decode c_M_fits 61 = .ok (.getfield 117, 3) := by decide +kernel
theorem d_M_fits_64 : decode c_M_fits 64 = .ok (.iconst 4, 1) := by decide +kernel
theorem d_M_fits_65 : decode c_M_fits 65 = .ok (.if_icmp .ne 14, 3) := by decide +kernel
theorem d_M_fits_68 : decode c_M_fits 68 = .ok (.lload_n 1, 1) := by decide +kernel
theorem d_M_fits_69 : decode c_M_fits 69 = .ok (.ldc2_w 136, 3) := by decide +kernel
theorem d_M_fits_72 : decode c_M_fits 72 = .ok (.lcmp, 1) := by decide +kernel
theorem d_M_fits_73 : decode c_M_fits 73 = .ok (.ifCond .ne 20, 3) := by decide +kernel
theorem d_M_fits_76 : decode c_M_fits 76 = .ok (.goto 13, 3) := by decide +kernel
theorem d_M_fits_79 : decode c_M_fits 79 = .ok (.lload_n 3, 1) := by decide +kernel
theorem d_M_fits_80 : decode c_M_fits 80 = .ok (.aload_n 0, 1) := by decide +kernel
theorem d_M_fits_81 : decode c_M_fits 81 = .ok (.getfield 120, 3) := by decide +kernel
theorem d_M_fits_84 : decode c_M_fits 84 = .ok (.i2l, 1) := by decide +kernel
theorem d_M_fits_85 : decode c_M_fits 85 = .ok (.lcmp, 1) := by decide +kernel
theorem d_M_fits_86 : decode c_M_fits 86 = .ok (.ifCond .ne 7, 3) := by decide +kernel
theorem d_M_fits_89 : decode c_M_fits 89 = .ok (.iconst 1, 1) := by decide +kernel
theorem d_M_fits_90 : decode c_M_fits 90 = .ok (.goto 4, 3) := by decide +kernel
theorem d_M_fits_93 : decode c_M_fits 93 = .ok (.iconst 0, 1) := by decide +kernel
theorem d_M_fits_94 : decode c_M_fits 94 = .ok (.ireturn, 1) := by decide +kernel
theorem d_M_wrong_0 : decode c_M_wrong 0 = .ok (.aload_n 0, 1) := by decide +kernel
theorem d_M_wrong_1 : decode c_M_wrong 1 = .ok (.getfield 20, 3) := by decide +kernel
theorem d_M_wrong_4 : decode c_M_wrong 4 = .ok (.iconst (-1), 1) := by decide +kernel
theorem d_M_wrong_5 : decode c_M_wrong 5 = .ok (.if_icmp .ne 5, 3) := by decide +kernel
theorem d_M_wrong_8 : decode c_M_wrong 8 = .ok (.iconst (-1), 1) := by decide +kernel
theorem d_M_wrong_9 : decode c_M_wrong 9 = .ok (.ireturn, 1) := by decide +kernel
theorem d_M_wrong_10 : decode c_M_wrong 10 = .ok (.aload_n 0, 1) := by decide +kernel
theorem d_M_wrong_11 : decode c_M_wrong 11 = .ok (.getfield 61, 3) := by decide +kernel
theorem d_M_wrong_14 : decode c_M_wrong 14 = .ok (.aload_n 0, 1) := by decide +kernel
theorem d_M_wrong_15 : decode c_M_wrong 15 = .ok (.getfield 20, 3) := by decide +kernel
theorem d_M_wrong_18 : decode c_M_wrong 18 = .ok (.baload, 1) := by decide +kernel
theorem d_M_wrong_19 : decode c_M_wrong 19 = .ok (.ifCond .eq 6, 3) := by decide +kernel
theorem d_M_wrong_22 : decode c_M_wrong 22 = .ok (.bipush (-2), 2) := by decide +kernel
theorem d_M_wrong_24 : decode c_M_wrong 24 = .ok (.ireturn, 1) := by decide +kernel
theorem d_M_wrong_25 : decode c_M_wrong 25 = .ok (.aload_n 0, 1) := by decide +kernel
theorem d_M_wrong_26 : decode c_M_wrong 26 = .ok (.getfield 138, 3) := by decide +kernel
theorem d_M_wrong_29 : decode c_M_wrong 29 = .ok (.bipush 64, 2) := by decide +kernel
theorem d_M_wrong_31 : decode c_M_wrong 31 = .ok (.if_icmp .ne 6, 3) := by decide +kernel
theorem d_M_wrong_34 : decode c_M_wrong 34 = .ok (.bipush (-3), 2) := by decide +kernel
theorem d_M_wrong_36 : decode c_M_wrong 36 = .ok (.ireturn, 1) := by decide +kernel
theorem d_M_wrong_37 : decode c_M_wrong 37 = .ok (.aload_n 0, 1) := by decide +kernel
theorem d_M_wrong_38 : decode c_M_wrong 38 = .ok (.invokevirtual 141, 3) := by decide +kernel
theorem d_M_wrong_41 : decode c_M_wrong 41 = .ok (.lstore_n 1, 1) := by decide +kernel
theorem d_M_wrong_42 : decode c_M_wrong 42 = .ok (.lconst 0, 1) := by decide +kernel
theorem d_M_wrong_43 : decode c_M_wrong 43 = .ok (.lstore_n 3, 1) := by decide +kernel
theorem d_M_wrong_44 : decode c_M_wrong 44 = .ok (.iconst 0, 1) := by decide +kernel
theorem d_M_wrong_45 : decode c_M_wrong 45 = .ok (.istore 5, 2) := by decide +kernel
theorem d_M_wrong_47 : decode c_M_wrong 47 = .ok (.iload 5, 2) := by decide +kernel
theorem d_M_wrong_49 : decode c_M_wrong 49 = .ok (.bipush 12, 2) := by decide +kernel
theorem d_M_wrong_51 : decode c_M_wrong 51 = .ok (.if_icmp .ge 63, 3) := by decide +kernel
theorem d_M_wrong_54 : decode c_M_wrong 54 = .ok (.lload_n 3, 1) := by decide +kernel
theorem d_M_wrong_55 : decode c_M_wrong 55 = .ok (.aload_n 0, 1) := by decide +kernel
theorem d_M_wrong_56 : decode c_M_wrong 56 = .ok (.getfield 24, 3) := by decide +kernel
theorem d_M_wrong_59 : decode c_M_wrong 59 = .ok (.iload 5, 2) := by decide +kernel
theorem d_M_wrong_61 : decode c_M_wrong 61 = .ok (.iaload, 1) := by decide +kernel
theorem d_M_wrong_62 : decode c_M_wrong 62 = .ok (.i2l, 1) := by decide +kernel
theorem d_M_wrong_63 : decode c_M_wrong 63 = .ok (.ladd, 1) := by decide +kernel
theorem d_M_wrong_64 : decode c_M_wrong 64 = .ok (.lstore_n 3, 1) := by decide +kernel
theorem d_M_wrong_65 : decode c_M_wrong 65 = .ok (.aload_n 0, 1) := by decide +kernel
theorem d_M_wrong_66 : decode c_M_wrong 66 = .ok (.getfield 16, 3) := by decide +kernel
theorem d_M_wrong_69 : decode c_M_wrong 69 = .ok (.bipush 12, 2) := by decide +kernel
theorem d_M_wrong_71 : decode c_M_wrong 71 = .ok (.aload_n 0, 1) := by decide +kernel
theorem d_M_wrong_72 : decode c_M_wrong 72 = .ok (.getfield 20, 3) := by decide +kernel
theorem d_M_wrong_75 : decode c_M_wrong 75 = .ok (.imul, 1) := by decide +kernel
theorem d_M_wrong_76 : decode c_M_wrong 76 = .ok (.iload 5, 2) := by decide +kernel
theorem d_M_wrong_78 : decode c_M_wrong 78 = .ok (.iadd, 1) := by decide +kernel
theorem d_M_wrong_79 : decode c_M_wrong 79 = .ok (.baload, 1) := by decide +kernel
theorem d_M_wrong_80 : decode c_M_wrong 80 = .ok (.ifCond .eq 28, 3) := by decide +kernel
theorem d_M_wrong_83 : decode c_M_wrong 83 = .ok (.aload_n 0, 1) := by decide +kernel
theorem d_M_wrong_84 : decode c_M_wrong 84 = .ok (.getfield 24, 3) := by decide +kernel
theorem d_M_wrong_87 : decode c_M_wrong 87 = .ok (.iload 5, 2) := by decide +kernel
theorem d_M_wrong_89 : decode c_M_wrong 89 = .ok (.iaload, 1) := by decide +kernel
theorem d_M_wrong_90 : decode c_M_wrong 90 = .ok (.ifCond .gt 15, 3) := by decide +kernel
theorem d_M_wrong_93 : decode c_M_wrong 93 = .ok (.aload_n 0, 1) := by decide +kernel
theorem d_M_wrong_94 : decode c_M_wrong 94 = .ok (.getfield 36, 3) := by decide +kernel
theorem d_M_wrong_97 : decode c_M_wrong 97 = .ok (.iload 5, 2) := by decide +kernel
theorem d_M_wrong_99 : decode c_M_wrong 99 = .ok (.laload, 1) := by decide +kernel
theorem d_M_wrong_100 : decode c_M_wrong 100 = .ok (.lconst 0, 1) := by decide +kernel
theorem d_M_wrong_101 : decode c_M_wrong 101 = .ok (.lcmp, 1) := by decide +kernel
theorem d_M_wrong_102 : decode c_M_wrong 102 = .ok (.ifCond .le 6, 3) := by decide +kernel
theorem d_M_wrong_105 : decode c_M_wrong 105 = .ok (.bipush (-4), 2) := by decide +kernel
theorem d_M_wrong_107 : decode c_M_wrong 107 = .ok (.ireturn, 1) := by decide +kernel
theorem d_M_wrong_108 : decode c_M_wrong 108 = .ok (.iinc 5 1, 3) := by decide +kernel
theorem d_M_wrong_111 : decode c_M_wrong 111 = .ok (.goto (-64), 3) := by decide +kernel
theorem d_M_wrong_114 : decode c_M_wrong 114 = .ok (.lload_n 3, 1) := by decide +kernel
theorem d_M_wrong_115 : decode c_M_wrong 115 = .ok (.aload_n 0, 1) := by decide +kernel
theorem d_M_wrong_116 : decode c_M_wrong 116 = .ok (.getfield 120, 3) := by decide +kernel
theorem d_M_wrong_119 : decode c_M_wrong 119 = .ok (.i2l, 1) := by decide +kernel
theorem d_M_wrong_120 : decode c_M_wrong 120 = .ok (.lcmp, 1) := by decide +kernel
theorem d_M_wrong_121 : decode c_M_wrong 121 = .ok (.ifCond .eq 8, 3) := by decide +kernel
theorem d_M_wrong_124 : decode c_M_wrong 124 = .ok (.bipush (-5), 2) := by decide +kernel
theorem d_M_wrong_126 : decode c_M_wrong 126 = .ok (.goto 28, 3) := by decide +kernel
theorem d_M_wrong_129 : decode c_M_wrong 129 = .ok (.lload_n 1, 1) := by decide +kernel
theorem d_M_wrong_130 : decode c_M_wrong 130 = .ok (.lconst 0, 1) := by decide +kernel
theorem d_M_wrong_131 : decode c_M_wrong 131 = .ok (.lcmp, 1) := by decide +kernel
theorem d_M_wrong_132 : decode c_M_wrong 132 = .ok (.ifCond .ne 8, 3) := by decide +kernel
theorem d_M_wrong_135 : decode c_M_wrong 135 = .ok (.bipush (-6), 2) := by decide +kernel
theorem d_M_wrong_137 : decode c_M_wrong 137 = .ok (.goto 17, 3) := by decide +kernel
theorem d_M_wrong_140 : decode c_M_wrong 140 = .ok (.aload_n 0, 1) := by decide +kernel
theorem d_M_wrong_141 : decode c_M_wrong 141 = .ok (.lload_n 1, 1) := by decide +kernel
theorem d_M_wrong_142 : decode c_M_wrong 142 = .ok (.invokevirtual 145, 3) := by decide +kernel
theorem d_M_wrong_145 : decode c_M_wrong 145 = .ok (.ifCond .eq 7, 3) := by decide +kernel
theorem d_M_wrong_148 : decode c_M_wrong 148 = .ok (.iconst 0, 1) := by decide +kernel
theorem d_M_wrong_149 : decode c_M_wrong 149 = .ok (.goto 5, 3) := by decide +kernel
theorem d_M_wrong_152 : decode c_M_wrong 152 = .ok (.bipush (-7), 2) := by decide +kernel
theorem d_M_wrong_154 : decode c_M_wrong 154 = .ok (.ireturn, 1) := by decide +kernel
theorem d_M_post_0 : decode c_M_post 0 = .ok (.aload_n 0, 1) := by decide +kernel
theorem d_M_post_1 : decode c_M_post 1 = .ok (.iconst 0, 1) := by decide +kernel
theorem d_M_post_2 : decode c_M_post 2 = .ok (.putfield 91, 3) := by decide +kernel
theorem d_M_post_5 : decode c_M_post 5 = .ok (.aload_n 0, 1) := by decide +kernel
theorem d_M_post_6 : decode c_M_post 6 = .ok (.invokevirtual 149, 3) := by decide +kernel
theorem d_M_post_9 : decode c_M_post 9 = .ok (.istore_n 1, 1) := by decide +kernel
theorem d_M_post_10 : decode c_M_post 10 = .ok (.iload_n 1, 1) := by decide +kernel
theorem d_M_post_11 : decode c_M_post 11 = .ok (.ifCond .eq 5, 3) := by decide +kernel
theorem d_M_post_14 : decode c_M_post 14 = .ok (.iload_n 1, 1) := by decide +kernel
theorem d_M_post_15 : decode c_M_post 15 = .ok (.ireturn, 1) := by decide +kernel
theorem d_M_post_16 : decode c_M_post 16 = .ok (.bipush 12, 2) := by decide +kernel
theorem d_M_post_18 : decode c_M_post 18 = .ok (.aload_n 0, 1) := by decide +kernel
theorem d_M_post_19 : decode c_M_post 19 = .ok (.getfield 138, 3) := by decide +kernel
theorem d_M_post_22 : decode c_M_post 22 = .ok (.imul, 1) := by decide +kernel
theorem d_M_post_23 : decode c_M_post 23 = .ok (.istore_n 2, 1) := by decide +kernel
theorem d_M_post_24 : decode c_M_post 24 = .ok (.aload_n 0, 1) := by decide +kernel
theorem d_M_post_25 : decode c_M_post 25 = .ok (.invokevirtual 141, 3) := by decide +kernel
theorem d_M_post_28 : decode c_M_post 28 = .ok (.lstore_n 3, 1) := by decide +kernel
theorem d_M_post_29 : decode c_M_post 29 = .ok (.aload_n 0, 1) := by decide +kernel
theorem d_M_post_30 : decode c_M_post 30 = .ok (.getfield 120, 3) := by decide +kernel
theorem d_M_post_33 : decode c_M_post 33 = .ok (.i2l, 1) := by decide +kernel
theorem d_M_post_34 : decode c_M_post 34 = .ok (.aload_n 0, 1) := by decide +kernel
theorem d_M_post_35 : decode c_M_post 35 = .ok (.getfield 123, 3) := by decide +kernel
theorem d_M_post_38 : decode c_M_post 38 = .ok (.i2l, 1) := by decide +kernel
theorem d_M_post_39 : decode c_M_post 39 = .ok (.lmul, 1) := by decide +kernel
theorem d_M_post_40 : decode c_M_post 40 = .ok (.ldc2_w 153, 3) := by decide +kernel
theorem d_M_post_43 : decode c_M_post 43 = .ok (.ladd, 1) := by decide +kernel
theorem d_M_post_44 : decode c_M_post 44 = .ok (.ldc2_w 155, 3) := by decide +kernel
theorem d_M_post_47 : decode c_M_post 47 = .ok (.ldiv, 1) := by decide +kernel
theorem d_M_post_48 : decode c_M_post 48 = .ok (.lstore 5, 2) := by decide +kernel
theorem d_M_post_50 : decode c_M_post 50 = .ok (.aload_n 0, 1) := by decide +kernel
theorem d_M_post_51 : decode c_M_post 51 = .ok (.getfield 40, 3) := by decide +kernel
theorem d_M_post_54 : decode c_M_post 54 = .ok (.aload_n 0, 1) := by decide +kernel
theorem d_M_post_55 : decode c_M_post 55 = .ok (.getfield 138, 3) := by decide +kernel
theorem d_M_post_58 : decode c_M_post 58 = .ok (.aload_n 0, 1) := by decide +kernel
theorem d_M_post_59 : decode c_M_post 59 = .ok (.getfield 20, 3) := by decide +kernel
theorem d_M_post_62 : decode c_M_post 62 = .ok (.iastore, 1) := by decide +kernel
theorem d_M_post_63 : decode c_M_post 63 = .ok (.aload_n 0, 1) := by decide +kernel
theorem d_M_post_64 : decode c_M_post 64 = .ok (.getfield 43, 3) := by decide +kernel
theorem d_M_post_67 : decode c_M_post 67 = .ok (.aload_n 0, 1) := by decide +kernel
theorem d_M_post_68 : decode c_M_post 68 = .ok (.getfield 138, 3) := by decide +kernel
theorem d_M_post_71 : decode c_M_post 71 = .ok (.lload 5, 2) := by decide +kernel
theorem d_M_post_73 : decode c_M_post 73 = .ok (.lastore, 1) := by decide +kernel
theorem d_M_post_74 : decode c_M_post 74 = .ok (.aload_n 0, 1) := by decide +kernel
theorem d_M_post_75 : decode c_M_post 75 = .ok (.getfield 46, 3) := by decide +kernel
theorem d_M_post_78 : decode c_M_post 78 = .ok (.aload_n 0, 1) := by decide +kernel
theorem d_M_post_79 : decode c_M_post 79 = .ok (.getfield 138, 3) := by decide +kernel
theorem d_M_post_82 : decode c_M_post 82 = .ok (.iconst 0, 1) := by decide +kernel
theorem d_M_post_83 : decode c_M_post 83 = .ok (.bastore, 1) := by decide +kernel
theorem d_M_post_84 : decode c_M_post 84 = .ok (.aload_n 0, 1) := by decide +kernel
theorem d_M_post_85 : decode c_M_post 85 = .ok (.iload_n 2, 1) := by decide +kernel
theorem d_M_post_86 : decode c_M_post 86 = .ok (.lload 5, 2) := by decide +kernel
theorem d_M_post_88 : decode c_M_post 88 = .ok (.invokevirtual 157, 3) := by decide +kernel
theorem d_M_post_91 : decode c_M_post 91 = .ok (.aload_n 0, 1) := by decide +kernel
theorem d_M_post_92 : decode c_M_post 92 = .ok (.iload_n 2, 1) := by decide +kernel
theorem d_M_post_93 : decode c_M_post 93 = .ok (.lload 5, 2) := by decide +kernel
theorem d_M_post_95 : decode c_M_post 95 = .ok (.lload_n 3, 1) := by decide +kernel
theorem d_M_post_96 : decode c_M_post 96 = .ok (.invokevirtual 161, 3) := by decide +kernel
theorem d_M_post_99 : decode c_M_post 99 = .ok (.iconst 0, 1) := by decide +kernel
theorem d_M_post_100 : decode c_M_post 100 = .ok (.istore 7, 2) := by decide +kernel
theorem d_M_post_102 : decode c_M_post 102 = .ok (.iload 7, 2) := by decide +kernel
theorem d_M_post_104 : decode c_M_post 104 = .ok (.bipush 12, 2) := by decide +kernel
theorem d_M_post_106 : decode c_M_post 106 = .ok (.if_icmp .ge 65, 3) := by decide +kernel
theorem d_M_post_109 : decode c_M_post 109 = .ok (.aload_n 0, 1) := by decide +kernel
theorem d_M_post_110 : decode c_M_post 110 = .ok (.getfield 55, 3) := by decide +kernel
theorem d_M_post_113 : decode c_M_post 113 = .ok (.iload_n 2, 1) := by decide +kernel
theorem d_M_post_114 : decode c_M_post 114 = .ok (.iload 7, 2) := by decide +kernel
theorem d_M_post_116 : decode c_M_post 116 = .ok (.iadd, 1) := by decide +kernel
theorem d_M_post_117 : decode c_M_post 117 = .ok (.aload_n 0, 1) := by decide +kernel
theorem d_M_post_118 : decode c_M_post 118 = .ok (.getfield 36, 3) := by decide +kernel
theorem d_M_post_121 : decode c_M_post 121 = .ok (.iload 7, 2) := by decide +kernel
theorem d_M_post_123 : decode c_M_post 123 = .ok (.laload, 1) := by decide +kernel
theorem d_M_post_124 : decode c_M_post 124 = .ok (.lconst 0, 1) := by decide +kernel
theorem d_M_post_125 : decode c_M_post 125 = .ok (.lcmp, 1) := by decide +kernel
theorem d_M_post_126 : decode c_M_post 126 = .ok (.ifCond .le 37, 3) := by decide +kernel
theorem d_M_post_129 : decode c_M_post 129 = .ok (.ldc2_w 165, 3) := by decide +kernel
theorem d_M_post_132 : decode c_M_post 132 = .ok (.aload_n 0, 1) := by decide +kernel
theorem d_M_post_133 : decode c_M_post 133 = .ok (.getfield 49, 3) := by decide +kernel
theorem d_M_post_136 : decode c_M_post 136 = .ok (.iload_n 2, 1) := by decide +kernel
theorem d_M_post_137 : decode c_M_post 137 = .ok (.iload 7, 2) := by decide +kernel
theorem d_M_post_139 : decode c_M_post 139 = .ok (.iadd, 1) := by decide +kernel
theorem d_M_post_140 : decode c_M_post 140 = .ok (.laload, 1) := by decide +kernel
theorem d_M_post_141 : decode c_M_post 141 = .ok (.lmul, 1) := by decide +kernel
theorem d_M_post_142 : decode c_M_post 142 = .ok (.ldc2_w 165, 3) := by decide +kernel
theorem d_M_post_145 : decode c_M_post 145 = .ok (.lload 5, 2) := by decide +kernel
theorem d_M_post_147 : decode c_M_post 147 = .ok (.lmul, 1) := by decide +kernel
theorem d_M_post_148 : decode c_M_post 148 = .ok (.aload_n 0, 1) := by decide +kernel
theorem d_M_post_149 : decode c_M_post 149 = .ok (.getfield 36, 3) := by decide +kernel
theorem d_M_post_152 : decode c_M_post 152 = .ok (.iload 7, 2) := by decide +kernel
theorem d_M_post_154 : decode c_M_post 154 = .ok (.laload, 1) := by decide +kernel
theorem d_M_post_155 : decode c_M_post 155 = .ok (.lload_n 3, 1) := by decide +kernel
theorem d_M_post_156 : decode c_M_post 156 = .ok (.invokestatic 167, 3) := by decide +kernel
theorem d_M_post_159 : decode c_M_post 159 = .ok (.lsub, 1) := by decide +kernel
theorem d_M_post_160 : decode c_M_post 160 = .ok (.goto 4, 3) := by decide +kernel
theorem d_M_post_163 : decode c_M_post 163 = .ok (.lconst 0, 1) := by decide +kernel
theorem d_M_post_164 : decode c_M_post 164 = .ok (.lastore, 1) := by decide +kernel
theorem d_M_post_165 : decode c_M_post 165 = .ok (.iinc 7 1, 3) := by decide +kernel
theorem d_M_post_168 : decode c_M_post 168 = .ok (.goto (-66), 3) := by decide +kernel
theorem d_M_post_171 : decode c_M_post 171 = .ok (.aload_n 0, 1) := by decide +kernel
theorem d_M_post_172 : decode c_M_post 172 = .ok (.iconst (-1), 1) := by decide +kernel
theorem d_M_post_173 : decode c_M_post 173 = .ok (.putfield 20, 3) := by decide +kernel
theorem d_M_post_176 : decode c_M_post 176 = .ok (.aload_n 0, 1) := by decide +kernel
theorem d_M_post_177 : decode c_M_post 177 = .ok (.dup, 1) := by decide +kernel
theorem d_M_post_178 : decode c_M_post 178 = .ok (.getfield 138, 3) := by decide +kernel
theorem d_M_post_181 : decode c_M_post 181 = .ok (.iconst 1, 1) := by decide +kernel
theorem d_M_post_182 : decode c_M_post 182 = .ok (.iadd, 1) := by decide +kernel
theorem d_M_post_183 : decode c_M_post 183 = .ok (.putfield 138, 3) := by decide +kernel
theorem d_M_post_186 : decode c_M_post 186 = .ok (.aload_n 0, 1) := by decide +kernel
theorem d_M_post_187 : decode c_M_post 187 = .ok (.getfield 138, 3) := by decide +kernel
theorem d_M_post_190 : decode c_M_post 190 = .ok (.iconst 1, 1) := by decide +kernel
theorem d_M_post_191 : decode c_M_post 191 = .ok (.isub, 1) := by decide +kernel
theorem d_M_post_192 : decode c_M_post 192 = .ok (.ireturn, 1) := by decide +kernel
theorem d_M_pay_0 : decode c_M_pay 0 = .ok (.lload_n 2, 1) := by decide +kernel
theorem d_M_pay_1 : decode c_M_pay 1 = .ok (.lstore 4, 2) := by decide +kernel
theorem d_M_pay_3 : decode c_M_pay 3 = .ok (.iconst 0, 1) := by decide +kernel
theorem d_M_pay_4 : decode c_M_pay 4 = .ok (.istore 6, 2) := by decide +kernel
theorem d_M_pay_6 : decode c_M_pay 6 = .ok (.iload 6, 2) := by decide +kernel
theorem d_M_pay_8 : decode c_M_pay 8 = .ok (.bipush 12, 2) := by decide +kernel
theorem d_M_pay_10 : decode c_M_pay 10 = .ok (.if_icmp .ge 49, 3) := by decide +kernel
theorem d_M_pay_13 : decode c_M_pay 13 = .ok (.aload_n 0, 1) := by decide +kernel
theorem d_M_pay_14 : decode c_M_pay 14 = .ok (.getfield 52, 3) := by decide +kernel
theorem d_M_pay_17 : decode c_M_pay 17 = .ok (.iload_n 1, 1) := by decide +kernel
theorem d_M_pay_18 : decode c_M_pay 18 = .ok (.iload 6, 2) := by decide +kernel
theorem d_M_pay_20 : decode c_M_pay 20 = .ok (.iadd, 1) := by decide +kernel
theorem d_M_pay_21 : decode c_M_pay 21 = .ok (.lload_n 2, 1) := by decide +kernel
theorem d_M_pay_22 : decode c_M_pay 22 = .ok (.aload_n 0, 1) := by decide +kernel
theorem d_M_pay_23 : decode c_M_pay 23 = .ok (.getfield 24, 3) := by decide +kernel
theorem d_M_pay_26 : decode c_M_pay 26 = .ok (.iload 6, 2) := by decide +kernel
theorem d_M_pay_28 : decode c_M_pay 28 = .ok (.iaload, 1) := by decide +kernel
theorem d_M_pay_29 : decode c_M_pay 29 = .ok (.i2l, 1) := by decide +kernel
theorem d_M_pay_30 : decode c_M_pay 30 = .ok (.aload_n 0, 1) := by decide +kernel
theorem d_M_pay_31 : decode c_M_pay 31 = .ok (.getfield 120, 3) := by decide +kernel
theorem d_M_pay_34 : decode c_M_pay 34 = .ok (.i2l, 1) := by decide +kernel
theorem d_M_pay_35 : decode c_M_pay 35 = .ok (.invokestatic 167, 3) := by decide +kernel
theorem d_M_pay_38 : decode c_M_pay 38 = .ok (.lastore, 1) := by decide +kernel
theorem d_M_pay_39 : decode c_M_pay 39 = .ok (.lload 4, 2) := by decide +kernel
theorem d_M_pay_41 : decode c_M_pay 41 = .ok (.aload_n 0, 1) := by decide +kernel
theorem d_M_pay_42 : decode c_M_pay 42 = .ok (.getfield 52, 3) := by decide +kernel
theorem d_M_pay_45 : decode c_M_pay 45 = .ok (.iload_n 1, 1) := by decide +kernel
theorem d_M_pay_46 : decode c_M_pay 46 = .ok (.iload 6, 2) := by decide +kernel
theorem d_M_pay_48 : decode c_M_pay 48 = .ok (.iadd, 1) := by decide +kernel
theorem d_M_pay_49 : decode c_M_pay 49 = .ok (.laload, 1) := by decide +kernel
theorem d_M_pay_50 : decode c_M_pay 50 = .ok (.lsub, 1) := by decide +kernel
theorem d_M_pay_51 : decode c_M_pay 51 = .ok (.lstore 4, 2) := by decide +kernel
theorem d_M_pay_53 : decode c_M_pay 53 = .ok (.iinc 6 1, 3) := by decide +kernel
theorem d_M_pay_56 : decode c_M_pay 56 = .ok (.goto (-50), 3) := by decide +kernel
theorem d_M_pay_59 : decode c_M_pay 59 = .ok (.iconst 0, 1) := by decide +kernel
theorem d_M_pay_60 : decode c_M_pay 60 = .ok (.istore 6, 2) := by decide +kernel
theorem d_M_pay_62 : decode c_M_pay 62 = .ok (.lload 4, 2) := by decide +kernel
theorem d_M_pay_64 : decode c_M_pay 64 = .ok (.lconst 0, 1) := by decide +kernel
theorem d_M_pay_65 : decode c_M_pay 65 = .ok (.lcmp, 1) := by decide +kernel
theorem d_M_pay_66 : decode c_M_pay 66 = .ok (.ifCond .le 44, 3) := by decide +kernel
theorem d_M_pay_69 : decode c_M_pay 69 = .ok (.aload_n 0, 1) := by decide +kernel
theorem d_M_pay_70 : decode c_M_pay 70 = .ok (.getfield 24, 3) := by decide +kernel
theorem d_M_pay_73 : decode c_M_pay 73 = .ok (.iload 6, 2) := by decide +kernel
theorem d_M_pay_75 : decode c_M_pay 75 = .ok (.iaload, 1) := by decide +kernel
theorem d_M_pay_76 : decode c_M_pay 76 = .ok (.ifCond .le 22, 3) := by decide +kernel
theorem d_M_pay_79 : decode c_M_pay 79 = .ok (.aload_n 0, 1) := by decide +kernel
theorem d_M_pay_80 : decode c_M_pay 80 = .ok (.getfield 52, 3) := by decide +kernel
theorem d_M_pay_83 : decode c_M_pay 83 = .ok (.iload_n 1, 1) := by decide +kernel
theorem d_M_pay_84 : decode c_M_pay 84 = .ok (.iload 6, 2) := by decide +kernel
theorem d_M_pay_86 : decode c_M_pay 86 = .ok (.iadd, 1) := by decide +kernel
theorem d_M_pay_87 : decode c_M_pay 87 = .ok (.dup2, 1) := by decide +kernel
theorem d_M_pay_88 : decode c_M_pay 88 = .ok (.laload, 1) := by decide +kernel
theorem d_M_pay_89 : decode c_M_pay 89 = .ok (.lconst 1, 1) := by decide +kernel
theorem d_M_pay_90 : decode c_M_pay 90 = .ok (.ladd, 1) := by decide +kernel
theorem d_M_pay_91 : decode c_M_pay 91 = .ok (.lastore, 1) := by decide +kernel
theorem d_M_pay_92 : decode c_M_pay 92 = .ok (.lload 4, 2) := by decide +kernel
theorem d_M_pay_94 : decode c_M_pay 94 = .ok (.lconst 1, 1) := by decide +kernel
theorem d_M_pay_95 : decode c_M_pay 95 = .ok (.lsub, 1) := by decide +kernel
theorem d_M_pay_96 : decode c_M_pay 96 = .ok (.lstore 4, 2) := by decide +kernel
theorem d_M_pay_98 : decode c_M_pay 98 = .ok (.iload 6, 2) := by decide +kernel
theorem d_M_pay_100 : decode c_M_pay 100 = .ok (.iconst 1, 1) := by decide +kernel
theorem d_M_pay_101 : decode c_M_pay 101 = .ok (.iadd, 1) := by decide +kernel
theorem d_M_pay_102 : decode c_M_pay 102 = .ok (.bipush 12, 2) := by decide +kernel
theorem d_M_pay_104 : decode c_M_pay 104 = .ok (.irem, 1) := by decide +kernel
theorem d_M_pay_105 : decode c_M_pay 105 = .ok (.istore 6, 2) := by decide +kernel
theorem d_M_pay_107 : decode c_M_pay 107 = .ok (.goto (-45), 3) := by decide +kernel
theorem d_M_pay_110 : decode c_M_pay 110 = .ok (.return_, 1) := by decide +kernel
theorem d_M_share_0 : decode c_M_share 0 = .ok (.lload_n 2, 1) := by decide +kernel
theorem d_M_share_1 : decode c_M_share 1 = .ok (.lstore 6, 2) := by decide +kernel
theorem d_M_share_3 : decode c_M_share 3 = .ok (.iconst 0, 1) := by decide +kernel
theorem d_M_share_4 : decode c_M_share 4 = .ok (.istore 8, 2) := by decide +kernel
theorem d_M_share_6 : decode c_M_share 6 = .ok (.iload 8, 2) := by decide +kernel
theorem d_M_share_8 : decode c_M_share 8 = .ok (.bipush 12, 2) := by decide +kernel
theorem d_M_share_10 : decode c_M_share 10 = .ok (.if_icmp .ge 45, 3) := by decide +kernel
theorem d_M_share_13 : decode c_M_share 13 = .ok (.aload_n 0, 1) := by decide +kernel
theorem d_M_share_14 : decode c_M_share 14 = .ok (.getfield 49, 3) := by decide +kernel
theorem d_M_share_17 : decode c_M_share 17 = .ok (.iload_n 1, 1) := by decide +kernel
theorem d_M_share_18 : decode c_M_share 18 = .ok (.iload 8, 2) := by decide +kernel
theorem d_M_share_20 : decode c_M_share 20 = .ok (.iadd, 1) := by decide +kernel
theorem d_M_share_21 : decode c_M_share 21 = .ok (.lload_n 2, 1) := by decide +kernel
theorem d_M_share_22 : decode c_M_share 22 = .ok (.aload_n 0, 1) := by decide +kernel
theorem d_M_share_23 : decode c_M_share 23 = .ok (.getfield 36, 3) := by decide +kernel
theorem d_M_share_26 : decode c_M_share 26 = .ok (.iload 8, 2) := by decide +kernel
theorem d_M_share_28 : decode c_M_share 28 = .ok (.laload, 1) := by decide +kernel
theorem d_M_share_29 : decode c_M_share 29 = .ok (.lload 4, 2) := by decide +kernel
theorem d_M_share_31 : decode c_M_share 31 = .ok (.invokestatic 167, 3) := by decide +kernel
theorem d_M_share_34 : decode c_M_share 34 = .ok (.lastore, 1) := by decide +kernel
theorem d_M_share_35 : decode c_M_share 35 = .ok (.lload 6, 2) := by decide +kernel
theorem d_M_share_37 : decode c_M_share 37 = .ok (.aload_n 0, 1) := by decide +kernel
theorem d_M_share_38 : decode c_M_share 38 = .ok (.getfield 49, 3) := by decide +kernel
theorem d_M_share_41 : decode c_M_share 41 = .ok (.iload_n 1, 1) := by decide +kernel
theorem d_M_share_42 : decode c_M_share 42 = .ok (.iload 8, 2) := by decide +kernel
theorem d_M_share_44 : decode c_M_share 44 = .ok (.iadd, 1) := by decide +kernel
theorem d_M_share_45 : decode c_M_share 45 = .ok (.laload, 1) := by decide +kernel
theorem d_M_share_46 : decode c_M_share 46 = .ok (.lsub, 1) := by decide +kernel
theorem d_M_share_47 : decode c_M_share 47 = .ok (.lstore 6, 2) := by decide +kernel
theorem d_M_share_49 : decode c_M_share 49 = .ok (.iinc 8 1, 3) := by decide +kernel
theorem d_M_share_52 : decode c_M_share 52 = .ok (.goto (-46), 3) := by decide +kernel
theorem d_M_share_55 : decode c_M_share 55 = .ok (.aload_n 0, 1) := by decide +kernel
theorem d_M_share_56 : decode c_M_share 56 = .ok (.getfield 13, 3) := by decide +kernel
theorem d_M_share_59 : decode c_M_share 59 = .ok (.aload_n 0, 1) := by decide +kernel
theorem d_M_share_60 : decode c_M_share 60 = .ok (.getfield 20, 3) := by decide +kernel
theorem d_M_share_63 : decode c_M_share 63 = .ok (.iaload, 1) := by decide +kernel
theorem d_M_share_64 : decode c_M_share 64 = .ok (.istore 8, 2) := by decide +kernel
theorem d_M_share_66 : decode c_M_share 66 = .ok (.lload 6, 2) := by decide +kernel
theorem d_M_share_68 : decode c_M_share 68 = .ok (.lconst 0, 1) := by decide +kernel
theorem d_M_share_69 : decode c_M_share 69 = .ok (.lcmp, 1) := by decide +kernel
theorem d_M_share_70 : decode c_M_share 70 = .ok (.ifCond .le 62, 3) := by decide +kernel
theorem d_M_share_73 : decode c_M_share 73 = .ok (.aload_n 0, 1) := by decide +kernel
theorem d_M_share_74 : decode c_M_share 74 = .ok (.getfield 36, 3) := by decide +kernel
theorem d_M_share_77 : decode c_M_share 77 = .ok (.iload 8, 2) := by decide +kernel
theorem d_M_share_79 : decode c_M_share 79 = .ok (.laload, 1) := by decide +kernel
theorem d_M_share_80 : decode c_M_share 80 = .ok (.lconst 0, 1) := by decide +kernel
theorem d_M_share_81 : decode c_M_share 81 = .ok (.lcmp, 1) := by decide +kernel
theorem d_M_share_82 : decode c_M_share 82 = .ok (.ifCond .le 38, 3) := by decide +kernel
theorem d_M_share_85 : decode c_M_share 85 = .ok (.aload_n 0, 1) := by decide +kernel
theorem d_M_share_86 : decode c_M_share 86 = .ok (.getfield 49, 3) := by decide +kernel
theorem d_M_share_89 : decode c_M_share 89 = .ok (.iload_n 1, 1) := by decide +kernel
theorem d_M_share_90 : decode c_M_share 90 = .ok (.iload 8, 2) := by decide +kernel
theorem d_M_share_92 : decode c_M_share 92 = .ok (.iadd, 1) := by decide +kernel
theorem d_M_share_93 : decode c_M_share 93 = .ok (.dup2, 1) := by decide +kernel
theorem d_M_share_94 : decode c_M_share 94 = .ok (.laload, 1) := by decide +kernel
theorem d_M_share_95 : decode c_M_share 95 = .ok (.lconst 1, 1) := by decide +kernel
theorem d_M_share_96 : decode c_M_share 96 = .ok (.ladd, 1) := by decide +kernel
theorem d_M_share_97 : decode c_M_share 97 = .ok (.lastore, 1) := by decide +kernel
theorem d_M_share_98 : decode c_M_share 98 = .ok (.lload 6, 2) := by decide +kernel
theorem d_M_share_100 : decode c_M_share 100 = .ok (.lconst 1, 1) := by decide +kernel
theorem d_M_share_101 : decode c_M_share 101 = .ok (.lsub, 1) := by decide +kernel
theorem d_M_share_102 : decode c_M_share 102 = .ok (.lstore 6, 2) := by decide +kernel
theorem d_M_share_104 : decode c_M_share 104 = .ok (.aload_n 0, 1) := by decide +kernel
theorem d_M_share_105 : decode c_M_share 105 = .ok (.getfield 13, 3) := by decide +kernel
theorem d_M_share_108 : decode c_M_share 108 = .ok (.aload_n 0, 1) := by decide +kernel
theorem d_M_share_109 : decode c_M_share 109 = .ok (.getfield 20, 3) := by decide +kernel
theorem d_M_share_112 : decode c_M_share 112 = .ok (.iload 8, 2) := by decide +kernel
theorem d_M_share_114 : decode c_M_share 114 = .ok (.iconst 1, 1) := by decide +kernel
theorem d_M_share_115 : decode c_M_share 115 = .ok (.iadd, 1) := by decide +kernel
theorem d_M_share_116 : decode c_M_share 116 = .ok (.bipush 12, 2) := by decide +kernel
theorem d_M_share_118 : decode c_M_share 118 = .ok (.irem, 1) := by decide +kernel
theorem d_M_share_119 : decode c_M_share 119 = .ok (.iastore, 1) := by decide +kernel
theorem d_M_share_120 : decode c_M_share 120 = .ok (.iload 8, 2) := by decide +kernel
theorem d_M_share_122 : decode c_M_share 122 = .ok (.iconst 1, 1) := by decide +kernel
theorem d_M_share_123 : decode c_M_share 123 = .ok (.iadd, 1) := by decide +kernel
theorem d_M_share_124 : decode c_M_share 124 = .ok (.bipush 12, 2) := by decide +kernel
theorem d_M_share_126 : decode c_M_share 126 = .ok (.irem, 1) := by decide +kernel
theorem d_M_share_127 : decode c_M_share 127 = .ok (.istore 8, 2) := by decide +kernel
theorem d_M_share_129 : decode c_M_share 129 = .ok (.goto (-63), 3) := by decide +kernel
theorem d_M_share_132 : decode c_M_share 132 = .ok (.return_, 1) := by decide +kernel
theorem d_M_strike_0 : decode c_M_strike 0 = .ok (.aload_n 0, 1) := by decide +kernel
theorem d_M_strike_1 : decode c_M_strike 1 = .ok (.iconst 0, 1) := by decide +kernel
theorem d_M_strike_2 : decode c_M_strike 2 = .ok (.putfield 91, 3) := by decide +kernel
theorem d_M_strike_5 : decode c_M_strike 5 = .ok (.iload_n 1, 1) := by decide +kernel
theorem d_M_strike_6 : decode c_M_strike 6 = .ok (.ifCond .lt 34, 3) := by decide +kernel
theorem d_M_strike_9 : decode c_M_strike 9 = .ok (.iload_n 1, 1) := by decide +kernel
theorem d_M_strike_10 : decode c_M_strike 10 = .ok (.aload_n 0, 1) := by decide +kernel
theorem d_M_strike_11 : decode c_M_strike 11 = .ok (.getfield 138, 3) := by decide +kernel
theorem d_M_strike_14 : decode c_M_strike 14 = .ok (.if_icmp .ge 26, 3) := by decide +kernel
theorem d_M_strike_17 : decode c_M_strike 17 = .ok (.aload_n 0, 1) := by decide +kernel
theorem d_M_strike_18 : decode c_M_strike 18 = .ok (.getfield 46, 3) := by decide +kernel
theorem d_M_strike_21 : decode c_M_strike 21 = .ok (.iload_n 1, 1) := by decide +kernel
theorem d_M_strike_22 : decode c_M_strike 22 = .ok (.baload, 1) := by decide +kernel
theorem d_M_strike_23 : decode c_M_strike 23 = .ok (.ifCond .ne 17, 3) := by decide +kernel
theorem d_M_strike_26 : decode c_M_strike 26 = .ok (.aload_n 0, 1) := by decide +kernel
theorem d_M_strike_27 : decode c_M_strike 27 = .ok (.getfield 61, 3) := by decide +kernel
theorem d_M_strike_30 : decode c_M_strike 30 = .ok (.aload_n 0, 1) := by decide +kernel
theorem d_M_strike_31 : decode c_M_strike 31 = .ok (.getfield 40, 3) := by decide +kernel
theorem d_M_strike_34 : decode c_M_strike 34 = .ok (.iload_n 1, 1) := by decide +kernel
theorem d_M_strike_35 : decode c_M_strike 35 = .ok (.iaload, 1) := by decide +kernel
theorem d_M_strike_36 : decode c_M_strike 36 = .ok (.baload, 1) := by decide +kernel
theorem d_M_strike_37 : decode c_M_strike 37 = .ok (.ifCond .eq 5, 3) := by decide +kernel
theorem d_M_strike_40 : decode c_M_strike 40 = .ok (.iconst 0, 1) := by decide +kernel
theorem d_M_strike_41 : decode c_M_strike 41 = .ok (.ireturn, 1) := by decide +kernel
theorem d_M_strike_42 : decode c_M_strike 42 = .ok (.aload_n 0, 1) := by decide +kernel
theorem d_M_strike_43 : decode c_M_strike 43 = .ok (.getfield 46, 3) := by decide +kernel
theorem d_M_strike_46 : decode c_M_strike 46 = .ok (.iload_n 1, 1) := by decide +kernel
theorem d_M_strike_47 : decode c_M_strike 47 = .ok (.iconst 1, 1) := by decide +kernel
theorem d_M_strike_48 : decode c_M_strike 48 = .ok (.bastore, 1) := by decide +kernel
theorem d_M_strike_49 : decode c_M_strike 49 = .ok (.iconst 1, 1) := by decide +kernel
theorem d_M_strike_50 : decode c_M_strike 50 = .ok (.ireturn, 1) := by decide +kernel
theorem d_M_about_0 : decode c_M_about 0 = .ok (.aload_n 0, 1) := by decide +kernel
theorem d_M_about_1 : decode c_M_about 1 = .ok (.iconst 0, 1) := by decide +kernel
theorem d_M_about_2 : decode c_M_about 2 = .ok (.putfield 91, 3) := by decide +kernel
theorem d_M_about_5 : decode c_M_about 5 = .ok (.iload_n 1, 1) := by decide +kernel
theorem d_M_about_6 : decode c_M_about 6 = .ok (.ifCond .lt 20, 3) := by decide +kernel
theorem d_M_about_9 : decode c_M_about 9 = .ok (.iload_n 1, 1) := by decide +kernel
theorem d_M_about_10 : decode c_M_about 10 = .ok (.aload_n 0, 1) := by decide +kernel
theorem d_M_about_11 : decode c_M_about 11 = .ok (.getfield 138, 3) := by decide +kernel
theorem d_M_about_14 : decode c_M_about 14 = .ok (.if_icmp .ge 12, 3) := by decide +kernel
theorem d_M_about_17 : decode c_M_about 17 = .ok (.iload_n 3, 1) := by decide +kernel
theorem d_M_about_18 : decode c_M_about 18 = .ok (.ifCond .lt 8, 3) := by decide +kernel
theorem d_M_about_21 : decode c_M_about 21 = .ok (.iload_n 3, 1) := by decide +kernel
theorem d_M_about_22 : decode c_M_about 22 = .ok (.iconst 2, 1) := by decide +kernel
theorem d_M_about_23 : decode c_M_about 23 = .ok (.if_icmp .le 7, 3) := by decide +kernel
theorem d_M_about_26 : decode c_M_about 26 = .ok (.ldc2_w 171, 3) := by decide +kernel
theorem d_M_about_29 : decode c_M_about 29 = .ok (.lreturn, 1) := by decide +kernel
theorem d_M_about_30 : decode c_M_about 30 = .ok (.iload_n 2, 1) := by decide +kernel
theorem d_M_about_31 : decode c_M_about 31 = .ok (.ifCond .lt 9, 3) := by decide +kernel
theorem d_M_about_34 : decode c_M_about 34 = .ok (.iload_n 2, 1) := by decide +kernel
theorem d_M_about_35 : decode c_M_about 35 = .ok (.bipush 11, 2) := by decide +kernel
theorem d_M_about_37 : decode c_M_about 37 = .ok (.if_icmp .le 5, 3) := by decide +kernel
theorem d_M_about_40 : decode c_M_about 40 = .ok (.lconst 0, 1) := by decide +kernel
theorem d_M_about_41 : decode c_M_about 41 = .ok (.lreturn, 1) := by decide +kernel
theorem d_M_about_42 : decode c_M_about 42 = .ok (.iload_n 3, 1) := by decide +kernel
theorem d_M_about_43 : decode c_M_about 43 = .ok (.ifCond .ne 17, 3) := by decide +kernel
theorem d_M_about_46 : decode c_M_about 46 = .ok (.aload_n 0, 1) := by decide +kernel
theorem d_M_about_47 : decode c_M_about 47 = .ok (.getfield 49, 3) := by decide +kernel
theorem d_M_about_50 : decode c_M_about 50 = .ok (.bipush 12, 2) := by decide +kernel
theorem d_M_about_52 : decode c_M_about 52 = .ok (.iload_n 1, 1) := by decide +kernel
theorem d_M_about_53 : decode c_M_about 53 = .ok (.imul, 1) := by decide +kernel
theorem d_M_about_54 : decode c_M_about 54 = .ok (.iload_n 2, 1) := by decide +kernel
theorem d_M_about_55 : decode c_M_about 55 = .ok (.iadd, 1) := by decide +kernel
theorem d_M_about_56 : decode c_M_about 56 = .ok (.laload, 1) := by decide +kernel
theorem d_M_about_57 : decode c_M_about 57 = .ok (.goto 33, 3) := by decide +kernel
theorem d_M_about_60 : decode c_M_about 60 = .ok (.iload_n 3, 1) := by decide +kernel
theorem d_M_about_61 : decode c_M_about 61 = .ok (.iconst 1, 1) := by decide +kernel
theorem d_M_about_62 : decode c_M_about 62 = .ok (.if_icmp .ne 17, 3) := by decide +kernel
theorem d_M_about_65 : decode c_M_about 65 = .ok (.aload_n 0, 1) := by decide +kernel
theorem d_M_about_66 : decode c_M_about 66 = .ok (.getfield 52, 3) := by decide +kernel
theorem d_M_about_69 : decode c_M_about 69 = .ok (.bipush 12, 2) := by decide +kernel
theorem d_M_about_71 : decode c_M_about 71 = .ok (.iload_n 1, 1) := by decide +kernel
theorem d_M_about_72 : decode c_M_about 72 = .ok (.imul, 1) := by decide +kernel
theorem d_M_about_73 : decode c_M_about 73 = .ok (.iload_n 2, 1) := by decide +kernel
theorem d_M_about_74 : decode c_M_about 74 = .ok (.iadd, 1) := by decide +kernel
theorem d_M_about_75 : decode c_M_about 75 = .ok (.laload, 1) := by decide +kernel
theorem d_M_about_76 : decode c_M_about 76 = .ok (.goto 14, 3) := by decide +kernel
theorem d_M_about_79 : decode c_M_about 79 = .ok (.aload_n 0, 1) := by decide +kernel
theorem d_M_about_80 : decode c_M_about 80 = .ok (.getfield 55, 3) := by decide +kernel
theorem d_M_about_83 : decode c_M_about 83 = .ok (.bipush 12, 2) := by decide +kernel
theorem d_M_about_85 : decode c_M_about 85 = .ok (.iload_n 1, 1) := by decide +kernel
theorem d_M_about_86 : decode c_M_about 86 = .ok (.imul, 1) := by decide +kernel
theorem d_M_about_87 : decode c_M_about 87 = .ok (.iload_n 2, 1) := by decide +kernel
theorem d_M_about_88 : decode c_M_about 88 = .ok (.iadd, 1) := by decide +kernel
theorem d_M_about_89 : decode c_M_about 89 = .ok (.laload, 1) := by decide +kernel
theorem d_M_about_90 : decode c_M_about 90 = .ok (.lreturn, 1) := by decide +kernel
theorem d_M_total_0 : decode c_M_total 0 = .ok (.aload_n 0, 1) := by decide +kernel
theorem d_M_total_1 : decode c_M_total 1 = .ok (.iconst 0, 1) := by decide +kernel
theorem d_M_total_2 : decode c_M_total 2 = .ok (.putfield 91, 3) := by decide +kernel
theorem d_M_total_5 : decode c_M_total 5 = .ok (.iload_n 1, 1) := by decide +kernel
theorem d_M_total_6 : decode c_M_total 6 = .ok (.ifCond .lt 11, 3) := by decide +kernel
theorem d_M_total_9 : decode c_M_total 9 = .ok (.iload_n 1, 1) := by decide +kernel
theorem d_M_total_10 : decode c_M_total 10 = .ok (.aload_n 0, 1) := by decide +kernel
theorem d_M_total_11 : decode c_M_total 11 = .ok (.getfield 138, 3) := by decide +kernel
theorem d_M_total_14 : decode c_M_total 14 = .ok (.if_icmp .lt 9, 3) := by decide +kernel
theorem d_M_total_17 : decode c_M_total 17 = .ok (.ldc2_w 171, 3) := by decide +kernel
theorem d_M_total_20 : decode c_M_total 20 = .ok (.goto 9, 3) := by decide +kernel
theorem d_M_total_23 : decode c_M_total 23 = .ok (.aload_n 0, 1) := by decide +kernel
theorem d_M_total_24 : decode c_M_total 24 = .ok (.getfield 43, 3) := by decide +kernel
theorem d_M_total_27 : decode c_M_total 27 = .ok (.iload_n 1, 1) := by decide +kernel
theorem d_M_total_28 : decode c_M_total 28 = .ok (.laload, 1) := by decide +kernel
theorem d_M_total_29 : decode c_M_total 29 = .ok (.lreturn, 1) := by decide +kernel
theorem d_M_balance_0 : decode c_M_balance 0 = .ok (.aload_n 0, 1) := by decide +kernel
theorem d_M_balance_1 : decode c_M_balance 1 = .ok (.iconst 0, 1) := by decide +kernel
theorem d_M_balance_2 : decode c_M_balance 2 = .ok (.putfield 91, 3) := by decide +kernel
theorem d_M_balance_5 : decode c_M_balance 5 = .ok (.aload_n 0, 1) := by decide +kernel
theorem d_M_balance_6 : decode c_M_balance 6 = .ok (.iload_n 1, 1) := by decide +kernel
theorem d_M_balance_7 : decode c_M_balance 7 = .ok (.iload_n 2, 1) := by decide +kernel
theorem d_M_balance_8 : decode c_M_balance 8 = .ok (.invokevirtual 103, 3) := by decide +kernel
theorem d_M_balance_11 : decode c_M_balance 11 = .ok (.ifCond .ne 5, 3) := by decide +kernel
theorem d_M_balance_14 : decode c_M_balance 14 = .ok (.lconst 0, 1) := by decide +kernel
theorem d_M_balance_15 : decode c_M_balance 15 = .ok (.lreturn, 1) := by decide +kernel
theorem d_M_balance_16 : decode c_M_balance 16 = .ok (.aload_n 0, 1) := by decide +kernel
theorem d_M_balance_17 : decode c_M_balance 17 = .ok (.getfield 58, 3) := by decide +kernel
theorem d_M_balance_20 : decode c_M_balance 20 = .ok (.bipush 12, 2) := by decide +kernel
theorem d_M_balance_22 : decode c_M_balance 22 = .ok (.iload_n 1, 1) := by decide +kernel
theorem d_M_balance_23 : decode c_M_balance 23 = .ok (.imul, 1) := by decide +kernel
theorem d_M_balance_24 : decode c_M_balance 24 = .ok (.iload_n 2, 1) := by decide +kernel
theorem d_M_balance_25 : decode c_M_balance 25 = .ok (.iadd, 1) := by decide +kernel
theorem d_M_balance_26 : decode c_M_balance 26 = .ok (.laload, 1) := by decide +kernel
theorem d_M_balance_27 : decode c_M_balance 27 = .ok (.lstore_n 3, 1) := by decide +kernel
theorem d_M_balance_28 : decode c_M_balance 28 = .ok (.iconst 0, 1) := by decide +kernel
theorem d_M_balance_29 : decode c_M_balance 29 = .ok (.istore 5, 2) := by decide +kernel
theorem d_M_balance_31 : decode c_M_balance 31 = .ok (.iload 5, 2) := by decide +kernel
theorem d_M_balance_33 : decode c_M_balance 33 = .ok (.aload_n 0, 1) := by decide +kernel
theorem d_M_balance_34 : decode c_M_balance 34 = .ok (.getfield 138, 3) := by decide +kernel
theorem d_M_balance_37 : decode c_M_balance 37 = .ok (.if_icmp .ge 62, 3) := by decide +kernel
theorem d_M_balance_40 : decode c_M_balance 40 = .ok (.lload_n 3, 1) := by decide +kernel
theorem d_M_balance_41 : decode c_M_balance 41 = .ok (.aload_n 0, 1) := by decide +kernel
theorem d_M_balance_42 : decode c_M_balance 42 = .ok (.getfield 40, 3) := by decide +kernel
theorem d_M_balance_45 : decode c_M_balance 45 = .ok (.iload 5, 2) := by decide +kernel
theorem d_M_balance_47 : decode c_M_balance 47 = .ok (.iaload, 1) := by decide +kernel
theorem d_M_balance_48 : decode c_M_balance 48 = .ok (.iload_n 1, 1) := by decide +kernel
theorem d_M_balance_49 : decode c_M_balance 49 = .ok (.if_icmp .ne 41, 3) := by decide +kernel
theorem d_M_balance_52 : decode c_M_balance 52 = .ok (.aload_n 0, 1) := by decide +kernel
theorem d_M_balance_53 : decode c_M_balance 53 = .ok (.getfield 46, 3) := by decide +kernel
theorem d_M_balance_56 : decode c_M_balance 56 = .ok (.iload 5, 2) := by decide +kernel
theorem d_M_balance_58 : decode c_M_balance 58 = .ok (.baload, 1) := by decide +kernel
theorem d_M_balance_59 : decode c_M_balance 59 = .ok (.ifCond .ne 31, 3) := by decide +kernel
theorem d_M_balance_62 : decode c_M_balance 62 = .ok (.aload_n 0, 1) := by decide +kernel
theorem d_M_balance_63 : decode c_M_balance 63 = .ok (.getfield 52, 3) := by decide +kernel
theorem d_M_balance_66 : decode c_M_balance 66 = .ok (.bipush 12, 2) := by decide +kernel
theorem d_M_balance_68 : decode c_M_balance 68 = .ok (.iload 5, 2) := by decide +kernel
theorem d_M_balance_70 : decode c_M_balance 70 = .ok (.imul, 1) := by decide +kernel
theorem d_M_balance_71 : decode c_M_balance 71 = .ok (.iload_n 2, 1) := by decide +kernel
theorem d_M_balance_72 : decode c_M_balance 72 = .ok (.iadd, 1) := by decide +kernel
theorem d_M_balance_73 : decode c_M_balance 73 = .ok (.laload, 1) := by decide +kernel
theorem d_M_balance_74 : decode c_M_balance 74 = .ok (.aload_n 0, 1) := by decide +kernel
theorem d_M_balance_75 : decode c_M_balance 75 = .ok (.getfield 49, 3) := by decide +kernel
theorem d_M_balance_78 : decode c_M_balance 78 = .ok (.bipush 12, 2) := by decide +kernel
theorem d_M_balance_80 : decode c_M_balance 80 = .ok (.iload 5, 2) := by decide +kernel
theorem d_M_balance_82 : decode c_M_balance 82 = .ok (.imul, 1) := by decide +kernel
theorem d_M_balance_83 : decode c_M_balance 83 = .ok (.iload_n 2, 1) := by decide +kernel
theorem d_M_balance_84 : decode c_M_balance 84 = .ok (.iadd, 1) := by decide +kernel
theorem d_M_balance_85 : decode c_M_balance 85 = .ok (.laload, 1) := by decide +kernel
theorem d_M_balance_86 : decode c_M_balance 86 = .ok (.lsub, 1) := by decide +kernel
theorem d_M_balance_87 : decode c_M_balance 87 = .ok (.goto 4, 3) := by decide +kernel
theorem d_M_balance_90 : decode c_M_balance 90 = .ok (.lconst 0, 1) := by decide +kernel
theorem d_M_balance_91 : decode c_M_balance 91 = .ok (.ladd, 1) := by decide +kernel
theorem d_M_balance_92 : decode c_M_balance 92 = .ok (.lstore_n 3, 1) := by decide +kernel
theorem d_M_balance_93 : decode c_M_balance 93 = .ok (.iinc 5 1, 3) := by decide +kernel
theorem d_M_balance_96 : decode c_M_balance 96 = .ok (.goto (-65), 3) := by decide +kernel
theorem d_M_balance_99 : decode c_M_balance 99 = .ok (.lload_n 3, 1) := by decide +kernel
theorem d_M_balance_100 : decode c_M_balance 100 = .ok (.lreturn, 1) := by decide +kernel
theorem d_M_drift_0 : decode c_M_drift 0 = .ok (.aload_n 0, 1) := by decide +kernel
theorem d_M_drift_1 : decode c_M_drift 1 = .ok (.iconst 0, 1) := by decide +kernel
theorem d_M_drift_2 : decode c_M_drift 2 = .ok (.putfield 91, 3) := by decide +kernel
theorem d_M_drift_5 : decode c_M_drift 5 = .ok (.lconst 0, 1) := by decide +kernel
theorem d_M_drift_6 : decode c_M_drift 6 = .ok (.lstore_n 3, 1) := by decide +kernel
theorem d_M_drift_7 : decode c_M_drift 7 = .ok (.iconst 0, 1) := by decide +kernel
theorem d_M_drift_8 : decode c_M_drift 8 = .ok (.istore 5, 2) := by decide +kernel
theorem d_M_drift_10 : decode c_M_drift 10 = .ok (.iload 5, 2) := by decide +kernel
theorem d_M_drift_12 : decode c_M_drift 12 = .ok (.aload_n 0, 1) := by decide +kernel
theorem d_M_drift_13 : decode c_M_drift 13 = .ok (.getfield 138, 3) := by decide +kernel
theorem d_M_drift_16 : decode c_M_drift 16 = .ok (.if_icmp .ge 58, 3) := by decide +kernel
theorem d_M_drift_19 : decode c_M_drift 19 = .ok (.aload_n 0, 1) := by decide +kernel
theorem d_M_drift_20 : decode c_M_drift 20 = .ok (.iload_n 1, 1) := by decide +kernel
theorem d_M_drift_21 : decode c_M_drift 21 = .ok (.iload_n 2, 1) := by decide +kernel
theorem d_M_drift_22 : decode c_M_drift 22 = .ok (.invokevirtual 103, 3) := by decide +kernel
theorem d_M_drift_25 : decode c_M_drift 25 = .ok (.ifCond .eq 49, 3) := by decide +kernel
theorem d_M_drift_28 : decode c_M_drift 28 = .ok (.lload_n 3, 1) := by decide +kernel
theorem d_M_drift_29 : decode c_M_drift 29 = .ok (.aload_n 0, 1) := by decide +kernel
theorem d_M_drift_30 : decode c_M_drift 30 = .ok (.getfield 40, 3) := by decide +kernel
theorem d_M_drift_33 : decode c_M_drift 33 = .ok (.iload 5, 2) := by decide +kernel
theorem d_M_drift_35 : decode c_M_drift 35 = .ok (.iaload, 1) := by decide +kernel
theorem d_M_drift_36 : decode c_M_drift 36 = .ok (.iload_n 1, 1) := by decide +kernel
theorem d_M_drift_37 : decode c_M_drift 37 = .ok (.if_icmp .ne 28, 3) := by decide +kernel
theorem d_M_drift_40 : decode c_M_drift 40 = .ok (.aload_n 0, 1) := by decide +kernel
theorem d_M_drift_41 : decode c_M_drift 41 = .ok (.getfield 46, 3) := by decide +kernel
theorem d_M_drift_44 : decode c_M_drift 44 = .ok (.iload 5, 2) := by decide +kernel
theorem d_M_drift_46 : decode c_M_drift 46 = .ok (.baload, 1) := by decide +kernel
theorem d_M_drift_47 : decode c_M_drift 47 = .ok (.ifCond .ne 18, 3) := by decide +kernel
theorem d_M_drift_50 : decode c_M_drift 50 = .ok (.aload_n 0, 1) := by decide +kernel
theorem d_M_drift_51 : decode c_M_drift 51 = .ok (.getfield 55, 3) := by decide +kernel
theorem d_M_drift_54 : decode c_M_drift 54 = .ok (.bipush 12, 2) := by decide +kernel
theorem d_M_drift_56 : decode c_M_drift 56 = .ok (.iload 5, 2) := by decide +kernel
theorem d_M_drift_58 : decode c_M_drift 58 = .ok (.imul, 1) := by decide +kernel
theorem d_M_drift_59 : decode c_M_drift 59 = .ok (.iload_n 2, 1) := by decide +kernel
theorem d_M_drift_60 : decode c_M_drift 60 = .ok (.iadd, 1) := by decide +kernel
theorem d_M_drift_61 : decode c_M_drift 61 = .ok (.laload, 1) := by decide +kernel
theorem d_M_drift_62 : decode c_M_drift 62 = .ok (.goto 4, 3) := by decide +kernel
theorem d_M_drift_65 : decode c_M_drift 65 = .ok (.lconst 0, 1) := by decide +kernel
theorem d_M_drift_66 : decode c_M_drift 66 = .ok (.ladd, 1) := by decide +kernel
theorem d_M_drift_67 : decode c_M_drift 67 = .ok (.lstore_n 3, 1) := by decide +kernel
theorem d_M_drift_68 : decode c_M_drift 68 = .ok (.iinc 5 1, 3) := by decide +kernel
theorem d_M_drift_71 : decode c_M_drift 71 = .ok (.goto (-61), 3) := by decide +kernel
theorem d_M_drift_74 : decode c_M_drift 74 = .ok (.lload_n 3, 1) := by decide +kernel
theorem d_M_drift_75 : decode c_M_drift 75 = .ok (.lreturn, 1) := by decide +kernel
theorem d_M_lowest_0 : decode c_M_lowest 0 = .ok (.iconst 0, 1) := by decide +kernel
theorem d_M_lowest_1 : decode c_M_lowest 1 = .ok (.istore_n 1, 1) := by decide +kernel
theorem d_M_lowest_2 : decode c_M_lowest 2 = .ok (.iload_n 0, 1) := by decide +kernel
theorem d_M_lowest_3 : decode c_M_lowest 3 = .ok (.iload_n 1, 1) := by decide +kernel
theorem d_M_lowest_4 : decode c_M_lowest 4 = .ok (.ishr, 1) := by decide +kernel
theorem d_M_lowest_5 : decode c_M_lowest 5 = .ok (.iconst 1, 1) := by decide +kernel
theorem d_M_lowest_6 : decode c_M_lowest 6 = .ok (.iand, 1) := by decide +kernel
theorem d_M_lowest_7 : decode c_M_lowest 7 = .ok (.ifCond .ne 9, 3) := by decide +kernel
theorem d_M_lowest_10 : decode c_M_lowest 10 = .ok (.iinc 1 1, 3) := by decide +kernel
theorem d_M_lowest_13 : decode c_M_lowest 13 = .ok (.goto (-11), 3) := by decide +kernel
theorem d_M_lowest_16 : decode c_M_lowest 16 = .ok (.iload_n 1, 1) := by decide +kernel
theorem d_M_lowest_17 : decode c_M_lowest 17 = .ok (.ireturn, 1) := by decide +kernel
theorem d_M_divides_0 : decode c_M_divides 0 = .ok (.aload_n 0, 1) := by decide +kernel
theorem d_M_divides_1 : decode c_M_divides 1 = .ok (.getfield 88, 3) := by decide +kernel
theorem d_M_divides_4 : decode c_M_divides 4 = .ok (.iconst 0, 1) := by decide +kernel
theorem d_M_divides_5 : decode c_M_divides 5 = .ok (.iconst 0, 1) := by decide +kernel
theorem d_M_divides_6 : decode c_M_divides 6 = .ok (.iastore, 1) := by decide +kernel
theorem d_M_divides_7 : decode c_M_divides 7 = .ok (.iconst 1, 1) := by decide +kernel
theorem d_M_divides_8 : decode c_M_divides 8 = .ok (.istore_n 1, 1) := by decide +kernel
theorem d_M_divides_9 : decode c_M_divides 9 = .ok (.iload_n 1, 1) := by decide +kernel
theorem d_M_divides_10 : decode c_M_divides 10 = .ok (.sipush 4096, 3) := by decide +kernel
theorem d_M_divides_13 : decode c_M_divides 13 = .ok (.if_icmp .ge 153, 3) := by decide +kernel
theorem d_M_divides_16 : decode c_M_divides 16 = .ok (.aload_n 0, 1) := by decide +kernel
theorem d_M_divides_17 : decode c_M_divides 17 = .ok (.getfield 88, 3) := by decide +kernel
theorem d_M_divides_20 : decode c_M_divides 20 = .ok (.iload_n 1, 1) := by decide +kernel
theorem d_M_divides_21 : decode c_M_divides 21 = .ok (.iconst (-1), 1) := by decide +kernel
theorem d_M_divides_22 : decode c_M_divides 22 = .ok (.iastore, 1) := by decide +kernel
theorem d_M_divides_23 : decode c_M_divides 23 = .ok (.iconst 1, 1) := by decide +kernel
theorem d_M_divides_24 : decode c_M_divides 24 = .ok (.iload_n 1, 1) := by decide +kernel
theorem d_M_divides_25 : decode c_M_divides 25 = .ok (.invokestatic 173, 3) := by decide +kernel
theorem d_M_divides_28 : decode c_M_divides 28 = .ok (.ishl, 1) := by decide +kernel
theorem d_M_divides_29 : decode c_M_divides 29 = .ok (.istore_n 2, 1) := by decide +kernel
theorem d_M_divides_30 : decode c_M_divides 30 = .ok (.iload_n 1, 1) := by decide +kernel
theorem d_M_divides_31 : decode c_M_divides 31 = .ok (.iload_n 2, 1) := by decide +kernel
theorem d_M_divides_32 : decode c_M_divides 32 = .ok (.iconst (-1), 1) := by decide +kernel
theorem d_M_divides_33 : decode c_M_divides 33 = .ok (.ixor, 1) := by decide +kernel
theorem d_M_divides_34 : decode c_M_divides 34 = .ok (.iand, 1) := by decide +kernel
theorem d_M_divides_35 : decode c_M_divides 35 = .ok (.istore_n 3, 1) := by decide +kernel
theorem d_M_divides_36 : decode c_M_divides 36 = .ok (.aload_n 0, 1) := by decide +kernel
theorem d_M_divides_37 : decode c_M_divides 37 = .ok (.getfield 85, 3) := by decide +kernel
theorem d_M_divides_40 : decode c_M_divides 40 = .ok (.iload_n 1, 1) := by decide +kernel
theorem d_M_divides_41 : decode c_M_divides 41 = .ok (.laload, 1) := by decide +kernel
theorem d_M_divides_42 : decode c_M_divides 42 = .ok (.lconst 0, 1) := by decide +kernel
theorem d_M_divides_43 : decode c_M_divides 43 = .ok (.lcmp, 1) := by decide +kernel
theorem d_M_divides_44 : decode c_M_divides 44 = .ok (.ifCond .ne 7, 3) := by decide +kernel
theorem d_M_divides_47 : decode c_M_divides 47 = .ok (.iload_n 3, 1) := by decide +kernel
theorem d_M_divides_48 : decode c_M_divides 48 = .ok (.goto 4, 3) := by decide +kernel
theorem d_M_divides_51 : decode c_M_divides 51 = .ok (.iconst 0, 1) := by decide +kernel
theorem d_M_divides_52 : decode c_M_divides 52 = .ok (.istore 4, 2) := by decide +kernel
theorem d_M_divides_54 : decode c_M_divides 54 = .ok (.aload_n 0, 1) := by decide +kernel
theorem d_M_divides_55 : decode c_M_divides 55 = .ok (.getfield 85, 3) := by decide +kernel
theorem d_M_divides_58 : decode c_M_divides 58 = .ok (.iload_n 1, 1) := by decide +kernel
theorem d_M_divides_59 : decode c_M_divides 59 = .ok (.laload, 1) := by decide +kernel
theorem d_M_divides_60 : decode c_M_divides 60 = .ok (.lconst 0, 1) := by decide +kernel
theorem d_M_divides_61 : decode c_M_divides 61 = .ok (.lcmp, 1) := by decide +kernel
theorem d_M_divides_62 : decode c_M_divides 62 = .ok (.ifCond .ne 7, 3) := by decide +kernel
theorem d_M_divides_65 : decode c_M_divides 65 = .ok (.iconst 1, 1) := by decide +kernel
theorem d_M_divides_66 : decode c_M_divides 66 = .ok (.goto 4, 3) := by decide +kernel
theorem d_M_divides_69 : decode c_M_divides 69 = .ok (.iconst 0, 1) := by decide +kernel
theorem d_M_divides_70 : decode c_M_divides 70 = .ok (.istore 5, 2) := by decide +kernel
theorem d_M_divides_72 : decode c_M_divides 72 = .ok (.iload 5, 2) := by decide +kernel
theorem d_M_divides_74 : decode c_M_divides 74 = .ok (.ifCond .eq 86, 3) := by decide +kernel
theorem d_M_divides_77 : decode c_M_divides 77 = .ok (.iload 4, 2) := by decide +kernel
theorem d_M_divides_79 : decode c_M_divides 79 = .ok (.iload_n 2, 1) := by decide +kernel
theorem d_M_divides_80 : decode c_M_divides 80 = .ok (.ior, 1) := by decide +kernel
theorem d_M_divides_81 : decode c_M_divides 81 = .ok (.istore 6, 2) := by decide +kernel
theorem d_M_divides_83 : decode c_M_divides 83 = .ok (.aload_n 0, 1) := by decide +kernel
theorem d_M_divides_84 : decode c_M_divides 84 = .ok (.getfield 88, 3) := by decide +kernel
theorem d_M_divides_87 : decode c_M_divides 87 = .ok (.iload_n 1, 1) := by decide +kernel
theorem d_M_divides_88 : decode c_M_divides 88 = .ok (.iload 6, 2) := by decide +kernel
theorem d_M_divides_90 : decode c_M_divides 90 = .ok (.iconst (-1), 1) := by decide +kernel
theorem d_M_divides_91 : decode c_M_divides 91 = .ok (.ixor, 1) := by decide +kernel
theorem d_M_divides_92 : decode c_M_divides 92 = .ok (.iand, 1) := by decide +kernel
theorem d_M_divides_93 : decode c_M_divides 93 = .ok (.iaload, 1) := by decide +kernel
theorem d_M_divides_94 : decode c_M_divides 94 = .ok (.istore 7, 2) := by decide +kernel
theorem d_M_divides_96 : decode c_M_divides 96 = .ok (.aload_n 0, 1) := by decide +kernel
theorem d_M_divides_97 : decode c_M_divides 97 = .ok (.getfield 85, 3) := by decide +kernel
theorem d_M_divides_100 : decode c_M_divides 100 = .ok (.iload 6, 2) := by decide +kernel
theorem d_M_divides_102 : decode c_M_divides 102 = .ok (.laload, 1) := by decide +kernel
theorem d_M_divides_103 : decode c_M_divides 103 = .ok (.lconst 0, 1) := by decide +kernel
theorem d_M_divides_104 : decode c_M_divides 104 = .ok (.lcmp, 1) := by decide +kernel
theorem d_M_divides_105 : decode c_M_divides 105 = .ok (.ifCond .ne 32, 3) := by decide +kernel
theorem d_M_divides_108 : decode c_M_divides 108 = .ok (.iload 7, 2) := by decide +kernel
theorem d_M_divides_110 : decode c_M_divides 110 = .ok (.iconst (-1), 1) := by decide +kernel
theorem d_M_divides_111 : decode c_M_divides 111 = .ok (.if_icmp .eq 26, 3) := by decide +kernel
theorem d_M_divides_114 : decode c_M_divides 114 = .ok (.iload 7, 2) := by decide +kernel
theorem d_M_divides_116 : decode c_M_divides 116 = .ok (.iconst 1, 1) := by decide +kernel
theorem d_M_divides_117 : decode c_M_divides 117 = .ok (.iadd, 1) := by decide +kernel
theorem d_M_divides_118 : decode c_M_divides 118 = .ok (.aload_n 0, 1) := by decide +kernel
theorem d_M_divides_119 : decode c_M_divides 119 = .ok (.getfield 88, 3) := by decide +kernel
theorem d_M_divides_122 : decode c_M_divides 122 = .ok (.iload_n 1, 1) := by decide +kernel
theorem d_M_divides_123 : decode c_M_divides 123 = .ok (.iaload, 1) := by decide +kernel
theorem d_M_divides_124 : decode c_M_divides 124 = .ok (.if_icmp .le 13, 3) := by decide +kernel
theorem d_M_divides_127 : decode c_M_divides 127 = .ok (.aload_n 0, 1) := by decide +kernel
theorem d_M_divides_128 : decode c_M_divides 128 = .ok (.getfield 88, 3) := by decide +kernel
theorem d_M_divides_131 : decode c_M_divides 131 = .ok (.iload_n 1, 1) := by decide +kernel
theorem d_M_divides_132 : decode c_M_divides 132 = .ok (.iload 7, 2) := by decide +kernel
theorem d_M_divides_134 : decode c_M_divides 134 = .ok (.iconst 1, 1) := by decide +kernel
theorem d_M_divides_135 : decode c_M_divides 135 = .ok (.iadd, 1) := by decide +kernel
theorem d_M_divides_136 : decode c_M_divides 136 = .ok (.iastore, 1) := by decide +kernel
theorem d_M_divides_137 : decode c_M_divides 137 = .ok (.iload 4, 2) := by decide +kernel
theorem d_M_divides_139 : decode c_M_divides 139 = .ok (.ifCond .eq 7, 3) := by decide +kernel
theorem d_M_divides_142 : decode c_M_divides 142 = .ok (.iconst 1, 1) := by decide +kernel
theorem d_M_divides_143 : decode c_M_divides 143 = .ok (.goto 4, 3) := by decide +kernel
theorem d_M_divides_146 : decode c_M_divides 146 = .ok (.iconst 0, 1) := by decide +kernel
theorem d_M_divides_147 : decode c_M_divides 147 = .ok (.istore 5, 2) := by decide +kernel
theorem d_M_divides_149 : decode c_M_divides 149 = .ok (.iload 4, 2) := by decide +kernel
theorem d_M_divides_151 : decode c_M_divides 151 = .ok (.iconst 1, 1) := by decide +kernel
theorem d_M_divides_152 : decode c_M_divides 152 = .ok (.isub, 1) := by decide +kernel
theorem d_M_divides_153 : decode c_M_divides 153 = .ok (.iload_n 3, 1) := by decide +kernel
theorem d_M_divides_154 : decode c_M_divides 154 = .ok (.iand, 1) := by decide +kernel
theorem d_M_divides_155 : decode c_M_divides 155 = .ok (.istore 4, 2) := by decide +kernel
theorem d_M_divides_157 : decode c_M_divides 157 = .ok (.goto (-85), 3) := by decide +kernel
theorem d_M_divides_160 : decode c_M_divides 160 = .ok (.iinc 1 1, 3) := by decide +kernel
theorem d_M_divides_163 : decode c_M_divides 163 = .ok (.goto (-154), 3) := by decide +kernel
theorem d_M_divides_166 : decode c_M_divides 166 = .ok (.return_, 1) := by decide +kernel
theorem d_M_weighAll_0 : decode c_M_weighAll 0 = .ok (.iconst 1, 1) := by decide +kernel
theorem d_M_weighAll_1 : decode c_M_weighAll 1 = .ok (.istore_n 2, 1) := by decide +kernel
theorem d_M_weighAll_2 : decode c_M_weighAll 2 = .ok (.iload_n 2, 1) := by decide +kernel
theorem d_M_weighAll_3 : decode c_M_weighAll 3 = .ok (.sipush 4096, 3) := by decide +kernel
theorem d_M_weighAll_6 : decode c_M_weighAll 6 = .ok (.if_icmp .ge 39, 3) := by decide +kernel
theorem d_M_weighAll_9 : decode c_M_weighAll 9 = .ok (.iload_n 2, 1) := by decide +kernel
theorem d_M_weighAll_10 : decode c_M_weighAll 10 = .ok (.invokestatic 173, 3) := by decide +kernel
theorem d_M_weighAll_13 : decode c_M_weighAll 13 = .ok (.istore_n 3, 1) := by decide +kernel
theorem d_M_weighAll_14 : decode c_M_weighAll 14 = .ok (.aload_n 0, 1) := by decide +kernel
theorem d_M_weighAll_15 : decode c_M_weighAll 15 = .ok (.getfield 85, 3) := by decide +kernel
theorem d_M_weighAll_18 : decode c_M_weighAll 18 = .ok (.iload_n 2, 1) := by decide +kernel
theorem d_M_weighAll_19 : decode c_M_weighAll 19 = .ok (.aload_n 0, 1) := by decide +kernel
theorem d_M_weighAll_20 : decode c_M_weighAll 20 = .ok (.getfield 85, 3) := by decide +kernel
theorem d_M_weighAll_23 : decode c_M_weighAll 23 = .ok (.iload_n 2, 1) := by decide +kernel
theorem d_M_weighAll_24 : decode c_M_weighAll 24 = .ok (.iconst 1, 1) := by decide +kernel
theorem d_M_weighAll_25 : decode c_M_weighAll 25 = .ok (.iload_n 3, 1) := by decide +kernel
theorem d_M_weighAll_26 : decode c_M_weighAll 26 = .ok (.ishl, 1) := by decide +kernel
theorem d_M_weighAll_27 : decode c_M_weighAll 27 = .ok (.iconst (-1), 1) := by decide +kernel
theorem d_M_weighAll_28 : decode c_M_weighAll 28 = .ok (.ixor, 1) := by decide +kernel
theorem d_M_weighAll_29 : decode c_M_weighAll 29 = .ok (.iand, 1) := by decide +kernel
theorem d_M_weighAll_30 : decode c_M_weighAll 30 = .ok (.laload, 1) := by decide +kernel
theorem d_M_weighAll_31 : decode c_M_weighAll 31 = .ok (.aload_n 0, 1) := by decide +kernel
theorem d_M_weighAll_32 : decode c_M_weighAll 32 = .ok (.iload_n 1, 1) := by decide +kernel
theorem d_M_weighAll_33 : decode c_M_weighAll 33 = .ok (.iload_n 3, 1) := by decide +kernel
theorem d_M_weighAll_34 : decode c_M_weighAll 34 = .ok (.invokevirtual 107, 3) := by decide +kernel
theorem d_M_weighAll_37 : decode c_M_weighAll 37 = .ok (.ladd, 1) := by decide +kernel
theorem d_M_weighAll_38 : decode c_M_weighAll 38 = .ok (.lastore, 1) := by decide +kernel
theorem d_M_weighAll_39 : decode c_M_weighAll 39 = .ok (.iinc 2 1, 3) := by decide +kernel
theorem d_M_weighAll_42 : decode c_M_weighAll 42 = .ok (.goto (-40), 3) := by decide +kernel
theorem d_M_weighAll_45 : decode c_M_weighAll 45 = .ok (.return_, 1) := by decide +kernel
theorem d_M_least_0 : decode c_M_least 0 = .ok (.iconst 1, 1) := by decide +kernel
theorem d_M_least_1 : decode c_M_least 1 = .ok (.iload_n 1, 1) := by decide +kernel
theorem d_M_least_2 : decode c_M_least 2 = .ok (.invokestatic 173, 3) := by decide +kernel
theorem d_M_least_5 : decode c_M_least 5 = .ok (.ishl, 1) := by decide +kernel
theorem d_M_least_6 : decode c_M_least 6 = .ok (.istore_n 2, 1) := by decide +kernel
theorem d_M_least_7 : decode c_M_least 7 = .ok (.iload_n 2, 1) := by decide +kernel
theorem d_M_least_8 : decode c_M_least 8 = .ok (.istore_n 3, 1) := by decide +kernel
theorem d_M_least_9 : decode c_M_least 9 = .ok (.iload_n 3, 1) := by decide +kernel
theorem d_M_least_10 : decode c_M_least 10 = .ok (.iload_n 1, 1) := by decide +kernel
theorem d_M_least_11 : decode c_M_least 11 = .ok (.if_icmp .gt 71, 3) := by decide +kernel
theorem d_M_least_14 : decode c_M_least 14 = .ok (.iload_n 3, 1) := by decide +kernel
theorem d_M_least_15 : decode c_M_least 15 = .ok (.iload_n 1, 1) := by decide +kernel
theorem d_M_least_16 : decode c_M_least 16 = .ok (.iconst (-1), 1) := by decide +kernel
theorem d_M_least_17 : decode c_M_least 17 = .ok (.ixor, 1) := by decide +kernel
theorem d_M_least_18 : decode c_M_least 18 = .ok (.iand, 1) := by decide +kernel
theorem d_M_least_19 : decode c_M_least 19 = .ok (.ifCond .ne 57, 3) := by decide +kernel
theorem d_M_least_22 : decode c_M_least 22 = .ok (.iload_n 3, 1) := by decide +kernel
theorem d_M_least_23 : decode c_M_least 23 = .ok (.iload_n 2, 1) := by decide +kernel
theorem d_M_least_24 : decode c_M_least 24 = .ok (.iand, 1) := by decide +kernel
theorem d_M_least_25 : decode c_M_least 25 = .ok (.ifCond .eq 51, 3) := by decide +kernel
theorem d_M_least_28 : decode c_M_least 28 = .ok (.aload_n 0, 1) := by decide +kernel
theorem d_M_least_29 : decode c_M_least 29 = .ok (.getfield 85, 3) := by decide +kernel
theorem d_M_least_32 : decode c_M_least 32 = .ok (.iload_n 3, 1) := by decide +kernel
theorem d_M_least_33 : decode c_M_least 33 = .ok (.laload, 1) := by decide +kernel
theorem d_M_least_34 : decode c_M_least 34 = .ok (.lconst 0, 1) := by decide +kernel
theorem d_M_least_35 : decode c_M_least 35 = .ok (.lcmp, 1) := by decide +kernel
theorem d_M_least_36 : decode c_M_least 36 = .ok (.ifCond .ne 40, 3) := by decide +kernel
theorem d_M_least_39 : decode c_M_least 39 = .ok (.aload_n 0, 1) := by decide +kernel
theorem d_M_least_40 : decode c_M_least 40 = .ok (.getfield 88, 3) := by decide +kernel
theorem d_M_least_43 : decode c_M_least 43 = .ok (.iload_n 1, 1) := by decide +kernel
theorem d_M_least_44 : decode c_M_least 44 = .ok (.iload_n 3, 1) := by decide +kernel
theorem d_M_least_45 : decode c_M_least 45 = .ok (.iconst (-1), 1) := by decide +kernel
theorem d_M_least_46 : decode c_M_least 46 = .ok (.ixor, 1) := by decide +kernel
theorem d_M_least_47 : decode c_M_least 47 = .ok (.iand, 1) := by decide +kernel
theorem d_M_least_48 : decode c_M_least 48 = .ok (.iaload, 1) := by decide +kernel
theorem d_M_least_49 : decode c_M_least 49 = .ok (.aload_n 0, 1) := by decide +kernel
theorem d_M_least_50 : decode c_M_least 50 = .ok (.getfield 88, 3) := by decide +kernel
theorem d_M_least_53 : decode c_M_least 53 = .ok (.iload_n 1, 1) := by decide +kernel
theorem d_M_least_54 : decode c_M_least 54 = .ok (.iaload, 1) := by decide +kernel
theorem d_M_least_55 : decode c_M_least 55 = .ok (.iconst 1, 1) := by decide +kernel
theorem d_M_least_56 : decode c_M_least 56 = .ok (.isub, 1) := by decide +kernel
theorem d_M_least_57 : decode c_M_least 57 = .ok (.if_icmp .ne 19, 3) := by decide +kernel
theorem d_M_least_60 : decode c_M_least 60 = .ok (.aload_n 0, 1) := by decide +kernel
theorem d_M_least_61 : decode c_M_least 61 = .ok (.getfield 88, 3) := by decide +kernel
theorem d_M_least_64 : decode c_M_least 64 = .ok (.iload_n 1, 1) := by decide +kernel
theorem d_M_least_65 : decode c_M_least 65 = .ok (.iload_n 3, 1) := by decide +kernel
theorem d_M_least_66 : decode c_M_least 66 = .ok (.iconst (-1), 1) := by decide +kernel
theorem d_M_least_67 : decode c_M_least 67 = .ok (.ixor, 1) := by decide +kernel
theorem d_M_least_68 : decode c_M_least 68 = .ok (.iand, 1) := by decide +kernel
theorem d_M_least_69 : decode c_M_least 69 = .ok (.iaload, 1) := by decide +kernel
theorem d_M_least_70 : decode c_M_least 70 = .ok (.iconst (-1), 1) := by decide +kernel
theorem d_M_least_71 : decode c_M_least 71 = .ok (.if_icmp .eq 5, 3) := by decide +kernel
theorem d_M_least_74 : decode c_M_least 74 = .ok (.iload_n 3, 1) := by decide +kernel
theorem d_M_least_75 : decode c_M_least 75 = .ok (.ireturn, 1) := by decide +kernel
theorem d_M_least_76 : decode c_M_least 76 = .ok (.iinc 3 1, 3) := by decide +kernel
theorem d_M_least_79 : decode c_M_least 79 = .ok (.goto (-70), 3) := by decide +kernel
theorem d_M_least_82 : decode c_M_least 82 = .ok (.iload_n 1, 1) := by decide +kernel
theorem d_M_least_83 : decode c_M_least 83 = .ok (.ireturn, 1) := by decide +kernel
theorem d_M_moves_0 : decode c_M_moves 0 = .ok (.lconst 0, 1) := by decide +kernel
theorem d_M_moves_1 : decode c_M_moves 1 = .ok (.lstore_n 3, 1) := by decide +kernel
theorem d_M_moves_2 : decode c_M_moves 2 = .ok (.iconst (-1), 1) := by decide +kernel
theorem d_M_moves_3 : decode c_M_moves 3 = .ok (.istore 5, 2) := by decide +kernel
theorem d_M_moves_5 : decode c_M_moves 5 = .ok (.iconst 0, 1) := by decide +kernel
theorem d_M_moves_6 : decode c_M_moves 6 = .ok (.istore 6, 2) := by decide +kernel
theorem d_M_moves_8 : decode c_M_moves 8 = .ok (.iload 6, 2) := by decide +kernel
theorem d_M_moves_10 : decode c_M_moves 10 = .ok (.bipush 12, 2) := by decide +kernel
theorem d_M_moves_12 : decode c_M_moves 12 = .ok (.if_icmp .ge 147, 3) := by decide +kernel
theorem d_M_moves_15 : decode c_M_moves 15 = .ok (.iload_n 2, 1) := by decide +kernel
theorem d_M_moves_16 : decode c_M_moves 16 = .ok (.iload 6, 2) := by decide +kernel
theorem d_M_moves_18 : decode c_M_moves 18 = .ok (.ishr, 1) := by decide +kernel
theorem d_M_moves_19 : decode c_M_moves 19 = .ok (.iconst 1, 1) := by decide +kernel
theorem d_M_moves_20 : decode c_M_moves 20 = .ok (.iand, 1) := by decide +kernel
theorem d_M_moves_21 : decode c_M_moves 21 = .ok (.iconst 1, 1) := by decide +kernel
theorem d_M_moves_22 : decode c_M_moves 22 = .ok (.if_icmp .ne 131, 3) := by decide +kernel
theorem d_M_moves_25 : decode c_M_moves 25 = .ok (.iload 5, 2) := by decide +kernel
theorem d_M_moves_27 : decode c_M_moves 27 = .ok (.iconst (-1), 1) := by decide +kernel
theorem d_M_moves_28 : decode c_M_moves 28 = .ok (.if_icmp .eq 93, 3) := by decide +kernel
theorem d_M_moves_31 : decode c_M_moves 31 = .ok (.bipush 11, 2) := by decide +kernel
theorem d_M_moves_33 : decode c_M_moves 33 = .ok (.iload_n 1, 1) := by decide +kernel
theorem d_M_moves_34 : decode c_M_moves 34 = .ok (.imul, 1) := by decide +kernel
theorem d_M_moves_35 : decode c_M_moves 35 = .ok (.aload_n 0, 1) := by decide +kernel
theorem d_M_moves_36 : decode c_M_moves 36 = .ok (.getfield 70, 3) := by decide +kernel
theorem d_M_moves_39 : decode c_M_moves 39 = .ok (.iload_n 1, 1) := by decide +kernel
theorem d_M_moves_40 : decode c_M_moves 40 = .ok (.iaload, 1) := by decide +kernel
theorem d_M_moves_41 : decode c_M_moves 41 = .ok (.iadd, 1) := by decide +kernel
theorem d_M_moves_42 : decode c_M_moves 42 = .ok (.istore 7, 2) := by decide +kernel
theorem d_M_moves_44 : decode c_M_moves 44 = .ok (.aload_n 0, 1) := by decide +kernel
theorem d_M_moves_45 : decode c_M_moves 45 = .ok (.getfield 73, 3) := by decide +kernel
theorem d_M_moves_48 : decode c_M_moves 48 = .ok (.iload 7, 2) := by decide +kernel
theorem d_M_moves_50 : decode c_M_moves 50 = .ok (.lload_n 3, 1) := by decide +kernel
theorem d_M_moves_51 : decode c_M_moves 51 = .ok (.lconst 0, 1) := by decide +kernel
theorem d_M_moves_52 : decode c_M_moves 52 = .ok (.lcmp, 1) := by decide +kernel
theorem d_M_moves_53 : decode c_M_moves 53 = .ok (.ifCond .ge 8, 3) := by decide +kernel
theorem d_M_moves_56 : decode c_M_moves 56 = .ok (.iload 5, 2) := by decide +kernel
theorem d_M_moves_58 : decode c_M_moves 58 = .ok (.goto 5, 3) := by decide +kernel
theorem d_M_moves_61 : decode c_M_moves 61 = .ok (.iload 6, 2) := by decide +kernel
theorem d_M_moves_63 : decode c_M_moves 63 = .ok (.iastore, 1) := by decide +kernel
theorem d_M_moves_64 : decode c_M_moves 64 = .ok (.aload_n 0, 1) := by decide +kernel
theorem d_M_moves_65 : decode c_M_moves 65 = .ok (.getfield 76, 3) := by decide +kernel
theorem d_M_moves_68 : decode c_M_moves 68 = .ok (.iload 7, 2) := by decide +kernel
theorem d_M_moves_70 : decode c_M_moves 70 = .ok (.lload_n 3, 1) := by decide +kernel
theorem d_M_moves_71 : decode c_M_moves 71 = .ok (.lconst 0, 1) := by decide +kernel
theorem d_M_moves_72 : decode c_M_moves 72 = .ok (.lcmp, 1) := by decide +kernel
theorem d_M_moves_73 : decode c_M_moves 73 = .ok (.ifCond .ge 8, 3) := by decide +kernel
theorem d_M_moves_76 : decode c_M_moves 76 = .ok (.iload 6, 2) := by decide +kernel
theorem d_M_moves_78 : decode c_M_moves 78 = .ok (.goto 5, 3) := by decide +kernel
theorem d_M_moves_81 : decode c_M_moves 81 = .ok (.iload 5, 2) := by decide +kernel
theorem d_M_moves_83 : decode c_M_moves 83 = .ok (.iastore, 1) := by decide +kernel
theorem d_M_moves_84 : decode c_M_moves 84 = .ok (.aload_n 0, 1) := by decide +kernel
theorem d_M_moves_85 : decode c_M_moves 85 = .ok (.getfield 79, 3) := by decide +kernel
theorem d_M_moves_88 : decode c_M_moves 88 = .ok (.iload 7, 2) := by decide +kernel
theorem d_M_moves_90 : decode c_M_moves 90 = .ok (.lload_n 3, 1) := by decide +kernel
theorem d_M_moves_91 : decode c_M_moves 91 = .ok (.lconst 0, 1) := by decide +kernel
theorem d_M_moves_92 : decode c_M_moves 92 = .ok (.lcmp, 1) := by decide +kernel
theorem d_M_moves_93 : decode c_M_moves 93 = .ok (.ifCond .ge 8, 3) := by decide +kernel
theorem d_M_moves_96 : decode c_M_moves 96 = .ok (.lload_n 3, 1) := by decide +kernel
theorem d_M_moves_97 : decode c_M_moves 97 = .ok (.lneg, 1) := by decide +kernel
theorem d_M_moves_98 : decode c_M_moves 98 = .ok (.goto 4, 3) := by decide +kernel
theorem d_M_moves_101 : decode c_M_moves 101 = .ok (.lload_n 3, 1) := by decide +kernel
theorem d_M_moves_102 : decode c_M_moves 102 = .ok (.lastore, 1) := by decide +kernel
theorem d_M_moves_103 : decode c_M_moves 103 = .ok (.aload_n 0, 1) := by decide +kernel
theorem d_M_moves_104 : decode c_M_moves 104 = .ok (.getfield 82, 3) := by decide +kernel
theorem d_M_moves_107 : decode c_M_moves 107 = .ok (.iload 7, 2) := by decide +kernel
theorem d_M_moves_109 : decode c_M_moves 109 = .ok (.iconst 0, 1) := by decide +kernel
theorem d_M_moves_110 : decode c_M_moves 110 = .ok (.bastore, 1) := by decide +kernel
theorem d_M_moves_111 : decode c_M_moves 111 = .ok (.aload_n 0, 1) := by decide +kernel
theorem d_M_moves_112 : decode c_M_moves 112 = .ok (.getfield 70, 3) := by decide +kernel
theorem d_M_moves_115 : decode c_M_moves 115 = .ok (.iload_n 1, 1) := by decide +kernel
theorem d_M_moves_116 : decode c_M_moves 116 = .ok (.dup2, 1) := by decide +kernel
theorem d_M_moves_117 : decode c_M_moves 117 = .ok (.iaload, 1) := by decide +kernel
theorem d_M_moves_118 : decode c_M_moves 118 = .ok (.iconst 1, 1) := by decide +kernel
theorem d_M_moves_119 : decode c_M_moves 119 = .ok (.iadd, 1) := by decide +kernel
theorem d_M_moves_120 : decode c_M_moves 120 = .ok (.iastore, 1) := by decide +kernel
theorem d_M_moves_121 : decode c_M_moves 121 = .ok (.aload_n 0, 1) := by decide +kernel
theorem d_M_moves_122 : decode c_M_moves 122 = .ok (.getfield 67, 3) := by decide +kernel
theorem d_M_moves_125 : decode c_M_moves 125 = .ok (.bipush 12, 2) := by decide +kernel
theorem d_M_moves_127 : decode c_M_moves 127 = .ok (.iload_n 1, 1) := by decide +kernel
theorem d_M_moves_128 : decode c_M_moves 128 = .ok (.imul, 1) := by decide +kernel
theorem d_M_moves_129 : decode c_M_moves 129 = .ok (.iload 6, 2) := by decide +kernel
theorem d_M_moves_131 : decode c_M_moves 131 = .ok (.iadd, 1) := by decide +kernel
theorem d_M_moves_132 : decode c_M_moves 132 = .ok (.aload_n 0, 1) := by decide +kernel
theorem d_M_moves_133 : decode c_M_moves 133 = .ok (.getfield 64, 3) := by decide +kernel
theorem d_M_moves_136 : decode c_M_moves 136 = .ok (.iload_n 1, 1) := by decide +kernel
theorem d_M_moves_137 : decode c_M_moves 137 = .ok (.iaload, 1) := by decide +kernel
theorem d_M_moves_138 : decode c_M_moves 138 = .ok (.iastore, 1) := by decide +kernel
theorem d_M_moves_139 : decode c_M_moves 139 = .ok (.lload_n 3, 1) := by decide +kernel
theorem d_M_moves_140 : decode c_M_moves 140 = .ok (.aload_n 0, 1) := by decide +kernel
theorem d_M_moves_141 : decode c_M_moves 141 = .ok (.iload_n 1, 1) := by decide +kernel
theorem d_M_moves_142 : decode c_M_moves 142 = .ok (.iload 6, 2) := by decide +kernel
theorem d_M_moves_144 : decode c_M_moves 144 = .ok (.invokevirtual 107, 3) := by decide +kernel
theorem d_M_moves_147 : decode c_M_moves 147 = .ok (.ladd, 1) := by decide +kernel
theorem d_M_moves_148 : decode c_M_moves 148 = .ok (.lstore_n 3, 1) := by decide +kernel
theorem d_M_moves_149 : decode c_M_moves 149 = .ok (.iload 6, 2) := by decide +kernel
theorem d_M_moves_151 : decode c_M_moves 151 = .ok (.istore 5, 2) := by decide +kernel
theorem d_M_moves_153 : decode c_M_moves 153 = .ok (.iinc 6 1, 3) := by decide +kernel
theorem d_M_moves_156 : decode c_M_moves 156 = .ok (.goto (-148), 3) := by decide +kernel
theorem d_M_moves_159 : decode c_M_moves 159 = .ok (.aload_n 0, 1) := by decide +kernel
theorem d_M_moves_160 : decode c_M_moves 160 = .ok (.getfield 64, 3) := by decide +kernel
theorem d_M_moves_163 : decode c_M_moves 163 = .ok (.iload_n 1, 1) := by decide +kernel
theorem d_M_moves_164 : decode c_M_moves 164 = .ok (.dup2, 1) := by decide +kernel
theorem d_M_moves_165 : decode c_M_moves 165 = .ok (.iaload, 1) := by decide +kernel
theorem d_M_moves_166 : decode c_M_moves 166 = .ok (.iconst 1, 1) := by decide +kernel
theorem d_M_moves_167 : decode c_M_moves 167 = .ok (.iadd, 1) := by decide +kernel
theorem d_M_moves_168 : decode c_M_moves 168 = .ok (.iastore, 1) := by decide +kernel
theorem d_M_moves_169 : decode c_M_moves 169 = .ok (.return_, 1) := by decide +kernel
theorem d_M_settle_0 : decode c_M_settle 0 = .ok (.aload_n 0, 1) := by decide +kernel
theorem d_M_settle_1 : decode c_M_settle 1 = .ok (.iconst 0, 1) := by decide +kernel
theorem d_M_settle_2 : decode c_M_settle 2 = .ok (.putfield 91, 3) := by decide +kernel
theorem d_M_settle_5 : decode c_M_settle 5 = .ok (.aload_n 0, 1) := by decide +kernel
theorem d_M_settle_6 : decode c_M_settle 6 = .ok (.iload_n 1, 1) := by decide +kernel
theorem d_M_settle_7 : decode c_M_settle 7 = .ok (.invokevirtual 97, 3) := by decide +kernel
theorem d_M_settle_10 : decode c_M_settle 10 = .ok (.ifCond .eq 12, 3) := by decide +kernel
theorem d_M_settle_13 : decode c_M_settle 13 = .ok (.aload_n 0, 1) := by decide +kernel
theorem d_M_settle_14 : decode c_M_settle 14 = .ok (.getfield 61, 3) := by decide +kernel
theorem d_M_settle_17 : decode c_M_settle 17 = .ok (.iload_n 1, 1) := by decide +kernel
theorem d_M_settle_18 : decode c_M_settle 18 = .ok (.baload, 1) := by decide +kernel
theorem d_M_settle_19 : decode c_M_settle 19 = .ok (.ifCond .eq 5, 3) := by decide +kernel
theorem d_M_settle_22 : decode c_M_settle 22 = .ok (.iconst (-1), 1) := by decide +kernel
theorem d_M_settle_23 : decode c_M_settle 23 = .ok (.ireturn, 1) := by decide +kernel
theorem d_M_settle_24 : decode c_M_settle 24 = .ok (.aload_n 0, 1) := by decide +kernel
theorem d_M_settle_25 : decode c_M_settle 25 = .ok (.getfield 61, 3) := by decide +kernel
theorem d_M_settle_28 : decode c_M_settle 28 = .ok (.iload_n 1, 1) := by decide +kernel
theorem d_M_settle_29 : decode c_M_settle 29 = .ok (.iconst 1, 1) := by decide +kernel
theorem d_M_settle_30 : decode c_M_settle 30 = .ok (.bastore, 1) := by decide +kernel
theorem d_M_settle_31 : decode c_M_settle 31 = .ok (.aload_n 0, 1) := by decide +kernel
theorem d_M_settle_32 : decode c_M_settle 32 = .ok (.getfield 64, 3) := by decide +kernel
theorem d_M_settle_35 : decode c_M_settle 35 = .ok (.iload_n 1, 1) := by decide +kernel
theorem d_M_settle_36 : decode c_M_settle 36 = .ok (.iconst 0, 1) := by decide +kernel
theorem d_M_settle_37 : decode c_M_settle 37 = .ok (.iastore, 1) := by decide +kernel
theorem d_M_settle_38 : decode c_M_settle 38 = .ok (.aload_n 0, 1) := by decide +kernel
theorem d_M_settle_39 : decode c_M_settle 39 = .ok (.getfield 70, 3) := by decide +kernel
theorem d_M_settle_42 : decode c_M_settle 42 = .ok (.iload_n 1, 1) := by decide +kernel
theorem d_M_settle_43 : decode c_M_settle 43 = .ok (.iconst 0, 1) := by decide +kernel
theorem d_M_settle_44 : decode c_M_settle 44 = .ok (.iastore, 1) := by decide +kernel
theorem d_M_settle_45 : decode c_M_settle 45 = .ok (.iconst 0, 1) := by decide +kernel
theorem d_M_settle_46 : decode c_M_settle 46 = .ok (.istore_n 2, 1) := by decide +kernel
theorem d_M_settle_47 : decode c_M_settle 47 = .ok (.iconst 0, 1) := by decide +kernel
theorem d_M_settle_48 : decode c_M_settle 48 = .ok (.istore_n 3, 1) := by decide +kernel
theorem d_M_settle_49 : decode c_M_settle 49 = .ok (.iload_n 3, 1) := by decide +kernel
theorem d_M_settle_50 : decode c_M_settle 50 = .ok (.bipush 12, 2) := by decide +kernel
theorem d_M_settle_52 : decode c_M_settle 52 = .ok (.if_icmp .ge 42, 3) := by decide +kernel
theorem d_M_settle_55 : decode c_M_settle 55 = .ok (.aload_n 0, 1) := by decide +kernel
theorem d_M_settle_56 : decode c_M_settle 56 = .ok (.getfield 67, 3) := by decide +kernel
theorem d_M_settle_59 : decode c_M_settle 59 = .ok (.bipush 12, 2) := by decide +kernel
theorem d_M_settle_61 : decode c_M_settle 61 = .ok (.iload_n 1, 1) := by decide +kernel
theorem d_M_settle_62 : decode c_M_settle 62 = .ok (.imul, 1) := by decide +kernel
theorem d_M_settle_63 : decode c_M_settle 63 = .ok (.iload_n 3, 1) := by decide +kernel
theorem d_M_settle_64 : decode c_M_settle 64 = .ok (.iadd, 1) := by decide +kernel
theorem d_M_settle_65 : decode c_M_settle 65 = .ok (.iconst (-1), 1) := by decide +kernel
theorem d_M_settle_66 : decode c_M_settle 66 = .ok (.iastore, 1) := by decide +kernel
theorem d_M_settle_67 : decode c_M_settle 67 = .ok (.iload_n 2, 1) := by decide +kernel
theorem d_M_settle_68 : decode c_M_settle 68 = .ok (.aload_n 0, 1) := by decide +kernel
theorem d_M_settle_69 : decode c_M_settle 69 = .ok (.iload_n 1, 1) := by decide +kernel
theorem d_M_settle_70 : decode c_M_settle 70 = .ok (.iload_n 3, 1) := by decide +kernel
theorem d_M_settle_71 : decode c_M_settle 71 = .ok (.invokevirtual 107, 3) := by decide +kernel
theorem d_M_settle_74 : decode c_M_settle 74 = .ok (.lconst 0, 1) := by decide +kernel
theorem d_M_settle_75 : decode c_M_settle 75 = .ok (.lcmp, 1) := by decide +kernel
theorem d_M_settle_76 : decode c_M_settle 76 = .ok (.ifCond .eq 9, 3) := by decide +kernel
theorem d_M_settle_79 : decode c_M_settle 79 = .ok (.iconst 1, 1) := by decide +kernel
theorem d_M_settle_80 : decode c_M_settle 80 = .ok (.iload_n 3, 1) := by decide +kernel
theorem d_M_settle_81 : decode c_M_settle 81 = .ok (.ishl, 1) := by decide +kernel
theorem d_M_settle_82 : decode c_M_settle 82 = .ok (.goto 4, 3) := by decide +kernel
theorem d_M_settle_85 : decode c_M_settle 85 = .ok (.iconst 0, 1) := by decide +kernel
theorem d_M_settle_86 : decode c_M_settle 86 = .ok (.ior, 1) := by decide +kernel
theorem d_M_settle_87 : decode c_M_settle 87 = .ok (.istore_n 2, 1) := by decide +kernel
theorem d_M_settle_88 : decode c_M_settle 88 = .ok (.iinc 3 1, 3) := by decide +kernel
theorem d_M_settle_91 : decode c_M_settle 91 = .ok (.goto (-42), 3) := by decide +kernel
theorem d_M_settle_94 : decode c_M_settle 94 = .ok (.aload_n 0, 1) := by decide +kernel
theorem d_M_settle_95 : decode c_M_settle 95 = .ok (.iload_n 1, 1) := by decide +kernel
theorem d_M_settle_96 : decode c_M_settle 96 = .ok (.invokevirtual 176, 3) := by decide +kernel
theorem d_M_settle_99 : decode c_M_settle 99 = .ok (.aload_n 0, 1) := by decide +kernel
theorem d_M_settle_100 : decode c_M_settle 100 = .ok (.invokevirtual 180, 3) := by decide +kernel
theorem d_M_settle_103 : decode c_M_settle 103 = .ok (.iload_n 2, 1) := by decide +kernel
theorem d_M_settle_104 : decode c_M_settle 104 = .ok (.ifCond .eq 24, 3) := by decide +kernel
theorem d_M_settle_107 : decode c_M_settle 107 = .ok (.aload_n 0, 1) := by decide +kernel
theorem d_M_settle_108 : decode c_M_settle 108 = .ok (.iload_n 2, 1) := by decide +kernel
theorem d_M_settle_109 : decode c_M_settle 109 = .ok (.invokevirtual 183, 3) := by decide +kernel
theorem d_M_settle_112 : decode c_M_settle 112 = .ok (.istore_n 3, 1) := by decide +kernel
theorem d_M_settle_113 : decode c_M_settle 113 = .ok (.aload_n 0, 1) := by decide +kernel
theorem d_M_settle_114 : decode c_M_settle 114 = .ok (.iload_n 1, 1) := by decide +kernel
theorem d_M_settle_115 : decode c_M_settle 115 = .ok (.iload_n 3, 1) := by decide +kernel
theorem d_M_settle_116 : decode c_M_settle 116 = .ok (.invokevirtual 186, 3) := by decide +kernel
theorem d_M_settle_119 : decode c_M_settle 119 = .ok (.iload_n 2, 1) := by decide +kernel
theorem d_M_settle_120 : decode c_M_settle 120 = .ok (.iload_n 3, 1) := by decide +kernel
theorem d_M_settle_121 : decode c_M_settle 121 = .ok (.iconst (-1), 1) := by decide +kernel
theorem d_M_settle_122 : decode c_M_settle 122 = .ok (.ixor, 1) := by decide +kernel
theorem d_M_settle_123 : decode c_M_settle 123 = .ok (.iand, 1) := by decide +kernel
theorem d_M_settle_124 : decode c_M_settle 124 = .ok (.istore_n 2, 1) := by decide +kernel
theorem d_M_settle_125 : decode c_M_settle 125 = .ok (.goto (-22), 3) := by decide +kernel
theorem d_M_settle_128 : decode c_M_settle 128 = .ok (.aload_n 0, 1) := by decide +kernel
theorem d_M_settle_129 : decode c_M_settle 129 = .ok (.getfield 70, 3) := by decide +kernel
theorem d_M_settle_132 : decode c_M_settle 132 = .ok (.iload_n 1, 1) := by decide +kernel
theorem d_M_settle_133 : decode c_M_settle 133 = .ok (.iaload, 1) := by decide +kernel
theorem d_M_settle_134 : decode c_M_settle 134 = .ok (.ireturn, 1) := by decide +kernel
theorem d_M_isTransfer_0 : decode c_M_isTransfer 0 = .ok (.aload_n 0, 1) := by decide +kernel
theorem d_M_isTransfer_1 : decode c_M_isTransfer 1 = .ok (.iload_n 1, 1) := by decide +kernel
theorem d_M_isTransfer_2 : decode c_M_isTransfer 2 = .ok (.invokevirtual 97, 3) := by decide +kernel
theorem d_M_isTransfer_5 : decode c_M_isTransfer 5 = .ok (.ifCond .eq 30, 3) := by decide +kernel
theorem d_M_isTransfer_8 : decode c_M_isTransfer 8 = .ok (.aload_n 0, 1) := by decide +kernel
theorem d_M_isTransfer_9 : decode c_M_isTransfer 9 = .ok (.getfield 61, 3) := by decide +kernel
theorem d_M_isTransfer_12 : decode c_M_isTransfer 12 = .ok (.iload_n 1, 1) := by decide +kernel
theorem d_M_isTransfer_13 : decode c_M_isTransfer 13 = .ok (.baload, 1) := by decide +kernel
theorem d_M_isTransfer_14 : decode c_M_isTransfer 14 = .ok (.ifCond .eq 21, 3) := by decide +kernel
theorem d_M_isTransfer_17 : decode c_M_isTransfer 17 = .ok (.iload_n 2, 1) := by decide +kernel
theorem d_M_isTransfer_18 : decode c_M_isTransfer 18 = .ok (.ifCond .lt 17, 3) := by decide +kernel
theorem d_M_isTransfer_21 : decode c_M_isTransfer 21 = .ok (.iload_n 2, 1) := by decide +kernel
theorem d_M_isTransfer_22 : decode c_M_isTransfer 22 = .ok (.aload_n 0, 1) := by decide +kernel
theorem d_M_isTransfer_23 : decode c_M_isTransfer 23 = .ok (.getfield 70, 3) := by decide +kernel
theorem d_M_isTransfer_26 : decode c_M_isTransfer 26 = .ok (.iload_n 1, 1) := by decide +kernel
theorem d_M_isTransfer_27 : decode c_M_isTransfer 27 = .ok (.iaload, 1) := by decide +kernel
theorem d_M_isTransfer_28 : decode c_M_isTransfer 28 = .ok (.if_icmp .ge 7, 3) := by decide +kernel
theorem d_M_isTransfer_31 : decode c_M_isTransfer 31 = .ok (.iconst 1, 1) := by decide +kernel
theorem d_M_isTransfer_32 : decode c_M_isTransfer 32 = .ok (.goto 4, 3) := by decide +kernel
theorem d_M_isTransfer_35 : decode c_M_isTransfer 35 = .ok (.iconst 0, 1) := by decide +kernel
theorem d_M_isTransfer_36 : decode c_M_isTransfer 36 = .ok (.ireturn, 1) := by decide +kernel
theorem d_M_transfer_0 : decode c_M_transfer 0 = .ok (.aload_n 0, 1) := by decide +kernel
theorem d_M_transfer_1 : decode c_M_transfer 1 = .ok (.aload_n 0, 1) := by decide +kernel
theorem d_M_transfer_2 : decode c_M_transfer 2 = .ok (.iload_n 1, 1) := by decide +kernel
theorem d_M_transfer_3 : decode c_M_transfer 3 = .ok (.iload_n 2, 1) := by decide +kernel
theorem d_M_transfer_4 : decode c_M_transfer 4 = .ok (.invokevirtual 190, 3) := by decide +kernel
theorem d_M_transfer_7 : decode c_M_transfer 7 = .ok (.ifCond .ne 7, 3) := by decide +kernel
theorem d_M_transfer_10 : decode c_M_transfer 10 = .ok (.iconst 1, 1) := by decide +kernel
theorem d_M_transfer_11 : decode c_M_transfer 11 = .ok (.goto 17, 3) := by decide +kernel
theorem d_M_transfer_14 : decode c_M_transfer 14 = .ok (.iload_n 3, 1) := by decide +kernel
theorem d_M_transfer_15 : decode c_M_transfer 15 = .ok (.ifCond .lt 8, 3) := by decide +kernel
theorem d_M_transfer_18 : decode c_M_transfer 18 = .ok (.iload_n 3, 1) := by decide +kernel
theorem d_M_transfer_19 : decode c_M_transfer 19 = .ok (.iconst 3, 1) := by decide +kernel
theorem d_M_transfer_20 : decode c_M_transfer 20 = .ok (.if_icmp .le 7, 3) := by decide +kernel
theorem d_M_transfer_23 : decode c_M_transfer 23 = .ok (.iconst 2, 1) := by decide +kernel
theorem d_M_transfer_24 : decode c_M_transfer 24 = .ok (.goto 4, 3) := by decide +kernel
theorem d_M_transfer_27 : decode c_M_transfer 27 = .ok (.iconst 0, 1) := by decide +kernel
theorem d_M_transfer_28 : decode c_M_transfer 28 = .ok (.putfield 91, 3) := by decide +kernel
theorem d_M_transfer_31 : decode c_M_transfer 31 = .ok (.aload_n 0, 1) := by decide +kernel
theorem d_M_transfer_32 : decode c_M_transfer 32 = .ok (.getfield 91, 3) := by decide +kernel
theorem d_M_transfer_35 : decode c_M_transfer 35 = .ok (.ifCond .eq 5, 3) := by decide +kernel
theorem d_M_transfer_38 : decode c_M_transfer 38 = .ok (.lconst 0, 1) := by decide +kernel
theorem d_M_transfer_39 : decode c_M_transfer 39 = .ok (.lreturn, 1) := by decide +kernel
theorem d_M_transfer_40 : decode c_M_transfer 40 = .ok (.bipush 11, 2) := by decide +kernel
theorem d_M_transfer_42 : decode c_M_transfer 42 = .ok (.iload_n 1, 1) := by decide +kernel
theorem d_M_transfer_43 : decode c_M_transfer 43 = .ok (.imul, 1) := by decide +kernel
theorem d_M_transfer_44 : decode c_M_transfer 44 = .ok (.iload_n 2, 1) := by decide +kernel
theorem d_M_transfer_45 : decode c_M_transfer 45 = .ok (.iadd, 1) := by decide +kernel
theorem d_M_transfer_46 : decode c_M_transfer 46 = .ok (.istore 4, 2) := by decide +kernel
theorem d_M_transfer_48 : decode c_M_transfer 48 = .ok (.iload_n 3, 1) := by decide +kernel
theorem d_M_transfer_49 : decode c_M_transfer 49 = .ok (.ifCond .ne 14, 3) := by decide +kernel
theorem d_M_transfer_52 : decode c_M_transfer 52 = .ok (.aload_n 0, 1) := by decide +kernel
theorem d_M_transfer_53 : decode c_M_transfer 53 = .ok (.getfield 73, 3) := by decide +kernel
theorem d_M_transfer_56 : decode c_M_transfer 56 = .ok (.iload 4, 2) := by decide +kernel
theorem d_M_transfer_58 : decode c_M_transfer 58 = .ok (.iaload, 1) := by decide +kernel
theorem d_M_transfer_59 : decode c_M_transfer 59 = .ok (.i2l, 1) := by decide +kernel
theorem d_M_transfer_60 : decode c_M_transfer 60 = .ok (.goto 49, 3) := by decide +kernel
theorem d_M_transfer_63 : decode c_M_transfer 63 = .ok (.iload_n 3, 1) := by decide +kernel
theorem d_M_transfer_64 : decode c_M_transfer 64 = .ok (.iconst 1, 1) := by decide +kernel
theorem d_M_transfer_65 : decode c_M_transfer 65 = .ok (.if_icmp .ne 14, 3) := by decide +kernel
theorem d_M_transfer_68 : decode c_M_transfer 68 = .ok (.aload_n 0, 1) := by decide +kernel
theorem d_M_transfer_69 : decode c_M_transfer 69 = .ok (.getfield 76, 3) := by decide +kernel
theorem d_M_transfer_72 : decode c_M_transfer 72 = .ok (.iload 4, 2) := by decide +kernel
theorem d_M_transfer_74 : decode c_M_transfer 74 = .ok (.iaload, 1) := by decide +kernel
theorem d_M_transfer_75 : decode c_M_transfer 75 = .ok (.i2l, 1) := by decide +kernel
theorem d_M_transfer_76 : decode c_M_transfer 76 = .ok (.goto 33, 3) := by decide +kernel
theorem d_M_transfer_79 : decode c_M_transfer 79 = .ok (.iload_n 3, 1) := by decide +kernel
theorem d_M_transfer_80 : decode c_M_transfer 80 = .ok (.iconst 2, 1) := by decide +kernel
theorem d_M_transfer_81 : decode c_M_transfer 81 = .ok (.if_icmp .ne 13, 3) := by decide +kernel
theorem d_M_transfer_84 : decode c_M_transfer 84 = .ok (.aload_n 0, 1) := by decide +kernel
theorem d_M_transfer_85 : decode c_M_transfer 85 = .ok (.getfield 79, 3) := by decide +kernel
theorem d_M_transfer_88 : decode c_M_transfer 88 = .ok (.iload 4, 2) := by decide +kernel
theorem d_M_transfer_90 : decode c_M_transfer 90 = .ok (.laload, 1) := by decide +kernel
theorem d_M_transfer_91 : decode c_M_transfer 91 = .ok (.goto 18, 3) := by decide +kernel
theorem d_M_transfer_94 : decode c_M_transfer 94 = .ok (.aload_n 0, 1) := by decide +kernel
theorem d_M_transfer_95 : decode c_M_transfer 95 = .ok (.getfield 82, 3) := by decide +kernel
theorem d_M_transfer_98 : decode c_M_transfer 98 = .ok (.iload 4, 2) := by decide +kernel
theorem d_M_transfer_100 : decode c_M_transfer 100 = .ok (.baload, 1) := by decide +kernel
theorem d_M_transfer_101 : decode c_M_transfer 101 = .ok (.ifCond .eq 7, 3) := by decide +kernel
theorem d_M_transfer_104 : decode c_M_transfer 104 = .ok (.lconst 1, 1) := by decide +kernel
theorem d_M_transfer_105 : decode c_M_transfer 105 = .ok (.goto 4, 3) := by decide +kernel
theorem d_M_transfer_108 : decode c_M_transfer 108 = .ok (.lconst 0, 1) := by decide +kernel
theorem d_M_transfer_109 : decode c_M_transfer 109 = .ok (.lreturn, 1) := by decide +kernel
theorem d_M_tick_0 : decode c_M_tick 0 = .ok (.aload_n 0, 1) := by decide +kernel
theorem d_M_tick_1 : decode c_M_tick 1 = .ok (.iconst 0, 1) := by decide +kernel
theorem d_M_tick_2 : decode c_M_tick 2 = .ok (.putfield 91, 3) := by decide +kernel
theorem d_M_tick_5 : decode c_M_tick 5 = .ok (.aload_n 0, 1) := by decide +kernel
theorem d_M_tick_6 : decode c_M_tick 6 = .ok (.iload_n 1, 1) := by decide +kernel
theorem d_M_tick_7 : decode c_M_tick 7 = .ok (.iload_n 2, 1) := by decide +kernel
theorem d_M_tick_8 : decode c_M_tick 8 = .ok (.invokevirtual 190, 3) := by decide +kernel
theorem d_M_tick_11 : decode c_M_tick 11 = .ok (.ifCond .eq 17, 3) := by decide +kernel
theorem d_M_tick_14 : decode c_M_tick 14 = .ok (.aload_n 0, 1) := by decide +kernel
theorem d_M_tick_15 : decode c_M_tick 15 = .ok (.getfield 82, 3) := by decide +kernel
theorem d_M_tick_18 : decode c_M_tick 18 = .ok (.bipush 11, 2) := by decide +kernel
theorem d_M_tick_20 : decode c_M_tick 20 = .ok (.iload_n 1, 1) := by decide +kernel
theorem d_M_tick_21 : decode c_M_tick 21 = .ok (.imul, 1) := by decide +kernel
theorem d_M_tick_22 : decode c_M_tick 22 = .ok (.iload_n 2, 1) := by decide +kernel
theorem d_M_tick_23 : decode c_M_tick 23 = .ok (.iadd, 1) := by decide +kernel
theorem d_M_tick_24 : decode c_M_tick 24 = .ok (.baload, 1) := by decide +kernel
theorem d_M_tick_25 : decode c_M_tick 25 = .ok (.ifCond .eq 5, 3) := by decide +kernel
theorem d_M_tick_28 : decode c_M_tick 28 = .ok (.iconst 0, 1) := by decide +kernel
theorem d_M_tick_29 : decode c_M_tick 29 = .ok (.ireturn, 1) := by decide +kernel
theorem d_M_tick_30 : decode c_M_tick 30 = .ok (.bipush 11, 2) := by decide +kernel
theorem d_M_tick_32 : decode c_M_tick 32 = .ok (.iload_n 1, 1) := by decide +kernel
theorem d_M_tick_33 : decode c_M_tick 33 = .ok (.imul, 1) := by decide +kernel
theorem d_M_tick_34 : decode c_M_tick 34 = .ok (.iload_n 2, 1) := by decide +kernel
theorem d_M_tick_35 : decode c_M_tick 35 = .ok (.iadd, 1) := by decide +kernel
theorem d_M_tick_36 : decode c_M_tick 36 = .ok (.istore_n 3, 1) := by decide +kernel
theorem d_M_tick_37 : decode c_M_tick 37 = .ok (.aload_n 0, 1) := by decide +kernel
theorem d_M_tick_38 : decode c_M_tick 38 = .ok (.getfield 82, 3) := by decide +kernel
theorem d_M_tick_41 : decode c_M_tick 41 = .ok (.iload_n 3, 1) := by decide +kernel
theorem d_M_tick_42 : decode c_M_tick 42 = .ok (.iconst 1, 1) := by decide +kernel
theorem d_M_tick_43 : decode c_M_tick 43 = .ok (.bastore, 1) := by decide +kernel
theorem d_M_tick_44 : decode c_M_tick 44 = .ok (.aload_n 0, 1) := by decide +kernel
theorem d_M_tick_45 : decode c_M_tick 45 = .ok (.getfield 58, 3) := by decide +kernel
theorem d_M_tick_48 : decode c_M_tick 48 = .ok (.bipush 12, 2) := by decide +kernel
theorem d_M_tick_50 : decode c_M_tick 50 = .ok (.iload_n 1, 1) := by decide +kernel
theorem d_M_tick_51 : decode c_M_tick 51 = .ok (.imul, 1) := by decide +kernel
theorem d_M_tick_52 : decode c_M_tick 52 = .ok (.aload_n 0, 1) := by decide +kernel
theorem d_M_tick_53 : decode c_M_tick 53 = .ok (.getfield 73, 3) := by decide +kernel
theorem d_M_tick_56 : decode c_M_tick 56 = .ok (.iload_n 3, 1) := by decide +kernel
theorem d_M_tick_57 : decode c_M_tick 57 = .ok (.iaload, 1) := by decide +kernel
theorem d_M_tick_58 : decode c_M_tick 58 = .ok (.iadd, 1) := by decide +kernel
theorem d_M_tick_59 : decode c_M_tick 59 = .ok (.dup2, 1) := by decide +kernel
theorem d_M_tick_60 : decode c_M_tick 60 = .ok (.laload, 1) := by decide +kernel
theorem d_M_tick_61 : decode c_M_tick 61 = .ok (.aload_n 0, 1) := by decide +kernel
theorem d_M_tick_62 : decode c_M_tick 62 = .ok (.getfield 79, 3) := by decide +kernel
theorem d_M_tick_65 : decode c_M_tick 65 = .ok (.iload_n 3, 1) := by decide +kernel
theorem d_M_tick_66 : decode c_M_tick 66 = .ok (.laload, 1) := by decide +kernel
theorem d_M_tick_67 : decode c_M_tick 67 = .ok (.ladd, 1) := by decide +kernel
theorem d_M_tick_68 : decode c_M_tick 68 = .ok (.lastore, 1) := by decide +kernel
theorem d_M_tick_69 : decode c_M_tick 69 = .ok (.aload_n 0, 1) := by decide +kernel
theorem d_M_tick_70 : decode c_M_tick 70 = .ok (.getfield 58, 3) := by decide +kernel
theorem d_M_tick_73 : decode c_M_tick 73 = .ok (.bipush 12, 2) := by decide +kernel
theorem d_M_tick_75 : decode c_M_tick 75 = .ok (.iload_n 1, 1) := by decide +kernel
theorem d_M_tick_76 : decode c_M_tick 76 = .ok (.imul, 1) := by decide +kernel
theorem d_M_tick_77 : decode c_M_tick 77 = .ok (.aload_n 0, 1) := by decide +kernel
theorem d_M_tick_78 : decode c_M_tick 78 = .ok (.getfield 76, 3) := by decide +kernel
theorem d_M_tick_81 : decode c_M_tick 81 = .ok (.iload_n 3, 1) := by decide +kernel
theorem d_M_tick_82 : decode c_M_tick 82 = .ok (.iaload, 1) := by decide +kernel
theorem d_M_tick_83 : decode c_M_tick 83 = .ok (.iadd, 1) := by decide +kernel
theorem d_M_tick_84 : decode c_M_tick 84 = .ok (.dup2, 1) := by decide +kernel
theorem d_M_tick_85 : decode c_M_tick 85 = .ok (.laload, 1) := by decide +kernel
theorem d_M_tick_86 : decode c_M_tick 86 = .ok (.aload_n 0, 1) := by decide +kernel
theorem d_M_tick_87 : decode c_M_tick 87 = .ok (.getfield 79, 3) := by decide +kernel
theorem d_M_tick_90 : decode c_M_tick 90 = .ok (.iload_n 3, 1) := by decide +kernel
theorem d_M_tick_91 : decode c_M_tick 91 = .ok (.laload, 1) := by decide +kernel
theorem d_M_tick_92 : decode c_M_tick 92 = .ok (.lsub, 1) := by decide +kernel
theorem d_M_tick_93 : decode c_M_tick 93 = .ok (.lastore, 1) := by decide +kernel
theorem d_M_tick_94 : decode c_M_tick 94 = .ok (.iconst 1, 1) := by decide +kernel
theorem d_M_tick_95 : decode c_M_tick 95 = .ok (.ireturn, 1) := by decide +kernel
theorem d_M_unticked_0 : decode c_M_unticked 0 = .ok (.iconst 0, 1) := by decide +kernel
theorem d_M_unticked_1 : decode c_M_unticked 1 = .ok (.istore_n 2, 1) := by decide +kernel
theorem d_M_unticked_2 : decode c_M_unticked 2 = .ok (.iconst 0, 1) := by decide +kernel
theorem d_M_unticked_3 : decode c_M_unticked 3 = .ok (.istore_n 3, 1) := by decide +kernel
theorem d_M_unticked_4 : decode c_M_unticked 4 = .ok (.iload_n 3, 1) := by decide +kernel
theorem d_M_unticked_5 : decode c_M_unticked 5 = .ok (.aload_n 0, 1) := by decide +kernel
theorem d_M_unticked_6 : decode c_M_unticked 6 = .ok (.getfield 70, 3) := by decide +kernel
theorem d_M_unticked_9 : decode c_M_unticked 9 = .ok (.iload_n 1, 1) := by decide +kernel
theorem d_M_unticked_10 : decode c_M_unticked 10 = .ok (.iaload, 1) := by decide +kernel
theorem d_M_unticked_11 : decode c_M_unticked 11 = .ok (.if_icmp .ge 31, 3) := by decide +kernel
theorem d_M_unticked_14 : decode c_M_unticked 14 = .ok (.iload_n 2, 1) := by decide +kernel
theorem d_M_unticked_15 : decode c_M_unticked 15 = .ok (.aload_n 0, 1) := by decide +kernel
theorem d_M_unticked_16 : decode c_M_unticked 16 = .ok (.getfield 82, 3) := by decide +kernel
theorem d_M_unticked_19 : decode c_M_unticked 19 = .ok (.bipush 11, 2) := by decide +kernel
theorem d_M_unticked_21 : decode c_M_unticked 21 = .ok (.iload_n 1, 1) := by decide +kernel
theorem d_M_unticked_22 : decode c_M_unticked 22 = .ok (.imul, 1) := by decide +kernel
theorem d_M_unticked_23 : decode c_M_unticked 23 = .ok (.iload_n 3, 1) := by decide +kernel
theorem d_M_unticked_24 : decode c_M_unticked 24 = .ok (.iadd, 1) := by decide +kernel
theorem d_M_unticked_25 : decode c_M_unticked 25 = .ok (.baload, 1) := by decide +kernel
theorem d_M_unticked_26 : decode c_M_unticked 26 = .ok (.ifCond .eq 7, 3) := by decide +kernel
theorem d_M_unticked_29 : decode c_M_unticked 29 = .ok (.iconst 0, 1) := by decide +kernel
theorem d_M_unticked_30 : decode c_M_unticked 30 = .ok (.goto 4, 3) := by decide +kernel
theorem d_M_unticked_33 : decode c_M_unticked 33 = .ok (.iconst 1, 1) := by decide +kernel
theorem d_M_unticked_34 : decode c_M_unticked 34 = .ok (.iadd, 1) := by decide +kernel
theorem d_M_unticked_35 : decode c_M_unticked 35 = .ok (.istore_n 2, 1) := by decide +kernel
theorem d_M_unticked_36 : decode c_M_unticked 36 = .ok (.iinc 3 1, 3) := by decide +kernel
theorem d_M_unticked_39 : decode c_M_unticked 39 = .ok (.goto (-35), 3) := by decide +kernel
theorem d_M_unticked_42 : decode c_M_unticked 42 = .ok (.iload_n 2, 1) := by decide +kernel
theorem d_M_unticked_43 : decode c_M_unticked 43 = .ok (.ireturn, 1) := by decide +kernel
theorem d_M_giveUp_0 : decode c_M_giveUp 0 = .ok (.aload_n 0, 1) := by decide +kernel
theorem d_M_giveUp_1 : decode c_M_giveUp 1 = .ok (.iconst 0, 1) := by decide +kernel
theorem d_M_giveUp_2 : decode c_M_giveUp 2 = .ok (.putfield 91, 3) := by decide +kernel
theorem d_M_giveUp_5 : decode c_M_giveUp 5 = .ok (.aload_n 0, 1) := by decide +kernel
theorem d_M_giveUp_6 : decode c_M_giveUp 6 = .ok (.iload_n 1, 1) := by decide +kernel
theorem d_M_giveUp_7 : decode c_M_giveUp 7 = .ok (.invokevirtual 97, 3) := by decide +kernel
theorem d_M_giveUp_10 : decode c_M_giveUp 10 = .ok (.ifCond .eq 12, 3) := by decide +kernel
theorem d_M_giveUp_13 : decode c_M_giveUp 13 = .ok (.aload_n 0, 1) := by decide +kernel
theorem d_M_giveUp_14 : decode c_M_giveUp 14 = .ok (.getfield 61, 3) := by decide +kernel
theorem d_M_giveUp_17 : decode c_M_giveUp 17 = .ok (.iload_n 1, 1) := by decide +kernel
theorem d_M_giveUp_18 : decode c_M_giveUp 18 = .ok (.baload, 1) := by decide +kernel
theorem d_M_giveUp_19 : decode c_M_giveUp 19 = .ok (.ifCond .ne 5, 3) := by decide +kernel
theorem d_M_giveUp_22 : decode c_M_giveUp 22 = .ok (.iconst (-1), 1) := by decide +kernel
theorem d_M_giveUp_23 : decode c_M_giveUp 23 = .ok (.ireturn, 1) := by decide +kernel
theorem d_M_giveUp_24 : decode c_M_giveUp 24 = .ok (.aload_n 0, 1) := by decide +kernel
theorem d_M_giveUp_25 : decode c_M_giveUp 25 = .ok (.getfield 61, 3) := by decide +kernel
theorem d_M_giveUp_28 : decode c_M_giveUp 28 = .ok (.iload_n 1, 1) := by decide +kernel
theorem d_M_giveUp_29 : decode c_M_giveUp 29 = .ok (.iconst 0, 1) := by decide +kernel
theorem d_M_giveUp_30 : decode c_M_giveUp 30 = .ok (.bastore, 1) := by decide +kernel
theorem d_M_giveUp_31 : decode c_M_giveUp 31 = .ok (.aload_n 0, 1) := by decide +kernel
theorem d_M_giveUp_32 : decode c_M_giveUp 32 = .ok (.iload_n 1, 1) := by decide +kernel
theorem d_M_giveUp_33 : decode c_M_giveUp 33 = .ok (.invokevirtual 193, 3) := by decide +kernel
theorem d_M_giveUp_36 : decode c_M_giveUp 36 = .ok (.ireturn, 1) := by decide +kernel
theorem d_M_close_0 : decode c_M_close 0 = .ok (.aload_n 0, 1) := by decide +kernel
theorem d_M_close_1 : decode c_M_close 1 = .ok (.iconst 0, 1) := by decide +kernel
theorem d_M_close_2 : decode c_M_close 2 = .ok (.putfield 91, 3) := by decide +kernel
theorem d_M_close_5 : decode c_M_close 5 = .ok (.aload_n 0, 1) := by decide +kernel
theorem d_M_close_6 : decode c_M_close 6 = .ok (.iload_n 1, 1) := by decide +kernel
theorem d_M_close_7 : decode c_M_close 7 = .ok (.invokevirtual 97, 3) := by decide +kernel
theorem d_M_close_10 : decode c_M_close 10 = .ok (.ifCond .eq 20, 3) := by decide +kernel
theorem d_M_close_13 : decode c_M_close 13 = .ok (.aload_n 0, 1) := by decide +kernel
theorem d_M_close_14 : decode c_M_close 14 = .ok (.getfield 61, 3) := by decide +kernel
theorem d_M_close_17 : decode c_M_close 17 = .ok (.iload_n 1, 1) := by decide +kernel
theorem d_M_close_18 : decode c_M_close 18 = .ok (.baload, 1) := by decide +kernel
theorem d_M_close_19 : decode c_M_close 19 = .ok (.ifCond .eq 11, 3) := by decide +kernel
theorem d_M_close_22 : decode c_M_close 22 = .ok (.aload_n 0, 1) := by decide +kernel
theorem d_M_close_23 : decode c_M_close 23 = .ok (.iload_n 1, 1) := by decide +kernel
theorem d_M_close_24 : decode c_M_close 24 = .ok (.invokevirtual 193, 3) := by decide +kernel
theorem d_M_close_27 : decode c_M_close 27 = .ok (.ifCond .le 5, 3) := by decide +kernel
theorem d_M_close_30 : decode c_M_close 30 = .ok (.iconst 0, 1) := by decide +kernel
theorem d_M_close_31 : decode c_M_close 31 = .ok (.ireturn, 1) := by decide +kernel
theorem d_M_close_32 : decode c_M_close 32 = .ok (.aload_n 0, 1) := by decide +kernel
theorem d_M_close_33 : decode c_M_close 33 = .ok (.getfield 61, 3) := by decide +kernel
theorem d_M_close_36 : decode c_M_close 36 = .ok (.iload_n 1, 1) := by decide +kernel
theorem d_M_close_37 : decode c_M_close 37 = .ok (.iconst 0, 1) := by decide +kernel
theorem d_M_close_38 : decode c_M_close 38 = .ok (.bastore, 1) := by decide +kernel
theorem d_M_close_39 : decode c_M_close 39 = .ok (.iconst 1, 1) := by decide +kernel
theorem d_M_close_40 : decode c_M_close 40 = .ok (.ireturn, 1) := by decide +kernel
theorem d_M_count_0 : decode c_M_count 0 = .ok (.aload_n 0, 1) := by decide +kernel
theorem d_M_count_1 : decode c_M_count 1 = .ok (.iconst 0, 1) := by decide +kernel
theorem d_M_count_2 : decode c_M_count 2 = .ok (.putfield 91, 3) := by decide +kernel
theorem d_M_count_5 : decode c_M_count 5 = .ok (.aload_n 0, 1) := by decide +kernel
theorem d_M_count_6 : decode c_M_count 6 = .ok (.iload_n 1, 1) := by decide +kernel
theorem d_M_count_7 : decode c_M_count 7 = .ok (.invokevirtual 97, 3) := by decide +kernel
theorem d_M_count_10 : decode c_M_count 10 = .ok (.ifCond .ne 5, 3) := by decide +kernel
theorem d_M_count_13 : decode c_M_count 13 = .ok (.iconst (-1), 1) := by decide +kernel
theorem d_M_count_14 : decode c_M_count 14 = .ok (.ireturn, 1) := by decide +kernel
theorem d_M_count_15 : decode c_M_count 15 = .ok (.iload_n 2, 1) := by decide +kernel
theorem d_M_count_16 : decode c_M_count 16 = .ok (.tableswitch 85 0 3 #[32, 39, 59, 78], 32) := by decide +kernel
theorem d_M_count_48 : decode c_M_count 48 = .ok (.aload_n 0, 1) := by decide +kernel
theorem d_M_count_49 : decode c_M_count 49 = .ok (.getfield 7, 3) := by decide +kernel
theorem d_M_count_52 : decode c_M_count 52 = .ok (.iload_n 1, 1) := by decide +kernel
theorem d_M_count_53 : decode c_M_count 53 = .ok (.iaload, 1) := by decide +kernel
theorem d_M_count_54 : decode c_M_count 54 = .ok (.ireturn, 1) := by decide +kernel
theorem d_M_count_55 : decode c_M_count 55 = .ok (.aload_n 0, 1) := by decide +kernel
theorem d_M_count_56 : decode c_M_count 56 = .ok (.getfield 61, 3) := by decide +kernel
theorem d_M_count_59 : decode c_M_count 59 = .ok (.iload_n 1, 1) := by decide +kernel
theorem d_M_count_60 : decode c_M_count 60 = .ok (.baload, 1) := by decide +kernel
theorem d_M_count_61 : decode c_M_count 61 = .ok (.ifCond .eq 12, 3) := by decide +kernel
theorem d_M_count_64 : decode c_M_count 64 = .ok (.aload_n 0, 1) := by decide +kernel
theorem d_M_count_65 : decode c_M_count 65 = .ok (.getfield 64, 3) := by decide +kernel
theorem d_M_count_68 : decode c_M_count 68 = .ok (.iload_n 1, 1) := by decide +kernel
theorem d_M_count_69 : decode c_M_count 69 = .ok (.iaload, 1) := by decide +kernel
theorem d_M_count_70 : decode c_M_count 70 = .ok (.goto 4, 3) := by decide +kernel
theorem d_M_count_73 : decode c_M_count 73 = .ok (.iconst (-1), 1) := by decide +kernel
theorem d_M_count_74 : decode c_M_count 74 = .ok (.ireturn, 1) := by decide +kernel
theorem d_M_count_75 : decode c_M_count 75 = .ok (.aload_n 0, 1) := by decide +kernel
theorem d_M_count_76 : decode c_M_count 76 = .ok (.getfield 61, 3) := by decide +kernel
theorem d_M_count_79 : decode c_M_count 79 = .ok (.iload_n 1, 1) := by decide +kernel
theorem d_M_count_80 : decode c_M_count 80 = .ok (.baload, 1) := by decide +kernel
theorem d_M_count_81 : decode c_M_count 81 = .ok (.ifCond .eq 11, 3) := by decide +kernel
theorem d_M_count_84 : decode c_M_count 84 = .ok (.aload_n 0, 1) := by decide +kernel
theorem d_M_count_85 : decode c_M_count 85 = .ok (.iload_n 1, 1) := by decide +kernel
theorem d_M_count_86 : decode c_M_count 86 = .ok (.invokevirtual 193, 3) := by decide +kernel
theorem d_M_count_89 : decode c_M_count 89 = .ok (.goto 4, 3) := by decide +kernel
theorem d_M_count_92 : decode c_M_count 92 = .ok (.iconst (-1), 1) := by decide +kernel
theorem d_M_count_93 : decode c_M_count 93 = .ok (.ireturn, 1) := by decide +kernel
theorem d_M_count_94 : decode c_M_count 94 = .ok (.aload_n 0, 1) := by decide +kernel
theorem d_M_count_95 : decode c_M_count 95 = .ok (.getfield 13, 3) := by decide +kernel
theorem d_M_count_98 : decode c_M_count 98 = .ok (.iload_n 1, 1) := by decide +kernel
theorem d_M_count_99 : decode c_M_count 99 = .ok (.iaload, 1) := by decide +kernel
theorem d_M_count_100 : decode c_M_count 100 = .ok (.ireturn, 1) := by decide +kernel
theorem d_M_count_101 : decode c_M_count 101 = .ok (.iconst (-1), 1) := by decide +kernel
theorem d_M_count_102 : decode c_M_count 102 = .ok (.ireturn, 1) := by decide +kernel
theorem d_M_groupOf_0 : decode c_M_groupOf 0 = .ok (.aload_n 0, 1) := by decide +kernel
theorem d_M_groupOf_1 : decode c_M_groupOf 1 = .ok (.iconst 0, 1) := by decide +kernel
theorem d_M_groupOf_2 : decode c_M_groupOf 2 = .ok (.putfield 91, 3) := by decide +kernel
theorem d_M_groupOf_5 : decode c_M_groupOf 5 = .ok (.aload_n 0, 1) := by decide +kernel
theorem d_M_groupOf_6 : decode c_M_groupOf 6 = .ok (.iload_n 1, 1) := by decide +kernel
theorem d_M_groupOf_7 : decode c_M_groupOf 7 = .ok (.iload_n 2, 1) := by decide +kernel
theorem d_M_groupOf_8 : decode c_M_groupOf 8 = .ok (.invokevirtual 103, 3) := by decide +kernel
theorem d_M_groupOf_11 : decode c_M_groupOf 11 = .ok (.ifCond .eq 26, 3) := by decide +kernel
theorem d_M_groupOf_14 : decode c_M_groupOf 14 = .ok (.aload_n 0, 1) := by decide +kernel
theorem d_M_groupOf_15 : decode c_M_groupOf 15 = .ok (.getfield 61, 3) := by decide +kernel
theorem d_M_groupOf_18 : decode c_M_groupOf 18 = .ok (.iload_n 1, 1) := by decide +kernel
theorem d_M_groupOf_19 : decode c_M_groupOf 19 = .ok (.baload, 1) := by decide +kernel
theorem d_M_groupOf_20 : decode c_M_groupOf 20 = .ok (.ifCond .eq 17, 3) := by decide +kernel
theorem d_M_groupOf_23 : decode c_M_groupOf 23 = .ok (.aload_n 0, 1) := by decide +kernel
theorem d_M_groupOf_24 : decode c_M_groupOf 24 = .ok (.getfield 67, 3) := by decide +kernel
theorem d_M_groupOf_27 : decode c_M_groupOf 27 = .ok (.bipush 12, 2) := by decide +kernel
theorem d_M_groupOf_29 : decode c_M_groupOf 29 = .ok (.iload_n 1, 1) := by decide +kernel
theorem d_M_groupOf_30 : decode c_M_groupOf 30 = .ok (.imul, 1) := by decide +kernel
theorem d_M_groupOf_31 : decode c_M_groupOf 31 = .ok (.iload_n 2, 1) := by decide +kernel
theorem d_M_groupOf_32 : decode c_M_groupOf 32 = .ok (.iadd, 1) := by decide +kernel
theorem d_M_groupOf_33 : decode c_M_groupOf 33 = .ok (.iaload, 1) := by decide +kernel
theorem d_M_groupOf_34 : decode c_M_groupOf 34 = .ok (.goto 4, 3) := by decide +kernel
theorem d_M_groupOf_37 : decode c_M_groupOf 37 = .ok (.iconst (-1), 1) := by decide +kernel
theorem d_M_groupOf_38 : decode c_M_groupOf 38 = .ok (.ireturn, 1) := by decide +kernel
