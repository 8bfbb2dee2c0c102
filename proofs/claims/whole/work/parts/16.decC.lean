theorem dX0_forget_0 : decode cX0_forget 0 = .ok (.aload_n 0, 1) := by decide +kernel
theorem dX0_forget_1 : decode cX0_forget 1 = .ok (.iconst 0, 1) := by decide +kernel
theorem dX0_forget_2 : decode cX0_forget 2 = .ok (.putfield 15, 3) := by decide +kernel
theorem dX0_forget_5 : decode cX0_forget 5 = .ok (.return_, 1) := by decide +kernel
theorem dX0_pose_0 : decode cX0_pose 0 = .ok (.iload_n 3, 1) := by decide +kernel
theorem dX0_pose_1 : decode cX0_pose 1 = .ok (.ifCond .ne 9, 3) := by decide +kernel
theorem dX0_pose_4 : decode cX0_pose 4 = .ok (.getstatic 19, 3) := by decide +kernel
theorem dX0_pose_7 : decode cX0_pose 7 = .ok (.goto 6, 3) := by decide +kernel
theorem dX0_pose_10 : decode cX0_pose 10 = .ok (.getstatic 22, 3) := by decide +kernel
theorem dX0_pose_13 : decode cX0_pose 13 = .ok (.astore 5, 2) := by decide +kernel
theorem dX0_pose_15 : decode cX0_pose 15 = .ok (.aload_n 1, 1) := by decide +kernel
theorem dX0_pose_16 : decode cX0_pose 16 = .ok (.getfield 25, 3) := by decide +kernel
theorem dX0_pose_19 : decode cX0_pose 19 = .ok (.iload_n 2, 1) := by decide +kernel
theorem dX0_pose_20 : decode cX0_pose 20 = .ok (.iaload, 1) := by decide +kernel
theorem dX0_pose_21 : decode cX0_pose 21 = .ok (.istore 6, 2) := by decide +kernel
theorem dX0_pose_23 : decode cX0_pose 23 = .ok (.iconst 0, 1) := by decide +kernel
theorem dX0_pose_24 : decode cX0_pose 24 = .ok (.istore 7, 2) := by decide +kernel
theorem dX0_pose_26 : decode cX0_pose 26 = .ok (.iload 7, 2) := by decide +kernel
theorem dX0_pose_28 : decode cX0_pose 28 = .ok (.aload 5, 2) := by decide +kernel
theorem dX0_pose_30 : decode cX0_pose 30 = .ok (.arraylength, 1) := by decide +kernel
theorem dX0_pose_31 : decode cX0_pose 31 = .ok (.if_icmp .ge 30, 3) := by decide +kernel
theorem dX0_pose_34 : decode cX0_pose 34 = .ok (.iload 6, 2) := by decide +kernel
theorem dX0_pose_36 : decode cX0_pose 36 = .ok (.ifCond .le 25, 3) := by decide +kernel
theorem dX0_pose_39 : decode cX0_pose 39 = .ok (.aload 5, 2) := by decide +kernel
theorem dX0_pose_41 : decode cX0_pose 41 = .ok (.iload 6, 2) := by decide +kernel
theorem dX0_pose_43 : decode cX0_pose 43 = .ok (.iaload, 1) := by decide +kernel
theorem dX0_pose_44 : decode cX0_pose 44 = .ok (.ifCond .ne 17, 3) := by decide +kernel
theorem dX0_pose_47 : decode cX0_pose 47 = .ok (.getstatic 30, 3) := by decide +kernel
theorem dX0_pose_50 : decode cX0_pose 50 = .ok (.iload 6, 2) := by decide +kernel
theorem dX0_pose_52 : decode cX0_pose 52 = .ok (.iaload, 1) := by decide +kernel
theorem dX0_pose_53 : decode cX0_pose 53 = .ok (.istore 6, 2) := by decide +kernel
theorem dX0_pose_55 : decode cX0_pose 55 = .ok (.iinc 7 1, 3) := by decide +kernel
theorem dX0_pose_58 : decode cX0_pose 58 = .ok (.goto (-32), 3) := by decide +kernel
theorem dX0_pose_61 : decode cX0_pose 61 = .ok (.aload_n 0, 1) := by decide +kernel
theorem dX0_pose_62 : decode cX0_pose 62 = .ok (.aload_n 1, 1) := by decide +kernel
theorem dX0_pose_63 : decode cX0_pose 63 = .ok (.iload_n 2, 1) := by decide +kernel
theorem dX0_pose_64 : decode cX0_pose 64 = .ok (.aload 5, 2) := by decide +kernel
theorem dX0_pose_66 : decode cX0_pose 66 = .ok (.iload 6, 2) := by decide +kernel
theorem dX0_pose_68 : decode cX0_pose 68 = .ok (.iconst 0, 1) := by decide +kernel
theorem dX0_pose_69 : decode cX0_pose 69 = .ok (.invokestatic 33, 3) := by decide +kernel
theorem dX0_pose_72 : decode cX0_pose 72 = .ok (.iaload, 1) := by decide +kernel
theorem dX0_pose_73 : decode cX0_pose 73 = .ok (.iload 4, 2) := by decide +kernel
theorem dX0_pose_75 : decode cX0_pose 75 = .ok (.invokevirtual 39, 3) := by decide +kernel
theorem dX0_pose_78 : decode cX0_pose 78 = .ok (.ireturn, 1) := by decide +kernel
theorem dX0_begin_0 : decode cX0_begin 0 = .ok (.iload 4, 2) := by decide +kernel
theorem dX0_begin_2 : decode cX0_begin 2 = .ok (.bipush 16, 2) := by decide +kernel
theorem dX0_begin_4 : decode cX0_begin 4 = .ok (.if_icmp .le 5, 3) := by decide +kernel
theorem dX0_begin_7 : decode cX0_begin 7 = .ok (.iconst 0, 1) := by decide +kernel
theorem dX0_begin_8 : decode cX0_begin 8 = .ok (.ireturn, 1) := by decide +kernel
theorem dX0_begin_9 : decode cX0_begin 9 = .ok (.aload_n 0, 1) := by decide +kernel
theorem dX0_begin_10 : decode cX0_begin 10 = .ok (.iload_n 3, 1) := by decide +kernel
theorem dX0_begin_11 : decode cX0_begin 11 = .ok (.invokevirtual 43, 3) := by decide +kernel
theorem dX0_begin_14 : decode cX0_begin 14 = .ok (.iload 4, 2) := by decide +kernel
theorem dX0_begin_16 : decode cX0_begin 16 = .ok (.iconst 1, 1) := by decide +kernel
theorem dX0_begin_17 : decode cX0_begin 17 = .ok (.iadd, 1) := by decide +kernel
theorem dX0_begin_18 : decode cX0_begin 18 = .ok (.istore 5, 2) := by decide +kernel
theorem dX0_begin_20 : decode cX0_begin 20 = .ok (.iload_n 3, 1) := by decide +kernel
theorem dX0_begin_21 : decode cX0_begin 21 = .ok (.tableswitch 197 10 23 #[71, 78, 99, 111, 125, 197, 197, 197, 197, 197, 138, 140, 161, 176], 71) := by decide +kernel
theorem dX0_begin_92 : decode cX0_begin 92 = .ok (.aload_n 1, 1) := by decide +kernel
theorem dX0_begin_93 : decode cX0_begin 93 = .ok (.getfield 47, 3) := by decide +kernel
theorem dX0_begin_96 : decode cX0_begin 96 = .ok (.iload_n 2, 1) := by decide +kernel
theorem dX0_begin_97 : decode cX0_begin 97 = .ok (.iaload, 1) := by decide +kernel
theorem dX0_begin_98 : decode cX0_begin 98 = .ok (.ireturn, 1) := by decide +kernel
theorem dX0_begin_99 : decode cX0_begin 99 = .ok (.aload_n 0, 1) := by decide +kernel
theorem dX0_begin_100 : decode cX0_begin 100 = .ok (.aload_n 1, 1) := by decide +kernel
theorem dX0_begin_101 : decode cX0_begin 101 = .ok (.iload_n 2, 1) := by decide +kernel
theorem dX0_begin_102 : decode cX0_begin 102 = .ok (.bipush 10, 2) := by decide +kernel
theorem dX0_begin_104 : decode cX0_begin 104 = .ok (.iload 5, 2) := by decide +kernel
theorem dX0_begin_106 : decode cX0_begin 106 = .ok (.invokevirtual 39, 3) := by decide +kernel
theorem dX0_begin_109 : decode cX0_begin 109 = .ok (.aload_n 0, 1) := by decide +kernel
theorem dX0_begin_110 : decode cX0_begin 110 = .ok (.aload_n 1, 1) := by decide +kernel
theorem dX0_begin_111 : decode cX0_begin 111 = .ok (.iload_n 2, 1) := by decide +kernel
theorem dX0_begin_112 : decode cX0_begin 112 = .ok (.iconst 1, 1) := by decide +kernel
theorem dX0_begin_113 : decode cX0_begin 113 = .ok (.iload 5, 2) := by decide +kernel
theorem dX0_begin_115 : decode cX0_begin 115 = .ok (.invokevirtual 50, 3) := by decide +kernel
theorem dX0_begin_118 : decode cX0_begin 118 = .ok (.iadd, 1) := by decide +kernel
theorem dX0_begin_119 : decode cX0_begin 119 = .ok (.ireturn, 1) := by decide +kernel
theorem dX0_begin_120 : decode cX0_begin 120 = .ok (.aload_n 0, 1) := by decide +kernel
theorem dX0_begin_121 : decode cX0_begin 121 = .ok (.aload_n 1, 1) := by decide +kernel
theorem dX0_begin_122 : decode cX0_begin 122 = .ok (.iload_n 2, 1) := by decide +kernel
theorem dX0_begin_123 : decode cX0_begin 123 = .ok (.bipush 11, 2) := by decide +kernel
theorem dX0_begin_125 : decode cX0_begin 125 = .ok (.iload 5, 2) := by decide +kernel
theorem dX0_begin_127 : decode cX0_begin 127 = .ok (.invokevirtual 39, 3) := by decide +kernel
theorem dX0_begin_130 : decode cX0_begin 130 = .ok (.ineg, 1) := by decide +kernel
theorem dX0_begin_131 : decode cX0_begin 131 = .ok (.ireturn, 1) := by decide +kernel
theorem dX0_begin_132 : decode cX0_begin 132 = .ok (.aload_n 0, 1) := by decide +kernel
theorem dX0_begin_133 : decode cX0_begin 133 = .ok (.aload_n 1, 1) := by decide +kernel
theorem dX0_begin_134 : decode cX0_begin 134 = .ok (.iload_n 2, 1) := by decide +kernel
theorem dX0_begin_135 : decode cX0_begin 135 = .ok (.bipush 10, 2) := by decide +kernel
theorem dX0_begin_137 : decode cX0_begin 137 = .ok (.iload 5, 2) := by decide +kernel
theorem dX0_begin_139 : decode cX0_begin 139 = .ok (.invokevirtual 39, 3) := by decide +kernel
theorem dX0_begin_142 : decode cX0_begin 142 = .ok (.bipush 100, 2) := by decide +kernel
theorem dX0_begin_144 : decode cX0_begin 144 = .ok (.isub, 1) := by decide +kernel
theorem dX0_begin_145 : decode cX0_begin 145 = .ok (.ireturn, 1) := by decide +kernel
theorem dX0_begin_146 : decode cX0_begin 146 = .ok (.iconst 2, 1) := by decide +kernel
theorem dX0_begin_147 : decode cX0_begin 147 = .ok (.aload_n 0, 1) := by decide +kernel
theorem dX0_begin_148 : decode cX0_begin 148 = .ok (.aload_n 1, 1) := by decide +kernel
theorem dX0_begin_149 : decode cX0_begin 149 = .ok (.iload_n 2, 1) := by decide +kernel
theorem dX0_begin_150 : decode cX0_begin 150 = .ok (.bipush 13, 2) := by decide +kernel
theorem dX0_begin_152 : decode cX0_begin 152 = .ok (.iload 5, 2) := by decide +kernel
theorem dX0_begin_154 : decode cX0_begin 154 = .ok (.invokevirtual 39, 3) := by decide +kernel
theorem dX0_begin_157 : decode cX0_begin 157 = .ok (.imul, 1) := by decide +kernel
theorem dX0_begin_158 : decode cX0_begin 158 = .ok (.ireturn, 1) := by decide +kernel
theorem dX0_begin_159 : decode cX0_begin 159 = .ok (.iload_n 2, 1) := by decide +kernel
theorem dX0_begin_160 : decode cX0_begin 160 = .ok (.ireturn, 1) := by decide +kernel
theorem dX0_begin_161 : decode cX0_begin 161 = .ok (.aload_n 0, 1) := by decide +kernel
theorem dX0_begin_162 : decode cX0_begin 162 = .ok (.aload_n 1, 1) := by decide +kernel
theorem dX0_begin_163 : decode cX0_begin 163 = .ok (.iload_n 2, 1) := by decide +kernel
theorem dX0_begin_164 : decode cX0_begin 164 = .ok (.bipush 20, 2) := by decide +kernel
theorem dX0_begin_166 : decode cX0_begin 166 = .ok (.iload 5, 2) := by decide +kernel
theorem dX0_begin_168 : decode cX0_begin 168 = .ok (.invokevirtual 39, 3) := by decide +kernel
theorem dX0_begin_171 : decode cX0_begin 171 = .ok (.bipush 10, 2) := by decide +kernel
theorem dX0_begin_173 : decode cX0_begin 173 = .ok (.aload_n 1, 1) := by decide +kernel
theorem dX0_begin_174 : decode cX0_begin 174 = .ok (.getfield 53, 3) := by decide +kernel
theorem dX0_begin_177 : decode cX0_begin 177 = .ok (.iload_n 2, 1) := by decide +kernel
theorem dX0_begin_178 : decode cX0_begin 178 = .ok (.iaload, 1) := by decide +kernel
theorem dX0_begin_179 : decode cX0_begin 179 = .ok (.imul, 1) := by decide +kernel
theorem dX0_begin_180 : decode cX0_begin 180 = .ok (.iadd, 1) := by decide +kernel
theorem dX0_begin_181 : decode cX0_begin 181 = .ok (.ireturn, 1) := by decide +kernel
theorem dX0_begin_182 : decode cX0_begin 182 = .ok (.aload_n 0, 1) := by decide +kernel
theorem dX0_begin_183 : decode cX0_begin 183 = .ok (.aload_n 1, 1) := by decide +kernel
theorem dX0_begin_184 : decode cX0_begin 184 = .ok (.iload_n 2, 1) := by decide +kernel
theorem dX0_begin_185 : decode cX0_begin 185 = .ok (.bipush 21, 2) := by decide +kernel
theorem dX0_begin_187 : decode cX0_begin 187 = .ok (.iload 5, 2) := by decide +kernel
theorem dX0_begin_189 : decode cX0_begin 189 = .ok (.invokevirtual 39, 3) := by decide +kernel
theorem dX0_begin_192 : decode cX0_begin 192 = .ok (.sipush 1000, 3) := by decide +kernel
theorem dX0_begin_195 : decode cX0_begin 195 = .ok (.isub, 1) := by decide +kernel
theorem dX0_begin_196 : decode cX0_begin 196 = .ok (.ireturn, 1) := by decide +kernel
theorem dX0_begin_197 : decode cX0_begin 197 = .ok (.aload_n 0, 1) := by decide +kernel
theorem dX0_begin_198 : decode cX0_begin 198 = .ok (.aload_n 1, 1) := by decide +kernel
theorem dX0_begin_199 : decode cX0_begin 199 = .ok (.iload_n 2, 1) := by decide +kernel
theorem dX0_begin_200 : decode cX0_begin 200 = .ok (.bipush 20, 2) := by decide +kernel
theorem dX0_begin_202 : decode cX0_begin 202 = .ok (.iload 5, 2) := by decide +kernel
theorem dX0_begin_204 : decode cX0_begin 204 = .ok (.invokevirtual 39, 3) := by decide +kernel
theorem dX0_begin_207 : decode cX0_begin 207 = .ok (.aload_n 0, 1) := by decide +kernel
theorem dX0_begin_208 : decode cX0_begin 208 = .ok (.aload_n 1, 1) := by decide +kernel
theorem dX0_begin_209 : decode cX0_begin 209 = .ok (.iload_n 2, 1) := by decide +kernel
theorem dX0_begin_210 : decode cX0_begin 210 = .ok (.iconst 0, 1) := by decide +kernel
theorem dX0_begin_211 : decode cX0_begin 211 = .ok (.iload 5, 2) := by decide +kernel
theorem dX0_begin_213 : decode cX0_begin 213 = .ok (.invokevirtual 50, 3) := by decide +kernel
theorem dX0_begin_216 : decode cX0_begin 216 = .ok (.isub, 1) := by decide +kernel
theorem dX0_begin_217 : decode cX0_begin 217 = .ok (.ireturn, 1) := by decide +kernel
theorem dX0_begin_218 : decode cX0_begin 218 = .ok (.iconst 2, 1) := by decide +kernel
theorem dX0_begin_219 : decode cX0_begin 219 = .ok (.aload_n 0, 1) := by decide +kernel
theorem dX0_begin_220 : decode cX0_begin 220 = .ok (.aload_n 1, 1) := by decide +kernel
theorem dX0_begin_221 : decode cX0_begin 221 = .ok (.iload_n 2, 1) := by decide +kernel
theorem dX0_begin_222 : decode cX0_begin 222 = .ok (.bipush 21, 2) := by decide +kernel
theorem dX0_begin_224 : decode cX0_begin 224 = .ok (.iload 5, 2) := by decide +kernel
theorem dX0_begin_226 : decode cX0_begin 226 = .ok (.invokevirtual 39, 3) := by decide +kernel
theorem dX0_begin_229 : decode cX0_begin 229 = .ok (.imul, 1) := by decide +kernel
theorem dX0_begin_230 : decode cX0_begin 230 = .ok (.ireturn, 1) := by decide +kernel
theorem dX0_leave_0 : decode cX0_leave 0 = .ok (.aload_n 0, 1) := by decide +kernel
theorem dX0_leave_1 : decode cX0_leave 1 = .ok (.getfield 15, 3) := by decide +kernel
theorem dX0_leave_4 : decode cX0_leave 4 = .ok (.bipush 16, 2) := by decide +kernel
theorem dX0_leave_6 : decode cX0_leave 6 = .ok (.if_icmp .ge 23, 3) := by decide +kernel
theorem dX0_leave_9 : decode cX0_leave 9 = .ok (.aload_n 0, 1) := by decide +kernel
theorem dX0_leave_10 : decode cX0_leave 10 = .ok (.getfield 9, 3) := by decide +kernel
theorem dX0_leave_13 : decode cX0_leave 13 = .ok (.aload_n 0, 1) := by decide +kernel
theorem dX0_leave_14 : decode cX0_leave 14 = .ok (.getfield 15, 3) := by decide +kernel
theorem dX0_leave_17 : decode cX0_leave 17 = .ok (.iload_n 1, 1) := by decide +kernel
theorem dX0_leave_18 : decode cX0_leave 18 = .ok (.iastore, 1) := by decide +kernel
theorem dX0_leave_19 : decode cX0_leave 19 = .ok (.aload_n 0, 1) := by decide +kernel
theorem dX0_leave_20 : decode cX0_leave 20 = .ok (.dup, 1) := by decide +kernel
theorem dX0_leave_21 : decode cX0_leave 21 = .ok (.getfield 15, 3) := by decide +kernel
theorem dX0_leave_24 : decode cX0_leave 24 = .ok (.iconst 1, 1) := by decide +kernel
theorem dX0_leave_25 : decode cX0_leave 25 = .ok (.iadd, 1) := by decide +kernel
theorem dX0_leave_26 : decode cX0_leave 26 = .ok (.putfield 15, 3) := by decide +kernel
theorem dX0_leave_29 : decode cX0_leave 29 = .ok (.return_, 1) := by decide +kernel
theorem dX1_countDrives_0 : decode cX1_countDrives 0 = .ok (.aload_n 0, 1) := by decide +kernel
theorem dX1_countDrives_1 : decode cX1_countDrives 1 = .ok (.getfield 9, 3) := by decide +kernel
theorem dX1_countDrives_4 : decode cX1_countDrives 4 = .ok (.iconst 0, 1) := by decide +kernel
theorem dX1_countDrives_5 : decode cX1_countDrives 5 = .ok (.invokestatic 19, 3) := by decide +kernel
theorem dX1_countDrives_8 : decode cX1_countDrives 8 = .ok (.iconst 0, 1) := by decide +kernel
theorem dX1_countDrives_9 : decode cX1_countDrives 9 = .ok (.istore 5, 2) := by decide +kernel
theorem dX1_countDrives_11 : decode cX1_countDrives 11 = .ok (.iload 5, 2) := by decide +kernel
theorem dX1_countDrives_13 : decode cX1_countDrives 13 = .ok (.iload_n 3, 1) := by decide +kernel
theorem dX1_countDrives_14 : decode cX1_countDrives 14 = .ok (.if_icmp .ge 43, 3) := by decide +kernel
theorem dX1_countDrives_17 : decode cX1_countDrives 17 = .ok (.aload_n 1, 1) := by decide +kernel
theorem dX1_countDrives_18 : decode cX1_countDrives 18 = .ok (.iload_n 2, 1) := by decide +kernel
theorem dX1_countDrives_19 : decode cX1_countDrives 19 = .ok (.iload 5, 2) := by decide +kernel
theorem dX1_countDrives_21 : decode cX1_countDrives 21 = .ok (.invokevirtual 25, 3) := by decide +kernel
theorem dX1_countDrives_24 : decode cX1_countDrives 24 = .ok (.istore 6, 2) := by decide +kernel
theorem dX1_countDrives_26 : decode cX1_countDrives 26 = .ok (.iload 6, 2) := by decide +kernel
theorem dX1_countDrives_28 : decode cX1_countDrives 28 = .ok (.ifCond .lt 10, 3) := by decide +kernel
theorem dX1_countDrives_31 : decode cX1_countDrives 31 = .ok (.iload 6, 2) := by decide +kernel
theorem dX1_countDrives_33 : decode cX1_countDrives 33 = .ok (.iload 4, 2) := by decide +kernel
theorem dX1_countDrives_35 : decode cX1_countDrives 35 = .ok (.if_icmp .lt 5, 3) := by decide +kernel
theorem dX1_countDrives_38 : decode cX1_countDrives 38 = .ok (.iconst 0, 1) := by decide +kernel
theorem dX1_countDrives_39 : decode cX1_countDrives 39 = .ok (.ireturn, 1) := by decide +kernel
theorem dX1_countDrives_40 : decode cX1_countDrives 40 = .ok (.aload_n 0, 1) := by decide +kernel
theorem dX1_countDrives_41 : decode cX1_countDrives 41 = .ok (.getfield 9, 3) := by decide +kernel
theorem dX1_countDrives_44 : decode cX1_countDrives 44 = .ok (.iload 6, 2) := by decide +kernel
theorem dX1_countDrives_46 : decode cX1_countDrives 46 = .ok (.dup2, 1) := by decide +kernel
theorem dX1_countDrives_47 : decode cX1_countDrives 47 = .ok (.iaload, 1) := by decide +kernel
theorem dX1_countDrives_48 : decode cX1_countDrives 48 = .ok (.iconst 1, 1) := by decide +kernel
theorem dX1_countDrives_49 : decode cX1_countDrives 49 = .ok (.iadd, 1) := by decide +kernel
theorem dX1_countDrives_50 : decode cX1_countDrives 50 = .ok (.iastore, 1) := by decide +kernel
theorem dX1_countDrives_51 : decode cX1_countDrives 51 = .ok (.iinc 5 1, 3) := by decide +kernel
theorem dX1_countDrives_54 : decode cX1_countDrives 54 = .ok (.goto (-43), 3) := by decide +kernel
theorem dX1_countDrives_57 : decode cX1_countDrives 57 = .ok (.iconst 1, 1) := by decide +kernel
theorem dX1_countDrives_58 : decode cX1_countDrives 58 = .ok (.ireturn, 1) := by decide +kernel
theorem dX1_countSitters_0 : decode cX1_countSitters 0 = .ok (.aload_n 0, 1) := by decide +kernel
theorem dX1_countSitters_1 : decode cX1_countSitters 1 = .ok (.getfield 9, 3) := by decide +kernel
theorem dX1_countSitters_4 : decode cX1_countSitters 4 = .ok (.iconst 0, 1) := by decide +kernel
theorem dX1_countSitters_5 : decode cX1_countSitters 5 = .ok (.invokestatic 19, 3) := by decide +kernel
theorem dX1_countSitters_8 : decode cX1_countSitters 8 = .ok (.iconst 1, 1) := by decide +kernel
theorem dX1_countSitters_9 : decode cX1_countSitters 9 = .ok (.iload 4, 2) := by decide +kernel
theorem dX1_countSitters_11 : decode cX1_countSitters 11 = .ok (.ishl, 1) := by decide +kernel
theorem dX1_countSitters_12 : decode cX1_countSitters 12 = .ok (.iconst 1, 1) := by decide +kernel
theorem dX1_countSitters_13 : decode cX1_countSitters 13 = .ok (.isub, 1) := by decide +kernel
theorem dX1_countSitters_14 : decode cX1_countSitters 14 = .ok (.istore 5, 2) := by decide +kernel
theorem dX1_countSitters_16 : decode cX1_countSitters 16 = .ok (.aload_n 0, 1) := by decide +kernel
theorem dX1_countSitters_17 : decode cX1_countSitters 17 = .ok (.iload 5, 2) := by decide +kernel
theorem dX1_countSitters_19 : decode cX1_countSitters 19 = .ok (.putfield 15, 3) := by decide +kernel
theorem dX1_countSitters_22 : decode cX1_countSitters 22 = .ok (.iconst 0, 1) := by decide +kernel
theorem dX1_countSitters_23 : decode cX1_countSitters 23 = .ok (.istore 6, 2) := by decide +kernel
theorem dX1_countSitters_25 : decode cX1_countSitters 25 = .ok (.iload 6, 2) := by decide +kernel
theorem dX1_countSitters_27 : decode cX1_countSitters 27 = .ok (.iload_n 3, 1) := by decide +kernel
theorem dX1_countSitters_28 : decode cX1_countSitters 28 = .ok (.if_icmp .ge 74, 3) := by decide +kernel
theorem dX1_countSitters_31 : decode cX1_countSitters 31 = .ok (.aload_n 1, 1) := by decide +kernel
theorem dX1_countSitters_32 : decode cX1_countSitters 32 = .ok (.iload_n 2, 1) := by decide +kernel
theorem dX1_countSitters_33 : decode cX1_countSitters 33 = .ok (.iload 6, 2) := by decide +kernel
theorem dX1_countSitters_35 : decode cX1_countSitters 35 = .ok (.invokevirtual 25, 3) := by decide +kernel
theorem dX1_countSitters_38 : decode cX1_countSitters 38 = .ok (.istore 7, 2) := by decide +kernel
theorem dX1_countSitters_40 : decode cX1_countSitters 40 = .ok (.iload 7, 2) := by decide +kernel
theorem dX1_countSitters_42 : decode cX1_countSitters 42 = .ok (.iload 5, 2) := by decide +kernel
theorem dX1_countSitters_44 : decode cX1_countSitters 44 = .ok (.iconst (-1), 1) := by decide +kernel
theorem dX1_countSitters_45 : decode cX1_countSitters 45 = .ok (.ixor, 1) := by decide +kernel
theorem dX1_countSitters_46 : decode cX1_countSitters 46 = .ok (.iand, 1) := by decide +kernel
theorem dX1_countSitters_47 : decode cX1_countSitters 47 = .ok (.ifCond .eq 5, 3) := by decide +kernel
theorem dX1_countSitters_50 : decode cX1_countSitters 50 = .ok (.iconst 0, 1) := by decide +kernel
theorem dX1_countSitters_51 : decode cX1_countSitters 51 = .ok (.ireturn, 1) := by decide +kernel
theorem dX1_countSitters_52 : decode cX1_countSitters 52 = .ok (.aload_n 0, 1) := by decide +kernel
theorem dX1_countSitters_53 : decode cX1_countSitters 53 = .ok (.dup, 1) := by decide +kernel
theorem dX1_countSitters_54 : decode cX1_countSitters 54 = .ok (.getfield 15, 3) := by decide +kernel
theorem dX1_countSitters_57 : decode cX1_countSitters 57 = .ok (.iload 7, 2) := by decide +kernel
theorem dX1_countSitters_59 : decode cX1_countSitters 59 = .ok (.iand, 1) := by decide +kernel
theorem dX1_countSitters_60 : decode cX1_countSitters 60 = .ok (.putfield 15, 3) := by decide +kernel
theorem dX1_countSitters_63 : decode cX1_countSitters 63 = .ok (.iconst 0, 1) := by decide +kernel
theorem dX1_countSitters_64 : decode cX1_countSitters 64 = .ok (.istore 8, 2) := by decide +kernel
theorem dX1_countSitters_66 : decode cX1_countSitters 66 = .ok (.iload 8, 2) := by decide +kernel
theorem dX1_countSitters_68 : decode cX1_countSitters 68 = .ok (.iload 4, 2) := by decide +kernel
theorem dX1_countSitters_70 : decode cX1_countSitters 70 = .ok (.if_icmp .ge 26, 3) := by decide +kernel
theorem dX1_countSitters_73 : decode cX1_countSitters 73 = .ok (.aload_n 0, 1) := by decide +kernel
theorem dX1_countSitters_74 : decode cX1_countSitters 74 = .ok (.getfield 9, 3) := by decide +kernel
theorem dX1_countSitters_77 : decode cX1_countSitters 77 = .ok (.iload 8, 2) := by decide +kernel
theorem dX1_countSitters_79 : decode cX1_countSitters 79 = .ok (.dup2, 1) := by decide +kernel
theorem dX1_countSitters_80 : decode cX1_countSitters 80 = .ok (.iaload, 1) := by decide +kernel
theorem dX1_countSitters_81 : decode cX1_countSitters 81 = .ok (.iload 7, 2) := by decide +kernel
theorem dX1_countSitters_83 : decode cX1_countSitters 83 = .ok (.iload 8, 2) := by decide +kernel
theorem dX1_countSitters_85 : decode cX1_countSitters 85 = .ok (.ishr, 1) := by decide +kernel
theorem dX1_countSitters_86 : decode cX1_countSitters 86 = .ok (.iconst 1, 1) := by decide +kernel
theorem dX1_countSitters_87 : decode cX1_countSitters 87 = .ok (.iand, 1) := by decide +kernel
theorem dX1_countSitters_88 : decode cX1_countSitters 88 = .ok (.iadd, 1) := by decide +kernel
theorem dX1_countSitters_89 : decode cX1_countSitters 89 = .ok (.iastore, 1) := by decide +kernel
theorem dX1_countSitters_90 : decode cX1_countSitters 90 = .ok (.iinc 8 1, 3) := by decide +kernel
theorem dX1_countSitters_93 : decode cX1_countSitters 93 = .ok (.goto (-27), 3) := by decide +kernel
theorem dX1_countSitters_96 : decode cX1_countSitters 96 = .ok (.iinc 6 1, 3) := by decide +kernel
theorem dX1_countSitters_99 : decode cX1_countSitters 99 = .ok (.goto (-74), 3) := by decide +kernel
theorem dX1_countSitters_102 : decode cX1_countSitters 102 = .ok (.iconst 1, 1) := by decide +kernel
theorem dX1_countSitters_103 : decode cX1_countSitters 103 = .ok (.ireturn, 1) := by decide +kernel
theorem dX1_firstOfFewest_0 : decode cX1_firstOfFewest 0 = .ok (.iconst 0, 1) := by decide +kernel
theorem dX1_firstOfFewest_1 : decode cX1_firstOfFewest 1 = .ok (.istore_n 2, 1) := by decide +kernel
theorem dX1_firstOfFewest_2 : decode cX1_firstOfFewest 2 = .ok (.iconst 1, 1) := by decide +kernel
theorem dX1_firstOfFewest_3 : decode cX1_firstOfFewest 3 = .ok (.istore_n 3, 1) := by decide +kernel
theorem dX1_firstOfFewest_4 : decode cX1_firstOfFewest 4 = .ok (.iload_n 3, 1) := by decide +kernel
theorem dX1_firstOfFewest_5 : decode cX1_firstOfFewest 5 = .ok (.iload_n 1, 1) := by decide +kernel
theorem dX1_firstOfFewest_6 : decode cX1_firstOfFewest 6 = .ok (.if_icmp .ge 26, 3) := by decide +kernel
theorem dX1_firstOfFewest_9 : decode cX1_firstOfFewest 9 = .ok (.aload_n 0, 1) := by decide +kernel
theorem dX1_firstOfFewest_10 : decode cX1_firstOfFewest 10 = .ok (.getfield 9, 3) := by decide +kernel
theorem dX1_firstOfFewest_13 : decode cX1_firstOfFewest 13 = .ok (.iload_n 3, 1) := by decide +kernel
theorem dX1_firstOfFewest_14 : decode cX1_firstOfFewest 14 = .ok (.iaload, 1) := by decide +kernel
theorem dX1_firstOfFewest_15 : decode cX1_firstOfFewest 15 = .ok (.aload_n 0, 1) := by decide +kernel
theorem dX1_firstOfFewest_16 : decode cX1_firstOfFewest 16 = .ok (.getfield 9, 3) := by decide +kernel
theorem dX1_firstOfFewest_19 : decode cX1_firstOfFewest 19 = .ok (.iload_n 2, 1) := by decide +kernel
theorem dX1_firstOfFewest_20 : decode cX1_firstOfFewest 20 = .ok (.iaload, 1) := by decide +kernel
theorem dX1_firstOfFewest_21 : decode cX1_firstOfFewest 21 = .ok (.if_icmp .ge 5, 3) := by decide +kernel
theorem dX1_firstOfFewest_24 : decode cX1_firstOfFewest 24 = .ok (.iload_n 3, 1) := by decide +kernel
theorem dX1_firstOfFewest_25 : decode cX1_firstOfFewest 25 = .ok (.istore_n 2, 1) := by decide +kernel
theorem dX1_firstOfFewest_26 : decode cX1_firstOfFewest 26 = .ok (.iinc 3 1, 3) := by decide +kernel
theorem dX1_firstOfFewest_29 : decode cX1_firstOfFewest 29 = .ok (.goto (-25), 3) := by decide +kernel
theorem dX1_firstOfFewest_32 : decode cX1_firstOfFewest 32 = .ok (.iload_n 2, 1) := by decide +kernel
theorem dX1_firstOfFewest_33 : decode cX1_firstOfFewest 33 = .ok (.ireturn, 1) := by decide +kernel
theorem dX1_firstOfMost_0 : decode cX1_firstOfMost 0 = .ok (.iconst 0, 1) := by decide +kernel
theorem dX1_firstOfMost_1 : decode cX1_firstOfMost 1 = .ok (.istore_n 2, 1) := by decide +kernel
theorem dX1_firstOfMost_2 : decode cX1_firstOfMost 2 = .ok (.iconst 1, 1) := by decide +kernel
theorem dX1_firstOfMost_3 : decode cX1_firstOfMost 3 = .ok (.istore_n 3, 1) := by decide +kernel
theorem dX1_firstOfMost_4 : decode cX1_firstOfMost 4 = .ok (.iload_n 3, 1) := by decide +kernel
theorem dX1_firstOfMost_5 : decode cX1_firstOfMost 5 = .ok (.iload_n 1, 1) := by decide +kernel
theorem dX1_firstOfMost_6 : decode cX1_firstOfMost 6 = .ok (.if_icmp .ge 26, 3) := by decide +kernel
theorem dX1_firstOfMost_9 : decode cX1_firstOfMost 9 = .ok (.aload_n 0, 1) := by decide +kernel
theorem dX1_firstOfMost_10 : decode cX1_firstOfMost 10 = .ok (.getfield 9, 3) := by decide +kernel
theorem dX1_firstOfMost_13 : decode cX1_firstOfMost 13 = .ok (.iload_n 3, 1) := by decide +kernel
theorem dX1_firstOfMost_14 : decode cX1_firstOfMost 14 = .ok (.iaload, 1) := by decide +kernel
theorem dX1_firstOfMost_15 : decode cX1_firstOfMost 15 = .ok (.aload_n 0, 1) := by decide +kernel
theorem dX1_firstOfMost_16 : decode cX1_firstOfMost 16 = .ok (.getfield 9, 3) := by decide +kernel
theorem dX1_firstOfMost_19 : decode cX1_firstOfMost 19 = .ok (.iload_n 2, 1) := by decide +kernel
theorem dX1_firstOfMost_20 : decode cX1_firstOfMost 20 = .ok (.iaload, 1) := by decide +kernel
theorem dX1_firstOfMost_21 : decode cX1_firstOfMost 21 = .ok (.if_icmp .le 5, 3) := by decide +kernel
theorem dX1_firstOfMost_24 : decode cX1_firstOfMost 24 = .ok (.iload_n 3, 1) := by decide +kernel
theorem dX1_firstOfMost_25 : decode cX1_firstOfMost 25 = .ok (.istore_n 2, 1) := by decide +kernel
theorem dX1_firstOfMost_26 : decode cX1_firstOfMost 26 = .ok (.iinc 3 1, 3) := by decide +kernel
theorem dX1_firstOfMost_29 : decode cX1_firstOfMost 29 = .ok (.goto (-25), 3) := by decide +kernel
theorem dX1_firstOfMost_32 : decode cX1_firstOfMost 32 = .ok (.iload_n 2, 1) := by decide +kernel
theorem dX1_firstOfMost_33 : decode cX1_firstOfMost 33 = .ok (.ireturn, 1) := by decide +kernel
theorem dX1_missingDrives_0 : decode cX1_missingDrives 0 = .ok (.aload_n 0, 1) := by decide +kernel
theorem dX1_missingDrives_1 : decode cX1_missingDrives 1 = .ok (.getfield 9, 3) := by decide +kernel
theorem dX1_missingDrives_4 : decode cX1_missingDrives 4 = .ok (.aload_n 0, 1) := by decide +kernel
theorem dX1_missingDrives_5 : decode cX1_missingDrives 5 = .ok (.iload_n 1, 1) := by decide +kernel
theorem dX1_missingDrives_6 : decode cX1_missingDrives 6 = .ok (.invokevirtual 31, 3) := by decide +kernel
theorem dX1_missingDrives_9 : decode cX1_missingDrives 9 = .ok (.iaload, 1) := by decide +kernel
theorem dX1_missingDrives_10 : decode cX1_missingDrives 10 = .ok (.istore_n 2, 1) := by decide +kernel
theorem dX1_missingDrives_11 : decode cX1_missingDrives 11 = .ok (.iconst 0, 1) := by decide +kernel
theorem dX1_missingDrives_12 : decode cX1_missingDrives 12 = .ok (.istore_n 3, 1) := by decide +kernel
theorem dX1_missingDrives_13 : decode cX1_missingDrives 13 = .ok (.iconst 0, 1) := by decide +kernel
theorem dX1_missingDrives_14 : decode cX1_missingDrives 14 = .ok (.istore 4, 2) := by decide +kernel
theorem dX1_missingDrives_16 : decode cX1_missingDrives 16 = .ok (.iload 4, 2) := by decide +kernel
theorem dX1_missingDrives_18 : decode cX1_missingDrives 18 = .ok (.iload_n 1, 1) := by decide +kernel
theorem dX1_missingDrives_19 : decode cX1_missingDrives 19 = .ok (.if_icmp .ge 21, 3) := by decide +kernel
theorem dX1_missingDrives_22 : decode cX1_missingDrives 22 = .ok (.iload_n 3, 1) := by decide +kernel
theorem dX1_missingDrives_23 : decode cX1_missingDrives 23 = .ok (.iload_n 2, 1) := by decide +kernel
theorem dX1_missingDrives_24 : decode cX1_missingDrives 24 = .ok (.aload_n 0, 1) := by decide +kernel
theorem dX1_missingDrives_25 : decode cX1_missingDrives 25 = .ok (.getfield 9, 3) := by decide +kernel
theorem dX1_missingDrives_28 : decode cX1_missingDrives 28 = .ok (.iload 4, 2) := by decide +kernel
theorem dX1_missingDrives_30 : decode cX1_missingDrives 30 = .ok (.iaload, 1) := by decide +kernel
theorem dX1_missingDrives_31 : decode cX1_missingDrives 31 = .ok (.isub, 1) := by decide +kernel
theorem dX1_missingDrives_32 : decode cX1_missingDrives 32 = .ok (.iadd, 1) := by decide +kernel
theorem dX1_missingDrives_33 : decode cX1_missingDrives 33 = .ok (.istore_n 3, 1) := by decide +kernel
theorem dX1_missingDrives_34 : decode cX1_missingDrives 34 = .ok (.iinc 4 1, 3) := by decide +kernel
theorem dX1_missingDrives_37 : decode cX1_missingDrives 37 = .ok (.goto (-21), 3) := by decide +kernel
theorem dX1_missingDrives_40 : decode cX1_missingDrives 40 = .ok (.iload_n 3, 1) := by decide +kernel
theorem dX1_missingDrives_41 : decode cX1_missingDrives 41 = .ok (.ireturn, 1) := by decide +kernel
theorem dX2_forget_0 : decode cX2_forget 0 = .ok (.aload_n 0, 1) := by decide +kernel
theorem dX2_forget_1 : decode cX2_forget 1 = .ok (.iconst 0, 1) := by decide +kernel
theorem dX2_forget_2 : decode cX2_forget 2 = .ok (.putfield 18, 3) := by decide +kernel
theorem dX2_forget_5 : decode cX2_forget 5 = .ok (.return_, 1) := by decide +kernel
theorem dX2_keep_0 : decode cX2_keep 0 = .ok (.aload_n 0, 1) := by decide +kernel
theorem dX2_keep_1 : decode cX2_keep 1 = .ok (.getfield 18, 3) := by decide +kernel
theorem dX2_keep_4 : decode cX2_keep 4 = .ok (.bipush 24, 2) := by decide +kernel
theorem dX2_keep_6 : decode cX2_keep 6 = .ok (.if_icmp .ne 43, 3) := by decide +kernel
theorem dX2_keep_9 : decode cX2_keep 9 = .ok (.aload_n 0, 1) := by decide +kernel
theorem dX2_keep_10 : decode cX2_keep 10 = .ok (.getfield 9, 3) := by decide +kernel
theorem dX2_keep_13 : decode cX2_keep 13 = .ok (.iconst 1, 1) := by decide +kernel
theorem dX2_keep_14 : decode cX2_keep 14 = .ok (.aload_n 0, 1) := by decide +kernel
theorem dX2_keep_15 : decode cX2_keep 15 = .ok (.getfield 9, 3) := by decide +kernel
theorem dX2_keep_18 : decode cX2_keep 18 = .ok (.iconst 0, 1) := by decide +kernel
theorem dX2_keep_19 : decode cX2_keep 19 = .ok (.bipush 23, 2) := by decide +kernel
theorem dX2_keep_21 : decode cX2_keep 21 = .ok (.invokestatic 22, 3) := by decide +kernel
theorem dX2_keep_24 : decode cX2_keep 24 = .ok (.aload_n 0, 1) := by decide +kernel
theorem dX2_keep_25 : decode cX2_keep 25 = .ok (.getfield 15, 3) := by decide +kernel
theorem dX2_keep_28 : decode cX2_keep 28 = .ok (.iconst 1, 1) := by decide +kernel
theorem dX2_keep_29 : decode cX2_keep 29 = .ok (.aload_n 0, 1) := by decide +kernel
theorem dX2_keep_30 : decode cX2_keep 30 = .ok (.getfield 15, 3) := by decide +kernel
theorem dX2_keep_33 : decode cX2_keep 33 = .ok (.iconst 0, 1) := by decide +kernel
theorem dX2_keep_34 : decode cX2_keep 34 = .ok (.bipush 23, 2) := by decide +kernel
theorem dX2_keep_36 : decode cX2_keep 36 = .ok (.invokestatic 22, 3) := by decide +kernel
theorem dX2_keep_39 : decode cX2_keep 39 = .ok (.aload_n 0, 1) := by decide +kernel
theorem dX2_keep_40 : decode cX2_keep 40 = .ok (.dup, 1) := by decide +kernel
theorem dX2_keep_41 : decode cX2_keep 41 = .ok (.getfield 18, 3) := by decide +kernel
theorem dX2_keep_44 : decode cX2_keep 44 = .ok (.iconst 1, 1) := by decide +kernel
theorem dX2_keep_45 : decode cX2_keep 45 = .ok (.isub, 1) := by decide +kernel
theorem dX2_keep_46 : decode cX2_keep 46 = .ok (.putfield 18, 3) := by decide +kernel
theorem dX2_keep_49 : decode cX2_keep 49 = .ok (.aload_n 0, 1) := by decide +kernel
theorem dX2_keep_50 : decode cX2_keep 50 = .ok (.getfield 9, 3) := by decide +kernel
theorem dX2_keep_53 : decode cX2_keep 53 = .ok (.aload_n 0, 1) := by decide +kernel
theorem dX2_keep_54 : decode cX2_keep 54 = .ok (.getfield 18, 3) := by decide +kernel
theorem dX2_keep_57 : decode cX2_keep 57 = .ok (.iload_n 1, 1) := by decide +kernel
theorem dX2_keep_58 : decode cX2_keep 58 = .ok (.iastore, 1) := by decide +kernel
theorem dX2_keep_59 : decode cX2_keep 59 = .ok (.aload_n 0, 1) := by decide +kernel
theorem dX2_keep_60 : decode cX2_keep 60 = .ok (.getfield 15, 3) := by decide +kernel
theorem dX2_keep_63 : decode cX2_keep 63 = .ok (.aload_n 0, 1) := by decide +kernel
theorem dX2_keep_64 : decode cX2_keep 64 = .ok (.getfield 18, 3) := by decide +kernel
theorem dX2_keep_67 : decode cX2_keep 67 = .ok (.iload_n 2, 1) := by decide +kernel
theorem dX2_keep_68 : decode cX2_keep 68 = .ok (.iastore, 1) := by decide +kernel
theorem dX2_keep_69 : decode cX2_keep 69 = .ok (.aload_n 0, 1) := by decide +kernel
theorem dX2_keep_70 : decode cX2_keep 70 = .ok (.dup, 1) := by decide +kernel
theorem dX2_keep_71 : decode cX2_keep 71 = .ok (.getfield 18, 3) := by decide +kernel
theorem dX2_keep_74 : decode cX2_keep 74 = .ok (.iconst 1, 1) := by decide +kernel
theorem dX2_keep_75 : decode cX2_keep 75 = .ok (.iadd, 1) := by decide +kernel
theorem dX2_keep_76 : decode cX2_keep 76 = .ok (.putfield 18, 3) := by decide +kernel
theorem dX2_keep_79 : decode cX2_keep 79 = .ok (.return_, 1) := by decide +kernel
theorem dX2_takeBack_0 : decode cX2_takeBack 0 = .ok (.aload_n 0, 1) := by decide +kernel
theorem dX2_takeBack_1 : decode cX2_takeBack 1 = .ok (.getfield 18, 3) := by decide +kernel
theorem dX2_takeBack_4 : decode cX2_takeBack 4 = .ok (.ifCond .le 39, 3) := by decide +kernel
theorem dX2_takeBack_7 : decode cX2_takeBack 7 = .ok (.aload_n 0, 1) := by decide +kernel
theorem dX2_takeBack_8 : decode cX2_takeBack 8 = .ok (.dup, 1) := by decide +kernel
theorem dX2_takeBack_9 : decode cX2_takeBack 9 = .ok (.getfield 18, 3) := by decide +kernel
theorem dX2_takeBack_12 : decode cX2_takeBack 12 = .ok (.iconst 1, 1) := by decide +kernel
theorem dX2_takeBack_13 : decode cX2_takeBack 13 = .ok (.isub, 1) := by decide +kernel
theorem dX2_takeBack_14 : decode cX2_takeBack 14 = .ok (.putfield 18, 3) := by decide +kernel
theorem dX2_takeBack_17 : decode cX2_takeBack 17 = .ok (.aload_n 1, 1) := by decide +kernel
theorem dX2_takeBack_18 : decode cX2_takeBack 18 = .ok (.getfield 28, 3) := by decide +kernel
theorem dX2_takeBack_21 : decode cX2_takeBack 21 = .ok (.aload_n 0, 1) := by decide +kernel
theorem dX2_takeBack_22 : decode cX2_takeBack 22 = .ok (.getfield 9, 3) := by decide +kernel
theorem dX2_takeBack_25 : decode cX2_takeBack 25 = .ok (.aload_n 0, 1) := by decide +kernel
theorem dX2_takeBack_26 : decode cX2_takeBack 26 = .ok (.getfield 18, 3) := by decide +kernel
theorem dX2_takeBack_29 : decode cX2_takeBack 29 = .ok (.iaload, 1) := by decide +kernel
theorem dX2_takeBack_30 : decode cX2_takeBack 30 = .ok (.dup2, 1) := by decide +kernel
theorem dX2_takeBack_31 : decode cX2_takeBack 31 = .ok (.iaload, 1) := by decide +kernel
theorem dX2_takeBack_32 : decode cX2_takeBack 32 = .ok (.aload_n 0, 1) := by decide +kernel
theorem dX2_takeBack_33 : decode cX2_takeBack 33 = .ok (.getfield 15, 3) := by decide +kernel
theorem dX2_takeBack_36 : decode cX2_takeBack 36 = .ok (.aload_n 0, 1) := by decide +kernel
theorem dX2_takeBack_37 : decode cX2_takeBack 37 = .ok (.getfield 18, 3) := by decide +kernel
theorem dX2_takeBack_40 : decode cX2_takeBack 40 = .ok (.iaload, 1) := by decide +kernel
theorem dX2_takeBack_41 : decode cX2_takeBack 41 = .ok (.isub, 1) := by decide +kernel
theorem dX2_takeBack_42 : decode cX2_takeBack 42 = .ok (.iastore, 1) := by decide +kernel
theorem dX2_takeBack_43 : decode cX2_takeBack 43 = .ok (.return_, 1) := by decide +kernel
theorem dX3_clear_0 : decode cX3_clear 0 = .ok (.aload_n 0, 1) := by decide +kernel
theorem dX3_clear_1 : decode cX3_clear 1 = .ok (.iconst 0, 1) := by decide +kernel
theorem dX3_clear_2 : decode cX3_clear 2 = .ok (.putfield 9, 3) := by decide +kernel
theorem dX3_clear_5 : decode cX3_clear 5 = .ok (.aload_n 0, 1) := by decide +kernel
theorem dX3_clear_6 : decode cX3_clear 6 = .ok (.iconst 0, 1) := by decide +kernel
theorem dX3_clear_7 : decode cX3_clear 7 = .ok (.putfield 40, 3) := by decide +kernel
theorem dX3_clear_10 : decode cX3_clear 10 = .ok (.aload_n 0, 1) := by decide +kernel
theorem dX3_clear_11 : decode cX3_clear 11 = .ok (.iconst 0, 1) := by decide +kernel
theorem dX3_clear_12 : decode cX3_clear 12 = .ok (.putfield 44, 3) := by decide +kernel
theorem dX3_clear_15 : decode cX3_clear 15 = .ok (.aload_n 0, 1) := by decide +kernel
theorem dX3_clear_16 : decode cX3_clear 16 = .ok (.iconst 0, 1) := by decide +kernel
theorem dX3_clear_17 : decode cX3_clear 17 = .ok (.putfield 47, 3) := by decide +kernel
theorem dX3_clear_20 : decode cX3_clear 20 = .ok (.aload_n 0, 1) := by decide +kernel
theorem dX3_clear_21 : decode cX3_clear 21 = .ok (.iconst 0, 1) := by decide +kernel
theorem dX3_clear_22 : decode cX3_clear 22 = .ok (.putfield 50, 3) := by decide +kernel
theorem dX3_clear_25 : decode cX3_clear 25 = .ok (.aload_n 0, 1) := by decide +kernel
theorem dX3_clear_26 : decode cX3_clear 26 = .ok (.iconst 0, 1) := by decide +kernel
theorem dX3_clear_27 : decode cX3_clear 27 = .ok (.putfield 53, 3) := by decide +kernel
theorem dX3_clear_30 : decode cX3_clear 30 = .ok (.aload_n 0, 1) := by decide +kernel
theorem dX3_clear_31 : decode cX3_clear 31 = .ok (.iconst 0, 1) := by decide +kernel
theorem dX3_clear_32 : decode cX3_clear 32 = .ok (.putfield 56, 3) := by decide +kernel
theorem dX3_clear_35 : decode cX3_clear 35 = .ok (.aload_n 0, 1) := by decide +kernel
theorem dX3_clear_36 : decode cX3_clear 36 = .ok (.iconst 0, 1) := by decide +kernel
theorem dX3_clear_37 : decode cX3_clear 37 = .ok (.putfield 59, 3) := by decide +kernel
theorem dX3_clear_40 : decode cX3_clear 40 = .ok (.aload_n 0, 1) := by decide +kernel
theorem dX3_clear_41 : decode cX3_clear 41 = .ok (.getfield 15, 3) := by decide +kernel
theorem dX3_clear_44 : decode cX3_clear 44 = .ok (.ldc 62, 2) := by decide +kernel
theorem dX3_clear_46 : decode cX3_clear 46 = .ok (.invokestatic 63, 3) := by decide +kernel
theorem dX3_clear_49 : decode cX3_clear 49 = .ok (.iconst 0, 1) := by decide +kernel
theorem dX3_clear_50 : decode cX3_clear 50 = .ok (.istore_n 1, 1) := by decide +kernel
theorem dX3_clear_51 : decode cX3_clear 51 = .ok (.iload_n 1, 1) := by decide +kernel
theorem dX3_clear_52 : decode cX3_clear 52 = .ok (.bipush 8, 2) := by decide +kernel
theorem dX3_clear_54 : decode cX3_clear 54 = .ok (.if_icmp .ge 21, 3) := by decide +kernel
theorem dX3_clear_57 : decode cX3_clear 57 = .ok (.aload_n 0, 1) := by decide +kernel
theorem dX3_clear_58 : decode cX3_clear 58 = .ok (.getfield 15, 3) := by decide +kernel
theorem dX3_clear_61 : decode cX3_clear 61 = .ok (.iload_n 1, 1) := by decide +kernel
theorem dX3_clear_62 : decode cX3_clear 62 = .ok (.bipush 8, 2) := by decide +kernel
theorem dX3_clear_64 : decode cX3_clear 64 = .ok (.imul, 1) := by decide +kernel
theorem dX3_clear_65 : decode cX3_clear 65 = .ok (.iload_n 1, 1) := by decide +kernel
theorem dX3_clear_66 : decode cX3_clear 66 = .ok (.iadd, 1) := by decide +kernel
theorem dX3_clear_67 : decode cX3_clear 67 = .ok (.iconst 0, 1) := by decide +kernel
theorem dX3_clear_68 : decode cX3_clear 68 = .ok (.iastore, 1) := by decide +kernel
theorem dX3_clear_69 : decode cX3_clear 69 = .ok (.iinc 1 1, 3) := by decide +kernel
theorem dX3_clear_72 : decode cX3_clear 72 = .ok (.goto (-21), 3) := by decide +kernel
theorem dX3_clear_75 : decode cX3_clear 75 = .ok (.aload_n 0, 1) := by decide +kernel
theorem dX3_clear_76 : decode cX3_clear 76 = .ok (.getfield 28, 3) := by decide +kernel
theorem dX3_clear_79 : decode cX3_clear 79 = .ok (.iconst 0, 1) := by decide +kernel
theorem dX3_clear_80 : decode cX3_clear 80 = .ok (.invokestatic 63, 3) := by decide +kernel
theorem dX3_clear_83 : decode cX3_clear 83 = .ok (.return_, 1) := by decide +kernel
theorem dX3_takeFrom_0 : decode cX3_takeFrom 0 = .ok (.aload_n 0, 1) := by decide +kernel
theorem dX3_takeFrom_1 : decode cX3_takeFrom 1 = .ok (.aload_n 1, 1) := by decide +kernel
theorem dX3_takeFrom_2 : decode cX3_takeFrom 2 = .ok (.getfield 9, 3) := by decide +kernel
theorem dX3_takeFrom_5 : decode cX3_takeFrom 5 = .ok (.putfield 9, 3) := by decide +kernel
theorem dX3_takeFrom_8 : decode cX3_takeFrom 8 = .ok (.aload_n 0, 1) := by decide +kernel
theorem dX3_takeFrom_9 : decode cX3_takeFrom 9 = .ok (.aload_n 1, 1) := by decide +kernel
theorem dX3_takeFrom_10 : decode cX3_takeFrom 10 = .ok (.getfield 69, 3) := by decide +kernel
theorem dX3_takeFrom_13 : decode cX3_takeFrom 13 = .ok (.putfield 69, 3) := by decide +kernel
theorem dX3_takeFrom_16 : decode cX3_takeFrom 16 = .ok (.aload_n 0, 1) := by decide +kernel
theorem dX3_takeFrom_17 : decode cX3_takeFrom 17 = .ok (.aload_n 1, 1) := by decide +kernel
theorem dX3_takeFrom_18 : decode cX3_takeFrom 18 = .ok (.getfield 72, 3) := by decide +kernel
theorem dX3_takeFrom_21 : decode cX3_takeFrom 21 = .ok (.putfield 72, 3) := by decide +kernel
theorem dX3_takeFrom_24 : decode cX3_takeFrom 24 = .ok (.aload_n 0, 1) := by decide +kernel
theorem dX3_takeFrom_25 : decode cX3_takeFrom 25 = .ok (.aload_n 1, 1) := by decide +kernel
theorem dX3_takeFrom_26 : decode cX3_takeFrom 26 = .ok (.getfield 40, 3) := by decide +kernel
theorem dX3_takeFrom_29 : decode cX3_takeFrom 29 = .ok (.putfield 40, 3) := by decide +kernel
theorem dX3_takeFrom_32 : decode cX3_takeFrom 32 = .ok (.aload_n 0, 1) := by decide +kernel
theorem dX3_takeFrom_33 : decode cX3_takeFrom 33 = .ok (.aload_n 1, 1) := by decide +kernel
theorem dX3_takeFrom_34 : decode cX3_takeFrom 34 = .ok (.getfield 44, 3) := by decide +kernel
theorem dX3_takeFrom_37 : decode cX3_takeFrom 37 = .ok (.putfield 44, 3) := by decide +kernel
theorem dX3_takeFrom_40 : decode cX3_takeFrom 40 = .ok (.aload_n 0, 1) := by decide +kernel
theorem dX3_takeFrom_41 : decode cX3_takeFrom 41 = .ok (.aload_n 1, 1) := by decide +kernel
theorem dX3_takeFrom_42 : decode cX3_takeFrom 42 = .ok (.getfield 47, 3) := by decide +kernel
theorem dX3_takeFrom_45 : decode cX3_takeFrom 45 = .ok (.putfield 47, 3) := by decide +kernel
theorem dX3_takeFrom_48 : decode cX3_takeFrom 48 = .ok (.aload_n 0, 1) := by decide +kernel
theorem dX3_takeFrom_49 : decode cX3_takeFrom 49 = .ok (.aload_n 1, 1) := by decide +kernel
theorem dX3_takeFrom_50 : decode cX3_takeFrom 50 = .ok (.getfield 50, 3) := by decide +kernel
theorem dX3_takeFrom_53 : decode cX3_takeFrom 53 = .ok (.putfield 50, 3) := by decide +kernel
theorem dX3_takeFrom_56 : decode cX3_takeFrom 56 = .ok (.aload_n 0, 1) := by decide +kernel
theorem dX3_takeFrom_57 : decode cX3_takeFrom 57 = .ok (.aload_n 1, 1) := by decide +kernel
theorem dX3_takeFrom_58 : decode cX3_takeFrom 58 = .ok (.getfield 53, 3) := by decide +kernel
theorem dX3_takeFrom_61 : decode cX3_takeFrom 61 = .ok (.putfield 53, 3) := by decide +kernel
theorem dX3_takeFrom_64 : decode cX3_takeFrom 64 = .ok (.aload_n 0, 1) := by decide +kernel
theorem dX3_takeFrom_65 : decode cX3_takeFrom 65 = .ok (.aload_n 1, 1) := by decide +kernel
theorem dX3_takeFrom_66 : decode cX3_takeFrom 66 = .ok (.getfield 56, 3) := by decide +kernel
theorem dX3_takeFrom_69 : decode cX3_takeFrom 69 = .ok (.putfield 56, 3) := by decide +kernel
theorem dX3_takeFrom_72 : decode cX3_takeFrom 72 = .ok (.aload_n 0, 1) := by decide +kernel
theorem dX3_takeFrom_73 : decode cX3_takeFrom 73 = .ok (.aload_n 1, 1) := by decide +kernel
theorem dX3_takeFrom_74 : decode cX3_takeFrom 74 = .ok (.getfield 59, 3) := by decide +kernel
theorem dX3_takeFrom_77 : decode cX3_takeFrom 77 = .ok (.putfield 59, 3) := by decide +kernel
theorem dX3_takeFrom_80 : decode cX3_takeFrom 80 = .ok (.aload_n 1, 1) := by decide +kernel
theorem dX3_takeFrom_81 : decode cX3_takeFrom 81 = .ok (.getfield 15, 3) := by decide +kernel
theorem dX3_takeFrom_84 : decode cX3_takeFrom 84 = .ok (.iconst 0, 1) := by decide +kernel
theorem dX3_takeFrom_85 : decode cX3_takeFrom 85 = .ok (.aload_n 0, 1) := by decide +kernel
theorem dX3_takeFrom_86 : decode cX3_takeFrom 86 = .ok (.getfield 15, 3) := by decide +kernel
theorem dX3_takeFrom_89 : decode cX3_takeFrom 89 = .ok (.iconst 0, 1) := by decide +kernel
theorem dX3_takeFrom_90 : decode cX3_takeFrom 90 = .ok (.aload_n 0, 1) := by decide +kernel
theorem dX3_takeFrom_91 : decode cX3_takeFrom 91 = .ok (.getfield 15, 3) := by decide +kernel
theorem dX3_takeFrom_94 : decode cX3_takeFrom 94 = .ok (.arraylength, 1) := by decide +kernel
theorem dX3_takeFrom_95 : decode cX3_takeFrom 95 = .ok (.invokestatic 75, 3) := by decide +kernel
theorem dX3_takeFrom_98 : decode cX3_takeFrom 98 = .ok (.aload_n 1, 1) := by decide +kernel
theorem dX3_takeFrom_99 : decode cX3_takeFrom 99 = .ok (.getfield 19, 3) := by decide +kernel
theorem dX3_takeFrom_102 : decode cX3_takeFrom 102 = .ok (.iconst 0, 1) := by decide +kernel
theorem dX3_takeFrom_103 : decode cX3_takeFrom 103 = .ok (.aload_n 0, 1) := by decide +kernel
theorem dX3_takeFrom_104 : decode cX3_takeFrom 104 = .ok (.getfield 19, 3) := by decide +kernel
theorem dX3_takeFrom_107 : decode cX3_takeFrom 107 = .ok (.iconst 0, 1) := by decide +kernel
theorem dX3_takeFrom_108 : decode cX3_takeFrom 108 = .ok (.bipush 7, 2) := by decide +kernel
theorem dX3_takeFrom_110 : decode cX3_takeFrom 110 = .ok (.invokestatic 75, 3) := by decide +kernel
theorem dX3_takeFrom_113 : decode cX3_takeFrom 113 = .ok (.aload_n 1, 1) := by decide +kernel
theorem dX3_takeFrom_114 : decode cX3_takeFrom 114 = .ok (.getfield 22, 3) := by decide +kernel
theorem dX3_takeFrom_117 : decode cX3_takeFrom 117 = .ok (.iconst 0, 1) := by decide +kernel
theorem dX3_takeFrom_118 : decode cX3_takeFrom 118 = .ok (.aload_n 0, 1) := by decide +kernel
theorem dX3_takeFrom_119 : decode cX3_takeFrom 119 = .ok (.getfield 22, 3) := by decide +kernel
theorem dX3_takeFrom_122 : decode cX3_takeFrom 122 = .ok (.iconst 0, 1) := by decide +kernel
theorem dX3_takeFrom_123 : decode cX3_takeFrom 123 = .ok (.bipush 7, 2) := by decide +kernel
theorem dX3_takeFrom_125 : decode cX3_takeFrom 125 = .ok (.invokestatic 75, 3) := by decide +kernel
theorem dX3_takeFrom_128 : decode cX3_takeFrom 128 = .ok (.aload_n 1, 1) := by decide +kernel
theorem dX3_takeFrom_129 : decode cX3_takeFrom 129 = .ok (.getfield 25, 3) := by decide +kernel
theorem dX3_takeFrom_132 : decode cX3_takeFrom 132 = .ok (.iconst 0, 1) := by decide +kernel
theorem dX3_takeFrom_133 : decode cX3_takeFrom 133 = .ok (.aload_n 0, 1) := by decide +kernel
theorem dX3_takeFrom_134 : decode cX3_takeFrom 134 = .ok (.getfield 25, 3) := by decide +kernel
theorem dX3_takeFrom_137 : decode cX3_takeFrom 137 = .ok (.iconst 0, 1) := by decide +kernel
theorem dX3_takeFrom_138 : decode cX3_takeFrom 138 = .ok (.bipush 7, 2) := by decide +kernel
theorem dX3_takeFrom_140 : decode cX3_takeFrom 140 = .ok (.invokestatic 75, 3) := by decide +kernel
theorem dX3_takeFrom_143 : decode cX3_takeFrom 143 = .ok (.aload_n 1, 1) := by decide +kernel
theorem dX3_takeFrom_144 : decode cX3_takeFrom 144 = .ok (.getfield 28, 3) := by decide +kernel
theorem dX3_takeFrom_147 : decode cX3_takeFrom 147 = .ok (.iconst 0, 1) := by decide +kernel
theorem dX3_takeFrom_148 : decode cX3_takeFrom 148 = .ok (.aload_n 0, 1) := by decide +kernel
theorem dX3_takeFrom_149 : decode cX3_takeFrom 149 = .ok (.getfield 28, 3) := by decide +kernel
theorem dX3_takeFrom_152 : decode cX3_takeFrom 152 = .ok (.iconst 0, 1) := by decide +kernel
theorem dX3_takeFrom_153 : decode cX3_takeFrom 153 = .ok (.bipush 7, 2) := by decide +kernel
theorem dX3_takeFrom_155 : decode cX3_takeFrom 155 = .ok (.invokestatic 75, 3) := by decide +kernel
theorem dX3_takeFrom_158 : decode cX3_takeFrom 158 = .ok (.aload_n 1, 1) := by decide +kernel
theorem dX3_takeFrom_159 : decode cX3_takeFrom 159 = .ok (.getfield 31, 3) := by decide +kernel
theorem dX3_takeFrom_162 : decode cX3_takeFrom 162 = .ok (.iconst 0, 1) := by decide +kernel
theorem dX3_takeFrom_163 : decode cX3_takeFrom 163 = .ok (.aload_n 0, 1) := by decide +kernel
theorem dX3_takeFrom_164 : decode cX3_takeFrom 164 = .ok (.getfield 31, 3) := by decide +kernel
theorem dX3_takeFrom_167 : decode cX3_takeFrom 167 = .ok (.iconst 0, 1) := by decide +kernel
theorem dX3_takeFrom_168 : decode cX3_takeFrom 168 = .ok (.iconst 3, 1) := by decide +kernel
theorem dX3_takeFrom_169 : decode cX3_takeFrom 169 = .ok (.invokestatic 75, 3) := by decide +kernel
theorem dX3_takeFrom_172 : decode cX3_takeFrom 172 = .ok (.aload_n 1, 1) := by decide +kernel
theorem dX3_takeFrom_173 : decode cX3_takeFrom 173 = .ok (.getfield 34, 3) := by decide +kernel
theorem dX3_takeFrom_176 : decode cX3_takeFrom 176 = .ok (.iconst 0, 1) := by decide +kernel
theorem dX3_takeFrom_177 : decode cX3_takeFrom 177 = .ok (.aload_n 0, 1) := by decide +kernel
theorem dX3_takeFrom_178 : decode cX3_takeFrom 178 = .ok (.getfield 34, 3) := by decide +kernel
theorem dX3_takeFrom_181 : decode cX3_takeFrom 181 = .ok (.iconst 0, 1) := by decide +kernel
theorem dX3_takeFrom_182 : decode cX3_takeFrom 182 = .ok (.iconst 3, 1) := by decide +kernel
theorem dX3_takeFrom_183 : decode cX3_takeFrom 183 = .ok (.invokestatic 75, 3) := by decide +kernel
theorem dX3_takeFrom_186 : decode cX3_takeFrom 186 = .ok (.aload_n 1, 1) := by decide +kernel
theorem dX3_takeFrom_187 : decode cX3_takeFrom 187 = .ok (.getfield 37, 3) := by decide +kernel
theorem dX3_takeFrom_190 : decode cX3_takeFrom 190 = .ok (.iconst 0, 1) := by decide +kernel
theorem dX3_takeFrom_191 : decode cX3_takeFrom 191 = .ok (.aload_n 0, 1) := by decide +kernel
theorem dX3_takeFrom_192 : decode cX3_takeFrom 192 = .ok (.getfield 37, 3) := by decide +kernel
theorem dX3_takeFrom_195 : decode cX3_takeFrom 195 = .ok (.iconst 0, 1) := by decide +kernel
theorem dX3_takeFrom_196 : decode cX3_takeFrom 196 = .ok (.iconst 3, 1) := by decide +kernel
theorem dX3_takeFrom_197 : decode cX3_takeFrom 197 = .ok (.invokestatic 75, 3) := by decide +kernel
theorem dX3_takeFrom_200 : decode cX3_takeFrom 200 = .ok (.return_, 1) := by decide +kernel
theorem dX3_addWay_0 : decode cX3_addWay 0 = .ok (.iload_n 3, 1) := by decide +kernel
theorem dX3_addWay_1 : decode cX3_addWay 1 = .ok (.aload_n 0, 1) := by decide +kernel
theorem dX3_addWay_2 : decode cX3_addWay 2 = .ok (.iload_n 1, 1) := by decide +kernel
theorem dX3_addWay_3 : decode cX3_addWay 3 = .ok (.iload_n 2, 1) := by decide +kernel
theorem dX3_addWay_4 : decode cX3_addWay 4 = .ok (.invokevirtual 81, 3) := by decide +kernel
theorem dX3_addWay_7 : decode cX3_addWay 7 = .ok (.invokestatic 85, 3) := by decide +kernel
theorem dX3_addWay_10 : decode cX3_addWay 10 = .ok (.istore 4, 2) := by decide +kernel
theorem dX3_addWay_12 : decode cX3_addWay 12 = .ok (.aload_n 0, 1) := by decide +kernel
theorem dX3_addWay_13 : decode cX3_addWay 13 = .ok (.getfield 15, 3) := by decide +kernel
theorem dX3_addWay_16 : decode cX3_addWay 16 = .ok (.iload_n 1, 1) := by decide +kernel
theorem dX3_addWay_17 : decode cX3_addWay 17 = .ok (.bipush 8, 2) := by decide +kernel
theorem dX3_addWay_19 : decode cX3_addWay 19 = .ok (.imul, 1) := by decide +kernel
theorem dX3_addWay_20 : decode cX3_addWay 20 = .ok (.iload_n 2, 1) := by decide +kernel
theorem dX3_addWay_21 : decode cX3_addWay 21 = .ok (.iadd, 1) := by decide +kernel
theorem dX3_addWay_22 : decode cX3_addWay 22 = .ok (.iload 4, 2) := by decide +kernel
theorem dX3_addWay_24 : decode cX3_addWay 24 = .ok (.iastore, 1) := by decide +kernel
theorem dX3_addWay_25 : decode cX3_addWay 25 = .ok (.aload_n 0, 1) := by decide +kernel
theorem dX3_addWay_26 : decode cX3_addWay 26 = .ok (.getfield 15, 3) := by decide +kernel
theorem dX3_addWay_29 : decode cX3_addWay 29 = .ok (.iload_n 2, 1) := by decide +kernel
theorem dX3_addWay_30 : decode cX3_addWay 30 = .ok (.bipush 8, 2) := by decide +kernel
theorem dX3_addWay_32 : decode cX3_addWay 32 = .ok (.imul, 1) := by decide +kernel
theorem dX3_addWay_33 : decode cX3_addWay 33 = .ok (.iload_n 1, 1) := by decide +kernel
theorem dX3_addWay_34 : decode cX3_addWay 34 = .ok (.iadd, 1) := by decide +kernel
theorem dX3_addWay_35 : decode cX3_addWay 35 = .ok (.iload 4, 2) := by decide +kernel
theorem dX3_addWay_37 : decode cX3_addWay 37 = .ok (.iastore, 1) := by decide +kernel
theorem dX3_addWay_38 : decode cX3_addWay 38 = .ok (.aload_n 0, 1) := by decide +kernel
theorem dX3_addWay_39 : decode cX3_addWay 39 = .ok (.dup, 1) := by decide +kernel
theorem dX3_addWay_40 : decode cX3_addWay 40 = .ok (.getfield 40, 3) := by decide +kernel
theorem dX3_addWay_43 : decode cX3_addWay 43 = .ok (.iconst 1, 1) := by decide +kernel
theorem dX3_addWay_44 : decode cX3_addWay 44 = .ok (.iadd, 1) := by decide +kernel
theorem dX3_addWay_45 : decode cX3_addWay 45 = .ok (.putfield 40, 3) := by decide +kernel
theorem dX3_addWay_48 : decode cX3_addWay 48 = .ok (.return_, 1) := by decide +kernel
theorem dX3_addHill_0 : decode cX3_addHill 0 = .ok (.aload_n 0, 1) := by decide +kernel
theorem dX3_addHill_1 : decode cX3_addHill 1 = .ok (.dup, 1) := by decide +kernel
theorem dX3_addHill_2 : decode cX3_addHill 2 = .ok (.getfield 56, 3) := by decide +kernel
theorem dX3_addHill_5 : decode cX3_addHill 5 = .ok (.iconst 1, 1) := by decide +kernel
theorem dX3_addHill_6 : decode cX3_addHill 6 = .ok (.iload_n 1, 1) := by decide +kernel
theorem dX3_addHill_7 : decode cX3_addHill 7 = .ok (.ishl, 1) := by decide +kernel
theorem dX3_addHill_8 : decode cX3_addHill 8 = .ok (.ior, 1) := by decide +kernel
theorem dX3_addHill_9 : decode cX3_addHill 9 = .ok (.putfield 56, 3) := by decide +kernel
theorem dX3_addHill_12 : decode cX3_addHill 12 = .ok (.aload_n 0, 1) := by decide +kernel
theorem dX3_addHill_13 : decode cX3_addHill 13 = .ok (.dup, 1) := by decide +kernel
theorem dX3_addHill_14 : decode cX3_addHill 14 = .ok (.getfield 44, 3) := by decide +kernel
theorem dX3_addHill_17 : decode cX3_addHill 17 = .ok (.iconst 1, 1) := by decide +kernel
theorem dX3_addHill_18 : decode cX3_addHill 18 = .ok (.iadd, 1) := by decide +kernel
theorem dX3_addHill_19 : decode cX3_addHill 19 = .ok (.putfield 44, 3) := by decide +kernel
theorem dX3_addHill_22 : decode cX3_addHill 22 = .ok (.return_, 1) := by decide +kernel
theorem dX3_addPerson_0 : decode cX3_addPerson 0 = .ok (.aload_n 0, 1) := by decide +kernel
theorem dX3_addPerson_1 : decode cX3_addPerson 1 = .ok (.getfield 19, 3) := by decide +kernel
theorem dX3_addPerson_4 : decode cX3_addPerson 4 = .ok (.aload_n 0, 1) := by decide +kernel
theorem dX3_addPerson_5 : decode cX3_addPerson 5 = .ok (.getfield 50, 3) := by decide +kernel
theorem dX3_addPerson_8 : decode cX3_addPerson 8 = .ok (.iload_n 1, 1) := by decide +kernel
theorem dX3_addPerson_9 : decode cX3_addPerson 9 = .ok (.iastore, 1) := by decide +kernel
theorem dX3_addPerson_10 : decode cX3_addPerson 10 = .ok (.aload_n 0, 1) := by decide +kernel
theorem dX3_addPerson_11 : decode cX3_addPerson 11 = .ok (.getfield 22, 3) := by decide +kernel
theorem dX3_addPerson_14 : decode cX3_addPerson 14 = .ok (.aload_n 0, 1) := by decide +kernel
theorem dX3_addPerson_15 : decode cX3_addPerson 15 = .ok (.getfield 50, 3) := by decide +kernel
theorem dX3_addPerson_18 : decode cX3_addPerson 18 = .ok (.iload_n 2, 1) := by decide +kernel
theorem dX3_addPerson_19 : decode cX3_addPerson 19 = .ok (.iastore, 1) := by decide +kernel
theorem dX3_addPerson_20 : decode cX3_addPerson 20 = .ok (.aload_n 0, 1) := by decide +kernel
theorem dX3_addPerson_21 : decode cX3_addPerson 21 = .ok (.getfield 25, 3) := by decide +kernel
theorem dX3_addPerson_24 : decode cX3_addPerson 24 = .ok (.aload_n 0, 1) := by decide +kernel
theorem dX3_addPerson_25 : decode cX3_addPerson 25 = .ok (.getfield 50, 3) := by decide +kernel
theorem dX3_addPerson_28 : decode cX3_addPerson 28 = .ok (.iload_n 3, 1) := by decide +kernel
theorem dX3_addPerson_29 : decode cX3_addPerson 29 = .ok (.iastore, 1) := by decide +kernel
theorem dX3_addPerson_30 : decode cX3_addPerson 30 = .ok (.iload_n 1, 1) := by decide +kernel
theorem dX3_addPerson_31 : decode cX3_addPerson 31 = .ok (.iconst 4, 1) := by decide +kernel
theorem dX3_addPerson_32 : decode cX3_addPerson 32 = .ok (.invokestatic 90, 3) := by decide +kernel
theorem dX3_addPerson_35 : decode cX3_addPerson 35 = .ok (.ifCond .eq 18, 3) := by decide +kernel
theorem dX3_addPerson_38 : decode cX3_addPerson 38 = .ok (.aload_n 0, 1) := by decide +kernel
theorem dX3_addPerson_39 : decode cX3_addPerson 39 = .ok (.dup, 1) := by decide +kernel
theorem dX3_addPerson_40 : decode cX3_addPerson 40 = .ok (.getfield 59, 3) := by decide +kernel
theorem dX3_addPerson_43 : decode cX3_addPerson 43 = .ok (.iconst 1, 1) := by decide +kernel
theorem dX3_addPerson_44 : decode cX3_addPerson 44 = .ok (.aload_n 0, 1) := by decide +kernel
theorem dX3_addPerson_45 : decode cX3_addPerson 45 = .ok (.getfield 50, 3) := by decide +kernel
theorem dX3_addPerson_48 : decode cX3_addPerson 48 = .ok (.ishl, 1) := by decide +kernel
theorem dX3_addPerson_49 : decode cX3_addPerson 49 = .ok (.ior, 1) := by decide +kernel
theorem dX3_addPerson_50 : decode cX3_addPerson 50 = .ok (.putfield 59, 3) := by decide +kernel
theorem dX3_addPerson_53 : decode cX3_addPerson 53 = .ok (.aload_n 0, 1) := by decide +kernel
theorem dX3_addPerson_54 : decode cX3_addPerson 54 = .ok (.dup, 1) := by decide +kernel
theorem dX3_addPerson_55 : decode cX3_addPerson 55 = .ok (.getfield 50, 3) := by decide +kernel
theorem dX3_addPerson_58 : decode cX3_addPerson 58 = .ok (.iconst 1, 1) := by decide +kernel
theorem dX3_addPerson_59 : decode cX3_addPerson 59 = .ok (.iadd, 1) := by decide +kernel
theorem dX3_addPerson_60 : decode cX3_addPerson 60 = .ok (.putfield 50, 3) := by decide +kernel
theorem dX3_addPerson_63 : decode cX3_addPerson 63 = .ok (.return_, 1) := by decide +kernel
theorem dX3_addCar_0 : decode cX3_addCar 0 = .ok (.aload_n 0, 1) := by decide +kernel
theorem dX3_addCar_1 : decode cX3_addCar 1 = .ok (.getfield 31, 3) := by decide +kernel
theorem dX3_addCar_4 : decode cX3_addCar 4 = .ok (.aload_n 0, 1) := by decide +kernel
theorem dX3_addCar_5 : decode cX3_addCar 5 = .ok (.getfield 53, 3) := by decide +kernel
theorem dX3_addCar_8 : decode cX3_addCar 8 = .ok (.iload_n 1, 1) := by decide +kernel
theorem dX3_addCar_9 : decode cX3_addCar 9 = .ok (.iastore, 1) := by decide +kernel
theorem dX3_addCar_10 : decode cX3_addCar 10 = .ok (.aload_n 0, 1) := by decide +kernel
theorem dX3_addCar_11 : decode cX3_addCar 11 = .ok (.getfield 34, 3) := by decide +kernel
theorem dX3_addCar_14 : decode cX3_addCar 14 = .ok (.aload_n 0, 1) := by decide +kernel
theorem dX3_addCar_15 : decode cX3_addCar 15 = .ok (.getfield 53, 3) := by decide +kernel
theorem dX3_addCar_18 : decode cX3_addCar 18 = .ok (.iload_n 2, 1) := by decide +kernel
theorem dX3_addCar_19 : decode cX3_addCar 19 = .ok (.iastore, 1) := by decide +kernel
theorem dX3_addCar_20 : decode cX3_addCar 20 = .ok (.aload_n 0, 1) := by decide +kernel
theorem dX3_addCar_21 : decode cX3_addCar 21 = .ok (.getfield 37, 3) := by decide +kernel
theorem dX3_addCar_24 : decode cX3_addCar 24 = .ok (.aload_n 0, 1) := by decide +kernel
theorem dX3_addCar_25 : decode cX3_addCar 25 = .ok (.getfield 53, 3) := by decide +kernel
theorem dX3_addCar_28 : decode cX3_addCar 28 = .ok (.iload_n 3, 1) := by decide +kernel
theorem dX3_addCar_29 : decode cX3_addCar 29 = .ok (.iastore, 1) := by decide +kernel
theorem dX3_addCar_30 : decode cX3_addCar 30 = .ok (.aload_n 0, 1) := by decide +kernel
theorem dX3_addCar_31 : decode cX3_addCar 31 = .ok (.dup, 1) := by decide +kernel
theorem dX3_addCar_32 : decode cX3_addCar 32 = .ok (.getfield 53, 3) := by decide +kernel
theorem dX3_addCar_35 : decode cX3_addCar 35 = .ok (.iconst 1, 1) := by decide +kernel
theorem dX3_addCar_36 : decode cX3_addCar 36 = .ok (.iadd, 1) := by decide +kernel
theorem dX3_addCar_37 : decode cX3_addCar 37 = .ok (.putfield 53, 3) := by decide +kernel
theorem dX3_addCar_40 : decode cX3_addCar 40 = .ok (.return_, 1) := by decide +kernel
theorem dX3_addQuarrel_0 : decode cX3_addQuarrel 0 = .ok (.aload_n 0, 1) := by decide +kernel
theorem dX3_addQuarrel_1 : decode cX3_addQuarrel 1 = .ok (.getfield 28, 3) := by decide +kernel
theorem dX3_addQuarrel_4 : decode cX3_addQuarrel 4 = .ok (.iload_n 1, 1) := by decide +kernel
theorem dX3_addQuarrel_5 : decode cX3_addQuarrel 5 = .ok (.dup2, 1) := by decide +kernel
theorem dX3_addQuarrel_6 : decode cX3_addQuarrel 6 = .ok (.iaload, 1) := by decide +kernel
theorem dX3_addQuarrel_7 : decode cX3_addQuarrel 7 = .ok (.iconst 1, 1) := by decide +kernel
theorem dX3_addQuarrel_8 : decode cX3_addQuarrel 8 = .ok (.iload_n 2, 1) := by decide +kernel
theorem dX3_addQuarrel_9 : decode cX3_addQuarrel 9 = .ok (.ishl, 1) := by decide +kernel
theorem dX3_addQuarrel_10 : decode cX3_addQuarrel 10 = .ok (.ior, 1) := by decide +kernel
theorem dX3_addQuarrel_11 : decode cX3_addQuarrel 11 = .ok (.iastore, 1) := by decide +kernel
theorem dX3_addQuarrel_12 : decode cX3_addQuarrel 12 = .ok (.aload_n 0, 1) := by decide +kernel
theorem dX3_addQuarrel_13 : decode cX3_addQuarrel 13 = .ok (.getfield 28, 3) := by decide +kernel
theorem dX3_addQuarrel_16 : decode cX3_addQuarrel 16 = .ok (.iload_n 2, 1) := by decide +kernel
theorem dX3_addQuarrel_17 : decode cX3_addQuarrel 17 = .ok (.dup2, 1) := by decide +kernel
theorem dX3_addQuarrel_18 : decode cX3_addQuarrel 18 = .ok (.iaload, 1) := by decide +kernel
theorem dX3_addQuarrel_19 : decode cX3_addQuarrel 19 = .ok (.iconst 1, 1) := by decide +kernel
theorem dX3_addQuarrel_20 : decode cX3_addQuarrel 20 = .ok (.iload_n 1, 1) := by decide +kernel
theorem dX3_addQuarrel_21 : decode cX3_addQuarrel 21 = .ok (.ishl, 1) := by decide +kernel
theorem dX3_addQuarrel_22 : decode cX3_addQuarrel 22 = .ok (.ior, 1) := by decide +kernel
theorem dX3_addQuarrel_23 : decode cX3_addQuarrel 23 = .ok (.iastore, 1) := by decide +kernel
theorem dX3_addQuarrel_24 : decode cX3_addQuarrel 24 = .ok (.aload_n 0, 1) := by decide +kernel
theorem dX3_addQuarrel_25 : decode cX3_addQuarrel 25 = .ok (.dup, 1) := by decide +kernel
theorem dX3_addQuarrel_26 : decode cX3_addQuarrel 26 = .ok (.getfield 47, 3) := by decide +kernel
theorem dX3_addQuarrel_29 : decode cX3_addQuarrel 29 = .ok (.iconst 1, 1) := by decide +kernel
theorem dX3_addQuarrel_30 : decode cX3_addQuarrel 30 = .ok (.iadd, 1) := by decide +kernel
theorem dX3_addQuarrel_31 : decode cX3_addQuarrel 31 = .ok (.putfield 47, 3) := by decide +kernel
theorem dX3_addQuarrel_34 : decode cX3_addQuarrel 34 = .ok (.return_, 1) := by decide +kernel
theorem dX3_finish_0 : decode cX3_finish 0 = .ok (.iconst 0, 1) := by decide +kernel
theorem dX3_finish_1 : decode cX3_finish 1 = .ok (.istore_n 1, 1) := by decide +kernel
theorem dX3_finish_2 : decode cX3_finish 2 = .ok (.iload_n 1, 1) := by decide +kernel
theorem dX3_finish_3 : decode cX3_finish 3 = .ok (.bipush 8, 2) := by decide +kernel
theorem dX3_finish_5 : decode cX3_finish 5 = .ok (.if_icmp .ge 74, 3) := by decide +kernel
theorem dX3_finish_8 : decode cX3_finish 8 = .ok (.iconst 0, 1) := by decide +kernel
theorem dX3_finish_9 : decode cX3_finish 9 = .ok (.istore_n 2, 1) := by decide +kernel
theorem dX3_finish_10 : decode cX3_finish 10 = .ok (.iload_n 2, 1) := by decide +kernel
theorem dX3_finish_11 : decode cX3_finish 11 = .ok (.bipush 8, 2) := by decide +kernel
theorem dX3_finish_13 : decode cX3_finish 13 = .ok (.if_icmp .ge 60, 3) := by decide +kernel
theorem dX3_finish_16 : decode cX3_finish 16 = .ok (.iconst 0, 1) := by decide +kernel
theorem dX3_finish_17 : decode cX3_finish 17 = .ok (.istore_n 3, 1) := by decide +kernel
theorem dX3_finish_18 : decode cX3_finish 18 = .ok (.iload_n 3, 1) := by decide +kernel
theorem dX3_finish_19 : decode cX3_finish 19 = .ok (.bipush 8, 2) := by decide +kernel
theorem dX3_finish_21 : decode cX3_finish 21 = .ok (.if_icmp .ge 46, 3) := by decide +kernel
theorem dX3_finish_24 : decode cX3_finish 24 = .ok (.aload_n 0, 1) := by decide +kernel
theorem dX3_finish_25 : decode cX3_finish 25 = .ok (.iload_n 2, 1) := by decide +kernel
theorem dX3_finish_26 : decode cX3_finish 26 = .ok (.iload_n 1, 1) := by decide +kernel
theorem dX3_finish_27 : decode cX3_finish 27 = .ok (.invokevirtual 81, 3) := by decide +kernel
theorem dX3_finish_30 : decode cX3_finish 30 = .ok (.aload_n 0, 1) := by decide +kernel
theorem dX3_finish_31 : decode cX3_finish 31 = .ok (.iload_n 1, 1) := by decide +kernel
theorem dX3_finish_32 : decode cX3_finish 32 = .ok (.iload_n 3, 1) := by decide +kernel
theorem dX3_finish_33 : decode cX3_finish 33 = .ok (.invokevirtual 81, 3) := by decide +kernel
theorem dX3_finish_36 : decode cX3_finish 36 = .ok (.iadd, 1) := by decide +kernel
theorem dX3_finish_37 : decode cX3_finish 37 = .ok (.istore 4, 2) := by decide +kernel
theorem dX3_finish_39 : decode cX3_finish 39 = .ok (.aload_n 0, 1) := by decide +kernel
theorem dX3_finish_40 : decode cX3_finish 40 = .ok (.getfield 15, 3) := by decide +kernel
theorem dX3_finish_43 : decode cX3_finish 43 = .ok (.iload_n 2, 1) := by decide +kernel
theorem dX3_finish_44 : decode cX3_finish 44 = .ok (.bipush 8, 2) := by decide +kernel
theorem dX3_finish_46 : decode cX3_finish 46 = .ok (.imul, 1) := by decide +kernel
theorem dX3_finish_47 : decode cX3_finish 47 = .ok (.iload_n 3, 1) := by decide +kernel
theorem dX3_finish_48 : decode cX3_finish 48 = .ok (.iadd, 1) := by decide +kernel
theorem dX3_finish_49 : decode cX3_finish 49 = .ok (.aload_n 0, 1) := by decide +kernel
theorem dX3_finish_50 : decode cX3_finish 50 = .ok (.iload_n 2, 1) := by decide +kernel
theorem dX3_finish_51 : decode cX3_finish 51 = .ok (.iload_n 3, 1) := by decide +kernel
theorem dX3_finish_52 : decode cX3_finish 52 = .ok (.invokevirtual 81, 3) := by decide +kernel
theorem dX3_finish_55 : decode cX3_finish 55 = .ok (.iload 4, 2) := by decide +kernel
theorem dX3_finish_57 : decode cX3_finish 57 = .ok (.invokestatic 85, 3) := by decide +kernel
theorem dX3_finish_60 : decode cX3_finish 60 = .ok (.iastore, 1) := by decide +kernel
theorem dX3_finish_61 : decode cX3_finish 61 = .ok (.iinc 3 1, 3) := by decide +kernel
theorem dX3_finish_64 : decode cX3_finish 64 = .ok (.goto (-46), 3) := by decide +kernel
theorem dX3_finish_67 : decode cX3_finish 67 = .ok (.iinc 2 1, 3) := by decide +kernel
theorem dX3_finish_70 : decode cX3_finish 70 = .ok (.goto (-60), 3) := by decide +kernel
theorem dX3_finish_73 : decode cX3_finish 73 = .ok (.iinc 1 1, 3) := by decide +kernel
theorem dX3_finish_76 : decode cX3_finish 76 = .ok (.goto (-74), 3) := by decide +kernel
theorem dX3_finish_79 : decode cX3_finish 79 = .ok (.aload_n 0, 1) := by decide +kernel
theorem dX3_finish_80 : decode cX3_finish 80 = .ok (.iconst 1, 1) := by decide +kernel
theorem dX3_finish_81 : decode cX3_finish 81 = .ok (.putfield 9, 3) := by decide +kernel
theorem dX3_finish_84 : decode cX3_finish 84 = .ok (.return_, 1) := by decide +kernel
theorem dX3_hasPerson_0 : decode cX3_hasPerson 0 = .ok (.iload_n 1, 1) := by decide +kernel
theorem dX3_hasPerson_1 : decode cX3_hasPerson 1 = .ok (.ifCond .lt 15, 3) := by decide +kernel
theorem dX3_hasPerson_4 : decode cX3_hasPerson 4 = .ok (.iload_n 1, 1) := by decide +kernel
theorem dX3_hasPerson_5 : decode cX3_hasPerson 5 = .ok (.aload_n 0, 1) := by decide +kernel
theorem dX3_hasPerson_6 : decode cX3_hasPerson 6 = .ok (.getfield 50, 3) := by decide +kernel
theorem dX3_hasPerson_9 : decode cX3_hasPerson 9 = .ok (.if_icmp .ge 7, 3) := by decide +kernel
theorem dX3_hasPerson_12 : decode cX3_hasPerson 12 = .ok (.iconst 1, 1) := by decide +kernel
theorem dX3_hasPerson_13 : decode cX3_hasPerson 13 = .ok (.goto 4, 3) := by decide +kernel
theorem dX3_hasPerson_16 : decode cX3_hasPerson 16 = .ok (.iconst 0, 1) := by decide +kernel
theorem dX3_hasPerson_17 : decode cX3_hasPerson 17 = .ok (.ireturn, 1) := by decide +kernel
theorem dX3_hasCar_0 : decode cX3_hasCar 0 = .ok (.iload_n 1, 1) := by decide +kernel
theorem dX3_hasCar_1 : decode cX3_hasCar 1 = .ok (.ifCond .lt 15, 3) := by decide +kernel
theorem dX3_hasCar_4 : decode cX3_hasCar 4 = .ok (.iload_n 1, 1) := by decide +kernel
theorem dX3_hasCar_5 : decode cX3_hasCar 5 = .ok (.aload_n 0, 1) := by decide +kernel
theorem dX3_hasCar_6 : decode cX3_hasCar 6 = .ok (.getfield 53, 3) := by decide +kernel
theorem dX3_hasCar_9 : decode cX3_hasCar 9 = .ok (.if_icmp .ge 7, 3) := by decide +kernel
theorem dX3_hasCar_12 : decode cX3_hasCar 12 = .ok (.iconst 1, 1) := by decide +kernel
theorem dX3_hasCar_13 : decode cX3_hasCar 13 = .ok (.goto 4, 3) := by decide +kernel
theorem dX3_hasCar_16 : decode cX3_hasCar 16 = .ok (.iconst 0, 1) := by decide +kernel
theorem dX3_hasCar_17 : decode cX3_hasCar 17 = .ok (.ireturn, 1) := by decide +kernel
theorem dX3_minutesBetween_0 : decode cX3_minutesBetween 0 = .ok (.aload_n 0, 1) := by decide +kernel
theorem dX3_minutesBetween_1 : decode cX3_minutesBetween 1 = .ok (.getfield 15, 3) := by decide +kernel
theorem dX3_minutesBetween_4 : decode cX3_minutesBetween 4 = .ok (.iload_n 1, 1) := by decide +kernel
theorem dX3_minutesBetween_5 : decode cX3_minutesBetween 5 = .ok (.bipush 8, 2) := by decide +kernel
theorem dX3_minutesBetween_7 : decode cX3_minutesBetween 7 = .ok (.imul, 1) := by decide +kernel
theorem dX3_minutesBetween_8 : decode cX3_minutesBetween 8 = .ok (.iload_n 2, 1) := by decide +kernel
theorem dX3_minutesBetween_9 : decode cX3_minutesBetween 9 = .ok (.iadd, 1) := by decide +kernel
theorem dX3_minutesBetween_10 : decode cX3_minutesBetween 10 = .ok (.iaload, 1) := by decide +kernel
theorem dX3_minutesBetween_11 : decode cX3_minutesBetween 11 = .ok (.ireturn, 1) := by decide +kernel
theorem dX3_areJoined_0 : decode cX3_areJoined 0 = .ok (.aload_n 0, 1) := by decide +kernel
theorem dX3_areJoined_1 : decode cX3_areJoined 1 = .ok (.iload_n 1, 1) := by decide +kernel
theorem dX3_areJoined_2 : decode cX3_areJoined 2 = .ok (.iload_n 2, 1) := by decide +kernel
theorem dX3_areJoined_3 : decode cX3_areJoined 3 = .ok (.invokevirtual 81, 3) := by decide +kernel
theorem dX3_areJoined_6 : decode cX3_areJoined 6 = .ok (.ldc 62, 2) := by decide +kernel
theorem dX3_areJoined_8 : decode cX3_areJoined 8 = .ok (.if_icmp .ge 7, 3) := by decide +kernel
theorem dX3_areJoined_11 : decode cX3_areJoined 11 = .ok (.iconst 1, 1) := by decide +kernel
theorem dX3_areJoined_12 : decode cX3_areJoined 12 = .ok (.goto 4, 3) := by decide +kernel
theorem dX3_areJoined_15 : decode cX3_areJoined 15 = .ok (.iconst 0, 1) := by decide +kernel
theorem dX3_areJoined_16 : decode cX3_areJoined 16 = .ok (.ireturn, 1) := by decide +kernel
theorem dX3_carOf_0 : decode cX3_carOf 0 = .ok (.iconst 0, 1) := by decide +kernel
theorem dX3_carOf_1 : decode cX3_carOf 1 = .ok (.istore_n 2, 1) := by decide +kernel
theorem dX3_carOf_2 : decode cX3_carOf 2 = .ok (.iload_n 2, 1) := by decide +kernel
theorem dX3_carOf_3 : decode cX3_carOf 3 = .ok (.aload_n 0, 1) := by decide +kernel
theorem dX3_carOf_4 : decode cX3_carOf 4 = .ok (.getfield 53, 3) := by decide +kernel
theorem dX3_carOf_7 : decode cX3_carOf 7 = .ok (.if_icmp .ge 21, 3) := by decide +kernel
theorem dX3_carOf_10 : decode cX3_carOf 10 = .ok (.aload_n 0, 1) := by decide +kernel
theorem dX3_carOf_11 : decode cX3_carOf 11 = .ok (.getfield 31, 3) := by decide +kernel
theorem dX3_carOf_14 : decode cX3_carOf 14 = .ok (.iload_n 2, 1) := by decide +kernel
theorem dX3_carOf_15 : decode cX3_carOf 15 = .ok (.iaload, 1) := by decide +kernel
theorem dX3_carOf_16 : decode cX3_carOf 16 = .ok (.iload_n 1, 1) := by decide +kernel
theorem dX3_carOf_17 : decode cX3_carOf 17 = .ok (.if_icmp .ne 5, 3) := by decide +kernel
theorem dX3_carOf_20 : decode cX3_carOf 20 = .ok (.iload_n 2, 1) := by decide +kernel
theorem dX3_carOf_21 : decode cX3_carOf 21 = .ok (.ireturn, 1) := by decide +kernel
theorem dX3_carOf_22 : decode cX3_carOf 22 = .ok (.iinc 2 1, 3) := by decide +kernel
theorem dX3_carOf_25 : decode cX3_carOf 25 = .ok (.goto (-23), 3) := by decide +kernel
theorem dX3_carOf_28 : decode cX3_carOf 28 = .ok (.ldc 94, 2) := by decide +kernel
theorem dX3_carOf_30 : decode cX3_carOf 30 = .ok (.ireturn, 1) := by decide +kernel
theorem dX3_siteOfOwner_0 : decode cX3_siteOfOwner 0 = .ok (.aload_n 0, 1) := by decide +kernel
theorem dX3_siteOfOwner_1 : decode cX3_siteOfOwner 1 = .ok (.getfield 22, 3) := by decide +kernel
theorem dX3_siteOfOwner_4 : decode cX3_siteOfOwner 4 = .ok (.aload_n 0, 1) := by decide +kernel
theorem dX3_siteOfOwner_5 : decode cX3_siteOfOwner 5 = .ok (.getfield 31, 3) := by decide +kernel
theorem dX3_siteOfOwner_8 : decode cX3_siteOfOwner 8 = .ok (.iload_n 1, 1) := by decide +kernel
theorem dX3_siteOfOwner_9 : decode cX3_siteOfOwner 9 = .ok (.iaload, 1) := by decide +kernel
theorem dX3_siteOfOwner_10 : decode cX3_siteOfOwner 10 = .ok (.iaload, 1) := by decide +kernel
theorem dX3_siteOfOwner_11 : decode cX3_siteOfOwner 11 = .ok (.ireturn, 1) := by decide +kernel
theorem dX3_glassesInAll_0 : decode cX3_glassesInAll 0 = .ok (.iconst 0, 1) := by decide +kernel
theorem dX3_glassesInAll_1 : decode cX3_glassesInAll 1 = .ok (.istore_n 1, 1) := by decide +kernel
theorem dX3_glassesInAll_2 : decode cX3_glassesInAll 2 = .ok (.iconst 0, 1) := by decide +kernel
theorem dX3_glassesInAll_3 : decode cX3_glassesInAll 3 = .ok (.istore_n 2, 1) := by decide +kernel
theorem dX3_glassesInAll_4 : decode cX3_glassesInAll 4 = .ok (.iload_n 2, 1) := by decide +kernel
theorem dX3_glassesInAll_5 : decode cX3_glassesInAll 5 = .ok (.aload_n 0, 1) := by decide +kernel
theorem dX3_glassesInAll_6 : decode cX3_glassesInAll 6 = .ok (.getfield 50, 3) := by decide +kernel
theorem dX3_glassesInAll_9 : decode cX3_glassesInAll 9 = .ok (.if_icmp .ge 18, 3) := by decide +kernel
theorem dX3_glassesInAll_12 : decode cX3_glassesInAll 12 = .ok (.iload_n 1, 1) := by decide +kernel
theorem dX3_glassesInAll_13 : decode cX3_glassesInAll 13 = .ok (.aload_n 0, 1) := by decide +kernel
theorem dX3_glassesInAll_14 : decode cX3_glassesInAll 14 = .ok (.getfield 25, 3) := by decide +kernel
theorem dX3_glassesInAll_17 : decode cX3_glassesInAll 17 = .ok (.iload_n 2, 1) := by decide +kernel
theorem dX3_glassesInAll_18 : decode cX3_glassesInAll 18 = .ok (.iaload, 1) := by decide +kernel
theorem dX3_glassesInAll_19 : decode cX3_glassesInAll 19 = .ok (.iadd, 1) := by decide +kernel
theorem dX3_glassesInAll_20 : decode cX3_glassesInAll 20 = .ok (.istore_n 1, 1) := by decide +kernel
theorem dX3_glassesInAll_21 : decode cX3_glassesInAll 21 = .ok (.iinc 2 1, 3) := by decide +kernel
theorem dX3_glassesInAll_24 : decode cX3_glassesInAll 24 = .ok (.goto (-20), 3) := by decide +kernel
theorem dX3_glassesInAll_27 : decode cX3_glassesInAll 27 = .ok (.iload_n 1, 1) := by decide +kernel
theorem dX3_glassesInAll_28 : decode cX3_glassesInAll 28 = .ok (.ireturn, 1) := by decide +kernel
theorem dX3_drunkAfter_0 : decode cX3_drunkAfter 0 = .ok (.iconst 0, 1) := by decide +kernel
theorem dX3_drunkAfter_1 : decode cX3_drunkAfter 1 = .ok (.bipush 10, 2) := by decide +kernel
theorem dX3_drunkAfter_3 : decode cX3_drunkAfter 3 = .ok (.iload_n 1, 1) := by decide +kernel
theorem dX3_drunkAfter_4 : decode cX3_drunkAfter 4 = .ok (.imul, 1) := by decide +kernel
theorem dX3_drunkAfter_5 : decode cX3_drunkAfter 5 = .ok (.aload_n 0, 1) := by decide +kernel
theorem dX3_drunkAfter_6 : decode cX3_drunkAfter 6 = .ok (.getfield 72, 3) := by decide +kernel
theorem dX3_drunkAfter_9 : decode cX3_drunkAfter 9 = .ok (.iload_n 2, 1) := by decide +kernel
theorem dX3_drunkAfter_10 : decode cX3_drunkAfter 10 = .ok (.bipush 60, 2) := by decide +kernel
theorem dX3_drunkAfter_12 : decode cX3_drunkAfter 12 = .ok (.idiv, 1) := by decide +kernel
theorem dX3_drunkAfter_13 : decode cX3_drunkAfter 13 = .ok (.imul, 1) := by decide +kernel
theorem dX3_drunkAfter_14 : decode cX3_drunkAfter 14 = .ok (.isub, 1) := by decide +kernel
theorem dX3_drunkAfter_15 : decode cX3_drunkAfter 15 = .ok (.invokestatic 95, 3) := by decide +kernel
theorem dX3_drunkAfter_18 : decode cX3_drunkAfter 18 = .ok (.ireturn, 1) := by decide +kernel
theorem dX3_mayDrive_0 : decode cX3_mayDrive 0 = .ok (.aload_n 0, 1) := by decide +kernel
theorem dX3_mayDrive_1 : decode cX3_mayDrive 1 = .ok (.getfield 59, 3) := by decide +kernel
theorem dX3_mayDrive_4 : decode cX3_mayDrive 4 = .ok (.iload_n 1, 1) := by decide +kernel
theorem dX3_mayDrive_5 : decode cX3_mayDrive 5 = .ok (.invokestatic 98, 3) := by decide +kernel
theorem dX3_mayDrive_8 : decode cX3_mayDrive 8 = .ok (.ifCond .ne 20, 3) := by decide +kernel
theorem dX3_mayDrive_11 : decode cX3_mayDrive 11 = .ok (.aload_n 0, 1) := by decide +kernel
theorem dX3_mayDrive_12 : decode cX3_mayDrive 12 = .ok (.getfield 19, 3) := by decide +kernel
theorem dX3_mayDrive_15 : decode cX3_mayDrive 15 = .ok (.iload_n 1, 1) := by decide +kernel
theorem dX3_mayDrive_16 : decode cX3_mayDrive 16 = .ok (.iaload, 1) := by decide +kernel
theorem dX3_mayDrive_17 : decode cX3_mayDrive 17 = .ok (.iconst 2, 1) := by decide +kernel
theorem dX3_mayDrive_18 : decode cX3_mayDrive 18 = .ok (.invokestatic 90, 3) := by decide +kernel
theorem dX3_mayDrive_21 : decode cX3_mayDrive 21 = .ok (.ifCond .eq 9, 3) := by decide +kernel
theorem dX3_mayDrive_24 : decode cX3_mayDrive 24 = .ok (.iload_n 2, 1) := by decide +kernel
theorem dX3_mayDrive_25 : decode cX3_mayDrive 25 = .ok (.ifCond .le 5, 3) := by decide +kernel
theorem dX3_mayDrive_28 : decode cX3_mayDrive 28 = .ok (.iconst 0, 1) := by decide +kernel
theorem dX3_mayDrive_29 : decode cX3_mayDrive 29 = .ok (.ireturn, 1) := by decide +kernel
theorem dX3_mayDrive_30 : decode cX3_mayDrive 30 = .ok (.aload_n 0, 1) := by decide +kernel
theorem dX3_mayDrive_31 : decode cX3_mayDrive 31 = .ok (.iload_n 2, 1) := by decide +kernel
theorem dX3_mayDrive_32 : decode cX3_mayDrive 32 = .ok (.iload_n 3, 1) := by decide +kernel
theorem dX3_mayDrive_33 : decode cX3_mayDrive 33 = .ok (.invokevirtual 101, 3) := by decide +kernel
theorem dX3_mayDrive_36 : decode cX3_mayDrive 36 = .ok (.aload_n 0, 1) := by decide +kernel
theorem dX3_mayDrive_37 : decode cX3_mayDrive 37 = .ok (.getfield 69, 3) := by decide +kernel
theorem dX3_mayDrive_40 : decode cX3_mayDrive 40 = .ok (.if_icmp .gt 7, 3) := by decide +kernel
theorem dX3_mayDrive_43 : decode cX3_mayDrive 43 = .ok (.iconst 1, 1) := by decide +kernel
theorem dX3_mayDrive_44 : decode cX3_mayDrive 44 = .ok (.goto 4, 3) := by decide +kernel
theorem dX3_mayDrive_47 : decode cX3_mayDrive 47 = .ok (.iconst 0, 1) := by decide +kernel
theorem dX3_mayDrive_48 : decode cX3_mayDrive 48 = .ok (.ireturn, 1) := by decide +kernel
theorem dX3_reaches_0 : decode cX3_reaches 0 = .ok (.aload_n 0, 1) := by decide +kernel
theorem dX3_reaches_1 : decode cX3_reaches 1 = .ok (.getfield 22, 3) := by decide +kernel
theorem dX3_reaches_4 : decode cX3_reaches 4 = .ok (.iload_n 2, 1) := by decide +kernel
theorem dX3_reaches_5 : decode cX3_reaches 5 = .ok (.iaload, 1) := by decide +kernel
theorem dX3_reaches_6 : decode cX3_reaches 6 = .ok (.istore_n 3, 1) := by decide +kernel
theorem dX3_reaches_7 : decode cX3_reaches 7 = .ok (.aload_n 0, 1) := by decide +kernel
theorem dX3_reaches_8 : decode cX3_reaches 8 = .ok (.iconst 0, 1) := by decide +kernel
theorem dX3_reaches_9 : decode cX3_reaches 9 = .ok (.iload_n 3, 1) := by decide +kernel
theorem dX3_reaches_10 : decode cX3_reaches 10 = .ok (.invokevirtual 104, 3) := by decide +kernel
theorem dX3_reaches_13 : decode cX3_reaches 13 = .ok (.ifCond .eq 28, 3) := by decide +kernel
theorem dX3_reaches_16 : decode cX3_reaches 16 = .ok (.aload_n 0, 1) := by decide +kernel
theorem dX3_reaches_17 : decode cX3_reaches 17 = .ok (.getfield 56, 3) := by decide +kernel
theorem dX3_reaches_20 : decode cX3_reaches 20 = .ok (.iload_n 3, 1) := by decide +kernel
theorem dX3_reaches_21 : decode cX3_reaches 21 = .ok (.invokestatic 98, 3) := by decide +kernel
theorem dX3_reaches_24 : decode cX3_reaches 24 = .ok (.ifCond .eq 13, 3) := by decide +kernel
theorem dX3_reaches_27 : decode cX3_reaches 27 = .ok (.aload_n 0, 1) := by decide +kernel
theorem dX3_reaches_28 : decode cX3_reaches 28 = .ok (.getfield 37, 3) := by decide +kernel
theorem dX3_reaches_31 : decode cX3_reaches 31 = .ok (.iload_n 1, 1) := by decide +kernel
theorem dX3_reaches_32 : decode cX3_reaches 32 = .ok (.iaload, 1) := by decide +kernel
theorem dX3_reaches_33 : decode cX3_reaches 33 = .ok (.iconst 1, 1) := by decide +kernel
theorem dX3_reaches_34 : decode cX3_reaches 34 = .ok (.if_icmp .ne 7, 3) := by decide +kernel
theorem dX3_reaches_37 : decode cX3_reaches 37 = .ok (.iconst 1, 1) := by decide +kernel
theorem dX3_reaches_38 : decode cX3_reaches 38 = .ok (.goto 4, 3) := by decide +kernel
theorem dX3_reaches_41 : decode cX3_reaches 41 = .ok (.iconst 0, 1) := by decide +kernel
theorem dX3_reaches_42 : decode cX3_reaches 42 = .ok (.ireturn, 1) := by decide +kernel
theorem dX3_carsThatGo_0 : decode cX3_carsThatGo 0 = .ok (.iconst 0, 1) := by decide +kernel
theorem dX3_carsThatGo_1 : decode cX3_carsThatGo 1 = .ok (.istore_n 2, 1) := by decide +kernel
theorem dX3_carsThatGo_2 : decode cX3_carsThatGo 2 = .ok (.iconst 0, 1) := by decide +kernel
theorem dX3_carsThatGo_3 : decode cX3_carsThatGo 3 = .ok (.istore_n 3, 1) := by decide +kernel
theorem dX3_carsThatGo_4 : decode cX3_carsThatGo 4 = .ok (.iload_n 3, 1) := by decide +kernel
theorem dX3_carsThatGo_5 : decode cX3_carsThatGo 5 = .ok (.aload_n 0, 1) := by decide +kernel
theorem dX3_carsThatGo_6 : decode cX3_carsThatGo 6 = .ok (.getfield 53, 3) := by decide +kernel
theorem dX3_carsThatGo_9 : decode cX3_carsThatGo 9 = .ok (.if_icmp .ge 50, 3) := by decide +kernel
theorem dX3_carsThatGo_12 : decode cX3_carsThatGo 12 = .ok (.aload_n 0, 1) := by decide +kernel
theorem dX3_carsThatGo_13 : decode cX3_carsThatGo 13 = .ok (.getfield 31, 3) := by decide +kernel
theorem dX3_carsThatGo_16 : decode cX3_carsThatGo 16 = .ok (.iload_n 3, 1) := by decide +kernel
theorem dX3_carsThatGo_17 : decode cX3_carsThatGo 17 = .ok (.iaload, 1) := by decide +kernel
theorem dX3_carsThatGo_18 : decode cX3_carsThatGo 18 = .ok (.istore 4, 2) := by decide +kernel
theorem dX3_carsThatGo_20 : decode cX3_carsThatGo 20 = .ok (.aload_n 0, 1) := by decide +kernel
theorem dX3_carsThatGo_21 : decode cX3_carsThatGo 21 = .ok (.iload 4, 2) := by decide +kernel
theorem dX3_carsThatGo_23 : decode cX3_carsThatGo 23 = .ok (.aload_n 0, 1) := by decide +kernel
theorem dX3_carsThatGo_24 : decode cX3_carsThatGo 24 = .ok (.getfield 25, 3) := by decide +kernel
theorem dX3_carsThatGo_27 : decode cX3_carsThatGo 27 = .ok (.iload 4, 2) := by decide +kernel
theorem dX3_carsThatGo_29 : decode cX3_carsThatGo 29 = .ok (.iaload, 1) := by decide +kernel
theorem dX3_carsThatGo_30 : decode cX3_carsThatGo 30 = .ok (.iload_n 1, 1) := by decide +kernel
theorem dX3_carsThatGo_31 : decode cX3_carsThatGo 31 = .ok (.invokevirtual 107, 3) := by decide +kernel
theorem dX3_carsThatGo_34 : decode cX3_carsThatGo 34 = .ok (.ifCond .eq 19, 3) := by decide +kernel
theorem dX3_carsThatGo_37 : decode cX3_carsThatGo 37 = .ok (.aload_n 0, 1) := by decide +kernel
theorem dX3_carsThatGo_38 : decode cX3_carsThatGo 38 = .ok (.iload_n 3, 1) := by decide +kernel
theorem dX3_carsThatGo_39 : decode cX3_carsThatGo 39 = .ok (.iload 4, 2) := by decide +kernel
theorem dX3_carsThatGo_41 : decode cX3_carsThatGo 41 = .ok (.invokevirtual 111, 3) := by decide +kernel
theorem dX3_carsThatGo_44 : decode cX3_carsThatGo 44 = .ok (.ifCond .eq 9, 3) := by decide +kernel
theorem dX3_carsThatGo_47 : decode cX3_carsThatGo 47 = .ok (.iload_n 2, 1) := by decide +kernel
theorem dX3_carsThatGo_48 : decode cX3_carsThatGo 48 = .ok (.iconst 1, 1) := by decide +kernel
theorem dX3_carsThatGo_49 : decode cX3_carsThatGo 49 = .ok (.iload_n 3, 1) := by decide +kernel
theorem dX3_carsThatGo_50 : decode cX3_carsThatGo 50 = .ok (.ishl, 1) := by decide +kernel
theorem dX3_carsThatGo_51 : decode cX3_carsThatGo 51 = .ok (.ior, 1) := by decide +kernel
theorem dX3_carsThatGo_52 : decode cX3_carsThatGo 52 = .ok (.istore_n 2, 1) := by decide +kernel
theorem dX3_carsThatGo_53 : decode cX3_carsThatGo 53 = .ok (.iinc 3 1, 3) := by decide +kernel
theorem dX3_carsThatGo_56 : decode cX3_carsThatGo 56 = .ok (.goto (-52), 3) := by decide +kernel
theorem dX3_carsThatGo_59 : decode cX3_carsThatGo 59 = .ok (.iload_n 2, 1) := by decide +kernel
theorem dX3_carsThatGo_60 : decode cX3_carsThatGo 60 = .ok (.ireturn, 1) := by decide +kernel
theorem dX3_hasRoomFor_0 : decode cX3_hasRoomFor 0 = .ok (.iload_n 2, 1) := by decide +kernel
theorem dX3_hasRoomFor_1 : decode cX3_hasRoomFor 1 = .ok (.iconst 1, 1) := by decide +kernel
theorem dX3_hasRoomFor_2 : decode cX3_hasRoomFor 2 = .ok (.aload_n 0, 1) := by decide +kernel
theorem dX3_hasRoomFor_3 : decode cX3_hasRoomFor 3 = .ok (.getfield 31, 3) := by decide +kernel
theorem dX3_hasRoomFor_6 : decode cX3_hasRoomFor 6 = .ok (.iload_n 1, 1) := by decide +kernel
theorem dX3_hasRoomFor_7 : decode cX3_hasRoomFor 7 = .ok (.iaload, 1) := by decide +kernel
theorem dX3_hasRoomFor_8 : decode cX3_hasRoomFor 8 = .ok (.ishl, 1) := by decide +kernel
theorem dX3_hasRoomFor_9 : decode cX3_hasRoomFor 9 = .ok (.ior, 1) := by decide +kernel
theorem dX3_hasRoomFor_10 : decode cX3_hasRoomFor 10 = .ok (.istore 4, 2) := by decide +kernel
theorem dX3_hasRoomFor_12 : decode cX3_hasRoomFor 12 = .ok (.iload_n 2, 1) := by decide +kernel
theorem dX3_hasRoomFor_13 : decode cX3_hasRoomFor 13 = .ok (.invokestatic 114, 3) := by decide +kernel
theorem dX3_hasRoomFor_16 : decode cX3_hasRoomFor 16 = .ok (.aload_n 0, 1) := by decide +kernel
theorem dX3_hasRoomFor_17 : decode cX3_hasRoomFor 17 = .ok (.getfield 34, 3) := by decide +kernel
theorem dX3_hasRoomFor_20 : decode cX3_hasRoomFor 20 = .ok (.iload_n 1, 1) := by decide +kernel
theorem dX3_hasRoomFor_21 : decode cX3_hasRoomFor 21 = .ok (.iaload, 1) := by decide +kernel
theorem dX3_hasRoomFor_22 : decode cX3_hasRoomFor 22 = .ok (.if_icmp .ge 28, 3) := by decide +kernel
theorem dX3_hasRoomFor_25 : decode cX3_hasRoomFor 25 = .ok (.aload_n 0, 1) := by decide +kernel
theorem dX3_hasRoomFor_26 : decode cX3_hasRoomFor 26 = .ok (.getfield 28, 3) := by decide +kernel
theorem dX3_hasRoomFor_29 : decode cX3_hasRoomFor 29 = .ok (.iload_n 3, 1) := by decide +kernel
theorem dX3_hasRoomFor_30 : decode cX3_hasRoomFor 30 = .ok (.iaload, 1) := by decide +kernel
theorem dX3_hasRoomFor_31 : decode cX3_hasRoomFor 31 = .ok (.iload 4, 2) := by decide +kernel
theorem dX3_hasRoomFor_33 : decode cX3_hasRoomFor 33 = .ok (.iand, 1) := by decide +kernel
theorem dX3_hasRoomFor_34 : decode cX3_hasRoomFor 34 = .ok (.ifCond .ne 16, 3) := by decide +kernel
theorem dX3_hasRoomFor_37 : decode cX3_hasRoomFor 37 = .ok (.aload_n 0, 1) := by decide +kernel
theorem dX3_hasRoomFor_38 : decode cX3_hasRoomFor 38 = .ok (.iload_n 1, 1) := by decide +kernel
theorem dX3_hasRoomFor_39 : decode cX3_hasRoomFor 39 = .ok (.iload_n 3, 1) := by decide +kernel
theorem dX3_hasRoomFor_40 : decode cX3_hasRoomFor 40 = .ok (.invokevirtual 111, 3) := by decide +kernel
theorem dX3_hasRoomFor_43 : decode cX3_hasRoomFor 43 = .ok (.ifCond .eq 7, 3) := by decide +kernel
theorem dX3_hasRoomFor_46 : decode cX3_hasRoomFor 46 = .ok (.iconst 1, 1) := by decide +kernel
theorem dX3_hasRoomFor_47 : decode cX3_hasRoomFor 47 = .ok (.goto 4, 3) := by decide +kernel
theorem dX3_hasRoomFor_50 : decode cX3_hasRoomFor 50 = .ok (.iconst 0, 1) := by decide +kernel
theorem dX3_hasRoomFor_51 : decode cX3_hasRoomFor 51 = .ok (.ireturn, 1) := by decide +kernel
theorem dX3_tripsFor_0 : decode cX3_tripsFor 0 = .ok (.aload_n 0, 1) := by decide +kernel
theorem dX3_tripsFor_1 : decode cX3_tripsFor 1 = .ok (.getfield 53, 3) := by decide +kernel
theorem dX3_tripsFor_4 : decode cX3_tripsFor 4 = .ok (.iload_n 1, 1) := by decide +kernel
theorem dX3_tripsFor_5 : decode cX3_tripsFor 5 = .ok (.invokestatic 114, 3) := by decide +kernel
theorem dX3_tripsFor_8 : decode cX3_tripsFor 8 = .ok (.isub, 1) := by decide +kernel
theorem dX3_tripsFor_9 : decode cX3_tripsFor 9 = .ok (.istore_n 2, 1) := by decide +kernel
theorem dX3_tripsFor_10 : decode cX3_tripsFor 10 = .ok (.iload_n 2, 1) := by decide +kernel
theorem dX3_tripsFor_11 : decode cX3_tripsFor 11 = .ok (.ifCond .ne 5, 3) := by decide +kernel
theorem dX3_tripsFor_14 : decode cX3_tripsFor 14 = .ok (.iconst 0, 1) := by decide +kernel
theorem dX3_tripsFor_15 : decode cX3_tripsFor 15 = .ok (.ireturn, 1) := by decide +kernel
theorem dX3_tripsFor_16 : decode cX3_tripsFor 16 = .ok (.iconst 0, 1) := by decide +kernel
theorem dX3_tripsFor_17 : decode cX3_tripsFor 17 = .ok (.istore_n 3, 1) := by decide +kernel
theorem dX3_tripsFor_18 : decode cX3_tripsFor 18 = .ok (.iconst 0, 1) := by decide +kernel
theorem dX3_tripsFor_19 : decode cX3_tripsFor 19 = .ok (.istore 4, 2) := by decide +kernel
theorem dX3_tripsFor_21 : decode cX3_tripsFor 21 = .ok (.iload 4, 2) := by decide +kernel
theorem dX3_tripsFor_23 : decode cX3_tripsFor 23 = .ok (.aload_n 0, 1) := by decide +kernel
theorem dX3_tripsFor_24 : decode cX3_tripsFor 24 = .ok (.getfield 53, 3) := by decide +kernel
theorem dX3_tripsFor_27 : decode cX3_tripsFor 27 = .ok (.if_icmp .ge 30, 3) := by decide +kernel
theorem dX3_tripsFor_30 : decode cX3_tripsFor 30 = .ok (.iload_n 1, 1) := by decide +kernel
theorem dX3_tripsFor_31 : decode cX3_tripsFor 31 = .ok (.iload 4, 2) := by decide +kernel
theorem dX3_tripsFor_33 : decode cX3_tripsFor 33 = .ok (.invokestatic 98, 3) := by decide +kernel
theorem dX3_tripsFor_36 : decode cX3_tripsFor 36 = .ok (.ifCond .eq 15, 3) := by decide +kernel
theorem dX3_tripsFor_39 : decode cX3_tripsFor 39 = .ok (.iload_n 3, 1) := by decide +kernel
theorem dX3_tripsFor_40 : decode cX3_tripsFor 40 = .ok (.aload_n 0, 1) := by decide +kernel
theorem dX3_tripsFor_41 : decode cX3_tripsFor 41 = .ok (.getfield 34, 3) := by decide +kernel
theorem dX3_tripsFor_44 : decode cX3_tripsFor 44 = .ok (.iload 4, 2) := by decide +kernel
theorem dX3_tripsFor_46 : decode cX3_tripsFor 46 = .ok (.iaload, 1) := by decide +kernel
theorem dX3_tripsFor_47 : decode cX3_tripsFor 47 = .ok (.invokestatic 95, 3) := by decide +kernel
theorem dX3_tripsFor_50 : decode cX3_tripsFor 50 = .ok (.istore_n 3, 1) := by decide +kernel
theorem dX3_tripsFor_51 : decode cX3_tripsFor 51 = .ok (.iinc 4 1, 3) := by decide +kernel
theorem dX3_tripsFor_54 : decode cX3_tripsFor 54 = .ok (.goto (-33), 3) := by decide +kernel
theorem dX3_tripsFor_57 : decode cX3_tripsFor 57 = .ok (.iload_n 3, 1) := by decide +kernel
theorem dX3_tripsFor_58 : decode cX3_tripsFor 58 = .ok (.aload_n 0, 1) := by decide +kernel
theorem dX3_tripsFor_59 : decode cX3_tripsFor 59 = .ok (.invokevirtual 120, 3) := by decide +kernel
theorem dX3_tripsFor_62 : decode cX3_tripsFor 62 = .ok (.iconst 1, 1) := by decide +kernel
theorem dX3_tripsFor_63 : decode cX3_tripsFor 63 = .ok (.isub, 1) := by decide +kernel
theorem dX3_tripsFor_64 : decode cX3_tripsFor 64 = .ok (.invokestatic 85, 3) := by decide +kernel
theorem dX3_tripsFor_67 : decode cX3_tripsFor 67 = .ok (.istore 4, 2) := by decide +kernel
theorem dX3_tripsFor_69 : decode cX3_tripsFor 69 = .ok (.iload 4, 2) := by decide +kernel
theorem dX3_tripsFor_71 : decode cX3_tripsFor 71 = .ok (.iconst 1, 1) := by decide +kernel
theorem dX3_tripsFor_72 : decode cX3_tripsFor 72 = .ok (.if_icmp .ge 8, 3) := by decide +kernel
theorem dX3_tripsFor_75 : decode cX3_tripsFor 75 = .ok (.ldc 94, 2) := by decide +kernel
theorem dX3_tripsFor_77 : decode cX3_tripsFor 77 = .ok (.goto 12, 3) := by decide +kernel
theorem dX3_tripsFor_80 : decode cX3_tripsFor 80 = .ok (.iload_n 2, 1) := by decide +kernel
theorem dX3_tripsFor_81 : decode cX3_tripsFor 81 = .ok (.iload 4, 2) := by decide +kernel
theorem dX3_tripsFor_83 : decode cX3_tripsFor 83 = .ok (.iadd, 1) := by decide +kernel
theorem dX3_tripsFor_84 : decode cX3_tripsFor 84 = .ok (.iconst 1, 1) := by decide +kernel
theorem dX3_tripsFor_85 : decode cX3_tripsFor 85 = .ok (.isub, 1) := by decide +kernel
theorem dX3_tripsFor_86 : decode cX3_tripsFor 86 = .ok (.iload 4, 2) := by decide +kernel
theorem dX3_tripsFor_88 : decode cX3_tripsFor 88 = .ok (.idiv, 1) := by decide +kernel
theorem dX3_tripsFor_89 : decode cX3_tripsFor 89 = .ok (.ireturn, 1) := by decide +kernel
theorem dX3_peopleWhoDriveOnSunday_0 : decode cX3_peopleWhoDriveOnSunday 0 = .ok (.iconst 0, 1) := by decide +kernel
theorem dX3_peopleWhoDriveOnSunday_1 : decode cX3_peopleWhoDriveOnSunday 1 = .ok (.istore_n 1, 1) := by decide +kernel
theorem dX3_peopleWhoDriveOnSunday_2 : decode cX3_peopleWhoDriveOnSunday 2 = .ok (.iconst 0, 1) := by decide +kernel
theorem dX3_peopleWhoDriveOnSunday_3 : decode cX3_peopleWhoDriveOnSunday 3 = .ok (.istore_n 2, 1) := by decide +kernel
theorem dX3_peopleWhoDriveOnSunday_4 : decode cX3_peopleWhoDriveOnSunday 4 = .ok (.iload_n 2, 1) := by decide +kernel
theorem dX3_peopleWhoDriveOnSunday_5 : decode cX3_peopleWhoDriveOnSunday 5 = .ok (.aload_n 0, 1) := by decide +kernel
theorem dX3_peopleWhoDriveOnSunday_6 : decode cX3_peopleWhoDriveOnSunday 6 = .ok (.getfield 50, 3) := by decide +kernel
theorem dX3_peopleWhoDriveOnSunday_9 : decode cX3_peopleWhoDriveOnSunday 9 = .ok (.if_icmp .ge 25, 3) := by decide +kernel
theorem dX3_peopleWhoDriveOnSunday_12 : decode cX3_peopleWhoDriveOnSunday 12 = .ok (.aload_n 0, 1) := by decide +kernel
theorem dX3_peopleWhoDriveOnSunday_13 : decode cX3_peopleWhoDriveOnSunday 13 = .ok (.getfield 19, 3) := by decide +kernel
theorem dX3_peopleWhoDriveOnSunday_16 : decode cX3_peopleWhoDriveOnSunday 16 = .ok (.iload_n 2, 1) := by decide +kernel
theorem dX3_peopleWhoDriveOnSunday_17 : decode cX3_peopleWhoDriveOnSunday 17 = .ok (.iaload, 1) := by decide +kernel
theorem dX3_peopleWhoDriveOnSunday_18 : decode cX3_peopleWhoDriveOnSunday 18 = .ok (.iconst 5, 1) := by decide +kernel
theorem dX3_peopleWhoDriveOnSunday_19 : decode cX3_peopleWhoDriveOnSunday 19 = .ok (.invokestatic 90, 3) := by decide +kernel
theorem dX3_peopleWhoDriveOnSunday_22 : decode cX3_peopleWhoDriveOnSunday 22 = .ok (.ifCond .ne 6, 3) := by decide +kernel
theorem dX3_peopleWhoDriveOnSunday_25 : decode cX3_peopleWhoDriveOnSunday 25 = .ok (.iinc 1 1, 3) := by decide +kernel
theorem dX3_peopleWhoDriveOnSunday_28 : decode cX3_peopleWhoDriveOnSunday 28 = .ok (.iinc 2 1, 3) := by decide +kernel
theorem dX3_peopleWhoDriveOnSunday_31 : decode cX3_peopleWhoDriveOnSunday 31 = .ok (.goto (-27), 3) := by decide +kernel
theorem dX3_peopleWhoDriveOnSunday_34 : decode cX3_peopleWhoDriveOnSunday 34 = .ok (.iload_n 1, 1) := by decide +kernel
theorem dX3_peopleWhoDriveOnSunday_35 : decode cX3_peopleWhoDriveOnSunday 35 = .ok (.ireturn, 1) := by decide +kernel
theorem dX3_bestHouse_0 : decode cX3_bestHouse 0 = .ok (.ldc 94, 2) := by decide +kernel
theorem dX3_bestHouse_2 : decode cX3_bestHouse 2 = .ok (.istore_n 1, 1) := by decide +kernel
theorem dX3_bestHouse_3 : decode cX3_bestHouse 3 = .ok (.ldc 62, 2) := by decide +kernel
theorem dX3_bestHouse_5 : decode cX3_bestHouse 5 = .ok (.istore_n 2, 1) := by decide +kernel
theorem dX3_bestHouse_6 : decode cX3_bestHouse 6 = .ok (.iconst 0, 1) := by decide +kernel
theorem dX3_bestHouse_7 : decode cX3_bestHouse 7 = .ok (.istore_n 3, 1) := by decide +kernel
theorem dX3_bestHouse_8 : decode cX3_bestHouse 8 = .ok (.iload_n 3, 1) := by decide +kernel
theorem dX3_bestHouse_9 : decode cX3_bestHouse 9 = .ok (.aload_n 0, 1) := by decide +kernel
theorem dX3_bestHouse_10 : decode cX3_bestHouse 10 = .ok (.getfield 50, 3) := by decide +kernel
theorem dX3_bestHouse_13 : decode cX3_bestHouse 13 = .ok (.if_icmp .ge 27, 3) := by decide +kernel
theorem dX3_bestHouse_16 : decode cX3_bestHouse 16 = .ok (.aload_n 0, 1) := by decide +kernel
theorem dX3_bestHouse_17 : decode cX3_bestHouse 17 = .ok (.iload_n 3, 1) := by decide +kernel
theorem dX3_bestHouse_18 : decode cX3_bestHouse 18 = .ok (.invokevirtual 124, 3) := by decide +kernel
theorem dX3_bestHouse_21 : decode cX3_bestHouse 21 = .ok (.istore 4, 2) := by decide +kernel
theorem dX3_bestHouse_23 : decode cX3_bestHouse 23 = .ok (.iload 4, 2) := by decide +kernel
theorem dX3_bestHouse_25 : decode cX3_bestHouse 25 = .ok (.iload_n 2, 1) := by decide +kernel
theorem dX3_bestHouse_26 : decode cX3_bestHouse 26 = .ok (.if_icmp .ge 8, 3) := by decide +kernel
theorem dX3_bestHouse_29 : decode cX3_bestHouse 29 = .ok (.iload 4, 2) := by decide +kernel
theorem dX3_bestHouse_31 : decode cX3_bestHouse 31 = .ok (.istore_n 2, 1) := by decide +kernel
theorem dX3_bestHouse_32 : decode cX3_bestHouse 32 = .ok (.iload_n 3, 1) := by decide +kernel
theorem dX3_bestHouse_33 : decode cX3_bestHouse 33 = .ok (.istore_n 1, 1) := by decide +kernel
theorem dX3_bestHouse_34 : decode cX3_bestHouse 34 = .ok (.iinc 3 1, 3) := by decide +kernel
theorem dX3_bestHouse_37 : decode cX3_bestHouse 37 = .ok (.goto (-29), 3) := by decide +kernel
theorem dX3_bestHouse_40 : decode cX3_bestHouse 40 = .ok (.iload_n 1, 1) := by decide +kernel
theorem dX3_bestHouse_41 : decode cX3_bestHouse 41 = .ok (.ireturn, 1) := by decide +kernel
theorem dX3_farFromAll_0 : decode cX3_farFromAll 0 = .ok (.iconst 0, 1) := by decide +kernel
theorem dX3_farFromAll_1 : decode cX3_farFromAll 1 = .ok (.istore_n 2, 1) := by decide +kernel
theorem dX3_farFromAll_2 : decode cX3_farFromAll 2 = .ok (.iconst 0, 1) := by decide +kernel
theorem dX3_farFromAll_3 : decode cX3_farFromAll 3 = .ok (.istore_n 3, 1) := by decide +kernel
theorem dX3_farFromAll_4 : decode cX3_farFromAll 4 = .ok (.iload_n 3, 1) := by decide +kernel
theorem dX3_farFromAll_5 : decode cX3_farFromAll 5 = .ok (.aload_n 0, 1) := by decide +kernel
theorem dX3_farFromAll_6 : decode cX3_farFromAll 6 = .ok (.getfield 50, 3) := by decide +kernel
theorem dX3_farFromAll_9 : decode cX3_farFromAll 9 = .ok (.if_icmp .ge 28, 3) := by decide +kernel
theorem dX3_farFromAll_12 : decode cX3_farFromAll 12 = .ok (.iload_n 2, 1) := by decide +kernel
theorem dX3_farFromAll_13 : decode cX3_farFromAll 13 = .ok (.aload_n 0, 1) := by decide +kernel
theorem dX3_farFromAll_14 : decode cX3_farFromAll 14 = .ok (.aload_n 0, 1) := by decide +kernel
theorem dX3_farFromAll_15 : decode cX3_farFromAll 15 = .ok (.getfield 22, 3) := by decide +kernel
theorem dX3_farFromAll_18 : decode cX3_farFromAll 18 = .ok (.iload_n 1, 1) := by decide +kernel
theorem dX3_farFromAll_19 : decode cX3_farFromAll 19 = .ok (.iaload, 1) := by decide +kernel
theorem dX3_farFromAll_20 : decode cX3_farFromAll 20 = .ok (.aload_n 0, 1) := by decide +kernel
theorem dX3_farFromAll_21 : decode cX3_farFromAll 21 = .ok (.getfield 22, 3) := by decide +kernel
theorem dX3_farFromAll_24 : decode cX3_farFromAll 24 = .ok (.iload_n 3, 1) := by decide +kernel
theorem dX3_farFromAll_25 : decode cX3_farFromAll 25 = .ok (.iaload, 1) := by decide +kernel
theorem dX3_farFromAll_26 : decode cX3_farFromAll 26 = .ok (.invokevirtual 81, 3) := by decide +kernel
theorem dX3_farFromAll_29 : decode cX3_farFromAll 29 = .ok (.iadd, 1) := by decide +kernel
theorem dX3_farFromAll_30 : decode cX3_farFromAll 30 = .ok (.istore_n 2, 1) := by decide +kernel
theorem dX3_farFromAll_31 : decode cX3_farFromAll 31 = .ok (.iinc 3 1, 3) := by decide +kernel
theorem dX3_farFromAll_34 : decode cX3_farFromAll 34 = .ok (.goto (-30), 3) := by decide +kernel
theorem dX3_farFromAll_37 : decode cX3_farFromAll 37 = .ok (.iload_n 2, 1) := by decide +kernel
theorem dX3_farFromAll_38 : decode cX3_farFromAll 38 = .ok (.ireturn, 1) := by decide +kernel
theorem dX4_forget_0 : decode cX4_forget 0 = .ok (.aload_n 0, 1) := by decide +kernel
theorem dX4_forget_1 : decode cX4_forget 1 = .ok (.iconst (-1), 1) := by decide +kernel
theorem dX4_forget_2 : decode cX4_forget 2 = .ok (.putfield 18, 3) := by decide +kernel
theorem dX4_forget_5 : decode cX4_forget 5 = .ok (.aload_n 0, 1) := by decide +kernel
theorem dX4_forget_6 : decode cX4_forget 6 = .ok (.getfield 9, 3) := by decide +kernel
theorem dX4_forget_9 : decode cX4_forget 9 = .ok (.iconst (-1), 1) := by decide +kernel
theorem dX4_forget_10 : decode cX4_forget 10 = .ok (.invokestatic 40, 3) := by decide +kernel
theorem dX4_forget_13 : decode cX4_forget 13 = .ok (.return_, 1) := by decide +kernel
theorem dX4_ridersOf_0 : decode cX4_ridersOf 0 = .ok (.aload_n 0, 1) := by decide +kernel
theorem dX4_ridersOf_1 : decode cX4_ridersOf 1 = .ok (.getfield 15, 3) := by decide +kernel
theorem dX4_ridersOf_4 : decode cX4_ridersOf 4 = .ok (.iload_n 1, 1) := by decide +kernel
theorem dX4_ridersOf_5 : decode cX4_ridersOf 5 = .ok (.iaload, 1) := by decide +kernel
theorem dX4_ridersOf_6 : decode cX4_ridersOf 6 = .ok (.ireturn, 1) := by decide +kernel
theorem dX4_plan_0 : decode cX4_plan 0 = .ok (.aload_n 0, 1) := by decide +kernel
theorem dX4_plan_1 : decode cX4_plan 1 = .ok (.getfield 18, 3) := by decide +kernel
theorem dX4_plan_4 : decode cX4_plan 4 = .ok (.iload_n 2, 1) := by decide +kernel
theorem dX4_plan_5 : decode cX4_plan 5 = .ok (.if_icmp .ne 4, 3) := by decide +kernel
theorem dX4_plan_8 : decode cX4_plan 8 = .ok (.return_, 1) := by decide +kernel
theorem dX4_plan_9 : decode cX4_plan 9 = .ok (.aload_n 0, 1) := by decide +kernel
theorem dX4_plan_10 : decode cX4_plan 10 = .ok (.iload_n 2, 1) := by decide +kernel
theorem dX4_plan_11 : decode cX4_plan 11 = .ok (.putfield 18, 3) := by decide +kernel
theorem dX4_plan_14 : decode cX4_plan 14 = .ok (.aload_n 0, 1) := by decide +kernel
theorem dX4_plan_15 : decode cX4_plan 15 = .ok (.iload_n 2, 1) := by decide +kernel
theorem dX4_plan_16 : decode cX4_plan 16 = .ok (.putfield 46, 3) := by decide +kernel
theorem dX4_plan_19 : decode cX4_plan 19 = .ok (.aload_n 0, 1) := by decide +kernel
theorem dX4_plan_20 : decode cX4_plan 20 = .ok (.iconst 0, 1) := by decide +kernel
theorem dX4_plan_21 : decode cX4_plan 21 = .ok (.putfield 49, 3) := by decide +kernel
theorem dX4_plan_24 : decode cX4_plan 24 = .ok (.iconst 0, 1) := by decide +kernel
theorem dX4_plan_25 : decode cX4_plan 25 = .ok (.istore_n 3, 1) := by decide +kernel
theorem dX4_plan_26 : decode cX4_plan 26 = .ok (.iload_n 3, 1) := by decide +kernel
theorem dX4_plan_27 : decode cX4_plan 27 = .ok (.iconst 3, 1) := by decide +kernel
theorem dX4_plan_28 : decode cX4_plan 28 = .ok (.if_icmp .ge 37, 3) := by decide +kernel
theorem dX4_plan_31 : decode cX4_plan 31 = .ok (.aload_n 0, 1) := by decide +kernel
theorem dX4_plan_32 : decode cX4_plan 32 = .ok (.getfield 46, 3) := by decide +kernel
theorem dX4_plan_35 : decode cX4_plan 35 = .ok (.iload_n 3, 1) := by decide +kernel
theorem dX4_plan_36 : decode cX4_plan 36 = .ok (.invokestatic 52, 3) := by decide +kernel
theorem dX4_plan_39 : decode cX4_plan 39 = .ok (.ifCond .eq 20, 3) := by decide +kernel
theorem dX4_plan_42 : decode cX4_plan 42 = .ok (.aload_n 0, 1) := by decide +kernel
theorem dX4_plan_43 : decode cX4_plan 43 = .ok (.dup, 1) := by decide +kernel
theorem dX4_plan_44 : decode cX4_plan 44 = .ok (.getfield 49, 3) := by decide +kernel
theorem dX4_plan_47 : decode cX4_plan 47 = .ok (.iconst 1, 1) := by decide +kernel
theorem dX4_plan_48 : decode cX4_plan 48 = .ok (.aload_n 1, 1) := by decide +kernel
theorem dX4_plan_49 : decode cX4_plan 49 = .ok (.getfield 56, 3) := by decide +kernel
theorem dX4_plan_52 : decode cX4_plan 52 = .ok (.iload_n 3, 1) := by decide +kernel
theorem dX4_plan_53 : decode cX4_plan 53 = .ok (.iaload, 1) := by decide +kernel
theorem dX4_plan_54 : decode cX4_plan 54 = .ok (.ishl, 1) := by decide +kernel
theorem dX4_plan_55 : decode cX4_plan 55 = .ok (.ior, 1) := by decide +kernel
theorem dX4_plan_56 : decode cX4_plan 56 = .ok (.putfield 49, 3) := by decide +kernel
theorem dX4_plan_59 : decode cX4_plan 59 = .ok (.iinc 3 1, 3) := by decide +kernel
theorem dX4_plan_62 : decode cX4_plan 62 = .ok (.goto (-36), 3) := by decide +kernel
theorem dX4_plan_65 : decode cX4_plan 65 = .ok (.aload_n 0, 1) := by decide +kernel
theorem dX4_plan_66 : decode cX4_plan 66 = .ok (.bipush 8, 2) := by decide +kernel
theorem dX4_plan_68 : decode cX4_plan 68 = .ok (.putfield 28, 3) := by decide +kernel
theorem dX4_plan_71 : decode cX4_plan 71 = .ok (.aload_n 0, 1) := by decide +kernel
theorem dX4_plan_72 : decode cX4_plan 72 = .ok (.aload_n 1, 1) := by decide +kernel
theorem dX4_plan_73 : decode cX4_plan 73 = .ok (.iconst 0, 1) := by decide +kernel
theorem dX4_plan_74 : decode cX4_plan 74 = .ok (.iconst 0, 1) := by decide +kernel
theorem dX4_plan_75 : decode cX4_plan 75 = .ok (.invokevirtual 61, 3) := by decide +kernel
theorem dX4_plan_78 : decode cX4_plan 78 = .ok (.return_, 1) := by decide +kernel
theorem dX4_seat_0 : decode cX4_seat 0 = .ok (.iload_n 3, 1) := by decide +kernel
theorem dX4_seat_1 : decode cX4_seat 1 = .ok (.invokestatic 65, 3) := by decide +kernel
theorem dX4_seat_4 : decode cX4_seat 4 = .ok (.aload_n 0, 1) := by decide +kernel
theorem dX4_seat_5 : decode cX4_seat 5 = .ok (.getfield 28, 3) := by decide +kernel
theorem dX4_seat_8 : decode cX4_seat 8 = .ok (.if_icmp .le 4, 3) := by decide +kernel
theorem dX4_seat_11 : decode cX4_seat 11 = .ok (.return_, 1) := by decide +kernel
theorem dX4_seat_12 : decode cX4_seat 12 = .ok (.iload_n 2, 1) := by decide +kernel
theorem dX4_seat_13 : decode cX4_seat 13 = .ok (.aload_n 1, 1) := by decide +kernel
theorem dX4_seat_14 : decode cX4_seat 14 = .ok (.getfield 71, 3) := by decide +kernel
theorem dX4_seat_17 : decode cX4_seat 17 = .ok (.if_icmp .lt 10, 3) := by decide +kernel
theorem dX4_seat_20 : decode cX4_seat 20 = .ok (.aload_n 0, 1) := by decide +kernel
theorem dX4_seat_21 : decode cX4_seat 21 = .ok (.aload_n 1, 1) := by decide +kernel
theorem dX4_seat_22 : decode cX4_seat 22 = .ok (.iload_n 3, 1) := by decide +kernel
theorem dX4_seat_23 : decode cX4_seat 23 = .ok (.invokevirtual 74, 3) := by decide +kernel
theorem dX4_seat_26 : decode cX4_seat 26 = .ok (.return_, 1) := by decide +kernel
theorem dX4_seat_27 : decode cX4_seat 27 = .ok (.iconst 1, 1) := by decide +kernel
theorem dX4_seat_28 : decode cX4_seat 28 = .ok (.iload_n 2, 1) := by decide +kernel
theorem dX4_seat_29 : decode cX4_seat 29 = .ok (.ishl, 1) := by decide +kernel
theorem dX4_seat_30 : decode cX4_seat 30 = .ok (.istore 4, 2) := by decide +kernel
theorem dX4_seat_32 : decode cX4_seat 32 = .ok (.aload_n 0, 1) := by decide +kernel
theorem dX4_seat_33 : decode cX4_seat 33 = .ok (.getfield 49, 3) := by decide +kernel
theorem dX4_seat_36 : decode cX4_seat 36 = .ok (.iload 4, 2) := by decide +kernel
theorem dX4_seat_38 : decode cX4_seat 38 = .ok (.iand, 1) := by decide +kernel
theorem dX4_seat_39 : decode cX4_seat 39 = .ok (.ifCond .eq 13, 3) := by decide +kernel
theorem dX4_seat_42 : decode cX4_seat 42 = .ok (.aload_n 0, 1) := by decide +kernel
theorem dX4_seat_43 : decode cX4_seat 43 = .ok (.aload_n 1, 1) := by decide +kernel
theorem dX4_seat_44 : decode cX4_seat 44 = .ok (.iload_n 2, 1) := by decide +kernel
theorem dX4_seat_45 : decode cX4_seat 45 = .ok (.iconst 1, 1) := by decide +kernel
theorem dX4_seat_46 : decode cX4_seat 46 = .ok (.iadd, 1) := by decide +kernel
theorem dX4_seat_47 : decode cX4_seat 47 = .ok (.iload_n 3, 1) := by decide +kernel
theorem dX4_seat_48 : decode cX4_seat 48 = .ok (.invokevirtual 61, 3) := by decide +kernel
theorem dX4_seat_51 : decode cX4_seat 51 = .ok (.return_, 1) := by decide +kernel
theorem dX4_seat_52 : decode cX4_seat 52 = .ok (.iconst 0, 1) := by decide +kernel
theorem dX4_seat_53 : decode cX4_seat 53 = .ok (.istore 5, 2) := by decide +kernel
theorem dX4_seat_55 : decode cX4_seat 55 = .ok (.iload 5, 2) := by decide +kernel
theorem dX4_seat_57 : decode cX4_seat 57 = .ok (.aload_n 1, 1) := by decide +kernel
theorem dX4_seat_58 : decode cX4_seat 58 = .ok (.getfield 78, 3) := by decide +kernel
theorem dX4_seat_61 : decode cX4_seat 61 = .ok (.if_icmp .ge 73, 3) := by decide +kernel
theorem dX4_seat_64 : decode cX4_seat 64 = .ok (.aload_n 0, 1) := by decide +kernel
theorem dX4_seat_65 : decode cX4_seat 65 = .ok (.getfield 46, 3) := by decide +kernel
theorem dX4_seat_68 : decode cX4_seat 68 = .ok (.iload 5, 2) := by decide +kernel
theorem dX4_seat_70 : decode cX4_seat 70 = .ok (.invokestatic 52, 3) := by decide +kernel
theorem dX4_seat_73 : decode cX4_seat 73 = .ok (.ifCond .eq 55, 3) := by decide +kernel
theorem dX4_seat_76 : decode cX4_seat 76 = .ok (.aload_n 1, 1) := by decide +kernel
theorem dX4_seat_77 : decode cX4_seat 77 = .ok (.iload 5, 2) := by decide +kernel
theorem dX4_seat_79 : decode cX4_seat 79 = .ok (.aload_n 0, 1) := by decide +kernel
theorem dX4_seat_80 : decode cX4_seat 80 = .ok (.getfield 31, 3) := by decide +kernel
theorem dX4_seat_83 : decode cX4_seat 83 = .ok (.iload 5, 2) := by decide +kernel
theorem dX4_seat_85 : decode cX4_seat 85 = .ok (.iaload, 1) := by decide +kernel
theorem dX4_seat_86 : decode cX4_seat 86 = .ok (.iload_n 2, 1) := by decide +kernel
theorem dX4_seat_87 : decode cX4_seat 87 = .ok (.invokevirtual 81, 3) := by decide +kernel
theorem dX4_seat_90 : decode cX4_seat 90 = .ok (.ifCond .eq 38, 3) := by decide +kernel
theorem dX4_seat_93 : decode cX4_seat 93 = .ok (.aload_n 0, 1) := by decide +kernel
theorem dX4_seat_94 : decode cX4_seat 94 = .ok (.getfield 31, 3) := by decide +kernel
theorem dX4_seat_97 : decode cX4_seat 97 = .ok (.iload 5, 2) := by decide +kernel
theorem dX4_seat_99 : decode cX4_seat 99 = .ok (.dup2, 1) := by decide +kernel
theorem dX4_seat_100 : decode cX4_seat 100 = .ok (.iaload, 1) := by decide +kernel
theorem dX4_seat_101 : decode cX4_seat 101 = .ok (.iload 4, 2) := by decide +kernel
theorem dX4_seat_103 : decode cX4_seat 103 = .ok (.ior, 1) := by decide +kernel
theorem dX4_seat_104 : decode cX4_seat 104 = .ok (.iastore, 1) := by decide +kernel
theorem dX4_seat_105 : decode cX4_seat 105 = .ok (.aload_n 0, 1) := by decide +kernel
theorem dX4_seat_106 : decode cX4_seat 106 = .ok (.aload_n 1, 1) := by decide +kernel
theorem dX4_seat_107 : decode cX4_seat 107 = .ok (.iload_n 2, 1) := by decide +kernel
theorem dX4_seat_108 : decode cX4_seat 108 = .ok (.iconst 1, 1) := by decide +kernel
theorem dX4_seat_109 : decode cX4_seat 109 = .ok (.iadd, 1) := by decide +kernel
theorem dX4_seat_110 : decode cX4_seat 110 = .ok (.iload_n 3, 1) := by decide +kernel
theorem dX4_seat_111 : decode cX4_seat 111 = .ok (.invokevirtual 61, 3) := by decide +kernel
theorem dX4_seat_114 : decode cX4_seat 114 = .ok (.aload_n 0, 1) := by decide +kernel
theorem dX4_seat_115 : decode cX4_seat 115 = .ok (.getfield 31, 3) := by decide +kernel
theorem dX4_seat_118 : decode cX4_seat 118 = .ok (.iload 5, 2) := by decide +kernel
theorem dX4_seat_120 : decode cX4_seat 120 = .ok (.dup2, 1) := by decide +kernel
theorem dX4_seat_121 : decode cX4_seat 121 = .ok (.iaload, 1) := by decide +kernel
theorem dX4_seat_122 : decode cX4_seat 122 = .ok (.iload 4, 2) := by decide +kernel
theorem dX4_seat_124 : decode cX4_seat 124 = .ok (.iconst (-1), 1) := by decide +kernel
theorem dX4_seat_125 : decode cX4_seat 125 = .ok (.ixor, 1) := by decide +kernel
theorem dX4_seat_126 : decode cX4_seat 126 = .ok (.iand, 1) := by decide +kernel
theorem dX4_seat_127 : decode cX4_seat 127 = .ok (.iastore, 1) := by decide +kernel
theorem dX4_seat_128 : decode cX4_seat 128 = .ok (.iinc 5 1, 3) := by decide +kernel
theorem dX4_seat_131 : decode cX4_seat 131 = .ok (.goto (-76), 3) := by decide +kernel
theorem dX4_seat_134 : decode cX4_seat 134 = .ok (.aload_n 0, 1) := by decide +kernel
theorem dX4_seat_135 : decode cX4_seat 135 = .ok (.aload_n 1, 1) := by decide +kernel
theorem dX4_seat_136 : decode cX4_seat 136 = .ok (.iload_n 2, 1) := by decide +kernel
theorem dX4_seat_137 : decode cX4_seat 137 = .ok (.iconst 1, 1) := by decide +kernel
theorem dX4_seat_138 : decode cX4_seat 138 = .ok (.iadd, 1) := by decide +kernel
theorem dX4_seat_139 : decode cX4_seat 139 = .ok (.iload_n 3, 1) := by decide +kernel
theorem dX4_seat_140 : decode cX4_seat 140 = .ok (.iload 4, 2) := by decide +kernel
theorem dX4_seat_142 : decode cX4_seat 142 = .ok (.ior, 1) := by decide +kernel
theorem dX4_seat_143 : decode cX4_seat 143 = .ok (.invokevirtual 61, 3) := by decide +kernel
theorem dX4_seat_146 : decode cX4_seat 146 = .ok (.return_, 1) := by decide +kernel
theorem dX4_keepIfBetter_0 : decode cX4_keepIfBetter 0 = .ok (.iconst 0, 1) := by decide +kernel
theorem dX4_keepIfBetter_1 : decode cX4_keepIfBetter 1 = .ok (.istore_n 3, 1) := by decide +kernel
theorem dX4_keepIfBetter_2 : decode cX4_keepIfBetter 2 = .ok (.iconst 0, 1) := by decide +kernel
theorem dX4_keepIfBetter_3 : decode cX4_keepIfBetter 3 = .ok (.istore 4, 2) := by decide +kernel
theorem dX4_keepIfBetter_5 : decode cX4_keepIfBetter 5 = .ok (.iload 4, 2) := by decide +kernel
theorem dX4_keepIfBetter_7 : decode cX4_keepIfBetter 7 = .ok (.aload_n 1, 1) := by decide +kernel
theorem dX4_keepIfBetter_8 : decode cX4_keepIfBetter 8 = .ok (.getfield 78, 3) := by decide +kernel
theorem dX4_keepIfBetter_11 : decode cX4_keepIfBetter 11 = .ok (.if_icmp .ge 38, 3) := by decide +kernel
theorem dX4_keepIfBetter_14 : decode cX4_keepIfBetter 14 = .ok (.aload_n 0, 1) := by decide +kernel
theorem dX4_keepIfBetter_15 : decode cX4_keepIfBetter 15 = .ok (.getfield 46, 3) := by decide +kernel
theorem dX4_keepIfBetter_18 : decode cX4_keepIfBetter 18 = .ok (.iload 4, 2) := by decide +kernel
theorem dX4_keepIfBetter_20 : decode cX4_keepIfBetter 20 = .ok (.invokestatic 52, 3) := by decide +kernel
theorem dX4_keepIfBetter_23 : decode cX4_keepIfBetter 23 = .ok (.ifCond .eq 20, 3) := by decide +kernel
theorem dX4_keepIfBetter_26 : decode cX4_keepIfBetter 26 = .ok (.iload_n 3, 1) := by decide +kernel
theorem dX4_keepIfBetter_27 : decode cX4_keepIfBetter 27 = .ok (.aload_n 0, 1) := by decide +kernel
theorem dX4_keepIfBetter_28 : decode cX4_keepIfBetter 28 = .ok (.aload_n 1, 1) := by decide +kernel
theorem dX4_keepIfBetter_29 : decode cX4_keepIfBetter 29 = .ok (.iload 4, 2) := by decide +kernel
theorem dX4_keepIfBetter_31 : decode cX4_keepIfBetter 31 = .ok (.aload_n 0, 1) := by decide +kernel
theorem dX4_keepIfBetter_32 : decode cX4_keepIfBetter 32 = .ok (.getfield 31, 3) := by decide +kernel
theorem dX4_keepIfBetter_35 : decode cX4_keepIfBetter 35 = .ok (.iload 4, 2) := by decide +kernel
theorem dX4_keepIfBetter_37 : decode cX4_keepIfBetter 37 = .ok (.iaload, 1) := by decide +kernel
theorem dX4_keepIfBetter_38 : decode cX4_keepIfBetter 38 = .ok (.invokevirtual 85, 3) := by decide +kernel
theorem dX4_keepIfBetter_41 : decode cX4_keepIfBetter 41 = .ok (.iadd, 1) := by decide +kernel
theorem dX4_keepIfBetter_42 : decode cX4_keepIfBetter 42 = .ok (.istore_n 3, 1) := by decide +kernel
theorem dX4_keepIfBetter_43 : decode cX4_keepIfBetter 43 = .ok (.iinc 4 1, 3) := by decide +kernel
theorem dX4_keepIfBetter_46 : decode cX4_keepIfBetter 46 = .ok (.goto (-41), 3) := by decide +kernel
theorem dX4_keepIfBetter_49 : decode cX4_keepIfBetter 49 = .ok (.iload_n 2, 1) := by decide +kernel
theorem dX4_keepIfBetter_50 : decode cX4_keepIfBetter 50 = .ok (.invokestatic 65, 3) := by decide +kernel
theorem dX4_keepIfBetter_53 : decode cX4_keepIfBetter 53 = .ok (.istore 4, 2) := by decide +kernel
theorem dX4_keepIfBetter_55 : decode cX4_keepIfBetter 55 = .ok (.iload 4, 2) := by decide +kernel
theorem dX4_keepIfBetter_57 : decode cX4_keepIfBetter 57 = .ok (.aload_n 0, 1) := by decide +kernel
theorem dX4_keepIfBetter_58 : decode cX4_keepIfBetter 58 = .ok (.getfield 28, 3) := by decide +kernel
theorem dX4_keepIfBetter_61 : decode cX4_keepIfBetter 61 = .ok (.if_icmp .lt 20, 3) := by decide +kernel
theorem dX4_keepIfBetter_64 : decode cX4_keepIfBetter 64 = .ok (.iload 4, 2) := by decide +kernel
theorem dX4_keepIfBetter_66 : decode cX4_keepIfBetter 66 = .ok (.aload_n 0, 1) := by decide +kernel
theorem dX4_keepIfBetter_67 : decode cX4_keepIfBetter 67 = .ok (.getfield 28, 3) := by decide +kernel
theorem dX4_keepIfBetter_70 : decode cX4_keepIfBetter 70 = .ok (.if_icmp .ne 41, 3) := by decide +kernel
theorem dX4_keepIfBetter_73 : decode cX4_keepIfBetter 73 = .ok (.iload_n 3, 1) := by decide +kernel
theorem dX4_keepIfBetter_74 : decode cX4_keepIfBetter 74 = .ok (.aload_n 0, 1) := by decide +kernel
theorem dX4_keepIfBetter_75 : decode cX4_keepIfBetter 75 = .ok (.getfield 25, 3) := by decide +kernel
theorem dX4_keepIfBetter_78 : decode cX4_keepIfBetter 78 = .ok (.if_icmp .ge 33, 3) := by decide +kernel
theorem dX4_keepIfBetter_81 : decode cX4_keepIfBetter 81 = .ok (.aload_n 0, 1) := by decide +kernel
theorem dX4_keepIfBetter_82 : decode cX4_keepIfBetter 82 = .ok (.iload 4, 2) := by decide +kernel
theorem dX4_keepIfBetter_84 : decode cX4_keepIfBetter 84 = .ok (.putfield 28, 3) := by decide +kernel
theorem dX4_keepIfBetter_87 : decode cX4_keepIfBetter 87 = .ok (.aload_n 0, 1) := by decide +kernel
theorem dX4_keepIfBetter_88 : decode cX4_keepIfBetter 88 = .ok (.iload_n 3, 1) := by decide +kernel
theorem dX4_keepIfBetter_89 : decode cX4_keepIfBetter 89 = .ok (.putfield 25, 3) := by decide +kernel
theorem dX4_keepIfBetter_92 : decode cX4_keepIfBetter 92 = .ok (.aload_n 0, 1) := by decide +kernel
theorem dX4_keepIfBetter_93 : decode cX4_keepIfBetter 93 = .ok (.iload_n 2, 1) := by decide +kernel
theorem dX4_keepIfBetter_94 : decode cX4_keepIfBetter 94 = .ok (.putfield 22, 3) := by decide +kernel
theorem dX4_keepIfBetter_97 : decode cX4_keepIfBetter 97 = .ok (.aload_n 0, 1) := by decide +kernel
theorem dX4_keepIfBetter_98 : decode cX4_keepIfBetter 98 = .ok (.getfield 31, 3) := by decide +kernel
theorem dX4_keepIfBetter_101 : decode cX4_keepIfBetter 101 = .ok (.iconst 0, 1) := by decide +kernel
theorem dX4_keepIfBetter_102 : decode cX4_keepIfBetter 102 = .ok (.aload_n 0, 1) := by decide +kernel
theorem dX4_keepIfBetter_103 : decode cX4_keepIfBetter 103 = .ok (.getfield 15, 3) := by decide +kernel
theorem dX4_keepIfBetter_106 : decode cX4_keepIfBetter 106 = .ok (.iconst 0, 1) := by decide +kernel
theorem dX4_keepIfBetter_107 : decode cX4_keepIfBetter 107 = .ok (.iconst 3, 1) := by decide +kernel
theorem dX4_keepIfBetter_108 : decode cX4_keepIfBetter 108 = .ok (.invokestatic 89, 3) := by decide +kernel
theorem dX4_keepIfBetter_111 : decode cX4_keepIfBetter 111 = .ok (.return_, 1) := by decide +kernel
theorem dX4_minutesOf_0 : decode cX4_minutesOf 0 = .ok (.iload_n 2, 1) := by decide +kernel
theorem dX4_minutesOf_1 : decode cX4_minutesOf 1 = .ok (.bipush 7, 2) := by decide +kernel
theorem dX4_minutesOf_3 : decode cX4_minutesOf 3 = .ok (.ishl, 1) := by decide +kernel
theorem dX4_minutesOf_4 : decode cX4_minutesOf 4 = .ok (.iload_n 3, 1) := by decide +kernel
theorem dX4_minutesOf_5 : decode cX4_minutesOf 5 = .ok (.ior, 1) := by decide +kernel
theorem dX4_minutesOf_6 : decode cX4_minutesOf 6 = .ok (.istore 4, 2) := by decide +kernel
theorem dX4_minutesOf_8 : decode cX4_minutesOf 8 = .ok (.aload_n 0, 1) := by decide +kernel
theorem dX4_minutesOf_9 : decode cX4_minutesOf 9 = .ok (.getfield 9, 3) := by decide +kernel
theorem dX4_minutesOf_12 : decode cX4_minutesOf 12 = .ok (.iload 4, 2) := by decide +kernel
theorem dX4_minutesOf_14 : decode cX4_minutesOf 14 = .ok (.iaload, 1) := by decide +kernel
theorem dX4_minutesOf_15 : decode cX4_minutesOf 15 = .ok (.iconst (-1), 1) := by decide +kernel
theorem dX4_minutesOf_16 : decode cX4_minutesOf 16 = .ok (.if_icmp .ne 34, 3) := by decide +kernel
theorem dX4_minutesOf_19 : decode cX4_minutesOf 19 = .ok (.aload_n 0, 1) := by decide +kernel
theorem dX4_minutesOf_20 : decode cX4_minutesOf 20 = .ok (.ldc 95, 2) := by decide +kernel
theorem dX4_minutesOf_22 : decode cX4_minutesOf 22 = .ok (.putfield 96, 3) := by decide +kernel
theorem dX4_minutesOf_25 : decode cX4_minutesOf 25 = .ok (.aload_n 0, 1) := by decide +kernel
theorem dX4_minutesOf_26 : decode cX4_minutesOf 26 = .ok (.aload_n 1, 1) := by decide +kernel
theorem dX4_minutesOf_27 : decode cX4_minutesOf 27 = .ok (.aload_n 1, 1) := by decide +kernel
theorem dX4_minutesOf_28 : decode cX4_minutesOf 28 = .ok (.iload_n 2, 1) := by decide +kernel
theorem dX4_minutesOf_29 : decode cX4_minutesOf 29 = .ok (.invokevirtual 99, 3) := by decide +kernel
theorem dX4_minutesOf_32 : decode cX4_minutesOf 32 = .ok (.iload_n 3, 1) := by decide +kernel
theorem dX4_minutesOf_33 : decode cX4_minutesOf 33 = .ok (.iconst 0, 1) := by decide +kernel
theorem dX4_minutesOf_34 : decode cX4_minutesOf 34 = .ok (.iconst 0, 1) := by decide +kernel
theorem dX4_minutesOf_35 : decode cX4_minutesOf 35 = .ok (.iconst 0, 1) := by decide +kernel
theorem dX4_minutesOf_36 : decode cX4_minutesOf 36 = .ok (.invokevirtual 102, 3) := by decide +kernel
theorem dX4_minutesOf_39 : decode cX4_minutesOf 39 = .ok (.aload_n 0, 1) := by decide +kernel
theorem dX4_minutesOf_40 : decode cX4_minutesOf 40 = .ok (.getfield 9, 3) := by decide +kernel
theorem dX4_minutesOf_43 : decode cX4_minutesOf 43 = .ok (.iload 4, 2) := by decide +kernel
theorem dX4_minutesOf_45 : decode cX4_minutesOf 45 = .ok (.aload_n 0, 1) := by decide +kernel
theorem dX4_minutesOf_46 : decode cX4_minutesOf 46 = .ok (.getfield 96, 3) := by decide +kernel
theorem dX4_minutesOf_49 : decode cX4_minutesOf 49 = .ok (.iastore, 1) := by decide +kernel
theorem dX4_minutesOf_50 : decode cX4_minutesOf 50 = .ok (.aload_n 0, 1) := by decide +kernel
theorem dX4_minutesOf_51 : decode cX4_minutesOf 51 = .ok (.getfield 9, 3) := by decide +kernel
theorem dX4_minutesOf_54 : decode cX4_minutesOf 54 = .ok (.iload 4, 2) := by decide +kernel
theorem dX4_minutesOf_56 : decode cX4_minutesOf 56 = .ok (.iaload, 1) := by decide +kernel
theorem dX4_minutesOf_57 : decode cX4_minutesOf 57 = .ok (.ireturn, 1) := by decide +kernel
theorem dX4_setDownAs_0 : decode cX4_setDownAs 0 = .ok (.iload 4, 2) := by decide +kernel
theorem dX4_setDownAs_2 : decode cX4_setDownAs 2 = .ok (.ifCond .lt 18, 3) := by decide +kernel
theorem dX4_setDownAs_5 : decode cX4_setDownAs 5 = .ok (.iload 4, 2) := by decide +kernel
theorem dX4_setDownAs_7 : decode cX4_setDownAs 7 = .ok (.iload_n 3, 1) := by decide +kernel
theorem dX4_setDownAs_8 : decode cX4_setDownAs 8 = .ok (.invokestatic 65, 3) := by decide +kernel
theorem dX4_setDownAs_11 : decode cX4_setDownAs 11 = .ok (.if_icmp .ge 9, 3) := by decide +kernel
theorem dX4_setDownAs_14 : decode cX4_setDownAs 14 = .ok (.iload 4, 2) := by decide +kernel
theorem dX4_setDownAs_16 : decode cX4_setDownAs 16 = .ok (.iconst 4, 1) := by decide +kernel
theorem dX4_setDownAs_17 : decode cX4_setDownAs 17 = .ok (.if_icmp .lt 6, 3) := by decide +kernel
theorem dX4_setDownAs_20 : decode cX4_setDownAs 20 = .ok (.ldc 106, 2) := by decide +kernel
theorem dX4_setDownAs_22 : decode cX4_setDownAs 22 = .ok (.ireturn, 1) := by decide +kernel
theorem dX4_setDownAs_23 : decode cX4_setDownAs 23 = .ok (.aload_n 0, 1) := by decide +kernel
theorem dX4_setDownAs_24 : decode cX4_setDownAs 24 = .ok (.ldc 95, 2) := by decide +kernel
theorem dX4_setDownAs_26 : decode cX4_setDownAs 26 = .ok (.putfield 96, 3) := by decide +kernel
theorem dX4_setDownAs_29 : decode cX4_setDownAs 29 = .ok (.aload_n 0, 1) := by decide +kernel
theorem dX4_setDownAs_30 : decode cX4_setDownAs 30 = .ok (.aload_n 1, 1) := by decide +kernel
theorem dX4_setDownAs_31 : decode cX4_setDownAs 31 = .ok (.aload_n 1, 1) := by decide +kernel
theorem dX4_setDownAs_32 : decode cX4_setDownAs 32 = .ok (.iload_n 2, 1) := by decide +kernel
theorem dX4_setDownAs_33 : decode cX4_setDownAs 33 = .ok (.invokevirtual 99, 3) := by decide +kernel
theorem dX4_setDownAs_36 : decode cX4_setDownAs 36 = .ok (.iload_n 3, 1) := by decide +kernel
theorem dX4_setDownAs_37 : decode cX4_setDownAs 37 = .ok (.iconst 0, 1) := by decide +kernel
theorem dX4_setDownAs_38 : decode cX4_setDownAs 38 = .ok (.iconst 0, 1) := by decide +kernel
theorem dX4_setDownAs_39 : decode cX4_setDownAs 39 = .ok (.iconst 0, 1) := by decide +kernel
theorem dX4_setDownAs_40 : decode cX4_setDownAs 40 = .ok (.invokevirtual 102, 3) := by decide +kernel
theorem dX4_setDownAs_43 : decode cX4_setDownAs 43 = .ok (.aload_n 0, 1) := by decide +kernel
theorem dX4_setDownAs_44 : decode cX4_setDownAs 44 = .ok (.getfield 37, 3) := by decide +kernel
theorem dX4_setDownAs_47 : decode cX4_setDownAs 47 = .ok (.iload 4, 2) := by decide +kernel
theorem dX4_setDownAs_49 : decode cX4_setDownAs 49 = .ok (.iaload, 1) := by decide +kernel
theorem dX4_setDownAs_50 : decode cX4_setDownAs 50 = .ok (.ireturn, 1) := by decide +kernel
theorem dX4_walk_0 : decode cX4_walk 0 = .ok (.iload 5, 2) := by decide +kernel
theorem dX4_walk_2 : decode cX4_walk 2 = .ok (.aload_n 0, 1) := by decide +kernel
theorem dX4_walk_3 : decode cX4_walk 3 = .ok (.getfield 96, 3) := by decide +kernel
theorem dX4_walk_6 : decode cX4_walk 6 = .ok (.if_icmp .ge 9, 3) := by decide +kernel
theorem dX4_walk_9 : decode cX4_walk 9 = .ok (.iload 6, 2) := by decide +kernel
theorem dX4_walk_11 : decode cX4_walk 11 = .ok (.iconst 4, 1) := by decide +kernel
theorem dX4_walk_12 : decode cX4_walk 12 = .ok (.if_icmp .le 4, 3) := by decide +kernel
theorem dX4_walk_15 : decode cX4_walk 15 = .ok (.return_, 1) := by decide +kernel
theorem dX4_walk_16 : decode cX4_walk 16 = .ok (.iload_n 3, 1) := by decide +kernel
theorem dX4_walk_17 : decode cX4_walk 17 = .ok (.ifCond .ne 45, 3) := by decide +kernel
theorem dX4_walk_20 : decode cX4_walk 20 = .ok (.iload 5, 2) := by decide +kernel
theorem dX4_walk_22 : decode cX4_walk 22 = .ok (.aload_n 1, 1) := by decide +kernel
theorem dX4_walk_23 : decode cX4_walk 23 = .ok (.iload 4, 2) := by decide +kernel
theorem dX4_walk_25 : decode cX4_walk 25 = .ok (.iload_n 2, 1) := by decide +kernel
theorem dX4_walk_26 : decode cX4_walk 26 = .ok (.invokevirtual 107, 3) := by decide +kernel
theorem dX4_walk_29 : decode cX4_walk 29 = .ok (.iadd, 1) := by decide +kernel
theorem dX4_walk_30 : decode cX4_walk 30 = .ok (.istore 7, 2) := by decide +kernel
theorem dX4_walk_32 : decode cX4_walk 32 = .ok (.iload 7, 2) := by decide +kernel
theorem dX4_walk_34 : decode cX4_walk 34 = .ok (.aload_n 0, 1) := by decide +kernel
theorem dX4_walk_35 : decode cX4_walk 35 = .ok (.getfield 96, 3) := by decide +kernel
theorem dX4_walk_38 : decode cX4_walk 38 = .ok (.if_icmp .ge 23, 3) := by decide +kernel
theorem dX4_walk_41 : decode cX4_walk 41 = .ok (.aload_n 0, 1) := by decide +kernel
theorem dX4_walk_42 : decode cX4_walk 42 = .ok (.iload 7, 2) := by decide +kernel
theorem dX4_walk_44 : decode cX4_walk 44 = .ok (.putfield 96, 3) := by decide +kernel
theorem dX4_walk_47 : decode cX4_walk 47 = .ok (.aload_n 0, 1) := by decide +kernel
theorem dX4_walk_48 : decode cX4_walk 48 = .ok (.getfield 34, 3) := by decide +kernel
theorem dX4_walk_51 : decode cX4_walk 51 = .ok (.iconst 0, 1) := by decide +kernel
theorem dX4_walk_52 : decode cX4_walk 52 = .ok (.aload_n 0, 1) := by decide +kernel
theorem dX4_walk_53 : decode cX4_walk 53 = .ok (.getfield 37, 3) := by decide +kernel
theorem dX4_walk_56 : decode cX4_walk 56 = .ok (.iconst 0, 1) := by decide +kernel
theorem dX4_walk_57 : decode cX4_walk 57 = .ok (.iconst 4, 1) := by decide +kernel
theorem dX4_walk_58 : decode cX4_walk 58 = .ok (.invokestatic 89, 3) := by decide +kernel
theorem dX4_walk_61 : decode cX4_walk 61 = .ok (.return_, 1) := by decide +kernel
theorem dX4_walk_62 : decode cX4_walk 62 = .ok (.iload_n 3, 1) := by decide +kernel
theorem dX4_walk_63 : decode cX4_walk 63 = .ok (.aload_n 1, 1) := by decide +kernel
theorem dX4_walk_64 : decode cX4_walk 64 = .ok (.getfield 111, 3) := by decide +kernel
theorem dX4_walk_67 : decode cX4_walk 67 = .ok (.iand, 1) := by decide +kernel
theorem dX4_walk_68 : decode cX4_walk 68 = .ok (.ifCond .eq 12, 3) := by decide +kernel
theorem dX4_walk_71 : decode cX4_walk 71 = .ok (.iload_n 3, 1) := by decide +kernel
theorem dX4_walk_72 : decode cX4_walk 72 = .ok (.aload_n 1, 1) := by decide +kernel
theorem dX4_walk_73 : decode cX4_walk 73 = .ok (.getfield 111, 3) := by decide +kernel
theorem dX4_walk_76 : decode cX4_walk 76 = .ok (.iand, 1) := by decide +kernel
theorem dX4_walk_77 : decode cX4_walk 77 = .ok (.goto 4, 3) := by decide +kernel
theorem dX4_walk_80 : decode cX4_walk 80 = .ok (.iload_n 3, 1) := by decide +kernel
theorem dX4_walk_81 : decode cX4_walk 81 = .ok (.istore 7, 2) := by decide +kernel
theorem dX4_walk_83 : decode cX4_walk 83 = .ok (.iconst 0, 1) := by decide +kernel
theorem dX4_walk_84 : decode cX4_walk 84 = .ok (.istore 8, 2) := by decide +kernel
theorem dX4_walk_86 : decode cX4_walk 86 = .ok (.iload 8, 2) := by decide +kernel
theorem dX4_walk_88 : decode cX4_walk 88 = .ok (.aload_n 1, 1) := by decide +kernel
theorem dX4_walk_89 : decode cX4_walk 89 = .ok (.getfield 71, 3) := by decide +kernel
theorem dX4_walk_92 : decode cX4_walk 92 = .ok (.if_icmp .ge 79, 3) := by decide +kernel
theorem dX4_walk_95 : decode cX4_walk 95 = .ok (.iload 6, 2) := by decide +kernel
theorem dX4_walk_97 : decode cX4_walk 97 = .ok (.iconst 4, 1) := by decide +kernel
theorem dX4_walk_98 : decode cX4_walk 98 = .ok (.if_icmp .ge 73, 3) := by decide +kernel
theorem dX4_walk_101 : decode cX4_walk 101 = .ok (.iload 7, 2) := by decide +kernel
theorem dX4_walk_103 : decode cX4_walk 103 = .ok (.iload 8, 2) := by decide +kernel
theorem dX4_walk_105 : decode cX4_walk 105 = .ok (.invokestatic 52, 3) := by decide +kernel
theorem dX4_walk_108 : decode cX4_walk 108 = .ok (.ifCond .eq 57, 3) := by decide +kernel
theorem dX4_walk_111 : decode cX4_walk 111 = .ok (.aload_n 0, 1) := by decide +kernel
theorem dX4_walk_112 : decode cX4_walk 112 = .ok (.getfield 34, 3) := by decide +kernel
theorem dX4_walk_115 : decode cX4_walk 115 = .ok (.iload 6, 2) := by decide +kernel
theorem dX4_walk_117 : decode cX4_walk 117 = .ok (.iload 8, 2) := by decide +kernel
theorem dX4_walk_119 : decode cX4_walk 119 = .ok (.iastore, 1) := by decide +kernel
theorem dX4_walk_120 : decode cX4_walk 120 = .ok (.iload 5, 2) := by decide +kernel
theorem dX4_walk_122 : decode cX4_walk 122 = .ok (.aload_n 1, 1) := by decide +kernel
theorem dX4_walk_123 : decode cX4_walk 123 = .ok (.iload 4, 2) := by decide +kernel
theorem dX4_walk_125 : decode cX4_walk 125 = .ok (.aload_n 1, 1) := by decide +kernel
theorem dX4_walk_126 : decode cX4_walk 126 = .ok (.getfield 114, 3) := by decide +kernel
theorem dX4_walk_129 : decode cX4_walk 129 = .ok (.iload 8, 2) := by decide +kernel
theorem dX4_walk_131 : decode cX4_walk 131 = .ok (.iaload, 1) := by decide +kernel
theorem dX4_walk_132 : decode cX4_walk 132 = .ok (.invokevirtual 107, 3) := by decide +kernel
theorem dX4_walk_135 : decode cX4_walk 135 = .ok (.iadd, 1) := by decide +kernel
theorem dX4_walk_136 : decode cX4_walk 136 = .ok (.istore 9, 2) := by decide +kernel
theorem dX4_walk_138 : decode cX4_walk 138 = .ok (.aload_n 0, 1) := by decide +kernel
theorem dX4_walk_139 : decode cX4_walk 139 = .ok (.aload_n 1, 1) := by decide +kernel
theorem dX4_walk_140 : decode cX4_walk 140 = .ok (.iload_n 2, 1) := by decide +kernel
theorem dX4_walk_141 : decode cX4_walk 141 = .ok (.iload_n 3, 1) := by decide +kernel
theorem dX4_walk_142 : decode cX4_walk 142 = .ok (.iconst 1, 1) := by decide +kernel
theorem dX4_walk_143 : decode cX4_walk 143 = .ok (.iload 8, 2) := by decide +kernel
theorem dX4_walk_145 : decode cX4_walk 145 = .ok (.ishl, 1) := by decide +kernel
theorem dX4_walk_146 : decode cX4_walk 146 = .ok (.iconst (-1), 1) := by decide +kernel
theorem dX4_walk_147 : decode cX4_walk 147 = .ok (.ixor, 1) := by decide +kernel
theorem dX4_walk_148 : decode cX4_walk 148 = .ok (.iand, 1) := by decide +kernel
theorem dX4_walk_149 : decode cX4_walk 149 = .ok (.aload_n 1, 1) := by decide +kernel
theorem dX4_walk_150 : decode cX4_walk 150 = .ok (.getfield 114, 3) := by decide +kernel
theorem dX4_walk_153 : decode cX4_walk 153 = .ok (.iload 8, 2) := by decide +kernel
theorem dX4_walk_155 : decode cX4_walk 155 = .ok (.iaload, 1) := by decide +kernel
theorem dX4_walk_156 : decode cX4_walk 156 = .ok (.iload 9, 2) := by decide +kernel
theorem dX4_walk_158 : decode cX4_walk 158 = .ok (.iload 6, 2) := by decide +kernel
theorem dX4_walk_160 : decode cX4_walk 160 = .ok (.iconst 1, 1) := by decide +kernel
theorem dX4_walk_161 : decode cX4_walk 161 = .ok (.iadd, 1) := by decide +kernel
theorem dX4_walk_162 : decode cX4_walk 162 = .ok (.invokevirtual 102, 3) := by decide +kernel
theorem dX4_walk_165 : decode cX4_walk 165 = .ok (.iinc 8 1, 3) := by decide +kernel
theorem dX4_walk_168 : decode cX4_walk 168 = .ok (.goto (-82), 3) := by decide +kernel
theorem dX4_walk_171 : decode cX4_walk 171 = .ok (.return_, 1) := by decide +kernel
theorem dX5_append_0 : decode cX5_append 0 = .ok (.iload_n 3, 1) := by decide +kernel
theorem dX5_append_1 : decode cX5_append 1 = .ok (.sipush 500, 3) := by decide +kernel
theorem dX5_append_4 : decode cX5_append 4 = .ok (.aload_n 0, 1) := by decide +kernel
theorem dX5_append_5 : decode cX5_append 5 = .ok (.getfield 15, 3) := by decide +kernel
theorem dX5_append_8 : decode cX5_append 8 = .ok (.isub, 1) := by decide +kernel
theorem dX5_append_9 : decode cX5_append 9 = .ok (.if_icmp .le 6, 3) := by decide +kernel
theorem dX5_append_12 : decode cX5_append 12 = .ok (.ldc 25, 2) := by decide +kernel
theorem dX5_append_14 : decode cX5_append 14 = .ok (.ireturn, 1) := by decide +kernel
theorem dX5_append_15 : decode cX5_append 15 = .ok (.iload_n 3, 1) := by decide +kernel
theorem dX5_append_16 : decode cX5_append 16 = .ok (.iconst 1, 1) := by decide +kernel
theorem dX5_append_17 : decode cX5_append 17 = .ok (.isub, 1) := by decide +kernel
theorem dX5_append_18 : decode cX5_append 18 = .ok (.istore 4, 2) := by decide +kernel
theorem dX5_append_20 : decode cX5_append 20 = .ok (.iload 4, 2) := by decide +kernel
theorem dX5_append_22 : decode cX5_append 22 = .ok (.ifCond .lt 37, 3) := by decide +kernel
theorem dX5_append_25 : decode cX5_append 25 = .ok (.aload_n 0, 1) := by decide +kernel
theorem dX5_append_26 : decode cX5_append 26 = .ok (.getfield 9, 3) := by decide +kernel
theorem dX5_append_29 : decode cX5_append 29 = .ok (.aload_n 0, 1) := by decide +kernel
theorem dX5_append_30 : decode cX5_append 30 = .ok (.getfield 15, 3) := by decide +kernel
theorem dX5_append_33 : decode cX5_append 33 = .ok (.lload_n 1, 1) := by decide +kernel
theorem dX5_append_34 : decode cX5_append 34 = .ok (.bipush 8, 2) := by decide +kernel
theorem dX5_append_36 : decode cX5_append 36 = .ok (.iload 4, 2) := by decide +kernel
theorem dX5_append_38 : decode cX5_append 38 = .ok (.imul, 1) := by decide +kernel
theorem dX5_append_39 : decode cX5_append 39 = .ok (.lshr, 1) := by decide +kernel
theorem dX5_append_40 : decode cX5_append 40 = .ok (.l2i, 1) := by decide +kernel
theorem dX5_append_41 : decode cX5_append 41 = .ok (.i2b, 1) := by decide +kernel
theorem dX5_append_42 : decode cX5_append 42 = .ok (.bastore, 1) := by decide +kernel
theorem dX5_append_43 : decode cX5_append 43 = .ok (.aload_n 0, 1) := by decide +kernel
theorem dX5_append_44 : decode cX5_append 44 = .ok (.dup, 1) := by decide +kernel
theorem dX5_append_45 : decode cX5_append 45 = .ok (.getfield 15, 3) := by decide +kernel
theorem dX5_append_48 : decode cX5_append 48 = .ok (.iconst 1, 1) := by decide +kernel
theorem dX5_append_49 : decode cX5_append 49 = .ok (.iadd, 1) := by decide +kernel
theorem dX5_append_50 : decode cX5_append 50 = .ok (.putfield 15, 3) := by decide +kernel
theorem dX5_append_53 : decode cX5_append 53 = .ok (.iinc 4 (-1), 3) := by decide +kernel
theorem dX5_append_56 : decode cX5_append 56 = .ok (.goto (-36), 3) := by decide +kernel
theorem dX5_append_59 : decode cX5_append 59 = .ok (.aload_n 0, 1) := by decide +kernel
theorem dX5_append_60 : decode cX5_append 60 = .ok (.getfield 15, 3) := by decide +kernel
theorem dX5_append_63 : decode cX5_append 63 = .ok (.ireturn, 1) := by decide +kernel
theorem dX5_readInto_0 : decode cX5_readInto 0 = .ok (.aload_n 0, 1) := by decide +kernel
theorem dX5_readInto_1 : decode cX5_readInto 1 = .ok (.iconst 0, 1) := by decide +kernel
theorem dX5_readInto_2 : decode cX5_readInto 2 = .ok (.putfield 26, 3) := by decide +kernel
theorem dX5_readInto_5 : decode cX5_readInto 5 = .ok (.aload_n 0, 1) := by decide +kernel
theorem dX5_readInto_6 : decode cX5_readInto 6 = .ok (.iconst 0, 1) := by decide +kernel
theorem dX5_readInto_7 : decode cX5_readInto 7 = .ok (.putfield 29, 3) := by decide +kernel
theorem dX5_readInto_10 : decode cX5_readInto 10 = .ok (.aload_n 1, 1) := by decide +kernel
theorem dX5_readInto_11 : decode cX5_readInto 11 = .ok (.invokevirtual 32, 3) := by decide +kernel
theorem dX5_readInto_14 : decode cX5_readInto 14 = .ok (.aload_n 0, 1) := by decide +kernel
theorem dX5_readInto_15 : decode cX5_readInto 15 = .ok (.aload_n 1, 1) := by decide +kernel
theorem dX5_readInto_16 : decode cX5_readInto 16 = .ok (.invokevirtual 37, 3) := by decide +kernel
theorem dX5_readInto_19 : decode cX5_readInto 19 = .ok (.istore_n 2, 1) := by decide +kernel
theorem dX5_readInto_20 : decode cX5_readInto 20 = .ok (.iconst 0, 1) := by decide +kernel
theorem dX5_readInto_21 : decode cX5_readInto 21 = .ok (.istore_n 3, 1) := by decide +kernel
theorem dX5_readInto_22 : decode cX5_readInto 22 = .ok (.iload_n 2, 1) := by decide +kernel
theorem dX5_readInto_23 : decode cX5_readInto 23 = .ok (.ifCond .eq 36, 3) := by decide +kernel
theorem dX5_readInto_26 : decode cX5_readInto 26 = .ok (.iload_n 3, 1) := by decide +kernel
theorem dX5_readInto_27 : decode cX5_readInto 27 = .ok (.sipush 500, 3) := by decide +kernel
theorem dX5_readInto_30 : decode cX5_readInto 30 = .ok (.if_icmp .gt 29, 3) := by decide +kernel
theorem dX5_readInto_33 : decode cX5_readInto 33 = .ok (.aload_n 0, 1) := by decide +kernel
theorem dX5_readInto_34 : decode cX5_readInto 34 = .ok (.invokevirtual 41, 3) := by decide +kernel
theorem dX5_readInto_37 : decode cX5_readInto 37 = .ok (.aload_n 0, 1) := by decide +kernel
theorem dX5_readInto_38 : decode cX5_readInto 38 = .ok (.getfield 44, 3) := by decide +kernel
theorem dX5_readInto_41 : decode cX5_readInto 41 = .ok (.ifCond .ne 6, 3) := by decide +kernel
theorem dX5_readInto_44 : decode cX5_readInto 44 = .ok (.goto 15, 3) := by decide +kernel
theorem dX5_readInto_47 : decode cX5_readInto 47 = .ok (.aload_n 0, 1) := by decide +kernel
theorem dX5_readInto_48 : decode cX5_readInto 48 = .ok (.aload_n 1, 1) := by decide +kernel
theorem dX5_readInto_49 : decode cX5_readInto 49 = .ok (.invokevirtual 47, 3) := by decide +kernel
theorem dX5_readInto_52 : decode cX5_readInto 52 = .ok (.istore_n 2, 1) := by decide +kernel
theorem dX5_readInto_53 : decode cX5_readInto 53 = .ok (.iinc 3 1, 3) := by decide +kernel
theorem dX5_readInto_56 : decode cX5_readInto 56 = .ok (.goto (-34), 3) := by decide +kernel
theorem dX5_readInto_59 : decode cX5_readInto 59 = .ok (.aload_n 0, 1) := by decide +kernel
theorem dX5_readInto_60 : decode cX5_readInto 60 = .ok (.iconst 0, 1) := by decide +kernel
theorem dX5_readInto_61 : decode cX5_readInto 61 = .ok (.putfield 15, 3) := by decide +kernel
theorem dX5_readInto_64 : decode cX5_readInto 64 = .ok (.iload_n 2, 1) := by decide +kernel
theorem dX5_readInto_65 : decode cX5_readInto 65 = .ok (.ifCond .eq 7, 3) := by decide +kernel
theorem dX5_readInto_68 : decode cX5_readInto 68 = .ok (.aload_n 1, 1) := by decide +kernel
theorem dX5_readInto_69 : decode cX5_readInto 69 = .ok (.invokevirtual 50, 3) := by decide +kernel
theorem dX5_readInto_72 : decode cX5_readInto 72 = .ok (.iload_n 2, 1) := by decide +kernel
theorem dX5_readInto_73 : decode cX5_readInto 73 = .ok (.ireturn, 1) := by decide +kernel
theorem dX5_readLaw_0 : decode cX5_readLaw 0 = .ok (.aload_n 0, 1) := by decide +kernel
theorem dX5_readLaw_1 : decode cX5_readLaw 1 = .ok (.invokevirtual 41, 3) := by decide +kernel
theorem dX5_readLaw_4 : decode cX5_readLaw 4 = .ok (.aload_n 0, 1) := by decide +kernel
theorem dX5_readLaw_5 : decode cX5_readLaw 5 = .ok (.ldc 53, 2) := by decide +kernel
theorem dX5_readLaw_7 : decode cX5_readLaw 7 = .ok (.invokevirtual 55, 3) := by decide +kernel
theorem dX5_readLaw_10 : decode cX5_readLaw 10 = .ok (.ifCond .ne 9, 3) := by decide +kernel
theorem dX5_readLaw_13 : decode cX5_readLaw 13 = .ok (.aload_n 0, 1) := by decide +kernel
theorem dX5_readLaw_14 : decode cX5_readLaw 14 = .ok (.iconst 1, 1) := by decide +kernel
theorem dX5_readLaw_15 : decode cX5_readLaw 15 = .ok (.invokevirtual 59, 3) := by decide +kernel
theorem dX5_readLaw_18 : decode cX5_readLaw 18 = .ok (.ireturn, 1) := by decide +kernel
theorem dX5_readLaw_19 : decode cX5_readLaw 19 = .ok (.aload_n 0, 1) := by decide +kernel
theorem dX5_readLaw_20 : decode cX5_readLaw 20 = .ok (.iconst 0, 1) := by decide +kernel
theorem dX5_readLaw_21 : decode cX5_readLaw 21 = .ok (.bipush 50, 2) := by decide +kernel
theorem dX5_readLaw_23 : decode cX5_readLaw 23 = .ok (.invokevirtual 63, 3) := by decide +kernel
theorem dX5_readLaw_26 : decode cX5_readLaw 26 = .ok (.ifCond .ne 5, 3) := by decide +kernel
theorem dX5_readLaw_29 : decode cX5_readLaw 29 = .ok (.iconst 0, 1) := by decide +kernel
theorem dX5_readLaw_30 : decode cX5_readLaw 30 = .ok (.ireturn, 1) := by decide +kernel
theorem dX5_readLaw_31 : decode cX5_readLaw 31 = .ok (.aload_n 1, 1) := by decide +kernel
theorem dX5_readLaw_32 : decode cX5_readLaw 32 = .ok (.aload_n 0, 1) := by decide +kernel
theorem dX5_readLaw_33 : decode cX5_readLaw 33 = .ok (.getfield 67, 3) := by decide +kernel
theorem dX5_readLaw_36 : decode cX5_readLaw 36 = .ok (.putfield 70, 3) := by decide +kernel
theorem dX5_readLaw_39 : decode cX5_readLaw 39 = .ok (.aload_n 0, 1) := by decide +kernel
theorem dX5_readLaw_40 : decode cX5_readLaw 40 = .ok (.iconst 1, 1) := by decide +kernel
theorem dX5_readLaw_41 : decode cX5_readLaw 41 = .ok (.bipush 20, 2) := by decide +kernel
theorem dX5_readLaw_43 : decode cX5_readLaw 43 = .ok (.invokevirtual 63, 3) := by decide +kernel
theorem dX5_readLaw_46 : decode cX5_readLaw 46 = .ok (.ifCond .ne 5, 3) := by decide +kernel
theorem dX5_readLaw_49 : decode cX5_readLaw 49 = .ok (.iconst 0, 1) := by decide +kernel
theorem dX5_readLaw_50 : decode cX5_readLaw 50 = .ok (.ireturn, 1) := by decide +kernel
theorem dX5_readLaw_51 : decode cX5_readLaw 51 = .ok (.aload_n 1, 1) := by decide +kernel
theorem dX5_readLaw_52 : decode cX5_readLaw 52 = .ok (.aload_n 0, 1) := by decide +kernel
theorem dX5_readLaw_53 : decode cX5_readLaw 53 = .ok (.getfield 67, 3) := by decide +kernel
theorem dX5_readLaw_56 : decode cX5_readLaw 56 = .ok (.putfield 73, 3) := by decide +kernel
theorem dX5_readLaw_59 : decode cX5_readLaw 59 = .ok (.aload_n 0, 1) := by decide +kernel
theorem dX5_readLaw_60 : decode cX5_readLaw 60 = .ok (.invokevirtual 76, 3) := by decide +kernel
theorem dX5_readLaw_63 : decode cX5_readLaw 63 = .ok (.ireturn, 1) := by decide +kernel
theorem dX5_readStatement_0 : decode cX5_readStatement 0 = .ok (.aload_n 0, 1) := by decide +kernel
theorem dX5_readStatement_1 : decode cX5_readStatement 1 = .ok (.invokevirtual 80, 3) := by decide +kernel
theorem dX5_readStatement_4 : decode cX5_readStatement 4 = .ok (.istore_n 2, 1) := by decide +kernel
theorem dX5_readStatement_5 : decode cX5_readStatement 5 = .ok (.iload_n 2, 1) := by decide +kernel
theorem dX5_readStatement_6 : decode cX5_readStatement 6 = .ok (.ifCond .eq 11, 3) := by decide +kernel
theorem dX5_readStatement_9 : decode cX5_readStatement 9 = .ok (.iload_n 2, 1) := by decide +kernel
theorem dX5_readStatement_10 : decode cX5_readStatement 10 = .ok (.aload_n 0, 1) := by decide +kernel
theorem dX5_readStatement_11 : decode cX5_readStatement 11 = .ok (.getfield 29, 3) := by decide +kernel
theorem dX5_readStatement_14 : decode cX5_readStatement 14 = .ok (.if_icmp .ge 9, 3) := by decide +kernel
theorem dX5_readStatement_17 : decode cX5_readStatement 17 = .ok (.aload_n 0, 1) := by decide +kernel
theorem dX5_readStatement_18 : decode cX5_readStatement 18 = .ok (.iconst 1, 1) := by decide +kernel
theorem dX5_readStatement_19 : decode cX5_readStatement 19 = .ok (.invokevirtual 59, 3) := by decide +kernel
theorem dX5_readStatement_22 : decode cX5_readStatement 22 = .ok (.ireturn, 1) := by decide +kernel
theorem dX5_readStatement_23 : decode cX5_readStatement 23 = .ok (.aload_n 0, 1) := by decide +kernel
theorem dX5_readStatement_24 : decode cX5_readStatement 24 = .ok (.iload_n 2, 1) := by decide +kernel
theorem dX5_readStatement_25 : decode cX5_readStatement 25 = .ok (.putfield 29, 3) := by decide +kernel
theorem dX5_readStatement_28 : decode cX5_readStatement 28 = .ok (.iload_n 2, 1) := by decide +kernel
theorem dX5_readStatement_29 : decode cX5_readStatement 29 = .ok (.tableswitch 55 1 4 #[31, 37, 43, 49], 31) := by decide +kernel
theorem dX5_readStatement_60 : decode cX5_readStatement 60 = .ok (.aload_n 0, 1) := by decide +kernel
theorem dX5_readStatement_61 : decode cX5_readStatement 61 = .ok (.aload_n 1, 1) := by decide +kernel
theorem dX5_readStatement_62 : decode cX5_readStatement 62 = .ok (.invokevirtual 84, 3) := by decide +kernel
theorem dX5_readStatement_65 : decode cX5_readStatement 65 = .ok (.ireturn, 1) := by decide +kernel
theorem dX5_readStatement_66 : decode cX5_readStatement 66 = .ok (.aload_n 0, 1) := by decide +kernel
theorem dX5_readStatement_67 : decode cX5_readStatement 67 = .ok (.aload_n 1, 1) := by decide +kernel
theorem dX5_readStatement_68 : decode cX5_readStatement 68 = .ok (.invokevirtual 87, 3) := by decide +kernel
theorem dX5_readStatement_71 : decode cX5_readStatement 71 = .ok (.ireturn, 1) := by decide +kernel
theorem dX5_readStatement_72 : decode cX5_readStatement 72 = .ok (.aload_n 0, 1) := by decide +kernel
theorem dX5_readStatement_73 : decode cX5_readStatement 73 = .ok (.aload_n 1, 1) := by decide +kernel
theorem dX5_readStatement_74 : decode cX5_readStatement 74 = .ok (.invokevirtual 90, 3) := by decide +kernel
theorem dX5_readStatement_77 : decode cX5_readStatement 77 = .ok (.ireturn, 1) := by decide +kernel
theorem dX5_readStatement_78 : decode cX5_readStatement 78 = .ok (.aload_n 0, 1) := by decide +kernel
theorem dX5_readStatement_79 : decode cX5_readStatement 79 = .ok (.aload_n 1, 1) := by decide +kernel
theorem dX5_readStatement_80 : decode cX5_readStatement 80 = .ok (.invokevirtual 93, 3) := by decide +kernel
theorem dX5_readStatement_83 : decode cX5_readStatement 83 = .ok (.ireturn, 1) := by decide +kernel
theorem dX5_readStatement_84 : decode cX5_readStatement 84 = .ok (.aload_n 0, 1) := by decide +kernel
theorem dX5_readStatement_85 : decode cX5_readStatement 85 = .ok (.aload_n 1, 1) := by decide +kernel
theorem dX5_readStatement_86 : decode cX5_readStatement 86 = .ok (.invokevirtual 96, 3) := by decide +kernel
theorem dX5_readStatement_89 : decode cX5_readStatement 89 = .ok (.ireturn, 1) := by decide +kernel
theorem dX5_statementWord_0 : decode cX5_statementWord 0 = .ok (.aload_n 0, 1) := by decide +kernel
theorem dX5_statementWord_1 : decode cX5_statementWord 1 = .ok (.ldc 99, 2) := by decide +kernel
theorem dX5_statementWord_3 : decode cX5_statementWord 3 = .ok (.invokevirtual 55, 3) := by decide +kernel
theorem dX5_statementWord_6 : decode cX5_statementWord 6 = .ok (.ifCond .eq 5, 3) := by decide +kernel
theorem dX5_statementWord_9 : decode cX5_statementWord 9 = .ok (.iconst 1, 1) := by decide +kernel
theorem dX5_statementWord_10 : decode cX5_statementWord 10 = .ok (.ireturn, 1) := by decide +kernel
theorem dX5_statementWord_11 : decode cX5_statementWord 11 = .ok (.aload_n 0, 1) := by decide +kernel
theorem dX5_statementWord_12 : decode cX5_statementWord 12 = .ok (.ldc 101, 2) := by decide +kernel
theorem dX5_statementWord_14 : decode cX5_statementWord 14 = .ok (.invokevirtual 55, 3) := by decide +kernel
theorem dX5_statementWord_17 : decode cX5_statementWord 17 = .ok (.ifCond .eq 5, 3) := by decide +kernel
theorem dX5_statementWord_20 : decode cX5_statementWord 20 = .ok (.iconst 2, 1) := by decide +kernel
theorem dX5_statementWord_21 : decode cX5_statementWord 21 = .ok (.ireturn, 1) := by decide +kernel
theorem dX5_statementWord_22 : decode cX5_statementWord 22 = .ok (.aload_n 0, 1) := by decide +kernel
theorem dX5_statementWord_23 : decode cX5_statementWord 23 = .ok (.ldc 103, 2) := by decide +kernel
theorem dX5_statementWord_25 : decode cX5_statementWord 25 = .ok (.invokevirtual 55, 3) := by decide +kernel
theorem dX5_statementWord_28 : decode cX5_statementWord 28 = .ok (.ifCond .eq 5, 3) := by decide +kernel
theorem dX5_statementWord_31 : decode cX5_statementWord 31 = .ok (.iconst 3, 1) := by decide +kernel
theorem dX5_statementWord_32 : decode cX5_statementWord 32 = .ok (.ireturn, 1) := by decide +kernel
theorem dX5_statementWord_33 : decode cX5_statementWord 33 = .ok (.aload_n 0, 1) := by decide +kernel
theorem dX5_statementWord_34 : decode cX5_statementWord 34 = .ok (.ldc 105, 2) := by decide +kernel
theorem dX5_statementWord_36 : decode cX5_statementWord 36 = .ok (.invokevirtual 55, 3) := by decide +kernel
theorem dX5_statementWord_39 : decode cX5_statementWord 39 = .ok (.ifCond .eq 5, 3) := by decide +kernel
theorem dX5_statementWord_42 : decode cX5_statementWord 42 = .ok (.iconst 4, 1) := by decide +kernel
theorem dX5_statementWord_43 : decode cX5_statementWord 43 = .ok (.ireturn, 1) := by decide +kernel
theorem dX5_statementWord_44 : decode cX5_statementWord 44 = .ok (.aload_n 0, 1) := by decide +kernel
theorem dX5_statementWord_45 : decode cX5_statementWord 45 = .ok (.ldc 107, 2) := by decide +kernel
theorem dX5_statementWord_47 : decode cX5_statementWord 47 = .ok (.invokevirtual 55, 3) := by decide +kernel
theorem dX5_statementWord_50 : decode cX5_statementWord 50 = .ok (.ifCond .eq 7, 3) := by decide +kernel
theorem dX5_statementWord_53 : decode cX5_statementWord 53 = .ok (.iconst 5, 1) := by decide +kernel
theorem dX5_statementWord_54 : decode cX5_statementWord 54 = .ok (.goto 4, 3) := by decide +kernel
theorem dX5_statementWord_57 : decode cX5_statementWord 57 = .ok (.iconst 0, 1) := by decide +kernel
theorem dX5_statementWord_58 : decode cX5_statementWord 58 = .ok (.ireturn, 1) := by decide +kernel
theorem dX5_readWay_0 : decode cX5_readWay 0 = .ok (.aload_n 1, 1) := by decide +kernel
theorem dX5_readWay_1 : decode cX5_readWay 1 = .ok (.getfield 109, 3) := by decide +kernel
theorem dX5_readWay_4 : decode cX5_readWay 4 = .ok (.bipush 16, 2) := by decide +kernel
theorem dX5_readWay_6 : decode cX5_readWay 6 = .ok (.if_icmp .lt 9, 3) := by decide +kernel
theorem dX5_readWay_9 : decode cX5_readWay 9 = .ok (.aload_n 0, 1) := by decide +kernel
theorem dX5_readWay_10 : decode cX5_readWay 10 = .ok (.iconst 3, 1) := by decide +kernel
theorem dX5_readWay_11 : decode cX5_readWay 11 = .ok (.invokevirtual 59, 3) := by decide +kernel
theorem dX5_readWay_14 : decode cX5_readWay 14 = .ok (.ireturn, 1) := by decide +kernel
theorem dX5_readWay_15 : decode cX5_readWay 15 = .ok (.aload_n 0, 1) := by decide +kernel
theorem dX5_readWay_16 : decode cX5_readWay 16 = .ok (.iconst 0, 1) := by decide +kernel
theorem dX5_readWay_17 : decode cX5_readWay 17 = .ok (.bipush 7, 2) := by decide +kernel
theorem dX5_readWay_19 : decode cX5_readWay 19 = .ok (.invokevirtual 63, 3) := by decide +kernel
theorem dX5_readWay_22 : decode cX5_readWay 22 = .ok (.ifCond .ne 5, 3) := by decide +kernel
theorem dX5_readWay_25 : decode cX5_readWay 25 = .ok (.iconst 0, 1) := by decide +kernel
theorem dX5_readWay_26 : decode cX5_readWay 26 = .ok (.ireturn, 1) := by decide +kernel
theorem dX5_readWay_27 : decode cX5_readWay 27 = .ok (.aload_n 0, 1) := by decide +kernel
theorem dX5_readWay_28 : decode cX5_readWay 28 = .ok (.getfield 67, 3) := by decide +kernel
theorem dX5_readWay_31 : decode cX5_readWay 31 = .ok (.istore_n 2, 1) := by decide +kernel
theorem dX5_readWay_32 : decode cX5_readWay 32 = .ok (.aload_n 0, 1) := by decide +kernel
theorem dX5_readWay_33 : decode cX5_readWay 33 = .ok (.iconst 0, 1) := by decide +kernel
theorem dX5_readWay_34 : decode cX5_readWay 34 = .ok (.bipush 7, 2) := by decide +kernel
theorem dX5_readWay_36 : decode cX5_readWay 36 = .ok (.invokevirtual 63, 3) := by decide +kernel
theorem dX5_readWay_39 : decode cX5_readWay 39 = .ok (.ifCond .ne 5, 3) := by decide +kernel
theorem dX5_readWay_42 : decode cX5_readWay 42 = .ok (.iconst 0, 1) := by decide +kernel
theorem dX5_readWay_43 : decode cX5_readWay 43 = .ok (.ireturn, 1) := by decide +kernel
theorem dX5_readWay_44 : decode cX5_readWay 44 = .ok (.aload_n 0, 1) := by decide +kernel
theorem dX5_readWay_45 : decode cX5_readWay 45 = .ok (.getfield 67, 3) := by decide +kernel
theorem dX5_readWay_48 : decode cX5_readWay 48 = .ok (.istore_n 3, 1) := by decide +kernel
theorem dX5_readWay_49 : decode cX5_readWay 49 = .ok (.iload_n 2, 1) := by decide +kernel
theorem dX5_readWay_50 : decode cX5_readWay 50 = .ok (.iload_n 3, 1) := by decide +kernel
theorem dX5_readWay_51 : decode cX5_readWay 51 = .ok (.if_icmp .ne 9, 3) := by decide +kernel
theorem dX5_readWay_54 : decode cX5_readWay 54 = .ok (.aload_n 0, 1) := by decide +kernel
theorem dX5_readWay_55 : decode cX5_readWay 55 = .ok (.iconst 2, 1) := by decide +kernel
theorem dX5_readWay_56 : decode cX5_readWay 56 = .ok (.invokevirtual 59, 3) := by decide +kernel
theorem dX5_readWay_59 : decode cX5_readWay 59 = .ok (.ireturn, 1) := by decide +kernel
theorem dX5_readWay_60 : decode cX5_readWay 60 = .ok (.aload_n 0, 1) := by decide +kernel
theorem dX5_readWay_61 : decode cX5_readWay 61 = .ok (.iconst 1, 1) := by decide +kernel
theorem dX5_readWay_62 : decode cX5_readWay 62 = .ok (.bipush 99, 2) := by decide +kernel
theorem dX5_readWay_64 : decode cX5_readWay 64 = .ok (.invokevirtual 63, 3) := by decide +kernel
theorem dX5_readWay_67 : decode cX5_readWay 67 = .ok (.ifCond .ne 5, 3) := by decide +kernel
theorem dX5_readWay_70 : decode cX5_readWay 70 = .ok (.iconst 0, 1) := by decide +kernel
theorem dX5_readWay_71 : decode cX5_readWay 71 = .ok (.ireturn, 1) := by decide +kernel
theorem dX5_readWay_72 : decode cX5_readWay 72 = .ok (.aload_n 1, 1) := by decide +kernel
theorem dX5_readWay_73 : decode cX5_readWay 73 = .ok (.iload_n 2, 1) := by decide +kernel
theorem dX5_readWay_74 : decode cX5_readWay 74 = .ok (.iload_n 3, 1) := by decide +kernel
theorem dX5_readWay_75 : decode cX5_readWay 75 = .ok (.aload_n 0, 1) := by decide +kernel
theorem dX5_readWay_76 : decode cX5_readWay 76 = .ok (.getfield 67, 3) := by decide +kernel
theorem dX5_readWay_79 : decode cX5_readWay 79 = .ok (.invokevirtual 112, 3) := by decide +kernel
theorem dX5_readWay_82 : decode cX5_readWay 82 = .ok (.aload_n 0, 1) := by decide +kernel
theorem dX5_readWay_83 : decode cX5_readWay 83 = .ok (.invokevirtual 76, 3) := by decide +kernel
theorem dX5_readWay_86 : decode cX5_readWay 86 = .ok (.ireturn, 1) := by decide +kernel
theorem dX5_readHill_0 : decode cX5_readHill 0 = .ok (.aload_n 1, 1) := by decide +kernel
theorem dX5_readHill_1 : decode cX5_readHill 1 = .ok (.getfield 116, 3) := by decide +kernel
theorem dX5_readHill_4 : decode cX5_readHill 4 = .ok (.bipush 7, 2) := by decide +kernel
theorem dX5_readHill_6 : decode cX5_readHill 6 = .ok (.if_icmp .lt 9, 3) := by decide +kernel
theorem dX5_readHill_9 : decode cX5_readHill 9 = .ok (.aload_n 0, 1) := by decide +kernel
theorem dX5_readHill_10 : decode cX5_readHill 10 = .ok (.iconst 3, 1) := by decide +kernel
theorem dX5_readHill_11 : decode cX5_readHill 11 = .ok (.invokevirtual 59, 3) := by decide +kernel
theorem dX5_readHill_14 : decode cX5_readHill 14 = .ok (.ireturn, 1) := by decide +kernel
theorem dX5_readHill_15 : decode cX5_readHill 15 = .ok (.aload_n 0, 1) := by decide +kernel
theorem dX5_readHill_16 : decode cX5_readHill 16 = .ok (.iconst 1, 1) := by decide +kernel
theorem dX5_readHill_17 : decode cX5_readHill 17 = .ok (.bipush 7, 2) := by decide +kernel
theorem dX5_readHill_19 : decode cX5_readHill 19 = .ok (.invokevirtual 63, 3) := by decide +kernel
theorem dX5_readHill_22 : decode cX5_readHill 22 = .ok (.ifCond .ne 5, 3) := by decide +kernel
theorem dX5_readHill_25 : decode cX5_readHill 25 = .ok (.iconst 0, 1) := by decide +kernel
theorem dX5_readHill_26 : decode cX5_readHill 26 = .ok (.ireturn, 1) := by decide +kernel
theorem dX5_readHill_27 : decode cX5_readHill 27 = .ok (.aload_n 1, 1) := by decide +kernel
theorem dX5_readHill_28 : decode cX5_readHill 28 = .ok (.aload_n 0, 1) := by decide +kernel
theorem dX5_readHill_29 : decode cX5_readHill 29 = .ok (.getfield 67, 3) := by decide +kernel
theorem dX5_readHill_32 : decode cX5_readHill 32 = .ok (.invokevirtual 119, 3) := by decide +kernel
theorem dX5_readHill_35 : decode cX5_readHill 35 = .ok (.aload_n 0, 1) := by decide +kernel
theorem dX5_readHill_36 : decode cX5_readHill 36 = .ok (.invokevirtual 76, 3) := by decide +kernel
theorem dX5_readHill_39 : decode cX5_readHill 39 = .ok (.ireturn, 1) := by decide +kernel
theorem dX5_readPerson_0 : decode cX5_readPerson 0 = .ok (.aload_n 1, 1) := by decide +kernel
theorem dX5_readPerson_1 : decode cX5_readPerson 1 = .ok (.getfield 123, 3) := by decide +kernel
theorem dX5_readPerson_4 : decode cX5_readPerson 4 = .ok (.bipush 7, 2) := by decide +kernel
theorem dX5_readPerson_6 : decode cX5_readPerson 6 = .ok (.if_icmp .lt 9, 3) := by decide +kernel
theorem dX5_readPerson_9 : decode cX5_readPerson 9 = .ok (.aload_n 0, 1) := by decide +kernel
theorem dX5_readPerson_10 : decode cX5_readPerson 10 = .ok (.iconst 3, 1) := by decide +kernel
theorem dX5_readPerson_11 : decode cX5_readPerson 11 = .ok (.invokevirtual 59, 3) := by decide +kernel
theorem dX5_readPerson_14 : decode cX5_readPerson 14 = .ok (.ireturn, 1) := by decide +kernel
theorem dX5_readPerson_15 : decode cX5_readPerson 15 = .ok (.aload_n 0, 1) := by decide +kernel
theorem dX5_readPerson_16 : decode cX5_readPerson 16 = .ok (.invokevirtual 41, 3) := by decide +kernel
theorem dX5_readPerson_19 : decode cX5_readPerson 19 = .ok (.aload_n 0, 1) := by decide +kernel
theorem dX5_readPerson_20 : decode cX5_readPerson 20 = .ok (.invokevirtual 126, 3) := by decide +kernel
theorem dX5_readPerson_23 : decode cX5_readPerson 23 = .ok (.istore_n 2, 1) := by decide +kernel
theorem dX5_readPerson_24 : decode cX5_readPerson 24 = .ok (.iload_n 2, 1) := by decide +kernel
theorem dX5_readPerson_25 : decode cX5_readPerson 25 = .ok (.ifCond .ne 9, 3) := by decide +kernel
theorem dX5_readPerson_28 : decode cX5_readPerson 28 = .ok (.aload_n 0, 1) := by decide +kernel
theorem dX5_readPerson_29 : decode cX5_readPerson 29 = .ok (.iconst 1, 1) := by decide +kernel
theorem dX5_readPerson_30 : decode cX5_readPerson 30 = .ok (.invokevirtual 59, 3) := by decide +kernel
theorem dX5_readPerson_33 : decode cX5_readPerson 33 = .ok (.ireturn, 1) := by decide +kernel
theorem dX5_readPerson_34 : decode cX5_readPerson 34 = .ok (.aload_n 0, 1) := by decide +kernel
theorem dX5_readPerson_35 : decode cX5_readPerson 35 = .ok (.iconst 1, 1) := by decide +kernel
theorem dX5_readPerson_36 : decode cX5_readPerson 36 = .ok (.bipush 7, 2) := by decide +kernel
theorem dX5_readPerson_38 : decode cX5_readPerson 38 = .ok (.invokevirtual 63, 3) := by decide +kernel
theorem dX5_readPerson_41 : decode cX5_readPerson 41 = .ok (.ifCond .ne 5, 3) := by decide +kernel
theorem dX5_readPerson_44 : decode cX5_readPerson 44 = .ok (.iconst 0, 1) := by decide +kernel
theorem dX5_readPerson_45 : decode cX5_readPerson 45 = .ok (.ireturn, 1) := by decide +kernel
theorem dX5_readPerson_46 : decode cX5_readPerson 46 = .ok (.aload_n 0, 1) := by decide +kernel
theorem dX5_readPerson_47 : decode cX5_readPerson 47 = .ok (.getfield 67, 3) := by decide +kernel
theorem dX5_readPerson_50 : decode cX5_readPerson 50 = .ok (.istore_n 3, 1) := by decide +kernel
theorem dX5_readPerson_51 : decode cX5_readPerson 51 = .ok (.aload_n 0, 1) := by decide +kernel
theorem dX5_readPerson_52 : decode cX5_readPerson 52 = .ok (.iconst 0, 1) := by decide +kernel
theorem dX5_readPerson_53 : decode cX5_readPerson 53 = .ok (.bipush 9, 2) := by decide +kernel
theorem dX5_readPerson_55 : decode cX5_readPerson 55 = .ok (.invokevirtual 63, 3) := by decide +kernel
theorem dX5_readPerson_58 : decode cX5_readPerson 58 = .ok (.ifCond .ne 5, 3) := by decide +kernel
theorem dX5_readPerson_61 : decode cX5_readPerson 61 = .ok (.iconst 0, 1) := by decide +kernel
theorem dX5_readPerson_62 : decode cX5_readPerson 62 = .ok (.ireturn, 1) := by decide +kernel
theorem dX5_readPerson_63 : decode cX5_readPerson 63 = .ok (.aload_n 1, 1) := by decide +kernel
theorem dX5_readPerson_64 : decode cX5_readPerson 64 = .ok (.iload_n 2, 1) := by decide +kernel
theorem dX5_readPerson_65 : decode cX5_readPerson 65 = .ok (.iload_n 3, 1) := by decide +kernel
theorem dX5_readPerson_66 : decode cX5_readPerson 66 = .ok (.aload_n 0, 1) := by decide +kernel
theorem dX5_readPerson_67 : decode cX5_readPerson 67 = .ok (.getfield 67, 3) := by decide +kernel
theorem dX5_readPerson_70 : decode cX5_readPerson 70 = .ok (.invokevirtual 129, 3) := by decide +kernel
theorem dX5_readPerson_73 : decode cX5_readPerson 73 = .ok (.aload_n 0, 1) := by decide +kernel
theorem dX5_readPerson_74 : decode cX5_readPerson 74 = .ok (.invokevirtual 76, 3) := by decide +kernel
theorem dX5_readPerson_77 : decode cX5_readPerson 77 = .ok (.ireturn, 1) := by decide +kernel
theorem dX5_kindWord_0 : decode cX5_kindWord 0 = .ok (.aload_n 0, 1) := by decide +kernel
theorem dX5_kindWord_1 : decode cX5_kindWord 1 = .ok (.ldc 132, 2) := by decide +kernel
theorem dX5_kindWord_3 : decode cX5_kindWord 3 = .ok (.invokevirtual 55, 3) := by decide +kernel
theorem dX5_kindWord_6 : decode cX5_kindWord 6 = .ok (.ifCond .eq 5, 3) := by decide +kernel
theorem dX5_kindWord_9 : decode cX5_kindWord 9 = .ok (.iconst 1, 1) := by decide +kernel
theorem dX5_kindWord_10 : decode cX5_kindWord 10 = .ok (.ireturn, 1) := by decide +kernel
theorem dX5_kindWord_11 : decode cX5_kindWord 11 = .ok (.aload_n 0, 1) := by decide +kernel
theorem dX5_kindWord_12 : decode cX5_kindWord 12 = .ok (.ldc 134, 2) := by decide +kernel
theorem dX5_kindWord_14 : decode cX5_kindWord 14 = .ok (.invokevirtual 55, 3) := by decide +kernel
theorem dX5_kindWord_17 : decode cX5_kindWord 17 = .ok (.ifCond .eq 5, 3) := by decide +kernel
theorem dX5_kindWord_20 : decode cX5_kindWord 20 = .ok (.iconst 4, 1) := by decide +kernel
theorem dX5_kindWord_21 : decode cX5_kindWord 21 = .ok (.ireturn, 1) := by decide +kernel
theorem dX5_kindWord_22 : decode cX5_kindWord 22 = .ok (.aload_n 0, 1) := by decide +kernel
theorem dX5_kindWord_23 : decode cX5_kindWord 23 = .ok (.ldc 136, 2) := by decide +kernel
theorem dX5_kindWord_25 : decode cX5_kindWord 25 = .ok (.invokevirtual 55, 3) := by decide +kernel
theorem dX5_kindWord_28 : decode cX5_kindWord 28 = .ok (.ifCond .eq 5, 3) := by decide +kernel
theorem dX5_kindWord_31 : decode cX5_kindWord 31 = .ok (.iconst 5, 1) := by decide +kernel
theorem dX5_kindWord_32 : decode cX5_kindWord 32 = .ok (.ireturn, 1) := by decide +kernel
theorem dX5_kindWord_33 : decode cX5_kindWord 33 = .ok (.aload_n 0, 1) := by decide +kernel
theorem dX5_kindWord_34 : decode cX5_kindWord 34 = .ok (.ldc 138, 2) := by decide +kernel
theorem dX5_kindWord_36 : decode cX5_kindWord 36 = .ok (.invokevirtual 55, 3) := by decide +kernel
theorem dX5_kindWord_39 : decode cX5_kindWord 39 = .ok (.ifCond .eq 5, 3) := by decide +kernel
theorem dX5_kindWord_42 : decode cX5_kindWord 42 = .ok (.iconst 2, 1) := by decide +kernel
theorem dX5_kindWord_43 : decode cX5_kindWord 43 = .ok (.ireturn, 1) := by decide +kernel
theorem dX5_kindWord_44 : decode cX5_kindWord 44 = .ok (.aload_n 0, 1) := by decide +kernel
theorem dX5_kindWord_45 : decode cX5_kindWord 45 = .ok (.ldc 140, 2) := by decide +kernel
theorem dX5_kindWord_47 : decode cX5_kindWord 47 = .ok (.invokevirtual 55, 3) := by decide +kernel
theorem dX5_kindWord_50 : decode cX5_kindWord 50 = .ok (.ifCond .eq 7, 3) := by decide +kernel
theorem dX5_kindWord_53 : decode cX5_kindWord 53 = .ok (.iconst 3, 1) := by decide +kernel
theorem dX5_kindWord_54 : decode cX5_kindWord 54 = .ok (.goto 4, 3) := by decide +kernel
theorem dX5_kindWord_57 : decode cX5_kindWord 57 = .ok (.iconst 0, 1) := by decide +kernel
theorem dX5_kindWord_58 : decode cX5_kindWord 58 = .ok (.ireturn, 1) := by decide +kernel
theorem dX5_readCar_0 : decode cX5_readCar 0 = .ok (.aload_n 1, 1) := by decide +kernel
theorem dX5_readCar_1 : decode cX5_readCar 1 = .ok (.getfield 142, 3) := by decide +kernel
theorem dX5_readCar_4 : decode cX5_readCar 4 = .ok (.iconst 3, 1) := by decide +kernel
theorem dX5_readCar_5 : decode cX5_readCar 5 = .ok (.if_icmp .lt 9, 3) := by decide +kernel
theorem dX5_readCar_8 : decode cX5_readCar 8 = .ok (.aload_n 0, 1) := by decide +kernel
theorem dX5_readCar_9 : decode cX5_readCar 9 = .ok (.iconst 3, 1) := by decide +kernel
theorem dX5_readCar_10 : decode cX5_readCar 10 = .ok (.invokevirtual 59, 3) := by decide +kernel
theorem dX5_readCar_13 : decode cX5_readCar 13 = .ok (.ireturn, 1) := by decide +kernel
theorem dX5_readCar_14 : decode cX5_readCar 14 = .ok (.aload_n 0, 1) := by decide +kernel
theorem dX5_readCar_15 : decode cX5_readCar 15 = .ok (.iconst 0, 1) := by decide +kernel
theorem dX5_readCar_16 : decode cX5_readCar 16 = .ok (.aload_n 1, 1) := by decide +kernel
theorem dX5_readCar_17 : decode cX5_readCar 17 = .ok (.getfield 123, 3) := by decide +kernel
theorem dX5_readCar_20 : decode cX5_readCar 20 = .ok (.iconst 1, 1) := by decide +kernel
theorem dX5_readCar_21 : decode cX5_readCar 21 = .ok (.isub, 1) := by decide +kernel
theorem dX5_readCar_22 : decode cX5_readCar 22 = .ok (.invokevirtual 63, 3) := by decide +kernel
theorem dX5_readCar_25 : decode cX5_readCar 25 = .ok (.ifCond .ne 5, 3) := by decide +kernel
theorem dX5_readCar_28 : decode cX5_readCar 28 = .ok (.iconst 0, 1) := by decide +kernel
theorem dX5_readCar_29 : decode cX5_readCar 29 = .ok (.ireturn, 1) := by decide +kernel
theorem dX5_readCar_30 : decode cX5_readCar 30 = .ok (.aload_n 0, 1) := by decide +kernel
theorem dX5_readCar_31 : decode cX5_readCar 31 = .ok (.getfield 67, 3) := by decide +kernel
theorem dX5_readCar_34 : decode cX5_readCar 34 = .ok (.istore_n 2, 1) := by decide +kernel
theorem dX5_readCar_35 : decode cX5_readCar 35 = .ok (.aload_n 1, 1) := by decide +kernel
theorem dX5_readCar_36 : decode cX5_readCar 36 = .ok (.iload_n 2, 1) := by decide +kernel
theorem dX5_readCar_37 : decode cX5_readCar 37 = .ok (.invokevirtual 145, 3) := by decide +kernel
theorem dX5_readCar_40 : decode cX5_readCar 40 = .ok (.ldc 149, 2) := by decide +kernel
theorem dX5_readCar_42 : decode cX5_readCar 42 = .ok (.if_icmp .eq 9, 3) := by decide +kernel
theorem dX5_readCar_45 : decode cX5_readCar 45 = .ok (.aload_n 0, 1) := by decide +kernel
theorem dX5_readCar_46 : decode cX5_readCar 46 = .ok (.iconst 2, 1) := by decide +kernel
theorem dX5_readCar_47 : decode cX5_readCar 47 = .ok (.invokevirtual 59, 3) := by decide +kernel
theorem dX5_readCar_50 : decode cX5_readCar 50 = .ok (.ireturn, 1) := by decide +kernel
theorem dX5_readCar_51 : decode cX5_readCar 51 = .ok (.aload_n 0, 1) := by decide +kernel
theorem dX5_readCar_52 : decode cX5_readCar 52 = .ok (.iconst 1, 1) := by decide +kernel
theorem dX5_readCar_53 : decode cX5_readCar 53 = .ok (.iconst 4, 1) := by decide +kernel
theorem dX5_readCar_54 : decode cX5_readCar 54 = .ok (.invokevirtual 63, 3) := by decide +kernel
theorem dX5_readCar_57 : decode cX5_readCar 57 = .ok (.ifCond .ne 5, 3) := by decide +kernel
theorem dX5_readCar_60 : decode cX5_readCar 60 = .ok (.iconst 0, 1) := by decide +kernel
theorem dX5_readCar_61 : decode cX5_readCar 61 = .ok (.ireturn, 1) := by decide +kernel
theorem dX5_readCar_62 : decode cX5_readCar 62 = .ok (.aload_n 0, 1) := by decide +kernel
theorem dX5_readCar_63 : decode cX5_readCar 63 = .ok (.getfield 67, 3) := by decide +kernel
theorem dX5_readCar_66 : decode cX5_readCar 66 = .ok (.istore_n 3, 1) := by decide +kernel
theorem dX5_readCar_67 : decode cX5_readCar 67 = .ok (.aload_n 0, 1) := by decide +kernel
theorem dX5_readCar_68 : decode cX5_readCar 68 = .ok (.iconst 0, 1) := by decide +kernel
theorem dX5_readCar_69 : decode cX5_readCar 69 = .ok (.iconst 1, 1) := by decide +kernel
theorem dX5_readCar_70 : decode cX5_readCar 70 = .ok (.invokevirtual 63, 3) := by decide +kernel
theorem dX5_readCar_73 : decode cX5_readCar 73 = .ok (.ifCond .ne 5, 3) := by decide +kernel
theorem dX5_readCar_76 : decode cX5_readCar 76 = .ok (.iconst 0, 1) := by decide +kernel
theorem dX5_readCar_77 : decode cX5_readCar 77 = .ok (.ireturn, 1) := by decide +kernel
theorem dX5_readCar_78 : decode cX5_readCar 78 = .ok (.aload_n 1, 1) := by decide +kernel
theorem dX5_readCar_79 : decode cX5_readCar 79 = .ok (.iload_n 2, 1) := by decide +kernel
theorem dX5_readCar_80 : decode cX5_readCar 80 = .ok (.iload_n 3, 1) := by decide +kernel
theorem dX5_readCar_81 : decode cX5_readCar 81 = .ok (.aload_n 0, 1) := by decide +kernel
theorem dX5_readCar_82 : decode cX5_readCar 82 = .ok (.getfield 67, 3) := by decide +kernel
theorem dX5_readCar_85 : decode cX5_readCar 85 = .ok (.invokevirtual 150, 3) := by decide +kernel
theorem dX5_readCar_88 : decode cX5_readCar 88 = .ok (.aload_n 0, 1) := by decide +kernel
theorem dX5_readCar_89 : decode cX5_readCar 89 = .ok (.invokevirtual 76, 3) := by decide +kernel
theorem dX5_readCar_92 : decode cX5_readCar 92 = .ok (.ireturn, 1) := by decide +kernel
theorem dX5_readQuarrel_0 : decode cX5_readQuarrel 0 = .ok (.aload_n 1, 1) := by decide +kernel
theorem dX5_readQuarrel_1 : decode cX5_readQuarrel 1 = .ok (.getfield 153, 3) := by decide +kernel
theorem dX5_readQuarrel_4 : decode cX5_readQuarrel 4 = .ok (.bipush 6, 2) := by decide +kernel
theorem dX5_readQuarrel_6 : decode cX5_readQuarrel 6 = .ok (.if_icmp .lt 9, 3) := by decide +kernel
theorem dX5_readQuarrel_9 : decode cX5_readQuarrel 9 = .ok (.aload_n 0, 1) := by decide +kernel
theorem dX5_readQuarrel_10 : decode cX5_readQuarrel 10 = .ok (.iconst 3, 1) := by decide +kernel
theorem dX5_readQuarrel_11 : decode cX5_readQuarrel 11 = .ok (.invokevirtual 59, 3) := by decide +kernel
theorem dX5_readQuarrel_14 : decode cX5_readQuarrel 14 = .ok (.ireturn, 1) := by decide +kernel
theorem dX5_readQuarrel_15 : decode cX5_readQuarrel 15 = .ok (.aload_n 0, 1) := by decide +kernel
theorem dX5_readQuarrel_16 : decode cX5_readQuarrel 16 = .ok (.iconst 0, 1) := by decide +kernel
theorem dX5_readQuarrel_17 : decode cX5_readQuarrel 17 = .ok (.aload_n 1, 1) := by decide +kernel
theorem dX5_readQuarrel_18 : decode cX5_readQuarrel 18 = .ok (.getfield 123, 3) := by decide +kernel
theorem dX5_readQuarrel_21 : decode cX5_readQuarrel 21 = .ok (.iconst 1, 1) := by decide +kernel
theorem dX5_readQuarrel_22 : decode cX5_readQuarrel 22 = .ok (.isub, 1) := by decide +kernel
theorem dX5_readQuarrel_23 : decode cX5_readQuarrel 23 = .ok (.invokevirtual 63, 3) := by decide +kernel
theorem dX5_readQuarrel_26 : decode cX5_readQuarrel 26 = .ok (.ifCond .ne 5, 3) := by decide +kernel
theorem dX5_readQuarrel_29 : decode cX5_readQuarrel 29 = .ok (.iconst 0, 1) := by decide +kernel
theorem dX5_readQuarrel_30 : decode cX5_readQuarrel 30 = .ok (.ireturn, 1) := by decide +kernel
theorem dX5_readQuarrel_31 : decode cX5_readQuarrel 31 = .ok (.aload_n 0, 1) := by decide +kernel
theorem dX5_readQuarrel_32 : decode cX5_readQuarrel 32 = .ok (.getfield 67, 3) := by decide +kernel
theorem dX5_readQuarrel_35 : decode cX5_readQuarrel 35 = .ok (.istore_n 2, 1) := by decide +kernel
theorem dX5_readQuarrel_36 : decode cX5_readQuarrel 36 = .ok (.aload_n 0, 1) := by decide +kernel
theorem dX5_readQuarrel_37 : decode cX5_readQuarrel 37 = .ok (.iconst 0, 1) := by decide +kernel
theorem dX5_readQuarrel_38 : decode cX5_readQuarrel 38 = .ok (.aload_n 1, 1) := by decide +kernel
theorem dX5_readQuarrel_39 : decode cX5_readQuarrel 39 = .ok (.getfield 123, 3) := by decide +kernel
theorem dX5_readQuarrel_42 : decode cX5_readQuarrel 42 = .ok (.iconst 1, 1) := by decide +kernel
theorem dX5_readQuarrel_43 : decode cX5_readQuarrel 43 = .ok (.isub, 1) := by decide +kernel
theorem dX5_readQuarrel_44 : decode cX5_readQuarrel 44 = .ok (.invokevirtual 63, 3) := by decide +kernel
theorem dX5_readQuarrel_47 : decode cX5_readQuarrel 47 = .ok (.ifCond .ne 5, 3) := by decide +kernel
theorem dX5_readQuarrel_50 : decode cX5_readQuarrel 50 = .ok (.iconst 0, 1) := by decide +kernel
theorem dX5_readQuarrel_51 : decode cX5_readQuarrel 51 = .ok (.ireturn, 1) := by decide +kernel
theorem dX5_readQuarrel_52 : decode cX5_readQuarrel 52 = .ok (.aload_n 0, 1) := by decide +kernel
theorem dX5_readQuarrel_53 : decode cX5_readQuarrel 53 = .ok (.getfield 67, 3) := by decide +kernel
theorem dX5_readQuarrel_56 : decode cX5_readQuarrel 56 = .ok (.istore_n 3, 1) := by decide +kernel
theorem dX5_readQuarrel_57 : decode cX5_readQuarrel 57 = .ok (.iload_n 2, 1) := by decide +kernel
theorem dX5_readQuarrel_58 : decode cX5_readQuarrel 58 = .ok (.iload_n 3, 1) := by decide +kernel
theorem dX5_readQuarrel_59 : decode cX5_readQuarrel 59 = .ok (.if_icmp .ne 9, 3) := by decide +kernel
theorem dX5_readQuarrel_62 : decode cX5_readQuarrel 62 = .ok (.aload_n 0, 1) := by decide +kernel
theorem dX5_readQuarrel_63 : decode cX5_readQuarrel 63 = .ok (.iconst 2, 1) := by decide +kernel
theorem dX5_readQuarrel_64 : decode cX5_readQuarrel 64 = .ok (.invokevirtual 59, 3) := by decide +kernel
theorem dX5_readQuarrel_67 : decode cX5_readQuarrel 67 = .ok (.ireturn, 1) := by decide +kernel
theorem dX5_readQuarrel_68 : decode cX5_readQuarrel 68 = .ok (.aload_n 1, 1) := by decide +kernel
theorem dX5_readQuarrel_69 : decode cX5_readQuarrel 69 = .ok (.iload_n 2, 1) := by decide +kernel
theorem dX5_readQuarrel_70 : decode cX5_readQuarrel 70 = .ok (.iload_n 3, 1) := by decide +kernel
theorem dX5_readQuarrel_71 : decode cX5_readQuarrel 71 = .ok (.invokevirtual 156, 3) := by decide +kernel
theorem dX5_readQuarrel_74 : decode cX5_readQuarrel 74 = .ok (.aload_n 0, 1) := by decide +kernel
theorem dX5_readQuarrel_75 : decode cX5_readQuarrel 75 = .ok (.invokevirtual 76, 3) := by decide +kernel
theorem dX5_readQuarrel_78 : decode cX5_readQuarrel 78 = .ok (.ireturn, 1) := by decide +kernel
theorem dX5_readNumber_0 : decode cX5_readNumber 0 = .ok (.aload_n 0, 1) := by decide +kernel
theorem dX5_readNumber_1 : decode cX5_readNumber 1 = .ok (.invokevirtual 41, 3) := by decide +kernel
theorem dX5_readNumber_4 : decode cX5_readNumber 4 = .ok (.aload_n 0, 1) := by decide +kernel
theorem dX5_readNumber_5 : decode cX5_readNumber 5 = .ok (.getfield 44, 3) := by decide +kernel
theorem dX5_readNumber_8 : decode cX5_readNumber 8 = .ok (.iconst 2, 1) := by decide +kernel
theorem dX5_readNumber_9 : decode cX5_readNumber 9 = .ok (.if_icmp .eq 9, 3) := by decide +kernel
theorem dX5_readNumber_12 : decode cX5_readNumber 12 = .ok (.aload_n 0, 1) := by decide +kernel
theorem dX5_readNumber_13 : decode cX5_readNumber 13 = .ok (.iconst 1, 1) := by decide +kernel
theorem dX5_readNumber_14 : decode cX5_readNumber 14 = .ok (.invokevirtual 59, 3) := by decide +kernel
theorem dX5_readNumber_17 : decode cX5_readNumber 17 = .ok (.ireturn, 1) := by decide +kernel
theorem dX5_readNumber_18 : decode cX5_readNumber 18 = .ok (.aload_n 0, 1) := by decide +kernel
theorem dX5_readNumber_19 : decode cX5_readNumber 19 = .ok (.getfield 67, 3) := by decide +kernel
theorem dX5_readNumber_22 : decode cX5_readNumber 22 = .ok (.iload_n 1, 1) := by decide +kernel
theorem dX5_readNumber_23 : decode cX5_readNumber 23 = .ok (.if_icmp .lt 11, 3) := by decide +kernel
theorem dX5_readNumber_26 : decode cX5_readNumber 26 = .ok (.aload_n 0, 1) := by decide +kernel
theorem dX5_readNumber_27 : decode cX5_readNumber 27 = .ok (.getfield 67, 3) := by decide +kernel
theorem dX5_readNumber_30 : decode cX5_readNumber 30 = .ok (.iload_n 2, 1) := by decide +kernel
theorem dX5_readNumber_31 : decode cX5_readNumber 31 = .ok (.if_icmp .le 11, 3) := by decide +kernel
theorem dX5_readNumber_34 : decode cX5_readNumber 34 = .ok (.aload_n 0, 1) := by decide +kernel
theorem dX5_readNumber_35 : decode cX5_readNumber 35 = .ok (.iconst 2, 1) := by decide +kernel
theorem dX5_readNumber_36 : decode cX5_readNumber 36 = .ok (.invokevirtual 59, 3) := by decide +kernel
theorem dX5_readNumber_39 : decode cX5_readNumber 39 = .ok (.ifCond .eq 7, 3) := by decide +kernel
theorem dX5_readNumber_42 : decode cX5_readNumber 42 = .ok (.iconst 1, 1) := by decide +kernel
theorem dX5_readNumber_43 : decode cX5_readNumber 43 = .ok (.goto 4, 3) := by decide +kernel
theorem dX5_readNumber_46 : decode cX5_readNumber 46 = .ok (.iconst 0, 1) := by decide +kernel
theorem dX5_readNumber_47 : decode cX5_readNumber 47 = .ok (.ireturn, 1) := by decide +kernel
theorem dX5_readSign_0 : decode cX5_readSign 0 = .ok (.aload_n 0, 1) := by decide +kernel
theorem dX5_readSign_1 : decode cX5_readSign 1 = .ok (.invokevirtual 41, 3) := by decide +kernel
theorem dX5_readSign_4 : decode cX5_readSign 4 = .ok (.aload_n 0, 1) := by decide +kernel
theorem dX5_readSign_5 : decode cX5_readSign 5 = .ok (.getfield 44, 3) := by decide +kernel
theorem dX5_readSign_8 : decode cX5_readSign 8 = .ok (.iconst 3, 1) := by decide +kernel
theorem dX5_readSign_9 : decode cX5_readSign 9 = .ok (.if_icmp .eq 11, 3) := by decide +kernel
theorem dX5_readSign_12 : decode cX5_readSign 12 = .ok (.aload_n 0, 1) := by decide +kernel
theorem dX5_readSign_13 : decode cX5_readSign 13 = .ok (.iconst 1, 1) := by decide +kernel
theorem dX5_readSign_14 : decode cX5_readSign 14 = .ok (.invokevirtual 59, 3) := by decide +kernel
theorem dX5_readSign_17 : decode cX5_readSign 17 = .ok (.ifCond .eq 7, 3) := by decide +kernel
theorem dX5_readSign_20 : decode cX5_readSign 20 = .ok (.iconst 1, 1) := by decide +kernel
theorem dX5_readSign_21 : decode cX5_readSign 21 = .ok (.goto 4, 3) := by decide +kernel
theorem dX5_readSign_24 : decode cX5_readSign 24 = .ok (.iconst 0, 1) := by decide +kernel
theorem dX5_readSign_25 : decode cX5_readSign 25 = .ok (.ireturn, 1) := by decide +kernel
theorem dX5_fail_0 : decode cX5_fail 0 = .ok (.aload_n 0, 1) := by decide +kernel
theorem dX5_fail_1 : decode cX5_fail 1 = .ok (.iload_n 1, 1) := by decide +kernel
theorem dX5_fail_2 : decode cX5_fail 2 = .ok (.putfield 19, 3) := by decide +kernel
theorem dX5_fail_5 : decode cX5_fail 5 = .ok (.aload_n 0, 1) := by decide +kernel
theorem dX5_fail_6 : decode cX5_fail 6 = .ok (.aload_n 0, 1) := by decide +kernel
theorem dX5_fail_7 : decode cX5_fail 7 = .ok (.getfield 160, 3) := by decide +kernel
theorem dX5_fail_10 : decode cX5_fail 10 = .ok (.putfield 22, 3) := by decide +kernel
theorem dX5_fail_13 : decode cX5_fail 13 = .ok (.iconst 0, 1) := by decide +kernel
theorem dX5_fail_14 : decode cX5_fail 14 = .ok (.ireturn, 1) := by decide +kernel
theorem dX5_readToken_0 : decode cX5_readToken 0 = .ok (.aload_n 0, 1) := by decide +kernel
theorem dX5_readToken_1 : decode cX5_readToken 1 = .ok (.aload_n 0, 1) := by decide +kernel
theorem dX5_readToken_2 : decode cX5_readToken 2 = .ok (.getfield 26, 3) := by decide +kernel
theorem dX5_readToken_5 : decode cX5_readToken 5 = .ok (.putfield 160, 3) := by decide +kernel
theorem dX5_readToken_8 : decode cX5_readToken 8 = .ok (.aload_n 0, 1) := by decide +kernel
theorem dX5_readToken_9 : decode cX5_readToken 9 = .ok (.getfield 160, 3) := by decide +kernel
theorem dX5_readToken_12 : decode cX5_readToken 12 = .ok (.aload_n 0, 1) := by decide +kernel
theorem dX5_readToken_13 : decode cX5_readToken 13 = .ok (.getfield 15, 3) := by decide +kernel
theorem dX5_readToken_16 : decode cX5_readToken 16 = .ok (.if_icmp .ge 31, 3) := by decide +kernel
theorem dX5_readToken_19 : decode cX5_readToken 19 = .ok (.aload_n 0, 1) := by decide +kernel
theorem dX5_readToken_20 : decode cX5_readToken 20 = .ok (.getfield 9, 3) := by decide +kernel
theorem dX5_readToken_23 : decode cX5_readToken 23 = .ok (.aload_n 0, 1) := by decide +kernel
theorem dX5_readToken_24 : decode cX5_readToken 24 = .ok (.getfield 160, 3) := by decide +kernel
theorem dX5_readToken_27 : decode cX5_readToken 27 = .ok (.baload, 1) := by decide +kernel
theorem dX5_readToken_28 : decode cX5_readToken 28 = .ok (.invokestatic 163, 3) := by decide +kernel
theorem dX5_readToken_31 : decode cX5_readToken 31 = .ok (.ifCond .eq 16, 3) := by decide +kernel
theorem dX5_readToken_34 : decode cX5_readToken 34 = .ok (.aload_n 0, 1) := by decide +kernel
theorem dX5_readToken_35 : decode cX5_readToken 35 = .ok (.dup, 1) := by decide +kernel
theorem dX5_readToken_36 : decode cX5_readToken 36 = .ok (.getfield 160, 3) := by decide +kernel
theorem dX5_readToken_39 : decode cX5_readToken 39 = .ok (.iconst 1, 1) := by decide +kernel
theorem dX5_readToken_40 : decode cX5_readToken 40 = .ok (.iadd, 1) := by decide +kernel
theorem dX5_readToken_41 : decode cX5_readToken 41 = .ok (.putfield 160, 3) := by decide +kernel
theorem dX5_readToken_44 : decode cX5_readToken 44 = .ok (.goto (-36), 3) := by decide +kernel
theorem dX5_readToken_47 : decode cX5_readToken 47 = .ok (.aload_n 0, 1) := by decide +kernel
theorem dX5_readToken_48 : decode cX5_readToken 48 = .ok (.aload_n 0, 1) := by decide +kernel
theorem dX5_readToken_49 : decode cX5_readToken 49 = .ok (.getfield 160, 3) := by decide +kernel
theorem dX5_readToken_52 : decode cX5_readToken 52 = .ok (.putfield 26, 3) := by decide +kernel
theorem dX5_readToken_55 : decode cX5_readToken 55 = .ok (.aload_n 0, 1) := by decide +kernel
theorem dX5_readToken_56 : decode cX5_readToken 56 = .ok (.getfield 160, 3) := by decide +kernel
theorem dX5_readToken_59 : decode cX5_readToken 59 = .ok (.aload_n 0, 1) := by decide +kernel
theorem dX5_readToken_60 : decode cX5_readToken 60 = .ok (.getfield 15, 3) := by decide +kernel
theorem dX5_readToken_63 : decode cX5_readToken 63 = .ok (.if_icmp .lt 11, 3) := by decide +kernel
theorem dX5_readToken_66 : decode cX5_readToken 66 = .ok (.aload_n 0, 1) := by decide +kernel
theorem dX5_readToken_67 : decode cX5_readToken 67 = .ok (.iconst 0, 1) := by decide +kernel
theorem dX5_readToken_68 : decode cX5_readToken 68 = .ok (.putfield 44, 3) := by decide +kernel
theorem dX5_readToken_71 : decode cX5_readToken 71 = .ok (.goto 80, 3) := by decide +kernel
theorem dX5_readToken_74 : decode cX5_readToken 74 = .ok (.aload_n 0, 1) := by decide +kernel
theorem dX5_readToken_75 : decode cX5_readToken 75 = .ok (.getfield 9, 3) := by decide +kernel
theorem dX5_readToken_78 : decode cX5_readToken 78 = .ok (.aload_n 0, 1) := by decide +kernel
theorem dX5_readToken_79 : decode cX5_readToken 79 = .ok (.getfield 160, 3) := by decide +kernel
theorem dX5_readToken_82 : decode cX5_readToken 82 = .ok (.baload, 1) := by decide +kernel
theorem dX5_readToken_83 : decode cX5_readToken 83 = .ok (.invokestatic 167, 3) := by decide +kernel
theorem dX5_readToken_86 : decode cX5_readToken 86 = .ok (.ifCond .eq 10, 3) := by decide +kernel
theorem dX5_readToken_89 : decode cX5_readToken 89 = .ok (.aload_n 0, 1) := by decide +kernel
theorem dX5_readToken_90 : decode cX5_readToken 90 = .ok (.invokevirtual 170, 3) := by decide +kernel
theorem dX5_readToken_93 : decode cX5_readToken 93 = .ok (.goto 58, 3) := by decide +kernel
theorem dX5_readToken_96 : decode cX5_readToken 96 = .ok (.aload_n 0, 1) := by decide +kernel
theorem dX5_readToken_97 : decode cX5_readToken 97 = .ok (.getfield 9, 3) := by decide +kernel
theorem dX5_readToken_100 : decode cX5_readToken 100 = .ok (.aload_n 0, 1) := by decide +kernel
theorem dX5_readToken_101 : decode cX5_readToken 101 = .ok (.getfield 160, 3) := by decide +kernel
theorem dX5_readToken_104 : decode cX5_readToken 104 = .ok (.baload, 1) := by decide +kernel
theorem dX5_readToken_105 : decode cX5_readToken 105 = .ok (.invokestatic 173, 3) := by decide +kernel
theorem dX5_readToken_108 : decode cX5_readToken 108 = .ok (.ifCond .eq 10, 3) := by decide +kernel
theorem dX5_readToken_111 : decode cX5_readToken 111 = .ok (.aload_n 0, 1) := by decide +kernel
theorem dX5_readToken_112 : decode cX5_readToken 112 = .ok (.invokevirtual 176, 3) := by decide +kernel
theorem dX5_readToken_115 : decode cX5_readToken 115 = .ok (.goto 36, 3) := by decide +kernel
theorem dX5_readToken_118 : decode cX5_readToken 118 = .ok (.aload_n 0, 1) := by decide +kernel
theorem dX5_readToken_119 : decode cX5_readToken 119 = .ok (.aload_n 0, 1) := by decide +kernel
theorem dX5_readToken_120 : decode cX5_readToken 120 = .ok (.getfield 9, 3) := by decide +kernel
theorem dX5_readToken_123 : decode cX5_readToken 123 = .ok (.aload_n 0, 1) := by decide +kernel
theorem dX5_readToken_124 : decode cX5_readToken 124 = .ok (.getfield 160, 3) := by decide +kernel
theorem dX5_readToken_127 : decode cX5_readToken 127 = .ok (.baload, 1) := by decide +kernel
theorem dX5_readToken_128 : decode cX5_readToken 128 = .ok (.bipush 59, 2) := by decide +kernel
theorem dX5_readToken_130 : decode cX5_readToken 130 = .ok (.if_icmp .ne 7, 3) := by decide +kernel
theorem dX5_readToken_133 : decode cX5_readToken 133 = .ok (.iconst 3, 1) := by decide +kernel
theorem dX5_readToken_134 : decode cX5_readToken 134 = .ok (.goto 4, 3) := by decide +kernel
theorem dX5_readToken_137 : decode cX5_readToken 137 = .ok (.iconst 4, 1) := by decide +kernel
theorem dX5_readToken_138 : decode cX5_readToken 138 = .ok (.putfield 44, 3) := by decide +kernel
theorem dX5_readToken_141 : decode cX5_readToken 141 = .ok (.aload_n 0, 1) := by decide +kernel
theorem dX5_readToken_142 : decode cX5_readToken 142 = .ok (.dup, 1) := by decide +kernel
theorem dX5_readToken_143 : decode cX5_readToken 143 = .ok (.getfield 26, 3) := by decide +kernel
theorem dX5_readToken_146 : decode cX5_readToken 146 = .ok (.iconst 1, 1) := by decide +kernel
theorem dX5_readToken_147 : decode cX5_readToken 147 = .ok (.iadd, 1) := by decide +kernel
theorem dX5_readToken_148 : decode cX5_readToken 148 = .ok (.putfield 26, 3) := by decide +kernel
theorem dX5_readToken_151 : decode cX5_readToken 151 = .ok (.return_, 1) := by decide +kernel
theorem dX5_readLetters_0 : decode cX5_readLetters 0 = .ok (.aload_n 0, 1) := by decide +kernel
theorem dX5_readLetters_1 : decode cX5_readLetters 1 = .ok (.iconst 1, 1) := by decide +kernel
theorem dX5_readLetters_2 : decode cX5_readLetters 2 = .ok (.putfield 44, 3) := by decide +kernel
theorem dX5_readLetters_5 : decode cX5_readLetters 5 = .ok (.aload_n 0, 1) := by decide +kernel
theorem dX5_readLetters_6 : decode cX5_readLetters 6 = .ok (.getfield 26, 3) := by decide +kernel
theorem dX5_readLetters_9 : decode cX5_readLetters 9 = .ok (.aload_n 0, 1) := by decide +kernel
theorem dX5_readLetters_10 : decode cX5_readLetters 10 = .ok (.getfield 15, 3) := by decide +kernel
theorem dX5_readLetters_13 : decode cX5_readLetters 13 = .ok (.if_icmp .ge 31, 3) := by decide +kernel
theorem dX5_readLetters_16 : decode cX5_readLetters 16 = .ok (.aload_n 0, 1) := by decide +kernel
theorem dX5_readLetters_17 : decode cX5_readLetters 17 = .ok (.getfield 9, 3) := by decide +kernel
theorem dX5_readLetters_20 : decode cX5_readLetters 20 = .ok (.aload_n 0, 1) := by decide +kernel
theorem dX5_readLetters_21 : decode cX5_readLetters 21 = .ok (.getfield 26, 3) := by decide +kernel
theorem dX5_readLetters_24 : decode cX5_readLetters 24 = .ok (.baload, 1) := by decide +kernel
theorem dX5_readLetters_25 : decode cX5_readLetters 25 = .ok (.invokestatic 167, 3) := by decide +kernel
theorem dX5_readLetters_28 : decode cX5_readLetters 28 = .ok (.ifCond .eq 16, 3) := by decide +kernel
theorem dX5_readLetters_31 : decode cX5_readLetters 31 = .ok (.aload_n 0, 1) := by decide +kernel
theorem dX5_readLetters_32 : decode cX5_readLetters 32 = .ok (.dup, 1) := by decide +kernel
theorem dX5_readLetters_33 : decode cX5_readLetters 33 = .ok (.getfield 26, 3) := by decide +kernel
theorem dX5_readLetters_36 : decode cX5_readLetters 36 = .ok (.iconst 1, 1) := by decide +kernel
theorem dX5_readLetters_37 : decode cX5_readLetters 37 = .ok (.iadd, 1) := by decide +kernel
theorem dX5_readLetters_38 : decode cX5_readLetters 38 = .ok (.putfield 26, 3) := by decide +kernel
theorem dX5_readLetters_41 : decode cX5_readLetters 41 = .ok (.goto (-36), 3) := by decide +kernel
theorem dX5_readLetters_44 : decode cX5_readLetters 44 = .ok (.return_, 1) := by decide +kernel
theorem dX5_readFigures_0 : decode cX5_readFigures 0 = .ok (.aload_n 0, 1) := by decide +kernel
theorem dX5_readFigures_1 : decode cX5_readFigures 1 = .ok (.iconst 0, 1) := by decide +kernel
theorem dX5_readFigures_2 : decode cX5_readFigures 2 = .ok (.putfield 67, 3) := by decide +kernel
theorem dX5_readFigures_5 : decode cX5_readFigures 5 = .ok (.aload_n 0, 1) := by decide +kernel
theorem dX5_readFigures_6 : decode cX5_readFigures 6 = .ok (.getfield 26, 3) := by decide +kernel
theorem dX5_readFigures_9 : decode cX5_readFigures 9 = .ok (.aload_n 0, 1) := by decide +kernel
theorem dX5_readFigures_10 : decode cX5_readFigures 10 = .ok (.getfield 15, 3) := by decide +kernel
theorem dX5_readFigures_13 : decode cX5_readFigures 13 = .ok (.if_icmp .ge 68, 3) := by decide +kernel
theorem dX5_readFigures_16 : decode cX5_readFigures 16 = .ok (.aload_n 0, 1) := by decide +kernel
theorem dX5_readFigures_17 : decode cX5_readFigures 17 = .ok (.getfield 9, 3) := by decide +kernel
theorem dX5_readFigures_20 : decode cX5_readFigures 20 = .ok (.aload_n 0, 1) := by decide +kernel
theorem dX5_readFigures_21 : decode cX5_readFigures 21 = .ok (.getfield 26, 3) := by decide +kernel
theorem dX5_readFigures_24 : decode cX5_readFigures 24 = .ok (.baload, 1) := by decide +kernel
theorem dX5_readFigures_25 : decode cX5_readFigures 25 = .ok (.invokestatic 173, 3) := by decide +kernel
theorem dX5_readFigures_28 : decode cX5_readFigures 28 = .ok (.ifCond .eq 53, 3) := by decide +kernel
theorem dX5_readFigures_31 : decode cX5_readFigures 31 = .ok (.aload_n 0, 1) := by decide +kernel
theorem dX5_readFigures_32 : decode cX5_readFigures 32 = .ok (.getfield 26, 3) := by decide +kernel
theorem dX5_readFigures_35 : decode cX5_readFigures 35 = .ok (.aload_n 0, 1) := by decide +kernel
theorem dX5_readFigures_36 : decode cX5_readFigures 36 = .ok (.getfield 160, 3) := by decide +kernel
theorem dX5_readFigures_39 : decode cX5_readFigures 39 = .ok (.isub, 1) := by decide +kernel
theorem dX5_readFigures_40 : decode cX5_readFigures 40 = .ok (.iconst 3, 1) := by decide +kernel
theorem dX5_readFigures_41 : decode cX5_readFigures 41 = .ok (.if_icmp .ge 27, 3) := by decide +kernel
theorem dX5_readFigures_44 : decode cX5_readFigures 44 = .ok (.aload_n 0, 1) := by decide +kernel
theorem dX5_readFigures_45 : decode cX5_readFigures 45 = .ok (.bipush 10, 2) := by decide +kernel
theorem dX5_readFigures_47 : decode cX5_readFigures 47 = .ok (.aload_n 0, 1) := by decide +kernel
theorem dX5_readFigures_48 : decode cX5_readFigures 48 = .ok (.getfield 67, 3) := by decide +kernel
theorem dX5_readFigures_51 : decode cX5_readFigures 51 = .ok (.imul, 1) := by decide +kernel
theorem dX5_readFigures_52 : decode cX5_readFigures 52 = .ok (.aload_n 0, 1) := by decide +kernel
theorem dX5_readFigures_53 : decode cX5_readFigures 53 = .ok (.getfield 9, 3) := by decide +kernel
theorem dX5_readFigures_56 : decode cX5_readFigures 56 = .ok (.aload_n 0, 1) := by decide +kernel
theorem dX5_readFigures_57 : decode cX5_readFigures 57 = .ok (.getfield 26, 3) := by decide +kernel
theorem dX5_readFigures_60 : decode cX5_readFigures 60 = .ok (.baload, 1) := by decide +kernel
theorem dX5_readFigures_61 : decode cX5_readFigures 61 = .ok (.iadd, 1) := by decide +kernel
theorem dX5_readFigures_62 : decode cX5_readFigures 62 = .ok (.bipush 48, 2) := by decide +kernel
theorem dX5_readFigures_64 : decode cX5_readFigures 64 = .ok (.isub, 1) := by decide +kernel
theorem dX5_readFigures_65 : decode cX5_readFigures 65 = .ok (.putfield 67, 3) := by decide +kernel
theorem dX5_readFigures_68 : decode cX5_readFigures 68 = .ok (.aload_n 0, 1) := by decide +kernel
theorem dX5_readFigures_69 : decode cX5_readFigures 69 = .ok (.dup, 1) := by decide +kernel
theorem dX5_readFigures_70 : decode cX5_readFigures 70 = .ok (.getfield 26, 3) := by decide +kernel
theorem dX5_readFigures_73 : decode cX5_readFigures 73 = .ok (.iconst 1, 1) := by decide +kernel
theorem dX5_readFigures_74 : decode cX5_readFigures 74 = .ok (.iadd, 1) := by decide +kernel
theorem dX5_readFigures_75 : decode cX5_readFigures 75 = .ok (.putfield 26, 3) := by decide +kernel
theorem dX5_readFigures_78 : decode cX5_readFigures 78 = .ok (.goto (-73), 3) := by decide +kernel
theorem dX5_readFigures_81 : decode cX5_readFigures 81 = .ok (.aload_n 0, 1) := by decide +kernel
theorem dX5_readFigures_82 : decode cX5_readFigures 82 = .ok (.aload_n 0, 1) := by decide +kernel
theorem dX5_readFigures_83 : decode cX5_readFigures 83 = .ok (.getfield 26, 3) := by decide +kernel
theorem dX5_readFigures_86 : decode cX5_readFigures 86 = .ok (.aload_n 0, 1) := by decide +kernel
theorem dX5_readFigures_87 : decode cX5_readFigures 87 = .ok (.getfield 160, 3) := by decide +kernel
theorem dX5_readFigures_90 : decode cX5_readFigures 90 = .ok (.isub, 1) := by decide +kernel
theorem dX5_readFigures_91 : decode cX5_readFigures 91 = .ok (.iconst 3, 1) := by decide +kernel
theorem dX5_readFigures_92 : decode cX5_readFigures 92 = .ok (.if_icmp .gt 7, 3) := by decide +kernel
theorem dX5_readFigures_95 : decode cX5_readFigures 95 = .ok (.iconst 2, 1) := by decide +kernel
theorem dX5_readFigures_96 : decode cX5_readFigures 96 = .ok (.goto 4, 3) := by decide +kernel
theorem dX5_readFigures_99 : decode cX5_readFigures 99 = .ok (.iconst 4, 1) := by decide +kernel
theorem dX5_readFigures_100 : decode cX5_readFigures 100 = .ok (.putfield 44, 3) := by decide +kernel
theorem dX5_readFigures_103 : decode cX5_readFigures 103 = .ok (.return_, 1) := by decide +kernel
theorem dX5_isWord_0 : decode cX5_isWord 0 = .ok (.aload_n 0, 1) := by decide +kernel
theorem dX5_isWord_1 : decode cX5_isWord 1 = .ok (.getfield 44, 3) := by decide +kernel
theorem dX5_isWord_4 : decode cX5_isWord 4 = .ok (.iconst 1, 1) := by decide +kernel
theorem dX5_isWord_5 : decode cX5_isWord 5 = .ok (.if_icmp .ne 19, 3) := by decide +kernel
theorem dX5_isWord_8 : decode cX5_isWord 8 = .ok (.aload_n 0, 1) := by decide +kernel
theorem dX5_isWord_9 : decode cX5_isWord 9 = .ok (.getfield 26, 3) := by decide +kernel
theorem dX5_isWord_12 : decode cX5_isWord 12 = .ok (.aload_n 0, 1) := by decide +kernel
theorem dX5_isWord_13 : decode cX5_isWord 13 = .ok (.getfield 160, 3) := by decide +kernel
theorem dX5_isWord_16 : decode cX5_isWord 16 = .ok (.isub, 1) := by decide +kernel
theorem dX5_isWord_17 : decode cX5_isWord 17 = .ok (.aload_n 1, 1) := by decide +kernel
theorem dX5_isWord_18 : decode cX5_isWord 18 = .ok (.invokevirtual 179, 3) := by decide +kernel
theorem dX5_isWord_21 : decode cX5_isWord 21 = .ok (.if_icmp .eq 5, 3) := by decide +kernel
theorem dX5_isWord_24 : decode cX5_isWord 24 = .ok (.iconst 0, 1) := by decide +kernel
theorem dX5_isWord_25 : decode cX5_isWord 25 = .ok (.ireturn, 1) := by decide +kernel
theorem dX5_isWord_26 : decode cX5_isWord 26 = .ok (.iconst 0, 1) := by decide +kernel
theorem dX5_isWord_27 : decode cX5_isWord 27 = .ok (.istore_n 2, 1) := by decide +kernel
theorem dX5_isWord_28 : decode cX5_isWord 28 = .ok (.iload_n 2, 1) := by decide +kernel
theorem dX5_isWord_29 : decode cX5_isWord 29 = .ok (.aload_n 1, 1) := by decide +kernel
theorem dX5_isWord_30 : decode cX5_isWord 30 = .ok (.invokevirtual 179, 3) := by decide +kernel
theorem dX5_isWord_33 : decode cX5_isWord 33 = .ok (.if_icmp .ge 30, 3) := by decide +kernel
theorem dX5_isWord_36 : decode cX5_isWord 36 = .ok (.aload_n 0, 1) := by decide +kernel
theorem dX5_isWord_37 : decode cX5_isWord 37 = .ok (.getfield 9, 3) := by decide +kernel
theorem dX5_isWord_40 : decode cX5_isWord 40 = .ok (.aload_n 0, 1) := by decide +kernel
theorem dX5_isWord_41 : decode cX5_isWord 41 = .ok (.getfield 160, 3) := by decide +kernel
theorem dX5_isWord_44 : decode cX5_isWord 44 = .ok (.iload_n 2, 1) := by decide +kernel
theorem dX5_isWord_45 : decode cX5_isWord 45 = .ok (.iadd, 1) := by decide +kernel
theorem dX5_isWord_46 : decode cX5_isWord 46 = .ok (.baload, 1) := by decide +kernel
theorem dX5_isWord_47 : decode cX5_isWord 47 = .ok (.aload_n 1, 1) := by decide +kernel
theorem dX5_isWord_48 : decode cX5_isWord 48 = .ok (.iload_n 2, 1) := by decide +kernel
theorem dX5_isWord_49 : decode cX5_isWord 49 = .ok (.invokevirtual 183, 3) := by decide +kernel
theorem dX5_isWord_52 : decode cX5_isWord 52 = .ok (.if_icmp .eq 5, 3) := by decide +kernel
theorem dX5_isWord_55 : decode cX5_isWord 55 = .ok (.iconst 0, 1) := by decide +kernel
theorem dX5_isWord_56 : decode cX5_isWord 56 = .ok (.ireturn, 1) := by decide +kernel
theorem dX5_isWord_57 : decode cX5_isWord 57 = .ok (.iinc 2 1, 3) := by decide +kernel
theorem dX5_isWord_60 : decode cX5_isWord 60 = .ok (.goto (-32), 3) := by decide +kernel
theorem dX5_isWord_63 : decode cX5_isWord 63 = .ok (.iconst 1, 1) := by decide +kernel
theorem dX5_isWord_64 : decode cX5_isWord 64 = .ok (.ireturn, 1) := by decide +kernel
theorem dX5_isGap_0 : decode cX5_isGap 0 = .ok (.iload_n 0, 1) := by decide +kernel
theorem dX5_isGap_1 : decode cX5_isGap 1 = .ok (.bipush 32, 2) := by decide +kernel
theorem dX5_isGap_3 : decode cX5_isGap 3 = .ok (.if_icmp .eq 9, 3) := by decide +kernel
theorem dX5_isGap_6 : decode cX5_isGap 6 = .ok (.iload_n 0, 1) := by decide +kernel
theorem dX5_isGap_7 : decode cX5_isGap 7 = .ok (.bipush 10, 2) := by decide +kernel
theorem dX5_isGap_9 : decode cX5_isGap 9 = .ok (.if_icmp .ne 7, 3) := by decide +kernel
theorem dX5_isGap_12 : decode cX5_isGap 12 = .ok (.iconst 1, 1) := by decide +kernel
theorem dX5_isGap_13 : decode cX5_isGap 13 = .ok (.goto 4, 3) := by decide +kernel
theorem dX5_isGap_16 : decode cX5_isGap 16 = .ok (.iconst 0, 1) := by decide +kernel
theorem dX5_isGap_17 : decode cX5_isGap 17 = .ok (.ireturn, 1) := by decide +kernel
theorem dX5_isLetter_0 : decode cX5_isLetter 0 = .ok (.iload_n 0, 1) := by decide +kernel
theorem dX5_isLetter_1 : decode cX5_isLetter 1 = .ok (.bipush 97, 2) := by decide +kernel
theorem dX5_isLetter_3 : decode cX5_isLetter 3 = .ok (.if_icmp .lt 13, 3) := by decide +kernel
theorem dX5_isLetter_6 : decode cX5_isLetter 6 = .ok (.iload_n 0, 1) := by decide +kernel
theorem dX5_isLetter_7 : decode cX5_isLetter 7 = .ok (.bipush 122, 2) := by decide +kernel
theorem dX5_isLetter_9 : decode cX5_isLetter 9 = .ok (.if_icmp .gt 7, 3) := by decide +kernel
theorem dX5_isLetter_12 : decode cX5_isLetter 12 = .ok (.iconst 1, 1) := by decide +kernel
theorem dX5_isLetter_13 : decode cX5_isLetter 13 = .ok (.goto 4, 3) := by decide +kernel
theorem dX5_isLetter_16 : decode cX5_isLetter 16 = .ok (.iconst 0, 1) := by decide +kernel
theorem dX5_isLetter_17 : decode cX5_isLetter 17 = .ok (.ireturn, 1) := by decide +kernel
theorem dX5_isFigure_0 : decode cX5_isFigure 0 = .ok (.iload_n 0, 1) := by decide +kernel
theorem dX5_isFigure_1 : decode cX5_isFigure 1 = .ok (.bipush 48, 2) := by decide +kernel
theorem dX5_isFigure_3 : decode cX5_isFigure 3 = .ok (.if_icmp .lt 13, 3) := by decide +kernel
theorem dX5_isFigure_6 : decode cX5_isFigure 6 = .ok (.iload_n 0, 1) := by decide +kernel
theorem dX5_isFigure_7 : decode cX5_isFigure 7 = .ok (.bipush 57, 2) := by decide +kernel
theorem dX5_isFigure_9 : decode cX5_isFigure 9 = .ok (.if_icmp .gt 7, 3) := by decide +kernel
theorem dX5_isFigure_12 : decode cX5_isFigure 12 = .ok (.iconst 1, 1) := by decide +kernel
theorem dX5_isFigure_13 : decode cX5_isFigure 13 = .ok (.goto 4, 3) := by decide +kernel
theorem dX5_isFigure_16 : decode cX5_isFigure 16 = .ok (.iconst 0, 1) := by decide +kernel
theorem dX5_isFigure_17 : decode cX5_isFigure 17 = .ok (.ireturn, 1) := by decide +kernel
theorem dX6_isMissing_0 : decode cX6_isMissing 0 = .ok (.aload_n 0, 1) := by decide +kernel
theorem dX6_isMissing_1 : decode cX6_isMissing 1 = .ok (.getfield 9, 3) := by decide +kernel
theorem dX6_isMissing_4 : decode cX6_isMissing 4 = .ok (.iload_n 1, 1) := by decide +kernel
theorem dX6_isMissing_5 : decode cX6_isMissing 5 = .ok (.iaload, 1) := by decide +kernel
theorem dX6_isMissing_6 : decode cX6_isMissing 6 = .ok (.iconst (-1), 1) := by decide +kernel
theorem dX6_isMissing_7 : decode cX6_isMissing 7 = .ok (.if_icmp .ne 7, 3) := by decide +kernel
theorem dX6_isMissing_10 : decode cX6_isMissing 10 = .ok (.iconst 1, 1) := by decide +kernel
theorem dX6_isMissing_11 : decode cX6_isMissing 11 = .ok (.goto 4, 3) := by decide +kernel
theorem dX6_isMissing_14 : decode cX6_isMissing 14 = .ok (.iconst 0, 1) := by decide +kernel
theorem dX6_isMissing_15 : decode cX6_isMissing 15 = .ok (.ireturn, 1) := by decide +kernel
theorem dX6_areOfOneLane_0 : decode cX6_areOfOneLane 0 = .ok (.aload_n 0, 1) := by decide +kernel
theorem dX6_areOfOneLane_1 : decode cX6_areOfOneLane 1 = .ok (.getfield 9, 3) := by decide +kernel
theorem dX6_areOfOneLane_4 : decode cX6_areOfOneLane 4 = .ok (.iload_n 1, 1) := by decide +kernel
theorem dX6_areOfOneLane_5 : decode cX6_areOfOneLane 5 = .ok (.iaload, 1) := by decide +kernel
theorem dX6_areOfOneLane_6 : decode cX6_areOfOneLane 6 = .ok (.aload_n 0, 1) := by decide +kernel
theorem dX6_areOfOneLane_7 : decode cX6_areOfOneLane 7 = .ok (.getfield 9, 3) := by decide +kernel
theorem dX6_areOfOneLane_10 : decode cX6_areOfOneLane 10 = .ok (.iload_n 2, 1) := by decide +kernel
theorem dX6_areOfOneLane_11 : decode cX6_areOfOneLane 11 = .ok (.iaload, 1) := by decide +kernel
theorem dX6_areOfOneLane_12 : decode cX6_areOfOneLane 12 = .ok (.if_icmp .ne 7, 3) := by decide +kernel
theorem dX6_areOfOneLane_15 : decode cX6_areOfOneLane 15 = .ok (.iconst 1, 1) := by decide +kernel
theorem dX6_areOfOneLane_16 : decode cX6_areOfOneLane 16 = .ok (.goto 4, 3) := by decide +kernel
theorem dX6_areOfOneLane_19 : decode cX6_areOfOneLane 19 = .ok (.iconst 0, 1) := by decide +kernel
theorem dX6_areOfOneLane_20 : decode cX6_areOfOneLane 20 = .ok (.ireturn, 1) := by decide +kernel
theorem dX6_hasStretch_0 : decode cX6_hasStretch 0 = .ok (.iload_n 2, 1) := by decide +kernel
theorem dX6_hasStretch_1 : decode cX6_hasStretch 1 = .ok (.ifCond .lt 33, 3) := by decide +kernel
theorem dX6_hasStretch_4 : decode cX6_hasStretch 4 = .ok (.iload_n 3, 1) := by decide +kernel
theorem dX6_hasStretch_5 : decode cX6_hasStretch 5 = .ok (.ifCond .lt 29, 3) := by decide +kernel
theorem dX6_hasStretch_8 : decode cX6_hasStretch 8 = .ok (.iload_n 2, 1) := by decide +kernel
theorem dX6_hasStretch_9 : decode cX6_hasStretch 9 = .ok (.aload_n 0, 1) := by decide +kernel
theorem dX6_hasStretch_10 : decode cX6_hasStretch 10 = .ok (.getfield 15, 3) := by decide +kernel
theorem dX6_hasStretch_13 : decode cX6_hasStretch 13 = .ok (.iload_n 1, 1) := by decide +kernel
theorem dX6_hasStretch_14 : decode cX6_hasStretch 14 = .ok (.iaload, 1) := by decide +kernel
theorem dX6_hasStretch_15 : decode cX6_hasStretch 15 = .ok (.if_icmp .gt 19, 3) := by decide +kernel
theorem dX6_hasStretch_18 : decode cX6_hasStretch 18 = .ok (.iload_n 3, 1) := by decide +kernel
theorem dX6_hasStretch_19 : decode cX6_hasStretch 19 = .ok (.aload_n 0, 1) := by decide +kernel
theorem dX6_hasStretch_20 : decode cX6_hasStretch 20 = .ok (.getfield 15, 3) := by decide +kernel
theorem dX6_hasStretch_23 : decode cX6_hasStretch 23 = .ok (.iload_n 1, 1) := by decide +kernel
theorem dX6_hasStretch_24 : decode cX6_hasStretch 24 = .ok (.iaload, 1) := by decide +kernel
theorem dX6_hasStretch_25 : decode cX6_hasStretch 25 = .ok (.iload_n 2, 1) := by decide +kernel
theorem dX6_hasStretch_26 : decode cX6_hasStretch 26 = .ok (.isub, 1) := by decide +kernel
theorem dX6_hasStretch_27 : decode cX6_hasStretch 27 = .ok (.if_icmp .gt 7, 3) := by decide +kernel
theorem dX6_hasStretch_30 : decode cX6_hasStretch 30 = .ok (.iconst 1, 1) := by decide +kernel
theorem dX6_hasStretch_31 : decode cX6_hasStretch 31 = .ok (.goto 4, 3) := by decide +kernel
theorem dX6_hasStretch_34 : decode cX6_hasStretch 34 = .ok (.iconst 0, 1) := by decide +kernel
theorem dX6_hasStretch_35 : decode cX6_hasStretch 35 = .ok (.ireturn, 1) := by decide +kernel
theorem dX6_make_0 : decode cX6_make 0 = .ok (.aload_n 0, 1) := by decide +kernel
theorem dX6_make_1 : decode cX6_make 1 = .ok (.getfield 9, 3) := by decide +kernel
theorem dX6_make_4 : decode cX6_make 4 = .ok (.iload_n 1, 1) := by decide +kernel
theorem dX6_make_5 : decode cX6_make 5 = .ok (.iload_n 2, 1) := by decide +kernel
theorem dX6_make_6 : decode cX6_make 6 = .ok (.iastore, 1) := by decide +kernel
theorem dX6_make_7 : decode cX6_make 7 = .ok (.aload_n 0, 1) := by decide +kernel
theorem dX6_make_8 : decode cX6_make 8 = .ok (.getfield 15, 3) := by decide +kernel
theorem dX6_make_11 : decode cX6_make 11 = .ok (.iload_n 1, 1) := by decide +kernel
theorem dX6_make_12 : decode cX6_make 12 = .ok (.iload_n 3, 1) := by decide +kernel
theorem dX6_make_13 : decode cX6_make 13 = .ok (.iastore, 1) := by decide +kernel
theorem dX6_make_14 : decode cX6_make 14 = .ok (.aload_n 0, 1) := by decide +kernel
theorem dX6_make_15 : decode cX6_make 15 = .ok (.getfield 20, 3) := by decide +kernel
theorem dX6_make_18 : decode cX6_make 18 = .ok (.iload_n 1, 1) := by decide +kernel
theorem dX6_make_19 : decode cX6_make 19 = .ok (.aaload, 1) := by decide +kernel
theorem dX6_make_20 : decode cX6_make 20 = .ok (.iconst 0, 1) := by decide +kernel
theorem dX6_make_21 : decode cX6_make 21 = .ok (.invokestatic 23, 3) := by decide +kernel
theorem dX6_make_24 : decode cX6_make 24 = .ok (.return_, 1) := by decide +kernel
theorem dX6_put_0 : decode cX6_put 0 = .ok (.aload_n 0, 1) := by decide +kernel
theorem dX6_put_1 : decode cX6_put 1 = .ok (.getfield 20, 3) := by decide +kernel
theorem dX6_put_4 : decode cX6_put 4 = .ok (.iload_n 1, 1) := by decide +kernel
theorem dX6_put_5 : decode cX6_put 5 = .ok (.aaload, 1) := by decide +kernel
theorem dX6_put_6 : decode cX6_put 6 = .ok (.iload_n 2, 1) := by decide +kernel
theorem dX6_put_7 : decode cX6_put 7 = .ok (.aload_n 0, 1) := by decide +kernel
theorem dX6_put_8 : decode cX6_put 8 = .ok (.getfield 9, 3) := by decide +kernel
theorem dX6_put_11 : decode cX6_put 11 = .ok (.iload_n 1, 1) := by decide +kernel
theorem dX6_put_12 : decode cX6_put 12 = .ok (.iaload, 1) := by decide +kernel
theorem dX6_put_13 : decode cX6_put 13 = .ok (.iload_n 3, 1) := by decide +kernel
theorem dX6_put_14 : decode cX6_put 14 = .ok (.invokestatic 29, 3) := by decide +kernel
theorem dX6_put_17 : decode cX6_put 17 = .ok (.iastore, 1) := by decide +kernel
theorem dX6_put_18 : decode cX6_put 18 = .ok (.aload_n 0, 1) := by decide +kernel
theorem dX6_put_19 : decode cX6_put 19 = .ok (.getfield 20, 3) := by decide +kernel
theorem dX6_put_22 : decode cX6_put 22 = .ok (.iload_n 1, 1) := by decide +kernel
theorem dX6_put_23 : decode cX6_put 23 = .ok (.aaload, 1) := by decide +kernel
theorem dX6_put_24 : decode cX6_put 24 = .ok (.iload_n 2, 1) := by decide +kernel
theorem dX6_put_25 : decode cX6_put 25 = .ok (.iaload, 1) := by decide +kernel
theorem dX6_put_26 : decode cX6_put 26 = .ok (.ireturn, 1) := by decide +kernel
theorem dX6_item_0 : decode cX6_item 0 = .ok (.aload_n 0, 1) := by decide +kernel
theorem dX6_item_1 : decode cX6_item 1 = .ok (.getfield 20, 3) := by decide +kernel
theorem dX6_item_4 : decode cX6_item 4 = .ok (.iload_n 1, 1) := by decide +kernel
theorem dX6_item_5 : decode cX6_item 5 = .ok (.aaload, 1) := by decide +kernel
theorem dX6_item_6 : decode cX6_item 6 = .ok (.iload_n 2, 1) := by decide +kernel
theorem dX6_item_7 : decode cX6_item 7 = .ok (.iaload, 1) := by decide +kernel
theorem dX6_item_8 : decode cX6_item 8 = .ok (.ireturn, 1) := by decide +kernel
theorem dX6_move_0 : decode cX6_move 0 = .ok (.aload_n 0, 1) := by decide +kernel
theorem dX6_move_1 : decode cX6_move 1 = .ok (.getfield 20, 3) := by decide +kernel
theorem dX6_move_4 : decode cX6_move 4 = .ok (.iload_n 1, 1) := by decide +kernel
theorem dX6_move_5 : decode cX6_move 5 = .ok (.aaload, 1) := by decide +kernel
theorem dX6_move_6 : decode cX6_move 6 = .ok (.iload_n 2, 1) := by decide +kernel
theorem dX6_move_7 : decode cX6_move 7 = .ok (.aload_n 0, 1) := by decide +kernel
theorem dX6_move_8 : decode cX6_move 8 = .ok (.getfield 20, 3) := by decide +kernel
theorem dX6_move_11 : decode cX6_move 11 = .ok (.iload_n 3, 1) := by decide +kernel
theorem dX6_move_12 : decode cX6_move 12 = .ok (.aaload, 1) := by decide +kernel
theorem dX6_move_13 : decode cX6_move 13 = .ok (.iload 4, 2) := by decide +kernel
theorem dX6_move_15 : decode cX6_move 15 = .ok (.iload 5, 2) := by decide +kernel
theorem dX6_move_17 : decode cX6_move 17 = .ok (.invokestatic 33, 3) := by decide +kernel
theorem dX6_move_20 : decode cX6_move 20 = .ok (.return_, 1) := by decide +kernel
theorem dX6_takeAway_0 : decode cX6_takeAway 0 = .ok (.aload_n 0, 1) := by decide +kernel
theorem dX6_takeAway_1 : decode cX6_takeAway 1 = .ok (.getfield 9, 3) := by decide +kernel
theorem dX6_takeAway_4 : decode cX6_takeAway 4 = .ok (.iload_n 1, 1) := by decide +kernel
theorem dX6_takeAway_5 : decode cX6_takeAway 5 = .ok (.iconst (-1), 1) := by decide +kernel
theorem dX6_takeAway_6 : decode cX6_takeAway 6 = .ok (.iastore, 1) := by decide +kernel
theorem dX6_takeAway_7 : decode cX6_takeAway 7 = .ok (.aload_n 0, 1) := by decide +kernel
theorem dX6_takeAway_8 : decode cX6_takeAway 8 = .ok (.getfield 15, 3) := by decide +kernel
theorem dX6_takeAway_11 : decode cX6_takeAway 11 = .ok (.iload_n 1, 1) := by decide +kernel
theorem dX6_takeAway_12 : decode cX6_takeAway 12 = .ok (.iaload, 1) := by decide +kernel
theorem dX6_takeAway_13 : decode cX6_takeAway 13 = .ok (.ireturn, 1) := by decide +kernel
theorem dX6_present_0 : decode cX6_present 0 = .ok (.iconst 0, 1) := by decide +kernel
theorem dX6_present_1 : decode cX6_present 1 = .ok (.istore_n 1, 1) := by decide +kernel
theorem dX6_present_2 : decode cX6_present 2 = .ok (.iconst 0, 1) := by decide +kernel
theorem dX6_present_3 : decode cX6_present 3 = .ok (.istore_n 2, 1) := by decide +kernel
theorem dX6_present_4 : decode cX6_present 4 = .ok (.iload_n 2, 1) := by decide +kernel
theorem dX6_present_5 : decode cX6_present 5 = .ok (.bipush 8, 2) := by decide +kernel
theorem dX6_present_7 : decode cX6_present 7 = .ok (.if_icmp .ge 20, 3) := by decide +kernel
theorem dX6_present_10 : decode cX6_present 10 = .ok (.aload_n 0, 1) := by decide +kernel
theorem dX6_present_11 : decode cX6_present 11 = .ok (.iload_n 2, 1) := by decide +kernel
theorem dX6_present_12 : decode cX6_present 12 = .ok (.invokevirtual 39, 3) := by decide +kernel
theorem dX6_present_15 : decode cX6_present 15 = .ok (.ifCond .ne 6, 3) := by decide +kernel
theorem dX6_present_18 : decode cX6_present 18 = .ok (.iinc 1 1, 3) := by decide +kernel
theorem dX6_present_21 : decode cX6_present 21 = .ok (.iinc 2 1, 3) := by decide +kernel
theorem dX6_present_24 : decode cX6_present 24 = .ok (.goto (-20), 3) := by decide +kernel
theorem dX6_present_27 : decode cX6_present 27 = .ok (.iload_n 1, 1) := by decide +kernel
theorem dX6_present_28 : decode cX6_present 28 = .ok (.ireturn, 1) := by decide +kernel
theorem dX6_inLane_0 : decode cX6_inLane 0 = .ok (.iload_n 0, 1) := by decide +kernel
theorem dX6_inLane_1 : decode cX6_inLane 1 = .ok (.ifCond .ne 6, 3) := by decide +kernel
theorem dX6_inLane_4 : decode cX6_inLane 4 = .ok (.iload_n 1, 1) := by decide +kernel
theorem dX6_inLane_5 : decode cX6_inLane 5 = .ok (.i2b, 1) := by decide +kernel
theorem dX6_inLane_6 : decode cX6_inLane 6 = .ok (.ireturn, 1) := by decide +kernel
theorem dX6_inLane_7 : decode cX6_inLane 7 = .ok (.iload_n 0, 1) := by decide +kernel
theorem dX6_inLane_8 : decode cX6_inLane 8 = .ok (.iconst 1, 1) := by decide +kernel
theorem dX6_inLane_9 : decode cX6_inLane 9 = .ok (.if_icmp .ne 8, 3) := by decide +kernel
theorem dX6_inLane_12 : decode cX6_inLane 12 = .ok (.iload_n 1, 1) := by decide +kernel
theorem dX6_inLane_13 : decode cX6_inLane 13 = .ok (.i2s, 1) := by decide +kernel
theorem dX6_inLane_14 : decode cX6_inLane 14 = .ok (.goto 4, 3) := by decide +kernel
theorem dX6_inLane_17 : decode cX6_inLane 17 = .ok (.iload_n 1, 1) := by decide +kernel
theorem dX6_inLane_18 : decode cX6_inLane 18 = .ok (.ireturn, 1) := by decide +kernel
theorem dX7_row_0 : decode cX7_row 0 = .ok (.iload_n 1, 1) := by decide +kernel
theorem dX7_row_1 : decode cX7_row 1 = .ok (.invokestatic 69, 3) := by decide +kernel
theorem dX7_row_4 : decode cX7_row 4 = .ok (.ifCond .eq 18, 3) := by decide +kernel
theorem dX7_row_7 : decode cX7_row 7 = .ok (.iload_n 2, 1) := by decide +kernel
theorem dX7_row_8 : decode cX7_row 8 = .ok (.ifCond .lt 14, 3) := by decide +kernel
theorem dX7_row_11 : decode cX7_row 11 = .ok (.iload_n 2, 1) := by decide +kernel
theorem dX7_row_12 : decode cX7_row 12 = .ok (.iconst 2, 1) := by decide +kernel
theorem dX7_row_13 : decode cX7_row 13 = .ok (.if_icmp .gt 9, 3) := by decide +kernel
theorem dX7_row_16 : decode cX7_row 16 = .ok (.iload_n 3, 1) := by decide +kernel
theorem dX7_row_17 : decode cX7_row 17 = .ok (.bipush 40, 2) := by decide +kernel
theorem dX7_row_19 : decode cX7_row 19 = .ok (.if_icmp .le 6, 3) := by decide +kernel
theorem dX7_row_22 : decode cX7_row 22 = .ok (.ldc 73, 2) := by decide +kernel
theorem dX7_row_24 : decode cX7_row 24 = .ok (.ireturn, 1) := by decide +kernel
theorem dX7_row_25 : decode cX7_row 25 = .ok (.iload_n 3, 1) := by decide +kernel
theorem dX7_row_26 : decode cX7_row 26 = .ok (.ifCond .ge 9, 3) := by decide +kernel
theorem dX7_row_29 : decode cX7_row 29 = .ok (.aload_n 0, 1) := by decide +kernel
theorem dX7_row_30 : decode cX7_row 30 = .ok (.iconst 4, 1) := by decide +kernel
theorem dX7_row_31 : decode cX7_row 31 = .ok (.invokevirtual 74, 3) := by decide +kernel
theorem dX7_row_34 : decode cX7_row 34 = .ok (.ireturn, 1) := by decide +kernel
theorem dX7_row_35 : decode cX7_row 35 = .ok (.aload_n 0, 1) := by decide +kernel
theorem dX7_row_36 : decode cX7_row 36 = .ok (.getfield 10, 3) := by decide +kernel
theorem dX7_row_39 : decode cX7_row 39 = .ok (.iload_n 1, 1) := by decide +kernel
theorem dX7_row_40 : decode cX7_row 40 = .ok (.iload_n 2, 1) := by decide +kernel
theorem dX7_row_41 : decode cX7_row 41 = .ok (.iload_n 3, 1) := by decide +kernel
theorem dX7_row_42 : decode cX7_row 42 = .ok (.invokevirtual 78, 3) := by decide +kernel
theorem dX7_row_45 : decode cX7_row 45 = .ok (.aload_n 0, 1) := by decide +kernel
theorem dX7_row_46 : decode cX7_row 46 = .ok (.iload_n 3, 1) := by decide +kernel
theorem dX7_row_47 : decode cX7_row 47 = .ok (.invokevirtual 82, 3) := by decide +kernel
theorem dX7_row_50 : decode cX7_row 50 = .ok (.ireturn, 1) := by decide +kernel
theorem dX7_set_0 : decode cX7_set 0 = .ok (.iload_n 1, 1) := by decide +kernel
theorem dX7_set_1 : decode cX7_set 1 = .ok (.invokestatic 69, 3) := by decide +kernel
theorem dX7_set_4 : decode cX7_set 4 = .ok (.ifCond .ne 6, 3) := by decide +kernel
theorem dX7_set_7 : decode cX7_set 7 = .ok (.ldc 73, 2) := by decide +kernel
theorem dX7_set_9 : decode cX7_set 9 = .ok (.ireturn, 1) := by decide +kernel
theorem dX7_set_10 : decode cX7_set 10 = .ok (.aload_n 0, 1) := by decide +kernel
theorem dX7_set_11 : decode cX7_set 11 = .ok (.getfield 10, 3) := by decide +kernel
theorem dX7_set_14 : decode cX7_set 14 = .ok (.iload_n 1, 1) := by decide +kernel
theorem dX7_set_15 : decode cX7_set 15 = .ok (.invokevirtual 85, 3) := by decide +kernel
theorem dX7_set_18 : decode cX7_set 18 = .ok (.ifCond .eq 9, 3) := by decide +kernel
theorem dX7_set_21 : decode cX7_set 21 = .ok (.aload_n 0, 1) := by decide +kernel
theorem dX7_set_22 : decode cX7_set 22 = .ok (.iconst 1, 1) := by decide +kernel
theorem dX7_set_23 : decode cX7_set 23 = .ok (.invokevirtual 74, 3) := by decide +kernel
theorem dX7_set_26 : decode cX7_set 26 = .ok (.ireturn, 1) := by decide +kernel
theorem dX7_set_27 : decode cX7_set 27 = .ok (.aload_n 0, 1) := by decide +kernel
theorem dX7_set_28 : decode cX7_set 28 = .ok (.getfield 10, 3) := by decide +kernel
theorem dX7_set_31 : decode cX7_set 31 = .ok (.iload_n 1, 1) := by decide +kernel
theorem dX7_set_32 : decode cX7_set 32 = .ok (.iload_n 2, 1) := by decide +kernel
theorem dX7_set_33 : decode cX7_set 33 = .ok (.iconst 1, 1) := by decide +kernel
theorem dX7_set_34 : decode cX7_set 34 = .ok (.invokevirtual 88, 3) := by decide +kernel
theorem dX7_set_37 : decode cX7_set 37 = .ok (.ifCond .ne 9, 3) := by decide +kernel
theorem dX7_set_40 : decode cX7_set 40 = .ok (.aload_n 0, 1) := by decide +kernel
theorem dX7_set_41 : decode cX7_set 41 = .ok (.iconst 2, 1) := by decide +kernel
theorem dX7_set_42 : decode cX7_set 42 = .ok (.invokevirtual 74, 3) := by decide +kernel
theorem dX7_set_45 : decode cX7_set 45 = .ok (.ireturn, 1) := by decide +kernel
theorem dX7_set_46 : decode cX7_set 46 = .ok (.aload_n 0, 1) := by decide +kernel
theorem dX7_set_47 : decode cX7_set 47 = .ok (.aload_n 0, 1) := by decide +kernel
theorem dX7_set_48 : decode cX7_set 48 = .ok (.getfield 10, 3) := by decide +kernel
theorem dX7_set_51 : decode cX7_set 51 = .ok (.iload_n 1, 1) := by decide +kernel
theorem dX7_set_52 : decode cX7_set 52 = .ok (.iload_n 2, 1) := by decide +kernel
theorem dX7_set_53 : decode cX7_set 53 = .ok (.iload_n 3, 1) := by decide +kernel
theorem dX7_set_54 : decode cX7_set 54 = .ok (.invokevirtual 92, 3) := by decide +kernel
theorem dX7_set_57 : decode cX7_set 57 = .ok (.invokevirtual 82, 3) := by decide +kernel
theorem dX7_set_60 : decode cX7_set 60 = .ok (.ireturn, 1) := by decide +kernel
theorem dX7_copy_0 : decode cX7_copy 0 = .ok (.iload_n 1, 1) := by decide +kernel
theorem dX7_copy_1 : decode cX7_copy 1 = .ok (.invokestatic 69, 3) := by decide +kernel
theorem dX7_copy_4 : decode cX7_copy 4 = .ok (.ifCond .eq 10, 3) := by decide +kernel
theorem dX7_copy_7 : decode cX7_copy 7 = .ok (.iload_n 3, 1) := by decide +kernel
theorem dX7_copy_8 : decode cX7_copy 8 = .ok (.invokestatic 69, 3) := by decide +kernel
theorem dX7_copy_11 : decode cX7_copy 11 = .ok (.ifCond .ne 6, 3) := by decide +kernel
theorem dX7_copy_14 : decode cX7_copy 14 = .ok (.ldc 73, 2) := by decide +kernel
theorem dX7_copy_16 : decode cX7_copy 16 = .ok (.ireturn, 1) := by decide +kernel
theorem dX7_copy_17 : decode cX7_copy 17 = .ok (.aload_n 0, 1) := by decide +kernel
theorem dX7_copy_18 : decode cX7_copy 18 = .ok (.getfield 10, 3) := by decide +kernel
theorem dX7_copy_21 : decode cX7_copy 21 = .ok (.iload_n 1, 1) := by decide +kernel
theorem dX7_copy_22 : decode cX7_copy 22 = .ok (.invokevirtual 85, 3) := by decide +kernel
theorem dX7_copy_25 : decode cX7_copy 25 = .ok (.ifCond .ne 14, 3) := by decide +kernel
theorem dX7_copy_28 : decode cX7_copy 28 = .ok (.aload_n 0, 1) := by decide +kernel
theorem dX7_copy_29 : decode cX7_copy 29 = .ok (.getfield 10, 3) := by decide +kernel
theorem dX7_copy_32 : decode cX7_copy 32 = .ok (.iload_n 3, 1) := by decide +kernel
theorem dX7_copy_33 : decode cX7_copy 33 = .ok (.invokevirtual 85, 3) := by decide +kernel
theorem dX7_copy_36 : decode cX7_copy 36 = .ok (.ifCond .eq 9, 3) := by decide +kernel
theorem dX7_copy_39 : decode cX7_copy 39 = .ok (.aload_n 0, 1) := by decide +kernel
theorem dX7_copy_40 : decode cX7_copy 40 = .ok (.iconst 1, 1) := by decide +kernel
theorem dX7_copy_41 : decode cX7_copy 41 = .ok (.invokevirtual 74, 3) := by decide +kernel
theorem dX7_copy_44 : decode cX7_copy 44 = .ok (.ireturn, 1) := by decide +kernel
theorem dX7_copy_45 : decode cX7_copy 45 = .ok (.aload_n 0, 1) := by decide +kernel
theorem dX7_copy_46 : decode cX7_copy 46 = .ok (.getfield 10, 3) := by decide +kernel
theorem dX7_copy_49 : decode cX7_copy 49 = .ok (.iload_n 1, 1) := by decide +kernel
theorem dX7_copy_50 : decode cX7_copy 50 = .ok (.iload_n 3, 1) := by decide +kernel
theorem dX7_copy_51 : decode cX7_copy 51 = .ok (.invokevirtual 96, 3) := by decide +kernel
theorem dX7_copy_54 : decode cX7_copy 54 = .ok (.ifCond .ne 9, 3) := by decide +kernel
theorem dX7_copy_57 : decode cX7_copy 57 = .ok (.aload_n 0, 1) := by decide +kernel
theorem dX7_copy_58 : decode cX7_copy 58 = .ok (.iconst 5, 1) := by decide +kernel
theorem dX7_copy_59 : decode cX7_copy 59 = .ok (.invokevirtual 74, 3) := by decide +kernel
theorem dX7_copy_62 : decode cX7_copy 62 = .ok (.ireturn, 1) := by decide +kernel
theorem dX7_copy_63 : decode cX7_copy 63 = .ok (.aload_n 0, 1) := by decide +kernel
theorem dX7_copy_64 : decode cX7_copy 64 = .ok (.getfield 10, 3) := by decide +kernel
theorem dX7_copy_67 : decode cX7_copy 67 = .ok (.iload_n 1, 1) := by decide +kernel
theorem dX7_copy_68 : decode cX7_copy 68 = .ok (.iload_n 2, 1) := by decide +kernel
theorem dX7_copy_69 : decode cX7_copy 69 = .ok (.iload 5, 2) := by decide +kernel
theorem dX7_copy_71 : decode cX7_copy 71 = .ok (.invokevirtual 88, 3) := by decide +kernel
theorem dX7_copy_74 : decode cX7_copy 74 = .ok (.ifCond .eq 18, 3) := by decide +kernel
theorem dX7_copy_77 : decode cX7_copy 77 = .ok (.aload_n 0, 1) := by decide +kernel
theorem dX7_copy_78 : decode cX7_copy 78 = .ok (.getfield 10, 3) := by decide +kernel
theorem dX7_copy_81 : decode cX7_copy 81 = .ok (.iload_n 3, 1) := by decide +kernel
theorem dX7_copy_82 : decode cX7_copy 82 = .ok (.iload 4, 2) := by decide +kernel
theorem dX7_copy_84 : decode cX7_copy 84 = .ok (.iload 5, 2) := by decide +kernel
theorem dX7_copy_86 : decode cX7_copy 86 = .ok (.invokevirtual 88, 3) := by decide +kernel
theorem dX7_copy_89 : decode cX7_copy 89 = .ok (.ifCond .ne 9, 3) := by decide +kernel
theorem dX7_copy_92 : decode cX7_copy 92 = .ok (.aload_n 0, 1) := by decide +kernel
theorem dX7_copy_93 : decode cX7_copy 93 = .ok (.iconst 2, 1) := by decide +kernel
theorem dX7_copy_94 : decode cX7_copy 94 = .ok (.invokevirtual 74, 3) := by decide +kernel
theorem dX7_copy_97 : decode cX7_copy 97 = .ok (.ireturn, 1) := by decide +kernel
theorem dX7_copy_98 : decode cX7_copy 98 = .ok (.aload_n 0, 1) := by decide +kernel
theorem dX7_copy_99 : decode cX7_copy 99 = .ok (.getfield 10, 3) := by decide +kernel
theorem dX7_copy_102 : decode cX7_copy 102 = .ok (.iload_n 1, 1) := by decide +kernel
theorem dX7_copy_103 : decode cX7_copy 103 = .ok (.iload_n 2, 1) := by decide +kernel
theorem dX7_copy_104 : decode cX7_copy 104 = .ok (.iload_n 3, 1) := by decide +kernel
theorem dX7_copy_105 : decode cX7_copy 105 = .ok (.iload 4, 2) := by decide +kernel
theorem dX7_copy_107 : decode cX7_copy 107 = .ok (.iload 5, 2) := by decide +kernel
theorem dX7_copy_109 : decode cX7_copy 109 = .ok (.invokevirtual 100, 3) := by decide +kernel
theorem dX7_copy_112 : decode cX7_copy 112 = .ok (.aload_n 0, 1) := by decide +kernel
theorem dX7_copy_113 : decode cX7_copy 113 = .ok (.iload 5, 2) := by decide +kernel
theorem dX7_copy_115 : decode cX7_copy 115 = .ok (.invokevirtual 82, 3) := by decide +kernel
theorem dX7_copy_118 : decode cX7_copy 118 = .ok (.ireturn, 1) := by decide +kernel
theorem dX7_drop_0 : decode cX7_drop 0 = .ok (.iload_n 1, 1) := by decide +kernel
theorem dX7_drop_1 : decode cX7_drop 1 = .ok (.invokestatic 69, 3) := by decide +kernel
theorem dX7_drop_4 : decode cX7_drop 4 = .ok (.ifCond .ne 6, 3) := by decide +kernel
theorem dX7_drop_7 : decode cX7_drop 7 = .ok (.ldc 73, 2) := by decide +kernel
theorem dX7_drop_9 : decode cX7_drop 9 = .ok (.ireturn, 1) := by decide +kernel
theorem dX7_drop_10 : decode cX7_drop 10 = .ok (.aload_n 0, 1) := by decide +kernel
theorem dX7_drop_11 : decode cX7_drop 11 = .ok (.getfield 10, 3) := by decide +kernel
theorem dX7_drop_14 : decode cX7_drop 14 = .ok (.iload_n 1, 1) := by decide +kernel
theorem dX7_drop_15 : decode cX7_drop 15 = .ok (.invokevirtual 85, 3) := by decide +kernel
theorem dX7_drop_18 : decode cX7_drop 18 = .ok (.ifCond .eq 9, 3) := by decide +kernel
theorem dX7_drop_21 : decode cX7_drop 21 = .ok (.aload_n 0, 1) := by decide +kernel
theorem dX7_drop_22 : decode cX7_drop 22 = .ok (.iconst 1, 1) := by decide +kernel
theorem dX7_drop_23 : decode cX7_drop 23 = .ok (.invokevirtual 74, 3) := by decide +kernel
theorem dX7_drop_26 : decode cX7_drop 26 = .ok (.ireturn, 1) := by decide +kernel
theorem dX7_drop_27 : decode cX7_drop 27 = .ok (.aload_n 0, 1) := by decide +kernel
theorem dX7_drop_28 : decode cX7_drop 28 = .ok (.aload_n 0, 1) := by decide +kernel
theorem dX7_drop_29 : decode cX7_drop 29 = .ok (.getfield 10, 3) := by decide +kernel
theorem dX7_drop_32 : decode cX7_drop 32 = .ok (.iload_n 1, 1) := by decide +kernel
theorem dX7_drop_33 : decode cX7_drop 33 = .ok (.invokevirtual 104, 3) := by decide +kernel
theorem dX7_drop_36 : decode cX7_drop 36 = .ok (.invokevirtual 82, 3) := by decide +kernel
theorem dX7_drop_39 : decode cX7_drop 39 = .ok (.ireturn, 1) := by decide +kernel
theorem dX7_feed_0 : decode cX7_feed 0 = .ok (.iload_n 3, 1) := by decide +kernel
theorem dX7_feed_1 : decode cX7_feed 1 = .ok (.iconst 1, 1) := by decide +kernel
theorem dX7_feed_2 : decode cX7_feed 2 = .ok (.if_icmp .lt 9, 3) := by decide +kernel
theorem dX7_feed_5 : decode cX7_feed 5 = .ok (.iload_n 3, 1) := by decide +kernel
theorem dX7_feed_6 : decode cX7_feed 6 = .ok (.bipush 8, 2) := by decide +kernel
theorem dX7_feed_8 : decode cX7_feed 8 = .ok (.if_icmp .le 6, 3) := by decide +kernel
theorem dX7_feed_11 : decode cX7_feed 11 = .ok (.ldc 73, 2) := by decide +kernel
theorem dX7_feed_13 : decode cX7_feed 13 = .ok (.ireturn, 1) := by decide +kernel
theorem dX7_feed_14 : decode cX7_feed 14 = .ok (.aload_n 0, 1) := by decide +kernel
theorem dX7_feed_15 : decode cX7_feed 15 = .ok (.getfield 19, 3) := by decide +kernel
theorem dX7_feed_18 : decode cX7_feed 18 = .ok (.lload_n 1, 1) := by decide +kernel
theorem dX7_feed_19 : decode cX7_feed 19 = .ok (.iload_n 3, 1) := by decide +kernel
theorem dX7_feed_20 : decode cX7_feed 20 = .ok (.invokevirtual 107, 3) := by decide +kernel
theorem dX7_feed_23 : decode cX7_feed 23 = .ok (.ireturn, 1) := by decide +kernel
theorem dX7_evening_0 : decode cX7_evening 0 = .ok (.aload_n 0, 1) := by decide +kernel
theorem dX7_evening_1 : decode cX7_evening 1 = .ok (.getfield 19, 3) := by decide +kernel
theorem dX7_evening_4 : decode cX7_evening 4 = .ok (.aload_n 0, 1) := by decide +kernel
theorem dX7_evening_5 : decode cX7_evening 5 = .ok (.getfield 62, 3) := by decide +kernel
theorem dX7_evening_8 : decode cX7_evening 8 = .ok (.invokevirtual 111, 3) := by decide +kernel
theorem dX7_evening_11 : decode cX7_evening 11 = .ok (.ifCond .ne 14, 3) := by decide +kernel
theorem dX7_evening_14 : decode cX7_evening 14 = .ok (.ldc 115, 2) := by decide +kernel
theorem dX7_evening_16 : decode cX7_evening 16 = .ok (.aload_n 0, 1) := by decide +kernel
theorem dX7_evening_17 : decode cX7_evening 17 = .ok (.getfield 19, 3) := by decide +kernel
theorem dX7_evening_20 : decode cX7_evening 20 = .ok (.getfield 116, 3) := by decide +kernel
theorem dX7_evening_23 : decode cX7_evening 23 = .ok (.isub, 1) := by decide +kernel
theorem dX7_evening_24 : decode cX7_evening 24 = .ok (.ireturn, 1) := by decide +kernel
theorem dX7_evening_25 : decode cX7_evening 25 = .ok (.aload_n 0, 1) := by decide +kernel
theorem dX7_evening_26 : decode cX7_evening 26 = .ok (.getfield 58, 3) := by decide +kernel
theorem dX7_evening_29 : decode cX7_evening 29 = .ok (.astore_n 1, 1) := by decide +kernel
theorem dX7_evening_30 : decode cX7_evening 30 = .ok (.aload_n 0, 1) := by decide +kernel
theorem dX7_evening_31 : decode cX7_evening 31 = .ok (.aload_n 0, 1) := by decide +kernel
theorem dX7_evening_32 : decode cX7_evening 32 = .ok (.getfield 62, 3) := by decide +kernel
theorem dX7_evening_35 : decode cX7_evening 35 = .ok (.putfield 58, 3) := by decide +kernel
theorem dX7_evening_38 : decode cX7_evening 38 = .ok (.aload_n 0, 1) := by decide +kernel
theorem dX7_evening_39 : decode cX7_evening 39 = .ok (.aload_n 1, 1) := by decide +kernel
theorem dX7_evening_40 : decode cX7_evening 40 = .ok (.putfield 62, 3) := by decide +kernel
theorem dX7_evening_43 : decode cX7_evening 43 = .ok (.aload_n 0, 1) := by decide +kernel
theorem dX7_evening_44 : decode cX7_evening 44 = .ok (.invokevirtual 119, 3) := by decide +kernel
theorem dX7_evening_47 : decode cX7_evening 47 = .ok (.aload_n 0, 1) := by decide +kernel
theorem dX7_evening_48 : decode cX7_evening 48 = .ok (.getfield 58, 3) := by decide +kernel
theorem dX7_evening_51 : decode cX7_evening 51 = .ok (.getfield 122, 3) := by decide +kernel
theorem dX7_evening_54 : decode cX7_evening 54 = .ok (.ireturn, 1) := by decide +kernel
theorem dX7_fault_0 : decode cX7_fault 0 = .ok (.aload_n 0, 1) := by decide +kernel
theorem dX7_fault_1 : decode cX7_fault 1 = .ok (.getfield 19, 3) := by decide +kernel
theorem dX7_fault_4 : decode cX7_fault 4 = .ok (.getfield 125, 3) := by decide +kernel
theorem dX7_fault_7 : decode cX7_fault 7 = .ok (.ireturn, 1) := by decide +kernel
theorem dX7_drink_0 : decode cX7_drink 0 = .ok (.aload_n 0, 1) := by decide +kernel
theorem dX7_drink_1 : decode cX7_drink 1 = .ok (.getfield 58, 3) := by decide +kernel
theorem dX7_drink_4 : decode cX7_drink 4 = .ok (.iload_n 1, 1) := by decide +kernel
theorem dX7_drink_5 : decode cX7_drink 5 = .ok (.invokevirtual 128, 3) := by decide +kernel
theorem dX7_drink_8 : decode cX7_drink 8 = .ok (.ifCond .eq 14, 3) := by decide +kernel
theorem dX7_drink_11 : decode cX7_drink 11 = .ok (.iload_n 2, 1) := by decide +kernel
theorem dX7_drink_12 : decode cX7_drink 12 = .ok (.iconst 1, 1) := by decide +kernel
theorem dX7_drink_13 : decode cX7_drink 13 = .ok (.if_icmp .lt 9, 3) := by decide +kernel
theorem dX7_drink_16 : decode cX7_drink 16 = .ok (.iload_n 2, 1) := by decide +kernel
theorem dX7_drink_17 : decode cX7_drink 17 = .ok (.bipush 9, 2) := by decide +kernel
theorem dX7_drink_19 : decode cX7_drink 19 = .ok (.if_icmp .le 6, 3) := by decide +kernel
theorem dX7_drink_22 : decode cX7_drink 22 = .ok (.ldc 73, 2) := by decide +kernel
theorem dX7_drink_24 : decode cX7_drink 24 = .ok (.ireturn, 1) := by decide +kernel
theorem dX7_drink_25 : decode cX7_drink 25 = .ok (.aload_n 0, 1) := by decide +kernel
theorem dX7_drink_26 : decode cX7_drink 26 = .ok (.getfield 58, 3) := by decide +kernel
theorem dX7_drink_29 : decode cX7_drink 29 = .ok (.getfield 131, 3) := by decide +kernel
theorem dX7_drink_32 : decode cX7_drink 32 = .ok (.iload_n 1, 1) := by decide +kernel
theorem dX7_drink_33 : decode cX7_drink 33 = .ok (.iaload, 1) := by decide +kernel
theorem dX7_drink_34 : decode cX7_drink 34 = .ok (.iload_n 2, 1) := by decide +kernel
theorem dX7_drink_35 : decode cX7_drink 35 = .ok (.iadd, 1) := by decide +kernel
theorem dX7_drink_36 : decode cX7_drink 36 = .ok (.bipush 99, 2) := by decide +kernel
theorem dX7_drink_38 : decode cX7_drink 38 = .ok (.if_icmp .le 6, 3) := by decide +kernel
theorem dX7_drink_41 : decode cX7_drink 41 = .ok (.ldc 135, 2) := by decide +kernel
theorem dX7_drink_43 : decode cX7_drink 43 = .ok (.ireturn, 1) := by decide +kernel
theorem dX7_drink_44 : decode cX7_drink 44 = .ok (.aload_n 0, 1) := by decide +kernel
theorem dX7_drink_45 : decode cX7_drink 45 = .ok (.getfield 58, 3) := by decide +kernel
theorem dX7_drink_48 : decode cX7_drink 48 = .ok (.getfield 131, 3) := by decide +kernel
theorem dX7_drink_51 : decode cX7_drink 51 = .ok (.iload_n 1, 1) := by decide +kernel
theorem dX7_drink_52 : decode cX7_drink 52 = .ok (.dup2, 1) := by decide +kernel
theorem dX7_drink_53 : decode cX7_drink 53 = .ok (.iaload, 1) := by decide +kernel
theorem dX7_drink_54 : decode cX7_drink 54 = .ok (.iload_n 2, 1) := by decide +kernel
theorem dX7_drink_55 : decode cX7_drink 55 = .ok (.iadd, 1) := by decide +kernel
theorem dX7_drink_56 : decode cX7_drink 56 = .ok (.iastore, 1) := by decide +kernel
theorem dX7_drink_57 : decode cX7_drink 57 = .ok (.aload_n 0, 1) := by decide +kernel
theorem dX7_drink_58 : decode cX7_drink 58 = .ok (.getfield 33, 3) := by decide +kernel
theorem dX7_drink_61 : decode cX7_drink 61 = .ok (.iload_n 1, 1) := by decide +kernel
theorem dX7_drink_62 : decode cX7_drink 62 = .ok (.iload_n 2, 1) := by decide +kernel
theorem dX7_drink_63 : decode cX7_drink 63 = .ok (.invokevirtual 136, 3) := by decide +kernel
theorem dX7_drink_66 : decode cX7_drink 66 = .ok (.aload_n 0, 1) := by decide +kernel
theorem dX7_drink_67 : decode cX7_drink 67 = .ok (.getfield 58, 3) := by decide +kernel
theorem dX7_drink_70 : decode cX7_drink 70 = .ok (.getfield 131, 3) := by decide +kernel
theorem dX7_drink_73 : decode cX7_drink 73 = .ok (.iload_n 1, 1) := by decide +kernel
theorem dX7_drink_74 : decode cX7_drink 74 = .ok (.iaload, 1) := by decide +kernel
theorem dX7_drink_75 : decode cX7_drink 75 = .ok (.ireturn, 1) := by decide +kernel
theorem dX7_undo_0 : decode cX7_undo 0 = .ok (.aload_n 0, 1) := by decide +kernel
theorem dX7_undo_1 : decode cX7_undo 1 = .ok (.getfield 33, 3) := by decide +kernel
theorem dX7_undo_4 : decode cX7_undo 4 = .ok (.getfield 140, 3) := by decide +kernel
theorem dX7_undo_7 : decode cX7_undo 7 = .ok (.ifCond .ne 6, 3) := by decide +kernel
theorem dX7_undo_10 : decode cX7_undo 10 = .ok (.ldc 143, 2) := by decide +kernel
theorem dX7_undo_12 : decode cX7_undo 12 = .ok (.ireturn, 1) := by decide +kernel
theorem dX7_undo_13 : decode cX7_undo 13 = .ok (.aload_n 0, 1) := by decide +kernel
theorem dX7_undo_14 : decode cX7_undo 14 = .ok (.getfield 33, 3) := by decide +kernel
theorem dX7_undo_17 : decode cX7_undo 17 = .ok (.aload_n 0, 1) := by decide +kernel
theorem dX7_undo_18 : decode cX7_undo 18 = .ok (.getfield 58, 3) := by decide +kernel
theorem dX7_undo_21 : decode cX7_undo 21 = .ok (.invokevirtual 144, 3) := by decide +kernel
theorem dX7_undo_24 : decode cX7_undo 24 = .ok (.aload_n 0, 1) := by decide +kernel
theorem dX7_undo_25 : decode cX7_undo 25 = .ok (.getfield 33, 3) := by decide +kernel
theorem dX7_undo_28 : decode cX7_undo 28 = .ok (.getfield 140, 3) := by decide +kernel
theorem dX7_undo_31 : decode cX7_undo 31 = .ok (.ireturn, 1) := by decide +kernel
theorem dX7_person_0 : decode cX7_person 0 = .ok (.aload_n 0, 1) := by decide +kernel
theorem dX7_person_1 : decode cX7_person 1 = .ok (.getfield 58, 3) := by decide +kernel
theorem dX7_person_4 : decode cX7_person 4 = .ok (.iload_n 1, 1) := by decide +kernel
theorem dX7_person_5 : decode cX7_person 5 = .ok (.invokevirtual 128, 3) := by decide +kernel
theorem dX7_person_8 : decode cX7_person 8 = .ok (.ifCond .ne 6, 3) := by decide +kernel
theorem dX7_person_11 : decode cX7_person 11 = .ok (.ldc 73, 2) := by decide +kernel
theorem dX7_person_13 : decode cX7_person 13 = .ok (.ireturn, 1) := by decide +kernel
theorem dX7_person_14 : decode cX7_person 14 = .ok (.iload_n 2, 1) := by decide +kernel
theorem dX7_person_15 : decode cX7_person 15 = .ok (.tableswitch 68 0 3 #[29, 39, 49, 58], 29) := by decide +kernel
theorem dX7_person_44 : decode cX7_person 44 = .ok (.aload_n 0, 1) := by decide +kernel
theorem dX7_person_45 : decode cX7_person 45 = .ok (.getfield 58, 3) := by decide +kernel
theorem dX7_person_48 : decode cX7_person 48 = .ok (.getfield 148, 3) := by decide +kernel
theorem dX7_person_51 : decode cX7_person 51 = .ok (.iload_n 1, 1) := by decide +kernel
theorem dX7_person_52 : decode cX7_person 52 = .ok (.iaload, 1) := by decide +kernel
theorem dX7_person_53 : decode cX7_person 53 = .ok (.ireturn, 1) := by decide +kernel
theorem dX7_person_54 : decode cX7_person 54 = .ok (.aload_n 0, 1) := by decide +kernel
theorem dX7_person_55 : decode cX7_person 55 = .ok (.getfield 58, 3) := by decide +kernel
theorem dX7_person_58 : decode cX7_person 58 = .ok (.getfield 131, 3) := by decide +kernel
theorem dX7_person_61 : decode cX7_person 61 = .ok (.iload_n 1, 1) := by decide +kernel
theorem dX7_person_62 : decode cX7_person 62 = .ok (.iaload, 1) := by decide +kernel
theorem dX7_person_63 : decode cX7_person 63 = .ok (.ireturn, 1) := by decide +kernel
theorem dX7_person_64 : decode cX7_person 64 = .ok (.aload_n 0, 1) := by decide +kernel
theorem dX7_person_65 : decode cX7_person 65 = .ok (.getfield 58, 3) := by decide +kernel
theorem dX7_person_68 : decode cX7_person 68 = .ok (.iload_n 1, 1) := by decide +kernel
theorem dX7_person_69 : decode cX7_person 69 = .ok (.invokevirtual 151, 3) := by decide +kernel
theorem dX7_person_72 : decode cX7_person 72 = .ok (.ireturn, 1) := by decide +kernel
theorem dX7_person_73 : decode cX7_person 73 = .ok (.aload_n 0, 1) := by decide +kernel
theorem dX7_person_74 : decode cX7_person 74 = .ok (.getfield 58, 3) := by decide +kernel
theorem dX7_person_77 : decode cX7_person 77 = .ok (.getfield 154, 3) := by decide +kernel
theorem dX7_person_80 : decode cX7_person 80 = .ok (.iload_n 1, 1) := by decide +kernel
theorem dX7_person_81 : decode cX7_person 81 = .ok (.iaload, 1) := by decide +kernel
theorem dX7_person_82 : decode cX7_person 82 = .ok (.ireturn, 1) := by decide +kernel
theorem dX7_person_83 : decode cX7_person 83 = .ok (.ldc 73, 2) := by decide +kernel
theorem dX7_person_85 : decode cX7_person 85 = .ok (.ireturn, 1) := by decide +kernel
theorem dX7_car_0 : decode cX7_car 0 = .ok (.aload_n 0, 1) := by decide +kernel
theorem dX7_car_1 : decode cX7_car 1 = .ok (.getfield 58, 3) := by decide +kernel
theorem dX7_car_4 : decode cX7_car 4 = .ok (.iload_n 1, 1) := by decide +kernel
theorem dX7_car_5 : decode cX7_car 5 = .ok (.invokevirtual 157, 3) := by decide +kernel
theorem dX7_car_8 : decode cX7_car 8 = .ok (.ifCond .ne 6, 3) := by decide +kernel
theorem dX7_car_11 : decode cX7_car 11 = .ok (.ldc 73, 2) := by decide +kernel
theorem dX7_car_13 : decode cX7_car 13 = .ok (.ireturn, 1) := by decide +kernel
theorem dX7_car_14 : decode cX7_car 14 = .ok (.iload_n 2, 1) := by decide +kernel
theorem dX7_car_15 : decode cX7_car 15 = .ok (.tableswitch 55 0 2 #[25, 35, 45], 25) := by decide +kernel
theorem dX7_car_40 : decode cX7_car 40 = .ok (.aload_n 0, 1) := by decide +kernel
theorem dX7_car_41 : decode cX7_car 41 = .ok (.getfield 58, 3) := by decide +kernel
theorem dX7_car_44 : decode cX7_car 44 = .ok (.getfield 160, 3) := by decide +kernel
theorem dX7_car_47 : decode cX7_car 47 = .ok (.iload_n 1, 1) := by decide +kernel
theorem dX7_car_48 : decode cX7_car 48 = .ok (.iaload, 1) := by decide +kernel
theorem dX7_car_49 : decode cX7_car 49 = .ok (.ireturn, 1) := by decide +kernel
theorem dX7_car_50 : decode cX7_car 50 = .ok (.aload_n 0, 1) := by decide +kernel
theorem dX7_car_51 : decode cX7_car 51 = .ok (.getfield 58, 3) := by decide +kernel
theorem dX7_car_54 : decode cX7_car 54 = .ok (.getfield 163, 3) := by decide +kernel
theorem dX7_car_57 : decode cX7_car 57 = .ok (.iload_n 1, 1) := by decide +kernel
theorem dX7_car_58 : decode cX7_car 58 = .ok (.iaload, 1) := by decide +kernel
theorem dX7_car_59 : decode cX7_car 59 = .ok (.ireturn, 1) := by decide +kernel
theorem dX7_car_60 : decode cX7_car 60 = .ok (.aload_n 0, 1) := by decide +kernel
theorem dX7_car_61 : decode cX7_car 61 = .ok (.getfield 58, 3) := by decide +kernel
theorem dX7_car_64 : decode cX7_car 64 = .ok (.getfield 166, 3) := by decide +kernel
theorem dX7_car_67 : decode cX7_car 67 = .ok (.iload_n 1, 1) := by decide +kernel
theorem dX7_car_68 : decode cX7_car 68 = .ok (.iaload, 1) := by decide +kernel
theorem dX7_car_69 : decode cX7_car 69 = .ok (.ireturn, 1) := by decide +kernel
theorem dX7_car_70 : decode cX7_car 70 = .ok (.ldc 73, 2) := by decide +kernel
theorem dX7_car_72 : decode cX7_car 72 = .ok (.ireturn, 1) := by decide +kernel
theorem dX7_far_0 : decode cX7_far 0 = .ok (.aload_n 0, 1) := by decide +kernel
theorem dX7_far_1 : decode cX7_far 1 = .ok (.getfield 58, 3) := by decide +kernel
theorem dX7_far_4 : decode cX7_far 4 = .ok (.getfield 169, 3) := by decide +kernel
theorem dX7_far_7 : decode cX7_far 7 = .ok (.ifCond .ne 6, 3) := by decide +kernel
theorem dX7_far_10 : decode cX7_far 10 = .ok (.ldc 143, 2) := by decide +kernel
theorem dX7_far_12 : decode cX7_far 12 = .ok (.ireturn, 1) := by decide +kernel
theorem dX7_far_13 : decode cX7_far 13 = .ok (.iload_n 1, 1) := by decide +kernel
theorem dX7_far_14 : decode cX7_far 14 = .ok (.ifCond .lt 19, 3) := by decide +kernel
theorem dX7_far_17 : decode cX7_far 17 = .ok (.iload_n 1, 1) := by decide +kernel
theorem dX7_far_18 : decode cX7_far 18 = .ok (.bipush 8, 2) := by decide +kernel
theorem dX7_far_20 : decode cX7_far 20 = .ok (.if_icmp .ge 13, 3) := by decide +kernel
theorem dX7_far_23 : decode cX7_far 23 = .ok (.iload_n 2, 1) := by decide +kernel
theorem dX7_far_24 : decode cX7_far 24 = .ok (.ifCond .lt 9, 3) := by decide +kernel
theorem dX7_far_27 : decode cX7_far 27 = .ok (.iload_n 2, 1) := by decide +kernel
theorem dX7_far_28 : decode cX7_far 28 = .ok (.bipush 8, 2) := by decide +kernel
theorem dX7_far_30 : decode cX7_far 30 = .ok (.if_icmp .lt 6, 3) := by decide +kernel
theorem dX7_far_33 : decode cX7_far 33 = .ok (.ldc 73, 2) := by decide +kernel
theorem dX7_far_35 : decode cX7_far 35 = .ok (.ireturn, 1) := by decide +kernel
theorem dX7_far_36 : decode cX7_far 36 = .ok (.aload_n 0, 1) := by decide +kernel
theorem dX7_far_37 : decode cX7_far 37 = .ok (.getfield 58, 3) := by decide +kernel
theorem dX7_far_40 : decode cX7_far 40 = .ok (.iload_n 1, 1) := by decide +kernel
theorem dX7_far_41 : decode cX7_far 41 = .ok (.iload_n 2, 1) := by decide +kernel
theorem dX7_far_42 : decode cX7_far 42 = .ok (.invokevirtual 173, 3) := by decide +kernel
theorem dX7_far_45 : decode cX7_far 45 = .ok (.ifCond .eq 15, 3) := by decide +kernel
theorem dX7_far_48 : decode cX7_far 48 = .ok (.aload_n 0, 1) := by decide +kernel
theorem dX7_far_49 : decode cX7_far 49 = .ok (.getfield 58, 3) := by decide +kernel
theorem dX7_far_52 : decode cX7_far 52 = .ok (.iload_n 1, 1) := by decide +kernel
theorem dX7_far_53 : decode cX7_far 53 = .ok (.iload_n 2, 1) := by decide +kernel
theorem dX7_far_54 : decode cX7_far 54 = .ok (.invokevirtual 176, 3) := by decide +kernel
theorem dX7_far_57 : decode cX7_far 57 = .ok (.goto 5, 3) := by decide +kernel
theorem dX7_far_60 : decode cX7_far 60 = .ok (.ldc 180, 2) := by decide +kernel
theorem dX7_far_62 : decode cX7_far 62 = .ok (.ireturn, 1) := by decide +kernel
theorem dX7_may_0 : decode cX7_may 0 = .ok (.aload_n 0, 1) := by decide +kernel
theorem dX7_may_1 : decode cX7_may 1 = .ok (.getfield 58, 3) := by decide +kernel
theorem dX7_may_4 : decode cX7_may 4 = .ok (.iload_n 1, 1) := by decide +kernel
theorem dX7_may_5 : decode cX7_may 5 = .ok (.invokevirtual 128, 3) := by decide +kernel
theorem dX7_may_8 : decode cX7_may 8 = .ok (.ifCond .eq 19, 3) := by decide +kernel
theorem dX7_may_11 : decode cX7_may 11 = .ok (.iload_n 2, 1) := by decide +kernel
theorem dX7_may_12 : decode cX7_may 12 = .ok (.invokestatic 181, 3) := by decide +kernel
theorem dX7_may_15 : decode cX7_may 15 = .ok (.ifCond .eq 12, 3) := by decide +kernel
theorem dX7_may_18 : decode cX7_may 18 = .ok (.iload_n 3, 1) := by decide +kernel
theorem dX7_may_19 : decode cX7_may 19 = .ok (.ifCond .lt 8, 3) := by decide +kernel
theorem dX7_may_22 : decode cX7_may 22 = .ok (.iload_n 3, 1) := by decide +kernel
theorem dX7_may_23 : decode cX7_may 23 = .ok (.iconst 1, 1) := by decide +kernel
theorem dX7_may_24 : decode cX7_may 24 = .ok (.if_icmp .le 6, 3) := by decide +kernel
theorem dX7_may_27 : decode cX7_may 27 = .ok (.ldc 73, 2) := by decide +kernel
theorem dX7_may_29 : decode cX7_may 29 = .ok (.ireturn, 1) := by decide +kernel
theorem dX7_may_30 : decode cX7_may 30 = .ok (.iload_n 3, 1) := by decide +kernel
theorem dX7_may_31 : decode cX7_may 31 = .ok (.ifCond .ne 21, 3) := by decide +kernel
theorem dX7_may_34 : decode cX7_may 34 = .ok (.aload_n 0, 1) := by decide +kernel
theorem dX7_may_35 : decode cX7_may 35 = .ok (.getfield 58, 3) := by decide +kernel
theorem dX7_may_38 : decode cX7_may 38 = .ok (.aload_n 0, 1) := by decide +kernel
theorem dX7_may_39 : decode cX7_may 39 = .ok (.getfield 58, 3) := by decide +kernel
theorem dX7_may_42 : decode cX7_may 42 = .ok (.getfield 131, 3) := by decide +kernel
theorem dX7_may_45 : decode cX7_may 45 = .ok (.iload_n 1, 1) := by decide +kernel
theorem dX7_may_46 : decode cX7_may 46 = .ok (.iaload, 1) := by decide +kernel
theorem dX7_may_47 : decode cX7_may 47 = .ok (.iload_n 2, 1) := by decide +kernel
theorem dX7_may_48 : decode cX7_may 48 = .ok (.invokevirtual 184, 3) := by decide +kernel
theorem dX7_may_51 : decode cX7_may 51 = .ok (.ireturn, 1) := by decide +kernel
theorem dX7_may_52 : decode cX7_may 52 = .ok (.aload_n 0, 1) := by decide +kernel
theorem dX7_may_53 : decode cX7_may 53 = .ok (.getfield 58, 3) := by decide +kernel
theorem dX7_may_56 : decode cX7_may 56 = .ok (.iload_n 1, 1) := by decide +kernel
theorem dX7_may_57 : decode cX7_may 57 = .ok (.aload_n 0, 1) := by decide +kernel
theorem dX7_may_58 : decode cX7_may 58 = .ok (.getfield 58, 3) := by decide +kernel
theorem dX7_may_61 : decode cX7_may 61 = .ok (.getfield 131, 3) := by decide +kernel
theorem dX7_may_64 : decode cX7_may 64 = .ok (.iload_n 1, 1) := by decide +kernel
theorem dX7_may_65 : decode cX7_may 65 = .ok (.iaload, 1) := by decide +kernel
theorem dX7_may_66 : decode cX7_may 66 = .ok (.iload_n 2, 1) := by decide +kernel
theorem dX7_may_67 : decode cX7_may 67 = .ok (.invokevirtual 187, 3) := by decide +kernel
theorem dX7_may_70 : decode cX7_may 70 = .ok (.ifCond .eq 7, 3) := by decide +kernel
theorem dX7_may_73 : decode cX7_may 73 = .ok (.iconst 1, 1) := by decide +kernel
theorem dX7_may_74 : decode cX7_may 74 = .ok (.goto 4, 3) := by decide +kernel
theorem dX7_may_77 : decode cX7_may 77 = .ok (.iconst 0, 1) := by decide +kernel
theorem dX7_may_78 : decode cX7_may 78 = .ok (.ireturn, 1) := by decide +kernel
theorem dX7_soon_0 : decode cX7_soon 0 = .ok (.aload_n 0, 1) := by decide +kernel
theorem dX7_soon_1 : decode cX7_soon 1 = .ok (.getfield 58, 3) := by decide +kernel
theorem dX7_soon_4 : decode cX7_soon 4 = .ok (.iload_n 1, 1) := by decide +kernel
theorem dX7_soon_5 : decode cX7_soon 5 = .ok (.invokevirtual 128, 3) := by decide +kernel
theorem dX7_soon_8 : decode cX7_soon 8 = .ok (.ifCond .ne 6, 3) := by decide +kernel
theorem dX7_soon_11 : decode cX7_soon 11 = .ok (.ldc 73, 2) := by decide +kernel
theorem dX7_soon_13 : decode cX7_soon 13 = .ok (.ireturn, 1) := by decide +kernel
theorem dX7_soon_14 : decode cX7_soon 14 = .ok (.iconst 0, 1) := by decide +kernel
theorem dX7_soon_15 : decode cX7_soon 15 = .ok (.istore_n 2, 1) := by decide +kernel
theorem dX7_soon_16 : decode cX7_soon 16 = .ok (.iload_n 2, 1) := by decide +kernel
theorem dX7_soon_17 : decode cX7_soon 17 = .ok (.sipush 600, 3) := by decide +kernel
theorem dX7_soon_20 : decode cX7_soon 20 = .ok (.if_icmp .gt 32, 3) := by decide +kernel
theorem dX7_soon_23 : decode cX7_soon 23 = .ok (.aload_n 0, 1) := by decide +kernel
theorem dX7_soon_24 : decode cX7_soon 24 = .ok (.getfield 58, 3) := by decide +kernel
theorem dX7_soon_27 : decode cX7_soon 27 = .ok (.iload_n 1, 1) := by decide +kernel
theorem dX7_soon_28 : decode cX7_soon 28 = .ok (.aload_n 0, 1) := by decide +kernel
theorem dX7_soon_29 : decode cX7_soon 29 = .ok (.getfield 58, 3) := by decide +kernel
theorem dX7_soon_32 : decode cX7_soon 32 = .ok (.getfield 131, 3) := by decide +kernel
theorem dX7_soon_35 : decode cX7_soon 35 = .ok (.iload_n 1, 1) := by decide +kernel
theorem dX7_soon_36 : decode cX7_soon 36 = .ok (.iaload, 1) := by decide +kernel
theorem dX7_soon_37 : decode cX7_soon 37 = .ok (.iload_n 2, 1) := by decide +kernel
theorem dX7_soon_38 : decode cX7_soon 38 = .ok (.invokevirtual 187, 3) := by decide +kernel
theorem dX7_soon_41 : decode cX7_soon 41 = .ok (.ifCond .eq 5, 3) := by decide +kernel
theorem dX7_soon_44 : decode cX7_soon 44 = .ok (.iload_n 2, 1) := by decide +kernel
theorem dX7_soon_45 : decode cX7_soon 45 = .ok (.ireturn, 1) := by decide +kernel
theorem dX7_soon_46 : decode cX7_soon 46 = .ok (.iinc 2 60, 3) := by decide +kernel
theorem dX7_soon_49 : decode cX7_soon 49 = .ok (.goto (-33), 3) := by decide +kernel
theorem dX7_soon_52 : decode cX7_soon 52 = .ok (.ldc 180, 2) := by decide +kernel
theorem dX7_soon_54 : decode cX7_soon 54 = .ok (.ireturn, 1) := by decide +kernel
theorem dX7_odds_0 : decode cX7_odds 0 = .ok (.aload_n 0, 1) := by decide +kernel
theorem dX7_odds_1 : decode cX7_odds 1 = .ok (.getfield 58, 3) := by decide +kernel
theorem dX7_odds_4 : decode cX7_odds 4 = .ok (.iload_n 1, 1) := by decide +kernel
theorem dX7_odds_5 : decode cX7_odds 5 = .ok (.invokevirtual 128, 3) := by decide +kernel
theorem dX7_odds_8 : decode cX7_odds 8 = .ok (.ifCond .eq 31, 3) := by decide +kernel
theorem dX7_odds_11 : decode cX7_odds 11 = .ok (.iload_n 2, 1) := by decide +kernel
theorem dX7_odds_12 : decode cX7_odds 12 = .ok (.invokestatic 181, 3) := by decide +kernel
theorem dX7_odds_15 : decode cX7_odds 15 = .ok (.ifCond .eq 24, 3) := by decide +kernel
theorem dX7_odds_18 : decode cX7_odds 18 = .ok (.iload_n 3, 1) := by decide +kernel
theorem dX7_odds_19 : decode cX7_odds 19 = .ok (.ifCond .lt 20, 3) := by decide +kernel
theorem dX7_odds_22 : decode cX7_odds 22 = .ok (.iload_n 3, 1) := by decide +kernel
theorem dX7_odds_23 : decode cX7_odds 23 = .ok (.bipush 9, 2) := by decide +kernel
theorem dX7_odds_25 : decode cX7_odds 25 = .ok (.if_icmp .gt 14, 3) := by decide +kernel
theorem dX7_odds_28 : decode cX7_odds 28 = .ok (.iload 4, 2) := by decide +kernel
theorem dX7_odds_30 : decode cX7_odds 30 = .ok (.ifCond .lt 9, 3) := by decide +kernel
theorem dX7_odds_33 : decode cX7_odds 33 = .ok (.iload 4, 2) := by decide +kernel
theorem dX7_odds_35 : decode cX7_odds 35 = .ok (.iconst 1, 1) := by decide +kernel
theorem dX7_odds_36 : decode cX7_odds 36 = .ok (.if_icmp .le 6, 3) := by decide +kernel
theorem dX7_odds_39 : decode cX7_odds 39 = .ok (.ldc 73, 2) := by decide +kernel
theorem dX7_odds_41 : decode cX7_odds 41 = .ok (.ireturn, 1) := by decide +kernel
theorem dX7_odds_42 : decode cX7_odds 42 = .ok (.iconst 0, 1) := by decide +kernel
theorem dX7_odds_43 : decode cX7_odds 43 = .ok (.istore 5, 2) := by decide +kernel
theorem dX7_odds_45 : decode cX7_odds 45 = .ok (.iconst 0, 1) := by decide +kernel
theorem dX7_odds_46 : decode cX7_odds 46 = .ok (.istore 6, 2) := by decide +kernel
theorem dX7_odds_48 : decode cX7_odds 48 = .ok (.iload 6, 2) := by decide +kernel
theorem dX7_odds_50 : decode cX7_odds 50 = .ok (.iload_n 3, 1) := by decide +kernel
theorem dX7_odds_51 : decode cX7_odds 51 = .ok (.if_icmp .gt 36, 3) := by decide +kernel
theorem dX7_odds_54 : decode cX7_odds 54 = .ok (.aload_n 0, 1) := by decide +kernel
theorem dX7_odds_55 : decode cX7_odds 55 = .ok (.getfield 58, 3) := by decide +kernel
theorem dX7_odds_58 : decode cX7_odds 58 = .ok (.iload_n 1, 1) := by decide +kernel
theorem dX7_odds_59 : decode cX7_odds 59 = .ok (.aload_n 0, 1) := by decide +kernel
theorem dX7_odds_60 : decode cX7_odds 60 = .ok (.getfield 58, 3) := by decide +kernel
theorem dX7_odds_63 : decode cX7_odds 63 = .ok (.getfield 131, 3) := by decide +kernel
theorem dX7_odds_66 : decode cX7_odds 66 = .ok (.iload_n 1, 1) := by decide +kernel
theorem dX7_odds_67 : decode cX7_odds 67 = .ok (.iaload, 1) := by decide +kernel
theorem dX7_odds_68 : decode cX7_odds 68 = .ok (.iload 6, 2) := by decide +kernel
theorem dX7_odds_70 : decode cX7_odds 70 = .ok (.iadd, 1) := by decide +kernel
theorem dX7_odds_71 : decode cX7_odds 71 = .ok (.iload_n 2, 1) := by decide +kernel
theorem dX7_odds_72 : decode cX7_odds 72 = .ok (.invokevirtual 187, 3) := by decide +kernel
theorem dX7_odds_75 : decode cX7_odds 75 = .ok (.ifCond .eq 6, 3) := by decide +kernel
theorem dX7_odds_78 : decode cX7_odds 78 = .ok (.iinc 5 1, 3) := by decide +kernel
theorem dX7_odds_81 : decode cX7_odds 81 = .ok (.iinc 6 1, 3) := by decide +kernel
theorem dX7_odds_84 : decode cX7_odds 84 = .ok (.goto (-36), 3) := by decide +kernel
theorem dX7_odds_87 : decode cX7_odds 87 = .ok (.iload 5, 2) := by decide +kernel
theorem dX7_odds_89 : decode cX7_odds 89 = .ok (.iload_n 3, 1) := by decide +kernel
theorem dX7_odds_90 : decode cX7_odds 90 = .ok (.iconst 1, 1) := by decide +kernel
theorem dX7_odds_91 : decode cX7_odds 91 = .ok (.iadd, 1) := by decide +kernel
theorem dX7_odds_92 : decode cX7_odds 92 = .ok (.invokestatic 190, 3) := by decide +kernel
theorem dX7_odds_95 : decode cX7_odds 95 = .ok (.istore 6, 2) := by decide +kernel
theorem dX7_odds_97 : decode cX7_odds 97 = .ok (.iload 4, 2) := by decide +kernel
theorem dX7_odds_99 : decode cX7_odds 99 = .ok (.ifCond .ne 11, 3) := by decide +kernel
theorem dX7_odds_102 : decode cX7_odds 102 = .ok (.iload 5, 2) := by decide +kernel
theorem dX7_odds_104 : decode cX7_odds 104 = .ok (.iload 6, 2) := by decide +kernel
theorem dX7_odds_106 : decode cX7_odds 106 = .ok (.idiv, 1) := by decide +kernel
theorem dX7_odds_107 : decode cX7_odds 107 = .ok (.goto 9, 3) := by decide +kernel
theorem dX7_odds_110 : decode cX7_odds 110 = .ok (.iload_n 3, 1) := by decide +kernel
theorem dX7_odds_111 : decode cX7_odds 111 = .ok (.iconst 1, 1) := by decide +kernel
theorem dX7_odds_112 : decode cX7_odds 112 = .ok (.iadd, 1) := by decide +kernel
theorem dX7_odds_113 : decode cX7_odds 113 = .ok (.iload 6, 2) := by decide +kernel
theorem dX7_odds_115 : decode cX7_odds 115 = .ok (.idiv, 1) := by decide +kernel
theorem dX7_odds_116 : decode cX7_odds 116 = .ok (.ireturn, 1) := by decide +kernel
theorem dX7_goes_0 : decode cX7_goes 0 = .ok (.aload_n 0, 1) := by decide +kernel
theorem dX7_goes_1 : decode cX7_goes 1 = .ok (.getfield 58, 3) := by decide +kernel
theorem dX7_goes_4 : decode cX7_goes 4 = .ok (.getfield 169, 3) := by decide +kernel
theorem dX7_goes_7 : decode cX7_goes 7 = .ok (.ifCond .ne 6, 3) := by decide +kernel
theorem dX7_goes_10 : decode cX7_goes 10 = .ok (.ldc 143, 2) := by decide +kernel
theorem dX7_goes_12 : decode cX7_goes 12 = .ok (.ireturn, 1) := by decide +kernel
theorem dX7_goes_13 : decode cX7_goes 13 = .ok (.iload_n 1, 1) := by decide +kernel
theorem dX7_goes_14 : decode cX7_goes 14 = .ok (.invokestatic 181, 3) := by decide +kernel
theorem dX7_goes_17 : decode cX7_goes 17 = .ok (.ifCond .eq 14, 3) := by decide +kernel
theorem dX7_goes_20 : decode cX7_goes 20 = .ok (.aload_n 0, 1) := by decide +kernel
theorem dX7_goes_21 : decode cX7_goes 21 = .ok (.getfield 58, 3) := by decide +kernel
theorem dX7_goes_24 : decode cX7_goes 24 = .ok (.iload_n 1, 1) := by decide +kernel
theorem dX7_goes_25 : decode cX7_goes 25 = .ok (.invokevirtual 193, 3) := by decide +kernel
theorem dX7_goes_28 : decode cX7_goes 28 = .ok (.goto 5, 3) := by decide +kernel
theorem dX7_goes_31 : decode cX7_goes 31 = .ok (.ldc 73, 2) := by decide +kernel
theorem dX7_goes_33 : decode cX7_goes 33 = .ok (.ireturn, 1) := by decide +kernel
theorem dX7_home_0 : decode cX7_home 0 = .ok (.aload_n 0, 1) := by decide +kernel
theorem dX7_home_1 : decode cX7_home 1 = .ok (.getfield 58, 3) := by decide +kernel
theorem dX7_home_4 : decode cX7_home 4 = .ok (.getfield 169, 3) := by decide +kernel
theorem dX7_home_7 : decode cX7_home 7 = .ok (.ifCond .ne 6, 3) := by decide +kernel
theorem dX7_home_10 : decode cX7_home 10 = .ok (.ldc 143, 2) := by decide +kernel
theorem dX7_home_12 : decode cX7_home 12 = .ok (.ireturn, 1) := by decide +kernel
theorem dX7_home_13 : decode cX7_home 13 = .ok (.iload_n 1, 1) := by decide +kernel
theorem dX7_home_14 : decode cX7_home 14 = .ok (.invokestatic 181, 3) := by decide +kernel
theorem dX7_home_17 : decode cX7_home 17 = .ok (.ifCond .eq 25, 3) := by decide +kernel
theorem dX7_home_20 : decode cX7_home 20 = .ok (.iload_n 2, 1) := by decide +kernel
theorem dX7_home_21 : decode cX7_home 21 = .ok (.ifCond .lt 21, 3) := by decide +kernel
theorem dX7_home_24 : decode cX7_home 24 = .ok (.iload_n 2, 1) := by decide +kernel
theorem dX7_home_25 : decode cX7_home 25 = .ok (.iconst 2, 1) := by decide +kernel
theorem dX7_home_26 : decode cX7_home 26 = .ok (.if_icmp .le 19, 3) := by decide +kernel
theorem dX7_home_29 : decode cX7_home 29 = .ok (.aload_n 0, 1) := by decide +kernel
theorem dX7_home_30 : decode cX7_home 30 = .ok (.getfield 58, 3) := by decide +kernel
theorem dX7_home_33 : decode cX7_home 33 = .ok (.iload_n 2, 1) := by decide +kernel
theorem dX7_home_34 : decode cX7_home 34 = .ok (.iconst 3, 1) := by decide +kernel
theorem dX7_home_35 : decode cX7_home 35 = .ok (.isub, 1) := by decide +kernel
theorem dX7_home_36 : decode cX7_home 36 = .ok (.invokevirtual 157, 3) := by decide +kernel
theorem dX7_home_39 : decode cX7_home 39 = .ok (.ifCond .ne 6, 3) := by decide +kernel
theorem dX7_home_42 : decode cX7_home 42 = .ok (.ldc 73, 2) := by decide +kernel
theorem dX7_home_44 : decode cX7_home 44 = .ok (.ireturn, 1) := by decide +kernel
theorem dX7_home_45 : decode cX7_home 45 = .ok (.aload_n 0, 1) := by decide +kernel
theorem dX7_home_46 : decode cX7_home 46 = .ok (.getfield 40, 3) := by decide +kernel
theorem dX7_home_49 : decode cX7_home 49 = .ok (.aload_n 0, 1) := by decide +kernel
theorem dX7_home_50 : decode cX7_home 50 = .ok (.getfield 58, 3) := by decide +kernel
theorem dX7_home_53 : decode cX7_home 53 = .ok (.aload_n 0, 1) := by decide +kernel
theorem dX7_home_54 : decode cX7_home 54 = .ok (.getfield 58, 3) := by decide +kernel
theorem dX7_home_57 : decode cX7_home 57 = .ok (.iload_n 1, 1) := by decide +kernel
theorem dX7_home_58 : decode cX7_home 58 = .ok (.invokevirtual 193, 3) := by decide +kernel
theorem dX7_home_61 : decode cX7_home 61 = .ok (.invokevirtual 196, 3) := by decide +kernel
theorem dX7_home_64 : decode cX7_home 64 = .ok (.iload_n 2, 1) := by decide +kernel
theorem dX7_home_65 : decode cX7_home 65 = .ok (.tableswitch 54 0 2 #[27, 38, 46], 27) := by decide +kernel
theorem dX7_home_92 : decode cX7_home 92 = .ok (.aload_n 0, 1) := by decide +kernel
theorem dX7_home_93 : decode cX7_home 93 = .ok (.getfield 40, 3) := by decide +kernel
theorem dX7_home_96 : decode cX7_home 96 = .ok (.getfield 200, 3) := by decide +kernel
theorem dX7_home_99 : decode cX7_home 99 = .ok (.invokestatic 203, 3) := by decide +kernel
theorem dX7_home_102 : decode cX7_home 102 = .ok (.ireturn, 1) := by decide +kernel
theorem dX7_home_103 : decode cX7_home 103 = .ok (.aload_n 0, 1) := by decide +kernel
theorem dX7_home_104 : decode cX7_home 104 = .ok (.getfield 40, 3) := by decide +kernel
theorem dX7_home_107 : decode cX7_home 107 = .ok (.getfield 208, 3) := by decide +kernel
theorem dX7_home_110 : decode cX7_home 110 = .ok (.ireturn, 1) := by decide +kernel
theorem dX7_home_111 : decode cX7_home 111 = .ok (.aload_n 0, 1) := by decide +kernel
theorem dX7_home_112 : decode cX7_home 112 = .ok (.getfield 40, 3) := by decide +kernel
theorem dX7_home_115 : decode cX7_home 115 = .ok (.getfield 200, 3) := by decide +kernel
theorem dX7_home_118 : decode cX7_home 118 = .ok (.ireturn, 1) := by decide +kernel
theorem dX7_home_119 : decode cX7_home 119 = .ok (.aload_n 0, 1) := by decide +kernel
theorem dX7_home_120 : decode cX7_home 120 = .ok (.getfield 40, 3) := by decide +kernel
theorem dX7_home_123 : decode cX7_home 123 = .ok (.iload_n 2, 1) := by decide +kernel
theorem dX7_home_124 : decode cX7_home 124 = .ok (.iconst 3, 1) := by decide +kernel
theorem dX7_home_125 : decode cX7_home 125 = .ok (.isub, 1) := by decide +kernel
theorem dX7_home_126 : decode cX7_home 126 = .ok (.invokevirtual 211, 3) := by decide +kernel
theorem dX7_home_129 : decode cX7_home 129 = .ok (.ireturn, 1) := by decide +kernel
theorem dX7_order_0 : decode cX7_order 0 = .ok (.iload_n 1, 1) := by decide +kernel
theorem dX7_order_1 : decode cX7_order 1 = .ok (.invokestatic 181, 3) := by decide +kernel
theorem dX7_order_4 : decode cX7_order 4 = .ok (.ifCond .eq 19, 3) := by decide +kernel
theorem dX7_order_7 : decode cX7_order 7 = .ok (.aload_n 0, 1) := by decide +kernel
theorem dX7_order_8 : decode cX7_order 8 = .ok (.getfield 58, 3) := by decide +kernel
theorem dX7_order_11 : decode cX7_order 11 = .ok (.iload_n 2, 1) := by decide +kernel
theorem dX7_order_12 : decode cX7_order 12 = .ok (.invokevirtual 157, 3) := by decide +kernel
theorem dX7_order_15 : decode cX7_order 15 = .ok (.ifCond .eq 8, 3) := by decide +kernel
theorem dX7_order_18 : decode cX7_order 18 = .ok (.iload_n 3, 1) := by decide +kernel
theorem dX7_order_19 : decode cX7_order 19 = .ok (.iconst (-1), 1) := by decide +kernel
theorem dX7_order_20 : decode cX7_order 20 = .ok (.if_icmp .ge 6, 3) := by decide +kernel
theorem dX7_order_23 : decode cX7_order 23 = .ok (.ldc 73, 2) := by decide +kernel
theorem dX7_order_25 : decode cX7_order 25 = .ok (.ireturn, 1) := by decide +kernel
theorem dX7_order_26 : decode cX7_order 26 = .ok (.aload_n 0, 1) := by decide +kernel
theorem dX7_order_27 : decode cX7_order 27 = .ok (.getfield 58, 3) := by decide +kernel
theorem dX7_order_30 : decode cX7_order 30 = .ok (.iload_n 1, 1) := by decide +kernel
theorem dX7_order_31 : decode cX7_order 31 = .ok (.invokevirtual 193, 3) := by decide +kernel
theorem dX7_order_34 : decode cX7_order 34 = .ok (.istore 4, 2) := by decide +kernel
theorem dX7_order_36 : decode cX7_order 36 = .ok (.iload 4, 2) := by decide +kernel
theorem dX7_order_38 : decode cX7_order 38 = .ok (.iload_n 2, 1) := by decide +kernel
theorem dX7_order_39 : decode cX7_order 39 = .ok (.invokestatic 214, 3) := by decide +kernel
theorem dX7_order_42 : decode cX7_order 42 = .ok (.ifCond .ne 6, 3) := by decide +kernel
theorem dX7_order_45 : decode cX7_order 45 = .ok (.ldc 180, 2) := by decide +kernel
theorem dX7_order_47 : decode cX7_order 47 = .ok (.ireturn, 1) := by decide +kernel
theorem dX7_order_48 : decode cX7_order 48 = .ok (.aload_n 0, 1) := by decide +kernel
theorem dX7_order_49 : decode cX7_order 49 = .ok (.getfield 40, 3) := by decide +kernel
theorem dX7_order_52 : decode cX7_order 52 = .ok (.aload_n 0, 1) := by decide +kernel
theorem dX7_order_53 : decode cX7_order 53 = .ok (.getfield 58, 3) := by decide +kernel
theorem dX7_order_56 : decode cX7_order 56 = .ok (.iload 4, 2) := by decide +kernel
theorem dX7_order_58 : decode cX7_order 58 = .ok (.invokevirtual 196, 3) := by decide +kernel
theorem dX7_order_61 : decode cX7_order 61 = .ok (.aload_n 0, 1) := by decide +kernel
theorem dX7_order_62 : decode cX7_order 62 = .ok (.getfield 40, 3) := by decide +kernel
theorem dX7_order_65 : decode cX7_order 65 = .ok (.iload_n 2, 1) := by decide +kernel
theorem dX7_order_66 : decode cX7_order 66 = .ok (.invokevirtual 211, 3) := by decide +kernel
theorem dX7_order_69 : decode cX7_order 69 = .ok (.istore 5, 2) := by decide +kernel
theorem dX7_order_71 : decode cX7_order 71 = .ok (.iload_n 3, 1) := by decide +kernel
theorem dX7_order_72 : decode cX7_order 72 = .ok (.iconst (-1), 1) := by decide +kernel
theorem dX7_order_73 : decode cX7_order 73 = .ok (.if_icmp .ne 20, 3) := by decide +kernel
theorem dX7_order_76 : decode cX7_order 76 = .ok (.aload_n 0, 1) := by decide +kernel
theorem dX7_order_77 : decode cX7_order 77 = .ok (.getfield 40, 3) := by decide +kernel
theorem dX7_order_80 : decode cX7_order 80 = .ok (.aload_n 0, 1) := by decide +kernel
theorem dX7_order_81 : decode cX7_order 81 = .ok (.getfield 58, 3) := by decide +kernel
theorem dX7_order_84 : decode cX7_order 84 = .ok (.iload_n 2, 1) := by decide +kernel
theorem dX7_order_85 : decode cX7_order 85 = .ok (.iload 5, 2) := by decide +kernel
theorem dX7_order_87 : decode cX7_order 87 = .ok (.invokevirtual 217, 3) := by decide +kernel
theorem dX7_order_90 : decode cX7_order 90 = .ok (.goto 18, 3) := by decide +kernel
theorem dX7_order_93 : decode cX7_order 93 = .ok (.aload_n 0, 1) := by decide +kernel
theorem dX7_order_94 : decode cX7_order 94 = .ok (.getfield 40, 3) := by decide +kernel
theorem dX7_order_97 : decode cX7_order 97 = .ok (.aload_n 0, 1) := by decide +kernel
theorem dX7_order_98 : decode cX7_order 98 = .ok (.getfield 58, 3) := by decide +kernel
theorem dX7_order_101 : decode cX7_order 101 = .ok (.iload_n 2, 1) := by decide +kernel
theorem dX7_order_102 : decode cX7_order 102 = .ok (.iload 5, 2) := by decide +kernel
theorem dX7_order_104 : decode cX7_order 104 = .ok (.iload_n 3, 1) := by decide +kernel
theorem dX7_order_105 : decode cX7_order 105 = .ok (.invokevirtual 221, 3) := by decide +kernel
theorem dX7_order_108 : decode cX7_order 108 = .ok (.ireturn, 1) := by decide +kernel
theorem dX7_detour_0 : decode cX7_detour 0 = .ok (.iload_n 1, 1) := by decide +kernel
theorem dX7_detour_1 : decode cX7_detour 1 = .ok (.invokestatic 181, 3) := by decide +kernel
theorem dX7_detour_4 : decode cX7_detour 4 = .ok (.ifCond .eq 14, 3) := by decide +kernel
theorem dX7_detour_7 : decode cX7_detour 7 = .ok (.aload_n 0, 1) := by decide +kernel
theorem dX7_detour_8 : decode cX7_detour 8 = .ok (.getfield 58, 3) := by decide +kernel
theorem dX7_detour_11 : decode cX7_detour 11 = .ok (.iload_n 2, 1) := by decide +kernel
theorem dX7_detour_12 : decode cX7_detour 12 = .ok (.invokevirtual 128, 3) := by decide +kernel
theorem dX7_detour_15 : decode cX7_detour 15 = .ok (.ifCond .ne 6, 3) := by decide +kernel
theorem dX7_detour_18 : decode cX7_detour 18 = .ok (.ldc 73, 2) := by decide +kernel
theorem dX7_detour_20 : decode cX7_detour 20 = .ok (.ireturn, 1) := by decide +kernel
theorem dX7_detour_21 : decode cX7_detour 21 = .ok (.aload_n 0, 1) := by decide +kernel
theorem dX7_detour_22 : decode cX7_detour 22 = .ok (.getfield 40, 3) := by decide +kernel
theorem dX7_detour_25 : decode cX7_detour 25 = .ok (.aload_n 0, 1) := by decide +kernel
theorem dX7_detour_26 : decode cX7_detour 26 = .ok (.getfield 58, 3) := by decide +kernel
theorem dX7_detour_29 : decode cX7_detour 29 = .ok (.aload_n 0, 1) := by decide +kernel
theorem dX7_detour_30 : decode cX7_detour 30 = .ok (.getfield 58, 3) := by decide +kernel
theorem dX7_detour_33 : decode cX7_detour 33 = .ok (.iload_n 1, 1) := by decide +kernel
theorem dX7_detour_34 : decode cX7_detour 34 = .ok (.invokevirtual 193, 3) := by decide +kernel
theorem dX7_detour_37 : decode cX7_detour 37 = .ok (.invokevirtual 196, 3) := by decide +kernel
theorem dX7_detour_40 : decode cX7_detour 40 = .ok (.iconst 0, 1) := by decide +kernel
theorem dX7_detour_41 : decode cX7_detour 41 = .ok (.istore_n 3, 1) := by decide +kernel
theorem dX7_detour_42 : decode cX7_detour 42 = .ok (.iload_n 3, 1) := by decide +kernel
theorem dX7_detour_43 : decode cX7_detour 43 = .ok (.aload_n 0, 1) := by decide +kernel
theorem dX7_detour_44 : decode cX7_detour 44 = .ok (.getfield 58, 3) := by decide +kernel
theorem dX7_detour_47 : decode cX7_detour 47 = .ok (.getfield 225, 3) := by decide +kernel
theorem dX7_detour_50 : decode cX7_detour 50 = .ok (.if_icmp .ge 68, 3) := by decide +kernel
theorem dX7_detour_53 : decode cX7_detour 53 = .ok (.aload_n 0, 1) := by decide +kernel
theorem dX7_detour_54 : decode cX7_detour 54 = .ok (.getfield 40, 3) := by decide +kernel
theorem dX7_detour_57 : decode cX7_detour 57 = .ok (.iload_n 3, 1) := by decide +kernel
theorem dX7_detour_58 : decode cX7_detour 58 = .ok (.invokevirtual 211, 3) := by decide +kernel
theorem dX7_detour_61 : decode cX7_detour 61 = .ok (.istore 4, 2) := by decide +kernel
theorem dX7_detour_63 : decode cX7_detour 63 = .ok (.iload 4, 2) := by decide +kernel
theorem dX7_detour_65 : decode cX7_detour 65 = .ok (.iload_n 2, 1) := by decide +kernel
theorem dX7_detour_66 : decode cX7_detour 66 = .ok (.invokestatic 214, 3) := by decide +kernel
theorem dX7_detour_69 : decode cX7_detour 69 = .ok (.ifCond .eq 43, 3) := by decide +kernel
theorem dX7_detour_72 : decode cX7_detour 72 = .ok (.iload 4, 2) := by decide +kernel
theorem dX7_detour_74 : decode cX7_detour 74 = .ok (.iconst 1, 1) := by decide +kernel
theorem dX7_detour_75 : decode cX7_detour 75 = .ok (.iload_n 2, 1) := by decide +kernel
theorem dX7_detour_76 : decode cX7_detour 76 = .ok (.ishl, 1) := by decide +kernel
theorem dX7_detour_77 : decode cX7_detour 77 = .ok (.iconst (-1), 1) := by decide +kernel
theorem dX7_detour_78 : decode cX7_detour 78 = .ok (.ixor, 1) := by decide +kernel
theorem dX7_detour_79 : decode cX7_detour 79 = .ok (.iand, 1) := by decide +kernel
theorem dX7_detour_80 : decode cX7_detour 80 = .ok (.istore 5, 2) := by decide +kernel
theorem dX7_detour_82 : decode cX7_detour 82 = .ok (.aload_n 0, 1) := by decide +kernel
theorem dX7_detour_83 : decode cX7_detour 83 = .ok (.getfield 40, 3) := by decide +kernel
theorem dX7_detour_86 : decode cX7_detour 86 = .ok (.aload_n 0, 1) := by decide +kernel
theorem dX7_detour_87 : decode cX7_detour 87 = .ok (.getfield 58, 3) := by decide +kernel
theorem dX7_detour_90 : decode cX7_detour 90 = .ok (.iload_n 3, 1) := by decide +kernel
theorem dX7_detour_91 : decode cX7_detour 91 = .ok (.iload 4, 2) := by decide +kernel
theorem dX7_detour_93 : decode cX7_detour 93 = .ok (.invokevirtual 217, 3) := by decide +kernel
theorem dX7_detour_96 : decode cX7_detour 96 = .ok (.aload_n 0, 1) := by decide +kernel
theorem dX7_detour_97 : decode cX7_detour 97 = .ok (.getfield 40, 3) := by decide +kernel
theorem dX7_detour_100 : decode cX7_detour 100 = .ok (.aload_n 0, 1) := by decide +kernel
theorem dX7_detour_101 : decode cX7_detour 101 = .ok (.getfield 58, 3) := by decide +kernel
theorem dX7_detour_104 : decode cX7_detour 104 = .ok (.iload_n 3, 1) := by decide +kernel
theorem dX7_detour_105 : decode cX7_detour 105 = .ok (.iload 5, 2) := by decide +kernel
theorem dX7_detour_107 : decode cX7_detour 107 = .ok (.invokevirtual 217, 3) := by decide +kernel
theorem dX7_detour_110 : decode cX7_detour 110 = .ok (.isub, 1) := by decide +kernel
theorem dX7_detour_111 : decode cX7_detour 111 = .ok (.ireturn, 1) := by decide +kernel
theorem dX7_detour_112 : decode cX7_detour 112 = .ok (.iinc 3 1, 3) := by decide +kernel
theorem dX7_detour_115 : decode cX7_detour 115 = .ok (.goto (-73), 3) := by decide +kernel
theorem dX7_detour_118 : decode cX7_detour 118 = .ok (.ldc 180, 2) := by decide +kernel
theorem dX7_detour_120 : decode cX7_detour 120 = .ok (.ireturn, 1) := by decide +kernel
theorem dX7_fetch_0 : decode cX7_fetch 0 = .ok (.aload_n 0, 1) := by decide +kernel
theorem dX7_fetch_1 : decode cX7_fetch 1 = .ok (.getfield 58, 3) := by decide +kernel
theorem dX7_fetch_4 : decode cX7_fetch 4 = .ok (.getfield 169, 3) := by decide +kernel
theorem dX7_fetch_7 : decode cX7_fetch 7 = .ok (.ifCond .ne 6, 3) := by decide +kernel
theorem dX7_fetch_10 : decode cX7_fetch 10 = .ok (.ldc 143, 2) := by decide +kernel
theorem dX7_fetch_12 : decode cX7_fetch 12 = .ok (.ireturn, 1) := by decide +kernel
theorem dX7_fetch_13 : decode cX7_fetch 13 = .ok (.iload_n 1, 1) := by decide +kernel
theorem dX7_fetch_14 : decode cX7_fetch 14 = .ok (.invokestatic 181, 3) := by decide +kernel
theorem dX7_fetch_17 : decode cX7_fetch 17 = .ok (.ifCond .eq 21, 3) := by decide +kernel
theorem dX7_fetch_20 : decode cX7_fetch 20 = .ok (.aload_n 0, 1) := by decide +kernel
theorem dX7_fetch_21 : decode cX7_fetch 21 = .ok (.getfield 58, 3) := by decide +kernel
theorem dX7_fetch_24 : decode cX7_fetch 24 = .ok (.aload_n 0, 1) := by decide +kernel
theorem dX7_fetch_25 : decode cX7_fetch 25 = .ok (.getfield 58, 3) := by decide +kernel
theorem dX7_fetch_28 : decode cX7_fetch 28 = .ok (.iload_n 1, 1) := by decide +kernel
theorem dX7_fetch_29 : decode cX7_fetch 29 = .ok (.invokevirtual 193, 3) := by decide +kernel
theorem dX7_fetch_32 : decode cX7_fetch 32 = .ok (.invokevirtual 228, 3) := by decide +kernel
theorem dX7_fetch_35 : decode cX7_fetch 35 = .ok (.goto 5, 3) := by decide +kernel
theorem dX7_fetch_38 : decode cX7_fetch 38 = .ok (.ldc 73, 2) := by decide +kernel
theorem dX7_fetch_40 : decode cX7_fetch 40 = .ok (.ireturn, 1) := by decide +kernel
theorem dX7_house_0 : decode cX7_house 0 = .ok (.aload_n 0, 1) := by decide +kernel
theorem dX7_house_1 : decode cX7_house 1 = .ok (.getfield 58, 3) := by decide +kernel
theorem dX7_house_4 : decode cX7_house 4 = .ok (.getfield 169, 3) := by decide +kernel
theorem dX7_house_7 : decode cX7_house 7 = .ok (.ifCond .ne 6, 3) := by decide +kernel
theorem dX7_house_10 : decode cX7_house 10 = .ok (.ldc 143, 2) := by decide +kernel
theorem dX7_house_12 : decode cX7_house 12 = .ok (.ireturn, 1) := by decide +kernel
theorem dX7_house_13 : decode cX7_house 13 = .ok (.iload_n 1, 1) := by decide +kernel
theorem dX7_house_14 : decode cX7_house 14 = .ok (.ifCond .lt 8, 3) := by decide +kernel
theorem dX7_house_17 : decode cX7_house 17 = .ok (.iload_n 1, 1) := by decide +kernel
theorem dX7_house_18 : decode cX7_house 18 = .ok (.iconst 1, 1) := by decide +kernel
theorem dX7_house_19 : decode cX7_house 19 = .ok (.if_icmp .le 6, 3) := by decide +kernel
theorem dX7_house_22 : decode cX7_house 22 = .ok (.ldc 73, 2) := by decide +kernel
theorem dX7_house_24 : decode cX7_house 24 = .ok (.ireturn, 1) := by decide +kernel
theorem dX7_house_25 : decode cX7_house 25 = .ok (.aload_n 0, 1) := by decide +kernel
theorem dX7_house_26 : decode cX7_house 26 = .ok (.getfield 58, 3) := by decide +kernel
theorem dX7_house_29 : decode cX7_house 29 = .ok (.invokevirtual 231, 3) := by decide +kernel
theorem dX7_house_32 : decode cX7_house 32 = .ok (.istore_n 2, 1) := by decide +kernel
theorem dX7_house_33 : decode cX7_house 33 = .ok (.iload_n 2, 1) := by decide +kernel
theorem dX7_house_34 : decode cX7_house 34 = .ok (.ldc 180, 2) := by decide +kernel
theorem dX7_house_36 : decode cX7_house 36 = .ok (.if_icmp .ne 6, 3) := by decide +kernel
theorem dX7_house_39 : decode cX7_house 39 = .ok (.ldc 180, 2) := by decide +kernel
theorem dX7_house_41 : decode cX7_house 41 = .ok (.ireturn, 1) := by decide +kernel
theorem dX7_house_42 : decode cX7_house 42 = .ok (.iload_n 1, 1) := by decide +kernel
theorem dX7_house_43 : decode cX7_house 43 = .ok (.ifCond .ne 7, 3) := by decide +kernel
theorem dX7_house_46 : decode cX7_house 46 = .ok (.iload_n 2, 1) := by decide +kernel
theorem dX7_house_47 : decode cX7_house 47 = .ok (.goto 11, 3) := by decide +kernel
theorem dX7_house_50 : decode cX7_house 50 = .ok (.aload_n 0, 1) := by decide +kernel
theorem dX7_house_51 : decode cX7_house 51 = .ok (.getfield 58, 3) := by decide +kernel
theorem dX7_house_54 : decode cX7_house 54 = .ok (.iload_n 2, 1) := by decide +kernel
theorem dX7_house_55 : decode cX7_house 55 = .ok (.invokevirtual 235, 3) := by decide +kernel
theorem dX7_house_58 : decode cX7_house 58 = .ok (.ireturn, 1) := by decide +kernel
theorem dX7_turn_0 : decode cX7_turn 0 = .ok (.aload_n 0, 1) := by decide +kernel
theorem dX7_turn_1 : decode cX7_turn 1 = .ok (.getfield 58, 3) := by decide +kernel
theorem dX7_turn_4 : decode cX7_turn 4 = .ok (.getfield 122, 3) := by decide +kernel
theorem dX7_turn_7 : decode cX7_turn 7 = .ok (.ifCond .ne 6, 3) := by decide +kernel
theorem dX7_turn_10 : decode cX7_turn 10 = .ok (.ldc 143, 2) := by decide +kernel
theorem dX7_turn_12 : decode cX7_turn 12 = .ok (.ireturn, 1) := by decide +kernel
theorem dX7_turn_13 : decode cX7_turn 13 = .ok (.iload_n 1, 1) := by decide +kernel
theorem dX7_turn_14 : decode cX7_turn 14 = .ok (.invokestatic 69, 3) := by decide +kernel
theorem dX7_turn_17 : decode cX7_turn 17 = .ok (.ifCond .eq 22, 3) := by decide +kernel
theorem dX7_turn_20 : decode cX7_turn 20 = .ok (.iload_n 2, 1) := by decide +kernel
theorem dX7_turn_21 : decode cX7_turn 21 = .ok (.ifCond .lt 18, 3) := by decide +kernel
theorem dX7_turn_24 : decode cX7_turn 24 = .ok (.iload_n 2, 1) := by decide +kernel
theorem dX7_turn_25 : decode cX7_turn 25 = .ok (.bipush 40, 2) := by decide +kernel
theorem dX7_turn_27 : decode cX7_turn 27 = .ok (.if_icmp .gt 12, 3) := by decide +kernel
theorem dX7_turn_30 : decode cX7_turn 30 = .ok (.iload_n 3, 1) := by decide +kernel
theorem dX7_turn_31 : decode cX7_turn 31 = .ok (.ifCond .lt 8, 3) := by decide +kernel
theorem dX7_turn_34 : decode cX7_turn 34 = .ok (.iload_n 3, 1) := by decide +kernel
theorem dX7_turn_35 : decode cX7_turn 35 = .ok (.iconst 2, 1) := by decide +kernel
theorem dX7_turn_36 : decode cX7_turn 36 = .ok (.if_icmp .le 6, 3) := by decide +kernel
theorem dX7_turn_39 : decode cX7_turn 39 = .ok (.ldc 73, 2) := by decide +kernel
theorem dX7_turn_41 : decode cX7_turn 41 = .ok (.ireturn, 1) := by decide +kernel
theorem dX7_turn_42 : decode cX7_turn 42 = .ok (.aload_n 0, 1) := by decide +kernel
theorem dX7_turn_43 : decode cX7_turn 43 = .ok (.getfield 10, 3) := by decide +kernel
theorem dX7_turn_46 : decode cX7_turn 46 = .ok (.iload_n 1, 1) := by decide +kernel
theorem dX7_turn_47 : decode cX7_turn 47 = .ok (.invokevirtual 85, 3) := by decide +kernel
theorem dX7_turn_50 : decode cX7_turn 50 = .ok (.ifCond .eq 9, 3) := by decide +kernel
theorem dX7_turn_53 : decode cX7_turn 53 = .ok (.aload_n 0, 1) := by decide +kernel
theorem dX7_turn_54 : decode cX7_turn 54 = .ok (.iconst 1, 1) := by decide +kernel
theorem dX7_turn_55 : decode cX7_turn 55 = .ok (.invokevirtual 74, 3) := by decide +kernel
theorem dX7_turn_58 : decode cX7_turn 58 = .ok (.ireturn, 1) := by decide +kernel
theorem dX7_turn_59 : decode cX7_turn 59 = .ok (.aload_n 0, 1) := by decide +kernel
theorem dX7_turn_60 : decode cX7_turn 60 = .ok (.getfield 10, 3) := by decide +kernel
theorem dX7_turn_63 : decode cX7_turn 63 = .ok (.iload_n 1, 1) := by decide +kernel
theorem dX7_turn_64 : decode cX7_turn 64 = .ok (.iconst 0, 1) := by decide +kernel
theorem dX7_turn_65 : decode cX7_turn 65 = .ok (.iload_n 2, 1) := by decide +kernel
theorem dX7_turn_66 : decode cX7_turn 66 = .ok (.invokevirtual 88, 3) := by decide +kernel
theorem dX7_turn_69 : decode cX7_turn 69 = .ok (.ifCond .ne 9, 3) := by decide +kernel
theorem dX7_turn_72 : decode cX7_turn 72 = .ok (.aload_n 0, 1) := by decide +kernel
theorem dX7_turn_73 : decode cX7_turn 73 = .ok (.iconst 2, 1) := by decide +kernel
theorem dX7_turn_74 : decode cX7_turn 74 = .ok (.invokevirtual 74, 3) := by decide +kernel
theorem dX7_turn_77 : decode cX7_turn 77 = .ok (.ireturn, 1) := by decide +kernel
theorem dX7_turn_78 : decode cX7_turn 78 = .ok (.aload_n 0, 1) := by decide +kernel
theorem dX7_turn_79 : decode cX7_turn 79 = .ok (.getfield 47, 3) := by decide +kernel
theorem dX7_turn_82 : decode cX7_turn 82 = .ok (.aload_n 0, 1) := by decide +kernel
theorem dX7_turn_83 : decode cX7_turn 83 = .ok (.getfield 10, 3) := by decide +kernel
theorem dX7_turn_86 : decode cX7_turn 86 = .ok (.iload_n 1, 1) := by decide +kernel
theorem dX7_turn_87 : decode cX7_turn 87 = .ok (.iload_n 2, 1) := by decide +kernel
theorem dX7_turn_88 : decode cX7_turn 88 = .ok (.aload_n 0, 1) := by decide +kernel
theorem dX7_turn_89 : decode cX7_turn 89 = .ok (.getfield 58, 3) := by decide +kernel
theorem dX7_turn_92 : decode cX7_turn 92 = .ok (.getfield 122, 3) := by decide +kernel
theorem dX7_turn_95 : decode cX7_turn 95 = .ok (.invokevirtual 238, 3) := by decide +kernel
theorem dX7_turn_98 : decode cX7_turn 98 = .ok (.ifCond .ne 6, 3) := by decide +kernel
theorem dX7_turn_101 : decode cX7_turn 101 = .ok (.ldc 73, 2) := by decide +kernel
theorem dX7_turn_103 : decode cX7_turn 103 = .ok (.ireturn, 1) := by decide +kernel
theorem dX7_turn_104 : decode cX7_turn 104 = .ok (.iload_n 3, 1) := by decide +kernel
theorem dX7_turn_105 : decode cX7_turn 105 = .ok (.iconst 2, 1) := by decide +kernel
theorem dX7_turn_106 : decode cX7_turn 106 = .ok (.if_icmp .ne 22, 3) := by decide +kernel
theorem dX7_turn_109 : decode cX7_turn 109 = .ok (.aload_n 0, 1) := by decide +kernel
theorem dX7_turn_110 : decode cX7_turn 110 = .ok (.aload_n 0, 1) := by decide +kernel
theorem dX7_turn_111 : decode cX7_turn 111 = .ok (.getfield 47, 3) := by decide +kernel
theorem dX7_turn_114 : decode cX7_turn 114 = .ok (.aload_n 0, 1) := by decide +kernel
theorem dX7_turn_115 : decode cX7_turn 115 = .ok (.getfield 58, 3) := by decide +kernel
theorem dX7_turn_118 : decode cX7_turn 118 = .ok (.getfield 122, 3) := by decide +kernel
theorem dX7_turn_121 : decode cX7_turn 121 = .ok (.invokevirtual 242, 3) := by decide +kernel
theorem dX7_turn_124 : decode cX7_turn 124 = .ok (.invokevirtual 82, 3) := by decide +kernel
theorem dX7_turn_127 : decode cX7_turn 127 = .ok (.ireturn, 1) := by decide +kernel
theorem dX7_turn_128 : decode cX7_turn 128 = .ok (.aload_n 0, 1) := by decide +kernel
theorem dX7_turn_129 : decode cX7_turn 129 = .ok (.getfield 47, 3) := by decide +kernel
theorem dX7_turn_132 : decode cX7_turn 132 = .ok (.aload_n 0, 1) := by decide +kernel
theorem dX7_turn_133 : decode cX7_turn 133 = .ok (.getfield 58, 3) := by decide +kernel
theorem dX7_turn_136 : decode cX7_turn 136 = .ok (.getfield 122, 3) := by decide +kernel
theorem dX7_turn_139 : decode cX7_turn 139 = .ok (.invokevirtual 245, 3) := by decide +kernel
theorem dX7_turn_142 : decode cX7_turn 142 = .ok (.istore 4, 2) := by decide +kernel
theorem dX7_turn_144 : decode cX7_turn 144 = .ok (.aload_n 0, 1) := by decide +kernel
theorem dX7_turn_145 : decode cX7_turn 145 = .ok (.iload_n 3, 1) := by decide +kernel
theorem dX7_turn_146 : decode cX7_turn 146 = .ok (.ifCond .ne 8, 3) := by decide +kernel
theorem dX7_turn_149 : decode cX7_turn 149 = .ok (.iload 4, 2) := by decide +kernel
theorem dX7_turn_151 : decode cX7_turn 151 = .ok (.goto 13, 3) := by decide +kernel
theorem dX7_turn_154 : decode cX7_turn 154 = .ok (.aload_n 0, 1) := by decide +kernel
theorem dX7_turn_155 : decode cX7_turn 155 = .ok (.getfield 47, 3) := by decide +kernel
theorem dX7_turn_158 : decode cX7_turn 158 = .ok (.getfield 248, 3) := by decide +kernel
theorem dX7_turn_161 : decode cX7_turn 161 = .ok (.iload 4, 2) := by decide +kernel
theorem dX7_turn_163 : decode cX7_turn 163 = .ok (.iaload, 1) := by decide +kernel
theorem dX7_turn_164 : decode cX7_turn 164 = .ok (.invokevirtual 82, 3) := by decide +kernel
theorem dX7_turn_167 : decode cX7_turn 167 = .ok (.ireturn, 1) := by decide +kernel
theorem dX7_gloves_0 : decode cX7_gloves 0 = .ok (.aload_n 0, 1) := by decide +kernel
theorem dX7_gloves_1 : decode cX7_gloves 1 = .ok (.getfield 58, 3) := by decide +kernel
theorem dX7_gloves_4 : decode cX7_gloves 4 = .ok (.getfield 122, 3) := by decide +kernel
theorem dX7_gloves_7 : decode cX7_gloves 7 = .ok (.ifCond .ne 6, 3) := by decide +kernel
theorem dX7_gloves_10 : decode cX7_gloves 10 = .ok (.ldc 143, 2) := by decide +kernel
theorem dX7_gloves_12 : decode cX7_gloves 12 = .ok (.ireturn, 1) := by decide +kernel
theorem dX7_gloves_13 : decode cX7_gloves 13 = .ok (.iload_n 1, 1) := by decide +kernel
theorem dX7_gloves_14 : decode cX7_gloves 14 = .ok (.invokestatic 69, 3) := by decide +kernel
theorem dX7_gloves_17 : decode cX7_gloves 17 = .ok (.ifCond .eq 23, 3) := by decide +kernel
theorem dX7_gloves_20 : decode cX7_gloves 20 = .ok (.iload_n 2, 1) := by decide +kernel
theorem dX7_gloves_21 : decode cX7_gloves 21 = .ok (.iconst 1, 1) := by decide +kernel
theorem dX7_gloves_22 : decode cX7_gloves 22 = .ok (.if_icmp .lt 18, 3) := by decide +kernel
theorem dX7_gloves_25 : decode cX7_gloves 25 = .ok (.iload_n 2, 1) := by decide +kernel
theorem dX7_gloves_26 : decode cX7_gloves 26 = .ok (.bipush 40, 2) := by decide +kernel
theorem dX7_gloves_28 : decode cX7_gloves 28 = .ok (.if_icmp .gt 12, 3) := by decide +kernel
theorem dX7_gloves_31 : decode cX7_gloves 31 = .ok (.iload_n 3, 1) := by decide +kernel
theorem dX7_gloves_32 : decode cX7_gloves 32 = .ok (.ifCond .lt 8, 3) := by decide +kernel
theorem dX7_gloves_35 : decode cX7_gloves 35 = .ok (.iload_n 3, 1) := by decide +kernel
theorem dX7_gloves_36 : decode cX7_gloves 36 = .ok (.iconst 1, 1) := by decide +kernel
theorem dX7_gloves_37 : decode cX7_gloves 37 = .ok (.if_icmp .le 6, 3) := by decide +kernel
theorem dX7_gloves_40 : decode cX7_gloves 40 = .ok (.ldc 73, 2) := by decide +kernel
theorem dX7_gloves_42 : decode cX7_gloves 42 = .ok (.ireturn, 1) := by decide +kernel
theorem dX7_gloves_43 : decode cX7_gloves 43 = .ok (.aload_n 0, 1) := by decide +kernel
theorem dX7_gloves_44 : decode cX7_gloves 44 = .ok (.getfield 10, 3) := by decide +kernel
theorem dX7_gloves_47 : decode cX7_gloves 47 = .ok (.iload_n 1, 1) := by decide +kernel
theorem dX7_gloves_48 : decode cX7_gloves 48 = .ok (.invokevirtual 85, 3) := by decide +kernel
theorem dX7_gloves_51 : decode cX7_gloves 51 = .ok (.ifCond .eq 9, 3) := by decide +kernel
theorem dX7_gloves_54 : decode cX7_gloves 54 = .ok (.aload_n 0, 1) := by decide +kernel
theorem dX7_gloves_55 : decode cX7_gloves 55 = .ok (.iconst 1, 1) := by decide +kernel
theorem dX7_gloves_56 : decode cX7_gloves 56 = .ok (.invokevirtual 74, 3) := by decide +kernel
theorem dX7_gloves_59 : decode cX7_gloves 59 = .ok (.ireturn, 1) := by decide +kernel
theorem dX7_gloves_60 : decode cX7_gloves 60 = .ok (.aload_n 0, 1) := by decide +kernel
theorem dX7_gloves_61 : decode cX7_gloves 61 = .ok (.getfield 10, 3) := by decide +kernel
theorem dX7_gloves_64 : decode cX7_gloves 64 = .ok (.iload_n 1, 1) := by decide +kernel
theorem dX7_gloves_65 : decode cX7_gloves 65 = .ok (.iconst 0, 1) := by decide +kernel
theorem dX7_gloves_66 : decode cX7_gloves 66 = .ok (.iload_n 2, 1) := by decide +kernel
theorem dX7_gloves_67 : decode cX7_gloves 67 = .ok (.invokevirtual 88, 3) := by decide +kernel
theorem dX7_gloves_70 : decode cX7_gloves 70 = .ok (.ifCond .ne 9, 3) := by decide +kernel
theorem dX7_gloves_73 : decode cX7_gloves 73 = .ok (.aload_n 0, 1) := by decide +kernel
theorem dX7_gloves_74 : decode cX7_gloves 74 = .ok (.iconst 2, 1) := by decide +kernel
theorem dX7_gloves_75 : decode cX7_gloves 75 = .ok (.invokevirtual 74, 3) := by decide +kernel
theorem dX7_gloves_78 : decode cX7_gloves 78 = .ok (.ireturn, 1) := by decide +kernel
theorem dX7_gloves_79 : decode cX7_gloves 79 = .ok (.aload_n 0, 1) := by decide +kernel
theorem dX7_gloves_80 : decode cX7_gloves 80 = .ok (.getfield 47, 3) := by decide +kernel
theorem dX7_gloves_83 : decode cX7_gloves 83 = .ok (.aload_n 0, 1) := by decide +kernel
theorem dX7_gloves_84 : decode cX7_gloves 84 = .ok (.getfield 10, 3) := by decide +kernel
theorem dX7_gloves_87 : decode cX7_gloves 87 = .ok (.iload_n 1, 1) := by decide +kernel
theorem dX7_gloves_88 : decode cX7_gloves 88 = .ok (.iload_n 2, 1) := by decide +kernel
theorem dX7_gloves_89 : decode cX7_gloves 89 = .ok (.aload_n 0, 1) := by decide +kernel
theorem dX7_gloves_90 : decode cX7_gloves 90 = .ok (.getfield 58, 3) := by decide +kernel
theorem dX7_gloves_93 : decode cX7_gloves 93 = .ok (.getfield 122, 3) := by decide +kernel
theorem dX7_gloves_96 : decode cX7_gloves 96 = .ok (.invokevirtual 251, 3) := by decide +kernel
theorem dX7_gloves_99 : decode cX7_gloves 99 = .ok (.ifCond .ne 6, 3) := by decide +kernel
theorem dX7_gloves_102 : decode cX7_gloves 102 = .ok (.ldc 73, 2) := by decide +kernel
theorem dX7_gloves_104 : decode cX7_gloves 104 = .ok (.ireturn, 1) := by decide +kernel
theorem dX7_gloves_105 : decode cX7_gloves 105 = .ok (.aload_n 0, 1) := by decide +kernel
theorem dX7_gloves_106 : decode cX7_gloves 106 = .ok (.iload_n 3, 1) := by decide +kernel
theorem dX7_gloves_107 : decode cX7_gloves 107 = .ok (.ifCond .ne 13, 3) := by decide +kernel
theorem dX7_gloves_110 : decode cX7_gloves 110 = .ok (.aload_n 0, 1) := by decide +kernel
theorem dX7_gloves_111 : decode cX7_gloves 111 = .ok (.getfield 47, 3) := by decide +kernel
theorem dX7_gloves_114 : decode cX7_gloves 114 = .ok (.getfield 254, 3) := by decide +kernel
theorem dX7_gloves_117 : decode cX7_gloves 117 = .ok (.goto 17, 3) := by decide +kernel
theorem dX7_gloves_120 : decode cX7_gloves 120 = .ok (.aload_n 0, 1) := by decide +kernel
theorem dX7_gloves_121 : decode cX7_gloves 121 = .ok (.getfield 47, 3) := by decide +kernel
theorem dX7_gloves_124 : decode cX7_gloves 124 = .ok (.aload_n 0, 1) := by decide +kernel
theorem dX7_gloves_125 : decode cX7_gloves 125 = .ok (.getfield 58, 3) := by decide +kernel
theorem dX7_gloves_128 : decode cX7_gloves 128 = .ok (.getfield 122, 3) := by decide +kernel
theorem dX7_gloves_131 : decode cX7_gloves 131 = .ok (.invokevirtual 257, 3) := by decide +kernel
theorem dX7_gloves_134 : decode cX7_gloves 134 = .ok (.invokevirtual 82, 3) := by decide +kernel
theorem dX7_gloves_137 : decode cX7_gloves 137 = .ok (.ireturn, 1) := by decide +kernel
theorem dX7_image_0 : decode cX7_image 0 = .ok (.iload_n 1, 1) := by decide +kernel
theorem dX7_image_1 : decode cX7_image 1 = .ok (.ifCond .lt 8, 3) := by decide +kernel
theorem dX7_image_4 : decode cX7_image 4 = .ok (.iload_n 1, 1) := by decide +kernel
theorem dX7_image_5 : decode cX7_image 5 = .ok (.iconst 2, 1) := by decide +kernel
theorem dX7_image_6 : decode cX7_image 6 = .ok (.if_icmp .lt 6, 3) := by decide +kernel
theorem dX7_image_9 : decode cX7_image 9 = .ok (.ldc 73, 2) := by decide +kernel
theorem dX7_image_11 : decode cX7_image 11 = .ok (.ireturn, 1) := by decide +kernel
theorem dX7_image_12 : decode cX7_image 12 = .ok (.aload_n 0, 1) := by decide +kernel
theorem dX7_image_13 : decode cX7_image 13 = .ok (.getfield 58, 3) := by decide +kernel
theorem dX7_image_16 : decode cX7_image 16 = .ok (.getfield 169, 3) := by decide +kernel
theorem dX7_image_19 : decode cX7_image 19 = .ok (.ifCond .ne 6, 3) := by decide +kernel
theorem dX7_image_22 : decode cX7_image 22 = .ok (.ldc 143, 2) := by decide +kernel
theorem dX7_image_24 : decode cX7_image 24 = .ok (.ireturn, 1) := by decide +kernel
theorem dX7_image_25 : decode cX7_image 25 = .ok (.aload_n 0, 1) := by decide +kernel
theorem dX7_image_26 : decode cX7_image 26 = .ok (.getfield 26, 3) := by decide +kernel
theorem dX7_image_29 : decode cX7_image 29 = .ok (.iload_n 1, 1) := by decide +kernel
theorem dX7_image_30 : decode cX7_image 30 = .ok (.aaload, 1) := by decide +kernel
theorem dX7_image_31 : decode cX7_image 31 = .ok (.aload_n 0, 1) := by decide +kernel
theorem dX7_image_32 : decode cX7_image 32 = .ok (.getfield 58, 3) := by decide +kernel
theorem dX7_image_35 : decode cX7_image 35 = .ok (.invokevirtual 260, 3) := by decide +kernel
theorem dX7_image_38 : decode cX7_image 38 = .ok (.iconst 1, 1) := by decide +kernel
theorem dX7_image_39 : decode cX7_image 39 = .ok (.ireturn, 1) := by decide +kernel
theorem dX7_restore_0 : decode cX7_restore 0 = .ok (.iload_n 1, 1) := by decide +kernel
theorem dX7_restore_1 : decode cX7_restore 1 = .ok (.ifCond .lt 8, 3) := by decide +kernel
theorem dX7_restore_4 : decode cX7_restore 4 = .ok (.iload_n 1, 1) := by decide +kernel
theorem dX7_restore_5 : decode cX7_restore 5 = .ok (.iconst 2, 1) := by decide +kernel
theorem dX7_restore_6 : decode cX7_restore 6 = .ok (.if_icmp .lt 6, 3) := by decide +kernel
theorem dX7_restore_9 : decode cX7_restore 9 = .ok (.ldc 73, 2) := by decide +kernel
theorem dX7_restore_11 : decode cX7_restore 11 = .ok (.ireturn, 1) := by decide +kernel
theorem dX7_restore_12 : decode cX7_restore 12 = .ok (.aload_n 0, 1) := by decide +kernel
theorem dX7_restore_13 : decode cX7_restore 13 = .ok (.getfield 26, 3) := by decide +kernel
theorem dX7_restore_16 : decode cX7_restore 16 = .ok (.iload_n 1, 1) := by decide +kernel
theorem dX7_restore_17 : decode cX7_restore 17 = .ok (.aaload, 1) := by decide +kernel
theorem dX7_restore_18 : decode cX7_restore 18 = .ok (.getfield 169, 3) := by decide +kernel
theorem dX7_restore_21 : decode cX7_restore 21 = .ok (.ifCond .ne 6, 3) := by decide +kernel
theorem dX7_restore_24 : decode cX7_restore 24 = .ok (.ldc 143, 2) := by decide +kernel
theorem dX7_restore_26 : decode cX7_restore 26 = .ok (.ireturn, 1) := by decide +kernel
theorem dX7_restore_27 : decode cX7_restore 27 = .ok (.aload_n 0, 1) := by decide +kernel
theorem dX7_restore_28 : decode cX7_restore 28 = .ok (.getfield 58, 3) := by decide +kernel
theorem dX7_restore_31 : decode cX7_restore 31 = .ok (.aload_n 0, 1) := by decide +kernel
theorem dX7_restore_32 : decode cX7_restore 32 = .ok (.getfield 26, 3) := by decide +kernel
theorem dX7_restore_35 : decode cX7_restore 35 = .ok (.iload_n 1, 1) := by decide +kernel
theorem dX7_restore_36 : decode cX7_restore 36 = .ok (.aaload, 1) := by decide +kernel
theorem dX7_restore_37 : decode cX7_restore 37 = .ok (.invokevirtual 260, 3) := by decide +kernel
theorem dX7_restore_40 : decode cX7_restore 40 = .ok (.aload_n 0, 1) := by decide +kernel
theorem dX7_restore_41 : decode cX7_restore 41 = .ok (.invokevirtual 119, 3) := by decide +kernel
theorem dX7_restore_44 : decode cX7_restore 44 = .ok (.iconst 1, 1) := by decide +kernel
theorem dX7_restore_45 : decode cX7_restore 45 = .ok (.ireturn, 1) := by decide +kernel
theorem dX7_kind_0 : decode cX7_kind 0 = .ok (.aload_n 0, 1) := by decide +kernel
theorem dX7_kind_1 : decode cX7_kind 1 = .ok (.getfield 58, 3) := by decide +kernel
theorem dX7_kind_4 : decode cX7_kind 4 = .ok (.iload_n 1, 1) := by decide +kernel
theorem dX7_kind_5 : decode cX7_kind 5 = .ok (.invokevirtual 128, 3) := by decide +kernel
theorem dX7_kind_8 : decode cX7_kind 8 = .ok (.ifCond .eq 15, 3) := by decide +kernel
theorem dX7_kind_11 : decode cX7_kind 11 = .ok (.aload_n 0, 1) := by decide +kernel
theorem dX7_kind_12 : decode cX7_kind 12 = .ok (.getfield 58, 3) := by decide +kernel
theorem dX7_kind_15 : decode cX7_kind 15 = .ok (.getfield 263, 3) := by decide +kernel
theorem dX7_kind_18 : decode cX7_kind 18 = .ok (.iload_n 1, 1) := by decide +kernel
theorem dX7_kind_19 : decode cX7_kind 19 = .ok (.iaload, 1) := by decide +kernel
theorem dX7_kind_20 : decode cX7_kind 20 = .ok (.goto 5, 3) := by decide +kernel
theorem dX7_kind_23 : decode cX7_kind 23 = .ok (.ldc 73, 2) := by decide +kernel
theorem dX7_kind_25 : decode cX7_kind 25 = .ok (.ireturn, 1) := by decide +kernel
theorem dX7_as_0 : decode cX7_as 0 = .ok (.aload_n 0, 1) := by decide +kernel
theorem dX7_as_1 : decode cX7_as 1 = .ok (.getfield 58, 3) := by decide +kernel
theorem dX7_as_4 : decode cX7_as 4 = .ok (.iload_n 1, 1) := by decide +kernel
theorem dX7_as_5 : decode cX7_as 5 = .ok (.invokevirtual 128, 3) := by decide +kernel
theorem dX7_as_8 : decode cX7_as 8 = .ok (.ifCond .eq 12, 3) := by decide +kernel
theorem dX7_as_11 : decode cX7_as 11 = .ok (.iload_n 2, 1) := by decide +kernel
theorem dX7_as_12 : decode cX7_as 12 = .ok (.ifCond .lt 8, 3) := by decide +kernel
theorem dX7_as_15 : decode cX7_as 15 = .ok (.iload_n 2, 1) := by decide +kernel
theorem dX7_as_16 : decode cX7_as 16 = .ok (.iconst 5, 1) := by decide +kernel
theorem dX7_as_17 : decode cX7_as 17 = .ok (.if_icmp .le 6, 3) := by decide +kernel
theorem dX7_as_20 : decode cX7_as 20 = .ok (.ldc 73, 2) := by decide +kernel
theorem dX7_as_22 : decode cX7_as 22 = .ok (.ireturn, 1) := by decide +kernel
theorem dX7_as_23 : decode cX7_as 23 = .ok (.aload_n 0, 1) := by decide +kernel
theorem dX7_as_24 : decode cX7_as 24 = .ok (.getfield 58, 3) := by decide +kernel
theorem dX7_as_27 : decode cX7_as 27 = .ok (.getfield 263, 3) := by decide +kernel
theorem dX7_as_30 : decode cX7_as 30 = .ok (.iload_n 1, 1) := by decide +kernel
theorem dX7_as_31 : decode cX7_as 31 = .ok (.iaload, 1) := by decide +kernel
theorem dX7_as_32 : decode cX7_as 32 = .ok (.iload_n 2, 1) := by decide +kernel
theorem dX7_as_33 : decode cX7_as 33 = .ok (.invokestatic 266, 3) := by decide +kernel
theorem dX7_as_36 : decode cX7_as 36 = .ok (.ifCond .eq 11, 3) := by decide +kernel
theorem dX7_as_39 : decode cX7_as 39 = .ok (.aload_n 0, 1) := by decide +kernel
theorem dX7_as_40 : decode cX7_as 40 = .ok (.iload_n 1, 1) := by decide +kernel
theorem dX7_as_41 : decode cX7_as 41 = .ok (.invokevirtual 82, 3) := by decide +kernel
theorem dX7_as_44 : decode cX7_as 44 = .ok (.goto 8, 3) := by decide +kernel
theorem dX7_as_47 : decode cX7_as 47 = .ok (.aload_n 0, 1) := by decide +kernel
theorem dX7_as_48 : decode cX7_as 48 = .ok (.iconst 3, 1) := by decide +kernel
theorem dX7_as_49 : decode cX7_as 49 = .ok (.invokevirtual 74, 3) := by decide +kernel
theorem dX7_as_52 : decode cX7_as 52 = .ok (.ireturn, 1) := by decide +kernel
theorem dX7_ask_0 : decode cX7_ask 0 = .ok (.aload_n 0, 1) := by decide +kernel
theorem dX7_ask_1 : decode cX7_ask 1 = .ok (.getfield 58, 3) := by decide +kernel
theorem dX7_ask_4 : decode cX7_ask 4 = .ok (.iload_n 1, 1) := by decide +kernel
theorem dX7_ask_5 : decode cX7_ask 5 = .ok (.invokevirtual 128, 3) := by decide +kernel
theorem dX7_ask_8 : decode cX7_ask 8 = .ok (.ifCond .eq 12, 3) := by decide +kernel
theorem dX7_ask_11 : decode cX7_ask 11 = .ok (.iload_n 2, 1) := by decide +kernel
theorem dX7_ask_12 : decode cX7_ask 12 = .ok (.ifCond .lt 8, 3) := by decide +kernel
theorem dX7_ask_15 : decode cX7_ask 15 = .ok (.iload_n 2, 1) := by decide +kernel
theorem dX7_ask_16 : decode cX7_ask 16 = .ok (.iconst 1, 1) := by decide +kernel
theorem dX7_ask_17 : decode cX7_ask 17 = .ok (.if_icmp .le 6, 3) := by decide +kernel
theorem dX7_ask_20 : decode cX7_ask 20 = .ok (.ldc 73, 2) := by decide +kernel
theorem dX7_ask_22 : decode cX7_ask 22 = .ok (.ireturn, 1) := by decide +kernel
theorem dX7_ask_23 : decode cX7_ask 23 = .ok (.aload_n 0, 1) := by decide +kernel
theorem dX7_ask_24 : decode cX7_ask 24 = .ok (.getfield 54, 3) := by decide +kernel
theorem dX7_ask_27 : decode cX7_ask 27 = .ok (.invokevirtual 269, 3) := by decide +kernel
theorem dX7_ask_30 : decode cX7_ask 30 = .ok (.aload_n 0, 1) := by decide +kernel
theorem dX7_ask_31 : decode cX7_ask 31 = .ok (.getfield 54, 3) := by decide +kernel
theorem dX7_ask_34 : decode cX7_ask 34 = .ok (.aload_n 0, 1) := by decide +kernel
theorem dX7_ask_35 : decode cX7_ask 35 = .ok (.getfield 58, 3) := by decide +kernel
theorem dX7_ask_38 : decode cX7_ask 38 = .ok (.iload_n 1, 1) := by decide +kernel
theorem dX7_ask_39 : decode cX7_ask 39 = .ok (.iload_n 2, 1) := by decide +kernel
theorem dX7_ask_40 : decode cX7_ask 40 = .ok (.iconst 0, 1) := by decide +kernel
theorem dX7_ask_41 : decode cX7_ask 41 = .ok (.invokevirtual 272, 3) := by decide +kernel
theorem dX7_ask_44 : decode cX7_ask 44 = .ok (.ireturn, 1) := by decide +kernel
theorem dX7_trace_0 : decode cX7_trace 0 = .ok (.iload_n 1, 1) := by decide +kernel
theorem dX7_trace_1 : decode cX7_trace 1 = .ok (.ifCond .lt 26, 3) := by decide +kernel
theorem dX7_trace_4 : decode cX7_trace 4 = .ok (.iload_n 1, 1) := by decide +kernel
theorem dX7_trace_5 : decode cX7_trace 5 = .ok (.aload_n 0, 1) := by decide +kernel
theorem dX7_trace_6 : decode cX7_trace 6 = .ok (.getfield 54, 3) := by decide +kernel
theorem dX7_trace_9 : decode cX7_trace 9 = .ok (.getfield 275, 3) := by decide +kernel
theorem dX7_trace_12 : decode cX7_trace 12 = .ok (.if_icmp .ge 15, 3) := by decide +kernel
theorem dX7_trace_15 : decode cX7_trace 15 = .ok (.aload_n 0, 1) := by decide +kernel
theorem dX7_trace_16 : decode cX7_trace 16 = .ok (.getfield 54, 3) := by decide +kernel
theorem dX7_trace_19 : decode cX7_trace 19 = .ok (.getfield 278, 3) := by decide +kernel
theorem dX7_trace_22 : decode cX7_trace 22 = .ok (.iload_n 1, 1) := by decide +kernel
theorem dX7_trace_23 : decode cX7_trace 23 = .ok (.iaload, 1) := by decide +kernel
theorem dX7_trace_24 : decode cX7_trace 24 = .ok (.goto 5, 3) := by decide +kernel
theorem dX7_trace_27 : decode cX7_trace 27 = .ok (.ldc 180, 2) := by decide +kernel
theorem dX7_trace_29 : decode cX7_trace 29 = .ok (.ireturn, 1) := by decide +kernel
theorem dX7_count_0 : decode cX7_count 0 = .ok (.iload_n 1, 1) := by decide +kernel
theorem dX7_count_1 : decode cX7_count 1 = .ok (.tableswitch 99 0 6 #[43, 51, 59, 67, 75, 83, 91], 43) := by decide +kernel
theorem dX7_count_44 : decode cX7_count 44 = .ok (.aload_n 0, 1) := by decide +kernel
theorem dX7_count_45 : decode cX7_count 45 = .ok (.getfield 10, 3) := by decide +kernel
theorem dX7_count_48 : decode cX7_count 48 = .ok (.invokevirtual 281, 3) := by decide +kernel
theorem dX7_count_51 : decode cX7_count 51 = .ok (.ireturn, 1) := by decide +kernel
theorem dX7_count_52 : decode cX7_count 52 = .ok (.aload_n 0, 1) := by decide +kernel
theorem dX7_count_53 : decode cX7_count 53 = .ok (.getfield 58, 3) := by decide +kernel
theorem dX7_count_56 : decode cX7_count 56 = .ok (.getfield 122, 3) := by decide +kernel
theorem dX7_count_59 : decode cX7_count 59 = .ok (.ireturn, 1) := by decide +kernel
theorem dX7_count_60 : decode cX7_count 60 = .ok (.aload_n 0, 1) := by decide +kernel
theorem dX7_count_61 : decode cX7_count 61 = .ok (.getfield 58, 3) := by decide +kernel
theorem dX7_count_64 : decode cX7_count 64 = .ok (.getfield 225, 3) := by decide +kernel
theorem dX7_count_67 : decode cX7_count 67 = .ok (.ireturn, 1) := by decide +kernel
theorem dX7_count_68 : decode cX7_count 68 = .ok (.aload_n 0, 1) := by decide +kernel
theorem dX7_count_69 : decode cX7_count 69 = .ok (.getfield 58, 3) := by decide +kernel
theorem dX7_count_72 : decode cX7_count 72 = .ok (.getfield 284, 3) := by decide +kernel
theorem dX7_count_75 : decode cX7_count 75 = .ok (.ireturn, 1) := by decide +kernel
theorem dX7_count_76 : decode cX7_count 76 = .ok (.aload_n 0, 1) := by decide +kernel
theorem dX7_count_77 : decode cX7_count 77 = .ok (.getfield 33, 3) := by decide +kernel
theorem dX7_count_80 : decode cX7_count 80 = .ok (.getfield 140, 3) := by decide +kernel
theorem dX7_count_83 : decode cX7_count 83 = .ok (.ireturn, 1) := by decide +kernel
theorem dX7_count_84 : decode cX7_count 84 = .ok (.aload_n 0, 1) := by decide +kernel
theorem dX7_count_85 : decode cX7_count 85 = .ok (.getfield 58, 3) := by decide +kernel
theorem dX7_count_88 : decode cX7_count 88 = .ok (.invokevirtual 287, 3) := by decide +kernel
theorem dX7_count_91 : decode cX7_count 91 = .ok (.ireturn, 1) := by decide +kernel
theorem dX7_count_92 : decode cX7_count 92 = .ok (.aload_n 0, 1) := by decide +kernel
theorem dX7_count_93 : decode cX7_count 93 = .ok (.getfield 19, 3) := by decide +kernel
theorem dX7_count_96 : decode cX7_count 96 = .ok (.getfield 290, 3) := by decide +kernel
theorem dX7_count_99 : decode cX7_count 99 = .ok (.ireturn, 1) := by decide +kernel
theorem dX7_count_100 : decode cX7_count 100 = .ok (.ldc 73, 2) := by decide +kernel
theorem dX7_count_102 : decode cX7_count 102 = .ok (.ireturn, 1) := by decide +kernel
theorem dX7_status_0 : decode cX7_status 0 = .ok (.aload_n 0, 1) := by decide +kernel
theorem dX7_status_1 : decode cX7_status 1 = .ok (.getfield 65, 3) := by decide +kernel
theorem dX7_status_4 : decode cX7_status 4 = .ok (.ireturn, 1) := by decide +kernel
theorem dX7_found_0 : decode cX7_found 0 = .ok (.aload_n 0, 1) := by decide +kernel
theorem dX7_found_1 : decode cX7_found 1 = .ok (.iload_n 1, 1) := by decide +kernel
theorem dX7_found_2 : decode cX7_found 2 = .ok (.putfield 65, 3) := by decide +kernel
theorem dX7_found_5 : decode cX7_found 5 = .ok (.ldc_w 293, 3) := by decide +kernel
theorem dX7_found_8 : decode cX7_found 8 = .ok (.iload_n 1, 1) := by decide +kernel
theorem dX7_found_9 : decode cX7_found 9 = .ok (.isub, 1) := by decide +kernel
theorem dX7_found_10 : decode cX7_found 10 = .ok (.ireturn, 1) := by decide +kernel
theorem dX7_fine_0 : decode cX7_fine 0 = .ok (.aload_n 0, 1) := by decide +kernel
theorem dX7_fine_1 : decode cX7_fine 1 = .ok (.iconst 0, 1) := by decide +kernel
theorem dX7_fine_2 : decode cX7_fine 2 = .ok (.putfield 65, 3) := by decide +kernel
theorem dX7_fine_5 : decode cX7_fine 5 = .ok (.iload_n 1, 1) := by decide +kernel
theorem dX7_fine_6 : decode cX7_fine 6 = .ok (.ireturn, 1) := by decide +kernel
theorem dX7_beginAnew_0 : decode cX7_beginAnew 0 = .ok (.aload_n 0, 1) := by decide +kernel
theorem dX7_beginAnew_1 : decode cX7_beginAnew 1 = .ok (.getfield 33, 3) := by decide +kernel
theorem dX7_beginAnew_4 : decode cX7_beginAnew 4 = .ok (.invokevirtual 294, 3) := by decide +kernel
theorem dX7_beginAnew_7 : decode cX7_beginAnew 7 = .ok (.aload_n 0, 1) := by decide +kernel
theorem dX7_beginAnew_8 : decode cX7_beginAnew 8 = .ok (.getfield 40, 3) := by decide +kernel
theorem dX7_beginAnew_11 : decode cX7_beginAnew 11 = .ok (.invokevirtual 295, 3) := by decide +kernel
theorem dX7_beginAnew_14 : decode cX7_beginAnew 14 = .ok (.return_, 1) := by decide +kernel
theorem dX7_isRow_0 : decode cX7_isRow 0 = .ok (.iload_n 0, 1) := by decide +kernel
theorem dX7_isRow_1 : decode cX7_isRow 1 = .ok (.ifCond .lt 13, 3) := by decide +kernel
theorem dX7_isRow_4 : decode cX7_isRow 4 = .ok (.iload_n 0, 1) := by decide +kernel
theorem dX7_isRow_5 : decode cX7_isRow 5 = .ok (.bipush 8, 2) := by decide +kernel
theorem dX7_isRow_7 : decode cX7_isRow 7 = .ok (.if_icmp .ge 7, 3) := by decide +kernel
theorem dX7_isRow_10 : decode cX7_isRow 10 = .ok (.iconst 1, 1) := by decide +kernel
theorem dX7_isRow_11 : decode cX7_isRow 11 = .ok (.goto 4, 3) := by decide +kernel
theorem dX7_isRow_14 : decode cX7_isRow 14 = .ok (.iconst 0, 1) := by decide +kernel
theorem dX7_isRow_15 : decode cX7_isRow 15 = .ok (.ireturn, 1) := by decide +kernel
theorem dX7_isMinute_0 : decode cX7_isMinute 0 = .ok (.iload_n 0, 1) := by decide +kernel
theorem dX7_isMinute_1 : decode cX7_isMinute 1 = .ok (.ifCond .lt 14, 3) := by decide +kernel
theorem dX7_isMinute_4 : decode cX7_isMinute 4 = .ok (.iload_n 0, 1) := by decide +kernel
theorem dX7_isMinute_5 : decode cX7_isMinute 5 = .ok (.sipush 600, 3) := by decide +kernel
theorem dX7_isMinute_8 : decode cX7_isMinute 8 = .ok (.if_icmp .gt 7, 3) := by decide +kernel
theorem dX7_isMinute_11 : decode cX7_isMinute 11 = .ok (.iconst 1, 1) := by decide +kernel
theorem dX7_isMinute_12 : decode cX7_isMinute 12 = .ok (.goto 4, 3) := by decide +kernel
theorem dX7_isMinute_15 : decode cX7_isMinute 15 = .ok (.iconst 0, 1) := by decide +kernel
theorem dX7_isMinute_16 : decode cX7_isMinute 16 = .ok (.ireturn, 1) := by decide +kernel
theorem dX7_hasBit_0 : decode cX7_hasBit 0 = .ok (.iload_n 0, 1) := by decide +kernel
theorem dX7_hasBit_1 : decode cX7_hasBit 1 = .ok (.iload_n 1, 1) := by decide +kernel
theorem dX7_hasBit_2 : decode cX7_hasBit 2 = .ok (.ishr, 1) := by decide +kernel
theorem dX7_hasBit_3 : decode cX7_hasBit 3 = .ok (.iconst 1, 1) := by decide +kernel
theorem dX7_hasBit_4 : decode cX7_hasBit 4 = .ok (.iand, 1) := by decide +kernel
theorem dX7_hasBit_5 : decode cX7_hasBit 5 = .ok (.ifCond .eq 7, 3) := by decide +kernel
theorem dX7_hasBit_8 : decode cX7_hasBit 8 = .ok (.iconst 1, 1) := by decide +kernel
theorem dX7_hasBit_9 : decode cX7_hasBit 9 = .ok (.goto 4, 3) := by decide +kernel
theorem dX7_hasBit_12 : decode cX7_hasBit 12 = .ok (.iconst 0, 1) := by decide +kernel
theorem dX7_hasBit_13 : decode cX7_hasBit 13 = .ok (.ireturn, 1) := by decide +kernel
theorem dX7_isOfKind_0 : decode cX7_isOfKind 0 = .ok (.iload_n 0, 1) := by decide +kernel
theorem dX7_isOfKind_1 : decode cX7_isOfKind 1 = .ok (.istore_n 2, 1) := by decide +kernel
theorem dX7_isOfKind_2 : decode cX7_isOfKind 2 = .ok (.iconst 0, 1) := by decide +kernel
theorem dX7_isOfKind_3 : decode cX7_isOfKind 3 = .ok (.istore_n 3, 1) := by decide +kernel
theorem dX7_isOfKind_4 : decode cX7_isOfKind 4 = .ok (.iload_n 3, 1) := by decide +kernel
theorem dX7_isOfKind_5 : decode cX7_isOfKind 5 = .ok (.getstatic 296, 3) := by decide +kernel
theorem dX7_isOfKind_8 : decode cX7_isOfKind 8 = .ok (.arraylength, 1) := by decide +kernel
theorem dX7_isOfKind_9 : decode cX7_isOfKind 9 = .ok (.if_icmp .ge 34, 3) := by decide +kernel
theorem dX7_isOfKind_12 : decode cX7_isOfKind 12 = .ok (.iload_n 2, 1) := by decide +kernel
theorem dX7_isOfKind_13 : decode cX7_isOfKind 13 = .ok (.ifCond .lt 30, 3) := by decide +kernel
theorem dX7_isOfKind_16 : decode cX7_isOfKind 16 = .ok (.iload_n 2, 1) := by decide +kernel
theorem dX7_isOfKind_17 : decode cX7_isOfKind 17 = .ok (.getstatic 296, 3) := by decide +kernel
theorem dX7_isOfKind_20 : decode cX7_isOfKind 20 = .ok (.arraylength, 1) := by decide +kernel
theorem dX7_isOfKind_21 : decode cX7_isOfKind 21 = .ok (.if_icmp .ge 22, 3) := by decide +kernel
theorem dX7_isOfKind_24 : decode cX7_isOfKind 24 = .ok (.iload_n 2, 1) := by decide +kernel
theorem dX7_isOfKind_25 : decode cX7_isOfKind 25 = .ok (.iload_n 1, 1) := by decide +kernel
theorem dX7_isOfKind_26 : decode cX7_isOfKind 26 = .ok (.if_icmp .ne 5, 3) := by decide +kernel
theorem dX7_isOfKind_29 : decode cX7_isOfKind 29 = .ok (.iconst 1, 1) := by decide +kernel
theorem dX7_isOfKind_30 : decode cX7_isOfKind 30 = .ok (.ireturn, 1) := by decide +kernel
theorem dX7_isOfKind_31 : decode cX7_isOfKind 31 = .ok (.getstatic 296, 3) := by decide +kernel
theorem dX7_isOfKind_34 : decode cX7_isOfKind 34 = .ok (.iload_n 2, 1) := by decide +kernel
theorem dX7_isOfKind_35 : decode cX7_isOfKind 35 = .ok (.iaload, 1) := by decide +kernel
theorem dX7_isOfKind_36 : decode cX7_isOfKind 36 = .ok (.istore_n 2, 1) := by decide +kernel
theorem dX7_isOfKind_37 : decode cX7_isOfKind 37 = .ok (.iinc 3 1, 3) := by decide +kernel
theorem dX7_isOfKind_40 : decode cX7_isOfKind 40 = .ok (.goto (-36), 3) := by decide +kernel
theorem dX7_isOfKind_43 : decode cX7_isOfKind 43 = .ok (.iconst 0, 1) := by decide +kernel
theorem dX7_isOfKind_44 : decode cX7_isOfKind 44 = .ok (.ireturn, 1) := by decide +kernel
theorem dX7_commonDivisor_0 : decode cX7_commonDivisor 0 = .ok (.iload_n 1, 1) := by decide +kernel
theorem dX7_commonDivisor_1 : decode cX7_commonDivisor 1 = .ok (.istore_n 2, 1) := by decide +kernel
theorem dX7_commonDivisor_2 : decode cX7_commonDivisor 2 = .ok (.iload_n 2, 1) := by decide +kernel
theorem dX7_commonDivisor_3 : decode cX7_commonDivisor 3 = .ok (.iconst 1, 1) := by decide +kernel
theorem dX7_commonDivisor_4 : decode cX7_commonDivisor 4 = .ok (.if_icmp .le 23, 3) := by decide +kernel
theorem dX7_commonDivisor_7 : decode cX7_commonDivisor 7 = .ok (.iload_n 0, 1) := by decide +kernel
theorem dX7_commonDivisor_8 : decode cX7_commonDivisor 8 = .ok (.iload_n 2, 1) := by decide +kernel
theorem dX7_commonDivisor_9 : decode cX7_commonDivisor 9 = .ok (.irem, 1) := by decide +kernel
theorem dX7_commonDivisor_10 : decode cX7_commonDivisor 10 = .ok (.ifCond .ne 11, 3) := by decide +kernel
theorem dX7_commonDivisor_13 : decode cX7_commonDivisor 13 = .ok (.iload_n 1, 1) := by decide +kernel
theorem dX7_commonDivisor_14 : decode cX7_commonDivisor 14 = .ok (.iload_n 2, 1) := by decide +kernel
theorem dX7_commonDivisor_15 : decode cX7_commonDivisor 15 = .ok (.irem, 1) := by decide +kernel
theorem dX7_commonDivisor_16 : decode cX7_commonDivisor 16 = .ok (.ifCond .ne 5, 3) := by decide +kernel
theorem dX7_commonDivisor_19 : decode cX7_commonDivisor 19 = .ok (.iload_n 2, 1) := by decide +kernel
theorem dX7_commonDivisor_20 : decode cX7_commonDivisor 20 = .ok (.ireturn, 1) := by decide +kernel
theorem dX7_commonDivisor_21 : decode cX7_commonDivisor 21 = .ok (.iinc 2 (-1), 3) := by decide +kernel
theorem dX7_commonDivisor_24 : decode cX7_commonDivisor 24 = .ok (.goto (-22), 3) := by decide +kernel
theorem dX7_commonDivisor_27 : decode cX7_commonDivisor 27 = .ok (.iconst 1, 1) := by decide +kernel
theorem dX7_commonDivisor_28 : decode cX7_commonDivisor 28 = .ok (.ireturn, 1) := by decide +kernel
